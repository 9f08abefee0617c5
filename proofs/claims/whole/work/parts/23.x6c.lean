theorem dX8_locked_15 : decode cX8_locked 15 = .ok (.invokevirtual 124, 3) := by decide +kernel
theorem dX8_locked_18 : decode cX8_locked 18 = .ok (.aload_n 0, 1) := by decide +kernel
theorem dX8_locked_19 : decode cX8_locked 19 = .ok (.invokevirtual 211, 3) := by decide +kernel
theorem dX8_locked_22 : decode cX8_locked 22 = .ok (.ifCond .ne 5, 3) := by decide +kernel
theorem dX8_locked_25 : decode cX8_locked 25 = .ok (.iconst (-1), 1) := by decide +kernel
theorem dX8_locked_26 : decode cX8_locked 26 = .ok (.ireturn, 1) := by decide +kernel
theorem dX8_locked_27 : decode cX8_locked 27 = .ok (.aload_n 0, 1) := by decide +kernel
theorem dX8_locked_28 : decode cX8_locked 28 = .ok (.invokevirtual 215, 3) := by decide +kernel
theorem dX8_locked_31 : decode cX8_locked 31 = .ok (.aload_n 0, 1) := by decide +kernel
theorem dX8_locked_32 : decode cX8_locked 32 = .ok (.getfield 50, 3) := by decide +kernel
theorem dX8_locked_35 : decode cX8_locked 35 = .ok (.iload_n 1, 1) := by decide +kernel
theorem dX8_locked_36 : decode cX8_locked 36 = .ok (.iaload, 1) := by decide +kernel
theorem dX8_locked_37 : decode cX8_locked 37 = .ok (.ifCond .le 22, 3) := by decide +kernel
theorem dX8_locked_40 : decode cX8_locked 40 = .ok (.aload_n 0, 1) := by decide +kernel
theorem dX8_locked_41 : decode cX8_locked 41 = .ok (.getfield 50, 3) := by decide +kernel
theorem dX8_locked_44 : decode cX8_locked 44 = .ok (.iload_n 1, 1) := by decide +kernel
theorem dX8_locked_45 : decode cX8_locked 45 = .ok (.iaload, 1) := by decide +kernel
theorem dX8_locked_46 : decode cX8_locked 46 = .ok (.aload_n 0, 1) := by decide +kernel
theorem dX8_locked_47 : decode cX8_locked 47 = .ok (.getfield 50, 3) := by decide +kernel
theorem dX8_locked_50 : decode cX8_locked 50 = .ok (.iload_n 2, 1) := by decide +kernel
theorem dX8_locked_51 : decode cX8_locked 51 = .ok (.iaload, 1) := by decide +kernel
theorem dX8_locked_52 : decode cX8_locked 52 = .ok (.if_icmp .ne 7, 3) := by decide +kernel
theorem dX8_locked_55 : decode cX8_locked 55 = .ok (.iconst 1, 1) := by decide +kernel
theorem dX8_locked_56 : decode cX8_locked 56 = .ok (.goto 4, 3) := by decide +kernel
theorem dX8_locked_59 : decode cX8_locked 59 = .ok (.iconst 0, 1) := by decide +kernel
theorem dX8_locked_60 : decode cX8_locked 60 = .ok (.ireturn, 1) := by decide +kernel
set_option maxRecDepth 20000 in
theorem ggX8_locks_X8_in : GoodIn wsX8_locks wsX8_in := goodIn_r _ [7] (by decide +kernel) (by decide +kernel)
set_option maxRecDepth 20000 in
theorem gX8_locks_X8_in : GoodIn wsX8_locks (va_wsS RX8 87 yX8_in wsX8_in) := goodIn_app (goodIn_of _ (by decide +kernel)) ggX8_locks_X8_in
set_option maxRecDepth 20000 in
theorem ggX8_locks_X8_noTwo : GoodIn wsX8_locks wsX8_noTwo := goodIn_ca (goodIn_r _ [11, 3, 12, 13, 6, 14, 15, 4, 5, 7, 16, 17, 18, 19, 20, 21, 109, 110, 111, 112, 113, 114, 115, 116, 117, 118, 119, 120, 121, 122, 123, 124, 125, 126, 127, 128, 129, 130, 131, 132, 133, 134, 135, 136, 137] (by decide +kernel) (by decide +kernel)) (goodIn_sub (fun _ h => List.mem_cons_of_mem _ (List.mem_append_left _ (List.mem_append_right _ h))) (by decide +kernel))
set_option maxRecDepth 20000 in
theorem gX8_locks_X8_noTwo : GoodIn wsX8_locks (wsV RX8 236 RX8 yX8_noTwo wsX8_noTwo) := goodIn_app (goodIn_of _ (by decide +kernel)) ggX8_locks_X8_noTwo
set_option maxRecDepth 20000 in
theorem ggX8_locks_X8_locked : GoodIn wsX8_locks wsX8_locked := goodIn_ca (goodIn_ca (goodIn_r _ [25, 26, 27, 28, 29, 30, 31, 32, 33, 34, 35, 36, 37, 38, 39, 40, 41, 42, 43, 44, 45, 46, 47, 48, 49, 50, 51, 52, 53, 54, 6, 55, 56, 57, 58, 59, 60, 61, 62, 63, 64, 65, 66, 67, 68, 69, 70, 71, 72, 73, 74, 75, 76, 77, 78, 79, 80, 81, 82, 83, 84, 85, 86, 87, 88, 89, 90, 91, 92, 93, 94, 95, 96, 97, 98, 99, 100, 101, 102, 103, 104, 105, 106, 107, 108, 109, 110, 111, 112, 113, 114, 115, 116, 117, 118, 119, 120, 121, 122, 123, 124, 125, 126, 127, 128, 129, 130, 131, 132, 133, 134, 135, 136, 137, 138, 139, 140, 141, 142, 143, 144] (by decide +kernel) (by decide +kernel)) (goodIn_sub (fun _ h => List.mem_cons_of_mem _ (List.mem_append_left _ (List.mem_append_right _ h))) (by decide +kernel))) (goodIn_sub (fun _ h => List.mem_cons_of_mem _ (List.mem_append_right _ h)) (by decide +kernel))
set_option maxRecDepth 20000 in
theorem gX8_locks_X8_locked : GoodIn wsX8_locks (wsV RX8 243 RX8 yX8_locked wsX8_locked) := goodIn_app (goodIn_of _ (by decide +kernel)) ggX8_locks_X8_locked
theorem dX8_locks_0 : decode cX8_locks 0 = .ok (.aload_n 0, 1) := by decide +kernel
theorem dX8_locks_1 : decode cX8_locks 1 = .ok (.iload_n 1, 1) := by decide +kernel
theorem dX8_locks_2 : decode cX8_locks 2 = .ok (.iload_n 2, 1) := by decide +kernel
theorem dX8_locks_3 : decode cX8_locks 3 = .ok (.iload_n 3, 1) := by decide +kernel
theorem dX8_locks_4 : decode cX8_locks 4 = .ok (.i2l, 1) := by decide +kernel
theorem dX8_locks_5 : decode cX8_locks 5 = .ok (.ldc2_w 91, 3) := by decide +kernel
theorem dX8_locks_8 : decode cX8_locks 8 = .ok (.ldc2_w 93, 3) := by decide +kernel
theorem dX8_locks_11 : decode cX8_locks 11 = .ok (.invokestatic 87, 3) := by decide +kernel
theorem dX8_locks_14 : decode cX8_locks 14 = .ok (.invokevirtual 236, 3) := by decide +kernel
theorem dX8_locks_17 : decode cX8_locks 17 = .ok (.ifCond .eq 5, 3) := by decide +kernel
theorem dX8_locks_20 : decode cX8_locks 20 = .ok (.iconst 0, 1) := by decide +kernel
theorem dX8_locks_21 : decode cX8_locks 21 = .ok (.ireturn, 1) := by decide +kernel
theorem dX8_locks_22 : decode cX8_locks 22 = .ok (.aload_n 0, 1) := by decide +kernel
theorem dX8_locks_23 : decode cX8_locks 23 = .ok (.iload_n 1, 1) := by decide +kernel
theorem dX8_locks_24 : decode cX8_locks 24 = .ok (.iload_n 2, 1) := by decide +kernel
theorem dX8_locks_25 : decode cX8_locks 25 = .ok (.iload_n 3, 1) := by decide +kernel
theorem dX8_locks_26 : decode cX8_locks 26 = .ok (.invokevirtual 243, 3) := by decide +kernel
theorem dX8_locks_29 : decode cX8_locks 29 = .ok (.istore 4, 2) := by decide +kernel
theorem dX8_locks_31 : decode cX8_locks 31 = .ok (.aload_n 0, 1) := by decide +kernel
theorem dX8_locks_32 : decode cX8_locks 32 = .ok (.iload 4, 2) := by decide +kernel
theorem dX8_locks_34 : decode cX8_locks 34 = .ok (.iconst (-1), 1) := by decide +kernel
theorem dX8_locks_35 : decode cX8_locks 35 = .ok (.if_icmp .ne 7, 3) := by decide +kernel
theorem dX8_locks_38 : decode cX8_locks 38 = .ok (.iconst 4, 1) := by decide +kernel
theorem dX8_locks_39 : decode cX8_locks 39 = .ok (.goto 4, 3) := by decide +kernel
theorem dX8_locks_42 : decode cX8_locks 42 = .ok (.iconst 0, 1) := by decide +kernel
theorem dX8_locks_43 : decode cX8_locks 43 = .ok (.putfield 76, 3) := by decide +kernel
theorem dX8_locks_46 : decode cX8_locks 46 = .ok (.iload 4, 2) := by decide +kernel
theorem dX8_locks_48 : decode cX8_locks 48 = .ok (.iconst 1, 1) := by decide +kernel
theorem dX8_locks_49 : decode cX8_locks 49 = .ok (.if_icmp .ne 7, 3) := by decide +kernel
theorem dX8_locks_52 : decode cX8_locks 52 = .ok (.iconst 1, 1) := by decide +kernel
theorem dX8_locks_53 : decode cX8_locks 53 = .ok (.goto 4, 3) := by decide +kernel
theorem dX8_locks_56 : decode cX8_locks 56 = .ok (.iconst 0, 1) := by decide +kernel
theorem dX8_locks_57 : decode cX8_locks 57 = .ok (.ireturn, 1) := by decide +kernel
set_option maxRecDepth 20000 in
theorem ggX8_tongue_X8_noTwo : GoodIn wsX8_tongue wsX8_noTwo := goodIn_ca (goodIn_r _ [5, 6, 7, 8, 4, 9, 10, 11, 12, 13, 14, 15, 16, 17, 18, 19, 107, 108, 109, 110, 111, 112, 113, 114, 115, 116, 117, 118, 119, 120, 121, 122, 123, 124, 125, 126, 127, 128, 129, 130, 131, 132, 133, 134, 135] (by decide +kernel) (by decide +kernel)) (goodIn_sub (fun _ h => List.mem_cons_of_mem _ (List.mem_append_left _ (List.mem_append_right _ h))) (by decide +kernel))
set_option maxRecDepth 20000 in
theorem gX8_tongue_X8_noTwo : GoodIn wsX8_tongue (wsV RX8 236 RX8 yX8_noTwo wsX8_noTwo) := goodIn_app (goodIn_of _ (by decide +kernel)) ggX8_tongue_X8_noTwo
set_option maxRecDepth 20000 in
theorem ggX8_tongue_X8_locked : GoodIn wsX8_tongue wsX8_locked := goodIn_ca (goodIn_ca (goodIn_r _ [23, 24, 25, 26, 27, 28, 29, 30, 31, 32, 33, 34, 35, 36, 37, 38, 39, 40, 41, 42, 43, 44, 45, 46, 47, 48, 49, 50, 51, 52, 4, 53, 54, 55, 56, 57, 58, 59, 60, 61, 62, 63, 64, 65, 66, 67, 68, 69, 70, 71, 72, 73, 74, 75, 76, 77, 78, 79, 80, 81, 82, 83, 84, 85, 86, 87, 88, 89, 90, 91, 92, 93, 94, 95, 96, 97, 98, 99, 100, 101, 102, 103, 104, 105, 106, 107, 108, 109, 110, 111, 112, 113, 114, 115, 116, 117, 118, 119, 120, 121, 122, 123, 124, 125, 126, 127, 128, 129, 130, 131, 132, 133, 134, 135, 136, 137, 138, 139, 140, 141, 142] (by decide +kernel) (by decide +kernel)) (goodIn_sub (fun _ h => List.mem_cons_of_mem _ (List.mem_append_left _ (List.mem_append_right _ h))) (by decide +kernel))) (goodIn_sub (fun _ h => List.mem_cons_of_mem _ (List.mem_append_right _ h)) (by decide +kernel))
set_option maxRecDepth 20000 in
theorem gX8_tongue_X8_locked : GoodIn wsX8_tongue (wsV RX8 243 RX8 yX8_locked wsX8_locked) := goodIn_app (goodIn_of _ (by decide +kernel)) ggX8_tongue_X8_locked
theorem dX8_tongue_0 : decode cX8_tongue 0 = .ok (.aload_n 0, 1) := by decide +kernel
theorem dX8_tongue_1 : decode cX8_tongue 1 = .ok (.iload_n 1, 1) := by decide +kernel
theorem dX8_tongue_2 : decode cX8_tongue 2 = .ok (.iload_n 2, 1) := by decide +kernel
theorem dX8_tongue_3 : decode cX8_tongue 3 = .ok (.iconst 1, 1) := by decide +kernel
theorem dX8_tongue_4 : decode cX8_tongue 4 = .ok (.invokevirtual 236, 3) := by decide +kernel
theorem dX8_tongue_7 : decode cX8_tongue 7 = .ok (.ifCond .eq 5, 3) := by decide +kernel
theorem dX8_tongue_10 : decode cX8_tongue 10 = .ok (.iconst 0, 1) := by decide +kernel
theorem dX8_tongue_11 : decode cX8_tongue 11 = .ok (.ireturn, 1) := by decide +kernel
theorem dX8_tongue_12 : decode cX8_tongue 12 = .ok (.iconst 0, 1) := by decide +kernel
theorem dX8_tongue_13 : decode cX8_tongue 13 = .ok (.istore_n 3, 1) := by decide +kernel
theorem dX8_tongue_14 : decode cX8_tongue 14 = .ok (.iconst 2, 1) := by decide +kernel
theorem dX8_tongue_15 : decode cX8_tongue 15 = .ok (.istore 4, 2) := by decide +kernel
theorem dX8_tongue_17 : decode cX8_tongue 17 = .ok (.iload 4, 2) := by decide +kernel
theorem dX8_tongue_19 : decode cX8_tongue 19 = .ok (.bipush 99, 2) := by decide +kernel
theorem dX8_tongue_21 : decode cX8_tongue 21 = .ok (.if_icmp .gt 29, 3) := by decide +kernel
theorem dX8_tongue_24 : decode cX8_tongue 24 = .ok (.iload_n 3, 1) := by decide +kernel
theorem dX8_tongue_25 : decode cX8_tongue 25 = .ok (.aload_n 0, 1) := by decide +kernel
theorem dX8_tongue_26 : decode cX8_tongue 26 = .ok (.iload_n 1, 1) := by decide +kernel
theorem dX8_tongue_27 : decode cX8_tongue 27 = .ok (.iload_n 2, 1) := by decide +kernel
theorem dX8_tongue_28 : decode cX8_tongue 28 = .ok (.iload 4, 2) := by decide +kernel
theorem dX8_tongue_30 : decode cX8_tongue 30 = .ok (.invokevirtual 243, 3) := by decide +kernel
theorem dX8_tongue_33 : decode cX8_tongue 33 = .ok (.iconst 1, 1) := by decide +kernel
theorem dX8_tongue_34 : decode cX8_tongue 34 = .ok (.if_icmp .ne 7, 3) := by decide +kernel
theorem dX8_tongue_37 : decode cX8_tongue 37 = .ok (.iconst 1, 1) := by decide +kernel
theorem dX8_tongue_38 : decode cX8_tongue 38 = .ok (.goto 4, 3) := by decide +kernel
theorem dX8_tongue_41 : decode cX8_tongue 41 = .ok (.iconst 0, 1) := by decide +kernel
theorem dX8_tongue_42 : decode cX8_tongue 42 = .ok (.iadd, 1) := by decide +kernel
theorem dX8_tongue_43 : decode cX8_tongue 43 = .ok (.istore_n 3, 1) := by decide +kernel
theorem dX8_tongue_44 : decode cX8_tongue 44 = .ok (.iinc 4 1, 3) := by decide +kernel
theorem dX8_tongue_47 : decode cX8_tongue 47 = .ok (.goto (-30), 3) := by decide +kernel
theorem dX8_tongue_50 : decode cX8_tongue 50 = .ok (.iload_n 3, 1) := by decide +kernel
theorem dX8_tongue_51 : decode cX8_tongue 51 = .ok (.ireturn, 1) := by decide +kernel
set_option maxRecDepth 20000 in
theorem ggX8_push_X8_isPlace : GoodIn wsX8_push wsX8_isPlace := goodIn_r _ [15, 16, 17, 18, 14, 19] (by decide +kernel) (by decide +kernel)
set_option maxRecDepth 20000 in
theorem gX8_push_X8_isPlace : GoodIn wsX8_push (va_wsS RX8 95 yX8_isPlace wsX8_isPlace) := goodIn_app (goodIn_of _ (by decide +kernel)) ggX8_push_X8_isPlace
set_option maxRecDepth 20000 in
theorem ggX8_push_X8_in : GoodIn wsX8_push wsX8_in := goodIn_r _ [19] (by decide +kernel) (by decide +kernel)
set_option maxRecDepth 20000 in
theorem gX8_push_X8_in : GoodIn wsX8_push (va_wsS RX8 87 yX8_in wsX8_in) := goodIn_app (goodIn_of _ (by decide +kernel)) ggX8_push_X8_in
set_option maxRecDepth 20000 in
theorem ggX8_push_X8_isBeater : GoodIn wsX8_push wsX8_isBeater := goodIn_ca (goodIn_r _ [23, 24, 4, 17, 18, 14, 19, 25, 26, 27, 28, 29, 30, 31, 32, 33, 34, 35, 36, 37, 38, 39, 40, 41, 42, 43, 44, 45, 46, 47, 48, 49, 50, 51, 52, 53] (by decide +kernel) (by decide +kernel)) (goodIn_sub (fun _ h => List.mem_cons_of_mem _ (List.mem_append_right _ h)) (by decide +kernel))
set_option maxRecDepth 20000 in
theorem gX8_push_X8_isBeater : GoodIn wsX8_push (wsV RX8 118 RX8 yX8_isBeater wsX8_isBeater) := goodIn_app (goodIn_of _ (by decide +kernel)) ggX8_push_X8_isBeater
theorem dX8_push_0 : decode cX8_push 0 = .ok (.aload_n 0, 1) := by decide +kernel
theorem dX8_push_1 : decode cX8_push 1 = .ok (.iload_n 1, 1) := by decide +kernel
theorem dX8_push_2 : decode cX8_push 2 = .ok (.invokestatic 95, 3) := by decide +kernel
theorem dX8_push_5 : decode cX8_push 5 = .ok (.ifCond .ne 7, 3) := by decide +kernel
theorem dX8_push_8 : decode cX8_push 8 = .ok (.iconst 1, 1) := by decide +kernel
theorem dX8_push_9 : decode cX8_push 9 = .ok (.goto 34, 3) := by decide +kernel
theorem dX8_push_12 : decode cX8_push 12 = .ok (.iload_n 2, 1) := by decide +kernel
theorem dX8_push_13 : decode cX8_push 13 = .ok (.i2l, 1) := by decide +kernel
theorem dX8_push_14 : decode cX8_push 14 = .ok (.ldc2_w 247, 3) := by decide +kernel
theorem dX8_push_17 : decode cX8_push 17 = .ok (.ldc2_w 93, 3) := by decide +kernel
theorem dX8_push_20 : decode cX8_push 20 = .ok (.invokestatic 87, 3) := by decide +kernel
theorem dX8_push_23 : decode cX8_push 23 = .ok (.ifCond .ne 7, 3) := by decide +kernel
theorem dX8_push_26 : decode cX8_push 26 = .ok (.iconst 2, 1) := by decide +kernel
theorem dX8_push_27 : decode cX8_push 27 = .ok (.goto 16, 3) := by decide +kernel
theorem dX8_push_30 : decode cX8_push 30 = .ok (.aload_n 0, 1) := by decide +kernel
theorem dX8_push_31 : decode cX8_push 31 = .ok (.iload_n 1, 1) := by decide +kernel
theorem dX8_push_32 : decode cX8_push 32 = .ok (.invokevirtual 118, 3) := by decide +kernel
theorem dX8_push_35 : decode cX8_push 35 = .ok (.ifCond .ne 7, 3) := by decide +kernel
theorem dX8_push_38 : decode cX8_push 38 = .ok (.iconst 3, 1) := by decide +kernel
theorem dX8_push_39 : decode cX8_push 39 = .ok (.goto 4, 3) := by decide +kernel
theorem dX8_push_42 : decode cX8_push 42 = .ok (.iconst 0, 1) := by decide +kernel
theorem dX8_push_43 : decode cX8_push 43 = .ok (.putfield 76, 3) := by decide +kernel
theorem dX8_push_46 : decode cX8_push 46 = .ok (.aload_n 0, 1) := by decide +kernel
theorem dX8_push_47 : decode cX8_push 47 = .ok (.getfield 76, 3) := by decide +kernel
theorem dX8_push_50 : decode cX8_push 50 = .ok (.ifCond .le 5, 3) := by decide +kernel
theorem dX8_push_53 : decode cX8_push 53 = .ok (.iconst 0, 1) := by decide +kernel
theorem dX8_push_54 : decode cX8_push 54 = .ok (.ireturn, 1) := by decide +kernel
theorem dX8_push_55 : decode cX8_push 55 = .ok (.aload_n 0, 1) := by decide +kernel
theorem dX8_push_56 : decode cX8_push 56 = .ok (.getfield 26, 3) := by decide +kernel
theorem dX8_push_59 : decode cX8_push 59 = .ok (.getfield 105, 3) := by decide +kernel
theorem dX8_push_62 : decode cX8_push 62 = .ok (.iload_n 1, 1) := by decide +kernel
theorem dX8_push_63 : decode cX8_push 63 = .ok (.iconst 0, 1) := by decide +kernel
theorem dX8_push_64 : decode cX8_push 64 = .ok (.aload_n 0, 1) := by decide +kernel
theorem dX8_push_65 : decode cX8_push 65 = .ok (.getfield 26, 3) := by decide +kernel
theorem dX8_push_68 : decode cX8_push 68 = .ok (.getfield 102, 3) := by decide +kernel
theorem dX8_push_71 : decode cX8_push 71 = .ok (.iload_n 1, 1) := by decide +kernel
theorem dX8_push_72 : decode cX8_push 72 = .ok (.iaload, 1) := by decide +kernel
theorem dX8_push_73 : decode cX8_push 73 = .ok (.iconst 1, 1) := by decide +kernel
theorem dX8_push_74 : decode cX8_push 74 = .ok (.isub, 1) := by decide +kernel
theorem dX8_push_75 : decode cX8_push 75 = .ok (.aload_n 0, 1) := by decide +kernel
theorem dX8_push_76 : decode cX8_push 76 = .ok (.getfield 26, 3) := by decide +kernel
theorem dX8_push_79 : decode cX8_push 79 = .ok (.getfield 105, 3) := by decide +kernel
theorem dX8_push_82 : decode cX8_push 82 = .ok (.iload_n 1, 1) := by decide +kernel
theorem dX8_push_83 : decode cX8_push 83 = .ok (.iaload, 1) := by decide +kernel
theorem dX8_push_84 : decode cX8_push 84 = .ok (.iload_n 2, 1) := by decide +kernel
theorem dX8_push_85 : decode cX8_push 85 = .ok (.iadd, 1) := by decide +kernel
theorem dX8_push_86 : decode cX8_push 86 = .ok (.invokestatic 249, 3) := by decide +kernel
theorem dX8_push_89 : decode cX8_push 89 = .ok (.invokestatic 230, 3) := by decide +kernel
theorem dX8_push_92 : decode cX8_push 92 = .ok (.iastore, 1) := by decide +kernel
theorem dX8_push_93 : decode cX8_push 93 = .ok (.aload_n 0, 1) := by decide +kernel
theorem dX8_push_94 : decode cX8_push 94 = .ok (.getfield 26, 3) := by decide +kernel
theorem dX8_push_97 : decode cX8_push 97 = .ok (.getfield 105, 3) := by decide +kernel
theorem dX8_push_100 : decode cX8_push 100 = .ok (.iload_n 1, 1) := by decide +kernel
theorem dX8_push_101 : decode cX8_push 101 = .ok (.iaload, 1) := by decide +kernel
theorem dX8_push_102 : decode cX8_push 102 = .ok (.ireturn, 1) := by decide +kernel
set_option maxRecDepth 20000 in
theorem ggX8_leastPush_X8_beaters : GoodIn wsX8_leastPush wsX8_beaters := goodIn_ca (goodIn_r _ [15, 16, 17, 18, 4, 19, 20, 21, 22, 23, 24, 25, 26, 27, 28, 29, 30, 31, 32, 33, 34, 35, 36, 37, 38, 39, 40, 41, 42, 43, 44, 45, 46, 47, 48, 49, 50, 51, 52, 53, 54, 55, 56, 57, 58, 59, 60, 61, 62, 63, 64, 65, 66, 67, 68, 69, 70, 71, 72, 73, 9, 74, 75, 76, 77, 78, 79, 80, 81, 82, 83, 84, 85, 86, 87, 88, 89, 90, 91, 92, 93, 94, 95, 96, 97, 98, 8, 10, 99, 100, 101, 102, 219, 220, 221, 190, 191, 192, 193, 194, 195, 196, 197, 198, 199, 200, 201, 202, 203, 204, 205, 206, 207, 208, 209, 210, 211, 212, 213, 214, 215, 216, 217, 218, 222] (by decide +kernel) (by decide +kernel)) (goodIn_sub (fun _ h => List.mem_cons_of_mem _ (List.mem_append_left _ (List.mem_append_right _ h))) (by decide +kernel))
set_option maxRecDepth 20000 in
theorem gX8_leastPush_X8_beaters : GoodIn wsX8_leastPush (wsV RX8 163 RX8 yX8_beaters wsX8_beaters) := goodIn_app (goodIn_of _ (by decide +kernel)) ggX8_leastPush_X8_beaters
set_option maxRecDepth 20000 in
theorem ggX8_leastPush_Jx4a65c_size_8abf5 : GoodIn wsX8_leastPush wsJx4a65c_size_8abf5 := goodIn_r _ [106, 59, 219, 220, 221] (by decide +kernel) (by decide +kernel)
set_option maxRecDepth 20000 in
theorem gX8_leastPush_Jx4a65c_size_8abf5 : GoodIn wsX8_leastPush (wsV RX8 140 RJx4a65c yJx4a65c_size_8abf5 wsJx4a65c_size_8abf5) := goodIn_app (goodIn_of _ (by decide +kernel)) ggX8_leastPush_Jx4a65c_size_8abf5
set_option maxRecDepth 20000 in
theorem ggX8_leastPush_X8_in : GoodIn wsX8_leastPush wsX8_in := goodIn_r _ [109] (by decide +kernel) (by decide +kernel)
set_option maxRecDepth 20000 in
theorem gX8_leastPush_X8_in : GoodIn wsX8_leastPush (va_wsS RX8 87 yX8_in wsX8_in) := goodIn_app (goodIn_of _ (by decide +kernel)) ggX8_leastPush_X8_in
set_option maxRecDepth 20000 in
theorem ggX8_leastPush_Jx4a65c_get_915e3 : GoodIn wsX8_leastPush wsJx4a65c_get_915e3 := goodIn_r _ [113, 59, 114, 115, 116, 117, 118, 119, 120, 121, 122, 123, 124, 18, 125, 23, 219, 220, 221] (by decide +kernel) (by decide +kernel)
set_option maxRecDepth 20000 in
theorem gX8_leastPush_Jx4a65c_get_915e3 : GoodIn wsX8_leastPush (wsV RX8 170 RJx4a65c yJx4a65c_get_915e3 wsJx4a65c_get_915e3) := goodIn_app (goodIn_of _ (by decide +kernel)) ggX8_leastPush_Jx4a65c_get_915e3
set_option maxRecDepth 20000 in
theorem ggX8_leastPush_J6_intValue_8abf5 : GoodIn wsX8_leastPush wsJ6_intValue_8abf5 := goodIn_r _ [129, 47, 222] (by decide +kernel) (by decide +kernel)
set_option maxRecDepth 20000 in
theorem gX8_leastPush_J6_intValue_8abf5 : GoodIn wsX8_leastPush (wsV RX8 173 RJ6 yJ6_intValue_8abf5 wsJ6_intValue_8abf5) := goodIn_app (goodIn_of _ (by decide +kernel)) ggX8_leastPush_J6_intValue_8abf5
set_option maxRecDepth 20000 in
theorem ggX8_leastPush_J6_bitCount_0f7a4 : GoodIn wsX8_leastPush wsJ6_bitCount_0f7a4 := goodIn_r _ [132, 133, 134, 135] (by decide +kernel) (by decide +kernel)
set_option maxRecDepth 20000 in
theorem gX8_leastPush_J6_bitCount_0f7a4 : GoodIn wsX8_leastPush (va_wsS RX8 254 yJ6_bitCount_0f7a4 wsJ6_bitCount_0f7a4) := goodIn_app (goodIn_of _ (by decide +kernel)) ggX8_leastPush_J6_bitCount_0f7a4
set_option maxRecDepth 20000 in
theorem ggX8_leastPush_X6_takes : GoodIn wsX8_leastPush wsX6_takes := goodIn_ca (goodIn_r _ [140, 141, 142, 143, 144, 145, 146, 211, 212, 213, 214, 215, 216, 217, 218] (by decide +kernel) (by decide +kernel)) (goodIn_sub (fun _ h => List.mem_cons_of_mem _ (List.mem_append_left _ (List.mem_append_right _ h))) (by decide +kernel))
set_option maxRecDepth 20000 in
theorem gX8_leastPush_X6_takes : GoodIn wsX8_leastPush (wsV RX8 197 RX6 yX6_takes wsX6_takes) := goodIn_app (goodIn_of _ (by decide +kernel)) ggX8_leastPush_X6_takes
set_option maxRecDepth 20000 in
theorem ggX8_leastPush_X8_findCycle : GoodIn wsX8_leastPush wsX8_findCycle := goodIn_ca (goodIn_ca (goodIn_r _ [150, 151, 6, 152, 153, 154, 136, 137, 138, 139, 140, 141, 142, 143, 144, 145, 146, 155, 156, 157, 158, 159, 160, 161, 73, 9, 74, 162, 163, 14, 164, 165, 166, 167, 168, 169, 170, 104, 105, 18, 106, 59, 171, 111, 112, 113, 114, 115, 116, 117, 118, 119, 120, 121, 122, 123, 124, 125, 23, 172, 173, 174, 175, 190, 191, 192, 193, 194, 195, 196, 197, 198, 199, 200, 201, 202, 203, 204, 205, 206, 207, 208, 209, 210, 211, 212, 213, 214, 215, 216, 217, 218, 223, 224, 225, 226, 219, 220, 221] (by decide +kernel) (by decide +kernel)) (goodIn_sub (fun _ h => List.mem_cons_of_mem _ (List.mem_append_left _ (List.mem_append_right _ h))) (by decide +kernel))) (goodIn_sub (fun _ h => List.mem_cons_of_mem _ (List.mem_append_right _ h)) (by decide +kernel))
set_option maxRecDepth 20000 in
theorem gX8_leastPush_X8_findCycle : GoodIn wsX8_leastPush (wsV RX8 211 RX8 yX8_findCycle wsX8_findCycle) := goodIn_app (goodIn_of _ (by decide +kernel)) ggX8_leastPush_X8_findCycle
set_option maxRecDepth 20000 in
theorem ggX8_leastPush_X8_goRound : GoodIn wsX8_leastPush wsX8_goRound := goodIn_ca (goodIn_ca (goodIn_r _ [179, 180, 181, 153, 152, 155, 156, 157, 139, 158, 146, 145, 159, 141, 143, 142, 144, 160, 161, 73, 9, 74, 162, 163, 14, 164, 165, 166, 167, 168, 169, 170, 104, 105, 18, 106, 59, 171, 111, 112, 113, 114, 115, 116, 117, 118, 119, 120, 121, 122, 123, 124, 125, 23, 190, 191, 192, 193, 194, 195, 196, 197, 198, 199, 200, 201, 202, 203, 204, 205, 206, 207, 208, 209, 210, 211, 212, 213, 214, 215, 216, 217, 218, 223, 224, 225, 226, 219, 220, 221] (by decide +kernel) (by decide +kernel)) (goodIn_sub (fun _ h => List.mem_cons_of_mem _ (List.mem_append_left _ (List.mem_append_right _ h))) (by decide +kernel))) (goodIn_sub (fun _ h => List.mem_cons_of_mem _ (List.mem_append_right _ h)) (by decide +kernel))
set_option maxRecDepth 20000 in
theorem gX8_leastPush_X8_goRound : GoodIn wsX8_leastPush (wsV RX8 215 RX8 yX8_goRound wsX8_goRound) := goodIn_app (goodIn_of _ (by decide +kernel)) ggX8_leastPush_X8_goRound
set_option maxRecDepth 20000 in
theorem ggX8_leastPush_X8_groupsUpTo : GoodIn wsX8_leastPush wsX8_groupsUpTo := goodIn_ca (goodIn_r _ [185, 4, 186, 187, 188, 14, 189, 181, 190, 191, 192, 193, 194, 195, 196, 197, 198, 199, 200, 201, 202, 203, 204, 205, 206, 207, 208, 209, 210, 211, 212, 213, 214, 215, 216, 217, 218] (by decide +kernel) (by decide +kernel)) (goodIn_sub (fun _ h => List.mem_cons_of_mem _ (List.mem_append_left _ (List.mem_append_right _ h))) (by decide +kernel))
set_option maxRecDepth 20000 in
theorem gX8_leastPush_X8_groupsUpTo : GoodIn wsX8_leastPush (wsV RX8 224 RX8 yX8_groupsUpTo wsX8_groupsUpTo) := goodIn_app (goodIn_of _ (by decide +kernel)) ggX8_leastPush_X8_groupsUpTo
theorem dX8_leastPush_0 : decode cX8_leastPush 0 = .ok (.aload_n 0, 1) := by decide +kernel
theorem dX8_leastPush_1 : decode cX8_leastPush 1 = .ok (.invokevirtual 163, 3) := by decide +kernel
theorem dX8_leastPush_4 : decode cX8_leastPush 4 = .ok (.astore_n 1, 1) := by decide +kernel
theorem dX8_leastPush_5 : decode cX8_leastPush 5 = .ok (.aload_n 0, 1) := by decide +kernel
theorem dX8_leastPush_6 : decode cX8_leastPush 6 = .ok (.aload_n 0, 1) := by decide +kernel
theorem dX8_leastPush_7 : decode cX8_leastPush 7 = .ok (.getfield 178, 3) := by decide +kernel
theorem dX8_leastPush_10 : decode cX8_leastPush 10 = .ok (.ifCond .gt 18, 3) := by decide +kernel
theorem dX8_leastPush_13 : decode cX8_leastPush 13 = .ok (.aload_n 1, 1) := by decide +kernel
theorem dX8_leastPush_14 : decode cX8_leastPush 14 = .ok (.invokevirtual 140, 3) := by decide +kernel
theorem dX8_leastPush_17 : decode cX8_leastPush 17 = .ok (.i2l, 1) := by decide +kernel
theorem dX8_leastPush_18 : decode cX8_leastPush 18 = .ok (.lconst 1, 1) := by decide +kernel
theorem dX8_leastPush_19 : decode cX8_leastPush 19 = .ok (.ldc2_w 252, 3) := by decide +kernel
theorem dX8_leastPush_22 : decode cX8_leastPush 22 = .ok (.invokestatic 87, 3) := by decide +kernel
theorem dX8_leastPush_25 : decode cX8_leastPush 25 = .ok (.ifCond .ne 7, 3) := by decide +kernel
theorem dX8_leastPush_28 : decode cX8_leastPush 28 = .ok (.iconst 1, 1) := by decide +kernel
theorem dX8_leastPush_29 : decode cX8_leastPush 29 = .ok (.goto 4, 3) := by decide +kernel
theorem dX8_leastPush_32 : decode cX8_leastPush 32 = .ok (.iconst 0, 1) := by decide +kernel
theorem dX8_leastPush_33 : decode cX8_leastPush 33 = .ok (.putfield 76, 3) := by decide +kernel
theorem dX8_leastPush_36 : decode cX8_leastPush 36 = .ok (.aload_n 0, 1) := by decide +kernel
theorem dX8_leastPush_37 : decode cX8_leastPush 37 = .ok (.getfield 76, 3) := by decide +kernel
theorem dX8_leastPush_40 : decode cX8_leastPush 40 = .ok (.ifCond .le 5, 3) := by decide +kernel
theorem dX8_leastPush_43 : decode cX8_leastPush 43 = .ok (.iconst 0, 1) := by decide +kernel
theorem dX8_leastPush_44 : decode cX8_leastPush 44 = .ok (.ireturn, 1) := by decide +kernel
theorem dX8_leastPush_45 : decode cX8_leastPush 45 = .ok (.aload_n 0, 1) := by decide +kernel
theorem dX8_leastPush_46 : decode cX8_leastPush 46 = .ok (.getfield 26, 3) := by decide +kernel
theorem dX8_leastPush_49 : decode cX8_leastPush 49 = .ok (.getfield 105, 3) := by decide +kernel
theorem dX8_leastPush_52 : decode cX8_leastPush 52 = .ok (.aload_n 1, 1) := by decide +kernel
theorem dX8_leastPush_53 : decode cX8_leastPush 53 = .ok (.iconst 0, 1) := by decide +kernel
theorem dX8_leastPush_54 : decode cX8_leastPush 54 = .ok (.invokevirtual 170, 3) := by decide +kernel
theorem dX8_leastPush_57 : decode cX8_leastPush 57 = .ok (.checkcast 158, 3) := by decide +kernel
theorem dX8_leastPush_60 : decode cX8_leastPush 60 = .ok (.invokevirtual 173, 3) := by decide +kernel
theorem dX8_leastPush_63 : decode cX8_leastPush 63 = .ok (.iaload, 1) := by decide +kernel
theorem dX8_leastPush_64 : decode cX8_leastPush 64 = .ok (.istore_n 2, 1) := by decide +kernel
theorem dX8_leastPush_65 : decode cX8_leastPush 65 = .ok (.iconst 0, 1) := by decide +kernel
theorem dX8_leastPush_66 : decode cX8_leastPush 66 = .ok (.istore_n 3, 1) := by decide +kernel
theorem dX8_leastPush_67 : decode cX8_leastPush 67 = .ok (.iload_n 3, 1) := by decide +kernel
theorem dX8_leastPush_68 : decode cX8_leastPush 68 = .ok (.aload_n 1, 1) := by decide +kernel
theorem dX8_leastPush_69 : decode cX8_leastPush 69 = .ok (.invokevirtual 140, 3) := by decide +kernel
theorem dX8_leastPush_72 : decode cX8_leastPush 72 = .ok (.if_icmp .gt 188, 3) := by decide +kernel
theorem dX8_leastPush_75 : decode cX8_leastPush 75 = .ok (.iconst 0, 1) := by decide +kernel
theorem dX8_leastPush_76 : decode cX8_leastPush 76 = .ok (.istore 4, 2) := by decide +kernel
theorem dX8_leastPush_78 : decode cX8_leastPush 78 = .ok (.iload 4, 2) := by decide +kernel
theorem dX8_leastPush_80 : decode cX8_leastPush 80 = .ok (.iconst 1, 1) := by decide +kernel
theorem dX8_leastPush_81 : decode cX8_leastPush 81 = .ok (.aload_n 1, 1) := by decide +kernel
theorem dX8_leastPush_82 : decode cX8_leastPush 82 = .ok (.invokevirtual 140, 3) := by decide +kernel
theorem dX8_leastPush_85 : decode cX8_leastPush 85 = .ok (.ishl, 1) := by decide +kernel
theorem dX8_leastPush_86 : decode cX8_leastPush 86 = .ok (.if_icmp .ge 168, 3) := by decide +kernel
theorem dX8_leastPush_89 : decode cX8_leastPush 89 = .ok (.iload 4, 2) := by decide +kernel
theorem dX8_leastPush_91 : decode cX8_leastPush 91 = .ok (.invokestatic 254, 3) := by decide +kernel
theorem dX8_leastPush_94 : decode cX8_leastPush 94 = .ok (.iload_n 3, 1) := by decide +kernel
theorem dX8_leastPush_95 : decode cX8_leastPush 95 = .ok (.if_icmp .ne 153, 3) := by decide +kernel
theorem dX8_leastPush_98 : decode cX8_leastPush 98 = .ok (.aload_n 0, 1) := by decide +kernel
theorem dX8_leastPush_99 : decode cX8_leastPush 99 = .ok (.getfield 41, 3) := by decide +kernel
theorem dX8_leastPush_102 : decode cX8_leastPush 102 = .ok (.aload_n 0, 1) := by decide +kernel
theorem dX8_leastPush_103 : decode cX8_leastPush 103 = .ok (.getfield 26, 3) := by decide +kernel
theorem dX8_leastPush_106 : decode cX8_leastPush 106 = .ok (.invokevirtual 197, 3) := by decide +kernel
theorem dX8_leastPush_109 : decode cX8_leastPush 109 = .ok (.iconst 0, 1) := by decide +kernel
theorem dX8_leastPush_110 : decode cX8_leastPush 110 = .ok (.istore 5, 2) := by decide +kernel
theorem dX8_leastPush_112 : decode cX8_leastPush 112 = .ok (.iconst 0, 1) := by decide +kernel
theorem dX8_leastPush_113 : decode cX8_leastPush 113 = .ok (.istore 6, 2) := by decide +kernel
theorem dX8_leastPush_115 : decode cX8_leastPush 115 = .ok (.iload 6, 2) := by decide +kernel
theorem dX8_leastPush_117 : decode cX8_leastPush 117 = .ok (.aload_n 1, 1) := by decide +kernel
theorem dX8_leastPush_118 : decode cX8_leastPush 118 = .ok (.invokevirtual 140, 3) := by decide +kernel
theorem dX8_leastPush_121 : decode cX8_leastPush 121 = .ok (.if_icmp .ge 103, 3) := by decide +kernel
theorem dX8_leastPush_124 : decode cX8_leastPush 124 = .ok (.aload_n 1, 1) := by decide +kernel
theorem dX8_leastPush_125 : decode cX8_leastPush 125 = .ok (.iload 6, 2) := by decide +kernel
theorem dX8_leastPush_127 : decode cX8_leastPush 127 = .ok (.invokevirtual 170, 3) := by decide +kernel
theorem dX8_leastPush_130 : decode cX8_leastPush 130 = .ok (.checkcast 158, 3) := by decide +kernel
theorem dX8_leastPush_133 : decode cX8_leastPush 133 = .ok (.invokevirtual 173, 3) := by decide +kernel
theorem dX8_leastPush_136 : decode cX8_leastPush 136 = .ok (.istore 7, 2) := by decide +kernel
theorem dX8_leastPush_138 : decode cX8_leastPush 138 = .ok (.iload 4, 2) := by decide +kernel
theorem dX8_leastPush_140 : decode cX8_leastPush 140 = .ok (.iload 6, 2) := by decide +kernel
theorem dX8_leastPush_142 : decode cX8_leastPush 142 = .ok (.ishr, 1) := by decide +kernel
theorem dX8_leastPush_143 : decode cX8_leastPush 143 = .ok (.iconst 1, 1) := by decide +kernel
theorem dX8_leastPush_144 : decode cX8_leastPush 144 = .ok (.iand, 1) := by decide +kernel
theorem dX8_leastPush_145 : decode cX8_leastPush 145 = .ok (.iconst 1, 1) := by decide +kernel
theorem dX8_leastPush_146 : decode cX8_leastPush 146 = .ok (.if_icmp .ne 7, 3) := by decide +kernel
theorem dX8_leastPush_149 : decode cX8_leastPush 149 = .ok (.iconst 1, 1) := by decide +kernel
theorem dX8_leastPush_150 : decode cX8_leastPush 150 = .ok (.goto 4, 3) := by decide +kernel
theorem dX8_leastPush_153 : decode cX8_leastPush 153 = .ok (.iconst 0, 1) := by decide +kernel
theorem dX8_leastPush_154 : decode cX8_leastPush 154 = .ok (.istore 8, 2) := by decide +kernel
theorem dX8_leastPush_156 : decode cX8_leastPush 156 = .ok (.iload 5, 2) := by decide +kernel
theorem dX8_leastPush_158 : decode cX8_leastPush 158 = .ok (.iload 8, 2) := by decide +kernel
theorem dX8_leastPush_160 : decode cX8_leastPush 160 = .ok (.ifCond .eq 10, 3) := by decide +kernel
theorem dX8_leastPush_163 : decode cX8_leastPush 163 = .ok (.iconst 1, 1) := by decide +kernel
theorem dX8_leastPush_164 : decode cX8_leastPush 164 = .ok (.iload 7, 2) := by decide +kernel
theorem dX8_leastPush_166 : decode cX8_leastPush 166 = .ok (.ishl, 1) := by decide +kernel
theorem dX8_leastPush_167 : decode cX8_leastPush 167 = .ok (.goto 4, 3) := by decide +kernel
theorem dX8_leastPush_170 : decode cX8_leastPush 170 = .ok (.iconst 0, 1) := by decide +kernel
theorem dX8_leastPush_171 : decode cX8_leastPush 171 = .ok (.ior, 1) := by decide +kernel
theorem dX8_leastPush_172 : decode cX8_leastPush 172 = .ok (.istore 5, 2) := by decide +kernel
theorem dX8_leastPush_174 : decode cX8_leastPush 174 = .ok (.aload_n 0, 1) := by decide +kernel
theorem dX8_leastPush_175 : decode cX8_leastPush 175 = .ok (.getfield 41, 3) := by decide +kernel
theorem dX8_leastPush_178 : decode cX8_leastPush 178 = .ok (.getfield 105, 3) := by decide +kernel
theorem dX8_leastPush_181 : decode cX8_leastPush 181 = .ok (.iload 7, 2) := by decide +kernel
theorem dX8_leastPush_183 : decode cX8_leastPush 183 = .ok (.iload 8, 2) := by decide +kernel
theorem dX8_leastPush_185 : decode cX8_leastPush 185 = .ok (.ifCond .eq 22, 3) := by decide +kernel
theorem dX8_leastPush_188 : decode cX8_leastPush 188 = .ok (.iload_n 2, 1) := by decide +kernel
theorem dX8_leastPush_189 : decode cX8_leastPush 189 = .ok (.aload_n 0, 1) := by decide +kernel
theorem dX8_leastPush_190 : decode cX8_leastPush 190 = .ok (.getfield 26, 3) := by decide +kernel
theorem dX8_leastPush_193 : decode cX8_leastPush 193 = .ok (.getfield 102, 3) := by decide +kernel
theorem dX8_leastPush_196 : decode cX8_leastPush 196 = .ok (.iload 7, 2) := by decide +kernel
theorem dX8_leastPush_198 : decode cX8_leastPush 198 = .ok (.iaload, 1) := by decide +kernel
theorem dX8_leastPush_199 : decode cX8_leastPush 199 = .ok (.iconst 1, 1) := by decide +kernel
theorem dX8_leastPush_200 : decode cX8_leastPush 200 = .ok (.isub, 1) := by decide +kernel
theorem dX8_leastPush_201 : decode cX8_leastPush 201 = .ok (.invokestatic 249, 3) := by decide +kernel
theorem dX8_leastPush_204 : decode cX8_leastPush 204 = .ok (.goto 13, 3) := by decide +kernel
theorem dX8_leastPush_207 : decode cX8_leastPush 207 = .ok (.aload_n 0, 1) := by decide +kernel
theorem dX8_leastPush_208 : decode cX8_leastPush 208 = .ok (.getfield 41, 3) := by decide +kernel
theorem dX8_leastPush_211 : decode cX8_leastPush 211 = .ok (.getfield 105, 3) := by decide +kernel
theorem dX8_leastPush_214 : decode cX8_leastPush 214 = .ok (.iload 7, 2) := by decide +kernel
theorem dX8_leastPush_216 : decode cX8_leastPush 216 = .ok (.iaload, 1) := by decide +kernel
theorem dX8_leastPush_217 : decode cX8_leastPush 217 = .ok (.iastore, 1) := by decide +kernel
theorem dX8_leastPush_218 : decode cX8_leastPush 218 = .ok (.iinc 6 1, 3) := by decide +kernel
theorem dX8_leastPush_221 : decode cX8_leastPush 221 = .ok (.goto (-106), 3) := by decide +kernel
theorem dX8_leastPush_224 : decode cX8_leastPush 224 = .ok (.aload_n 0, 1) := by decide +kernel
theorem dX8_leastPush_225 : decode cX8_leastPush 225 = .ok (.invokevirtual 211, 3) := by decide +kernel
theorem dX8_leastPush_228 : decode cX8_leastPush 228 = .ok (.ifCond .eq 20, 3) := by decide +kernel
theorem dX8_leastPush_231 : decode cX8_leastPush 231 = .ok (.aload_n 0, 1) := by decide +kernel
theorem dX8_leastPush_232 : decode cX8_leastPush 232 = .ok (.invokevirtual 215, 3) := by decide +kernel
theorem dX8_leastPush_235 : decode cX8_leastPush 235 = .ok (.aload_n 0, 1) := by decide +kernel
theorem dX8_leastPush_236 : decode cX8_leastPush 236 = .ok (.bipush 15, 2) := by decide +kernel
theorem dX8_leastPush_238 : decode cX8_leastPush 238 = .ok (.invokevirtual 224, 3) := by decide +kernel
theorem dX8_leastPush_241 : decode cX8_leastPush 241 = .ok (.iconst 1, 1) := by decide +kernel
theorem dX8_leastPush_242 : decode cX8_leastPush 242 = .ok (.if_icmp .ne 6, 3) := by decide +kernel
theorem dX8_leastPush_245 : decode cX8_leastPush 245 = .ok (.iload 5, 2) := by decide +kernel
theorem dX8_leastPush_247 : decode cX8_leastPush 247 = .ok (.ireturn, 1) := by decide +kernel
theorem dX8_leastPush_248 : decode cX8_leastPush 248 = .ok (.iinc 4 1, 3) := by decide +kernel
theorem dX8_leastPush_251 : decode cX8_leastPush 251 = .ok (.goto (-173), 3) := by decide +kernel
theorem dX8_leastPush_254 : decode cX8_leastPush 254 = .ok (.iinc 3 1, 3) := by decide +kernel
theorem dX8_leastPush_257 : decode cX8_leastPush 257 = .ok (.goto (-190), 3) := by decide +kernel
theorem dX8_leastPush_260 : decode cX8_leastPush 260 = .ok (.aload_n 0, 1) := by decide +kernel
theorem dX8_leastPush_261 : decode cX8_leastPush 261 = .ok (.iconst 2, 1) := by decide +kernel
theorem dX8_leastPush_262 : decode cX8_leastPush 262 = .ok (.putfield 76, 3) := by decide +kernel
theorem dX8_leastPush_265 : decode cX8_leastPush 265 = .ok (.iconst 0, 1) := by decide +kernel
theorem dX8_leastPush_266 : decode cX8_leastPush 266 = .ok (.ireturn, 1) := by decide +kernel
set_option maxRecDepth 20000 in
theorem ggX8_noise_X8_in : GoodIn wsX8_noise wsX8_in := goodIn_r _ [7] (by decide +kernel) (by decide +kernel)
set_option maxRecDepth 20000 in
theorem gX8_noise_X8_in : GoodIn wsX8_noise (va_wsS RX8 87 yX8_in wsX8_in) := goodIn_app (goodIn_of _ (by decide +kernel)) ggX8_noise_X8_in
theorem dX8_noise_0 : decode cX8_noise 0 = .ok (.aload_n 0, 1) := by decide +kernel
theorem dX8_noise_1 : decode cX8_noise 1 = .ok (.iload_n 1, 1) := by decide +kernel
theorem dX8_noise_2 : decode cX8_noise 2 = .ok (.i2l, 1) := by decide +kernel
theorem dX8_noise_3 : decode cX8_noise 3 = .ok (.lconst 0, 1) := by decide +kernel
theorem dX8_noise_4 : decode cX8_noise 4 = .ok (.ldc2_w 93, 3) := by decide +kernel
theorem dX8_noise_7 : decode cX8_noise 7 = .ok (.invokestatic 87, 3) := by decide +kernel
theorem dX8_noise_10 : decode cX8_noise 10 = .ok (.ifCond .eq 7, 3) := by decide +kernel
theorem dX8_noise_13 : decode cX8_noise 13 = .ok (.iconst 0, 1) := by decide +kernel
theorem dX8_noise_14 : decode cX8_noise 14 = .ok (.goto 4, 3) := by decide +kernel
theorem dX8_noise_17 : decode cX8_noise 17 = .ok (.iconst 1, 1) := by decide +kernel
theorem dX8_noise_18 : decode cX8_noise 18 = .ok (.putfield 76, 3) := by decide +kernel
theorem dX8_noise_21 : decode cX8_noise 21 = .ok (.aload_n 0, 1) := by decide +kernel
theorem dX8_noise_22 : decode cX8_noise 22 = .ok (.getfield 76, 3) := by decide +kernel
theorem dX8_noise_25 : decode cX8_noise 25 = .ok (.ifCond .le 5, 3) := by decide +kernel
theorem dX8_noise_28 : decode cX8_noise 28 = .ok (.iconst 0, 1) := by decide +kernel
theorem dX8_noise_29 : decode cX8_noise 29 = .ok (.ireturn, 1) := by decide +kernel
theorem dX8_noise_30 : decode cX8_noise 30 = .ok (.aload_n 0, 1) := by decide +kernel
theorem dX8_noise_31 : decode cX8_noise 31 = .ok (.getfield 178, 3) := by decide +kernel
theorem dX8_noise_34 : decode cX8_noise 34 = .ok (.istore_n 2, 1) := by decide +kernel
theorem dX8_noise_35 : decode cX8_noise 35 = .ok (.aload_n 0, 1) := by decide +kernel
theorem dX8_noise_36 : decode cX8_noise 36 = .ok (.iload_n 1, 1) := by decide +kernel
theorem dX8_noise_37 : decode cX8_noise 37 = .ok (.putfield 178, 3) := by decide +kernel
theorem dX8_noise_40 : decode cX8_noise 40 = .ok (.iload_n 2, 1) := by decide +kernel
theorem dX8_noise_41 : decode cX8_noise 41 = .ok (.ireturn, 1) := by decide +kernel
set_option maxRecDepth 20000 in
theorem ggX8_seed_X8_in : GoodIn wsX8_seed wsX8_in := goodIn_r _ [7] (by decide +kernel) (by decide +kernel)
set_option maxRecDepth 20000 in
theorem gX8_seed_X8_in : GoodIn wsX8_seed (va_wsS RX8 87 yX8_in wsX8_in) := goodIn_app (goodIn_of _ (by decide +kernel)) ggX8_seed_X8_in
theorem dX8_seed_0 : decode cX8_seed 0 = .ok (.aload_n 0, 1) := by decide +kernel
theorem dX8_seed_1 : decode cX8_seed 1 = .ok (.iload_n 1, 1) := by decide +kernel
theorem dX8_seed_2 : decode cX8_seed 2 = .ok (.i2l, 1) := by decide +kernel
theorem dX8_seed_3 : decode cX8_seed 3 = .ok (.lconst 1, 1) := by decide +kernel
theorem dX8_seed_4 : decode cX8_seed 4 = .ok (.ldc2_w 257, 3) := by decide +kernel
theorem dX8_seed_7 : decode cX8_seed 7 = .ok (.invokestatic 87, 3) := by decide +kernel
theorem dX8_seed_10 : decode cX8_seed 10 = .ok (.ifCond .eq 7, 3) := by decide +kernel
theorem dX8_seed_13 : decode cX8_seed 13 = .ok (.iconst 0, 1) := by decide +kernel
theorem dX8_seed_14 : decode cX8_seed 14 = .ok (.goto 4, 3) := by decide +kernel
theorem dX8_seed_17 : decode cX8_seed 17 = .ok (.iconst 1, 1) := by decide +kernel
theorem dX8_seed_18 : decode cX8_seed 18 = .ok (.putfield 76, 3) := by decide +kernel
theorem dX8_seed_21 : decode cX8_seed 21 = .ok (.aload_n 0, 1) := by decide +kernel
theorem dX8_seed_22 : decode cX8_seed 22 = .ok (.getfield 76, 3) := by decide +kernel
theorem dX8_seed_25 : decode cX8_seed 25 = .ok (.ifCond .le 5, 3) := by decide +kernel
theorem dX8_seed_28 : decode cX8_seed 28 = .ok (.iconst 0, 1) := by decide +kernel
theorem dX8_seed_29 : decode cX8_seed 29 = .ok (.ireturn, 1) := by decide +kernel
theorem dX8_seed_30 : decode cX8_seed 30 = .ok (.aload_n 0, 1) := by decide +kernel
theorem dX8_seed_31 : decode cX8_seed 31 = .ok (.getfield 37, 3) := by decide +kernel
theorem dX8_seed_34 : decode cX8_seed 34 = .ok (.l2i, 1) := by decide +kernel
theorem dX8_seed_35 : decode cX8_seed 35 = .ok (.istore_n 2, 1) := by decide +kernel
theorem dX8_seed_36 : decode cX8_seed 36 = .ok (.aload_n 0, 1) := by decide +kernel
theorem dX8_seed_37 : decode cX8_seed 37 = .ok (.iload_n 1, 1) := by decide +kernel
theorem dX8_seed_38 : decode cX8_seed 38 = .ok (.i2l, 1) := by decide +kernel
theorem dX8_seed_39 : decode cX8_seed 39 = .ok (.putfield 37, 3) := by decide +kernel
theorem dX8_seed_42 : decode cX8_seed 42 = .ok (.iload_n 2, 1) := by decide +kernel
theorem dX8_seed_43 : decode cX8_seed 43 = .ok (.ireturn, 1) := by decide +kernel
set_option maxRecDepth 20000 in
theorem ggX8_mark_X8_in : GoodIn wsX8_mark wsX8_in := goodIn_r _ [7] (by decide +kernel) (by decide +kernel)
set_option maxRecDepth 20000 in
theorem gX8_mark_X8_in : GoodIn wsX8_mark (va_wsS RX8 87 yX8_in wsX8_in) := goodIn_app (goodIn_of _ (by decide +kernel)) ggX8_mark_X8_in
set_option maxRecDepth 20000 in
theorem ggX8_mark_Jx4a65c_size_8abf5 : GoodIn wsX8_mark wsJx4a65c_size_8abf5 := goodIn_r _ [12, 13, 108, 109, 110] (by decide +kernel) (by decide +kernel)
set_option maxRecDepth 20000 in
theorem gX8_mark_Jx4a65c_size_8abf5 : GoodIn wsX8_mark (wsV RX8 140 RJx4a65c yJx4a65c_size_8abf5 wsJx4a65c_size_8abf5) := goodIn_app (goodIn_of _ (by decide +kernel)) ggX8_mark_Jx4a65c_size_8abf5
set_option maxRecDepth 20000 in
theorem ggX8_mark_J6_valueOf_2dffe : GoodIn wsX8_mark wsJ6_valueOf_2dffe := goodIn_r _ [17, 18, 19, 20, 21, 16, 22, 23, 24, 25, 26, 27, 28, 29, 30, 31, 32, 111] (by decide +kernel) (by decide +kernel)
set_option maxRecDepth 20000 in
theorem gX8_mark_J6_valueOf_2dffe : GoodIn wsX8_mark (va_wsS RX8 157 yJ6_valueOf_2dffe wsJ6_valueOf_2dffe) := goodIn_app (goodIn_of _ (by decide +kernel)) ggX8_mark_J6_valueOf_2dffe
set_option maxRecDepth 20000 in
theorem ggX8_mark_Jx4a65c_add_9ea2d : GoodIn wsX8_mark wsJx4a65c_add_9ea2d := goodIn_r _ [36, 37, 38, 39, 13, 40, 41, 42, 11, 43, 44, 45, 46, 47, 48, 49, 50, 51, 52, 53, 54, 55, 56, 57, 58, 59, 60, 61, 62, 63, 64, 65, 66, 67, 68, 69, 70, 71, 72, 73, 74, 75, 76, 77, 78, 79, 80, 81, 82, 83, 84, 85, 86, 108, 109, 110] (by decide +kernel) (by decide +kernel)
set_option maxRecDepth 20000 in
theorem gX8_mark_Jx4a65c_add_9ea2d : GoodIn wsX8_mark (wsV RX8 149 RJx4a65c yJx4a65c_add_9ea2d wsJx4a65c_add_9ea2d) := goodIn_app (goodIn_of _ (by decide +kernel)) ggX8_mark_Jx4a65c_add_9ea2d
theorem dX8_mark_0 : decode cX8_mark 0 = .ok (.aload_n 0, 1) := by decide +kernel
theorem dX8_mark_1 : decode cX8_mark 1 = .ok (.iload_n 1, 1) := by decide +kernel
theorem dX8_mark_2 : decode cX8_mark 2 = .ok (.i2l, 1) := by decide +kernel
theorem dX8_mark_3 : decode cX8_mark 3 = .ok (.lconst 0, 1) := by decide +kernel
theorem dX8_mark_4 : decode cX8_mark 4 = .ok (.ldc2_w 259, 3) := by decide +kernel
theorem dX8_mark_7 : decode cX8_mark 7 = .ok (.invokestatic 87, 3) := by decide +kernel
theorem dX8_mark_10 : decode cX8_mark 10 = .ok (.ifCond .ne 7, 3) := by decide +kernel
theorem dX8_mark_13 : decode cX8_mark 13 = .ok (.iconst 1, 1) := by decide +kernel
theorem dX8_mark_14 : decode cX8_mark 14 = .ok (.goto 20, 3) := by decide +kernel
theorem dX8_mark_17 : decode cX8_mark 17 = .ok (.aload_n 0, 1) := by decide +kernel
theorem dX8_mark_18 : decode cX8_mark 18 = .ok (.getfield 58, 3) := by decide +kernel
theorem dX8_mark_21 : decode cX8_mark 21 = .ok (.invokevirtual 140, 3) := by decide +kernel
theorem dX8_mark_24 : decode cX8_mark 24 = .ok (.bipush 20, 2) := by decide +kernel
theorem dX8_mark_26 : decode cX8_mark 26 = .ok (.if_icmp .ne 7, 3) := by decide +kernel
theorem dX8_mark_29 : decode cX8_mark 29 = .ok (.iconst 2, 1) := by decide +kernel
theorem dX8_mark_30 : decode cX8_mark 30 = .ok (.goto 4, 3) := by decide +kernel
theorem dX8_mark_33 : decode cX8_mark 33 = .ok (.iconst 0, 1) := by decide +kernel
theorem dX8_mark_34 : decode cX8_mark 34 = .ok (.putfield 76, 3) := by decide +kernel
theorem dX8_mark_37 : decode cX8_mark 37 = .ok (.aload_n 0, 1) := by decide +kernel
theorem dX8_mark_38 : decode cX8_mark 38 = .ok (.getfield 76, 3) := by decide +kernel
theorem dX8_mark_41 : decode cX8_mark 41 = .ok (.ifCond .le 5, 3) := by decide +kernel
theorem dX8_mark_44 : decode cX8_mark 44 = .ok (.iconst 0, 1) := by decide +kernel
theorem dX8_mark_45 : decode cX8_mark 45 = .ok (.ireturn, 1) := by decide +kernel
theorem dX8_mark_46 : decode cX8_mark 46 = .ok (.aload_n 0, 1) := by decide +kernel
theorem dX8_mark_47 : decode cX8_mark 47 = .ok (.getfield 58, 3) := by decide +kernel
theorem dX8_mark_50 : decode cX8_mark 50 = .ok (.iload_n 1, 1) := by decide +kernel
theorem dX8_mark_51 : decode cX8_mark 51 = .ok (.invokestatic 157, 3) := by decide +kernel
theorem dX8_mark_54 : decode cX8_mark 54 = .ok (.invokevirtual 149, 3) := by decide +kernel
theorem dX8_mark_57 : decode cX8_mark 57 = .ok (.pop, 1) := by decide +kernel
theorem dX8_mark_58 : decode cX8_mark 58 = .ok (.aload_n 0, 1) := by decide +kernel
theorem dX8_mark_59 : decode cX8_mark 59 = .ok (.getfield 58, 3) := by decide +kernel
theorem dX8_mark_62 : decode cX8_mark 62 = .ok (.invokevirtual 140, 3) := by decide +kernel
theorem dX8_mark_65 : decode cX8_mark 65 = .ok (.ireturn, 1) := by decide +kernel
set_option maxRecDepth 20000 in
theorem ggX8_wipe_Jx4a65c_size_8abf5 : GoodIn wsX8_wipe wsJx4a65c_size_8abf5 := goodIn_r _ [7, 8, 37, 38, 39] (by decide +kernel) (by decide +kernel)
set_option maxRecDepth 20000 in
theorem gX8_wipe_Jx4a65c_size_8abf5 : GoodIn wsX8_wipe (wsV RX8 140 RJx4a65c yJx4a65c_size_8abf5 wsJx4a65c_size_8abf5) := goodIn_app (goodIn_of _ (by decide +kernel)) ggX8_wipe_Jx4a65c_size_8abf5
set_option maxRecDepth 20000 in
theorem ggX8_wipe_Jx4a65c_clear_da8c8 : GoodIn wsX8_wipe wsJx4a65c_clear_da8c8 := goodIn_r _ [12, 13, 14, 15, 8, 37, 38, 39] (by decide +kernel) (by decide +kernel)
set_option maxRecDepth 20000 in
theorem gX8_wipe_Jx4a65c_clear_da8c8 : GoodIn wsX8_wipe (wsV RX8 167 RJx4a65c yJx4a65c_clear_da8c8 wsJx4a65c_clear_da8c8) := goodIn_app (goodIn_of _ (by decide +kernel)) ggX8_wipe_Jx4a65c_clear_da8c8
theorem dX8_wipe_0 : decode cX8_wipe 0 = .ok (.aload_n 0, 1) := by decide +kernel
theorem dX8_wipe_1 : decode cX8_wipe 1 = .ok (.iconst 0, 1) := by decide +kernel
theorem dX8_wipe_2 : decode cX8_wipe 2 = .ok (.putfield 76, 3) := by decide +kernel
theorem dX8_wipe_5 : decode cX8_wipe 5 = .ok (.aload_n 0, 1) := by decide +kernel
theorem dX8_wipe_6 : decode cX8_wipe 6 = .ok (.getfield 58, 3) := by decide +kernel
theorem dX8_wipe_9 : decode cX8_wipe 9 = .ok (.invokevirtual 140, 3) := by decide +kernel
theorem dX8_wipe_12 : decode cX8_wipe 12 = .ok (.istore_n 1, 1) := by decide +kernel
theorem dX8_wipe_13 : decode cX8_wipe 13 = .ok (.aload_n 0, 1) := by decide +kernel
theorem dX8_wipe_14 : decode cX8_wipe 14 = .ok (.getfield 58, 3) := by decide +kernel
theorem dX8_wipe_17 : decode cX8_wipe 17 = .ok (.invokevirtual 167, 3) := by decide +kernel
theorem dX8_wipe_20 : decode cX8_wipe 20 = .ok (.iload_n 1, 1) := by decide +kernel
theorem dX8_wipe_21 : decode cX8_wipe 21 = .ok (.ireturn, 1) := by decide +kernel
set_option maxRecDepth 20000 in
theorem ggX8_fits_Jx4a65c_iterator_32c93 : GoodIn wsX8_fits wsJx4a65c_iterator_32c93 := goodIn_r _ [7, 8, 9, 10, 11, 12, 13, 14, 15, 16, 17, 18, 19, 20, 21, 81, 82, 83, 84, 85, 86, 87] (by decide +kernel) (by decide +kernel)
set_option maxRecDepth 20000 in
theorem gX8_fits_Jx4a65c_iterator_32c93 : GoodIn wsX8_fits (wsV RX8 261 RJx4a65c yJx4a65c_iterator_32c93 wsJx4a65c_iterator_32c93) := goodIn_app (goodIn_of _ (by decide +kernel)) ggX8_fits_Jx4a65c_iterator_32c93
set_option maxRecDepth 20000 in
theorem ggX8_fits_Jx35411_hasNext_aae02 : GoodIn wsX8_fits wsJx35411_hasNext_aae02 := goodIn_r _ [25, 26, 14, 81, 82, 83, 84, 85, 86, 87] (by decide +kernel) (by decide +kernel)
set_option maxRecDepth 20000 in
theorem gX8_fits_Jx35411_hasNext_aae02_f265Jx35411 : GoodIn wsX8_fits (va_wsF RX8 265 RJx35411 ⟨"java/util/Iterator", "hasNext", "()Z"⟩ yJx35411_hasNext_aae02 wsJx35411_hasNext_aae02) := goodIn_app (goodIn_of _ (by decide +kernel)) ggX8_fits_Jx35411_hasNext_aae02
set_option maxRecDepth 20000 in
theorem ggX8_fits_Jx35411_next_0502b : GoodIn wsX8_fits wsJx35411_next_0502b := goodIn_r _ [30, 26, 14, 31, 18, 32, 33, 34, 10, 35, 19, 20, 21, 81, 82, 83, 84, 85, 86, 87] (by decide +kernel) (by decide +kernel)
set_option maxRecDepth 20000 in
theorem gX8_fits_Jx35411_next_0502b_f270Jx35411 : GoodIn wsX8_fits (va_wsF RX8 270 RJx35411 ⟨"java/util/Iterator", "next", "()Ljava/lang/Object;"⟩ yJx35411_next_0502b wsJx35411_next_0502b) := goodIn_app (goodIn_of _ (by decide +kernel)) ggX8_fits_Jx35411_next_0502b
set_option maxRecDepth 20000 in
theorem ggX8_fits_J6_intValue_8abf5 : GoodIn wsX8_fits wsJ6_intValue_8abf5 := goodIn_r _ [40, 41, 88] (by decide +kernel) (by decide +kernel)
set_option maxRecDepth 20000 in
theorem gX8_fits_J6_intValue_8abf5 : GoodIn wsX8_fits (wsV RX8 173 RJ6 yJ6_intValue_8abf5 wsJ6_intValue_8abf5) := goodIn_app (goodIn_of _ (by decide +kernel)) ggX8_fits_J6_intValue_8abf5
set_option maxRecDepth 20000 in
theorem ggX8_fits_Jx4a65c_get_915e3 : GoodIn wsX8_fits wsJx4a65c_get_915e3 := goodIn_r _ [45, 46, 47, 48, 49, 50, 51, 52, 53, 54, 55, 56, 57, 6, 58, 59, 85, 86, 87] (by decide +kernel) (by decide +kernel)
set_option maxRecDepth 20000 in
theorem gX8_fits_Jx4a65c_get_915e3 : GoodIn wsX8_fits (wsV RX8 170 RJx4a65c yJx4a65c_get_915e3 wsJx4a65c_get_915e3) := goodIn_app (goodIn_of _ (by decide +kernel)) ggX8_fits_Jx4a65c_get_915e3
theorem dX8_fits_0 : decode cX8_fits 0 = .ok (.iconst 1, 1) := by decide +kernel
theorem dX8_fits_1 : decode cX8_fits 1 = .ok (.istore_n 2, 1) := by decide +kernel
theorem dX8_fits_2 : decode cX8_fits 2 = .ok (.aload_n 0, 1) := by decide +kernel
theorem dX8_fits_3 : decode cX8_fits 3 = .ok (.getfield 58, 3) := by decide +kernel
theorem dX8_fits_6 : decode cX8_fits 6 = .ok (.invokevirtual 261, 3) := by decide +kernel
theorem dX8_fits_9 : decode cX8_fits 9 = .ok (.astore_n 3, 1) := by decide +kernel
theorem dX8_fits_10 : decode cX8_fits 10 = .ok (.aload_n 3, 1) := by decide +kernel
theorem dX8_fits_11 : decode cX8_fits 11 = .ok (.invokeinterface 265 1, 5) := by decide +kernel
theorem dX8_fits_16 : decode cX8_fits 16 = .ok (.ifCond .eq 53, 3) := by decide +kernel
theorem dX8_fits_19 : decode cX8_fits 19 = .ok (.aload_n 3, 1) := by decide +kernel
theorem dX8_fits_20 : decode cX8_fits 20 = .ok (.invokeinterface 270 1, 5) := by decide +kernel
theorem dX8_fits_25 : decode cX8_fits 25 = .ok (.checkcast 158, 3) := by decide +kernel
theorem dX8_fits_28 : decode cX8_fits 28 = .ok (.invokevirtual 173, 3) := by decide +kernel
theorem dX8_fits_31 : decode cX8_fits 31 = .ok (.istore 4, 2) := by decide +kernel
theorem dX8_fits_33 : decode cX8_fits 33 = .ok (.iload_n 2, 1) := by decide +kernel
theorem dX8_fits_34 : decode cX8_fits 34 = .ok (.ifCond .eq 30, 3) := by decide +kernel
theorem dX8_fits_37 : decode cX8_fits 37 = .ok (.iload 4, 2) := by decide +kernel
theorem dX8_fits_39 : decode cX8_fits 39 = .ok (.iload_n 1, 1) := by decide +kernel
theorem dX8_fits_40 : decode cX8_fits 40 = .ok (.irem, 1) := by decide +kernel
theorem dX8_fits_41 : decode cX8_fits 41 = .ok (.aload_n 0, 1) := by decide +kernel
theorem dX8_fits_42 : decode cX8_fits 42 = .ok (.getfield 58, 3) := by decide +kernel
theorem dX8_fits_45 : decode cX8_fits 45 = .ok (.iconst 0, 1) := by decide +kernel
theorem dX8_fits_46 : decode cX8_fits 46 = .ok (.invokevirtual 170, 3) := by decide +kernel
theorem dX8_fits_49 : decode cX8_fits 49 = .ok (.checkcast 158, 3) := by decide +kernel
theorem dX8_fits_52 : decode cX8_fits 52 = .ok (.invokevirtual 173, 3) := by decide +kernel
theorem dX8_fits_55 : decode cX8_fits 55 = .ok (.iload_n 1, 1) := by decide +kernel
theorem dX8_fits_56 : decode cX8_fits 56 = .ok (.irem, 1) := by decide +kernel
theorem dX8_fits_57 : decode cX8_fits 57 = .ok (.if_icmp .ne 7, 3) := by decide +kernel
theorem dX8_fits_60 : decode cX8_fits 60 = .ok (.iconst 1, 1) := by decide +kernel
theorem dX8_fits_61 : decode cX8_fits 61 = .ok (.goto 4, 3) := by decide +kernel
theorem dX8_fits_64 : decode cX8_fits 64 = .ok (.iconst 0, 1) := by decide +kernel
theorem dX8_fits_65 : decode cX8_fits 65 = .ok (.istore_n 2, 1) := by decide +kernel
theorem dX8_fits_66 : decode cX8_fits 66 = .ok (.goto (-56), 3) := by decide +kernel
theorem dX8_fits_69 : decode cX8_fits 69 = .ok (.iload_n 2, 1) := by decide +kernel
theorem dX8_fits_70 : decode cX8_fits 70 = .ok (.ireturn, 1) := by decide +kernel
set_option maxRecDepth 20000 in
theorem ggX8_fits__X8_fits : GoodIn wsX8_fits_ wsX8_fits := goodIn_ca (goodIn_r _ [6, 7, 8, 9, 10, 11, 12, 13, 14, 15, 16, 17, 18, 19, 20, 21, 22, 23, 24, 25, 26, 27, 28, 29, 30, 31, 32, 33, 34, 35, 36, 37, 38, 39, 40, 41, 42, 43, 44, 45, 46, 47, 48, 49, 50, 51, 52, 53, 54, 55, 56, 57, 58, 59, 60, 61, 62, 63, 64, 65, 66, 67, 68, 69, 70, 71, 72, 73, 74, 75, 76, 77, 78, 79, 80, 81, 82, 83, 84, 85, 86, 87, 88, 89, 90, 91, 92, 93, 94] (by decide +kernel) (by decide +kernel)) (goodIn_sub (fun _ h => List.mem_cons_of_mem _ (List.mem_append_right _ h)) (by decide +kernel))
set_option maxRecDepth 20000 in
theorem gX8_fits__X8_fits : GoodIn wsX8_fits_ (wsV RX8 274 RX8 yX8_fits wsX8_fits) := goodIn_app (goodIn_of _ (by decide +kernel)) ggX8_fits__X8_fits
theorem dX8_fits__0 : decode cX8_fits_ 0 = .ok (.aload_n 0, 1) := by decide +kernel
theorem dX8_fits__1 : decode cX8_fits_ 1 = .ok (.iconst 0, 1) := by decide +kernel
theorem dX8_fits__2 : decode cX8_fits_ 2 = .ok (.putfield 76, 3) := by decide +kernel
theorem dX8_fits__5 : decode cX8_fits_ 5 = .ok (.iconst 0, 1) := by decide +kernel
theorem dX8_fits__6 : decode cX8_fits_ 6 = .ok (.istore_n 1, 1) := by decide +kernel
theorem dX8_fits__7 : decode cX8_fits_ 7 = .ok (.iconst 2, 1) := by decide +kernel
theorem dX8_fits__8 : decode cX8_fits_ 8 = .ok (.istore_n 2, 1) := by decide +kernel
theorem dX8_fits__9 : decode cX8_fits_ 9 = .ok (.iload_n 2, 1) := by decide +kernel
theorem dX8_fits__10 : decode cX8_fits_ 10 = .ok (.bipush 99, 2) := by decide +kernel
theorem dX8_fits__12 : decode cX8_fits_ 12 = .ok (.if_icmp .gt 25, 3) := by decide +kernel
theorem dX8_fits__15 : decode cX8_fits_ 15 = .ok (.iload_n 1, 1) := by decide +kernel
theorem dX8_fits__16 : decode cX8_fits_ 16 = .ok (.aload_n 0, 1) := by decide +kernel
theorem dX8_fits__17 : decode cX8_fits_ 17 = .ok (.iload_n 2, 1) := by decide +kernel
theorem dX8_fits__18 : decode cX8_fits_ 18 = .ok (.invokevirtual 274, 3) := by decide +kernel
theorem dX8_fits__21 : decode cX8_fits_ 21 = .ok (.ifCond .eq 7, 3) := by decide +kernel
theorem dX8_fits__24 : decode cX8_fits_ 24 = .ok (.iconst 1, 1) := by decide +kernel
theorem dX8_fits__25 : decode cX8_fits_ 25 = .ok (.goto 4, 3) := by decide +kernel
theorem dX8_fits__28 : decode cX8_fits_ 28 = .ok (.iconst 0, 1) := by decide +kernel
theorem dX8_fits__29 : decode cX8_fits_ 29 = .ok (.iadd, 1) := by decide +kernel
theorem dX8_fits__30 : decode cX8_fits_ 30 = .ok (.istore_n 1, 1) := by decide +kernel
theorem dX8_fits__31 : decode cX8_fits_ 31 = .ok (.iinc 2 1, 3) := by decide +kernel
theorem dX8_fits__34 : decode cX8_fits_ 34 = .ok (.goto (-25), 3) := by decide +kernel
theorem dX8_fits__37 : decode cX8_fits_ 37 = .ok (.iload_n 1, 1) := by decide +kernel
theorem dX8_fits__38 : decode cX8_fits_ 38 = .ok (.ireturn, 1) := by decide +kernel
set_option maxRecDepth 20000 in
theorem ggX8_guess_Jx4a65c_size_8abf5 : GoodIn wsX8_guess wsJx4a65c_size_8abf5 := goodIn_r _ [7, 8, 91, 92, 93] (by decide +kernel) (by decide +kernel)
set_option maxRecDepth 20000 in
theorem gX8_guess_Jx4a65c_size_8abf5 : GoodIn wsX8_guess (wsV RX8 140 RJx4a65c yJx4a65c_size_8abf5 wsJx4a65c_size_8abf5) := goodIn_app (goodIn_of _ (by decide +kernel)) ggX8_guess_Jx4a65c_size_8abf5
set_option maxRecDepth 20000 in
theorem ggX8_guess_X8_fits : GoodIn wsX8_guess wsX8_fits := goodIn_ca (goodIn_r _ [13, 1, 14, 15, 16, 17, 6, 18, 19, 20, 21, 22, 23, 24, 25, 26, 27, 28, 29, 30, 31, 32, 33, 34, 35, 36, 37, 38, 39, 40, 41, 42, 43, 44, 45, 46, 47, 48, 49, 50, 51, 52, 53, 54, 55, 56, 8, 57, 58, 59, 60, 61, 62, 63, 64, 65, 66, 67, 68, 69, 70, 71, 72, 73, 74, 75, 76, 77, 78, 79, 80, 81, 82, 83, 84, 85, 86, 87, 88, 89, 90, 94, 95, 96, 97, 91, 92, 93, 98] (by decide +kernel) (by decide +kernel)) (goodIn_sub (fun _ h => List.mem_cons_of_mem _ (List.mem_append_right _ h)) (by decide +kernel))
set_option maxRecDepth 20000 in
theorem gX8_guess_X8_fits : GoodIn wsX8_guess (wsV RX8 274 RX8 yX8_fits wsX8_fits) := goodIn_app (goodIn_of _ (by decide +kernel)) ggX8_guess_X8_fits
theorem dX8_guess_0 : decode cX8_guess 0 = .ok (.aload_n 0, 1) := by decide +kernel
theorem dX8_guess_1 : decode cX8_guess 1 = .ok (.getfield 58, 3) := by decide +kernel
theorem dX8_guess_4 : decode cX8_guess 4 = .ok (.invokevirtual 140, 3) := by decide +kernel
theorem dX8_guess_7 : decode cX8_guess 7 = .ok (.iconst 2, 1) := by decide +kernel
theorem dX8_guess_8 : decode cX8_guess 8 = .ok (.if_icmp .lt 7, 3) := by decide +kernel
theorem dX8_guess_11 : decode cX8_guess 11 = .ok (.iload_n 1, 1) := by decide +kernel
theorem dX8_guess_12 : decode cX8_guess 12 = .ok (.ifCond .ge 8, 3) := by decide +kernel
theorem dX8_guess_15 : decode cX8_guess 15 = .ok (.bipush 99, 2) := by decide +kernel
theorem dX8_guess_17 : decode cX8_guess 17 = .ok (.goto 4, 3) := by decide +kernel
theorem dX8_guess_20 : decode cX8_guess 20 = .ok (.iload_n 1, 1) := by decide +kernel
theorem dX8_guess_21 : decode cX8_guess 21 = .ok (.istore_n 2, 1) := by decide +kernel
theorem dX8_guess_22 : decode cX8_guess 22 = .ok (.aload_n 0, 1) := by decide +kernel
theorem dX8_guess_23 : decode cX8_guess 23 = .ok (.iconst 0, 1) := by decide +kernel
theorem dX8_guess_24 : decode cX8_guess 24 = .ok (.putfield 76, 3) := by decide +kernel
theorem dX8_guess_27 : decode cX8_guess 27 = .ok (.bipush 99, 2) := by decide +kernel
theorem dX8_guess_29 : decode cX8_guess 29 = .ok (.istore_n 3, 1) := by decide +kernel
theorem dX8_guess_30 : decode cX8_guess 30 = .ok (.iload_n 3, 1) := by decide +kernel
theorem dX8_guess_31 : decode cX8_guess 31 = .ok (.iconst 2, 1) := by decide +kernel
theorem dX8_guess_32 : decode cX8_guess 32 = .ok (.if_icmp .lt 26, 3) := by decide +kernel
theorem dX8_guess_35 : decode cX8_guess 35 = .ok (.aload_n 0, 1) := by decide +kernel
theorem dX8_guess_36 : decode cX8_guess 36 = .ok (.iload_n 3, 1) := by decide +kernel
theorem dX8_guess_37 : decode cX8_guess 37 = .ok (.invokevirtual 274, 3) := by decide +kernel
theorem dX8_guess_40 : decode cX8_guess 40 = .ok (.ifCond .eq 12, 3) := by decide +kernel
theorem dX8_guess_43 : decode cX8_guess 43 = .ok (.iload_n 2, 1) := by decide +kernel
theorem dX8_guess_44 : decode cX8_guess 44 = .ok (.ifCond .ne 5, 3) := by decide +kernel
theorem dX8_guess_47 : decode cX8_guess 47 = .ok (.iload_n 3, 1) := by decide +kernel
theorem dX8_guess_48 : decode cX8_guess 48 = .ok (.ireturn, 1) := by decide +kernel
theorem dX8_guess_49 : decode cX8_guess 49 = .ok (.iinc 2 (-1), 3) := by decide +kernel
theorem dX8_guess_52 : decode cX8_guess 52 = .ok (.iinc 3 (-1), 3) := by decide +kernel
theorem dX8_guess_55 : decode cX8_guess 55 = .ok (.goto (-25), 3) := by decide +kernel
theorem dX8_guess_58 : decode cX8_guess 58 = .ok (.aload_n 0, 1) := by decide +kernel
theorem dX8_guess_59 : decode cX8_guess 59 = .ok (.iconst 1, 1) := by decide +kernel
theorem dX8_guess_60 : decode cX8_guess 60 = .ok (.putfield 76, 3) := by decide +kernel
theorem dX8_guess_63 : decode cX8_guess 63 = .ok (.iconst 0, 1) := by decide +kernel
theorem dX8_guess_64 : decode cX8_guess 64 = .ok (.ireturn, 1) := by decide +kernel
set_option maxRecDepth 20000 in
theorem ggX8_beam_X8_in : GoodIn wsX8_beam wsX8_in := goodIn_r _ [8] (by decide +kernel) (by decide +kernel)
set_option maxRecDepth 20000 in
theorem gX8_beam_X8_in : GoodIn wsX8_beam (va_wsS RX8 87 yX8_in wsX8_in) := goodIn_app (goodIn_of _ (by decide +kernel)) ggX8_beam_X8_in
theorem dX8_beam_0 : decode cX8_beam 0 = .ok (.aload_n 0, 1) := by decide +kernel
theorem dX8_beam_1 : decode cX8_beam 1 = .ok (.iload_n 1, 1) := by decide +kernel
theorem dX8_beam_2 : decode cX8_beam 2 = .ok (.i2l, 1) := by decide +kernel
theorem dX8_beam_3 : decode cX8_beam 3 = .ok (.lconst 1, 1) := by decide +kernel
theorem dX8_beam_4 : decode cX8_beam 4 = .ok (.ldc2_w 93, 3) := by decide +kernel
theorem dX8_beam_7 : decode cX8_beam 7 = .ok (.invokestatic 87, 3) := by decide +kernel
theorem dX8_beam_10 : decode cX8_beam 10 = .ok (.ifCond .eq 19, 3) := by decide +kernel
theorem dX8_beam_13 : decode cX8_beam 13 = .ok (.iload_n 2, 1) := by decide +kernel
theorem dX8_beam_14 : decode cX8_beam 14 = .ok (.i2l, 1) := by decide +kernel
theorem dX8_beam_15 : decode cX8_beam 15 = .ok (.lconst 0, 1) := by decide +kernel
theorem dX8_beam_16 : decode cX8_beam 16 = .ok (.ldc2_w 93, 3) := by decide +kernel
theorem dX8_beam_19 : decode cX8_beam 19 = .ok (.invokestatic 87, 3) := by decide +kernel
theorem dX8_beam_22 : decode cX8_beam 22 = .ok (.ifCond .eq 7, 3) := by decide +kernel
theorem dX8_beam_25 : decode cX8_beam 25 = .ok (.iconst 0, 1) := by decide +kernel
theorem dX8_beam_26 : decode cX8_beam 26 = .ok (.goto 4, 3) := by decide +kernel
theorem dX8_beam_29 : decode cX8_beam 29 = .ok (.iconst 1, 1) := by decide +kernel
theorem dX8_beam_30 : decode cX8_beam 30 = .ok (.putfield 76, 3) := by decide +kernel
theorem dX8_beam_33 : decode cX8_beam 33 = .ok (.aload_n 0, 1) := by decide +kernel
theorem dX8_beam_34 : decode cX8_beam 34 = .ok (.getfield 76, 3) := by decide +kernel
theorem dX8_beam_37 : decode cX8_beam 37 = .ok (.ifCond .le 5, 3) := by decide +kernel
theorem dX8_beam_40 : decode cX8_beam 40 = .ok (.iconst 0, 1) := by decide +kernel
theorem dX8_beam_41 : decode cX8_beam 41 = .ok (.ireturn, 1) := by decide +kernel
theorem dX8_beam_42 : decode cX8_beam 42 = .ok (.aload_n 0, 1) := by decide +kernel
theorem dX8_beam_43 : decode cX8_beam 43 = .ok (.getfield 72, 3) := by decide +kernel
theorem dX8_beam_46 : decode cX8_beam 46 = .ok (.istore_n 3, 1) := by decide +kernel
theorem dX8_beam_47 : decode cX8_beam 47 = .ok (.aload_n 0, 1) := by decide +kernel
theorem dX8_beam_48 : decode cX8_beam 48 = .ok (.iload_n 1, 1) := by decide +kernel
theorem dX8_beam_49 : decode cX8_beam 49 = .ok (.putfield 72, 3) := by decide +kernel
theorem dX8_beam_52 : decode cX8_beam 52 = .ok (.aload_n 0, 1) := by decide +kernel
theorem dX8_beam_53 : decode cX8_beam 53 = .ok (.iload_n 2, 1) := by decide +kernel
theorem dX8_beam_54 : decode cX8_beam 54 = .ok (.putfield 277, 3) := by decide +kernel
theorem dX8_beam_57 : decode cX8_beam 57 = .ok (.iload_n 3, 1) := by decide +kernel
theorem dX8_beam_58 : decode cX8_beam 58 = .ok (.ireturn, 1) := by decide +kernel
theorem dX8_manySwings_0 : decode cX8_manySwings 0 = .ok (.iconst 0, 1) := by decide +kernel
theorem dX8_manySwings_1 : decode cX8_manySwings 1 = .ok (.istore_n 1, 1) := by decide +kernel
theorem dX8_manySwings_2 : decode cX8_manySwings 2 = .ok (.aload_n 0, 1) := by decide +kernel
theorem dX8_manySwings_3 : decode cX8_manySwings 3 = .ok (.getfield 61, 3) := by decide +kernel
theorem dX8_manySwings_6 : decode cX8_manySwings 6 = .ok (.astore_n 2, 1) := by decide +kernel
theorem dX8_manySwings_7 : decode cX8_manySwings 7 = .ok (.aload_n 2, 1) := by decide +kernel
theorem dX8_manySwings_8 : decode cX8_manySwings 8 = .ok (.arraylength, 1) := by decide +kernel
theorem dX8_manySwings_9 : decode cX8_manySwings 9 = .ok (.istore_n 3, 1) := by decide +kernel
theorem dX8_manySwings_10 : decode cX8_manySwings 10 = .ok (.iconst 0, 1) := by decide +kernel
theorem dX8_manySwings_11 : decode cX8_manySwings 11 = .ok (.istore 4, 2) := by decide +kernel
theorem dX8_manySwings_13 : decode cX8_manySwings 13 = .ok (.iload 4, 2) := by decide +kernel
theorem dX8_manySwings_15 : decode cX8_manySwings 15 = .ok (.iload_n 3, 1) := by decide +kernel
theorem dX8_manySwings_16 : decode cX8_manySwings 16 = .ok (.if_icmp .ge 28, 3) := by decide +kernel
theorem dX8_manySwings_19 : decode cX8_manySwings 19 = .ok (.aload_n 2, 1) := by decide +kernel
theorem dX8_manySwings_20 : decode cX8_manySwings 20 = .ok (.iload 4, 2) := by decide +kernel
theorem dX8_manySwings_22 : decode cX8_manySwings 22 = .ok (.baload, 1) := by decide +kernel
theorem dX8_manySwings_23 : decode cX8_manySwings 23 = .ok (.istore 5, 2) := by decide +kernel
theorem dX8_manySwings_25 : decode cX8_manySwings 25 = .ok (.iload_n 1, 1) := by decide +kernel
theorem dX8_manySwings_26 : decode cX8_manySwings 26 = .ok (.iload 5, 2) := by decide +kernel
theorem dX8_manySwings_28 : decode cX8_manySwings 28 = .ok (.ifCond .eq 7, 3) := by decide +kernel
theorem dX8_manySwings_31 : decode cX8_manySwings 31 = .ok (.iconst 1, 1) := by decide +kernel
theorem dX8_manySwings_32 : decode cX8_manySwings 32 = .ok (.goto 4, 3) := by decide +kernel
theorem dX8_manySwings_35 : decode cX8_manySwings 35 = .ok (.iconst 0, 1) := by decide +kernel
theorem dX8_manySwings_36 : decode cX8_manySwings 36 = .ok (.iadd, 1) := by decide +kernel
theorem dX8_manySwings_37 : decode cX8_manySwings 37 = .ok (.istore_n 1, 1) := by decide +kernel
theorem dX8_manySwings_38 : decode cX8_manySwings 38 = .ok (.iinc 4 1, 3) := by decide +kernel
theorem dX8_manySwings_41 : decode cX8_manySwings 41 = .ok (.goto (-28), 3) := by decide +kernel
theorem dX8_manySwings_44 : decode cX8_manySwings 44 = .ok (.iload_n 1, 1) := by decide +kernel
theorem dX8_manySwings_45 : decode cX8_manySwings 45 = .ok (.ireturn, 1) := by decide +kernel
set_option maxRecDepth 20000 in
theorem ggX8_sway_X8_in : GoodIn wsX8_sway wsX8_in := goodIn_r _ [12] (by decide +kernel) (by decide +kernel)
set_option maxRecDepth 20000 in
theorem gX8_sway_X8_in : GoodIn wsX8_sway (va_wsS RX8 87 yX8_in wsX8_in) := goodIn_app (goodIn_of _ (by decide +kernel)) ggX8_sway_X8_in
set_option maxRecDepth 20000 in
theorem ggX8_sway_X8_manySwings : GoodIn wsX8_sway wsX8_manySwings := goodIn_ca (goodIn_r _ [16, 3, 17, 18, 19, 20, 21, 22, 23, 24, 25, 26, 27, 28, 29, 30, 31, 32, 33, 34, 35, 36, 37] (by decide +kernel) (by decide +kernel)) (goodIn_sub (fun _ h => List.mem_cons_of_mem _ (List.mem_append_right _ h)) (by decide +kernel))
set_option maxRecDepth 20000 in
theorem gX8_sway_X8_manySwings : GoodIn wsX8_sway (wsV RX8 280 RX8 yX8_manySwings wsX8_manySwings) := goodIn_app (goodIn_of _ (by decide +kernel)) ggX8_sway_X8_manySwings
theorem dX8_sway_0 : decode cX8_sway 0 = .ok (.aload_n 0, 1) := by decide +kernel
theorem dX8_sway_1 : decode cX8_sway 1 = .ok (.iload_n 1, 1) := by decide +kernel
theorem dX8_sway_2 : decode cX8_sway 2 = .ok (.i2l, 1) := by decide +kernel
theorem dX8_sway_3 : decode cX8_sway 3 = .ok (.lconst 1, 1) := by decide +kernel
theorem dX8_sway_4 : decode cX8_sway 4 = .ok (.ldc2_w 176, 3) := by decide +kernel
theorem dX8_sway_7 : decode cX8_sway 7 = .ok (.invokestatic 87, 3) := by decide +kernel
theorem dX8_sway_10 : decode cX8_sway 10 = .ok (.ifCond .eq 7, 3) := by decide +kernel
theorem dX8_sway_13 : decode cX8_sway 13 = .ok (.iconst 0, 1) := by decide +kernel
theorem dX8_sway_14 : decode cX8_sway 14 = .ok (.goto 4, 3) := by decide +kernel
theorem dX8_sway_17 : decode cX8_sway 17 = .ok (.iconst 1, 1) := by decide +kernel
theorem dX8_sway_18 : decode cX8_sway 18 = .ok (.putfield 76, 3) := by decide +kernel
theorem dX8_sway_21 : decode cX8_sway 21 = .ok (.aload_n 0, 1) := by decide +kernel
theorem dX8_sway_22 : decode cX8_sway 22 = .ok (.getfield 76, 3) := by decide +kernel
theorem dX8_sway_25 : decode cX8_sway 25 = .ok (.ifCond .le 7, 3) := by decide +kernel
theorem dX8_sway_28 : decode cX8_sway 28 = .ok (.iconst 0, 1) := by decide +kernel
theorem dX8_sway_29 : decode cX8_sway 29 = .ok (.goto 7, 3) := by decide +kernel
theorem dX8_sway_32 : decode cX8_sway 32 = .ok (.aload_n 0, 1) := by decide +kernel
theorem dX8_sway_33 : decode cX8_sway 33 = .ok (.invokevirtual 280, 3) := by decide +kernel
theorem dX8_sway_36 : decode cX8_sway 36 = .ok (.istore_n 2, 1) := by decide +kernel
theorem dX8_sway_37 : decode cX8_sway 37 = .ok (.iconst 0, 1) := by decide +kernel
theorem dX8_sway_38 : decode cX8_sway 38 = .ok (.istore_n 3, 1) := by decide +kernel
theorem dX8_sway_39 : decode cX8_sway 39 = .ok (.iload_n 3, 1) := by decide +kernel
theorem dX8_sway_40 : decode cX8_sway 40 = .ok (.iload_n 1, 1) := by decide +kernel
theorem dX8_sway_41 : decode cX8_sway 41 = .ok (.if_icmp .ge 214, 3) := by decide +kernel
theorem dX8_sway_44 : decode cX8_sway 44 = .ok (.iload_n 2, 1) := by decide +kernel
theorem dX8_sway_45 : decode cX8_sway 45 = .ok (.ifCond .le 210, 3) := by decide +kernel
theorem dX8_sway_48 : decode cX8_sway 48 = .ok (.fconst 0, 1) := by decide +kernel
theorem dX8_sway_49 : decode cX8_sway 49 = .ok (.fstore 4, 2) := by decide +kernel
theorem dX8_sway_51 : decode cX8_sway 51 = .ok (.iconst 0, 1) := by decide +kernel
theorem dX8_sway_52 : decode cX8_sway 52 = .ok (.istore 5, 2) := by decide +kernel
theorem dX8_sway_54 : decode cX8_sway 54 = .ok (.iload 5, 2) := by decide +kernel
theorem dX8_sway_56 : decode cX8_sway 56 = .ok (.iconst 4, 1) := by decide +kernel
theorem dX8_sway_57 : decode cX8_sway 57 = .ok (.if_icmp .ge 36, 3) := by decide +kernel
theorem dX8_sway_60 : decode cX8_sway 60 = .ok (.aload_n 0, 1) := by decide +kernel
theorem dX8_sway_61 : decode cX8_sway 61 = .ok (.getfield 61, 3) := by decide +kernel
theorem dX8_sway_64 : decode cX8_sway 64 = .ok (.iload 5, 2) := by decide +kernel
theorem dX8_sway_66 : decode cX8_sway 66 = .ok (.baload, 1) := by decide +kernel
theorem dX8_sway_67 : decode cX8_sway 67 = .ok (.ifCond .eq 16, 3) := by decide +kernel
theorem dX8_sway_70 : decode cX8_sway 70 = .ok (.fload 4, 2) := by decide +kernel
theorem dX8_sway_72 : decode cX8_sway 72 = .ok (.aload_n 0, 1) := by decide +kernel
theorem dX8_sway_73 : decode cX8_sway 73 = .ok (.getfield 65, 3) := by decide +kernel
theorem dX8_sway_76 : decode cX8_sway 76 = .ok (.iload 5, 2) := by decide +kernel
theorem dX8_sway_78 : decode cX8_sway 78 = .ok (.faload, 1) := by decide +kernel
theorem dX8_sway_79 : decode cX8_sway 79 = .ok (.fadd, 1) := by decide +kernel
theorem dX8_sway_80 : decode cX8_sway 80 = .ok (.goto 5, 3) := by decide +kernel
theorem dX8_sway_83 : decode cX8_sway 83 = .ok (.fload 4, 2) := by decide +kernel
theorem dX8_sway_85 : decode cX8_sway 85 = .ok (.fstore 4, 2) := by decide +kernel
theorem dX8_sway_87 : decode cX8_sway 87 = .ok (.iinc 5 1, 3) := by decide +kernel
theorem dX8_sway_90 : decode cX8_sway 90 = .ok (.goto (-36), 3) := by decide +kernel
theorem dX8_sway_93 : decode cX8_sway 93 = .ok (.fload 4, 2) := by decide +kernel
theorem dX8_sway_95 : decode cX8_sway 95 = .ok (.iload_n 2, 1) := by decide +kernel
theorem dX8_sway_96 : decode cX8_sway 96 = .ok (.i2f, 1) := by decide +kernel
theorem dX8_sway_97 : decode cX8_sway 97 = .ok (.fdiv, 1) := by decide +kernel
theorem dX8_sway_98 : decode cX8_sway 98 = .ok (.fstore 5, 2) := by decide +kernel
theorem dX8_sway_100 : decode cX8_sway 100 = .ok (.iconst 0, 1) := by decide +kernel
theorem dX8_sway_101 : decode cX8_sway 101 = .ok (.istore 6, 2) := by decide +kernel
theorem dX8_sway_103 : decode cX8_sway 103 = .ok (.iload 6, 2) := by decide +kernel
theorem dX8_sway_105 : decode cX8_sway 105 = .ok (.iconst 4, 1) := by decide +kernel
theorem dX8_sway_106 : decode cX8_sway 106 = .ok (.if_icmp .ge 82, 3) := by decide +kernel
theorem dX8_sway_109 : decode cX8_sway 109 = .ok (.aload_n 0, 1) := by decide +kernel
theorem dX8_sway_110 : decode cX8_sway 110 = .ok (.getfield 277, 3) := by decide +kernel
theorem dX8_sway_113 : decode cX8_sway 113 = .ok (.i2f, 1) := by decide +kernel
theorem dX8_sway_114 : decode cX8_sway 114 = .ok (.fload 5, 2) := by decide +kernel
theorem dX8_sway_116 : decode cX8_sway 116 = .ok (.aload_n 0, 1) := by decide +kernel
theorem dX8_sway_117 : decode cX8_sway 117 = .ok (.getfield 65, 3) := by decide +kernel
theorem dX8_sway_120 : decode cX8_sway 120 = .ok (.iload 6, 2) := by decide +kernel
theorem dX8_sway_122 : decode cX8_sway 122 = .ok (.faload, 1) := by decide +kernel
theorem dX8_sway_123 : decode cX8_sway 123 = .ok (.fsub, 1) := by decide +kernel
theorem dX8_sway_124 : decode cX8_sway 124 = .ok (.fmul, 1) := by decide +kernel
theorem dX8_sway_125 : decode cX8_sway 125 = .ok (.aload_n 0, 1) := by decide +kernel
theorem dX8_sway_126 : decode cX8_sway 126 = .ok (.getfield 72, 3) := by decide +kernel
theorem dX8_sway_129 : decode cX8_sway 129 = .ok (.i2f, 1) := by decide +kernel
theorem dX8_sway_130 : decode cX8_sway 130 = .ok (.aload_n 0, 1) := by decide +kernel
theorem dX8_sway_131 : decode cX8_sway 131 = .ok (.getfield 65, 3) := by decide +kernel
theorem dX8_sway_134 : decode cX8_sway 134 = .ok (.iload 6, 2) := by decide +kernel
theorem dX8_sway_136 : decode cX8_sway 136 = .ok (.faload, 1) := by decide +kernel
theorem dX8_sway_137 : decode cX8_sway 137 = .ok (.fmul, 1) := by decide +kernel
theorem dX8_sway_138 : decode cX8_sway 138 = .ok (.fsub, 1) := by decide +kernel
theorem dX8_sway_139 : decode cX8_sway 139 = .ok (.fstore 7, 2) := by decide +kernel
theorem dX8_sway_141 : decode cX8_sway 141 = .ok (.aload_n 0, 1) := by decide +kernel
theorem dX8_sway_142 : decode cX8_sway 142 = .ok (.getfield 69, 3) := by decide +kernel
theorem dX8_sway_145 : decode cX8_sway 145 = .ok (.iload 6, 2) := by decide +kernel
theorem dX8_sway_147 : decode cX8_sway 147 = .ok (.aload_n 0, 1) := by decide +kernel
theorem dX8_sway_148 : decode cX8_sway 148 = .ok (.getfield 61, 3) := by decide +kernel
theorem dX8_sway_151 : decode cX8_sway 151 = .ok (.iload 6, 2) := by decide +kernel
theorem dX8_sway_153 : decode cX8_sway 153 = .ok (.baload, 1) := by decide +kernel
theorem dX8_sway_154 : decode cX8_sway 154 = .ok (.ifCond .eq 20, 3) := by decide +kernel
theorem dX8_sway_157 : decode cX8_sway 157 = .ok (.aload_n 0, 1) := by decide +kernel
theorem dX8_sway_158 : decode cX8_sway 158 = .ok (.getfield 69, 3) := by decide +kernel
theorem dX8_sway_161 : decode cX8_sway 161 = .ok (.iload 6, 2) := by decide +kernel
theorem dX8_sway_163 : decode cX8_sway 163 = .ok (.faload, 1) := by decide +kernel
theorem dX8_sway_164 : decode cX8_sway 164 = .ok (.ldc_w 283, 3) := by decide +kernel
theorem dX8_sway_167 : decode cX8_sway 167 = .ok (.fload 7, 2) := by decide +kernel
theorem dX8_sway_169 : decode cX8_sway 169 = .ok (.fmul, 1) := by decide +kernel
theorem dX8_sway_170 : decode cX8_sway 170 = .ok (.fadd, 1) := by decide +kernel
theorem dX8_sway_171 : decode cX8_sway 171 = .ok (.goto 10, 3) := by decide +kernel
theorem dX8_sway_174 : decode cX8_sway 174 = .ok (.aload_n 0, 1) := by decide +kernel
theorem dX8_sway_175 : decode cX8_sway 175 = .ok (.getfield 69, 3) := by decide +kernel
theorem dX8_sway_178 : decode cX8_sway 178 = .ok (.iload 6, 2) := by decide +kernel
theorem dX8_sway_180 : decode cX8_sway 180 = .ok (.faload, 1) := by decide +kernel
theorem dX8_sway_181 : decode cX8_sway 181 = .ok (.fastore, 1) := by decide +kernel
theorem dX8_sway_182 : decode cX8_sway 182 = .ok (.iinc 6 1, 3) := by decide +kernel
theorem dX8_sway_185 : decode cX8_sway 185 = .ok (.goto (-82), 3) := by decide +kernel
theorem dX8_sway_188 : decode cX8_sway 188 = .ok (.iconst 0, 1) := by decide +kernel
theorem dX8_sway_189 : decode cX8_sway 189 = .ok (.istore 6, 2) := by decide +kernel
theorem dX8_sway_191 : decode cX8_sway 191 = .ok (.iload 6, 2) := by decide +kernel
theorem dX8_sway_193 : decode cX8_sway 193 = .ok (.iconst 4, 1) := by decide +kernel
theorem dX8_sway_194 : decode cX8_sway 194 = .ok (.if_icmp .ge 55, 3) := by decide +kernel
theorem dX8_sway_197 : decode cX8_sway 197 = .ok (.aload_n 0, 1) := by decide +kernel
theorem dX8_sway_198 : decode cX8_sway 198 = .ok (.getfield 65, 3) := by decide +kernel
theorem dX8_sway_201 : decode cX8_sway 201 = .ok (.iload 6, 2) := by decide +kernel
theorem dX8_sway_203 : decode cX8_sway 203 = .ok (.aload_n 0, 1) := by decide +kernel
theorem dX8_sway_204 : decode cX8_sway 204 = .ok (.getfield 61, 3) := by decide +kernel
theorem dX8_sway_207 : decode cX8_sway 207 = .ok (.iload 6, 2) := by decide +kernel
theorem dX8_sway_209 : decode cX8_sway 209 = .ok (.baload, 1) := by decide +kernel
theorem dX8_sway_210 : decode cX8_sway 210 = .ok (.ifCond .eq 25, 3) := by decide +kernel
theorem dX8_sway_213 : decode cX8_sway 213 = .ok (.aload_n 0, 1) := by decide +kernel
theorem dX8_sway_214 : decode cX8_sway 214 = .ok (.getfield 65, 3) := by decide +kernel
theorem dX8_sway_217 : decode cX8_sway 217 = .ok (.iload 6, 2) := by decide +kernel
theorem dX8_sway_219 : decode cX8_sway 219 = .ok (.faload, 1) := by decide +kernel
theorem dX8_sway_220 : decode cX8_sway 220 = .ok (.ldc_w 283, 3) := by decide +kernel
theorem dX8_sway_223 : decode cX8_sway 223 = .ok (.aload_n 0, 1) := by decide +kernel
theorem dX8_sway_224 : decode cX8_sway 224 = .ok (.getfield 69, 3) := by decide +kernel
theorem dX8_sway_227 : decode cX8_sway 227 = .ok (.iload 6, 2) := by decide +kernel
theorem dX8_sway_229 : decode cX8_sway 229 = .ok (.faload, 1) := by decide +kernel
theorem dX8_sway_230 : decode cX8_sway 230 = .ok (.fmul, 1) := by decide +kernel
theorem dX8_sway_231 : decode cX8_sway 231 = .ok (.fadd, 1) := by decide +kernel
theorem dX8_sway_232 : decode cX8_sway 232 = .ok (.goto 10, 3) := by decide +kernel
theorem dX8_sway_235 : decode cX8_sway 235 = .ok (.aload_n 0, 1) := by decide +kernel
theorem dX8_sway_236 : decode cX8_sway 236 = .ok (.getfield 65, 3) := by decide +kernel
theorem dX8_sway_239 : decode cX8_sway 239 = .ok (.iload 6, 2) := by decide +kernel
theorem dX8_sway_241 : decode cX8_sway 241 = .ok (.faload, 1) := by decide +kernel
theorem dX8_sway_242 : decode cX8_sway 242 = .ok (.fastore, 1) := by decide +kernel
theorem dX8_sway_243 : decode cX8_sway 243 = .ok (.iinc 6 1, 3) := by decide +kernel
theorem dX8_sway_246 : decode cX8_sway 246 = .ok (.goto (-55), 3) := by decide +kernel
theorem dX8_sway_249 : decode cX8_sway 249 = .ok (.iinc 3 1, 3) := by decide +kernel
theorem dX8_sway_252 : decode cX8_sway 252 = .ok (.goto (-213), 3) := by decide +kernel
theorem dX8_sway_255 : decode cX8_sway 255 = .ok (.iload_n 2, 1) := by decide +kernel
theorem dX8_sway_256 : decode cX8_sway 256 = .ok (.ireturn, 1) := by decide +kernel
set_option maxRecDepth 20000 in
theorem ggX8_angleBits_X8_in : GoodIn wsX8_angleBits wsX8_in := goodIn_r _ [9] (by decide +kernel) (by decide +kernel)
set_option maxRecDepth 20000 in
theorem gX8_angleBits_X8_in : GoodIn wsX8_angleBits (va_wsS RX8 87 yX8_in wsX8_in) := goodIn_app (goodIn_of _ (by decide +kernel)) ggX8_angleBits_X8_in
set_option maxRecDepth 20000 in
theorem ggX8_angleBits_X8_isPlace : GoodIn wsX8_angleBits wsX8_isPlace := goodIn_r _ [12, 2, 6, 7, 8, 9] (by decide +kernel) (by decide +kernel)
set_option maxRecDepth 20000 in
theorem gX8_angleBits_X8_isPlace : GoodIn wsX8_angleBits (va_wsS RX8 95 yX8_isPlace wsX8_isPlace) := goodIn_app (goodIn_of _ (by decide +kernel)) ggX8_angleBits_X8_isPlace
set_option maxRecDepth 20000 in
theorem ggX8_angleBits_Jxf58ca_floatToIntBits_5c35a : GoodIn wsX8_angleBits wsJxf58ca_floatToIntBits_5c35a := goodIn_r _ [16, 17, 18, 19, 20, 21, 22, 23, 15, 24] (by decide +kernel) (by decide +kernel)
set_option maxRecDepth 20000 in
theorem gX8_angleBits_Jxf58ca_floatToIntBits_5c35a : GoodIn wsX8_angleBits (va_wsS RX8 286 yJxf58ca_floatToIntBits_5c35a wsJxf58ca_floatToIntBits_5c35a) := goodIn_app (goodIn_of _ (by decide +kernel)) ggX8_angleBits_Jxf58ca_floatToIntBits_5c35a
theorem dX8_angleBits_0 : decode cX8_angleBits 0 = .ok (.iload_n 1, 1) := by decide +kernel
theorem dX8_angleBits_1 : decode cX8_angleBits 1 = .ok (.i2l, 1) := by decide +kernel
theorem dX8_angleBits_2 : decode cX8_angleBits 2 = .ok (.ldc2_w 284, 3) := by decide +kernel
theorem dX8_angleBits_5 : decode cX8_angleBits 5 = .ok (.ldc2_w 85, 3) := by decide +kernel
theorem dX8_angleBits_8 : decode cX8_angleBits 8 = .ok (.invokestatic 87, 3) := by decide +kernel
theorem dX8_angleBits_11 : decode cX8_angleBits 11 = .ok (.ifCond .eq 19, 3) := by decide +kernel
theorem dX8_angleBits_14 : decode cX8_angleBits 14 = .ok (.aload_n 0, 1) := by decide +kernel
theorem dX8_angleBits_15 : decode cX8_angleBits 15 = .ok (.getfield 61, 3) := by decide +kernel
theorem dX8_angleBits_18 : decode cX8_angleBits 18 = .ok (.iload_n 1, 1) := by decide +kernel
theorem dX8_angleBits_19 : decode cX8_angleBits 19 = .ok (.bipush 16, 2) := by decide +kernel
theorem dX8_angleBits_21 : decode cX8_angleBits 21 = .ok (.isub, 1) := by decide +kernel
theorem dX8_angleBits_22 : decode cX8_angleBits 22 = .ok (.baload, 1) := by decide +kernel
theorem dX8_angleBits_23 : decode cX8_angleBits 23 = .ok (.ifCond .eq 7, 3) := by decide +kernel
theorem dX8_angleBits_26 : decode cX8_angleBits 26 = .ok (.iconst 1, 1) := by decide +kernel
theorem dX8_angleBits_27 : decode cX8_angleBits 27 = .ok (.goto 4, 3) := by decide +kernel
theorem dX8_angleBits_30 : decode cX8_angleBits 30 = .ok (.iconst 0, 1) := by decide +kernel
theorem dX8_angleBits_31 : decode cX8_angleBits 31 = .ok (.istore_n 2, 1) := by decide +kernel
theorem dX8_angleBits_32 : decode cX8_angleBits 32 = .ok (.aload_n 0, 1) := by decide +kernel
theorem dX8_angleBits_33 : decode cX8_angleBits 33 = .ok (.iload_n 1, 1) := by decide +kernel
theorem dX8_angleBits_34 : decode cX8_angleBits 34 = .ok (.invokestatic 95, 3) := by decide +kernel
theorem dX8_angleBits_37 : decode cX8_angleBits 37 = .ok (.ifCond .ne 7, 3) := by decide +kernel
theorem dX8_angleBits_40 : decode cX8_angleBits 40 = .ok (.iconst 1, 1) := by decide +kernel
theorem dX8_angleBits_41 : decode cX8_angleBits 41 = .ok (.goto 12, 3) := by decide +kernel
theorem dX8_angleBits_44 : decode cX8_angleBits 44 = .ok (.iload_n 2, 1) := by decide +kernel
theorem dX8_angleBits_45 : decode cX8_angleBits 45 = .ok (.ifCond .ne 7, 3) := by decide +kernel
theorem dX8_angleBits_48 : decode cX8_angleBits 48 = .ok (.iconst 2, 1) := by decide +kernel
theorem dX8_angleBits_49 : decode cX8_angleBits 49 = .ok (.goto 4, 3) := by decide +kernel
theorem dX8_angleBits_52 : decode cX8_angleBits 52 = .ok (.iconst 0, 1) := by decide +kernel
theorem dX8_angleBits_53 : decode cX8_angleBits 53 = .ok (.putfield 76, 3) := by decide +kernel
theorem dX8_angleBits_56 : decode cX8_angleBits 56 = .ok (.aload_n 0, 1) := by decide +kernel
theorem dX8_angleBits_57 : decode cX8_angleBits 57 = .ok (.getfield 76, 3) := by decide +kernel
theorem dX8_angleBits_60 : decode cX8_angleBits 60 = .ok (.ifCond .le 7, 3) := by decide +kernel
theorem dX8_angleBits_63 : decode cX8_angleBits 63 = .ok (.iconst 0, 1) := by decide +kernel
theorem dX8_angleBits_64 : decode cX8_angleBits 64 = .ok (.goto 15, 3) := by decide +kernel
theorem dX8_angleBits_67 : decode cX8_angleBits 67 = .ok (.aload_n 0, 1) := by decide +kernel
theorem dX8_angleBits_68 : decode cX8_angleBits 68 = .ok (.getfield 65, 3) := by decide +kernel
theorem dX8_angleBits_71 : decode cX8_angleBits 71 = .ok (.iload_n 1, 1) := by decide +kernel
theorem dX8_angleBits_72 : decode cX8_angleBits 72 = .ok (.bipush 16, 2) := by decide +kernel
theorem dX8_angleBits_74 : decode cX8_angleBits 74 = .ok (.isub, 1) := by decide +kernel
theorem dX8_angleBits_75 : decode cX8_angleBits 75 = .ok (.faload, 1) := by decide +kernel
theorem dX8_angleBits_76 : decode cX8_angleBits 76 = .ok (.invokestatic 286, 3) := by decide +kernel
theorem dX8_angleBits_79 : decode cX8_angleBits 79 = .ok (.ireturn, 1) := by decide +kernel
set_option maxRecDepth 20000 in
theorem ggX8_energyBits_Jxe99ae_doubleToLongBits_ccdee : GoodIn wsX8_energyBits wsJxe99ae_doubleToLongBits_ccdee := goodIn_r _ [10, 11, 12, 13, 14, 15, 16, 17, 9, 18] (by decide +kernel) (by decide +kernel)
set_option maxRecDepth 20000 in
theorem gX8_energyBits_Jxe99ae_doubleToLongBits_ccdee : GoodIn wsX8_energyBits (va_wsS RX8 294 yJxe99ae_doubleToLongBits_ccdee wsJxe99ae_doubleToLongBits_ccdee) := goodIn_app (goodIn_of _ (by decide +kernel)) ggX8_energyBits_Jxe99ae_doubleToLongBits_ccdee
theorem dX8_energyBits_0 : decode cX8_energyBits 0 = .ok (.aload_n 0, 1) := by decide +kernel
theorem dX8_energyBits_1 : decode cX8_energyBits 1 = .ok (.iconst 0, 1) := by decide +kernel
theorem dX8_energyBits_2 : decode cX8_energyBits 2 = .ok (.putfield 76, 3) := by decide +kernel
theorem dX8_energyBits_5 : decode cX8_energyBits 5 = .ok (.dconst 0, 1) := by decide +kernel
theorem dX8_energyBits_6 : decode cX8_energyBits 6 = .ok (.dstore_n 1, 1) := by decide +kernel
theorem dX8_energyBits_7 : decode cX8_energyBits 7 = .ok (.iconst 0, 1) := by decide +kernel
theorem dX8_energyBits_8 : decode cX8_energyBits 8 = .ok (.istore_n 3, 1) := by decide +kernel
theorem dX8_energyBits_9 : decode cX8_energyBits 9 = .ok (.iload_n 3, 1) := by decide +kernel
theorem dX8_energyBits_10 : decode cX8_energyBits 10 = .ok (.iconst 4, 1) := by decide +kernel
theorem dX8_energyBits_11 : decode cX8_energyBits 11 = .ok (.if_icmp .ge 68, 3) := by decide +kernel
theorem dX8_energyBits_14 : decode cX8_energyBits 14 = .ok (.aload_n 0, 1) := by decide +kernel
theorem dX8_energyBits_15 : decode cX8_energyBits 15 = .ok (.getfield 61, 3) := by decide +kernel
theorem dX8_energyBits_18 : decode cX8_energyBits 18 = .ok (.iload_n 3, 1) := by decide +kernel
theorem dX8_energyBits_19 : decode cX8_energyBits 19 = .ok (.baload, 1) := by decide +kernel
theorem dX8_energyBits_20 : decode cX8_energyBits 20 = .ok (.ifCond .eq 53, 3) := by decide +kernel
theorem dX8_energyBits_23 : decode cX8_energyBits 23 = .ok (.aload_n 0, 1) := by decide +kernel
theorem dX8_energyBits_24 : decode cX8_energyBits 24 = .ok (.getfield 69, 3) := by decide +kernel
theorem dX8_energyBits_27 : decode cX8_energyBits 27 = .ok (.iload_n 3, 1) := by decide +kernel
theorem dX8_energyBits_28 : decode cX8_energyBits 28 = .ok (.faload, 1) := by decide +kernel
theorem dX8_energyBits_29 : decode cX8_energyBits 29 = .ok (.f2d, 1) := by decide +kernel
theorem dX8_energyBits_30 : decode cX8_energyBits 30 = .ok (.dstore 4, 2) := by decide +kernel
theorem dX8_energyBits_32 : decode cX8_energyBits 32 = .ok (.aload_n 0, 1) := by decide +kernel
theorem dX8_energyBits_33 : decode cX8_energyBits 33 = .ok (.getfield 65, 3) := by decide +kernel
theorem dX8_energyBits_36 : decode cX8_energyBits 36 = .ok (.iload_n 3, 1) := by decide +kernel
theorem dX8_energyBits_37 : decode cX8_energyBits 37 = .ok (.faload, 1) := by decide +kernel
theorem dX8_energyBits_38 : decode cX8_energyBits 38 = .ok (.f2d, 1) := by decide +kernel
theorem dX8_energyBits_39 : decode cX8_energyBits 39 = .ok (.dstore 6, 2) := by decide +kernel
theorem dX8_energyBits_41 : decode cX8_energyBits 41 = .ok (.ldc2_w 292, 3) := by decide +kernel
theorem dX8_energyBits_44 : decode cX8_energyBits 44 = .ok (.dload 4, 2) := by decide +kernel
theorem dX8_energyBits_46 : decode cX8_energyBits 46 = .ok (.dload 4, 2) := by decide +kernel
theorem dX8_energyBits_48 : decode cX8_energyBits 48 = .ok (.dmul, 1) := by decide +kernel
theorem dX8_energyBits_49 : decode cX8_energyBits 49 = .ok (.dmul, 1) := by decide +kernel
theorem dX8_energyBits_50 : decode cX8_energyBits 50 = .ok (.ldc2_w 292, 3) := by decide +kernel
theorem dX8_energyBits_53 : decode cX8_energyBits 53 = .ok (.aload_n 0, 1) := by decide +kernel
theorem dX8_energyBits_54 : decode cX8_energyBits 54 = .ok (.getfield 72, 3) := by decide +kernel
theorem dX8_energyBits_57 : decode cX8_energyBits 57 = .ok (.i2d, 1) := by decide +kernel
theorem dX8_energyBits_58 : decode cX8_energyBits 58 = .ok (.dmul, 1) := by decide +kernel
theorem dX8_energyBits_59 : decode cX8_energyBits 59 = .ok (.dload 6, 2) := by decide +kernel
theorem dX8_energyBits_61 : decode cX8_energyBits 61 = .ok (.dload 6, 2) := by decide +kernel
theorem dX8_energyBits_63 : decode cX8_energyBits 63 = .ok (.dmul, 1) := by decide +kernel
theorem dX8_energyBits_64 : decode cX8_energyBits 64 = .ok (.dmul, 1) := by decide +kernel
theorem dX8_energyBits_65 : decode cX8_energyBits 65 = .ok (.dadd, 1) := by decide +kernel
theorem dX8_energyBits_66 : decode cX8_energyBits 66 = .ok (.dstore 8, 2) := by decide +kernel
theorem dX8_energyBits_68 : decode cX8_energyBits 68 = .ok (.dload_n 1, 1) := by decide +kernel
theorem dX8_energyBits_69 : decode cX8_energyBits 69 = .ok (.dload 8, 2) := by decide +kernel
theorem dX8_energyBits_71 : decode cX8_energyBits 71 = .ok (.dadd, 1) := by decide +kernel
theorem dX8_energyBits_72 : decode cX8_energyBits 72 = .ok (.dstore_n 1, 1) := by decide +kernel
theorem dX8_energyBits_73 : decode cX8_energyBits 73 = .ok (.iinc 3 1, 3) := by decide +kernel
theorem dX8_energyBits_76 : decode cX8_energyBits 76 = .ok (.goto (-67), 3) := by decide +kernel
theorem dX8_energyBits_79 : decode cX8_energyBits 79 = .ok (.dload_n 1, 1) := by decide +kernel
theorem dX8_energyBits_80 : decode cX8_energyBits 80 = .ok (.invokestatic 294, 3) := by decide +kernel
theorem dX8_energyBits_83 : decode cX8_energyBits 83 = .ok (.lreturn, 1) := by decide +kernel
set_option maxRecDepth 20000 in
theorem ggX8_stepShare_X8_beaters : GoodIn wsX8_stepShare wsX8_beaters := goodIn_ca (goodIn_r _ [9, 10, 11, 12, 13, 14, 15, 16, 17, 18, 19, 20, 21, 22, 23, 24, 25, 26, 27, 28, 29, 30, 31, 32, 33, 34, 35, 36, 37, 38, 39, 40, 41, 42, 43, 44, 45, 46, 47, 48, 49, 50, 51, 52, 53, 54, 55, 56, 57, 58, 59, 60, 61, 62, 63, 64, 65, 66, 67, 68, 69, 70, 71, 72, 73, 74, 75, 76, 77, 78, 79, 80, 81, 82, 83, 84, 85, 86, 87, 88, 89, 90, 91, 92, 93, 94, 95, 96, 97, 98, 99, 100, 229, 230, 231, 208, 209, 210, 211, 212, 213, 214, 215, 216, 217, 218, 219, 220, 221, 222, 223, 224, 225, 226, 227, 228, 232, 233, 234, 235, 236, 237, 238, 239, 240] (by decide +kernel) (by decide +kernel)) (goodIn_sub (fun _ h => List.mem_cons_of_mem _ (List.mem_append_left _ (List.mem_append_right _ h))) (by decide +kernel))
set_option maxRecDepth 20000 in
theorem gX8_stepShare_X8_beaters : GoodIn wsX8_stepShare (wsV RX8 163 RX8 yX8_beaters wsX8_beaters) := goodIn_app (goodIn_of _ (by decide +kernel)) ggX8_stepShare_X8_beaters
set_option maxRecDepth 20000 in
theorem ggX8_stepShare_Jx4a65c_isEmpty_aae02 : GoodIn wsX8_stepShare wsJx4a65c_isEmpty_aae02 := goodIn_r _ [104, 54, 229, 230, 231] (by decide +kernel) (by decide +kernel)
set_option maxRecDepth 20000 in
theorem gX8_stepShare_Jx4a65c_isEmpty_aae02 : GoodIn wsX8_stepShare (wsV RX8 227 RJx4a65c yJx4a65c_isEmpty_aae02 wsJx4a65c_isEmpty_aae02) := goodIn_app (goodIn_of _ (by decide +kernel)) ggX8_stepShare_Jx4a65c_isEmpty_aae02
set_option maxRecDepth 20000 in
theorem ggX8_stepShare_X8_noWay : GoodIn wsX8_stepShare wsX8_noWay := goodIn_ca (goodIn_ca (goodIn_r _ [108, 1, 2, 109, 13, 110, 111, 112, 113, 114, 115, 116, 117, 118, 119, 120, 121, 122, 123, 8, 124, 125, 126, 127, 128, 129, 130, 131, 132, 133, 134, 135, 68, 69, 70, 136, 137, 138, 139, 140, 141, 142, 143, 144, 145, 146, 12, 147, 54, 148, 149, 150, 151, 152, 153, 154, 155, 156, 157, 158, 159, 160, 161, 162, 163, 18, 164, 165, 166, 167, 168, 169, 170, 171, 172, 4, 208, 209, 210, 211, 212, 213, 214, 215, 216, 217, 218, 219, 220, 221, 222, 223, 224, 225, 226, 227, 228, 232, 233, 234, 235, 236, 237, 238, 239, 241, 242, 243, 244, 229, 230, 231] (by decide +kernel) (by decide +kernel)) (goodIn_sub (fun _ h => List.mem_cons_of_mem _ (List.mem_append_left _ (List.mem_append_right _ h))) (by decide +kernel))) (goodIn_sub (fun _ h => List.mem_cons_of_mem _ (List.mem_append_right _ h)) (by decide +kernel))
set_option maxRecDepth 20000 in
theorem gX8_stepShare_X8_noWay : GoodIn wsX8_stepShare (wsV RX8 218 RX8 yX8_noWay wsX8_noWay) := goodIn_app (goodIn_of _ (by decide +kernel)) ggX8_stepShare_X8_noWay
set_option maxRecDepth 20000 in
theorem ggX8_stepShare_Jx4a65c_iterator_32c93 : GoodIn wsX8_stepShare wsJx4a65c_iterator_32c93 := goodIn_r _ [176, 177, 178, 179, 180, 181, 182, 183, 184, 29, 30, 185, 186, 53, 187, 245, 246, 247, 248, 229, 230, 231] (by decide +kernel) (by decide +kernel)
set_option maxRecDepth 20000 in
theorem gX8_stepShare_Jx4a65c_iterator_32c93 : GoodIn wsX8_stepShare (wsV RX8 261 RJx4a65c yJx4a65c_iterator_32c93 wsJx4a65c_iterator_32c93) := goodIn_app (goodIn_of _ (by decide +kernel)) ggX8_stepShare_Jx4a65c_iterator_32c93
set_option maxRecDepth 20000 in
theorem ggX8_stepShare_Jx35411_hasNext_aae02 : GoodIn wsX8_stepShare wsJx35411_hasNext_aae02 := goodIn_r _ [191, 192, 183, 245, 246, 247, 248, 229, 230, 231] (by decide +kernel) (by decide +kernel)
set_option maxRecDepth 20000 in
theorem gX8_stepShare_Jx35411_hasNext_aae02_f265Jx35411 : GoodIn wsX8_stepShare (va_wsF RX8 265 RJx35411 ⟨"java/util/Iterator", "hasNext", "()Z"⟩ yJx35411_hasNext_aae02 wsJx35411_hasNext_aae02) := goodIn_app (goodIn_of _ (by decide +kernel)) ggX8_stepShare_Jx35411_hasNext_aae02
set_option maxRecDepth 20000 in
theorem ggX8_stepShare_Jx35411_next_0502b : GoodIn wsX8_stepShare wsJx35411_next_0502b := goodIn_r _ [196, 192, 183, 197, 185, 198, 199, 200, 179, 201, 186, 53, 187, 245, 246, 247, 248, 229, 230, 231] (by decide +kernel) (by decide +kernel)
set_option maxRecDepth 20000 in
theorem gX8_stepShare_Jx35411_next_0502b_f270Jx35411 : GoodIn wsX8_stepShare (va_wsF RX8 270 RJx35411 ⟨"java/util/Iterator", "next", "()Ljava/lang/Object;"⟩ yJx35411_next_0502b wsJx35411_next_0502b) := goodIn_app (goodIn_of _ (by decide +kernel)) ggX8_stepShare_Jx35411_next_0502b
set_option maxRecDepth 20000 in
theorem ggX8_stepShare_J6_intValue_8abf5 : GoodIn wsX8_stepShare wsJ6_intValue_8abf5 := goodIn_r _ [205, 42, 240] (by decide +kernel) (by decide +kernel)
set_option maxRecDepth 20000 in
theorem gX8_stepShare_J6_intValue_8abf5 : GoodIn wsX8_stepShare (wsV RX8 173 RJ6 yJ6_intValue_8abf5 wsJ6_intValue_8abf5) := goodIn_app (goodIn_of _ (by decide +kernel)) ggX8_stepShare_J6_intValue_8abf5
set_option maxRecDepth 20000 in
theorem ggX8_stepShare_Jx4a65c_get_915e3 : GoodIn wsX8_stepShare wsJx4a65c_get_915e3 := goodIn_r _ [151, 54, 152, 153, 154, 155, 156, 157, 158, 159, 160, 161, 162, 12, 163, 18, 229, 230, 231] (by decide +kernel) (by decide +kernel)
set_option maxRecDepth 20000 in
theorem gX8_stepShare_Jx4a65c_get_915e3 : GoodIn wsX8_stepShare (wsV RX8 170 RJx4a65c yJx4a65c_get_915e3 wsJx4a65c_get_915e3) := goodIn_app (goodIn_of _ (by decide +kernel)) ggX8_stepShare_Jx4a65c_get_915e3
set_option maxRecDepth 20000 in
theorem ggX8_stepShare_Jx4a65c_size_8abf5 : GoodIn wsX8_stepShare wsJx4a65c_size_8abf5 := goodIn_r _ [147, 54, 229, 230, 231] (by decide +kernel) (by decide +kernel)
set_option maxRecDepth 20000 in
theorem gX8_stepShare_Jx4a65c_size_8abf5 : GoodIn wsX8_stepShare (wsV RX8 140 RJx4a65c yJx4a65c_size_8abf5 wsJx4a65c_size_8abf5) := goodIn_app (goodIn_of _ (by decide +kernel)) ggX8_stepShare_Jx4a65c_size_8abf5
theorem dX8_stepShare_0 : decode cX8_stepShare 0 = .ok (.aload_n 0, 1) := by decide +kernel
theorem dX8_stepShare_1 : decode cX8_stepShare 1 = .ok (.getfield 178, 3) := by decide +kernel
theorem dX8_stepShare_4 : decode cX8_stepShare 4 = .ok (.ifCond .le 10, 3) := by decide +kernel
theorem dX8_stepShare_7 : decode cX8_stepShare 7 = .ok (.aload_n 0, 1) := by decide +kernel
theorem dX8_stepShare_8 : decode cX8_stepShare 8 = .ok (.iconst 1, 1) := by decide +kernel
theorem dX8_stepShare_9 : decode cX8_stepShare 9 = .ok (.putfield 76, 3) := by decide +kernel
theorem dX8_stepShare_12 : decode cX8_stepShare 12 = .ok (.fconst 0, 1) := by decide +kernel
theorem dX8_stepShare_13 : decode cX8_stepShare 13 = .ok (.freturn, 1) := by decide +kernel
theorem dX8_stepShare_14 : decode cX8_stepShare 14 = .ok (.aload_n 0, 1) := by decide +kernel
theorem dX8_stepShare_15 : decode cX8_stepShare 15 = .ok (.invokevirtual 163, 3) := by decide +kernel
theorem dX8_stepShare_18 : decode cX8_stepShare 18 = .ok (.astore_n 1, 1) := by decide +kernel
theorem dX8_stepShare_19 : decode cX8_stepShare 19 = .ok (.aload_n 1, 1) := by decide +kernel
theorem dX8_stepShare_20 : decode cX8_stepShare 20 = .ok (.invokevirtual 227, 3) := by decide +kernel
theorem dX8_stepShare_23 : decode cX8_stepShare 23 = .ok (.ifCond .eq 10, 3) := by decide +kernel
theorem dX8_stepShare_26 : decode cX8_stepShare 26 = .ok (.aload_n 0, 1) := by decide +kernel
theorem dX8_stepShare_27 : decode cX8_stepShare 27 = .ok (.iconst 2, 1) := by decide +kernel
theorem dX8_stepShare_28 : decode cX8_stepShare 28 = .ok (.putfield 76, 3) := by decide +kernel
theorem dX8_stepShare_31 : decode cX8_stepShare 31 = .ok (.fconst 0, 1) := by decide +kernel
theorem dX8_stepShare_32 : decode cX8_stepShare 32 = .ok (.freturn, 1) := by decide +kernel
theorem dX8_stepShare_33 : decode cX8_stepShare 33 = .ok (.aload_n 0, 1) := by decide +kernel
theorem dX8_stepShare_34 : decode cX8_stepShare 34 = .ok (.iconst 1, 1) := by decide +kernel
theorem dX8_stepShare_35 : decode cX8_stepShare 35 = .ok (.invokevirtual 218, 3) := by decide +kernel
theorem dX8_stepShare_38 : decode cX8_stepShare 38 = .ok (.ifCond .eq 5, 3) := by decide +kernel
theorem dX8_stepShare_41 : decode cX8_stepShare 41 = .ok (.fconst 0, 1) := by decide +kernel
theorem dX8_stepShare_42 : decode cX8_stepShare 42 = .ok (.freturn, 1) := by decide +kernel
theorem dX8_stepShare_43 : decode cX8_stepShare 43 = .ok (.iconst 0, 1) := by decide +kernel
theorem dX8_stepShare_44 : decode cX8_stepShare 44 = .ok (.istore_n 2, 1) := by decide +kernel
theorem dX8_stepShare_45 : decode cX8_stepShare 45 = .ok (.aload_n 1, 1) := by decide +kernel
theorem dX8_stepShare_46 : decode cX8_stepShare 46 = .ok (.invokevirtual 261, 3) := by decide +kernel
theorem dX8_stepShare_49 : decode cX8_stepShare 49 = .ok (.astore_n 3, 1) := by decide +kernel
theorem dX8_stepShare_50 : decode cX8_stepShare 50 = .ok (.aload_n 3, 1) := by decide +kernel
theorem dX8_stepShare_51 : decode cX8_stepShare 51 = .ok (.invokeinterface 265 1, 5) := by decide +kernel
theorem dX8_stepShare_56 : decode cX8_stepShare 56 = .ok (.ifCond .eq 50, 3) := by decide +kernel
theorem dX8_stepShare_59 : decode cX8_stepShare 59 = .ok (.aload_n 3, 1) := by decide +kernel
theorem dX8_stepShare_60 : decode cX8_stepShare 60 = .ok (.invokeinterface 270 1, 5) := by decide +kernel
theorem dX8_stepShare_65 : decode cX8_stepShare 65 = .ok (.checkcast 158, 3) := by decide +kernel
theorem dX8_stepShare_68 : decode cX8_stepShare 68 = .ok (.invokevirtual 173, 3) := by decide +kernel
theorem dX8_stepShare_71 : decode cX8_stepShare 71 = .ok (.istore 4, 2) := by decide +kernel
theorem dX8_stepShare_73 : decode cX8_stepShare 73 = .ok (.iload_n 2, 1) := by decide +kernel
theorem dX8_stepShare_74 : decode cX8_stepShare 74 = .ok (.aload_n 0, 1) := by decide +kernel
theorem dX8_stepShare_75 : decode cX8_stepShare 75 = .ok (.getfield 55, 3) := by decide +kernel
theorem dX8_stepShare_78 : decode cX8_stepShare 78 = .ok (.aload_n 1, 1) := by decide +kernel
theorem dX8_stepShare_79 : decode cX8_stepShare 79 = .ok (.iconst 0, 1) := by decide +kernel
theorem dX8_stepShare_80 : decode cX8_stepShare 80 = .ok (.invokevirtual 170, 3) := by decide +kernel
theorem dX8_stepShare_83 : decode cX8_stepShare 83 = .ok (.checkcast 158, 3) := by decide +kernel
theorem dX8_stepShare_86 : decode cX8_stepShare 86 = .ok (.invokevirtual 173, 3) := by decide +kernel
theorem dX8_stepShare_89 : decode cX8_stepShare 89 = .ok (.aaload, 1) := by decide +kernel
theorem dX8_stepShare_90 : decode cX8_stepShare 90 = .ok (.iload 4, 2) := by decide +kernel
theorem dX8_stepShare_92 : decode cX8_stepShare 92 = .ok (.baload, 1) := by decide +kernel
theorem dX8_stepShare_93 : decode cX8_stepShare 93 = .ok (.ifCond .eq 7, 3) := by decide +kernel
theorem dX8_stepShare_96 : decode cX8_stepShare 96 = .ok (.iconst 0, 1) := by decide +kernel
theorem dX8_stepShare_97 : decode cX8_stepShare 97 = .ok (.goto 4, 3) := by decide +kernel
theorem dX8_stepShare_100 : decode cX8_stepShare 100 = .ok (.iconst 1, 1) := by decide +kernel
theorem dX8_stepShare_101 : decode cX8_stepShare 101 = .ok (.iadd, 1) := by decide +kernel
theorem dX8_stepShare_102 : decode cX8_stepShare 102 = .ok (.istore_n 2, 1) := by decide +kernel
theorem dX8_stepShare_103 : decode cX8_stepShare 103 = .ok (.goto (-53), 3) := by decide +kernel
theorem dX8_stepShare_106 : decode cX8_stepShare 106 = .ok (.iload_n 2, 1) := by decide +kernel
theorem dX8_stepShare_107 : decode cX8_stepShare 107 = .ok (.i2f, 1) := by decide +kernel
theorem dX8_stepShare_108 : decode cX8_stepShare 108 = .ok (.aload_n 1, 1) := by decide +kernel
theorem dX8_stepShare_109 : decode cX8_stepShare 109 = .ok (.invokevirtual 140, 3) := by decide +kernel
theorem dX8_stepShare_112 : decode cX8_stepShare 112 = .ok (.i2f, 1) := by decide +kernel
theorem dX8_stepShare_113 : decode cX8_stepShare 113 = .ok (.fdiv, 1) := by decide +kernel
theorem dX8_stepShare_114 : decode cX8_stepShare 114 = .ok (.freturn, 1) := by decide +kernel
set_option maxRecDepth 20000 in
theorem ggX8_meanPhase_X8_beaters : GoodIn wsX8_meanPhase wsX8_beaters := goodIn_ca (goodIn_r _ [8, 9, 10, 11, 2, 12, 13, 14, 15, 16, 17, 18, 19, 20, 21, 22, 23, 24, 25, 26, 27, 28, 29, 30, 31, 32, 33, 34, 35, 36, 37, 38, 39, 40, 41, 42, 43, 44, 45, 46, 47, 48, 49, 50, 51, 52, 53, 54, 55, 56, 57, 58, 59, 60, 61, 62, 63, 64, 65, 66, 67, 68, 69, 70, 71, 72, 73, 74, 75, 76, 77, 78, 79, 80, 81, 82, 83, 84, 85, 86, 87, 88, 89, 90, 91, 92, 93, 94, 95, 96, 97, 98, 169, 170, 171, 140, 141, 142, 143, 144, 145, 146, 147, 148, 149, 150, 151, 152, 153, 154, 155, 156, 157, 158, 159, 160, 161, 162, 163, 164, 165, 166, 167, 168, 172] (by decide +kernel) (by decide +kernel)) (goodIn_sub (fun _ h => List.mem_cons_of_mem _ (List.mem_append_right _ h)) (by decide +kernel))
set_option maxRecDepth 20000 in
theorem gX8_meanPhase_X8_beaters : GoodIn wsX8_meanPhase (wsV RX8 163 RX8 yX8_beaters wsX8_beaters) := goodIn_app (goodIn_of _ (by decide +kernel)) ggX8_meanPhase_X8_beaters
set_option maxRecDepth 20000 in
theorem ggX8_meanPhase_Jx4a65c_iterator_32c93 : GoodIn wsX8_meanPhase wsJx4a65c_iterator_32c93 := goodIn_r _ [102, 103, 104, 105, 106, 107, 108, 109, 110, 27, 28, 111, 112, 51, 113, 173, 174, 175, 176, 169, 170, 171] (by decide +kernel) (by decide +kernel)
set_option maxRecDepth 20000 in
theorem gX8_meanPhase_Jx4a65c_iterator_32c93 : GoodIn wsX8_meanPhase (wsV RX8 261 RJx4a65c yJx4a65c_iterator_32c93 wsJx4a65c_iterator_32c93) := goodIn_app (goodIn_of _ (by decide +kernel)) ggX8_meanPhase_Jx4a65c_iterator_32c93
set_option maxRecDepth 20000 in
theorem ggX8_meanPhase_Jx35411_hasNext_aae02 : GoodIn wsX8_meanPhase wsJx35411_hasNext_aae02 := goodIn_r _ [117, 118, 109, 173, 174, 175, 176, 169, 170, 171] (by decide +kernel) (by decide +kernel)
set_option maxRecDepth 20000 in
theorem gX8_meanPhase_Jx35411_hasNext_aae02_f265Jx35411 : GoodIn wsX8_meanPhase (va_wsF RX8 265 RJx35411 ⟨"java/util/Iterator", "hasNext", "()Z"⟩ yJx35411_hasNext_aae02 wsJx35411_hasNext_aae02) := goodIn_app (goodIn_of _ (by decide +kernel)) ggX8_meanPhase_Jx35411_hasNext_aae02
set_option maxRecDepth 20000 in
theorem ggX8_meanPhase_Jx35411_next_0502b : GoodIn wsX8_meanPhase wsJx35411_next_0502b := goodIn_r _ [122, 118, 109, 123, 111, 124, 125, 126, 105, 127, 112, 51, 113, 173, 174, 175, 176, 169, 170, 171] (by decide +kernel) (by decide +kernel)
set_option maxRecDepth 20000 in
theorem gX8_meanPhase_Jx35411_next_0502b_f270Jx35411 : GoodIn wsX8_meanPhase (va_wsF RX8 270 RJx35411 ⟨"java/util/Iterator", "next", "()Ljava/lang/Object;"⟩ yJx35411_next_0502b wsJx35411_next_0502b) := goodIn_app (goodIn_of _ (by decide +kernel)) ggX8_meanPhase_Jx35411_next_0502b
set_option maxRecDepth 20000 in
theorem ggX8_meanPhase_J6_intValue_8abf5 : GoodIn wsX8_meanPhase wsJ6_intValue_8abf5 := goodIn_r _ [131, 40, 172] (by decide +kernel) (by decide +kernel)
set_option maxRecDepth 20000 in
theorem gX8_meanPhase_J6_intValue_8abf5 : GoodIn wsX8_meanPhase (wsV RX8 173 RJ6 yJ6_intValue_8abf5 wsJ6_intValue_8abf5) := goodIn_app (goodIn_of _ (by decide +kernel)) ggX8_meanPhase_J6_intValue_8abf5
set_option maxRecDepth 20000 in
theorem ggX8_meanPhase_Jx4a65c_isEmpty_aae02 : GoodIn wsX8_meanPhase wsJx4a65c_isEmpty_aae02 := goodIn_r _ [135, 52, 169, 170, 171] (by decide +kernel) (by decide +kernel)
set_option maxRecDepth 20000 in
theorem gX8_meanPhase_Jx4a65c_isEmpty_aae02 : GoodIn wsX8_meanPhase (wsV RX8 227 RJx4a65c yJx4a65c_isEmpty_aae02 wsJx4a65c_isEmpty_aae02) := goodIn_app (goodIn_of _ (by decide +kernel)) ggX8_meanPhase_Jx4a65c_isEmpty_aae02
set_option maxRecDepth 20000 in
theorem ggX8_meanPhase_Jx4a65c_size_8abf5 : GoodIn wsX8_meanPhase wsJx4a65c_size_8abf5 := goodIn_r _ [139, 52, 169, 170, 171] (by decide +kernel) (by decide +kernel)
set_option maxRecDepth 20000 in
theorem gX8_meanPhase_Jx4a65c_size_8abf5 : GoodIn wsX8_meanPhase (wsV RX8 140 RJx4a65c yJx4a65c_size_8abf5 wsJx4a65c_size_8abf5) := goodIn_app (goodIn_of _ (by decide +kernel)) ggX8_meanPhase_Jx4a65c_size_8abf5
theorem dX8_meanPhase_0 : decode cX8_meanPhase 0 = .ok (.iconst 0, 1) := by decide +kernel
theorem dX8_meanPhase_1 : decode cX8_meanPhase 1 = .ok (.istore_n 1, 1) := by decide +kernel
theorem dX8_meanPhase_2 : decode cX8_meanPhase 2 = .ok (.aload_n 0, 1) := by decide +kernel
theorem dX8_meanPhase_3 : decode cX8_meanPhase 3 = .ok (.invokevirtual 163, 3) := by decide +kernel
theorem dX8_meanPhase_6 : decode cX8_meanPhase 6 = .ok (.astore_n 2, 1) := by decide +kernel
theorem dX8_meanPhase_7 : decode cX8_meanPhase 7 = .ok (.aload_n 2, 1) := by decide +kernel
theorem dX8_meanPhase_8 : decode cX8_meanPhase 8 = .ok (.invokevirtual 261, 3) := by decide +kernel
theorem dX8_meanPhase_11 : decode cX8_meanPhase 11 = .ok (.astore_n 3, 1) := by decide +kernel
theorem dX8_meanPhase_12 : decode cX8_meanPhase 12 = .ok (.aload_n 3, 1) := by decide +kernel
theorem dX8_meanPhase_13 : decode cX8_meanPhase 13 = .ok (.invokeinterface 265 1, 5) := by decide +kernel
theorem dX8_meanPhase_18 : decode cX8_meanPhase 18 = .ok (.ifCond .eq 33, 3) := by decide +kernel
theorem dX8_meanPhase_21 : decode cX8_meanPhase 21 = .ok (.aload_n 3, 1) := by decide +kernel
theorem dX8_meanPhase_22 : decode cX8_meanPhase 22 = .ok (.invokeinterface 270 1, 5) := by decide +kernel
theorem dX8_meanPhase_27 : decode cX8_meanPhase 27 = .ok (.checkcast 158, 3) := by decide +kernel
theorem dX8_meanPhase_30 : decode cX8_meanPhase 30 = .ok (.invokevirtual 173, 3) := by decide +kernel
theorem dX8_meanPhase_33 : decode cX8_meanPhase 33 = .ok (.istore 4, 2) := by decide +kernel
theorem dX8_meanPhase_35 : decode cX8_meanPhase 35 = .ok (.iload_n 1, 1) := by decide +kernel
theorem dX8_meanPhase_36 : decode cX8_meanPhase 36 = .ok (.aload_n 0, 1) := by decide +kernel
theorem dX8_meanPhase_37 : decode cX8_meanPhase 37 = .ok (.getfield 26, 3) := by decide +kernel
theorem dX8_meanPhase_40 : decode cX8_meanPhase 40 = .ok (.getfield 105, 3) := by decide +kernel
theorem dX8_meanPhase_43 : decode cX8_meanPhase 43 = .ok (.iload 4, 2) := by decide +kernel
theorem dX8_meanPhase_45 : decode cX8_meanPhase 45 = .ok (.iaload, 1) := by decide +kernel
theorem dX8_meanPhase_46 : decode cX8_meanPhase 46 = .ok (.iadd, 1) := by decide +kernel
theorem dX8_meanPhase_47 : decode cX8_meanPhase 47 = .ok (.istore_n 1, 1) := by decide +kernel
theorem dX8_meanPhase_48 : decode cX8_meanPhase 48 = .ok (.goto (-36), 3) := by decide +kernel
theorem dX8_meanPhase_51 : decode cX8_meanPhase 51 = .ok (.aload_n 0, 1) := by decide +kernel
theorem dX8_meanPhase_52 : decode cX8_meanPhase 52 = .ok (.aload_n 2, 1) := by decide +kernel
theorem dX8_meanPhase_53 : decode cX8_meanPhase 53 = .ok (.invokevirtual 227, 3) := by decide +kernel
theorem dX8_meanPhase_56 : decode cX8_meanPhase 56 = .ok (.ifCond .eq 7, 3) := by decide +kernel
theorem dX8_meanPhase_59 : decode cX8_meanPhase 59 = .ok (.iconst 1, 1) := by decide +kernel
theorem dX8_meanPhase_60 : decode cX8_meanPhase 60 = .ok (.goto 4, 3) := by decide +kernel
theorem dX8_meanPhase_63 : decode cX8_meanPhase 63 = .ok (.iconst 0, 1) := by decide +kernel
theorem dX8_meanPhase_64 : decode cX8_meanPhase 64 = .ok (.putfield 76, 3) := by decide +kernel
theorem dX8_meanPhase_67 : decode cX8_meanPhase 67 = .ok (.aload_n 0, 1) := by decide +kernel
theorem dX8_meanPhase_68 : decode cX8_meanPhase 68 = .ok (.getfield 76, 3) := by decide +kernel
theorem dX8_meanPhase_71 : decode cX8_meanPhase 71 = .ok (.ifCond .le 7, 3) := by decide +kernel
theorem dX8_meanPhase_74 : decode cX8_meanPhase 74 = .ok (.dconst 0, 1) := by decide +kernel
theorem dX8_meanPhase_75 : decode cX8_meanPhase 75 = .ok (.goto 11, 3) := by decide +kernel
theorem dX8_meanPhase_78 : decode cX8_meanPhase 78 = .ok (.iload_n 1, 1) := by decide +kernel
theorem dX8_meanPhase_79 : decode cX8_meanPhase 79 = .ok (.i2d, 1) := by decide +kernel
theorem dX8_meanPhase_80 : decode cX8_meanPhase 80 = .ok (.aload_n 2, 1) := by decide +kernel
theorem dX8_meanPhase_81 : decode cX8_meanPhase 81 = .ok (.invokevirtual 140, 3) := by decide +kernel
theorem dX8_meanPhase_84 : decode cX8_meanPhase 84 = .ok (.i2d, 1) := by decide +kernel
theorem dX8_meanPhase_85 : decode cX8_meanPhase 85 = .ok (.ddiv, 1) := by decide +kernel
theorem dX8_meanPhase_86 : decode cX8_meanPhase 86 = .ok (.dreturn, 1) := by decide +kernel
set_option maxRecDepth 20000 in
theorem ggX8_checksum_X8_waitingAt : GoodIn wsX8_checksum wsX8_waitingAt := goodIn_ca (goodIn_r _ [12, 3, 25, 26, 27, 28, 29, 30, 31, 32, 33, 34, 35, 36, 37, 38, 39, 40, 41, 42, 43, 44, 45, 46, 47, 48, 49, 50, 51, 52, 53] (by decide +kernel) (by decide +kernel)) (goodIn_sub (fun _ h => List.mem_cons_of_mem _ (List.mem_append_right _ h)) (by decide +kernel))
set_option maxRecDepth 20000 in
theorem gX8_checksum_X8_waitingAt : GoodIn wsX8_checksum (wsV RX8 194 RX8 yX8_waitingAt wsX8_waitingAt) := goodIn_app (goodIn_of _ (by decide +kernel)) ggX8_checksum_X8_waitingAt
set_option maxRecDepth 20000 in
theorem ggX8_checksum_Jxf58ca_floatToIntBits_5c35a : GoodIn wsX8_checksum wsJxf58ca_floatToIntBits_5c35a := goodIn_r _ [16, 17, 18, 19, 20, 21, 22, 23, 15, 24] (by decide +kernel) (by decide +kernel)
set_option maxRecDepth 20000 in
theorem gX8_checksum_Jxf58ca_floatToIntBits_5c35a : GoodIn wsX8_checksum (va_wsS RX8 286 yJxf58ca_floatToIntBits_5c35a wsJxf58ca_floatToIntBits_5c35a) := goodIn_app (goodIn_of _ (by decide +kernel)) ggX8_checksum_Jxf58ca_floatToIntBits_5c35a
theorem dX8_checksum_0 : decode cX8_checksum 0 = .ok (.aload_n 0, 1) := by decide +kernel
theorem dX8_checksum_1 : decode cX8_checksum 1 = .ok (.iconst 0, 1) := by decide +kernel
theorem dX8_checksum_2 : decode cX8_checksum 2 = .ok (.putfield 76, 3) := by decide +kernel
theorem dX8_checksum_5 : decode cX8_checksum 5 = .ok (.ldc2_w 300, 3) := by decide +kernel
theorem dX8_checksum_8 : decode cX8_checksum 8 = .ok (.lstore_n 1, 1) := by decide +kernel
theorem dX8_checksum_9 : decode cX8_checksum 9 = .ok (.iconst 0, 1) := by decide +kernel
theorem dX8_checksum_10 : decode cX8_checksum 10 = .ok (.istore_n 3, 1) := by decide +kernel
theorem dX8_checksum_11 : decode cX8_checksum 11 = .ok (.iload_n 3, 1) := by decide +kernel
theorem dX8_checksum_12 : decode cX8_checksum 12 = .ok (.bipush 16, 2) := by decide +kernel
theorem dX8_checksum_14 : decode cX8_checksum 14 = .ok (.if_icmp .ge 65, 3) := by decide +kernel
theorem dX8_checksum_17 : decode cX8_checksum 17 = .ok (.aload_n 0, 1) := by decide +kernel
theorem dX8_checksum_18 : decode cX8_checksum 18 = .ok (.getfield 26, 3) := by decide +kernel
theorem dX8_checksum_21 : decode cX8_checksum 21 = .ok (.getfield 99, 3) := by decide +kernel
theorem dX8_checksum_24 : decode cX8_checksum 24 = .ok (.iload_n 3, 1) := by decide +kernel
theorem dX8_checksum_25 : decode cX8_checksum 25 = .ok (.baload, 1) := by decide +kernel
theorem dX8_checksum_26 : decode cX8_checksum 26 = .ok (.ifCond .eq 47, 3) := by decide +kernel
theorem dX8_checksum_29 : decode cX8_checksum 29 = .ok (.ldc2_w 302, 3) := by decide +kernel
theorem dX8_checksum_32 : decode cX8_checksum 32 = .ok (.lload_n 1, 1) := by decide +kernel
theorem dX8_checksum_33 : decode cX8_checksum 33 = .ok (.lmul, 1) := by decide +kernel
theorem dX8_checksum_34 : decode cX8_checksum 34 = .ok (.aload_n 0, 1) := by decide +kernel
theorem dX8_checksum_35 : decode cX8_checksum 35 = .ok (.getfield 26, 3) := by decide +kernel
theorem dX8_checksum_38 : decode cX8_checksum 38 = .ok (.getfield 105, 3) := by decide +kernel
theorem dX8_checksum_41 : decode cX8_checksum 41 = .ok (.iload_n 3, 1) := by decide +kernel
theorem dX8_checksum_42 : decode cX8_checksum 42 = .ok (.iaload, 1) := by decide +kernel
theorem dX8_checksum_43 : decode cX8_checksum 43 = .ok (.i2l, 1) := by decide +kernel
theorem dX8_checksum_44 : decode cX8_checksum 44 = .ok (.ladd, 1) := by decide +kernel
theorem dX8_checksum_45 : decode cX8_checksum 45 = .ok (.lstore_n 1, 1) := by decide +kernel
theorem dX8_checksum_46 : decode cX8_checksum 46 = .ok (.ldc2_w 302, 3) := by decide +kernel
theorem dX8_checksum_49 : decode cX8_checksum 49 = .ok (.lload_n 1, 1) := by decide +kernel
theorem dX8_checksum_50 : decode cX8_checksum 50 = .ok (.lmul, 1) := by decide +kernel
theorem dX8_checksum_51 : decode cX8_checksum 51 = .ok (.aload_n 0, 1) := by decide +kernel
theorem dX8_checksum_52 : decode cX8_checksum 52 = .ok (.getfield 30, 3) := by decide +kernel
theorem dX8_checksum_55 : decode cX8_checksum 55 = .ok (.iload_n 3, 1) := by decide +kernel
theorem dX8_checksum_56 : decode cX8_checksum 56 = .ok (.iaload, 1) := by decide +kernel
theorem dX8_checksum_57 : decode cX8_checksum 57 = .ok (.i2l, 1) := by decide +kernel
theorem dX8_checksum_58 : decode cX8_checksum 58 = .ok (.ladd, 1) := by decide +kernel
theorem dX8_checksum_59 : decode cX8_checksum 59 = .ok (.lstore_n 1, 1) := by decide +kernel
theorem dX8_checksum_60 : decode cX8_checksum 60 = .ok (.ldc2_w 302, 3) := by decide +kernel
theorem dX8_checksum_63 : decode cX8_checksum 63 = .ok (.lload_n 1, 1) := by decide +kernel
theorem dX8_checksum_64 : decode cX8_checksum 64 = .ok (.lmul, 1) := by decide +kernel
theorem dX8_checksum_65 : decode cX8_checksum 65 = .ok (.aload_n 0, 1) := by decide +kernel
theorem dX8_checksum_66 : decode cX8_checksum 66 = .ok (.iload_n 3, 1) := by decide +kernel
theorem dX8_checksum_67 : decode cX8_checksum 67 = .ok (.invokevirtual 194, 3) := by decide +kernel
theorem dX8_checksum_70 : decode cX8_checksum 70 = .ok (.i2l, 1) := by decide +kernel
theorem dX8_checksum_71 : decode cX8_checksum 71 = .ok (.ladd, 1) := by decide +kernel
theorem dX8_checksum_72 : decode cX8_checksum 72 = .ok (.lstore_n 1, 1) := by decide +kernel
theorem dX8_checksum_73 : decode cX8_checksum 73 = .ok (.iinc 3 1, 3) := by decide +kernel
theorem dX8_checksum_76 : decode cX8_checksum 76 = .ok (.goto (-65), 3) := by decide +kernel
theorem dX8_checksum_79 : decode cX8_checksum 79 = .ok (.iconst 0, 1) := by decide +kernel
theorem dX8_checksum_80 : decode cX8_checksum 80 = .ok (.istore_n 3, 1) := by decide +kernel
theorem dX8_checksum_81 : decode cX8_checksum 81 = .ok (.iload_n 3, 1) := by decide +kernel
theorem dX8_checksum_82 : decode cX8_checksum 82 = .ok (.iconst 4, 1) := by decide +kernel
theorem dX8_checksum_83 : decode cX8_checksum 83 = .ok (.if_icmp .ge 39, 3) := by decide +kernel
theorem dX8_checksum_86 : decode cX8_checksum 86 = .ok (.aload_n 0, 1) := by decide +kernel
theorem dX8_checksum_87 : decode cX8_checksum 87 = .ok (.getfield 61, 3) := by decide +kernel
theorem dX8_checksum_90 : decode cX8_checksum 90 = .ok (.iload_n 3, 1) := by decide +kernel
theorem dX8_checksum_91 : decode cX8_checksum 91 = .ok (.baload, 1) := by decide +kernel
theorem dX8_checksum_92 : decode cX8_checksum 92 = .ok (.ifCond .eq 22, 3) := by decide +kernel
theorem dX8_checksum_95 : decode cX8_checksum 95 = .ok (.ldc2_w 302, 3) := by decide +kernel
theorem dX8_checksum_98 : decode cX8_checksum 98 = .ok (.lload_n 1, 1) := by decide +kernel
theorem dX8_checksum_99 : decode cX8_checksum 99 = .ok (.lmul, 1) := by decide +kernel
theorem dX8_checksum_100 : decode cX8_checksum 100 = .ok (.aload_n 0, 1) := by decide +kernel
theorem dX8_checksum_101 : decode cX8_checksum 101 = .ok (.getfield 65, 3) := by decide +kernel
theorem dX8_checksum_104 : decode cX8_checksum 104 = .ok (.iload_n 3, 1) := by decide +kernel
theorem dX8_checksum_105 : decode cX8_checksum 105 = .ok (.faload, 1) := by decide +kernel
theorem dX8_checksum_106 : decode cX8_checksum 106 = .ok (.invokestatic 286, 3) := by decide +kernel
theorem dX8_checksum_109 : decode cX8_checksum 109 = .ok (.i2l, 1) := by decide +kernel
theorem dX8_checksum_110 : decode cX8_checksum 110 = .ok (.ladd, 1) := by decide +kernel
theorem dX8_checksum_111 : decode cX8_checksum 111 = .ok (.goto 4, 3) := by decide +kernel
theorem dX8_checksum_114 : decode cX8_checksum 114 = .ok (.lload_n 1, 1) := by decide +kernel
theorem dX8_checksum_115 : decode cX8_checksum 115 = .ok (.lstore_n 1, 1) := by decide +kernel
theorem dX8_checksum_116 : decode cX8_checksum 116 = .ok (.iinc 3 1, 3) := by decide +kernel
theorem dX8_checksum_119 : decode cX8_checksum 119 = .ok (.goto (-38), 3) := by decide +kernel
theorem dX8_checksum_122 : decode cX8_checksum 122 = .ok (.ldc2_w 302, 3) := by decide +kernel
theorem dX8_checksum_125 : decode cX8_checksum 125 = .ok (.lload_n 1, 1) := by decide +kernel
theorem dX8_checksum_126 : decode cX8_checksum 126 = .ok (.lmul, 1) := by decide +kernel
theorem dX8_checksum_127 : decode cX8_checksum 127 = .ok (.aload_n 0, 1) := by decide +kernel
theorem dX8_checksum_128 : decode cX8_checksum 128 = .ok (.getfield 26, 3) := by decide +kernel
theorem dX8_checksum_131 : decode cX8_checksum 131 = .ok (.getfield 188, 3) := by decide +kernel
theorem dX8_checksum_134 : decode cX8_checksum 134 = .ok (.i2l, 1) := by decide +kernel
theorem dX8_checksum_135 : decode cX8_checksum 135 = .ok (.ladd, 1) := by decide +kernel
theorem dX8_checksum_136 : decode cX8_checksum 136 = .ok (.lreturn, 1) := by decide +kernel
theorem dX8_isTrue_0 : decode cX8_isTrue 0 = .ok (.aload_n 0, 1) := by decide +kernel
theorem dX8_isTrue_1 : decode cX8_isTrue 1 = .ok (.iconst 0, 1) := by decide +kernel
theorem dX8_isTrue_2 : decode cX8_isTrue 2 = .ok (.putfield 76, 3) := by decide +kernel
theorem dX8_isTrue_5 : decode cX8_isTrue 5 = .ok (.iconst 1, 1) := by decide +kernel
theorem dX8_isTrue_6 : decode cX8_isTrue 6 = .ok (.ireturn, 1) := by decide +kernel
