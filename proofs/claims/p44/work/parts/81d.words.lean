/-! rows of mine: word lists of the law's methods among lw_tbl -/
set_option maxRecDepth 100000 in
theorem gT_L_ask_r1 : GoodIn lw_tbl wsL_ask_r1 := lw_gi [(9, 17), (9, 18), (9, 19), (3, 23), (4, 0), (9, 20), (0, 6), (0, 7), (9, 21), (0, 8), (0, 3), (0, 9), (9, 22), (9, 23), (10, 0), (0, 2), (10, 1), (4, 11), (4, 12), (0, 19), (0, 23), (1, 0), (1, 1), (1, 9)] (by decide +kernel)
set_option maxRecDepth 100000 in
theorem gT_L_ask_r2 : GoodIn lw_tbl wsL_ask_r2 := lw_gi [(10, 2), (10, 3), (10, 4), (10, 5), (10, 6), (10, 7), (10, 8), (10, 9), (10, 10), (10, 11), (10, 12), (0, 18), (10, 13), (10, 14), (2, 2), (10, 15), (10, 16), (10, 17), (2, 4), (2, 5), (2, 6), (10, 18), (10, 19), (10, 20)] (by decide +kernel)
set_option maxRecDepth 100000 in
theorem gT_L_ask_r3 : GoodIn lw_tbl wsL_ask_r3 := lw_gi [(10, 21), (2, 1), (2, 3), (10, 22), (10, 23), (11, 0), (11, 1), (1, 21), (11, 2), (11, 3), (1, 20), (11, 4), (11, 5), (3, 13), (3, 15), (3, 16), (11, 6), (11, 7), (11, 8), (11, 9), (11, 10), (11, 11), (11, 12), (11, 13)] (by decide +kernel)
set_option maxRecDepth 100000 in
theorem gT_L_ask_r4 : GoodIn lw_tbl wsL_ask_r4 := lw_gi [(11, 14), (11, 15), (11, 16), (11, 17), (11, 18), (11, 19), (11, 20), (11, 21), (5, 15), (11, 22), (11, 23), (12, 0), (12, 1), (12, 2), (12, 3), (12, 4), (12, 5), (12, 6), (12, 7), (12, 8), (12, 9), (12, 10), (12, 11), (12, 12)] (by decide +kernel)
set_option maxRecDepth 100000 in
theorem gT_L_ask_r5 : GoodIn lw_tbl wsL_ask_r5 := lw_gi [(12, 13), (12, 14), (2, 7), (2, 8), (2, 9), (2, 10), (2, 11), (12, 15), (12, 16), (12, 17), (12, 18), (12, 19), (12, 20), (12, 21), (12, 22), (12, 23), (13, 0), (13, 1), (13, 2), (13, 3), (13, 4), (13, 5), (13, 6), (13, 7)] (by decide +kernel)
set_option maxRecDepth 100000 in
theorem gT_L_ask_r6 : GoodIn lw_tbl wsL_ask_r6 := lw_gi [(13, 8), (13, 9), (13, 10), (13, 11), (13, 12), (13, 13), (13, 14), (13, 15), (13, 16), (13, 17), (13, 18), (1, 2), (13, 19), (13, 20), (13, 21), (13, 22), (1, 3), (1, 4), (13, 23), (14, 0), (5, 3), (0, 22), (5, 4), (5, 5)] (by decide +kernel)
set_option maxRecDepth 100000 in
theorem gT_L_ask_r7 : GoodIn lw_tbl wsL_ask_r7 := lw_gi [(2, 17), (2, 15), (2, 16), (5, 6), (5, 7), (5, 8), (5, 9), (5, 10), (5, 11), (5, 12), (5, 13), (5, 14), (5, 16), (5, 17), (5, 18), (5, 19), (5, 20), (14, 1), (14, 2), (14, 3), (14, 4), (14, 5), (14, 6), (14, 7)] (by decide +kernel)
set_option maxRecDepth 100000 in
theorem gT_L_ask_r8 : GoodIn lw_tbl wsL_ask_r8 := lw_gi [(14, 8), (14, 9), (14, 10), (14, 11), (14, 12), (14, 13), (14, 14), (14, 15), (14, 16), (14, 17), (14, 18), (14, 19), (14, 20), (14, 21), (14, 22), (14, 23), (7, 9), (7, 10), (7, 11), (15, 0), (15, 1), (15, 2), (15, 3), (1, 12)] (by decide +kernel)
set_option maxRecDepth 100000 in
theorem gT_L_ask_r9 : GoodIn lw_tbl wsL_ask_r9 := lw_gi [(4, 7), (4, 8), (4, 9), (4, 10), (4, 20), (4, 21), (4, 22), (4, 23), (5, 0), (5, 1), (5, 2), (15, 4), (15, 5), (15, 6), (15, 7), (4, 13), (4, 14), (4, 15), (4, 16), (4, 5), (4, 6), (1, 8), (1, 10), (4, 17)] (by decide +kernel)
set_option maxRecDepth 100000 in
theorem gT_L_ask_r10 : GoodIn lw_tbl wsL_ask_r10 := lw_gi [(1, 7), (4, 18), (4, 19), (3, 2), (3, 3), (2, 23), (2, 22), (5, 21), (5, 22), (5, 23), (6, 0), (6, 1), (6, 2), (6, 3), (2, 21), (15, 8), (15, 9), (15, 10), (15, 11), (15, 12), (15, 13), (15, 14), (15, 15), (15, 16)] (by decide +kernel)
set_option maxRecDepth 100000 in
theorem gT_L_ask_r11 : GoodIn lw_tbl wsL_ask_r11 := lw_gi [(15, 17), (15, 18), (6, 11), (6, 12), (6, 13), (6, 14), (15, 19), (15, 20), (3, 21), (15, 21), (15, 22), (15, 23), (16, 0), (16, 1), (6, 8), (6, 9), (6, 10), (16, 2), (16, 3), (16, 4), (16, 5), (9, 7), (9, 8), (9, 9)] (by decide +kernel)
set_option maxRecDepth 100000 in
theorem gT_L_ask_r12 : GoodIn lw_tbl wsL_ask_r12 := lw_gi [(3, 0), (9, 10), (9, 11), (9, 12), (9, 13), (6, 7), (16, 6), (16, 7), (16, 8), (16, 9), (16, 10), (16, 11), (16, 12), (16, 13), (16, 14), (16, 15), (16, 16), (16, 17), (16, 18), (16, 19), (16, 20), (16, 21), (16, 22), (16, 23)] (by decide +kernel)
set_option maxRecDepth 100000 in
theorem gT_L_ask_r13 : GoodIn lw_tbl wsL_ask_r13 := lw_gi [(17, 0), (17, 1), (17, 2), (17, 3), (1, 11), (17, 4), (17, 5), (17, 6), (17, 7), (17, 8), (17, 9), (17, 10), (17, 11), (17, 12), (17, 13), (17, 14), (17, 15), (17, 16), (17, 17), (17, 18), (17, 19), (17, 20), (17, 21), (17, 22)] (by decide +kernel)
set_option maxRecDepth 100000 in
theorem gT_L_ask_r14 : GoodIn lw_tbl wsL_ask_r14 := lw_gi [(17, 23), (18, 0), (18, 1), (18, 2), (18, 3), (1, 13), (18, 4), (18, 5), (18, 6), (18, 7), (18, 8), (18, 9), (18, 10), (18, 11), (18, 12), (18, 13), (18, 14), (18, 15), (18, 16), (18, 17), (18, 18), (18, 19), (18, 20), (18, 21)] (by decide +kernel)
set_option maxRecDepth 100000 in
theorem gT_L_ask_r15 : GoodIn lw_tbl wsL_ask_r15 := lw_gi [(18, 22), (18, 23), (19, 0), (19, 1), (19, 2), (19, 3), (19, 4), (19, 5), (19, 6), (19, 7), (19, 8), (19, 9), (19, 10), (19, 11), (19, 12), (19, 13), (19, 14), (19, 15), (19, 16), (19, 17), (19, 18), (19, 19), (19, 20), (19, 21)] (by decide +kernel)
set_option maxRecDepth 100000 in
theorem gT_L_ask_r16 : GoodIn lw_tbl wsL_ask_r16 := lw_gi [(19, 22), (19, 23), (20, 0), (20, 1), (20, 2), (20, 3), (20, 4), (1, 17), (20, 5), (1, 16), (20, 6), (20, 7), (3, 7), (3, 8), (20, 8), (20, 9), (20, 10), (20, 11), (20, 12), (20, 13), (20, 14), (20, 15), (20, 16), (20, 17)] (by decide +kernel)
set_option maxRecDepth 100000 in
theorem gT_L_ask_r17 : GoodIn lw_tbl wsL_ask_r17 := lw_gi [(20, 18), (20, 19), (20, 20), (20, 21), (20, 22), (20, 23), (21, 0), (21, 1), (21, 2), (21, 3), (21, 4), (21, 5), (21, 6), (21, 7), (21, 8), (21, 9), (21, 10), (21, 11), (21, 12), (3, 18), (3, 17), (21, 13), (21, 14), (21, 15)] (by decide +kernel)
set_option maxRecDepth 100000 in
theorem gT_L_ask_r18 : GoodIn lw_tbl wsL_ask_r18 := lw_gi [(21, 16), (21, 17), (21, 18), (21, 19), (21, 20), (8, 0), (8, 1), (8, 2), (8, 3), (8, 4), (8, 5), (8, 6), (8, 7), (8, 8), (8, 9), (8, 10), (8, 11), (21, 21), (21, 22), (21, 23), (22, 0), (22, 1), (22, 2), (22, 3)] (by decide +kernel)
set_option maxRecDepth 100000 in
theorem gT_L_ask_r19 : GoodIn lw_tbl wsL_ask_r19 := lw_gi [(22, 4), (22, 5), (22, 6), (22, 7), (22, 8), (22, 9), (22, 10), (7, 12), (7, 13), (7, 14), (7, 15), (7, 16), (7, 17), (7, 18), (7, 19), (7, 20), (7, 21), (7, 22), (7, 23)] (by decide +kernel)
set_option maxRecDepth 100000 in
theorem gT_L_ask : GoodIn lw_tbl wsL_ask := goodIn_c (lw_gi [(9, 16)] (by decide +kernel)) (goodIn_app (goodIn_app (goodIn_app (goodIn_app (goodIn_app (goodIn_app (goodIn_app (goodIn_app (goodIn_app (goodIn_app (goodIn_app (goodIn_app (goodIn_app (goodIn_app (goodIn_app (gT_L_ask_r1) (goodIn_app (gT_L_ask_r2) (goodIn_app (gT_L_ask_r3) (goodIn_app (gT_L_ask_r4) (goodIn_app (gT_L_ask_r5) (goodIn_app (gT_L_ask_r6) (goodIn_app (gT_L_ask_r7) (goodIn_app (gT_L_ask_r8) (goodIn_app (gT_L_ask_r9) (goodIn_app (gT_L_ask_r10) (goodIn_app (gT_L_ask_r11) (goodIn_app (gT_L_ask_r12) (goodIn_app (gT_L_ask_r13) (goodIn_app (gT_L_ask_r14) (goodIn_app (gT_L_ask_r15) (goodIn_app (gT_L_ask_r16) (goodIn_app (gT_L_ask_r17) (goodIn_app (gT_L_ask_r18) (gT_L_ask_r19))))))))))))))))))) (lwt_wsX50)) (lwt_wsX20)) (lwt_wsX10)) (lwt_wsX30)) (lwt_wsX40)) (lwt_wsX00)) (lwx_2)) (lwx_1)) (lwx_4)) (lwx_5)) (lwx_6)) (lwx_7)) (lwx_3)) (lwx_0))
set_option maxRecDepth 100000 in
theorem gT_L_asked_r1 : GoodIn lw_tbl wsL_asked_r1 := lw_gi [(15, 22), (15, 23), (16, 0), (0, 2), (16, 1), (10, 2), (10, 3), (10, 4), (10, 5), (10, 6), (11, 10), (11, 11), (11, 12), (11, 13), (11, 14), (11, 15), (0, 19), (10, 12), (0, 18), (10, 13), (10, 14), (2, 2), (4, 13), (4, 14)] (by decide +kernel)
set_option maxRecDepth 100000 in
theorem gT_L_asked_r2 : GoodIn lw_tbl wsL_asked_r2 := lw_gi [(4, 15), (4, 16), (4, 5), (4, 6), (1, 9), (1, 8), (0, 23), (1, 10), (4, 7), (4, 8), (4, 9), (4, 10), (4, 11), (4, 12), (1, 3), (4, 17), (1, 7), (4, 18), (4, 19), (3, 2), (3, 3), (2, 23), (2, 22), (4, 20)] (by decide +kernel)
set_option maxRecDepth 100000 in
theorem gT_L_asked_r3 : GoodIn lw_tbl wsL_asked_r3 := lw_gi [(0, 22), (4, 21), (4, 22), (2, 15), (4, 23), (5, 0), (5, 1), (5, 2), (2, 16), (2, 17), (5, 3), (5, 4), (5, 5), (5, 6), (5, 7), (5, 8), (5, 9), (5, 10), (5, 11), (5, 12), (2, 4), (2, 5), (2, 6), (5, 13)] (by decide +kernel)
set_option maxRecDepth 100000 in
theorem gT_L_asked_r4 : GoodIn lw_tbl wsL_asked_r4 := lw_gi [(5, 14), (5, 15), (5, 16), (5, 17), (5, 18), (5, 19), (5, 20), (5, 21), (5, 22), (5, 23), (6, 0), (6, 1), (6, 2), (6, 3), (2, 21), (6, 8), (6, 9), (6, 10), (6, 11), (6, 12), (6, 13), (6, 14), (16, 2), (16, 3)] (by decide +kernel)
set_option maxRecDepth 100000 in
theorem gT_L_asked_r5 : GoodIn lw_tbl wsL_asked_r5 := lw_gi [(16, 4), (16, 5), (9, 7), (9, 8), (9, 9), (3, 0), (9, 10), (9, 11), (9, 12), (9, 13), (6, 7), (16, 6), (16, 7), (16, 8), (16, 9), (16, 10), (16, 11), (16, 12), (16, 13), (16, 14), (16, 15), (16, 16), (16, 17), (16, 18)] (by decide +kernel)
set_option maxRecDepth 100000 in
theorem gT_L_asked_r6 : GoodIn lw_tbl wsL_asked_r6 := lw_gi [(16, 19), (16, 20), (16, 21), (16, 22), (16, 23), (17, 0), (17, 1), (17, 2), (17, 3), (1, 12), (1, 11), (17, 4), (17, 5), (17, 6), (17, 7), (12, 9), (12, 10), (12, 11), (10, 10), (10, 11), (17, 8), (17, 9), (17, 10), (17, 11)] (by decide +kernel)
set_option maxRecDepth 100000 in
theorem gT_L_asked_r7 : GoodIn lw_tbl wsL_asked_r7 := lw_gi [(17, 12), (17, 13), (17, 14), (17, 15), (2, 7), (2, 8), (2, 9), (2, 10), (2, 11), (10, 18), (10, 19), (10, 20), (10, 21), (2, 1), (2, 3), (17, 16), (13, 8), (12, 12), (12, 13), (12, 14), (17, 17), (17, 18), (17, 19), (17, 20)] (by decide +kernel)
set_option maxRecDepth 100000 in
theorem gT_L_asked_r8 : GoodIn lw_tbl wsL_asked_r8 := lw_gi [(17, 21), (17, 22), (17, 23), (10, 7), (10, 8), (10, 9), (18, 0), (18, 1), (18, 2), (18, 3), (11, 20), (11, 21), (11, 22), (1, 13), (18, 4), (18, 5), (18, 6), (18, 7), (15, 16), (15, 17), (15, 18), (18, 8), (18, 9), (18, 10)] (by decide +kernel)
set_option maxRecDepth 100000 in
theorem gT_L_asked_r9 : GoodIn lw_tbl wsL_asked_r9 := lw_gi [(18, 11), (18, 12), (18, 13), (18, 14), (18, 15), (18, 16), (18, 17), (18, 18), (18, 19), (18, 20), (18, 21), (18, 22), (18, 23), (19, 0), (19, 1), (19, 2), (19, 3), (19, 4), (14, 5), (14, 6), (14, 7), (14, 8), (14, 9), (14, 10)] (by decide +kernel)
set_option maxRecDepth 100000 in
theorem gT_L_asked_r10 : GoodIn lw_tbl wsL_asked_r10 := lw_gi [(14, 11), (19, 5), (19, 6), (19, 7), (19, 8), (19, 9), (19, 10), (19, 11), (19, 12), (19, 13), (19, 14), (19, 15), (19, 16), (19, 17), (19, 18), (19, 19), (19, 20), (19, 21), (19, 22), (19, 23), (20, 0), (1, 4), (20, 1), (20, 2)] (by decide +kernel)
set_option maxRecDepth 100000 in
theorem gT_L_asked_r11 : GoodIn lw_tbl wsL_asked_r11 := lw_gi [(20, 3), (20, 4), (12, 7), (12, 8), (1, 17), (20, 5), (1, 16), (20, 6), (20, 7), (3, 7), (3, 8), (20, 8), (20, 9), (20, 10), (20, 11), (20, 12), (20, 13), (20, 14), (20, 15), (20, 16), (20, 17), (20, 18), (20, 19), (20, 20)] (by decide +kernel)
set_option maxRecDepth 100000 in
theorem gT_L_asked_r12 : GoodIn lw_tbl wsL_asked_r12 := lw_gi [(20, 21), (20, 22), (20, 23), (21, 0), (21, 1), (21, 2), (21, 3), (21, 4), (21, 5), (1, 21), (21, 6), (21, 7), (21, 8), (21, 9), (21, 10), (1, 20), (21, 11), (21, 12), (3, 13), (3, 18), (3, 15), (3, 17), (3, 16), (21, 13)] (by decide +kernel)
set_option maxRecDepth 100000 in
theorem gT_L_asked_r13 : GoodIn lw_tbl wsL_asked_r13 := lw_gi [(21, 14), (21, 15), (21, 16), (21, 17), (21, 18), (21, 19), (21, 20), (8, 0), (8, 1), (8, 2), (8, 3), (8, 4), (8, 5), (8, 6), (8, 7), (8, 8), (8, 9), (8, 10), (8, 11), (21, 21), (21, 22), (21, 23), (22, 0), (22, 1)] (by decide +kernel)
set_option maxRecDepth 100000 in
theorem gT_L_asked_r14 : GoodIn lw_tbl wsL_asked_r14 := lw_gi [(22, 2), (22, 3), (22, 4), (22, 5), (22, 6), (22, 7), (22, 8), (22, 9), (22, 10), (7, 12), (7, 13), (7, 14), (7, 15), (7, 16), (7, 17), (7, 18), (7, 19), (7, 20), (7, 21), (7, 22), (7, 23)] (by decide +kernel)
set_option maxRecDepth 100000 in
theorem gT_L_asked : GoodIn lw_tbl wsL_asked := goodIn_c (lw_gi [(15, 21)] (by decide +kernel)) (goodIn_app (goodIn_app (goodIn_app (goodIn_app (goodIn_app (goodIn_app (goodIn_app (goodIn_app (goodIn_app (goodIn_app (goodIn_app (goodIn_app (goodIn_app (goodIn_app (goodIn_app (gT_L_asked_r1) (goodIn_app (gT_L_asked_r2) (goodIn_app (gT_L_asked_r3) (goodIn_app (gT_L_asked_r4) (goodIn_app (gT_L_asked_r5) (goodIn_app (gT_L_asked_r6) (goodIn_app (gT_L_asked_r7) (goodIn_app (gT_L_asked_r8) (goodIn_app (gT_L_asked_r9) (goodIn_app (gT_L_asked_r10) (goodIn_app (gT_L_asked_r11) (goodIn_app (gT_L_asked_r12) (goodIn_app (gT_L_asked_r13) (gT_L_asked_r14)))))))))))))) (lwt_wsX50)) (lwt_wsX10)) (lwt_wsX40)) (lwt_wsX20)) (lwt_wsX00)) (lwt_wsX30)) (lwx_2)) (lwx_4)) (lwx_6)) (lwx_0)) (lwx_1)) (lwx_3)) (lwx_5)) (lwx_7))
set_option maxRecDepth 100000 in
theorem gT_L_mean_r1 : GoodIn lw_tbl wsL_mean_r1 := lw_gi [(3, 23), (4, 0), (0, 8), (0, 3), (4, 1), (4, 2), (4, 3), (0, 2), (4, 4), (4, 5), (4, 6), (0, 19), (4, 7), (4, 8), (4, 9), (4, 10), (4, 11), (4, 12), (1, 3), (4, 13), (4, 14), (4, 15), (4, 16), (1, 9)] (by decide +kernel)
set_option maxRecDepth 100000 in
theorem gT_L_mean_r2 : GoodIn lw_tbl wsL_mean_r2 := lw_gi [(1, 8), (0, 23), (1, 10), (4, 17), (1, 7), (4, 18), (4, 19), (3, 2), (3, 3), (2, 23), (2, 22), (4, 20), (0, 22), (4, 21), (4, 22), (2, 15), (4, 23), (5, 0), (5, 1), (5, 2), (2, 16), (2, 17), (5, 3), (5, 4)] (by decide +kernel)
set_option maxRecDepth 100000 in
theorem gT_L_mean_r3 : GoodIn lw_tbl wsL_mean_r3 := lw_gi [(5, 5), (5, 6), (5, 7), (5, 8), (5, 9), (5, 10), (0, 18), (5, 11), (5, 12), (2, 4), (2, 5), (2, 6), (5, 13), (5, 14), (5, 15), (5, 16), (5, 17), (5, 18), (5, 19), (5, 20), (5, 21), (5, 22), (5, 23), (6, 0)] (by decide +kernel)
set_option maxRecDepth 100000 in
theorem gT_L_mean_r4 : GoodIn lw_tbl wsL_mean_r4 := lw_gi [(6, 1), (6, 2), (6, 3), (2, 21), (6, 4), (6, 5), (6, 6), (6, 7), (6, 8), (6, 9), (6, 10), (6, 11), (6, 12), (6, 13), (6, 14), (6, 15), (6, 16), (6, 17), (6, 18)] (by decide +kernel)
set_option maxRecDepth 100000 in
theorem gT_L_mean : GoodIn lw_tbl wsL_mean := goodIn_c (lw_gi [(3, 22)] (by decide +kernel)) (goodIn_app (goodIn_app (goodIn_app (goodIn_app (goodIn_app (goodIn_app (goodIn_app (goodIn_app (goodIn_app (gT_L_mean_r1) (goodIn_app (gT_L_mean_r2) (goodIn_app (gT_L_mean_r3) (gT_L_mean_r4)))) (lwt_wsX50)) (lwt_wsX10)) (lwt_wsX40)) (lwt_wsX20)) (lwx_0)) (lwx_1)) (lwx_2)) (lwx_3))
set_option maxRecDepth 100000 in
theorem gT_L_at : GoodIn lw_tbl wsL_at := goodIn_c (lw_gi [(22, 17)] (by decide +kernel)) (goodIn_app (goodIn_0) (lwx_2))
set_option maxRecDepth 100000 in
theorem gT_L_some : GoodIn lw_tbl wsL_some := goodIn_c (lw_gi [(22, 20)] (by decide +kernel)) (goodIn_app (goodIn_0) (lwx_3))
set_option maxRecDepth 100000 in
theorem gT_X5_init_r1 : GoodIn lw_tbl wsX5_init_r1 := lw_gi [(0, 13), (0, 14), (0, 15), (0, 16), (0, 17), (0, 18), (0, 19), (0, 20), (0, 21), (0, 22), (0, 23), (0, 5), (1, 0), (1, 1), (1, 2), (1, 3), (1, 4), (1, 5), (1, 6), (1, 7), (1, 8), (1, 9), (1, 10), (1, 11)] (by decide +kernel)
set_option maxRecDepth 100000 in
theorem gT_X5_init_r2 : GoodIn lw_tbl wsX5_init_r2 := lw_gi [(1, 12), (1, 13), (1, 14), (1, 15), (1, 16), (1, 17), (1, 18), (1, 19), (1, 20), (1, 21), (1, 22), (1, 23), (2, 0), (2, 1), (2, 2), (2, 3), (2, 4), (2, 5), (2, 6), (2, 7), (2, 8), (2, 9), (2, 10), (2, 11)] (by decide +kernel)
set_option maxRecDepth 100000 in
theorem gT_X5_init_r3 : GoodIn lw_tbl wsX5_init_r3 := lw_gi [(2, 12), (2, 13), (2, 14), (2, 15), (2, 16), (2, 17), (2, 18), (2, 19), (2, 20), (2, 21), (2, 22), (2, 23), (3, 0), (3, 1), (3, 2), (3, 3), (3, 4), (3, 5), (3, 6), (3, 7), (3, 8), (3, 9), (3, 10), (3, 11)] (by decide +kernel)
set_option maxRecDepth 100000 in
theorem gT_X5_init_r4 : GoodIn lw_tbl wsX5_init_r4 := lw_gi [(3, 12), (3, 13), (3, 14), (3, 15), (3, 16), (3, 17), (3, 18)] (by decide +kernel)
set_option maxRecDepth 100000 in
theorem gT_X5_init : GoodIn lw_tbl wsX5_init := goodIn_c (lw_gi [(0, 12)] (by decide +kernel)) (goodIn_app (goodIn_app (goodIn_app (goodIn_app (goodIn_app (goodIn_app (goodIn_app (gT_X5_init_r1) (goodIn_app (gT_X5_init_r2) (goodIn_app (gT_X5_init_r3) (gT_X5_init_r4)))) (lwt_wsX10)) (lwt_wsX50)) (lwt_wsX20)) (lwt_wsX40)) (lwt_wsX00)) (lwt_wsX30))
set_option maxRecDepth 100000 in
theorem gT_X5_tick : GoodIn lw_tbl wsX5_tick := goodIn_c (lw_gi [(6, 22)] (by decide +kernel)) (goodIn_app (lw_gi [(1, 2)] (by decide +kernel)) (lwt_wsX50))
set_option maxRecDepth 100000 in
theorem gT_X5_wipe : GoodIn lw_tbl wsX5_wipe := goodIn_c (lw_gi [(7, 2)] (by decide +kernel)) (goodIn_app (goodIn_app (lw_gi [(1, 17)] (by decide +kernel)) (lwt_wsX50)) (lwt_wsX00))
set_option maxRecDepth 100000 in
theorem gT_X5_checksum_r1 : GoodIn lw_tbl wsX5_checksum_r1 := lw_gi [(7, 7), (0, 19), (7, 8), (0, 23), (1, 0), (1, 21), (1, 2), (7, 9), (0, 22), (7, 10), (7, 11), (2, 16), (5, 6), (5, 7), (5, 8), (5, 9), (2, 17), (7, 12), (1, 20), (7, 13), (7, 14), (3, 13), (7, 15), (7, 16)] (by decide +kernel)
set_option maxRecDepth 100000 in
theorem gT_X5_checksum_r2 : GoodIn lw_tbl wsX5_checksum_r2 := lw_gi [(7, 17), (3, 15), (7, 18), (7, 19), (7, 20), (7, 21), (7, 22), (7, 23), (8, 0), (8, 1), (8, 2), (8, 3), (8, 4), (8, 5), (8, 6), (8, 7), (8, 8), (8, 9), (8, 10), (8, 11)] (by decide +kernel)
set_option maxRecDepth 100000 in
theorem gT_X5_checksum : GoodIn lw_tbl wsX5_checksum := goodIn_c (lw_gi [(7, 6)] (by decide +kernel)) (goodIn_app (goodIn_app (goodIn_app (goodIn_app (goodIn_app (goodIn_app (gT_X5_checksum_r1) (gT_X5_checksum_r2)) (lwt_wsX50)) (lwt_wsX10)) (lwt_wsX20)) (lwt_wsX30)) (lwx_2))
set_option maxRecDepth 100000 in
theorem gT_X5_energyBits_r1 : GoodIn lw_tbl wsX5_energyBits_r1 := lw_gi [(1, 21), (8, 16), (1, 20), (8, 17), (8, 18), (3, 13), (3, 15), (3, 16), (8, 19), (3, 17), (8, 0), (8, 1), (8, 2), (8, 3), (8, 4), (8, 5), (8, 6), (7, 19), (7, 20), (7, 21), (7, 22), (7, 23), (8, 7), (8, 8)] (by decide +kernel)
set_option maxRecDepth 100000 in
theorem gT_X5_energyBits_r2 : GoodIn lw_tbl wsX5_energyBits_r2 := lw_gi [(8, 9), (8, 10), (8, 11)] (by decide +kernel)
set_option maxRecDepth 100000 in
theorem gT_X5_energyBits : GoodIn lw_tbl wsX5_energyBits := goodIn_c (lw_gi [(8, 15)] (by decide +kernel)) (goodIn_app (goodIn_app (goodIn_app (goodIn_app (gT_X5_energyBits_r1) (gT_X5_energyBits_r2)) (lwt_wsX50)) (lwt_wsX30)) (lwx_2))
set_option maxRecDepth 100000 in
theorem gT_X5_isTrue_r1 : GoodIn lw_tbl wsX5_isTrue_r1 := lw_gi [(0, 19), (0, 23), (1, 3), (1, 13), (4, 17), (1, 7), (4, 18), (4, 19), (3, 2), (3, 3), (2, 23), (2, 22), (4, 20), (0, 22), (4, 21), (4, 22), (2, 15), (4, 23), (5, 0), (5, 1), (5, 2), (2, 16), (2, 17), (5, 3)] (by decide +kernel)
set_option maxRecDepth 100000 in
theorem gT_X5_isTrue_r2 : GoodIn lw_tbl wsX5_isTrue_r2 := lw_gi [(5, 4), (5, 5), (5, 6), (5, 7), (5, 8), (5, 9), (5, 10), (0, 18), (5, 11), (5, 12), (2, 4), (2, 5), (2, 6), (5, 13), (5, 14), (5, 15), (5, 16), (5, 17), (5, 18), (5, 19), (5, 20), (5, 21), (5, 22), (5, 23)] (by decide +kernel)
set_option maxRecDepth 100000 in
theorem gT_X5_isTrue_r3 : GoodIn lw_tbl wsX5_isTrue_r3 := lw_gi [(6, 0), (6, 1), (6, 2), (6, 3), (2, 21), (9, 0), (9, 1), (9, 2), (9, 3), (9, 4), (9, 5), (3, 0), (9, 6), (9, 7), (9, 8), (9, 9), (9, 10), (9, 11), (9, 12), (9, 13), (6, 7), (6, 8), (6, 9), (6, 10)] (by decide +kernel)
set_option maxRecDepth 100000 in
theorem gT_X5_isTrue_r4 : GoodIn lw_tbl wsX5_isTrue_r4 := lw_gi [(6, 11), (6, 12), (6, 13), (6, 14)] (by decide +kernel)
set_option maxRecDepth 100000 in
theorem gT_X5_isTrue : GoodIn lw_tbl wsX5_isTrue := goodIn_c (lw_gi [(8, 23)] (by decide +kernel)) (goodIn_app (goodIn_app (goodIn_app (goodIn_app (goodIn_app (goodIn_app (goodIn_app (gT_X5_isTrue_r1) (goodIn_app (gT_X5_isTrue_r2) (goodIn_app (gT_X5_isTrue_r3) (gT_X5_isTrue_r4)))) (lwt_wsX50)) (lwt_wsX10)) (lwt_wsX20)) (lwt_wsX40)) (lwx_2)) (lwx_3))
set_option maxRecDepth 100000 in
theorem gT_J0_charAt_5068e_r1 : GoodIn lw_tbl wsJ0_charAt_5068e_r1 := lw_gi [(23, 2), (23, 3), (23, 4), (23, 5), (23, 0), (23, 6), (23, 7), (23, 8), (23, 9), (23, 10), (23, 11), (23, 12), (23, 13), (23, 14), (23, 15), (23, 16), (23, 17), (23, 18), (23, 19), (23, 20), (23, 21), (23, 22), (23, 23), (24, 0)] (by decide +kernel)
set_option maxRecDepth 100000 in
theorem gT_J0_charAt_5068e_r2 : GoodIn lw_tbl wsJ0_charAt_5068e_r2 := lw_gi [(24, 1), (24, 2), (24, 3), (24, 4), (24, 5), (24, 6), (24, 7), (24, 8), (24, 9), (24, 10), (24, 11), (24, 12), (24, 13)] (by decide +kernel)
set_option maxRecDepth 100000 in
theorem gT_J0_charAt_5068e : GoodIn lw_tbl wsJ0_charAt_5068e := goodIn_c (lw_gi [(23, 1)] (by decide +kernel)) (goodIn_app (goodIn_app (gT_J0_charAt_5068e_r1) (gT_J0_charAt_5068e_r2)) (lwt_wsJ00))
