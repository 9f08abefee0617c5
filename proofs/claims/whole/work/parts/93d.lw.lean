/-! rows of mine: the words of the law: good ones, piece by piece -/
set_option maxRecDepth 20000 in
theorem lwt_wsX50 : GoodIn lw_tbl wsX50 := goodIn_of _ (by decide +kernel)
set_option maxRecDepth 20000 in
theorem lwt_wsX80 : GoodIn lw_tbl wsX80 := goodIn_of _ (by decide +kernel)
set_option maxRecDepth 20000 in
theorem lwt_wsX10 : GoodIn lw_tbl wsX10 := goodIn_of _ (by decide +kernel)
set_option maxRecDepth 20000 in
theorem lwt_wsX20 : GoodIn lw_tbl wsX20 := goodIn_of _ (by decide +kernel)
set_option maxRecDepth 20000 in
theorem lwt_wsX40 : GoodIn lw_tbl wsX40 := goodIn_of _ (by decide +kernel)
set_option maxRecDepth 20000 in
theorem lwt_wsX00 : GoodIn lw_tbl wsX00 := goodIn_of _ (by decide +kernel)
set_option maxRecDepth 20000 in
theorem lwt_wsX30 : GoodIn lw_tbl wsX30 := goodIn_of _ (by decide +kernel)
set_option maxRecDepth 20000 in
theorem lwt_wsJx4a65c0 : GoodIn lw_tbl wsJx4a65c0 := goodIn_of _ (by decide +kernel)
set_option maxRecDepth 20000 in
theorem lwt_wsX60 : GoodIn lw_tbl wsX60 := goodIn_of _ (by decide +kernel)
set_option maxRecDepth 20000 in
theorem lwt_wsX70 : GoodIn lw_tbl wsX70 := goodIn_of _ (by decide +kernel)
set_option maxRecDepth 20000 in
theorem lwt_wsJ60 : GoodIn lw_tbl wsJ60 := goodIn_of _ (by decide +kernel)
set_option maxRecDepth 20000 in
theorem lwt_wsJx354110 : GoodIn lw_tbl wsJx354110 := goodIn_of _ (by decide +kernel)
def lw_pc : Nat → List Cond
  | 0 => wsL_law0_r1
  | 1 => wsL_law0_r2
  | 2 => wsL_law0_r3
  | 3 => wsL_law0_r4
  | 4 => wsL_law0_r5
  | 5 => wsL_law0_r6
  | 6 => wsL_law0_r7
  | 7 => wsL_law0_r8
  | 8 => wsL_law0_r9
  | 9 => wsL_law0_r10
  | 10 => wsL_law0_r11
  | 11 => wsL_law0_r12
  | 12 => wsL_law0_r13
  | 13 => wsL_law0_r14
  | 14 => wsL_law0_r15
  | 15 => wsL_law0_r16
  | 16 => wsL_law0_r17
  | 17 => wsL_law0_r18
  | 18 => wsL_law0_r19
  | 19 => wsL_law0_r20
  | 20 => wsL_law0_r21
  | 21 => wsL_law0_r22
  | 22 => wsL_law0_r23
  | 23 => wsL_law0_r24
  | 24 => wsL_law0_r25
  | 25 => wsL_law0_r26
  | 26 => wsL_law0_r27
  | 27 => wsL_law0_r28
  | 28 => wsL_law0_r29
  | 29 => wsL_law0_r30
  | 30 => wsL_law0_r31
  | 31 => wsL_law0_r32
  | 32 => wsL_law0_r33
  | 33 => wsL_law0_r34
  | 34 => wsL_law0_r35
  | 35 => wsL_law0_r36
  | 36 => wsL_law0_r37
  | 37 => wsL_law0_r38
  | 38 => wsL_law0_r39
  | 39 => wsL_law0_r40
  | 40 => wsL_law0_r41
  | 41 => wsL_law0_r42
  | 42 => wsL_law0_r43
  | 43 => wsL_law0_r44
  | 44 => wsL_law0_r45
  | 45 => wsL_law0_r46
  | 46 => wsL_law0_r47
  | 47 => wsL_law0_r48
  | 48 => wsX50
  | 49 => wsX80
  | 50 => wsX10
  | 51 => wsX20
  | 52 => wsX40
  | 53 => wsX00
  | 54 => wsX30
  | 55 => wsJx4a65c0
  | 56 => wsX60
  | 57 => wsX70
  | 58 => wsJ60
  | 59 => wsJx354110
  | _ => []
theorem lw_pc_ok : ∀ k : Nat, GoodIn lw_tbl (lw_pc k)
  | 0 => lwp_1
  | 1 => lwp_2
  | 2 => lwp_3
  | 3 => lwp_4
  | 4 => lwp_5
  | 5 => lwp_6
  | 6 => lwp_7
  | 7 => lwp_8
  | 8 => lwp_9
  | 9 => lwp_10
  | 10 => lwp_11
  | 11 => lwp_12
  | 12 => lwp_13
  | 13 => lwp_14
  | 14 => lwp_15
  | 15 => lwp_16
  | 16 => lwp_17
  | 17 => lwp_18
  | 18 => lwp_19
  | 19 => lwp_20
  | 20 => lwp_21
  | 21 => lwp_22
  | 22 => lwp_23
  | 23 => lwp_24
  | 24 => lwp_25
  | 25 => lwp_26
  | 26 => lwp_27
  | 27 => lwp_28
  | 28 => lwp_29
  | 29 => lwp_30
  | 30 => lwp_31
  | 31 => lwp_32
  | 32 => lwp_33
  | 33 => lwp_34
  | 34 => lwp_35
  | 35 => lwp_36
  | 36 => lwp_37
  | 37 => lwp_38
  | 38 => lwp_39
  | 39 => lwp_40
  | 40 => lwp_41
  | 41 => lwp_42
  | 42 => lwp_43
  | 43 => lwp_44
  | 44 => lwp_45
  | 45 => lwp_46
  | 46 => lwp_47
  | 47 => lwp_48
  | 48 => lwt_wsX50
  | 49 => lwt_wsX80
  | 50 => lwt_wsX10
  | 51 => lwt_wsX20
  | 52 => lwt_wsX40
  | 53 => lwt_wsX00
  | 54 => lwt_wsX30
  | 55 => lwt_wsJx4a65c0
  | 56 => lwt_wsX60
  | 57 => lwt_wsX70
  | 58 => lwt_wsJ60
  | 59 => lwt_wsJx354110
  | _ + 60 => fun _ h => absurd h List.not_mem_nil
theorem lw_gi {ws : List Cond} (ps : List (Nat × Nat)) (hp : ws = ps.filterMap (fun q => (lw_pc q.1)[q.2]?)) : GoodIn lw_tbl ws := by
  intro w hw
  rw [hp] at hw
  obtain ⟨q, -, hq⟩ := List.mem_filterMap.mp hw
  exact lw_pc_ok q.1 w (List.mem_of_getElem? hq)
set_option maxRecDepth 20000 in
theorem lwx_0 : GoodIn lw_tbl ((vx_atM "java/lang/ArrayIndexOutOfBoundsException" ["java/lang/IndexOutOfBoundsException", "java/lang/RuntimeException", "java/lang/Exception"]).filter goodWord) := goodIn_sub (by decide +kernel) (by decide +kernel)
set_option maxRecDepth 20000 in
theorem lwx_1 : GoodIn lw_tbl ((vx_atS RX5 89 "java/lang/UnsupportedOperationException" ["java/lang/RuntimeException", "java/lang/Exception"]).filter goodWord) := goodIn_sub (by decide +kernel) (by decide +kernel)
set_option maxRecDepth 20000 in
theorem lwx_2 : GoodIn lw_tbl ((vx_atS RX5 130 "java/lang/IndexOutOfBoundsException" ["java/lang/RuntimeException", "java/lang/Exception"]).filter goodWord) := goodIn_sub (by decide +kernel) (by decide +kernel)
set_option maxRecDepth 20000 in
theorem lwx_3 : GoodIn lw_tbl ((vx_atS RX5 156 "java/lang/IllegalArgumentException" ["java/lang/RuntimeException", "java/lang/Exception"]).filter goodWord) := goodIn_sub (by decide +kernel) (by decide +kernel)
set_option maxRecDepth 20000 in
theorem lwx_4 : GoodIn lw_tbl ((zx_atX RX5 232 "java/util/NoSuchElementException" ["java/lang/RuntimeException", "java/lang/Exception"]).filter goodWord) := goodIn_sub (by decide +kernel) (by decide +kernel)
set_option maxRecDepth 20000 in
theorem lwx_5 : GoodIn lw_tbl ((vx_atS RX5 142 "java/lang/IllegalStateException" ["java/lang/RuntimeException", "java/lang/Exception"]).filter goodWord) := goodIn_sub (by decide +kernel) (by decide +kernel)
set_option maxRecDepth 20000 in
theorem lwx_6 : GoodIn lw_tbl ((vx_atM "java/lang/ArithmeticException" ["java/lang/RuntimeException", "java/lang/Exception"]).filter goodWord) := goodIn_sub (by decide +kernel) (by decide +kernel)
set_option maxRecDepth 20000 in
theorem lwx_7 : GoodIn lw_tbl ((vx_atS RX5 240 "java/lang/ArithmeticException" ["java/lang/RuntimeException", "java/lang/Exception"]).filter goodWord) := goodIn_sub (by decide +kernel) (by decide +kernel)
