/-! rows of mine: the words of the law: good ones, piece by piece -/
set_option maxRecDepth 20000 in
theorem lwt_wsX50 : GoodIn lw_tbl wsX50 := goodIn_of _ (by decide +kernel)
set_option maxRecDepth 20000 in
theorem lwt_wsX10 : GoodIn lw_tbl wsX10 := goodIn_of _ (by decide +kernel)
set_option maxRecDepth 20000 in
theorem lwt_wsX20 : GoodIn lw_tbl wsX20 := goodIn_of _ (by decide +kernel)
set_option maxRecDepth 20000 in
theorem lwt_wsX40 : GoodIn lw_tbl wsX40 := goodIn_of _ (by decide +kernel)
set_option maxRecDepth 20000 in
theorem lwt_wsX00 : GoodIn lw_tbl wsX00 := goodIn_of _ (by decide +kernel)
set_option maxRecDepth 20000 in
theorem lwt_wsX30 : GoodIn lw_tbl wsX30 := goodIn_of _ (by decide +kernel)
set_option maxRecDepth 20000 in
theorem lwt_wsJ00 : GoodIn lw_tbl wsJ00 := goodIn_of _ (by decide +kernel)
def lw_pc : Nat → List Cond
  | 0 => wsL_law0_r1
  | 1 => wsL_law0_r2
  | 2 => wsL_law0_r3
  | 3 => wsL_law0_r4
  | 4 => wsL_law0_r5
  | 5 => wsL_law0_r6
  | 6 => wsL_law0_r7
  | 7 => wsL_law0_r8
  | 8 => wsL_law0_r9
  | 9 => wsL_law0_r10
  | 10 => wsL_law0_r11
  | 11 => wsL_law0_r12
  | 12 => wsL_law0_r13
  | 13 => wsL_law0_r14
  | 14 => wsL_law0_r15
  | 15 => wsL_law0_r16
  | 16 => wsL_law0_r17
  | 17 => wsL_law0_r18
  | 18 => wsL_law0_r19
  | 19 => wsL_law0_r20
  | 20 => wsL_law0_r21
  | 21 => wsL_law0_r22
  | 22 => wsL_law0_r23
  | 23 => wsL_law0_r24
  | 24 => wsL_law0_r25
  | 25 => wsX50
  | 26 => wsX10
  | 27 => wsX20
  | 28 => wsX40
  | 29 => wsX00
  | 30 => wsX30
  | 31 => wsJ00
  | _ => []
theorem lw_pc_ok : ∀ k : Nat, GoodIn lw_tbl (lw_pc k)
  | 0 => lwp_1
  | 1 => lwp_2
  | 2 => lwp_3
  | 3 => lwp_4
  | 4 => lwp_5
  | 5 => lwp_6
  | 6 => lwp_7
  | 7 => lwp_8
  | 8 => lwp_9
  | 9 => lwp_10
  | 10 => lwp_11
  | 11 => lwp_12
  | 12 => lwp_13
  | 13 => lwp_14
  | 14 => lwp_15
  | 15 => lwp_16
  | 16 => lwp_17
  | 17 => lwp_18
  | 18 => lwp_19
  | 19 => lwp_20
  | 20 => lwp_21
  | 21 => lwp_22
  | 22 => lwp_23
  | 23 => lwp_24
  | 24 => lwp_25
  | 25 => lwt_wsX50
  | 26 => lwt_wsX10
  | 27 => lwt_wsX20
  | 28 => lwt_wsX40
  | 29 => lwt_wsX00
  | 30 => lwt_wsX30
  | 31 => lwt_wsJ00
  | _ + 32 => fun _ h => absurd h List.not_mem_nil
theorem lw_gi {ws : List Cond} (ps : List (Nat × Nat)) (hp : ws = ps.filterMap (fun q => (lw_pc q.1)[q.2]?)) : GoodIn lw_tbl ws := by
  intro w hw
  rw [hp] at hw
  obtain ⟨q, -, hq⟩ := List.mem_filterMap.mp hw
  exact lw_pc_ok q.1 w (List.mem_of_getElem? hq)
theorem goodIn_c {big A : List Cond} {c : Cond} (hc : GoodIn big [c]) (hA : GoodIn big A) : GoodIn big (c :: A) := fun w h => (List.mem_cons.mp h).elim (fun e => hc w (by rw [e]; exact List.mem_cons_self)) (hA w)
theorem goodIn_0 {big : List Cond} : GoodIn big [] := fun _ h => absurd h List.not_mem_nil
set_option maxRecDepth 20000 in
theorem lwx_0 : GoodIn lw_tbl ((vx_atS RX5 240 "java/lang/ArithmeticException" ["java/lang/RuntimeException", "java/lang/Exception"]).filter goodWord) := goodIn_sub (by decide +kernel) (by decide +kernel)
set_option maxRecDepth 20000 in
theorem lwx_1 : GoodIn lw_tbl ((vx_atS RX5 89 "java/lang/UnsupportedOperationException" ["java/lang/RuntimeException", "java/lang/Exception"]).filter goodWord) := goodIn_sub (by decide +kernel) (by decide +kernel)
set_option maxRecDepth 20000 in
theorem lwx_2 : GoodIn lw_tbl ((vx_atM "java/lang/ArrayIndexOutOfBoundsException" ["java/lang/IndexOutOfBoundsException", "java/lang/RuntimeException", "java/lang/Exception"]).filter goodWord) := goodIn_sub (by decide +kernel) (by decide +kernel)
set_option maxRecDepth 20000 in
theorem lwx_3 : GoodIn lw_tbl ((vx_atM "java/lang/ArithmeticException" ["java/lang/RuntimeException", "java/lang/Exception"]).filter goodWord) := goodIn_sub (by decide +kernel) (by decide +kernel)
set_option maxRecDepth 20000 in
theorem lwx_4 : GoodIn lw_tbl ((vx_atS RX5 130 "java/lang/IndexOutOfBoundsException" ["java/lang/RuntimeException", "java/lang/Exception"]).filter goodWord) := goodIn_sub (by decide +kernel) (by decide +kernel)
set_option maxRecDepth 20000 in
theorem lwx_5 : GoodIn lw_tbl ((vx_atS RX5 156 "java/lang/IllegalArgumentException" ["java/lang/RuntimeException", "java/lang/Exception"]).filter goodWord) := goodIn_sub (by decide +kernel) (by decide +kernel)
set_option maxRecDepth 20000 in
theorem lwx_6 : GoodIn lw_tbl ((zx_atX RX5 232 "java/util/NoSuchElementException" ["java/lang/RuntimeException", "java/lang/Exception"]).filter goodWord) := goodIn_sub (by decide +kernel) (by decide +kernel)
set_option maxRecDepth 20000 in
theorem lwx_7 : GoodIn lw_tbl ((vx_atS RX5 142 "java/lang/IllegalStateException" ["java/lang/RuntimeException", "java/lang/Exception"]).filter goodWord) := goodIn_sub (by decide +kernel) (by decide +kernel)
