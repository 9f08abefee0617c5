/-! rows of mine: the words of nets, lone and full -/
def wsYx : List Cond := [.classLink RL 8 RX5, .instantiable RX5 15, .initialized RX5, .methodLink RL 152 yX5_init, .instanceMethod yX5_init, .arrayClass .int, .constant RL 88 (-2000000005), .constant RL 82 (-2000000004), .constant RL 79 (-2000000003), .constant RL 73 (-2000000001)]
theorem gT_Yx : GoodIn lw_tbl wsYx := lw_gi [(0, 0), (0, 1), (0, 2), (0, 10), (0, 11), (0, 5), (0, 9), (0, 8), (9, 21), (0, 6)] (by decide +kernel)
set_option maxRecDepth 100000 in
theorem gT_K : GoodIn lw_tbl wsK := goodIn_c (lw_gi [(9, 16)] rfl) (goodIn_app gT_L_ask (goodIn_app (lw_gi [(15, 19), (15, 20), (3, 21)] (by decide +kernel)) gT_L_asked))
set_option maxRecDepth 100000 in
theorem gT_ask : GoodIn lw_tbl (va_wsS RL 176 yL_ask wsK) := goodIn_app (lw_gi [(9, 14), (9, 15), (3, 21)] (by decide +kernel)) gT_K
set_option maxRecDepth 100000 in
theorem gT_mean : GoodIn lw_tbl (va_wsS RL 153 yL_mean wsL_mean) := goodIn_app (lw_gi [(3, 19), (3, 20), (3, 21)] (by decide +kernel)) gT_L_mean
set_option maxRecDepth 100000 in
theorem gT_at : GoodIn lw_tbl (va_wsS RL 189 yL_at wsL_at) := goodIn_app (lw_gi [(22, 15), (22, 16), (3, 21)] (by decide +kernel)) gT_L_at
set_option maxRecDepth 100000 in
theorem gT_some : GoodIn lw_tbl (va_wsS RL 193 yL_some wsL_some) := goodIn_app (lw_gi [(22, 18), (22, 19), (3, 21)] (by decide +kernel)) gT_L_some
set_option maxRecDepth 100000 in
theorem gT_isTrue : GoodIn lw_tbl (wsV RL 172 RX5 yX5_isTrue wsX5_isTrue) := goodIn_app (lw_gi [(8, 20), (8, 21), (8, 22), (0, 2)] (by decide +kernel)) gT_X5_isTrue
set_option maxRecDepth 100000 in
theorem gT_tick : GoodIn lw_tbl (wsV RL 157 RX5 yX5_tick wsX5_tick) := goodIn_app (lw_gi [(6, 19), (6, 20), (6, 21), (0, 2)] (by decide +kernel)) gT_X5_tick
set_option maxRecDepth 100000 in
theorem gT_wipe : GoodIn lw_tbl (wsV RL 160 RX5 yX5_wipe wsX5_wipe) := goodIn_app (lw_gi [(6, 23), (7, 0), (7, 1), (0, 2)] (by decide +kernel)) gT_X5_wipe
set_option maxRecDepth 100000 in
theorem gT_checksum : GoodIn lw_tbl (wsV RL 163 RX5 yX5_checksum wsX5_checksum) := goodIn_app (lw_gi [(7, 3), (7, 4), (7, 5), (0, 2)] (by decide +kernel)) gT_X5_checksum
set_option maxRecDepth 100000 in
theorem gT_energyBits : GoodIn lw_tbl (wsV RL 169 RX5 yX5_energyBits wsX5_energyBits) := goodIn_app (lw_gi [(8, 12), (8, 13), (8, 14), (0, 2)] (by decide +kernel)) gT_X5_energyBits
def wsY : List Cond := va_wsS RL 176 yL_ask wsK ++ (va_wsS RL 153 yL_mean wsL_mean ++ (va_wsS RL 189 yL_at wsL_at ++ (va_wsS RL 193 yL_some wsL_some ++ (wsV RL 172 RX5 yX5_isTrue wsX5_isTrue ++ (wsX5_init ++ (wsX50 ++ wsYx))))))
theorem gT_Y : GoodIn lw_tbl wsY := goodIn_app gT_ask (goodIn_app gT_mean (goodIn_app gT_at (goodIn_app gT_some (goodIn_app gT_isTrue (goodIn_app gT_X5_init (goodIn_app lwt_wsX50 gT_Yx))))))
theorem gY_ask : GoodIn wsY (va_wsS RL 176 yL_ask wsK) := fun w h => ⟨List.mem_append_left _ h, (gT_ask w h).2⟩
theorem gY_mean : GoodIn wsY (va_wsS RL 153 yL_mean wsL_mean) := fun w h => ⟨List.mem_append_right _ (List.mem_append_left _ h), (gT_mean w h).2⟩
theorem gY_at : GoodIn wsY (va_wsS RL 189 yL_at wsL_at) := fun w h => ⟨List.mem_append_right _ (List.mem_append_right _ (List.mem_append_left _ h)), (gT_at w h).2⟩
theorem gY_some : GoodIn wsY (va_wsS RL 193 yL_some wsL_some) := fun w h => ⟨List.mem_append_right _ (List.mem_append_right _ (List.mem_append_right _ (List.mem_append_left _ h))), (gT_some w h).2⟩
theorem gY_isTrue : GoodIn wsY (wsV RL 172 RX5 yX5_isTrue wsX5_isTrue) := fun w h => ⟨List.mem_append_right _ (List.mem_append_right _ (List.mem_append_right _ (List.mem_append_right _ (List.mem_append_left _ h)))), (gT_isTrue w h).2⟩
theorem gY_init : GoodIn wsY (wsX5_init) := fun w h => ⟨List.mem_append_right _ (List.mem_append_right _ (List.mem_append_right _ (List.mem_append_right _ (List.mem_append_right _ (List.mem_append_left _ h))))), (gT_X5_init w h).2⟩
theorem gY_X50 : GoodIn wsY (wsX50) := fun w h => ⟨List.mem_append_right _ (List.mem_append_right _ (List.mem_append_right _ (List.mem_append_right _ (List.mem_append_right _ (List.mem_append_right _ (List.mem_append_left _ h)))))), (lwt_wsX50 w h).2⟩
theorem gY_Yx : GoodIn wsY (wsYx) := fun w h => ⟨List.mem_append_right _ (List.mem_append_right _ (List.mem_append_right _ (List.mem_append_right _ (List.mem_append_right _ (List.mem_append_right _ (List.mem_append_right _ (h))))))), (gT_Yx w h).2⟩
theorem goodIn_up {big a : List Cond} {c : Cond} (h : GoodIn big a) : GoodIn (c :: big) a := fun w hw => ⟨List.mem_cons_of_mem _ (h w hw).1, (h w hw).2⟩
def ws_nets : List Cond := Cond.code yL_nets cL_nets 12 (some .boolean) :: wsY
theorem gT_nets : GoodIn lw_tbl (va_wsS RL 179 yL_nets ws_nets) := goodIn_app (lw_gi [(22, 11), (22, 12), (3, 21)] (by decide +kernel)) (goodIn_c (lw_gi [(22, 13)] rfl) gT_Y)
def ws_lone : List Cond := Cond.code yL_lone cL_lone 6 (some .boolean) :: wsY
theorem gT_lone : GoodIn lw_tbl (va_wsS RL 183 yL_lone ws_lone) := goodIn_app (lw_gi [(24, 14), (24, 15), (3, 21)] (by decide +kernel)) (goodIn_c (lw_gi [(24, 16)] rfl) gT_Y)
def ws_full : List Cond := Cond.code yL_full cL_full 2 (some .boolean) :: wsY
theorem gT_full : GoodIn lw_tbl (va_wsS RL 186 yL_full ws_full) := goodIn_app (lw_gi [(24, 17), (24, 18), (3, 21)] (by decide +kernel)) (goodIn_c (lw_gi [(24, 19)] rfl) gT_Y)
