theorem dX8_net_41 : decode cX8_net 41 = .ok (.aload_n 0, 1) := by decide +kernel
theorem dX8_net_42 : decode cX8_net 42 = .ok (.getfield 76, 3) := by decide +kernel
theorem dX8_net_45 : decode cX8_net 45 = .ok (.ifCond .le 5, 3) := by decide +kernel
theorem dX8_net_48 : decode cX8_net 48 = .ok (.iconst 0, 1) := by decide +kernel
theorem dX8_net_49 : decode cX8_net 49 = .ok (.ireturn, 1) := by decide +kernel
theorem dX8_net_50 : decode cX8_net 50 = .ok (.aload_n 0, 1) := by decide +kernel
theorem dX8_net_51 : decode cX8_net 51 = .ok (.invokevirtual 163, 3) := by decide +kernel
theorem dX8_net_54 : decode cX8_net 54 = .ok (.astore 4, 2) := by decide +kernel
theorem dX8_net_56 : decode cX8_net 56 = .ok (.aload 4, 2) := by decide +kernel
theorem dX8_net_58 : decode cX8_net 58 = .ok (.invokevirtual 140, 3) := by decide +kernel
theorem dX8_net_61 : decode cX8_net 61 = .ok (.istore 5, 2) := by decide +kernel
theorem dX8_net_63 : decode cX8_net 63 = .ok (.iload_n 1, 1) := by decide +kernel
theorem dX8_net_64 : decode cX8_net 64 = .ok (.bipush 114, 2) := by decide +kernel
theorem dX8_net_66 : decode cX8_net 66 = .ok (.if_icmp .ne 8, 3) := by decide +kernel
theorem dX8_net_69 : decode cX8_net 69 = .ok (.iload 5, 2) := by decide +kernel
theorem dX8_net_71 : decode cX8_net 71 = .ok (.goto 38, 3) := by decide +kernel
theorem dX8_net_74 : decode cX8_net 74 = .ok (.iload_n 1, 1) := by decide +kernel
theorem dX8_net_75 : decode cX8_net 75 = .ok (.bipush 108, 2) := by decide +kernel
theorem dX8_net_77 : decode cX8_net 77 = .ok (.if_icmp .ne 10, 3) := by decide +kernel
theorem dX8_net_80 : decode cX8_net 80 = .ok (.iload 5, 2) := by decide +kernel
theorem dX8_net_82 : decode cX8_net 82 = .ok (.iconst 1, 1) := by decide +kernel
theorem dX8_net_83 : decode cX8_net 83 = .ok (.isub, 1) := by decide +kernel
theorem dX8_net_84 : decode cX8_net 84 = .ok (.goto 25, 3) := by decide +kernel
theorem dX8_net_87 : decode cX8_net 87 = .ok (.iload_n 1, 1) := by decide +kernel
theorem dX8_net_88 : decode cX8_net 88 = .ok (.bipush 104, 2) := by decide +kernel
theorem dX8_net_90 : decode cX8_net 90 = .ok (.if_icmp .ne 12, 3) := by decide +kernel
theorem dX8_net_93 : decode cX8_net 93 = .ok (.iconst 2, 1) := by decide +kernel
theorem dX8_net_94 : decode cX8_net 94 = .ok (.iload 5, 2) := by decide +kernel
theorem dX8_net_96 : decode cX8_net 96 = .ok (.iconst 1, 1) := by decide +kernel
theorem dX8_net_97 : decode cX8_net 97 = .ok (.isub, 1) := by decide +kernel
theorem dX8_net_98 : decode cX8_net 98 = .ok (.imul, 1) := by decide +kernel
theorem dX8_net_99 : decode cX8_net 99 = .ok (.goto 10, 3) := by decide +kernel
theorem dX8_net_102 : decode cX8_net 102 = .ok (.iload 5, 2) := by decide +kernel
theorem dX8_net_104 : decode cX8_net 104 = .ok (.iload 5, 2) := by decide +kernel
theorem dX8_net_106 : decode cX8_net 106 = .ok (.iconst 1, 1) := by decide +kernel
theorem dX8_net_107 : decode cX8_net 107 = .ok (.isub, 1) := by decide +kernel
theorem dX8_net_108 : decode cX8_net 108 = .ok (.imul, 1) := by decide +kernel
theorem dX8_net_109 : decode cX8_net 109 = .ok (.istore 6, 2) := by decide +kernel
theorem dX8_net_111 : decode cX8_net 111 = .ok (.aload_n 0, 1) := by decide +kernel
theorem dX8_net_112 : decode cX8_net 112 = .ok (.iload 5, 2) := by decide +kernel
theorem dX8_net_114 : decode cX8_net 114 = .ok (.iconst 2, 1) := by decide +kernel
theorem dX8_net_115 : decode cX8_net 115 = .ok (.if_icmp .lt 10, 3) := by decide +kernel
theorem dX8_net_118 : decode cX8_net 118 = .ok (.iload 6, 2) := by decide +kernel
theorem dX8_net_120 : decode cX8_net 120 = .ok (.bipush 60, 2) := by decide +kernel
theorem dX8_net_122 : decode cX8_net 122 = .ok (.if_icmp .le 7, 3) := by decide +kernel
theorem dX8_net_125 : decode cX8_net 125 = .ok (.iconst 2, 1) := by decide +kernel
theorem dX8_net_126 : decode cX8_net 126 = .ok (.goto 4, 3) := by decide +kernel
theorem dX8_net_129 : decode cX8_net 129 = .ok (.iconst 0, 1) := by decide +kernel
theorem dX8_net_130 : decode cX8_net 130 = .ok (.putfield 76, 3) := by decide +kernel
theorem dX8_net_133 : decode cX8_net 133 = .ok (.aload_n 0, 1) := by decide +kernel
theorem dX8_net_134 : decode cX8_net 134 = .ok (.getfield 76, 3) := by decide +kernel
theorem dX8_net_137 : decode cX8_net 137 = .ok (.ifCond .le 5, 3) := by decide +kernel
theorem dX8_net_140 : decode cX8_net 140 = .ok (.iconst 0, 1) := by decide +kernel
theorem dX8_net_141 : decode cX8_net 141 = .ok (.ireturn, 1) := by decide +kernel
theorem dX8_net_142 : decode cX8_net 142 = .ok (.aload_n 0, 1) := by decide +kernel
theorem dX8_net_143 : decode cX8_net 143 = .ok (.getfield 17, 3) := by decide +kernel
theorem dX8_net_146 : decode cX8_net 146 = .ok (.invokevirtual 167, 3) := by decide +kernel
theorem dX8_net_149 : decode cX8_net 149 = .ok (.iconst 0, 1) := by decide +kernel
theorem dX8_net_150 : decode cX8_net 150 = .ok (.istore 7, 2) := by decide +kernel
theorem dX8_net_152 : decode cX8_net 152 = .ok (.iload 7, 2) := by decide +kernel
theorem dX8_net_154 : decode cX8_net 154 = .ok (.iload 5, 2) := by decide +kernel
theorem dX8_net_156 : decode cX8_net 156 = .ok (.if_icmp .ge 221, 3) := by decide +kernel
theorem dX8_net_159 : decode cX8_net 159 = .ok (.iconst 0, 1) := by decide +kernel
theorem dX8_net_160 : decode cX8_net 160 = .ok (.istore 8, 2) := by decide +kernel
theorem dX8_net_162 : decode cX8_net 162 = .ok (.iload 8, 2) := by decide +kernel
theorem dX8_net_164 : decode cX8_net 164 = .ok (.iload 5, 2) := by decide +kernel
theorem dX8_net_166 : decode cX8_net 166 = .ok (.if_icmp .ge 205, 3) := by decide +kernel
theorem dX8_net_169 : decode cX8_net 169 = .ok (.iload 8, 2) := by decide +kernel
theorem dX8_net_171 : decode cX8_net 171 = .ok (.iload 7, 2) := by decide +kernel
theorem dX8_net_173 : decode cX8_net 173 = .ok (.iconst 1, 1) := by decide +kernel
theorem dX8_net_174 : decode cX8_net 174 = .ok (.iadd, 1) := by decide +kernel
theorem dX8_net_175 : decode cX8_net 175 = .ok (.if_icmp .eq 23, 3) := by decide +kernel
theorem dX8_net_178 : decode cX8_net 178 = .ok (.iload_n 1, 1) := by decide +kernel
theorem dX8_net_179 : decode cX8_net 179 = .ok (.bipush 114, 2) := by decide +kernel
theorem dX8_net_181 : decode cX8_net 181 = .ok (.if_icmp .ne 21, 3) := by decide +kernel
theorem dX8_net_184 : decode cX8_net 184 = .ok (.iload 7, 2) := by decide +kernel
theorem dX8_net_186 : decode cX8_net 186 = .ok (.iload 5, 2) := by decide +kernel
theorem dX8_net_188 : decode cX8_net 188 = .ok (.iconst 1, 1) := by decide +kernel
theorem dX8_net_189 : decode cX8_net 189 = .ok (.isub, 1) := by decide +kernel
theorem dX8_net_190 : decode cX8_net 190 = .ok (.if_icmp .ne 12, 3) := by decide +kernel
theorem dX8_net_193 : decode cX8_net 193 = .ok (.iload 8, 2) := by decide +kernel
theorem dX8_net_195 : decode cX8_net 195 = .ok (.ifCond .ne 7, 3) := by decide +kernel
theorem dX8_net_198 : decode cX8_net 198 = .ok (.iconst 1, 1) := by decide +kernel
theorem dX8_net_199 : decode cX8_net 199 = .ok (.goto 4, 3) := by decide +kernel
theorem dX8_net_202 : decode cX8_net 202 = .ok (.iconst 0, 1) := by decide +kernel
theorem dX8_net_203 : decode cX8_net 203 = .ok (.istore 9, 2) := by decide +kernel
theorem dX8_net_205 : decode cX8_net 205 = .ok (.iload_n 1, 1) := by decide +kernel
theorem dX8_net_206 : decode cX8_net 206 = .ok (.bipush 104, 2) := by decide +kernel
theorem dX8_net_208 : decode cX8_net 208 = .ok (.if_icmp .ne 17, 3) := by decide +kernel
theorem dX8_net_211 : decode cX8_net 211 = .ok (.iload 7, 2) := by decide +kernel
theorem dX8_net_213 : decode cX8_net 213 = .ok (.ifCond .ne 12, 3) := by decide +kernel
theorem dX8_net_216 : decode cX8_net 216 = .ok (.iload 8, 2) := by decide +kernel
theorem dX8_net_218 : decode cX8_net 218 = .ok (.ifCond .le 7, 3) := by decide +kernel
theorem dX8_net_221 : decode cX8_net 221 = .ok (.iconst 1, 1) := by decide +kernel
theorem dX8_net_222 : decode cX8_net 222 = .ok (.goto 4, 3) := by decide +kernel
theorem dX8_net_225 : decode cX8_net 225 = .ok (.iconst 0, 1) := by decide +kernel
theorem dX8_net_226 : decode cX8_net 226 = .ok (.istore 10, 2) := by decide +kernel
theorem dX8_net_228 : decode cX8_net 228 = .ok (.iload_n 1, 1) := by decide +kernel
theorem dX8_net_229 : decode cX8_net 229 = .ok (.bipush 97, 2) := by decide +kernel
theorem dX8_net_231 : decode cX8_net 231 = .ok (.if_icmp .ne 18, 3) := by decide +kernel
theorem dX8_net_234 : decode cX8_net 234 = .ok (.iload 8, 2) := by decide +kernel
theorem dX8_net_236 : decode cX8_net 236 = .ok (.iload 7, 2) := by decide +kernel
theorem dX8_net_238 : decode cX8_net 238 = .ok (.if_icmp .eq 7, 3) := by decide +kernel
theorem dX8_net_241 : decode cX8_net 241 = .ok (.iconst 1, 1) := by decide +kernel
theorem dX8_net_242 : decode cX8_net 242 = .ok (.goto 20, 3) := by decide +kernel
theorem dX8_net_245 : decode cX8_net 245 = .ok (.iconst 0, 1) := by decide +kernel
theorem dX8_net_246 : decode cX8_net 246 = .ok (.goto 16, 3) := by decide +kernel
theorem dX8_net_249 : decode cX8_net 249 = .ok (.iload_n 1, 1) := by decide +kernel
theorem dX8_net_250 : decode cX8_net 250 = .ok (.bipush 104, 2) := by decide +kernel
theorem dX8_net_252 : decode cX8_net 252 = .ok (.if_icmp .ne 8, 3) := by decide +kernel
theorem dX8_net_255 : decode cX8_net 255 = .ok (.iload 10, 2) := by decide +kernel
theorem dX8_net_257 : decode cX8_net 257 = .ok (.goto 5, 3) := by decide +kernel
theorem dX8_net_260 : decode cX8_net 260 = .ok (.iload 9, 2) := by decide +kernel
theorem dX8_net_262 : decode cX8_net 262 = .ok (.istore 11, 2) := by decide +kernel
theorem dX8_net_264 : decode cX8_net 264 = .ok (.iload 11, 2) := by decide +kernel
theorem dX8_net_266 : decode cX8_net 266 = .ok (.ifCond .eq 46, 3) := by decide +kernel
theorem dX8_net_269 : decode cX8_net 269 = .ok (.aload_n 0, 1) := by decide +kernel
theorem dX8_net_270 : decode cX8_net 270 = .ok (.getfield 17, 3) := by decide +kernel
theorem dX8_net_273 : decode cX8_net 273 = .ok (.new 144, 3) := by decide +kernel
theorem dX8_net_276 : decode cX8_net 276 = .ok (.dup, 1) := by decide +kernel
theorem dX8_net_277 : decode cX8_net 277 = .ok (.aload 4, 2) := by decide +kernel
theorem dX8_net_279 : decode cX8_net 279 = .ok (.iload 7, 2) := by decide +kernel
theorem dX8_net_281 : decode cX8_net 281 = .ok (.invokevirtual 170, 3) := by decide +kernel
theorem dX8_net_284 : decode cX8_net 284 = .ok (.checkcast 158, 3) := by decide +kernel
theorem dX8_net_287 : decode cX8_net 287 = .ok (.invokevirtual 173, 3) := by decide +kernel
theorem dX8_net_290 : decode cX8_net 290 = .ok (.aload 4, 2) := by decide +kernel
theorem dX8_net_292 : decode cX8_net 292 = .ok (.iload 8, 2) := by decide +kernel
theorem dX8_net_294 : decode cX8_net 294 = .ok (.invokevirtual 170, 3) := by decide +kernel
theorem dX8_net_297 : decode cX8_net 297 = .ok (.checkcast 158, 3) := by decide +kernel
theorem dX8_net_300 : decode cX8_net 300 = .ok (.invokevirtual 173, 3) := by decide +kernel
theorem dX8_net_303 : decode cX8_net 303 = .ok (.iload_n 2, 1) := by decide +kernel
theorem dX8_net_304 : decode cX8_net 304 = .ok (.iload_n 3, 1) := by decide +kernel
theorem dX8_net_305 : decode cX8_net 305 = .ok (.invokespecial 146, 3) := by decide +kernel
theorem dX8_net_308 : decode cX8_net 308 = .ok (.invokevirtual 149, 3) := by decide +kernel
theorem dX8_net_311 : decode cX8_net 311 = .ok (.pop, 1) := by decide +kernel
theorem dX8_net_312 : decode cX8_net 312 = .ok (.iload 11, 2) := by decide +kernel
theorem dX8_net_314 : decode cX8_net 314 = .ok (.ifCond .eq 51, 3) := by decide +kernel
theorem dX8_net_317 : decode cX8_net 317 = .ok (.iload 10, 2) := by decide +kernel
theorem dX8_net_319 : decode cX8_net 319 = .ok (.ifCond .eq 46, 3) := by decide +kernel
theorem dX8_net_322 : decode cX8_net 322 = .ok (.aload_n 0, 1) := by decide +kernel
theorem dX8_net_323 : decode cX8_net 323 = .ok (.getfield 17, 3) := by decide +kernel
theorem dX8_net_326 : decode cX8_net 326 = .ok (.new 144, 3) := by decide +kernel
theorem dX8_net_329 : decode cX8_net 329 = .ok (.dup, 1) := by decide +kernel
theorem dX8_net_330 : decode cX8_net 330 = .ok (.aload 4, 2) := by decide +kernel
theorem dX8_net_332 : decode cX8_net 332 = .ok (.iload 8, 2) := by decide +kernel
theorem dX8_net_334 : decode cX8_net 334 = .ok (.invokevirtual 170, 3) := by decide +kernel
theorem dX8_net_337 : decode cX8_net 337 = .ok (.checkcast 158, 3) := by decide +kernel
theorem dX8_net_340 : decode cX8_net 340 = .ok (.invokevirtual 173, 3) := by decide +kernel
theorem dX8_net_343 : decode cX8_net 343 = .ok (.aload 4, 2) := by decide +kernel
theorem dX8_net_345 : decode cX8_net 345 = .ok (.iload 7, 2) := by decide +kernel
theorem dX8_net_347 : decode cX8_net 347 = .ok (.invokevirtual 170, 3) := by decide +kernel
theorem dX8_net_350 : decode cX8_net 350 = .ok (.checkcast 158, 3) := by decide +kernel
theorem dX8_net_353 : decode cX8_net 353 = .ok (.invokevirtual 173, 3) := by decide +kernel
theorem dX8_net_356 : decode cX8_net 356 = .ok (.iload_n 2, 1) := by decide +kernel
theorem dX8_net_357 : decode cX8_net 357 = .ok (.iload_n 3, 1) := by decide +kernel
theorem dX8_net_358 : decode cX8_net 358 = .ok (.invokespecial 146, 3) := by decide +kernel
theorem dX8_net_361 : decode cX8_net 361 = .ok (.invokevirtual 149, 3) := by decide +kernel
theorem dX8_net_364 : decode cX8_net 364 = .ok (.pop, 1) := by decide +kernel
theorem dX8_net_365 : decode cX8_net 365 = .ok (.iinc 8 1, 3) := by decide +kernel
theorem dX8_net_368 : decode cX8_net 368 = .ok (.goto (-206), 3) := by decide +kernel
theorem dX8_net_371 : decode cX8_net 371 = .ok (.iinc 7 1, 3) := by decide +kernel
theorem dX8_net_374 : decode cX8_net 374 = .ok (.goto (-222), 3) := by decide +kernel
theorem dX8_net_377 : decode cX8_net 377 = .ok (.aload_n 0, 1) := by decide +kernel
theorem dX8_net_378 : decode cX8_net 378 = .ok (.getfield 17, 3) := by decide +kernel
theorem dX8_net_381 : decode cX8_net 381 = .ok (.invokevirtual 140, 3) := by decide +kernel
theorem dX8_net_384 : decode cX8_net 384 = .ok (.ireturn, 1) := by decide +kernel
set_option maxRecDepth 20000 in
theorem ggX8_run_X8_in : GoodIn wsX8_run wsX8_in := goodIn_r _ [10] (by decide +kernel) (by decide +kernel)
set_option maxRecDepth 20000 in
theorem gX8_run_X8_in : GoodIn wsX8_run (va_wsS RX8 87 yX8_in wsX8_in) := goodIn_app (goodIn_of _ (by decide +kernel)) ggX8_run_X8_in
set_option maxRecDepth 20000 in
theorem ggX8_run_X6_tick : GoodIn wsX8_run wsX6_tick := goodIn_ca (goodIn_ca (goodIn_r _ [15, 16, 17, 18, 19, 20, 21, 22, 23, 24, 25, 26, 27, 28, 29, 9, 30, 31, 32, 33, 34, 35, 36, 37, 38, 39, 40, 41, 42, 43, 44, 45, 46, 47, 48, 49, 50, 51, 52, 53, 54, 55, 56, 57, 58, 80, 81, 82, 83, 84, 85, 86, 87, 59, 60, 61, 62, 63, 64, 65, 66, 67, 68, 69, 70, 71, 72, 73, 74, 75, 76, 77, 78, 79, 88, 89, 90, 91, 92, 93, 94] (by decide +kernel) (by decide +kernel)) (goodIn_sub (fun _ h => List.mem_cons_of_mem _ (List.mem_append_left _ (List.mem_append_right _ h))) (by decide +kernel))) (goodIn_sub (fun _ h => List.mem_cons_of_mem _ (List.mem_append_right _ h)) (by decide +kernel))
set_option maxRecDepth 20000 in
theorem gX8_run_X6_tick : GoodIn wsX8_run (wsV RX8 181 RX6 yX6_tick wsX6_tick) := goodIn_app (goodIn_of _ (by decide +kernel)) ggX8_run_X6_tick
theorem dX8_run_0 : decode cX8_run 0 = .ok (.aload_n 0, 1) := by decide +kernel
theorem dX8_run_1 : decode cX8_run 1 = .ok (.iload_n 1, 1) := by decide +kernel
theorem dX8_run_2 : decode cX8_run 2 = .ok (.i2l, 1) := by decide +kernel
theorem dX8_run_3 : decode cX8_run 3 = .ok (.lconst 1, 1) := by decide +kernel
theorem dX8_run_4 : decode cX8_run 4 = .ok (.ldc2_w 176, 3) := by decide +kernel
theorem dX8_run_7 : decode cX8_run 7 = .ok (.invokestatic 87, 3) := by decide +kernel
theorem dX8_run_10 : decode cX8_run 10 = .ok (.ifCond .eq 7, 3) := by decide +kernel
theorem dX8_run_13 : decode cX8_run 13 = .ok (.iconst 0, 1) := by decide +kernel
theorem dX8_run_14 : decode cX8_run 14 = .ok (.goto 4, 3) := by decide +kernel
theorem dX8_run_17 : decode cX8_run 17 = .ok (.iconst 1, 1) := by decide +kernel
theorem dX8_run_18 : decode cX8_run 18 = .ok (.putfield 76, 3) := by decide +kernel
theorem dX8_run_21 : decode cX8_run 21 = .ok (.iconst 0, 1) := by decide +kernel
theorem dX8_run_22 : decode cX8_run 22 = .ok (.istore_n 2, 1) := by decide +kernel
theorem dX8_run_23 : decode cX8_run 23 = .ok (.iconst 0, 1) := by decide +kernel
theorem dX8_run_24 : decode cX8_run 24 = .ok (.istore_n 3, 1) := by decide +kernel
theorem dX8_run_25 : decode cX8_run 25 = .ok (.iload_n 3, 1) := by decide +kernel
theorem dX8_run_26 : decode cX8_run 26 = .ok (.iload_n 1, 1) := by decide +kernel
theorem dX8_run_27 : decode cX8_run 27 = .ok (.if_icmp .ge 111, 3) := by decide +kernel
theorem dX8_run_30 : decode cX8_run 30 = .ok (.aload_n 0, 1) := by decide +kernel
theorem dX8_run_31 : decode cX8_run 31 = .ok (.getfield 76, 3) := by decide +kernel
theorem dX8_run_34 : decode cX8_run 34 = .ok (.ifCond .ne 104, 3) := by decide +kernel
theorem dX8_run_37 : decode cX8_run 37 = .ok (.iload_n 2, 1) := by decide +kernel
theorem dX8_run_38 : decode cX8_run 38 = .ok (.aload_n 0, 1) := by decide +kernel
theorem dX8_run_39 : decode cX8_run 39 = .ok (.getfield 26, 3) := by decide +kernel
theorem dX8_run_42 : decode cX8_run 42 = .ok (.aload_n 0, 1) := by decide +kernel
theorem dX8_run_43 : decode cX8_run 43 = .ok (.getfield 178, 3) := by decide +kernel
theorem dX8_run_46 : decode cX8_run 46 = .ok (.invokevirtual 181, 3) := by decide +kernel
theorem dX8_run_49 : decode cX8_run 49 = .ok (.iadd, 1) := by decide +kernel
theorem dX8_run_50 : decode cX8_run 50 = .ok (.istore_n 2, 1) := by decide +kernel
theorem dX8_run_51 : decode cX8_run 51 = .ok (.iconst 0, 1) := by decide +kernel
theorem dX8_run_52 : decode cX8_run 52 = .ok (.istore 4, 2) := by decide +kernel
theorem dX8_run_54 : decode cX8_run 54 = .ok (.iload 4, 2) := by decide +kernel
theorem dX8_run_56 : decode cX8_run 56 = .ok (.bipush 16, 2) := by decide +kernel
theorem dX8_run_58 : decode cX8_run 58 = .ok (.if_icmp .ge 74, 3) := by decide +kernel
theorem dX8_run_61 : decode cX8_run 61 = .ok (.aload_n 0, 1) := by decide +kernel
theorem dX8_run_62 : decode cX8_run 62 = .ok (.getfield 30, 3) := by decide +kernel
theorem dX8_run_65 : decode cX8_run 65 = .ok (.iload 4, 2) := by decide +kernel
theorem dX8_run_67 : decode cX8_run 67 = .ok (.dup2, 1) := by decide +kernel
theorem dX8_run_68 : decode cX8_run 68 = .ok (.iaload, 1) := by decide +kernel
theorem dX8_run_69 : decode cX8_run 69 = .ok (.aload_n 0, 1) := by decide +kernel
theorem dX8_run_70 : decode cX8_run 70 = .ok (.getfield 26, 3) := by decide +kernel
theorem dX8_run_73 : decode cX8_run 73 = .ok (.getfield 185, 3) := by decide +kernel
theorem dX8_run_76 : decode cX8_run 76 = .ok (.iload 4, 2) := by decide +kernel
theorem dX8_run_78 : decode cX8_run 78 = .ok (.baload, 1) := by decide +kernel
theorem dX8_run_79 : decode cX8_run 79 = .ok (.ifCond .eq 7, 3) := by decide +kernel
theorem dX8_run_82 : decode cX8_run 82 = .ok (.iconst 1, 1) := by decide +kernel
theorem dX8_run_83 : decode cX8_run 83 = .ok (.goto 4, 3) := by decide +kernel
theorem dX8_run_86 : decode cX8_run 86 = .ok (.iconst 0, 1) := by decide +kernel
theorem dX8_run_87 : decode cX8_run 87 = .ok (.iadd, 1) := by decide +kernel
theorem dX8_run_88 : decode cX8_run 88 = .ok (.iastore, 1) := by decide +kernel
theorem dX8_run_89 : decode cX8_run 89 = .ok (.aload_n 0, 1) := by decide +kernel
theorem dX8_run_90 : decode cX8_run 90 = .ok (.getfield 34, 3) := by decide +kernel
theorem dX8_run_93 : decode cX8_run 93 = .ok (.iload 4, 2) := by decide +kernel
theorem dX8_run_95 : decode cX8_run 95 = .ok (.aload_n 0, 1) := by decide +kernel
theorem dX8_run_96 : decode cX8_run 96 = .ok (.getfield 26, 3) := by decide +kernel
theorem dX8_run_99 : decode cX8_run 99 = .ok (.getfield 185, 3) := by decide +kernel
theorem dX8_run_102 : decode cX8_run 102 = .ok (.iload 4, 2) := by decide +kernel
theorem dX8_run_104 : decode cX8_run 104 = .ok (.baload, 1) := by decide +kernel
theorem dX8_run_105 : decode cX8_run 105 = .ok (.ifCond .eq 13, 3) := by decide +kernel
theorem dX8_run_108 : decode cX8_run 108 = .ok (.aload_n 0, 1) := by decide +kernel
theorem dX8_run_109 : decode cX8_run 109 = .ok (.getfield 26, 3) := by decide +kernel
theorem dX8_run_112 : decode cX8_run 112 = .ok (.getfield 188, 3) := by decide +kernel
theorem dX8_run_115 : decode cX8_run 115 = .ok (.goto 10, 3) := by decide +kernel
theorem dX8_run_118 : decode cX8_run 118 = .ok (.aload_n 0, 1) := by decide +kernel
theorem dX8_run_119 : decode cX8_run 119 = .ok (.getfield 34, 3) := by decide +kernel
theorem dX8_run_122 : decode cX8_run 122 = .ok (.iload 4, 2) := by decide +kernel
theorem dX8_run_124 : decode cX8_run 124 = .ok (.iaload, 1) := by decide +kernel
theorem dX8_run_125 : decode cX8_run 125 = .ok (.iastore, 1) := by decide +kernel
theorem dX8_run_126 : decode cX8_run 126 = .ok (.iinc 4 1, 3) := by decide +kernel
theorem dX8_run_129 : decode cX8_run 129 = .ok (.goto (-75), 3) := by decide +kernel
theorem dX8_run_132 : decode cX8_run 132 = .ok (.iinc 3 1, 3) := by decide +kernel
theorem dX8_run_135 : decode cX8_run 135 = .ok (.goto (-110), 3) := by decide +kernel
theorem dX8_run_138 : decode cX8_run 138 = .ok (.iload_n 2, 1) := by decide +kernel
theorem dX8_run_139 : decode cX8_run 139 = .ok (.ireturn, 1) := by decide +kernel
theorem dX8_tick_0 : decode cX8_tick 0 = .ok (.aload_n 0, 1) := by decide +kernel
theorem dX8_tick_1 : decode cX8_tick 1 = .ok (.iconst 0, 1) := by decide +kernel
theorem dX8_tick_2 : decode cX8_tick 2 = .ok (.putfield 76, 3) := by decide +kernel
theorem dX8_tick_5 : decode cX8_tick 5 = .ok (.aload_n 0, 1) := by decide +kernel
theorem dX8_tick_6 : decode cX8_tick 6 = .ok (.getfield 26, 3) := by decide +kernel
theorem dX8_tick_9 : decode cX8_tick 9 = .ok (.getfield 188, 3) := by decide +kernel
theorem dX8_tick_12 : decode cX8_tick 12 = .ok (.ireturn, 1) := by decide +kernel
set_option maxRecDepth 20000 in
theorem ggX8_flashes_X8_noBeater : GoodIn wsX8_flashes wsX8_noBeater := goodIn_ca (goodIn_r _ [6, 7, 8, 9, 5, 10, 11, 12, 13, 14, 15, 16, 17, 18, 19, 20, 21, 22, 23, 24, 25, 26, 27, 28, 29, 30, 31, 32, 33, 34, 35, 36, 37, 38, 39, 40, 41, 42, 43, 44, 45, 46, 47, 48, 49] (by decide +kernel) (by decide +kernel)) (goodIn_sub (fun _ h => List.mem_cons_of_mem _ (List.mem_append_right _ h)) (by decide +kernel))
set_option maxRecDepth 20000 in
theorem gX8_flashes_X8_noBeater : GoodIn wsX8_flashes (wsV RX8 121 RX8 yX8_noBeater wsX8_noBeater) := goodIn_app (goodIn_of _ (by decide +kernel)) ggX8_flashes_X8_noBeater
theorem dX8_flashes_0 : decode cX8_flashes 0 = .ok (.aload_n 0, 1) := by decide +kernel
theorem dX8_flashes_1 : decode cX8_flashes 1 = .ok (.iload_n 1, 1) := by decide +kernel
theorem dX8_flashes_2 : decode cX8_flashes 2 = .ok (.invokevirtual 121, 3) := by decide +kernel
theorem dX8_flashes_5 : decode cX8_flashes 5 = .ok (.ifCond .eq 7, 3) := by decide +kernel
theorem dX8_flashes_8 : decode cX8_flashes 8 = .ok (.iconst 0, 1) := by decide +kernel
theorem dX8_flashes_9 : decode cX8_flashes 9 = .ok (.goto 9, 3) := by decide +kernel
theorem dX8_flashes_12 : decode cX8_flashes 12 = .ok (.aload_n 0, 1) := by decide +kernel
theorem dX8_flashes_13 : decode cX8_flashes 13 = .ok (.getfield 30, 3) := by decide +kernel
theorem dX8_flashes_16 : decode cX8_flashes 16 = .ok (.iload_n 1, 1) := by decide +kernel
theorem dX8_flashes_17 : decode cX8_flashes 17 = .ok (.iaload, 1) := by decide +kernel
theorem dX8_flashes_18 : decode cX8_flashes 18 = .ok (.ireturn, 1) := by decide +kernel
set_option maxRecDepth 20000 in
theorem ggX8_last_X8_noBeater : GoodIn wsX8_last wsX8_noBeater := goodIn_ca (goodIn_r _ [6, 7, 8, 9, 5, 10, 11, 12, 13, 14, 15, 16, 17, 18, 19, 20, 21, 22, 23, 24, 25, 26, 27, 28, 29, 30, 31, 32, 33, 34, 35, 36, 37, 38, 39, 40, 41, 42, 43, 44, 45, 46, 47, 48, 49] (by decide +kernel) (by decide +kernel)) (goodIn_sub (fun _ h => List.mem_cons_of_mem _ (List.mem_append_right _ h)) (by decide +kernel))
set_option maxRecDepth 20000 in
theorem gX8_last_X8_noBeater : GoodIn wsX8_last (wsV RX8 121 RX8 yX8_noBeater wsX8_noBeater) := goodIn_app (goodIn_of _ (by decide +kernel)) ggX8_last_X8_noBeater
theorem dX8_last_0 : decode cX8_last 0 = .ok (.aload_n 0, 1) := by decide +kernel
theorem dX8_last_1 : decode cX8_last 1 = .ok (.iload_n 1, 1) := by decide +kernel
theorem dX8_last_2 : decode cX8_last 2 = .ok (.invokevirtual 121, 3) := by decide +kernel
theorem dX8_last_5 : decode cX8_last 5 = .ok (.ifCond .eq 7, 3) := by decide +kernel
theorem dX8_last_8 : decode cX8_last 8 = .ok (.iconst 0, 1) := by decide +kernel
theorem dX8_last_9 : decode cX8_last 9 = .ok (.goto 9, 3) := by decide +kernel
theorem dX8_last_12 : decode cX8_last 12 = .ok (.aload_n 0, 1) := by decide +kernel
theorem dX8_last_13 : decode cX8_last 13 = .ok (.getfield 34, 3) := by decide +kernel
theorem dX8_last_16 : decode cX8_last 16 = .ok (.iload_n 1, 1) := by decide +kernel
theorem dX8_last_17 : decode cX8_last 17 = .ok (.iaload, 1) := by decide +kernel
theorem dX8_last_18 : decode cX8_last 18 = .ok (.ireturn, 1) := by decide +kernel
theorem dX8_waitingAt_0 : decode cX8_waitingAt 0 = .ok (.iconst 0, 1) := by decide +kernel
theorem dX8_waitingAt_1 : decode cX8_waitingAt 1 = .ok (.istore_n 2, 1) := by decide +kernel
theorem dX8_waitingAt_2 : decode cX8_waitingAt 2 = .ok (.iconst 0, 1) := by decide +kernel
theorem dX8_waitingAt_3 : decode cX8_waitingAt 3 = .ok (.istore_n 3, 1) := by decide +kernel
theorem dX8_waitingAt_4 : decode cX8_waitingAt 4 = .ok (.iload_n 3, 1) := by decide +kernel
theorem dX8_waitingAt_5 : decode cX8_waitingAt 5 = .ok (.bipush 31, 2) := by decide +kernel
theorem dX8_waitingAt_7 : decode cX8_waitingAt 7 = .ok (.if_icmp .ge 26, 3) := by decide +kernel
theorem dX8_waitingAt_10 : decode cX8_waitingAt 10 = .ok (.iload_n 2, 1) := by decide +kernel
theorem dX8_waitingAt_11 : decode cX8_waitingAt 11 = .ok (.aload_n 0, 1) := by decide +kernel
theorem dX8_waitingAt_12 : decode cX8_waitingAt 12 = .ok (.getfield 26, 3) := by decide +kernel
theorem dX8_waitingAt_15 : decode cX8_waitingAt 15 = .ok (.getfield 191, 3) := by decide +kernel
theorem dX8_waitingAt_18 : decode cX8_waitingAt 18 = .ok (.iload_n 1, 1) := by decide +kernel
theorem dX8_waitingAt_19 : decode cX8_waitingAt 19 = .ok (.bipush 31, 2) := by decide +kernel
theorem dX8_waitingAt_21 : decode cX8_waitingAt 21 = .ok (.imul, 1) := by decide +kernel
theorem dX8_waitingAt_22 : decode cX8_waitingAt 22 = .ok (.iload_n 3, 1) := by decide +kernel
theorem dX8_waitingAt_23 : decode cX8_waitingAt 23 = .ok (.iadd, 1) := by decide +kernel
theorem dX8_waitingAt_24 : decode cX8_waitingAt 24 = .ok (.iaload, 1) := by decide +kernel
theorem dX8_waitingAt_25 : decode cX8_waitingAt 25 = .ok (.iadd, 1) := by decide +kernel
theorem dX8_waitingAt_26 : decode cX8_waitingAt 26 = .ok (.istore_n 2, 1) := by decide +kernel
theorem dX8_waitingAt_27 : decode cX8_waitingAt 27 = .ok (.iinc 3 1, 3) := by decide +kernel
theorem dX8_waitingAt_30 : decode cX8_waitingAt 30 = .ok (.goto (-26), 3) := by decide +kernel
theorem dX8_waitingAt_33 : decode cX8_waitingAt 33 = .ok (.iload_n 2, 1) := by decide +kernel
theorem dX8_waitingAt_34 : decode cX8_waitingAt 34 = .ok (.ireturn, 1) := by decide +kernel
set_option maxRecDepth 20000 in
theorem ggX8_waiting_X8_noBeater : GoodIn wsX8_waiting wsX8_noBeater := goodIn_ca (goodIn_r _ [5, 6, 7, 8, 4, 9, 10, 11, 12, 13, 14, 15, 16, 17, 18, 19, 24, 25, 26, 27, 28, 29, 30, 31, 32, 33, 34, 35, 36, 37, 38, 39, 40, 41, 42, 43, 44, 45, 46, 47, 48, 49, 50, 51, 52] (by decide +kernel) (by decide +kernel)) (goodIn_sub (fun _ h => List.mem_cons_of_mem _ (List.mem_append_right _ h)) (by decide +kernel))
set_option maxRecDepth 20000 in
theorem gX8_waiting_X8_noBeater : GoodIn wsX8_waiting (wsV RX8 121 RX8 yX8_noBeater wsX8_noBeater) := goodIn_app (goodIn_of _ (by decide +kernel)) ggX8_waiting_X8_noBeater
set_option maxRecDepth 20000 in
theorem ggX8_waiting_X8_waitingAt : GoodIn wsX8_waiting wsX8_waitingAt := goodIn_ca (goodIn_r _ [23, 19, 24, 25, 26, 27, 28, 29, 30, 31, 32, 33, 34, 35, 36, 37, 38, 39, 40, 41, 42, 43, 44, 45, 46, 47, 48, 49, 50, 51, 52] (by decide +kernel) (by decide +kernel)) (goodIn_sub (fun _ h => List.mem_cons_of_mem _ (List.mem_append_right _ h)) (by decide +kernel))
set_option maxRecDepth 20000 in
theorem gX8_waiting_X8_waitingAt : GoodIn wsX8_waiting (wsV RX8 194 RX8 yX8_waitingAt wsX8_waitingAt) := goodIn_app (goodIn_of _ (by decide +kernel)) ggX8_waiting_X8_waitingAt
theorem dX8_waiting_0 : decode cX8_waiting 0 = .ok (.aload_n 0, 1) := by decide +kernel
theorem dX8_waiting_1 : decode cX8_waiting 1 = .ok (.iload_n 1, 1) := by decide +kernel
theorem dX8_waiting_2 : decode cX8_waiting 2 = .ok (.invokevirtual 121, 3) := by decide +kernel
theorem dX8_waiting_5 : decode cX8_waiting 5 = .ok (.ifCond .eq 7, 3) := by decide +kernel
theorem dX8_waiting_8 : decode cX8_waiting 8 = .ok (.iconst 0, 1) := by decide +kernel
theorem dX8_waiting_9 : decode cX8_waiting 9 = .ok (.goto 8, 3) := by decide +kernel
theorem dX8_waiting_12 : decode cX8_waiting 12 = .ok (.aload_n 0, 1) := by decide +kernel
theorem dX8_waiting_13 : decode cX8_waiting 13 = .ok (.iload_n 1, 1) := by decide +kernel
theorem dX8_waiting_14 : decode cX8_waiting 14 = .ok (.invokevirtual 194, 3) := by decide +kernel
theorem dX8_waiting_17 : decode cX8_waiting 17 = .ok (.ireturn, 1) := by decide +kernel
set_option maxRecDepth 20000 in
theorem ggX8_strip_X8_noBeater : GoodIn wsX8_strip wsX8_noBeater := goodIn_ca (goodIn_r _ [9, 2, 10, 11, 8, 12, 13, 14, 15, 16, 17, 18, 19, 20, 21, 4, 74, 75, 76, 77, 78, 79, 80, 81, 82, 83, 84, 85, 86, 87, 88, 89, 90, 91, 92, 93, 94, 95, 96, 97, 98, 99, 100, 101, 102] (by decide +kernel) (by decide +kernel)) (goodIn_sub (fun _ h => List.mem_cons_of_mem _ (List.mem_append_left _ (List.mem_append_right _ h))) (by decide +kernel))
set_option maxRecDepth 20000 in
theorem gX8_strip_X8_noBeater : GoodIn wsX8_strip (wsV RX8 121 RX8 yX8_noBeater wsX8_noBeater) := goodIn_app (goodIn_of _ (by decide +kernel)) ggX8_strip_X8_noBeater
set_option maxRecDepth 20000 in
theorem ggX8_strip_X6_takes : GoodIn wsX8_strip wsX6_takes := goodIn_ca (goodIn_r _ [26, 27, 28, 29, 30, 31, 32, 95, 96, 97, 98, 99, 100, 101, 102] (by decide +kernel) (by decide +kernel)) (goodIn_sub (fun _ h => List.mem_cons_of_mem _ (List.mem_append_left _ (List.mem_append_right _ h))) (by decide +kernel))
set_option maxRecDepth 20000 in
theorem gX8_strip_X6_takes : GoodIn wsX8_strip (wsV RX8 197 RX6 yX6_takes wsX6_takes) := goodIn_app (goodIn_of _ (by decide +kernel)) ggX8_strip_X6_takes
set_option maxRecDepth 20000 in
theorem ggX8_strip_X6_tick : GoodIn wsX8_strip wsX6_tick := goodIn_ca (goodIn_ca (goodIn_r _ [36, 32, 31, 37, 27, 29, 28, 30, 38, 39, 40, 41, 42, 43, 44, 8, 45, 46, 47, 48, 49, 50, 51, 52, 53, 54, 55, 56, 57, 58, 59, 60, 61, 62, 63, 64, 65, 66, 67, 68, 69, 70, 71, 72, 73, 95, 96, 97, 98, 99, 100, 101, 102, 74, 75, 76, 77, 78, 79, 80, 81, 82, 83, 84, 85, 86, 87, 88, 89, 90, 91, 92, 93, 94, 103, 104, 105, 106, 107, 108, 109] (by decide +kernel) (by decide +kernel)) (goodIn_sub (fun _ h => List.mem_cons_of_mem _ (List.mem_append_left _ (List.mem_append_right _ h))) (by decide +kernel))) (goodIn_sub (fun _ h => List.mem_cons_of_mem _ (List.mem_append_right _ h)) (by decide +kernel))
set_option maxRecDepth 20000 in
theorem gX8_strip_X6_tick : GoodIn wsX8_strip (wsV RX8 181 RX6 yX6_tick wsX6_tick) := goodIn_app (goodIn_of _ (by decide +kernel)) ggX8_strip_X6_tick
theorem dX8_strip_0 : decode cX8_strip 0 = .ok (.aload_n 0, 1) := by decide +kernel
theorem dX8_strip_1 : decode cX8_strip 1 = .ok (.iload_n 1, 1) := by decide +kernel
theorem dX8_strip_2 : decode cX8_strip 2 = .ok (.invokevirtual 121, 3) := by decide +kernel
theorem dX8_strip_5 : decode cX8_strip 5 = .ok (.ifCond .eq 5, 3) := by decide +kernel
theorem dX8_strip_8 : decode cX8_strip 8 = .ok (.iconst 0, 1) := by decide +kernel
theorem dX8_strip_9 : decode cX8_strip 9 = .ok (.ireturn, 1) := by decide +kernel
theorem dX8_strip_10 : decode cX8_strip 10 = .ok (.aload_n 0, 1) := by decide +kernel
theorem dX8_strip_11 : decode cX8_strip 11 = .ok (.aload_n 0, 1) := by decide +kernel
theorem dX8_strip_12 : decode cX8_strip 12 = .ok (.getfield 178, 3) := by decide +kernel
theorem dX8_strip_15 : decode cX8_strip 15 = .ok (.ifCond .le 7, 3) := by decide +kernel
theorem dX8_strip_18 : decode cX8_strip 18 = .ok (.iconst 3, 1) := by decide +kernel
theorem dX8_strip_19 : decode cX8_strip 19 = .ok (.goto 4, 3) := by decide +kernel
theorem dX8_strip_22 : decode cX8_strip 22 = .ok (.iconst 0, 1) := by decide +kernel
theorem dX8_strip_23 : decode cX8_strip 23 = .ok (.putfield 76, 3) := by decide +kernel
theorem dX8_strip_26 : decode cX8_strip 26 = .ok (.aload_n 0, 1) := by decide +kernel
theorem dX8_strip_27 : decode cX8_strip 27 = .ok (.getfield 76, 3) := by decide +kernel
theorem dX8_strip_30 : decode cX8_strip 30 = .ok (.ifCond .le 5, 3) := by decide +kernel
theorem dX8_strip_33 : decode cX8_strip 33 = .ok (.iconst 0, 1) := by decide +kernel
theorem dX8_strip_34 : decode cX8_strip 34 = .ok (.ireturn, 1) := by decide +kernel
theorem dX8_strip_35 : decode cX8_strip 35 = .ok (.aload_n 0, 1) := by decide +kernel
theorem dX8_strip_36 : decode cX8_strip 36 = .ok (.getfield 47, 3) := by decide +kernel
theorem dX8_strip_39 : decode cX8_strip 39 = .ok (.aload_n 0, 1) := by decide +kernel
theorem dX8_strip_40 : decode cX8_strip 40 = .ok (.getfield 26, 3) := by decide +kernel
theorem dX8_strip_43 : decode cX8_strip 43 = .ok (.invokevirtual 197, 3) := by decide +kernel
theorem dX8_strip_46 : decode cX8_strip 46 = .ok (.iconst 0, 1) := by decide +kernel
theorem dX8_strip_47 : decode cX8_strip 47 = .ok (.istore_n 2, 1) := by decide +kernel
theorem dX8_strip_48 : decode cX8_strip 48 = .ok (.iconst 0, 1) := by decide +kernel
theorem dX8_strip_49 : decode cX8_strip 49 = .ok (.istore_n 3, 1) := by decide +kernel
theorem dX8_strip_50 : decode cX8_strip 50 = .ok (.iload_n 3, 1) := by decide +kernel
theorem dX8_strip_51 : decode cX8_strip 51 = .ok (.bipush 30, 2) := by decide +kernel
theorem dX8_strip_53 : decode cX8_strip 53 = .ok (.if_icmp .ge 41, 3) := by decide +kernel
theorem dX8_strip_56 : decode cX8_strip 56 = .ok (.aload_n 0, 1) := by decide +kernel
theorem dX8_strip_57 : decode cX8_strip 57 = .ok (.getfield 47, 3) := by decide +kernel
theorem dX8_strip_60 : decode cX8_strip 60 = .ok (.iconst 0, 1) := by decide +kernel
theorem dX8_strip_61 : decode cX8_strip 61 = .ok (.invokevirtual 181, 3) := by decide +kernel
theorem dX8_strip_64 : decode cX8_strip 64 = .ok (.istore 4, 2) := by decide +kernel
theorem dX8_strip_66 : decode cX8_strip 66 = .ok (.iload_n 2, 1) := by decide +kernel
theorem dX8_strip_67 : decode cX8_strip 67 = .ok (.aload_n 0, 1) := by decide +kernel
theorem dX8_strip_68 : decode cX8_strip 68 = .ok (.getfield 47, 3) := by decide +kernel
theorem dX8_strip_71 : decode cX8_strip 71 = .ok (.getfield 185, 3) := by decide +kernel
theorem dX8_strip_74 : decode cX8_strip 74 = .ok (.iload_n 1, 1) := by decide +kernel
theorem dX8_strip_75 : decode cX8_strip 75 = .ok (.baload, 1) := by decide +kernel
theorem dX8_strip_76 : decode cX8_strip 76 = .ok (.ifCond .eq 9, 3) := by decide +kernel
theorem dX8_strip_79 : decode cX8_strip 79 = .ok (.iconst 1, 1) := by decide +kernel
theorem dX8_strip_80 : decode cX8_strip 80 = .ok (.iload_n 3, 1) := by decide +kernel
theorem dX8_strip_81 : decode cX8_strip 81 = .ok (.ishl, 1) := by decide +kernel
theorem dX8_strip_82 : decode cX8_strip 82 = .ok (.goto 4, 3) := by decide +kernel
theorem dX8_strip_85 : decode cX8_strip 85 = .ok (.iconst 0, 1) := by decide +kernel
theorem dX8_strip_86 : decode cX8_strip 86 = .ok (.ior, 1) := by decide +kernel
theorem dX8_strip_87 : decode cX8_strip 87 = .ok (.istore_n 2, 1) := by decide +kernel
theorem dX8_strip_88 : decode cX8_strip 88 = .ok (.iinc 3 1, 3) := by decide +kernel
theorem dX8_strip_91 : decode cX8_strip 91 = .ok (.goto (-41), 3) := by decide +kernel
theorem dX8_strip_94 : decode cX8_strip 94 = .ok (.iload_n 2, 1) := by decide +kernel
theorem dX8_strip_95 : decode cX8_strip 95 = .ok (.ireturn, 1) := by decide +kernel
set_option maxRecDepth 20000 in
theorem ggX8_findCycle_X6_takes : GoodIn wsX8_findCycle wsX6_takes := goodIn_ca (goodIn_r _ [10, 11, 12, 13, 14, 15, 16, 84, 85, 86, 87, 88, 89, 90, 91] (by decide +kernel) (by decide +kernel)) (goodIn_sub (fun _ h => List.mem_cons_of_mem _ (List.mem_append_left _ (List.mem_append_right _ h))) (by decide +kernel))
set_option maxRecDepth 20000 in
theorem gX8_findCycle_X6_takes : GoodIn wsX8_findCycle (wsV RX8 197 RX6 yX6_takes wsX6_takes) := goodIn_app (goodIn_of _ (by decide +kernel)) ggX8_findCycle_X6_takes
set_option maxRecDepth 20000 in
theorem ggX8_findCycle_X6_tick : GoodIn wsX8_findCycle wsX6_tick := goodIn_ca (goodIn_ca (goodIn_r _ [20, 16, 15, 21, 11, 13, 12, 14, 22, 23, 24, 25, 26, 27, 28, 29, 30, 31, 32, 33, 34, 35, 36, 37, 38, 39, 40, 41, 42, 43, 44, 45, 46, 47, 48, 49, 50, 51, 52, 53, 54, 55, 56, 57, 58, 84, 85, 86, 87, 88, 89, 90, 91, 63, 64, 65, 66, 67, 68, 69, 70, 71, 72, 73, 74, 75, 76, 77, 78, 79, 80, 81, 82, 83, 92, 93, 94, 95, 96, 97, 98] (by decide +kernel) (by decide +kernel)) (goodIn_sub (fun _ h => List.mem_cons_of_mem _ (List.mem_append_left _ (List.mem_append_right _ h))) (by decide +kernel))) (goodIn_sub (fun _ h => List.mem_cons_of_mem _ (List.mem_append_right _ h)) (by decide +kernel))
set_option maxRecDepth 20000 in
theorem gX8_findCycle_X6_tick : GoodIn wsX8_findCycle (wsV RX8 181 RX6 yX6_tick wsX6_tick) := goodIn_app (goodIn_of _ (by decide +kernel)) ggX8_findCycle_X6_tick
set_option maxRecDepth 20000 in
theorem ggX8_findCycle_X6_isLike : GoodIn wsX8_findCycle wsX6_isLike := goodIn_ca (goodIn_r _ [62, 11, 13, 15, 16, 84, 85, 86, 87, 88, 89, 90, 91] (by decide +kernel) (by decide +kernel)) (goodIn_sub (fun _ h => List.mem_cons_of_mem _ (List.mem_append_left _ (List.mem_append_right _ h))) (by decide +kernel))
set_option maxRecDepth 20000 in
theorem gX8_findCycle_X6_isLike : GoodIn wsX8_findCycle (wsV RX8 204 RX6 yX6_isLike wsX6_isLike) := goodIn_app (goodIn_of _ (by decide +kernel)) ggX8_findCycle_X6_isLike
theorem dX8_findCycle_0 : decode cX8_findCycle 0 = .ok (.aload_n 0, 1) := by decide +kernel
theorem dX8_findCycle_1 : decode cX8_findCycle 1 = .ok (.getfield 44, 3) := by decide +kernel
theorem dX8_findCycle_4 : decode cX8_findCycle 4 = .ok (.aload_n 0, 1) := by decide +kernel
theorem dX8_findCycle_5 : decode cX8_findCycle 5 = .ok (.getfield 41, 3) := by decide +kernel
theorem dX8_findCycle_8 : decode cX8_findCycle 8 = .ok (.invokevirtual 197, 3) := by decide +kernel
theorem dX8_findCycle_11 : decode cX8_findCycle 11 = .ok (.aload_n 0, 1) := by decide +kernel
theorem dX8_findCycle_12 : decode cX8_findCycle 12 = .ok (.getfield 47, 3) := by decide +kernel
theorem dX8_findCycle_15 : decode cX8_findCycle 15 = .ok (.aload_n 0, 1) := by decide +kernel
theorem dX8_findCycle_16 : decode cX8_findCycle 16 = .ok (.getfield 41, 3) := by decide +kernel
theorem dX8_findCycle_19 : decode cX8_findCycle 19 = .ok (.invokevirtual 197, 3) := by decide +kernel
theorem dX8_findCycle_22 : decode cX8_findCycle 22 = .ok (.iconst 1, 1) := by decide +kernel
theorem dX8_findCycle_23 : decode cX8_findCycle 23 = .ok (.istore_n 1, 1) := by decide +kernel
theorem dX8_findCycle_24 : decode cX8_findCycle 24 = .ok (.iconst 0, 1) := by decide +kernel
theorem dX8_findCycle_25 : decode cX8_findCycle 25 = .ok (.istore_n 2, 1) := by decide +kernel
theorem dX8_findCycle_26 : decode cX8_findCycle 26 = .ok (.aload_n 0, 1) := by decide +kernel
theorem dX8_findCycle_27 : decode cX8_findCycle 27 = .ok (.iconst 0, 1) := by decide +kernel
theorem dX8_findCycle_28 : decode cX8_findCycle 28 = .ok (.putfield 201, 3) := by decide +kernel
theorem dX8_findCycle_31 : decode cX8_findCycle 31 = .ok (.iconst 0, 1) := by decide +kernel
theorem dX8_findCycle_32 : decode cX8_findCycle 32 = .ok (.istore_n 3, 1) := by decide +kernel
theorem dX8_findCycle_33 : decode cX8_findCycle 33 = .ok (.iconst 0, 1) := by decide +kernel
theorem dX8_findCycle_34 : decode cX8_findCycle 34 = .ok (.istore 4, 2) := by decide +kernel
theorem dX8_findCycle_36 : decode cX8_findCycle 36 = .ok (.iload 4, 2) := by decide +kernel
theorem dX8_findCycle_38 : decode cX8_findCycle 38 = .ok (.sipush 5000, 3) := by decide +kernel
theorem dX8_findCycle_41 : decode cX8_findCycle 41 = .ok (.if_icmp .ge 76, 3) := by decide +kernel
theorem dX8_findCycle_44 : decode cX8_findCycle 44 = .ok (.iload_n 3, 1) := by decide +kernel
theorem dX8_findCycle_45 : decode cX8_findCycle 45 = .ok (.ifCond .ne 72, 3) := by decide +kernel
theorem dX8_findCycle_48 : decode cX8_findCycle 48 = .ok (.aload_n 0, 1) := by decide +kernel
theorem dX8_findCycle_49 : decode cX8_findCycle 49 = .ok (.getfield 201, 3) := by decide +kernel
theorem dX8_findCycle_52 : decode cX8_findCycle 52 = .ok (.iload_n 1, 1) := by decide +kernel
theorem dX8_findCycle_53 : decode cX8_findCycle 53 = .ok (.if_icmp .ne 23, 3) := by decide +kernel
theorem dX8_findCycle_56 : decode cX8_findCycle 56 = .ok (.aload_n 0, 1) := by decide +kernel
theorem dX8_findCycle_57 : decode cX8_findCycle 57 = .ok (.getfield 44, 3) := by decide +kernel
theorem dX8_findCycle_60 : decode cX8_findCycle 60 = .ok (.aload_n 0, 1) := by decide +kernel
theorem dX8_findCycle_61 : decode cX8_findCycle 61 = .ok (.getfield 47, 3) := by decide +kernel
theorem dX8_findCycle_64 : decode cX8_findCycle 64 = .ok (.invokevirtual 197, 3) := by decide +kernel
theorem dX8_findCycle_67 : decode cX8_findCycle 67 = .ok (.iload_n 1, 1) := by decide +kernel
theorem dX8_findCycle_68 : decode cX8_findCycle 68 = .ok (.iconst 2, 1) := by decide +kernel
theorem dX8_findCycle_69 : decode cX8_findCycle 69 = .ok (.imul, 1) := by decide +kernel
theorem dX8_findCycle_70 : decode cX8_findCycle 70 = .ok (.istore_n 1, 1) := by decide +kernel
theorem dX8_findCycle_71 : decode cX8_findCycle 71 = .ok (.aload_n 0, 1) := by decide +kernel
theorem dX8_findCycle_72 : decode cX8_findCycle 72 = .ok (.iconst 0, 1) := by decide +kernel
theorem dX8_findCycle_73 : decode cX8_findCycle 73 = .ok (.putfield 201, 3) := by decide +kernel
theorem dX8_findCycle_76 : decode cX8_findCycle 76 = .ok (.aload_n 0, 1) := by decide +kernel
theorem dX8_findCycle_77 : decode cX8_findCycle 77 = .ok (.getfield 47, 3) := by decide +kernel
theorem dX8_findCycle_80 : decode cX8_findCycle 80 = .ok (.iconst 0, 1) := by decide +kernel
theorem dX8_findCycle_81 : decode cX8_findCycle 81 = .ok (.invokevirtual 181, 3) := by decide +kernel
theorem dX8_findCycle_84 : decode cX8_findCycle 84 = .ok (.istore 5, 2) := by decide +kernel
theorem dX8_findCycle_86 : decode cX8_findCycle 86 = .ok (.aload_n 0, 1) := by decide +kernel
theorem dX8_findCycle_87 : decode cX8_findCycle 87 = .ok (.dup, 1) := by decide +kernel
theorem dX8_findCycle_88 : decode cX8_findCycle 88 = .ok (.getfield 201, 3) := by decide +kernel
theorem dX8_findCycle_91 : decode cX8_findCycle 91 = .ok (.iconst 1, 1) := by decide +kernel
theorem dX8_findCycle_92 : decode cX8_findCycle 92 = .ok (.iadd, 1) := by decide +kernel
theorem dX8_findCycle_93 : decode cX8_findCycle 93 = .ok (.putfield 201, 3) := by decide +kernel
theorem dX8_findCycle_96 : decode cX8_findCycle 96 = .ok (.aload_n 0, 1) := by decide +kernel
theorem dX8_findCycle_97 : decode cX8_findCycle 97 = .ok (.getfield 44, 3) := by decide +kernel
theorem dX8_findCycle_100 : decode cX8_findCycle 100 = .ok (.aload_n 0, 1) := by decide +kernel
theorem dX8_findCycle_101 : decode cX8_findCycle 101 = .ok (.getfield 47, 3) := by decide +kernel
theorem dX8_findCycle_104 : decode cX8_findCycle 104 = .ok (.invokevirtual 204, 3) := by decide +kernel
theorem dX8_findCycle_107 : decode cX8_findCycle 107 = .ok (.istore_n 3, 1) := by decide +kernel
theorem dX8_findCycle_108 : decode cX8_findCycle 108 = .ok (.iinc 2 1, 3) := by decide +kernel
theorem dX8_findCycle_111 : decode cX8_findCycle 111 = .ok (.iinc 4 1, 3) := by decide +kernel
theorem dX8_findCycle_114 : decode cX8_findCycle 114 = .ok (.goto (-78), 3) := by decide +kernel
theorem dX8_findCycle_117 : decode cX8_findCycle 117 = .ok (.iload_n 3, 1) := by decide +kernel
theorem dX8_findCycle_118 : decode cX8_findCycle 118 = .ok (.ifCond .eq 13, 3) := by decide +kernel
theorem dX8_findCycle_121 : decode cX8_findCycle 121 = .ok (.aload_n 0, 1) := by decide +kernel
theorem dX8_findCycle_122 : decode cX8_findCycle 122 = .ok (.getfield 201, 3) := by decide +kernel
theorem dX8_findCycle_125 : decode cX8_findCycle 125 = .ok (.sipush 1000, 3) := by decide +kernel
theorem dX8_findCycle_128 : decode cX8_findCycle 128 = .ok (.if_icmp .le 5, 3) := by decide +kernel
theorem dX8_findCycle_131 : decode cX8_findCycle 131 = .ok (.iconst 0, 1) := by decide +kernel
theorem dX8_findCycle_132 : decode cX8_findCycle 132 = .ok (.ireturn, 1) := by decide +kernel
theorem dX8_findCycle_133 : decode cX8_findCycle 133 = .ok (.aload_n 0, 1) := by decide +kernel
theorem dX8_findCycle_134 : decode cX8_findCycle 134 = .ok (.getfield 44, 3) := by decide +kernel
theorem dX8_findCycle_137 : decode cX8_findCycle 137 = .ok (.aload_n 0, 1) := by decide +kernel
theorem dX8_findCycle_138 : decode cX8_findCycle 138 = .ok (.getfield 41, 3) := by decide +kernel
theorem dX8_findCycle_141 : decode cX8_findCycle 141 = .ok (.invokevirtual 197, 3) := by decide +kernel
theorem dX8_findCycle_144 : decode cX8_findCycle 144 = .ok (.aload_n 0, 1) := by decide +kernel
theorem dX8_findCycle_145 : decode cX8_findCycle 145 = .ok (.getfield 47, 3) := by decide +kernel
theorem dX8_findCycle_148 : decode cX8_findCycle 148 = .ok (.aload_n 0, 1) := by decide +kernel
theorem dX8_findCycle_149 : decode cX8_findCycle 149 = .ok (.getfield 41, 3) := by decide +kernel
theorem dX8_findCycle_152 : decode cX8_findCycle 152 = .ok (.invokevirtual 197, 3) := by decide +kernel
theorem dX8_findCycle_155 : decode cX8_findCycle 155 = .ok (.iconst 0, 1) := by decide +kernel
theorem dX8_findCycle_156 : decode cX8_findCycle 156 = .ok (.istore 4, 2) := by decide +kernel
theorem dX8_findCycle_158 : decode cX8_findCycle 158 = .ok (.iload 4, 2) := by decide +kernel
theorem dX8_findCycle_160 : decode cX8_findCycle 160 = .ok (.aload_n 0, 1) := by decide +kernel
theorem dX8_findCycle_161 : decode cX8_findCycle 161 = .ok (.getfield 201, 3) := by decide +kernel
theorem dX8_findCycle_164 : decode cX8_findCycle 164 = .ok (.if_icmp .ge 20, 3) := by decide +kernel
theorem dX8_findCycle_167 : decode cX8_findCycle 167 = .ok (.iload_n 2, 1) := by decide +kernel
theorem dX8_findCycle_168 : decode cX8_findCycle 168 = .ok (.aload_n 0, 1) := by decide +kernel
theorem dX8_findCycle_169 : decode cX8_findCycle 169 = .ok (.getfield 47, 3) := by decide +kernel
theorem dX8_findCycle_172 : decode cX8_findCycle 172 = .ok (.iconst 0, 1) := by decide +kernel
theorem dX8_findCycle_173 : decode cX8_findCycle 173 = .ok (.invokevirtual 181, 3) := by decide +kernel
theorem dX8_findCycle_176 : decode cX8_findCycle 176 = .ok (.iadd, 1) := by decide +kernel
theorem dX8_findCycle_177 : decode cX8_findCycle 177 = .ok (.istore_n 2, 1) := by decide +kernel
theorem dX8_findCycle_178 : decode cX8_findCycle 178 = .ok (.iinc 4 1, 3) := by decide +kernel
theorem dX8_findCycle_181 : decode cX8_findCycle 181 = .ok (.goto (-23), 3) := by decide +kernel
theorem dX8_findCycle_184 : decode cX8_findCycle 184 = .ok (.aload_n 0, 1) := by decide +kernel
theorem dX8_findCycle_185 : decode cX8_findCycle 185 = .ok (.iconst 0, 1) := by decide +kernel
theorem dX8_findCycle_186 : decode cX8_findCycle 186 = .ok (.putfield 208, 3) := by decide +kernel
theorem dX8_findCycle_189 : decode cX8_findCycle 189 = .ok (.aload_n 0, 1) := by decide +kernel
theorem dX8_findCycle_190 : decode cX8_findCycle 190 = .ok (.getfield 208, 3) := by decide +kernel
theorem dX8_findCycle_193 : decode cX8_findCycle 193 = .ok (.aload_n 0, 1) := by decide +kernel
theorem dX8_findCycle_194 : decode cX8_findCycle 194 = .ok (.getfield 201, 3) := by decide +kernel
theorem dX8_findCycle_197 : decode cX8_findCycle 197 = .ok (.iadd, 1) := by decide +kernel
theorem dX8_findCycle_198 : decode cX8_findCycle 198 = .ok (.sipush 1000, 3) := by decide +kernel
theorem dX8_findCycle_201 : decode cX8_findCycle 201 = .ok (.if_icmp .gt 50, 3) := by decide +kernel
theorem dX8_findCycle_204 : decode cX8_findCycle 204 = .ok (.aload_n 0, 1) := by decide +kernel
theorem dX8_findCycle_205 : decode cX8_findCycle 205 = .ok (.getfield 44, 3) := by decide +kernel
theorem dX8_findCycle_208 : decode cX8_findCycle 208 = .ok (.aload_n 0, 1) := by decide +kernel
theorem dX8_findCycle_209 : decode cX8_findCycle 209 = .ok (.getfield 47, 3) := by decide +kernel
theorem dX8_findCycle_212 : decode cX8_findCycle 212 = .ok (.invokevirtual 204, 3) := by decide +kernel
theorem dX8_findCycle_215 : decode cX8_findCycle 215 = .ok (.ifCond .ne 36, 3) := by decide +kernel
theorem dX8_findCycle_218 : decode cX8_findCycle 218 = .ok (.iload_n 2, 1) := by decide +kernel
theorem dX8_findCycle_219 : decode cX8_findCycle 219 = .ok (.aload_n 0, 1) := by decide +kernel
theorem dX8_findCycle_220 : decode cX8_findCycle 220 = .ok (.getfield 44, 3) := by decide +kernel
theorem dX8_findCycle_223 : decode cX8_findCycle 223 = .ok (.iconst 0, 1) := by decide +kernel
theorem dX8_findCycle_224 : decode cX8_findCycle 224 = .ok (.invokevirtual 181, 3) := by decide +kernel
theorem dX8_findCycle_227 : decode cX8_findCycle 227 = .ok (.aload_n 0, 1) := by decide +kernel
theorem dX8_findCycle_228 : decode cX8_findCycle 228 = .ok (.getfield 47, 3) := by decide +kernel
theorem dX8_findCycle_231 : decode cX8_findCycle 231 = .ok (.iconst 0, 1) := by decide +kernel
theorem dX8_findCycle_232 : decode cX8_findCycle 232 = .ok (.invokevirtual 181, 3) := by decide +kernel
theorem dX8_findCycle_235 : decode cX8_findCycle 235 = .ok (.iadd, 1) := by decide +kernel
theorem dX8_findCycle_236 : decode cX8_findCycle 236 = .ok (.iadd, 1) := by decide +kernel
theorem dX8_findCycle_237 : decode cX8_findCycle 237 = .ok (.istore_n 2, 1) := by decide +kernel
theorem dX8_findCycle_238 : decode cX8_findCycle 238 = .ok (.aload_n 0, 1) := by decide +kernel
theorem dX8_findCycle_239 : decode cX8_findCycle 239 = .ok (.dup, 1) := by decide +kernel
theorem dX8_findCycle_240 : decode cX8_findCycle 240 = .ok (.getfield 208, 3) := by decide +kernel
theorem dX8_findCycle_243 : decode cX8_findCycle 243 = .ok (.iconst 1, 1) := by decide +kernel
theorem dX8_findCycle_244 : decode cX8_findCycle 244 = .ok (.iadd, 1) := by decide +kernel
theorem dX8_findCycle_245 : decode cX8_findCycle 245 = .ok (.putfield 208, 3) := by decide +kernel
theorem dX8_findCycle_248 : decode cX8_findCycle 248 = .ok (.goto (-59), 3) := by decide +kernel
theorem dX8_findCycle_251 : decode cX8_findCycle 251 = .ok (.aload_n 0, 1) := by decide +kernel
theorem dX8_findCycle_252 : decode cX8_findCycle 252 = .ok (.getfield 208, 3) := by decide +kernel
theorem dX8_findCycle_255 : decode cX8_findCycle 255 = .ok (.aload_n 0, 1) := by decide +kernel
theorem dX8_findCycle_256 : decode cX8_findCycle 256 = .ok (.getfield 201, 3) := by decide +kernel
theorem dX8_findCycle_259 : decode cX8_findCycle 259 = .ok (.iadd, 1) := by decide +kernel
theorem dX8_findCycle_260 : decode cX8_findCycle 260 = .ok (.sipush 1000, 3) := by decide +kernel
theorem dX8_findCycle_263 : decode cX8_findCycle 263 = .ok (.if_icmp .gt 7, 3) := by decide +kernel
theorem dX8_findCycle_266 : decode cX8_findCycle 266 = .ok (.iconst 1, 1) := by decide +kernel
theorem dX8_findCycle_267 : decode cX8_findCycle 267 = .ok (.goto 4, 3) := by decide +kernel
theorem dX8_findCycle_270 : decode cX8_findCycle 270 = .ok (.iconst 0, 1) := by decide +kernel
theorem dX8_findCycle_271 : decode cX8_findCycle 271 = .ok (.ireturn, 1) := by decide +kernel
set_option maxRecDepth 20000 in
theorem ggX8_goRound_X6_tick : GoodIn wsX8_goRound wsX6_tick := goodIn_ca (goodIn_ca (goodIn_r _ [9, 10, 11, 12, 13, 14, 15, 16, 17, 18, 19, 20, 21, 22, 23, 24, 25, 26, 27, 28, 29, 30, 31, 32, 33, 34, 35, 36, 37, 38, 39, 40, 41, 42, 43, 44, 45, 46, 47, 48, 49, 50, 51, 52, 53, 75, 76, 77, 78, 79, 80, 81, 82, 54, 55, 56, 57, 58, 59, 60, 61, 62, 63, 64, 65, 66, 67, 68, 69, 70, 71, 72, 73, 74, 83, 84, 85, 86, 87, 88, 89] (by decide +kernel) (by decide +kernel)) (goodIn_sub (fun _ h => List.mem_cons_of_mem _ (List.mem_append_left _ (List.mem_append_right _ h))) (by decide +kernel))) (goodIn_sub (fun _ h => List.mem_cons_of_mem _ (List.mem_append_right _ h)) (by decide +kernel))
set_option maxRecDepth 20000 in
theorem gX8_goRound_X6_tick : GoodIn wsX8_goRound (wsV RX8 181 RX6 yX6_tick wsX6_tick) := goodIn_app (goodIn_of _ (by decide +kernel)) ggX8_goRound_X6_tick
theorem dX8_goRound_0 : decode cX8_goRound 0 = .ok (.iconst 0, 1) := by decide +kernel
theorem dX8_goRound_1 : decode cX8_goRound 1 = .ok (.istore_n 1, 1) := by decide +kernel
theorem dX8_goRound_2 : decode cX8_goRound 2 = .ok (.iload_n 1, 1) := by decide +kernel
theorem dX8_goRound_3 : decode cX8_goRound 3 = .ok (.bipush 16, 2) := by decide +kernel
theorem dX8_goRound_5 : decode cX8_goRound 5 = .ok (.if_icmp .ge 39, 3) := by decide +kernel
theorem dX8_goRound_8 : decode cX8_goRound 8 = .ok (.aload_n 0, 1) := by decide +kernel
theorem dX8_goRound_9 : decode cX8_goRound 9 = .ok (.getfield 50, 3) := by decide +kernel
theorem dX8_goRound_12 : decode cX8_goRound 12 = .ok (.iload_n 1, 1) := by decide +kernel
theorem dX8_goRound_13 : decode cX8_goRound 13 = .ok (.iconst 0, 1) := by decide +kernel
theorem dX8_goRound_14 : decode cX8_goRound 14 = .ok (.iastore, 1) := by decide +kernel
theorem dX8_goRound_15 : decode cX8_goRound 15 = .ok (.iconst 0, 1) := by decide +kernel
theorem dX8_goRound_16 : decode cX8_goRound 16 = .ok (.istore_n 2, 1) := by decide +kernel
theorem dX8_goRound_17 : decode cX8_goRound 17 = .ok (.iload_n 2, 1) := by decide +kernel
theorem dX8_goRound_18 : decode cX8_goRound 18 = .ok (.bipush 16, 2) := by decide +kernel
theorem dX8_goRound_20 : decode cX8_goRound 20 = .ok (.if_icmp .ge 18, 3) := by decide +kernel
theorem dX8_goRound_23 : decode cX8_goRound 23 = .ok (.aload_n 0, 1) := by decide +kernel
theorem dX8_goRound_24 : decode cX8_goRound 24 = .ok (.getfield 55, 3) := by decide +kernel
theorem dX8_goRound_27 : decode cX8_goRound 27 = .ok (.iload_n 1, 1) := by decide +kernel
theorem dX8_goRound_28 : decode cX8_goRound 28 = .ok (.aaload, 1) := by decide +kernel
theorem dX8_goRound_29 : decode cX8_goRound 29 = .ok (.iload_n 2, 1) := by decide +kernel
theorem dX8_goRound_30 : decode cX8_goRound 30 = .ok (.iconst 0, 1) := by decide +kernel
theorem dX8_goRound_31 : decode cX8_goRound 31 = .ok (.bastore, 1) := by decide +kernel
theorem dX8_goRound_32 : decode cX8_goRound 32 = .ok (.iinc 2 1, 3) := by decide +kernel
theorem dX8_goRound_35 : decode cX8_goRound 35 = .ok (.goto (-18), 3) := by decide +kernel
theorem dX8_goRound_38 : decode cX8_goRound 38 = .ok (.iinc 1 1, 3) := by decide +kernel
theorem dX8_goRound_41 : decode cX8_goRound 41 = .ok (.goto (-39), 3) := by decide +kernel
theorem dX8_goRound_44 : decode cX8_goRound 44 = .ok (.iconst 0, 1) := by decide +kernel
theorem dX8_goRound_45 : decode cX8_goRound 45 = .ok (.istore_n 1, 1) := by decide +kernel
theorem dX8_goRound_46 : decode cX8_goRound 46 = .ok (.iload_n 1, 1) := by decide +kernel
theorem dX8_goRound_47 : decode cX8_goRound 47 = .ok (.aload_n 0, 1) := by decide +kernel
theorem dX8_goRound_48 : decode cX8_goRound 48 = .ok (.getfield 201, 3) := by decide +kernel
theorem dX8_goRound_51 : decode cX8_goRound 51 = .ok (.if_icmp .ge 122, 3) := by decide +kernel
theorem dX8_goRound_54 : decode cX8_goRound 54 = .ok (.aload_n 0, 1) := by decide +kernel
theorem dX8_goRound_55 : decode cX8_goRound 55 = .ok (.getfield 47, 3) := by decide +kernel
theorem dX8_goRound_58 : decode cX8_goRound 58 = .ok (.iconst 0, 1) := by decide +kernel
theorem dX8_goRound_59 : decode cX8_goRound 59 = .ok (.invokevirtual 181, 3) := by decide +kernel
theorem dX8_goRound_62 : decode cX8_goRound 62 = .ok (.istore_n 2, 1) := by decide +kernel
theorem dX8_goRound_63 : decode cX8_goRound 63 = .ok (.iconst 0, 1) := by decide +kernel
theorem dX8_goRound_64 : decode cX8_goRound 64 = .ok (.istore_n 3, 1) := by decide +kernel
theorem dX8_goRound_65 : decode cX8_goRound 65 = .ok (.iload_n 3, 1) := by decide +kernel
theorem dX8_goRound_66 : decode cX8_goRound 66 = .ok (.bipush 16, 2) := by decide +kernel
theorem dX8_goRound_68 : decode cX8_goRound 68 = .ok (.if_icmp .ge 99, 3) := by decide +kernel
theorem dX8_goRound_71 : decode cX8_goRound 71 = .ok (.aload_n 0, 1) := by decide +kernel
theorem dX8_goRound_72 : decode cX8_goRound 72 = .ok (.getfield 50, 3) := by decide +kernel
theorem dX8_goRound_75 : decode cX8_goRound 75 = .ok (.iload_n 3, 1) := by decide +kernel
theorem dX8_goRound_76 : decode cX8_goRound 76 = .ok (.dup2, 1) := by decide +kernel
theorem dX8_goRound_77 : decode cX8_goRound 77 = .ok (.iaload, 1) := by decide +kernel
theorem dX8_goRound_78 : decode cX8_goRound 78 = .ok (.aload_n 0, 1) := by decide +kernel
theorem dX8_goRound_79 : decode cX8_goRound 79 = .ok (.getfield 47, 3) := by decide +kernel
theorem dX8_goRound_82 : decode cX8_goRound 82 = .ok (.getfield 185, 3) := by decide +kernel
theorem dX8_goRound_85 : decode cX8_goRound 85 = .ok (.iload_n 3, 1) := by decide +kernel
theorem dX8_goRound_86 : decode cX8_goRound 86 = .ok (.baload, 1) := by decide +kernel
theorem dX8_goRound_87 : decode cX8_goRound 87 = .ok (.ifCond .eq 7, 3) := by decide +kernel
theorem dX8_goRound_90 : decode cX8_goRound 90 = .ok (.iconst 1, 1) := by decide +kernel
theorem dX8_goRound_91 : decode cX8_goRound 91 = .ok (.goto 4, 3) := by decide +kernel
theorem dX8_goRound_94 : decode cX8_goRound 94 = .ok (.iconst 0, 1) := by decide +kernel
theorem dX8_goRound_95 : decode cX8_goRound 95 = .ok (.iadd, 1) := by decide +kernel
theorem dX8_goRound_96 : decode cX8_goRound 96 = .ok (.iastore, 1) := by decide +kernel
theorem dX8_goRound_97 : decode cX8_goRound 97 = .ok (.iconst 0, 1) := by decide +kernel
theorem dX8_goRound_98 : decode cX8_goRound 98 = .ok (.istore 4, 2) := by decide +kernel
theorem dX8_goRound_100 : decode cX8_goRound 100 = .ok (.iload 4, 2) := by decide +kernel
theorem dX8_goRound_102 : decode cX8_goRound 102 = .ok (.bipush 16, 2) := by decide +kernel
theorem dX8_goRound_104 : decode cX8_goRound 104 = .ok (.if_icmp .ge 57, 3) := by decide +kernel
theorem dX8_goRound_107 : decode cX8_goRound 107 = .ok (.aload_n 0, 1) := by decide +kernel
theorem dX8_goRound_108 : decode cX8_goRound 108 = .ok (.getfield 55, 3) := by decide +kernel
theorem dX8_goRound_111 : decode cX8_goRound 111 = .ok (.iload_n 3, 1) := by decide +kernel
theorem dX8_goRound_112 : decode cX8_goRound 112 = .ok (.aaload, 1) := by decide +kernel
theorem dX8_goRound_113 : decode cX8_goRound 113 = .ok (.iload 4, 2) := by decide +kernel
theorem dX8_goRound_115 : decode cX8_goRound 115 = .ok (.aload_n 0, 1) := by decide +kernel
theorem dX8_goRound_116 : decode cX8_goRound 116 = .ok (.getfield 55, 3) := by decide +kernel
theorem dX8_goRound_119 : decode cX8_goRound 119 = .ok (.iload_n 3, 1) := by decide +kernel
theorem dX8_goRound_120 : decode cX8_goRound 120 = .ok (.aaload, 1) := by decide +kernel
theorem dX8_goRound_121 : decode cX8_goRound 121 = .ok (.iload 4, 2) := by decide +kernel
theorem dX8_goRound_123 : decode cX8_goRound 123 = .ok (.baload, 1) := by decide +kernel
theorem dX8_goRound_124 : decode cX8_goRound 124 = .ok (.ifCond .ne 25, 3) := by decide +kernel
theorem dX8_goRound_127 : decode cX8_goRound 127 = .ok (.aload_n 0, 1) := by decide +kernel
theorem dX8_goRound_128 : decode cX8_goRound 128 = .ok (.getfield 47, 3) := by decide +kernel
theorem dX8_goRound_131 : decode cX8_goRound 131 = .ok (.getfield 185, 3) := by decide +kernel
theorem dX8_goRound_134 : decode cX8_goRound 134 = .ok (.iload_n 3, 1) := by decide +kernel
theorem dX8_goRound_135 : decode cX8_goRound 135 = .ok (.baload, 1) := by decide +kernel
theorem dX8_goRound_136 : decode cX8_goRound 136 = .ok (.aload_n 0, 1) := by decide +kernel
theorem dX8_goRound_137 : decode cX8_goRound 137 = .ok (.getfield 47, 3) := by decide +kernel
theorem dX8_goRound_140 : decode cX8_goRound 140 = .ok (.getfield 185, 3) := by decide +kernel
theorem dX8_goRound_143 : decode cX8_goRound 143 = .ok (.iload 4, 2) := by decide +kernel
theorem dX8_goRound_145 : decode cX8_goRound 145 = .ok (.baload, 1) := by decide +kernel
theorem dX8_goRound_146 : decode cX8_goRound 146 = .ok (.if_icmp .eq 7, 3) := by decide +kernel
theorem dX8_goRound_149 : decode cX8_goRound 149 = .ok (.iconst 1, 1) := by decide +kernel
theorem dX8_goRound_150 : decode cX8_goRound 150 = .ok (.goto 4, 3) := by decide +kernel
theorem dX8_goRound_153 : decode cX8_goRound 153 = .ok (.iconst 0, 1) := by decide +kernel
theorem dX8_goRound_154 : decode cX8_goRound 154 = .ok (.bastore, 1) := by decide +kernel
theorem dX8_goRound_155 : decode cX8_goRound 155 = .ok (.iinc 4 1, 3) := by decide +kernel
theorem dX8_goRound_158 : decode cX8_goRound 158 = .ok (.goto (-58), 3) := by decide +kernel
theorem dX8_goRound_161 : decode cX8_goRound 161 = .ok (.iinc 3 1, 3) := by decide +kernel
theorem dX8_goRound_164 : decode cX8_goRound 164 = .ok (.goto (-99), 3) := by decide +kernel
theorem dX8_goRound_167 : decode cX8_goRound 167 = .ok (.iinc 1 1, 3) := by decide +kernel
theorem dX8_goRound_170 : decode cX8_goRound 170 = .ok (.goto (-124), 3) := by decide +kernel
theorem dX8_goRound_173 : decode cX8_goRound 173 = .ok (.return_, 1) := by decide +kernel
set_option maxRecDepth 20000 in
theorem ggX8_noWay_X6_takes : GoodIn wsX8_noWay wsX6_takes := goodIn_ca (goodIn_r _ [9, 10, 11, 12, 13, 14, 15, 97, 98, 99, 100, 101, 102, 103, 104] (by decide +kernel) (by decide +kernel)) (goodIn_sub (fun _ h => List.mem_cons_of_mem _ (List.mem_append_left _ (List.mem_append_right _ h))) (by decide +kernel))
set_option maxRecDepth 20000 in
theorem gX8_noWay_X6_takes : GoodIn wsX8_noWay (wsV RX8 197 RX6 yX6_takes wsX6_takes) := goodIn_app (goodIn_of _ (by decide +kernel)) ggX8_noWay_X6_takes
set_option maxRecDepth 20000 in
theorem ggX8_noWay_X8_findCycle : GoodIn wsX8_noWay wsX8_findCycle := goodIn_ca (goodIn_ca (goodIn_r _ [20, 21, 3, 22, 23, 24, 5, 6, 7, 8, 9, 10, 11, 12, 13, 14, 15, 25, 26, 27, 28, 29, 30, 31, 32, 33, 34, 35, 36, 19, 37, 38, 39, 40, 41, 42, 43, 44, 45, 46, 47, 48, 49, 50, 51, 52, 53, 54, 55, 56, 57, 58, 59, 60, 61, 62, 63, 64, 65, 66, 67, 68, 69, 76, 77, 78, 79, 80, 81, 82, 83, 84, 85, 86, 87, 88, 89, 90, 91, 92, 93, 94, 95, 96, 97, 98, 99, 100, 101, 102, 103, 104, 105, 106, 107, 108, 109, 110, 111] (by decide +kernel) (by decide +kernel)) (goodIn_sub (fun _ h => List.mem_cons_of_mem _ (List.mem_append_left _ (List.mem_append_right _ h))) (by decide +kernel))) (goodIn_sub (fun _ h => List.mem_cons_of_mem _ (List.mem_append_right _ h)) (by decide +kernel))
set_option maxRecDepth 20000 in
theorem gX8_noWay_X8_findCycle : GoodIn wsX8_noWay (wsV RX8 211 RX8 yX8_findCycle wsX8_findCycle) := goodIn_app (goodIn_of _ (by decide +kernel)) ggX8_noWay_X8_findCycle
set_option maxRecDepth 20000 in
theorem ggX8_noWay_X8_goRound : GoodIn wsX8_noWay wsX8_goRound := goodIn_ca (goodIn_ca (goodIn_r _ [73, 74, 75, 23, 22, 25, 26, 27, 8, 28, 15, 14, 29, 10, 12, 11, 13, 30, 31, 32, 33, 34, 35, 36, 19, 37, 38, 39, 40, 41, 42, 43, 44, 45, 46, 47, 48, 49, 50, 51, 52, 53, 54, 55, 56, 57, 58, 59, 60, 61, 62, 63, 64, 65, 76, 77, 78, 79, 80, 81, 82, 83, 84, 85, 86, 87, 88, 89, 90, 91, 92, 93, 94, 95, 96, 97, 98, 99, 100, 101, 102, 103, 104, 105, 106, 107, 108, 109, 110, 111] (by decide +kernel) (by decide +kernel)) (goodIn_sub (fun _ h => List.mem_cons_of_mem _ (List.mem_append_left _ (List.mem_append_right _ h))) (by decide +kernel))) (goodIn_sub (fun _ h => List.mem_cons_of_mem _ (List.mem_append_right _ h)) (by decide +kernel))
set_option maxRecDepth 20000 in
theorem gX8_noWay_X8_goRound : GoodIn wsX8_noWay (wsV RX8 215 RX8 yX8_goRound wsX8_goRound) := goodIn_app (goodIn_of _ (by decide +kernel)) ggX8_noWay_X8_goRound
theorem dX8_noWay_0 : decode cX8_noWay 0 = .ok (.aload_n 0, 1) := by decide +kernel
theorem dX8_noWay_1 : decode cX8_noWay 1 = .ok (.getfield 178, 3) := by decide +kernel
theorem dX8_noWay_4 : decode cX8_noWay 4 = .ok (.ifCond .le 10, 3) := by decide +kernel
theorem dX8_noWay_7 : decode cX8_noWay 7 = .ok (.aload_n 0, 1) := by decide +kernel
theorem dX8_noWay_8 : decode cX8_noWay 8 = .ok (.iload_n 1, 1) := by decide +kernel
theorem dX8_noWay_9 : decode cX8_noWay 9 = .ok (.putfield 76, 3) := by decide +kernel
theorem dX8_noWay_12 : decode cX8_noWay 12 = .ok (.iconst 1, 1) := by decide +kernel
theorem dX8_noWay_13 : decode cX8_noWay 13 = .ok (.ireturn, 1) := by decide +kernel
theorem dX8_noWay_14 : decode cX8_noWay 14 = .ok (.aload_n 0, 1) := by decide +kernel
theorem dX8_noWay_15 : decode cX8_noWay 15 = .ok (.getfield 41, 3) := by decide +kernel
theorem dX8_noWay_18 : decode cX8_noWay 18 = .ok (.aload_n 0, 1) := by decide +kernel
theorem dX8_noWay_19 : decode cX8_noWay 19 = .ok (.getfield 26, 3) := by decide +kernel
theorem dX8_noWay_22 : decode cX8_noWay 22 = .ok (.invokevirtual 197, 3) := by decide +kernel
theorem dX8_noWay_25 : decode cX8_noWay 25 = .ok (.aload_n 0, 1) := by decide +kernel
theorem dX8_noWay_26 : decode cX8_noWay 26 = .ok (.invokevirtual 211, 3) := by decide +kernel
theorem dX8_noWay_29 : decode cX8_noWay 29 = .ok (.istore_n 2, 1) := by decide +kernel
theorem dX8_noWay_30 : decode cX8_noWay 30 = .ok (.aload_n 0, 1) := by decide +kernel
theorem dX8_noWay_31 : decode cX8_noWay 31 = .ok (.iload_n 2, 1) := by decide +kernel
theorem dX8_noWay_32 : decode cX8_noWay 32 = .ok (.ifCond .eq 7, 3) := by decide +kernel
theorem dX8_noWay_35 : decode cX8_noWay 35 = .ok (.iconst 0, 1) := by decide +kernel
theorem dX8_noWay_36 : decode cX8_noWay 36 = .ok (.goto 6, 3) := by decide +kernel
theorem dX8_noWay_39 : decode cX8_noWay 39 = .ok (.iload_n 1, 1) := by decide +kernel
theorem dX8_noWay_40 : decode cX8_noWay 40 = .ok (.iconst 1, 1) := by decide +kernel
theorem dX8_noWay_41 : decode cX8_noWay 41 = .ok (.iadd, 1) := by decide +kernel
theorem dX8_noWay_42 : decode cX8_noWay 42 = .ok (.putfield 76, 3) := by decide +kernel
theorem dX8_noWay_45 : decode cX8_noWay 45 = .ok (.iload_n 2, 1) := by decide +kernel
theorem dX8_noWay_46 : decode cX8_noWay 46 = .ok (.ifCond .eq 7, 3) := by decide +kernel
theorem dX8_noWay_49 : decode cX8_noWay 49 = .ok (.aload_n 0, 1) := by decide +kernel
theorem dX8_noWay_50 : decode cX8_noWay 50 = .ok (.invokevirtual 215, 3) := by decide +kernel
theorem dX8_noWay_53 : decode cX8_noWay 53 = .ok (.iload_n 2, 1) := by decide +kernel
theorem dX8_noWay_54 : decode cX8_noWay 54 = .ok (.ifCond .ne 7, 3) := by decide +kernel
theorem dX8_noWay_57 : decode cX8_noWay 57 = .ok (.iconst 1, 1) := by decide +kernel
theorem dX8_noWay_58 : decode cX8_noWay 58 = .ok (.goto 4, 3) := by decide +kernel
theorem dX8_noWay_61 : decode cX8_noWay 61 = .ok (.iconst 0, 1) := by decide +kernel
theorem dX8_noWay_62 : decode cX8_noWay 62 = .ok (.ireturn, 1) := by decide +kernel
set_option maxRecDepth 20000 in
theorem ggX8_cycle_X8_noWay : GoodIn wsX8_cycle wsX8_noWay := goodIn_ca (goodIn_ca (goodIn_r _ [6, 7, 8, 9, 10, 11, 12, 13, 14, 15, 16, 17, 18, 19, 20, 21, 22, 23, 24, 5, 25, 26, 27, 1, 28, 29, 30, 31, 32, 33, 34, 35, 36, 37, 38, 39, 40, 41, 42, 43, 44, 45, 46, 47, 48, 49, 50, 51, 52, 53, 54, 55, 56, 57, 58, 59, 60, 61, 62, 63, 64, 65, 66, 67, 68, 69, 70, 71, 72, 73, 74, 75, 76, 77, 78, 79, 80, 81, 82, 83, 84, 85, 86, 87, 88, 89, 90, 91, 92, 93, 94, 95, 96, 97, 98, 99, 100, 101, 102, 103, 104, 105, 106, 107, 108, 109, 110, 111, 112, 113, 114, 115] (by decide +kernel) (by decide +kernel)) (goodIn_sub (fun _ h => List.mem_cons_of_mem _ (List.mem_append_left _ (List.mem_append_right _ h))) (by decide +kernel))) (goodIn_sub (fun _ h => List.mem_cons_of_mem _ (List.mem_append_right _ h)) (by decide +kernel))
set_option maxRecDepth 20000 in
theorem gX8_cycle_X8_noWay : GoodIn wsX8_cycle (wsV RX8 218 RX8 yX8_noWay wsX8_noWay) := goodIn_app (goodIn_of _ (by decide +kernel)) ggX8_cycle_X8_noWay
theorem dX8_cycle_0 : decode cX8_cycle 0 = .ok (.aload_n 0, 1) := by decide +kernel
theorem dX8_cycle_1 : decode cX8_cycle 1 = .ok (.iconst 1, 1) := by decide +kernel
theorem dX8_cycle_2 : decode cX8_cycle 2 = .ok (.invokevirtual 218, 3) := by decide +kernel
theorem dX8_cycle_5 : decode cX8_cycle 5 = .ok (.ifCond .eq 7, 3) := by decide +kernel
theorem dX8_cycle_8 : decode cX8_cycle 8 = .ok (.iconst 0, 1) := by decide +kernel
theorem dX8_cycle_9 : decode cX8_cycle 9 = .ok (.goto 7, 3) := by decide +kernel
theorem dX8_cycle_12 : decode cX8_cycle 12 = .ok (.aload_n 0, 1) := by decide +kernel
theorem dX8_cycle_13 : decode cX8_cycle 13 = .ok (.getfield 201, 3) := by decide +kernel
theorem dX8_cycle_16 : decode cX8_cycle 16 = .ok (.ireturn, 1) := by decide +kernel
set_option maxRecDepth 20000 in
theorem ggX8_lead_X8_noWay : GoodIn wsX8_lead wsX8_noWay := goodIn_ca (goodIn_ca (goodIn_r _ [6, 7, 8, 9, 10, 11, 12, 13, 14, 15, 16, 17, 18, 19, 20, 21, 22, 23, 24, 5, 25, 26, 27, 28, 1, 29, 30, 31, 32, 33, 34, 35, 36, 37, 38, 39, 40, 41, 42, 43, 44, 45, 46, 47, 48, 49, 50, 51, 52, 53, 54, 55, 56, 57, 58, 59, 60, 61, 62, 63, 64, 65, 66, 67, 68, 69, 70, 71, 72, 73, 74, 75, 76, 77, 78, 79, 80, 81, 82, 83, 84, 85, 86, 87, 88, 89, 90, 91, 92, 93, 94, 95, 96, 97, 98, 99, 100, 101, 102, 103, 104, 105, 106, 107, 108, 109, 110, 111, 112, 113, 114, 115] (by decide +kernel) (by decide +kernel)) (goodIn_sub (fun _ h => List.mem_cons_of_mem _ (List.mem_append_left _ (List.mem_append_right _ h))) (by decide +kernel))) (goodIn_sub (fun _ h => List.mem_cons_of_mem _ (List.mem_append_right _ h)) (by decide +kernel))
set_option maxRecDepth 20000 in
theorem gX8_lead_X8_noWay : GoodIn wsX8_lead (wsV RX8 218 RX8 yX8_noWay wsX8_noWay) := goodIn_app (goodIn_of _ (by decide +kernel)) ggX8_lead_X8_noWay
theorem dX8_lead_0 : decode cX8_lead 0 = .ok (.aload_n 0, 1) := by decide +kernel
theorem dX8_lead_1 : decode cX8_lead 1 = .ok (.iconst 1, 1) := by decide +kernel
theorem dX8_lead_2 : decode cX8_lead 2 = .ok (.invokevirtual 218, 3) := by decide +kernel
theorem dX8_lead_5 : decode cX8_lead 5 = .ok (.ifCond .eq 7, 3) := by decide +kernel
theorem dX8_lead_8 : decode cX8_lead 8 = .ok (.iconst 0, 1) := by decide +kernel
theorem dX8_lead_9 : decode cX8_lead 9 = .ok (.goto 7, 3) := by decide +kernel
theorem dX8_lead_12 : decode cX8_lead 12 = .ok (.aload_n 0, 1) := by decide +kernel
theorem dX8_lead_13 : decode cX8_lead 13 = .ok (.getfield 208, 3) := by decide +kernel
theorem dX8_lead_16 : decode cX8_lead 16 = .ok (.ireturn, 1) := by decide +kernel
set_option maxRecDepth 20000 in
theorem ggX8_beats_X8_noBeater : GoodIn wsX8_beats wsX8_noBeater := goodIn_ca (goodIn_r _ [6, 7, 8, 9, 5, 10, 11, 12, 13, 14, 15, 16, 17, 18, 19, 20, 96, 97, 98, 99, 100, 101, 102, 103, 104, 105, 106, 107, 108, 109, 110, 111, 112, 113, 114, 115, 116, 117, 118, 119, 120, 121, 122, 123, 124] (by decide +kernel) (by decide +kernel)) (goodIn_sub (fun _ h => List.mem_cons_of_mem _ (List.mem_append_left _ (List.mem_append_right _ h))) (by decide +kernel))
set_option maxRecDepth 20000 in
theorem gX8_beats_X8_noBeater : GoodIn wsX8_beats (wsV RX8 121 RX8 yX8_noBeater wsX8_noBeater) := goodIn_app (goodIn_of _ (by decide +kernel)) ggX8_beats_X8_noBeater
set_option maxRecDepth 20000 in
theorem ggX8_beats_X8_noWay : GoodIn wsX8_beats wsX8_noWay := goodIn_ca (goodIn_ca (goodIn_r _ [24, 25, 7, 26, 20, 27, 28, 29, 30, 31, 32, 33, 34, 35, 36, 37, 38, 39, 40, 5, 41, 42, 43, 44, 45, 46, 47, 48, 49, 50, 51, 52, 53, 54, 55, 56, 57, 58, 59, 60, 61, 62, 63, 64, 65, 66, 67, 68, 69, 70, 71, 72, 73, 74, 75, 76, 77, 78, 79, 80, 81, 82, 83, 84, 85, 86, 87, 88, 89, 90, 91, 92, 93, 94, 1, 95, 96, 97, 98, 99, 100, 101, 102, 103, 104, 105, 106, 107, 108, 109, 110, 111, 112, 113, 114, 115, 116, 117, 118, 119, 120, 121, 122, 123, 124, 125, 126, 127, 128, 129, 130, 131] (by decide +kernel) (by decide +kernel)) (goodIn_sub (fun _ h => List.mem_cons_of_mem _ (List.mem_append_left _ (List.mem_append_right _ h))) (by decide +kernel))) (goodIn_sub (fun _ h => List.mem_cons_of_mem _ (List.mem_append_right _ h)) (by decide +kernel))
set_option maxRecDepth 20000 in
theorem gX8_beats_X8_noWay : GoodIn wsX8_beats (wsV RX8 218 RX8 yX8_noWay wsX8_noWay) := goodIn_app (goodIn_of _ (by decide +kernel)) ggX8_beats_X8_noWay
theorem dX8_beats_0 : decode cX8_beats 0 = .ok (.aload_n 0, 1) := by decide +kernel
theorem dX8_beats_1 : decode cX8_beats 1 = .ok (.iload_n 1, 1) := by decide +kernel
theorem dX8_beats_2 : decode cX8_beats 2 = .ok (.invokevirtual 121, 3) := by decide +kernel
theorem dX8_beats_5 : decode cX8_beats 5 = .ok (.ifCond .ne 11, 3) := by decide +kernel
theorem dX8_beats_8 : decode cX8_beats 8 = .ok (.aload_n 0, 1) := by decide +kernel
theorem dX8_beats_9 : decode cX8_beats 9 = .ok (.iconst 3, 1) := by decide +kernel
theorem dX8_beats_10 : decode cX8_beats 10 = .ok (.invokevirtual 218, 3) := by decide +kernel
theorem dX8_beats_13 : decode cX8_beats 13 = .ok (.ifCond .eq 7, 3) := by decide +kernel
theorem dX8_beats_16 : decode cX8_beats 16 = .ok (.iconst 0, 1) := by decide +kernel
theorem dX8_beats_17 : decode cX8_beats 17 = .ok (.goto 9, 3) := by decide +kernel
theorem dX8_beats_20 : decode cX8_beats 20 = .ok (.aload_n 0, 1) := by decide +kernel
theorem dX8_beats_21 : decode cX8_beats 21 = .ok (.getfield 50, 3) := by decide +kernel
theorem dX8_beats_24 : decode cX8_beats 24 = .ok (.iload_n 1, 1) := by decide +kernel
theorem dX8_beats_25 : decode cX8_beats 25 = .ok (.iaload, 1) := by decide +kernel
theorem dX8_beats_26 : decode cX8_beats 26 = .ok (.ireturn, 1) := by decide +kernel
set_option maxRecDepth 20000 in
theorem ggX8_inStep_X8_isPlace : GoodIn wsX8_inStep wsX8_isPlace := goodIn_r _ [6, 7, 8, 9, 5, 10] (by decide +kernel) (by decide +kernel)
set_option maxRecDepth 20000 in
theorem gX8_inStep_X8_isPlace : GoodIn wsX8_inStep (va_wsS RX8 95 yX8_isPlace wsX8_isPlace) := goodIn_app (goodIn_of _ (by decide +kernel)) ggX8_inStep_X8_isPlace
set_option maxRecDepth 20000 in
theorem ggX8_inStep_X8_isBeater : GoodIn wsX8_inStep wsX8_isBeater := goodIn_ca (goodIn_r _ [14, 15, 16, 8, 9, 5, 10, 92, 93, 94, 95, 96, 97, 98, 99, 100, 101, 102, 103, 104, 105, 106, 107, 108, 109, 110, 111, 112, 113, 114, 115, 116, 117, 118, 119, 120] (by decide +kernel) (by decide +kernel)) (goodIn_sub (fun _ h => List.mem_cons_of_mem _ (List.mem_append_left _ (List.mem_append_right _ h))) (by decide +kernel))
set_option maxRecDepth 20000 in
theorem gX8_inStep_X8_isBeater : GoodIn wsX8_inStep (wsV RX8 118 RX8 yX8_isBeater wsX8_isBeater) := goodIn_app (goodIn_of _ (by decide +kernel)) ggX8_inStep_X8_isBeater
set_option maxRecDepth 20000 in
theorem ggX8_inStep_X8_noWay : GoodIn wsX8_inStep wsX8_noWay := goodIn_ca (goodIn_ca (goodIn_r _ [20, 21, 1, 22, 16, 23, 24, 25, 26, 27, 28, 29, 30, 31, 32, 33, 34, 35, 36, 5, 37, 38, 39, 40, 41, 42, 43, 44, 45, 46, 47, 48, 49, 50, 51, 52, 53, 54, 55, 56, 57, 58, 59, 60, 61, 62, 63, 64, 65, 66, 67, 68, 69, 70, 71, 72, 73, 74, 75, 76, 77, 78, 79, 80, 81, 82, 83, 84, 85, 86, 87, 88, 89, 90, 91, 2, 92, 93, 94, 95, 96, 97, 98, 99, 100, 101, 102, 103, 104, 105, 106, 107, 108, 109, 110, 111, 112, 113, 114, 115, 116, 117, 118, 119, 120, 121, 122, 123, 124, 125, 126, 127] (by decide +kernel) (by decide +kernel)) (goodIn_sub (fun _ h => List.mem_cons_of_mem _ (List.mem_append_left _ (List.mem_append_right _ h))) (by decide +kernel))) (goodIn_sub (fun _ h => List.mem_cons_of_mem _ (List.mem_append_right _ h)) (by decide +kernel))
set_option maxRecDepth 20000 in
theorem gX8_inStep_X8_noWay : GoodIn wsX8_inStep (wsV RX8 218 RX8 yX8_noWay wsX8_noWay) := goodIn_app (goodIn_of _ (by decide +kernel)) ggX8_inStep_X8_noWay
theorem dX8_inStep_0 : decode cX8_inStep 0 = .ok (.aload_n 0, 1) := by decide +kernel
theorem dX8_inStep_1 : decode cX8_inStep 1 = .ok (.iload_n 1, 1) := by decide +kernel
theorem dX8_inStep_2 : decode cX8_inStep 2 = .ok (.invokestatic 95, 3) := by decide +kernel
theorem dX8_inStep_5 : decode cX8_inStep 5 = .ok (.ifCond .eq 10, 3) := by decide +kernel
theorem dX8_inStep_8 : decode cX8_inStep 8 = .ok (.iload_n 2, 1) := by decide +kernel
theorem dX8_inStep_9 : decode cX8_inStep 9 = .ok (.invokestatic 95, 3) := by decide +kernel
theorem dX8_inStep_12 : decode cX8_inStep 12 = .ok (.ifCond .ne 7, 3) := by decide +kernel
theorem dX8_inStep_15 : decode cX8_inStep 15 = .ok (.iconst 1, 1) := by decide +kernel
theorem dX8_inStep_16 : decode cX8_inStep 16 = .ok (.goto 24, 3) := by decide +kernel
theorem dX8_inStep_19 : decode cX8_inStep 19 = .ok (.aload_n 0, 1) := by decide +kernel
theorem dX8_inStep_20 : decode cX8_inStep 20 = .ok (.iload_n 1, 1) := by decide +kernel
theorem dX8_inStep_21 : decode cX8_inStep 21 = .ok (.invokevirtual 118, 3) := by decide +kernel
theorem dX8_inStep_24 : decode cX8_inStep 24 = .ok (.ifCond .eq 11, 3) := by decide +kernel
theorem dX8_inStep_27 : decode cX8_inStep 27 = .ok (.aload_n 0, 1) := by decide +kernel
theorem dX8_inStep_28 : decode cX8_inStep 28 = .ok (.iload_n 2, 1) := by decide +kernel
theorem dX8_inStep_29 : decode cX8_inStep 29 = .ok (.invokevirtual 118, 3) := by decide +kernel
theorem dX8_inStep_32 : decode cX8_inStep 32 = .ok (.ifCond .ne 7, 3) := by decide +kernel
theorem dX8_inStep_35 : decode cX8_inStep 35 = .ok (.iconst 2, 1) := by decide +kernel
theorem dX8_inStep_36 : decode cX8_inStep 36 = .ok (.goto 4, 3) := by decide +kernel
theorem dX8_inStep_39 : decode cX8_inStep 39 = .ok (.iconst 0, 1) := by decide +kernel
theorem dX8_inStep_40 : decode cX8_inStep 40 = .ok (.putfield 76, 3) := by decide +kernel
theorem dX8_inStep_43 : decode cX8_inStep 43 = .ok (.aload_n 0, 1) := by decide +kernel
theorem dX8_inStep_44 : decode cX8_inStep 44 = .ok (.getfield 76, 3) := by decide +kernel
theorem dX8_inStep_47 : decode cX8_inStep 47 = .ok (.ifCond .ne 26, 3) := by decide +kernel
theorem dX8_inStep_50 : decode cX8_inStep 50 = .ok (.aload_n 0, 1) := by decide +kernel
theorem dX8_inStep_51 : decode cX8_inStep 51 = .ok (.iconst 3, 1) := by decide +kernel
theorem dX8_inStep_52 : decode cX8_inStep 52 = .ok (.invokevirtual 218, 3) := by decide +kernel
theorem dX8_inStep_55 : decode cX8_inStep 55 = .ok (.ifCond .ne 18, 3) := by decide +kernel
theorem dX8_inStep_58 : decode cX8_inStep 58 = .ok (.aload_n 0, 1) := by decide +kernel
theorem dX8_inStep_59 : decode cX8_inStep 59 = .ok (.getfield 55, 3) := by decide +kernel
theorem dX8_inStep_62 : decode cX8_inStep 62 = .ok (.iload_n 1, 1) := by decide +kernel
theorem dX8_inStep_63 : decode cX8_inStep 63 = .ok (.aaload, 1) := by decide +kernel
theorem dX8_inStep_64 : decode cX8_inStep 64 = .ok (.iload_n 2, 1) := by decide +kernel
theorem dX8_inStep_65 : decode cX8_inStep 65 = .ok (.baload, 1) := by decide +kernel
theorem dX8_inStep_66 : decode cX8_inStep 66 = .ok (.ifCond .ne 7, 3) := by decide +kernel
theorem dX8_inStep_69 : decode cX8_inStep 69 = .ok (.iconst 1, 1) := by decide +kernel
theorem dX8_inStep_70 : decode cX8_inStep 70 = .ok (.goto 4, 3) := by decide +kernel
theorem dX8_inStep_73 : decode cX8_inStep 73 = .ok (.iconst 0, 1) := by decide +kernel
theorem dX8_inStep_74 : decode cX8_inStep 74 = .ok (.ireturn, 1) := by decide +kernel
theorem dX8_firstWith_0 : decode cX8_firstWith 0 = .ok (.iconst 0, 1) := by decide +kernel
theorem dX8_firstWith_1 : decode cX8_firstWith 1 = .ok (.istore_n 2, 1) := by decide +kernel
theorem dX8_firstWith_2 : decode cX8_firstWith 2 = .ok (.aload_n 0, 1) := by decide +kernel
theorem dX8_firstWith_3 : decode cX8_firstWith 3 = .ok (.getfield 26, 3) := by decide +kernel
theorem dX8_firstWith_6 : decode cX8_firstWith 6 = .ok (.getfield 99, 3) := by decide +kernel
theorem dX8_firstWith_9 : decode cX8_firstWith 9 = .ok (.iload_n 2, 1) := by decide +kernel
theorem dX8_firstWith_10 : decode cX8_firstWith 10 = .ok (.baload, 1) := by decide +kernel
theorem dX8_firstWith_11 : decode cX8_firstWith 11 = .ok (.ifCond .eq 14, 3) := by decide +kernel
theorem dX8_firstWith_14 : decode cX8_firstWith 14 = .ok (.aload_n 0, 1) := by decide +kernel
theorem dX8_firstWith_15 : decode cX8_firstWith 15 = .ok (.getfield 55, 3) := by decide +kernel
theorem dX8_firstWith_18 : decode cX8_firstWith 18 = .ok (.iload_n 2, 1) := by decide +kernel
theorem dX8_firstWith_19 : decode cX8_firstWith 19 = .ok (.aaload, 1) := by decide +kernel
theorem dX8_firstWith_20 : decode cX8_firstWith 20 = .ok (.iload_n 1, 1) := by decide +kernel
theorem dX8_firstWith_21 : decode cX8_firstWith 21 = .ok (.baload, 1) := by decide +kernel
theorem dX8_firstWith_22 : decode cX8_firstWith 22 = .ok (.ifCond .eq 9, 3) := by decide +kernel
theorem dX8_firstWith_25 : decode cX8_firstWith 25 = .ok (.iinc 2 1, 3) := by decide +kernel
theorem dX8_firstWith_28 : decode cX8_firstWith 28 = .ok (.goto (-26), 3) := by decide +kernel
theorem dX8_firstWith_31 : decode cX8_firstWith 31 = .ok (.iload_n 2, 1) := by decide +kernel
theorem dX8_firstWith_32 : decode cX8_firstWith 32 = .ok (.ireturn, 1) := by decide +kernel
set_option maxRecDepth 20000 in
theorem ggX8_groupsUpTo_X8_firstWith : GoodIn wsX8_groupsUpTo wsX8_firstWith := goodIn_ca (goodIn_r _ [6, 1, 7, 8, 9, 10, 11, 12, 13, 14, 15, 16, 17, 18, 19, 20, 21, 22, 23, 24, 25, 26, 27, 28, 29, 30, 31, 32, 33, 34, 35, 36] (by decide +kernel) (by decide +kernel)) (goodIn_sub (fun _ h => List.mem_cons_of_mem _ (List.mem_append_right _ h)) (by decide +kernel))
set_option maxRecDepth 20000 in
theorem gX8_groupsUpTo_X8_firstWith : GoodIn wsX8_groupsUpTo (wsV RX8 221 RX8 yX8_firstWith wsX8_firstWith) := goodIn_app (goodIn_of _ (by decide +kernel)) ggX8_groupsUpTo_X8_firstWith
theorem dX8_groupsUpTo_0 : decode cX8_groupsUpTo 0 = .ok (.iconst 0, 1) := by decide +kernel
theorem dX8_groupsUpTo_1 : decode cX8_groupsUpTo 1 = .ok (.istore_n 2, 1) := by decide +kernel
theorem dX8_groupsUpTo_2 : decode cX8_groupsUpTo 2 = .ok (.iconst 0, 1) := by decide +kernel
theorem dX8_groupsUpTo_3 : decode cX8_groupsUpTo 3 = .ok (.istore_n 3, 1) := by decide +kernel
theorem dX8_groupsUpTo_4 : decode cX8_groupsUpTo 4 = .ok (.iload_n 3, 1) := by decide +kernel
theorem dX8_groupsUpTo_5 : decode cX8_groupsUpTo 5 = .ok (.iload_n 1, 1) := by decide +kernel
theorem dX8_groupsUpTo_6 : decode cX8_groupsUpTo 6 = .ok (.if_icmp .gt 38, 3) := by decide +kernel
theorem dX8_groupsUpTo_9 : decode cX8_groupsUpTo 9 = .ok (.iload_n 2, 1) := by decide +kernel
theorem dX8_groupsUpTo_10 : decode cX8_groupsUpTo 10 = .ok (.aload_n 0, 1) := by decide +kernel
theorem dX8_groupsUpTo_11 : decode cX8_groupsUpTo 11 = .ok (.getfield 26, 3) := by decide +kernel
theorem dX8_groupsUpTo_14 : decode cX8_groupsUpTo 14 = .ok (.getfield 99, 3) := by decide +kernel
theorem dX8_groupsUpTo_17 : decode cX8_groupsUpTo 17 = .ok (.iload_n 3, 1) := by decide +kernel
theorem dX8_groupsUpTo_18 : decode cX8_groupsUpTo 18 = .ok (.baload, 1) := by decide +kernel
theorem dX8_groupsUpTo_19 : decode cX8_groupsUpTo 19 = .ok (.ifCond .eq 16, 3) := by decide +kernel
theorem dX8_groupsUpTo_22 : decode cX8_groupsUpTo 22 = .ok (.aload_n 0, 1) := by decide +kernel
theorem dX8_groupsUpTo_23 : decode cX8_groupsUpTo 23 = .ok (.iload_n 3, 1) := by decide +kernel
theorem dX8_groupsUpTo_24 : decode cX8_groupsUpTo 24 = .ok (.invokevirtual 221, 3) := by decide +kernel
theorem dX8_groupsUpTo_27 : decode cX8_groupsUpTo 27 = .ok (.iload_n 3, 1) := by decide +kernel
theorem dX8_groupsUpTo_28 : decode cX8_groupsUpTo 28 = .ok (.if_icmp .ne 7, 3) := by decide +kernel
theorem dX8_groupsUpTo_31 : decode cX8_groupsUpTo 31 = .ok (.iconst 1, 1) := by decide +kernel
theorem dX8_groupsUpTo_32 : decode cX8_groupsUpTo 32 = .ok (.goto 4, 3) := by decide +kernel
theorem dX8_groupsUpTo_35 : decode cX8_groupsUpTo 35 = .ok (.iconst 0, 1) := by decide +kernel
theorem dX8_groupsUpTo_36 : decode cX8_groupsUpTo 36 = .ok (.iadd, 1) := by decide +kernel
theorem dX8_groupsUpTo_37 : decode cX8_groupsUpTo 37 = .ok (.istore_n 2, 1) := by decide +kernel
theorem dX8_groupsUpTo_38 : decode cX8_groupsUpTo 38 = .ok (.iinc 3 1, 3) := by decide +kernel
theorem dX8_groupsUpTo_41 : decode cX8_groupsUpTo 41 = .ok (.goto (-37), 3) := by decide +kernel
theorem dX8_groupsUpTo_44 : decode cX8_groupsUpTo 44 = .ok (.iload_n 2, 1) := by decide +kernel
theorem dX8_groupsUpTo_45 : decode cX8_groupsUpTo 45 = .ok (.ireturn, 1) := by decide +kernel
set_option maxRecDepth 20000 in
theorem ggX8_groups_X8_noWay : GoodIn wsX8_groups wsX8_noWay := goodIn_ca (goodIn_ca (goodIn_r _ [5, 6, 7, 8, 9, 10, 11, 12, 13, 14, 15, 16, 17, 18, 19, 20, 21, 22, 23, 4, 24, 25, 26, 27, 28, 29, 30, 31, 32, 33, 34, 35, 36, 37, 38, 39, 40, 41, 42, 43, 44, 45, 46, 47, 48, 49, 50, 51, 52, 53, 54, 55, 56, 57, 58, 59, 60, 61, 62, 63, 64, 65, 66, 67, 68, 69, 70, 71, 72, 73, 74, 75, 76, 77, 78, 79, 88, 89, 90, 91, 92, 93, 94, 95, 96, 97, 98, 99, 100, 101, 102, 103, 104, 105, 106, 107, 108, 109, 110, 111, 112, 113, 114, 115, 116, 117, 118, 119, 120, 121, 122, 123] (by decide +kernel) (by decide +kernel)) (goodIn_sub (fun _ h => List.mem_cons_of_mem _ (List.mem_append_left _ (List.mem_append_right _ h))) (by decide +kernel))) (goodIn_sub (fun _ h => List.mem_cons_of_mem _ (List.mem_append_right _ h)) (by decide +kernel))
set_option maxRecDepth 20000 in
theorem gX8_groups_X8_noWay : GoodIn wsX8_groups (wsV RX8 218 RX8 yX8_noWay wsX8_noWay) := goodIn_app (goodIn_of _ (by decide +kernel)) ggX8_groups_X8_noWay
set_option maxRecDepth 20000 in
theorem ggX8_groups_X8_groupsUpTo : GoodIn wsX8_groups wsX8_groupsUpTo := goodIn_ca (goodIn_r _ [83, 9, 84, 85, 86, 4, 87, 79, 88, 89, 90, 91, 92, 93, 94, 95, 96, 97, 98, 99, 100, 101, 102, 103, 104, 105, 106, 107, 108, 109, 110, 111, 112, 113, 114, 115, 116] (by decide +kernel) (by decide +kernel)) (goodIn_sub (fun _ h => List.mem_cons_of_mem _ (List.mem_append_left _ (List.mem_append_right _ h))) (by decide +kernel))
set_option maxRecDepth 20000 in
theorem gX8_groups_X8_groupsUpTo : GoodIn wsX8_groups (wsV RX8 224 RX8 yX8_groupsUpTo wsX8_groupsUpTo) := goodIn_app (goodIn_of _ (by decide +kernel)) ggX8_groups_X8_groupsUpTo
theorem dX8_groups_0 : decode cX8_groups 0 = .ok (.aload_n 0, 1) := by decide +kernel
theorem dX8_groups_1 : decode cX8_groups 1 = .ok (.iconst 1, 1) := by decide +kernel
theorem dX8_groups_2 : decode cX8_groups 2 = .ok (.invokevirtual 218, 3) := by decide +kernel
theorem dX8_groups_5 : decode cX8_groups 5 = .ok (.ifCond .eq 7, 3) := by decide +kernel
theorem dX8_groups_8 : decode cX8_groups 8 = .ok (.iconst 0, 1) := by decide +kernel
theorem dX8_groups_9 : decode cX8_groups 9 = .ok (.goto 9, 3) := by decide +kernel
theorem dX8_groups_12 : decode cX8_groups 12 = .ok (.aload_n 0, 1) := by decide +kernel
theorem dX8_groups_13 : decode cX8_groups 13 = .ok (.bipush 15, 2) := by decide +kernel
theorem dX8_groups_15 : decode cX8_groups 15 = .ok (.invokevirtual 224, 3) := by decide +kernel
theorem dX8_groups_18 : decode cX8_groups 18 = .ok (.ireturn, 1) := by decide +kernel
set_option maxRecDepth 20000 in
theorem ggX8_groupOf_X8_noBeater : GoodIn wsX8_groupOf wsX8_noBeater := goodIn_ca (goodIn_r _ [5, 6, 7, 8, 4, 9, 10, 11, 12, 13, 14, 15, 16, 17, 18, 19, 104, 105, 106, 107, 108, 109, 110, 111, 112, 113, 114, 115, 116, 117, 118, 119, 120, 121, 122, 123, 124, 125, 126, 127, 128, 129, 130, 131, 132] (by decide +kernel) (by decide +kernel)) (goodIn_sub (fun _ h => List.mem_cons_of_mem _ (List.mem_append_left _ (List.mem_append_right _ h))) (by decide +kernel))
set_option maxRecDepth 20000 in
theorem gX8_groupOf_X8_noBeater : GoodIn wsX8_groupOf (wsV RX8 121 RX8 yX8_noBeater wsX8_noBeater) := goodIn_app (goodIn_of _ (by decide +kernel)) ggX8_groupOf_X8_noBeater
set_option maxRecDepth 20000 in
theorem ggX8_groupOf_X8_noWay : GoodIn wsX8_groupOf wsX8_noWay := goodIn_ca (goodIn_ca (goodIn_r _ [23, 24, 6, 25, 19, 26, 27, 28, 29, 30, 31, 32, 33, 34, 35, 36, 37, 38, 39, 4, 40, 41, 42, 43, 44, 45, 46, 47, 48, 49, 50, 51, 52, 53, 54, 55, 56, 57, 58, 59, 60, 61, 62, 63, 64, 65, 66, 67, 68, 69, 70, 71, 72, 73, 74, 75, 76, 77, 78, 79, 80, 81, 82, 83, 84, 85, 86, 87, 88, 89, 90, 91, 92, 93, 94, 95, 104, 105, 106, 107, 108, 109, 110, 111, 112, 113, 114, 115, 116, 117, 118, 119, 120, 121, 122, 123, 124, 125, 126, 127, 128, 129, 130, 131, 132, 133, 134, 135, 136, 137, 138, 139] (by decide +kernel) (by decide +kernel)) (goodIn_sub (fun _ h => List.mem_cons_of_mem _ (List.mem_append_left _ (List.mem_append_right _ h))) (by decide +kernel))) (goodIn_sub (fun _ h => List.mem_cons_of_mem _ (List.mem_append_right _ h)) (by decide +kernel))
set_option maxRecDepth 20000 in
theorem gX8_groupOf_X8_noWay : GoodIn wsX8_groupOf (wsV RX8 218 RX8 yX8_noWay wsX8_noWay) := goodIn_app (goodIn_of _ (by decide +kernel)) ggX8_groupOf_X8_noWay
set_option maxRecDepth 20000 in
theorem ggX8_groupOf_X8_firstWith : GoodIn wsX8_groupOf wsX8_firstWith := goodIn_ca (goodIn_r _ [99, 19, 95, 104, 105, 106, 107, 108, 109, 110, 111, 112, 113, 114, 115, 116, 117, 118, 119, 120, 121, 122, 123, 124, 125, 126, 127, 128, 129, 130, 131, 132] (by decide +kernel) (by decide +kernel)) (goodIn_sub (fun _ h => List.mem_cons_of_mem _ (List.mem_append_left _ (List.mem_append_right _ h))) (by decide +kernel))
set_option maxRecDepth 20000 in
theorem gX8_groupOf_X8_firstWith : GoodIn wsX8_groupOf (wsV RX8 221 RX8 yX8_firstWith wsX8_firstWith) := goodIn_app (goodIn_of _ (by decide +kernel)) ggX8_groupOf_X8_firstWith
set_option maxRecDepth 20000 in
theorem ggX8_groupOf_X8_groupsUpTo : GoodIn wsX8_groupOf wsX8_groupsUpTo := goodIn_ca (goodIn_r _ [103, 19, 96, 97, 98, 4, 99, 95, 104, 105, 106, 107, 108, 109, 110, 111, 112, 113, 114, 115, 116, 117, 118, 119, 120, 121, 122, 123, 124, 125, 126, 127, 128, 129, 130, 131, 132] (by decide +kernel) (by decide +kernel)) (goodIn_sub (fun _ h => List.mem_cons_of_mem _ (List.mem_append_left _ (List.mem_append_right _ h))) (by decide +kernel))
set_option maxRecDepth 20000 in
theorem gX8_groupOf_X8_groupsUpTo : GoodIn wsX8_groupOf (wsV RX8 224 RX8 yX8_groupsUpTo wsX8_groupsUpTo) := goodIn_app (goodIn_of _ (by decide +kernel)) ggX8_groupOf_X8_groupsUpTo
theorem dX8_groupOf_0 : decode cX8_groupOf 0 = .ok (.aload_n 0, 1) := by decide +kernel
theorem dX8_groupOf_1 : decode cX8_groupOf 1 = .ok (.iload_n 1, 1) := by decide +kernel
theorem dX8_groupOf_2 : decode cX8_groupOf 2 = .ok (.invokevirtual 121, 3) := by decide +kernel
theorem dX8_groupOf_5 : decode cX8_groupOf 5 = .ok (.ifCond .ne 11, 3) := by decide +kernel
theorem dX8_groupOf_8 : decode cX8_groupOf 8 = .ok (.aload_n 0, 1) := by decide +kernel
theorem dX8_groupOf_9 : decode cX8_groupOf 9 = .ok (.iconst 3, 1) := by decide +kernel
theorem dX8_groupOf_10 : decode cX8_groupOf 10 = .ok (.invokevirtual 218, 3) := by decide +kernel
theorem dX8_groupOf_13 : decode cX8_groupOf 13 = .ok (.ifCond .eq 7, 3) := by decide +kernel
theorem dX8_groupOf_16 : decode cX8_groupOf 16 = .ok (.iconst 0, 1) := by decide +kernel
theorem dX8_groupOf_17 : decode cX8_groupOf 17 = .ok (.goto 14, 3) := by decide +kernel
theorem dX8_groupOf_20 : decode cX8_groupOf 20 = .ok (.aload_n 0, 1) := by decide +kernel
theorem dX8_groupOf_21 : decode cX8_groupOf 21 = .ok (.aload_n 0, 1) := by decide +kernel
theorem dX8_groupOf_22 : decode cX8_groupOf 22 = .ok (.iload_n 1, 1) := by decide +kernel
theorem dX8_groupOf_23 : decode cX8_groupOf 23 = .ok (.invokevirtual 221, 3) := by decide +kernel
theorem dX8_groupOf_26 : decode cX8_groupOf 26 = .ok (.invokevirtual 224, 3) := by decide +kernel
theorem dX8_groupOf_29 : decode cX8_groupOf 29 = .ok (.iconst 1, 1) := by decide +kernel
theorem dX8_groupOf_30 : decode cX8_groupOf 30 = .ok (.isub, 1) := by decide +kernel
theorem dX8_groupOf_31 : decode cX8_groupOf 31 = .ok (.ireturn, 1) := by decide +kernel
set_option maxRecDepth 20000 in
theorem ggX8_islands_X8_noWay : GoodIn wsX8_islands wsX8_noWay := goodIn_ca (goodIn_ca (goodIn_r _ [11, 12, 13, 14, 15, 16, 17, 18, 19, 20, 21, 22, 23, 24, 25, 26, 27, 28, 29, 10, 30, 31, 32, 33, 34, 35, 36, 37, 38, 39, 40, 41, 4, 5, 6, 42, 43, 44, 45, 46, 47, 48, 49, 50, 51, 52, 53, 54, 55, 56, 57, 58, 59, 60, 61, 62, 63, 64, 65, 66, 67, 68, 69, 70, 71, 72, 73, 74, 75, 76, 77, 78, 79, 80, 81, 1, 180, 181, 182, 183, 184, 185, 186, 187, 188, 189, 190, 191, 192, 193, 194, 195, 196, 197, 198, 199, 200, 201, 202, 203, 204, 205, 206, 207, 208, 209, 210, 211, 212, 213, 214, 215] (by decide +kernel) (by decide +kernel)) (goodIn_sub (fun _ h => List.mem_cons_of_mem _ (List.mem_append_right _ h)) (by decide +kernel))) (goodIn_sub (fun _ h => List.mem_cons_of_mem _ (List.mem_append_left _ (List.mem_append_right _ h))) (by decide +kernel))
set_option maxRecDepth 20000 in
theorem gX8_islands_X8_noWay : GoodIn wsX8_islands (wsV RX8 218 RX8 yX8_noWay wsX8_noWay) := goodIn_app (goodIn_of _ (by decide +kernel)) ggX8_islands_X8_noWay
set_option maxRecDepth 20000 in
theorem ggX8_islands_X8_beaters : GoodIn wsX8_islands wsX8_beaters := goodIn_ca (goodIn_r _ [85, 86, 87, 53, 15, 88, 89, 90, 91, 72, 92, 93, 94, 95, 96, 97, 98, 99, 100, 101, 102, 103, 104, 105, 106, 107, 108, 109, 110, 111, 112, 113, 114, 115, 116, 117, 118, 119, 120, 121, 122, 123, 124, 125, 126, 55, 127, 128, 129, 130, 131, 132, 133, 134, 135, 136, 137, 138, 139, 4, 5, 6, 140, 141, 142, 143, 144, 145, 146, 147, 148, 149, 150, 151, 152, 153, 154, 155, 156, 157, 158, 159, 160, 161, 162, 163, 164, 165, 166, 167, 168, 169, 213, 214, 215, 180, 181, 182, 183, 184, 185, 186, 187, 188, 189, 190, 191, 192, 193, 194, 195, 196, 197, 198, 199, 200, 201, 202, 203, 204, 205, 206, 207, 208, 216] (by decide +kernel) (by decide +kernel)) (goodIn_sub (fun _ h => List.mem_cons_of_mem _ (List.mem_append_right _ h)) (by decide +kernel))
set_option maxRecDepth 20000 in
theorem gX8_islands_X8_beaters : GoodIn wsX8_islands (wsV RX8 163 RX8 yX8_beaters wsX8_beaters) := goodIn_app (goodIn_of _ (by decide +kernel)) ggX8_islands_X8_beaters
set_option maxRecDepth 20000 in
theorem ggX8_islands_Jx4a65c_size_8abf5 : GoodIn wsX8_islands wsJx4a65c_size_8abf5 := goodIn_r _ [54, 55, 213, 214, 215] (by decide +kernel) (by decide +kernel)
set_option maxRecDepth 20000 in
theorem gX8_islands_Jx4a65c_size_8abf5 : GoodIn wsX8_islands (wsV RX8 140 RJx4a65c yJx4a65c_size_8abf5 wsJx4a65c_size_8abf5) := goodIn_app (goodIn_of _ (by decide +kernel)) ggX8_islands_Jx4a65c_size_8abf5
set_option maxRecDepth 20000 in
theorem ggX8_islands_Jx4a65c_get_915e3 : GoodIn wsX8_islands wsJx4a65c_get_915e3 := goodIn_r _ [59, 55, 60, 61, 62, 63, 64, 65, 66, 67, 68, 69, 70, 53, 71, 72, 213, 214, 215] (by decide +kernel) (by decide +kernel)
set_option maxRecDepth 20000 in
theorem gX8_islands_Jx4a65c_get_915e3 : GoodIn wsX8_islands (wsV RX8 170 RJx4a65c yJx4a65c_get_915e3 wsJx4a65c_get_915e3) := goodIn_app (goodIn_of _ (by decide +kernel)) ggX8_islands_Jx4a65c_get_915e3
set_option maxRecDepth 20000 in
theorem ggX8_islands_J6_intValue_8abf5 : GoodIn wsX8_islands wsJ6_intValue_8abf5 := goodIn_r _ [175, 115, 216] (by decide +kernel) (by decide +kernel)
set_option maxRecDepth 20000 in
theorem gX8_islands_J6_intValue_8abf5 : GoodIn wsX8_islands (wsV RX8 173 RJ6 yJ6_intValue_8abf5 wsJ6_intValue_8abf5) := goodIn_app (goodIn_of _ (by decide +kernel)) ggX8_islands_J6_intValue_8abf5
set_option maxRecDepth 20000 in
theorem ggX8_islands_Jx4a65c_isEmpty_aae02 : GoodIn wsX8_islands wsJx4a65c_isEmpty_aae02 := goodIn_r _ [179, 55, 213, 214, 215] (by decide +kernel) (by decide +kernel)
set_option maxRecDepth 20000 in
theorem gX8_islands_Jx4a65c_isEmpty_aae02 : GoodIn wsX8_islands (wsV RX8 227 RJx4a65c yJx4a65c_isEmpty_aae02 wsJx4a65c_isEmpty_aae02) := goodIn_app (goodIn_of _ (by decide +kernel)) ggX8_islands_Jx4a65c_isEmpty_aae02
theorem dX8_islands_0 : decode cX8_islands 0 = .ok (.aload_n 0, 1) := by decide +kernel
theorem dX8_islands_1 : decode cX8_islands 1 = .ok (.iconst 1, 1) := by decide +kernel
theorem dX8_islands_2 : decode cX8_islands 2 = .ok (.invokevirtual 218, 3) := by decide +kernel
theorem dX8_islands_5 : decode cX8_islands 5 = .ok (.ifCond .eq 5, 3) := by decide +kernel
theorem dX8_islands_8 : decode cX8_islands 8 = .ok (.iconst 0, 1) := by decide +kernel
theorem dX8_islands_9 : decode cX8_islands 9 = .ok (.ireturn, 1) := by decide +kernel
theorem dX8_islands_10 : decode cX8_islands 10 = .ok (.aload_n 0, 1) := by decide +kernel
theorem dX8_islands_11 : decode cX8_islands 11 = .ok (.invokevirtual 163, 3) := by decide +kernel
theorem dX8_islands_14 : decode cX8_islands 14 = .ok (.astore_n 1, 1) := by decide +kernel
theorem dX8_islands_15 : decode cX8_islands 15 = .ok (.iconst 0, 1) := by decide +kernel
theorem dX8_islands_16 : decode cX8_islands 16 = .ok (.istore_n 2, 1) := by decide +kernel
theorem dX8_islands_17 : decode cX8_islands 17 = .ok (.iconst 0, 1) := by decide +kernel
theorem dX8_islands_18 : decode cX8_islands 18 = .ok (.istore_n 3, 1) := by decide +kernel
theorem dX8_islands_19 : decode cX8_islands 19 = .ok (.iload_n 3, 1) := by decide +kernel
theorem dX8_islands_20 : decode cX8_islands 20 = .ok (.aload_n 1, 1) := by decide +kernel
theorem dX8_islands_21 : decode cX8_islands 21 = .ok (.invokevirtual 140, 3) := by decide +kernel
theorem dX8_islands_24 : decode cX8_islands 24 = .ok (.if_icmp .ge 55, 3) := by decide +kernel
theorem dX8_islands_27 : decode cX8_islands 27 = .ok (.iload_n 2, 1) := by decide +kernel
theorem dX8_islands_28 : decode cX8_islands 28 = .ok (.aload_n 0, 1) := by decide +kernel
theorem dX8_islands_29 : decode cX8_islands 29 = .ok (.getfield 55, 3) := by decide +kernel
theorem dX8_islands_32 : decode cX8_islands 32 = .ok (.aload_n 1, 1) := by decide +kernel
theorem dX8_islands_33 : decode cX8_islands 33 = .ok (.iload_n 3, 1) := by decide +kernel
theorem dX8_islands_34 : decode cX8_islands 34 = .ok (.invokevirtual 170, 3) := by decide +kernel
theorem dX8_islands_37 : decode cX8_islands 37 = .ok (.checkcast 158, 3) := by decide +kernel
theorem dX8_islands_40 : decode cX8_islands 40 = .ok (.invokevirtual 173, 3) := by decide +kernel
theorem dX8_islands_43 : decode cX8_islands 43 = .ok (.aaload, 1) := by decide +kernel
theorem dX8_islands_44 : decode cX8_islands 44 = .ok (.aload_n 1, 1) := by decide +kernel
theorem dX8_islands_45 : decode cX8_islands 45 = .ok (.iload_n 3, 1) := by decide +kernel
theorem dX8_islands_46 : decode cX8_islands 46 = .ok (.iconst 1, 1) := by decide +kernel
theorem dX8_islands_47 : decode cX8_islands 47 = .ok (.iadd, 1) := by decide +kernel
theorem dX8_islands_48 : decode cX8_islands 48 = .ok (.aload_n 1, 1) := by decide +kernel
theorem dX8_islands_49 : decode cX8_islands 49 = .ok (.invokevirtual 140, 3) := by decide +kernel
theorem dX8_islands_52 : decode cX8_islands 52 = .ok (.irem, 1) := by decide +kernel
theorem dX8_islands_53 : decode cX8_islands 53 = .ok (.invokevirtual 170, 3) := by decide +kernel
theorem dX8_islands_56 : decode cX8_islands 56 = .ok (.checkcast 158, 3) := by decide +kernel
theorem dX8_islands_59 : decode cX8_islands 59 = .ok (.invokevirtual 173, 3) := by decide +kernel
theorem dX8_islands_62 : decode cX8_islands 62 = .ok (.baload, 1) := by decide +kernel
theorem dX8_islands_63 : decode cX8_islands 63 = .ok (.ifCond .eq 7, 3) := by decide +kernel
theorem dX8_islands_66 : decode cX8_islands 66 = .ok (.iconst 1, 1) := by decide +kernel
theorem dX8_islands_67 : decode cX8_islands 67 = .ok (.goto 4, 3) := by decide +kernel
theorem dX8_islands_70 : decode cX8_islands 70 = .ok (.iconst 0, 1) := by decide +kernel
theorem dX8_islands_71 : decode cX8_islands 71 = .ok (.iadd, 1) := by decide +kernel
theorem dX8_islands_72 : decode cX8_islands 72 = .ok (.istore_n 2, 1) := by decide +kernel
theorem dX8_islands_73 : decode cX8_islands 73 = .ok (.iinc 3 1, 3) := by decide +kernel
theorem dX8_islands_76 : decode cX8_islands 76 = .ok (.goto (-57), 3) := by decide +kernel
theorem dX8_islands_79 : decode cX8_islands 79 = .ok (.aload_n 1, 1) := by decide +kernel
theorem dX8_islands_80 : decode cX8_islands 80 = .ok (.invokevirtual 227, 3) := by decide +kernel
theorem dX8_islands_83 : decode cX8_islands 83 = .ok (.ifCond .eq 7, 3) := by decide +kernel
theorem dX8_islands_86 : decode cX8_islands 86 = .ok (.iconst 0, 1) := by decide +kernel
theorem dX8_islands_87 : decode cX8_islands 87 = .ok (.goto 8, 3) := by decide +kernel
theorem dX8_islands_90 : decode cX8_islands 90 = .ok (.iconst 1, 1) := by decide +kernel
theorem dX8_islands_91 : decode cX8_islands 91 = .ok (.iload_n 2, 1) := by decide +kernel
theorem dX8_islands_92 : decode cX8_islands 92 = .ok (.invokestatic 230, 3) := by decide +kernel
theorem dX8_islands_95 : decode cX8_islands 95 = .ok (.ireturn, 1) := by decide +kernel
set_option maxRecDepth 20000 in
theorem ggX8_order_X8_noWay : GoodIn wsX8_order wsX8_noWay := goodIn_ca (goodIn_ca (goodIn_r _ [8, 9, 3, 10, 11, 12, 13, 14, 15, 16, 17, 18, 19, 20, 21, 22, 23, 24, 25, 7, 26, 27, 2, 1, 28, 29, 30, 31, 32, 33, 34, 35, 36, 37, 38, 39, 40, 41, 42, 43, 44, 45, 46, 47, 48, 49, 50, 51, 52, 53, 54, 55, 56, 57, 58, 59, 60, 61, 62, 63, 64, 65, 66, 67, 68, 69, 70, 71, 72, 73, 74, 75, 76, 77, 78, 79, 80, 81, 82, 83, 84, 85, 86, 87, 88, 89, 90, 91, 92, 93, 94, 95, 96, 97, 98, 99, 100, 101, 102, 103, 104, 105, 106, 107, 108, 109, 110, 111, 112, 113, 114, 115] (by decide +kernel) (by decide +kernel)) (goodIn_sub (fun _ h => List.mem_cons_of_mem _ (List.mem_append_left _ (List.mem_append_right _ h))) (by decide +kernel))) (goodIn_sub (fun _ h => List.mem_cons_of_mem _ (List.mem_append_right _ h)) (by decide +kernel))
set_option maxRecDepth 20000 in
theorem gX8_order_X8_noWay : GoodIn wsX8_order (wsV RX8 218 RX8 yX8_noWay wsX8_noWay) := goodIn_app (goodIn_of _ (by decide +kernel)) ggX8_order_X8_noWay
set_option maxRecDepth 20000 in
theorem ggX8_order_X6_tick : GoodIn wsX8_order wsX6_tick := goodIn_ca (goodIn_ca (goodIn_r _ [32, 22, 21, 33, 17, 19, 18, 20, 34, 35, 36, 37, 38, 39, 40, 7, 41, 42, 43, 44, 45, 46, 47, 48, 49, 50, 51, 52, 53, 54, 55, 56, 57, 58, 59, 60, 61, 62, 63, 64, 65, 66, 67, 68, 69, 101, 102, 103, 104, 105, 106, 107, 108, 80, 81, 82, 83, 84, 85, 86, 87, 88, 89, 90, 91, 92, 93, 94, 95, 96, 97, 98, 99, 100, 109, 110, 111, 112, 113, 114, 115] (by decide +kernel) (by decide +kernel)) (goodIn_sub (fun _ h => List.mem_cons_of_mem _ (List.mem_append_left _ (List.mem_append_right _ h))) (by decide +kernel))) (goodIn_sub (fun _ h => List.mem_cons_of_mem _ (List.mem_append_right _ h)) (by decide +kernel))
set_option maxRecDepth 20000 in
theorem gX8_order_X6_tick : GoodIn wsX8_order (wsV RX8 181 RX6 yX6_tick wsX6_tick) := goodIn_app (goodIn_of _ (by decide +kernel)) ggX8_order_X6_tick
theorem dX8_order_0 : decode cX8_order 0 = .ok (.aload_n 0, 1) := by decide +kernel
theorem dX8_order_1 : decode cX8_order 1 = .ok (.iconst 1, 1) := by decide +kernel
theorem dX8_order_2 : decode cX8_order 2 = .ok (.invokevirtual 218, 3) := by decide +kernel
theorem dX8_order_5 : decode cX8_order 5 = .ok (.ifCond .eq 5, 3) := by decide +kernel
theorem dX8_order_8 : decode cX8_order 8 = .ok (.iconst 0, 1) := by decide +kernel
theorem dX8_order_9 : decode cX8_order 9 = .ok (.ireturn, 1) := by decide +kernel
theorem dX8_order_10 : decode cX8_order 10 = .ok (.iload_n 1, 1) := by decide +kernel
theorem dX8_order_11 : decode cX8_order 11 = .ok (.istore_n 2, 1) := by decide +kernel
theorem dX8_order_12 : decode cX8_order 12 = .ok (.iconst 0, 1) := by decide +kernel
theorem dX8_order_13 : decode cX8_order 13 = .ok (.istore_n 3, 1) := by decide +kernel
theorem dX8_order_14 : decode cX8_order 14 = .ok (.iload_n 3, 1) := by decide +kernel
theorem dX8_order_15 : decode cX8_order 15 = .ok (.aload_n 0, 1) := by decide +kernel
theorem dX8_order_16 : decode cX8_order 16 = .ok (.getfield 201, 3) := by decide +kernel
theorem dX8_order_19 : decode cX8_order 19 = .ok (.if_icmp .ge 62, 3) := by decide +kernel
theorem dX8_order_22 : decode cX8_order 22 = .ok (.iload_n 2, 1) := by decide +kernel
theorem dX8_order_23 : decode cX8_order 23 = .ok (.ifCond .lt 58, 3) := by decide +kernel
theorem dX8_order_26 : decode cX8_order 26 = .ok (.aload_n 0, 1) := by decide +kernel
theorem dX8_order_27 : decode cX8_order 27 = .ok (.getfield 47, 3) := by decide +kernel
theorem dX8_order_30 : decode cX8_order 30 = .ok (.iconst 0, 1) := by decide +kernel
theorem dX8_order_31 : decode cX8_order 31 = .ok (.invokevirtual 181, 3) := by decide +kernel
theorem dX8_order_34 : decode cX8_order 34 = .ok (.istore 4, 2) := by decide +kernel
theorem dX8_order_36 : decode cX8_order 36 = .ok (.iconst 0, 1) := by decide +kernel
theorem dX8_order_37 : decode cX8_order 37 = .ok (.istore 5, 2) := by decide +kernel
theorem dX8_order_39 : decode cX8_order 39 = .ok (.iload 5, 2) := by decide +kernel
theorem dX8_order_41 : decode cX8_order 41 = .ok (.bipush 16, 2) := by decide +kernel
theorem dX8_order_43 : decode cX8_order 43 = .ok (.if_icmp .ge 32, 3) := by decide +kernel
theorem dX8_order_46 : decode cX8_order 46 = .ok (.aload_n 0, 1) := by decide +kernel
theorem dX8_order_47 : decode cX8_order 47 = .ok (.getfield 47, 3) := by decide +kernel
theorem dX8_order_50 : decode cX8_order 50 = .ok (.getfield 185, 3) := by decide +kernel
theorem dX8_order_53 : decode cX8_order 53 = .ok (.iload 5, 2) := by decide +kernel
theorem dX8_order_55 : decode cX8_order 55 = .ok (.baload, 1) := by decide +kernel
theorem dX8_order_56 : decode cX8_order 56 = .ok (.ifCond .eq 13, 3) := by decide +kernel
theorem dX8_order_59 : decode cX8_order 59 = .ok (.iload_n 2, 1) := by decide +kernel
theorem dX8_order_60 : decode cX8_order 60 = .ok (.ifCond .ne 6, 3) := by decide +kernel
theorem dX8_order_63 : decode cX8_order 63 = .ok (.iload 5, 2) := by decide +kernel
theorem dX8_order_65 : decode cX8_order 65 = .ok (.ireturn, 1) := by decide +kernel
theorem dX8_order_66 : decode cX8_order 66 = .ok (.iinc 2 (-1), 3) := by decide +kernel
theorem dX8_order_69 : decode cX8_order 69 = .ok (.iinc 5 1, 3) := by decide +kernel
theorem dX8_order_72 : decode cX8_order 72 = .ok (.goto (-33), 3) := by decide +kernel
theorem dX8_order_75 : decode cX8_order 75 = .ok (.iinc 3 1, 3) := by decide +kernel
theorem dX8_order_78 : decode cX8_order 78 = .ok (.goto (-64), 3) := by decide +kernel
theorem dX8_order_81 : decode cX8_order 81 = .ok (.aload_n 0, 1) := by decide +kernel
theorem dX8_order_82 : decode cX8_order 82 = .ok (.iconst 3, 1) := by decide +kernel
theorem dX8_order_83 : decode cX8_order 83 = .ok (.putfield 76, 3) := by decide +kernel
theorem dX8_order_86 : decode cX8_order 86 = .ok (.iconst 0, 1) := by decide +kernel
theorem dX8_order_87 : decode cX8_order 87 = .ok (.ireturn, 1) := by decide +kernel
set_option maxRecDepth 20000 in
theorem ggX8_noTwo_X8_isPlace : GoodIn wsX8_noTwo wsX8_isPlace := goodIn_r _ [5, 6, 7, 8, 4, 9] (by decide +kernel) (by decide +kernel)
set_option maxRecDepth 20000 in
theorem gX8_noTwo_X8_isPlace : GoodIn wsX8_noTwo (va_wsS RX8 95 yX8_isPlace wsX8_isPlace) := goodIn_app (goodIn_of _ (by decide +kernel)) ggX8_noTwo_X8_isPlace
set_option maxRecDepth 20000 in
theorem ggX8_noTwo_X8_isBeater : GoodIn wsX8_noTwo wsX8_isBeater := goodIn_ca (goodIn_r _ [13, 14, 15, 7, 8, 4, 9, 16, 17, 18, 19, 20, 21, 22, 23, 24, 25, 26, 27, 28, 29, 30, 31, 32, 33, 34, 35, 36, 37, 38, 39, 40, 41, 42, 43, 44] (by decide +kernel) (by decide +kernel)) (goodIn_sub (fun _ h => List.mem_cons_of_mem _ (List.mem_append_right _ h)) (by decide +kernel))
set_option maxRecDepth 20000 in
theorem gX8_noTwo_X8_isBeater : GoodIn wsX8_noTwo (wsV RX8 118 RX8 yX8_isBeater wsX8_isBeater) := goodIn_app (goodIn_of _ (by decide +kernel)) ggX8_noTwo_X8_isBeater
theorem dX8_noTwo_0 : decode cX8_noTwo 0 = .ok (.iload_n 1, 1) := by decide +kernel
theorem dX8_noTwo_1 : decode cX8_noTwo 1 = .ok (.invokestatic 95, 3) := by decide +kernel
theorem dX8_noTwo_4 : decode cX8_noTwo 4 = .ok (.ifCond .eq 14, 3) := by decide +kernel
theorem dX8_noTwo_7 : decode cX8_noTwo 7 = .ok (.iload_n 2, 1) := by decide +kernel
theorem dX8_noTwo_8 : decode cX8_noTwo 8 = .ok (.invokestatic 95, 3) := by decide +kernel
theorem dX8_noTwo_11 : decode cX8_noTwo 11 = .ok (.ifCond .eq 7, 3) := by decide +kernel
theorem dX8_noTwo_14 : decode cX8_noTwo 14 = .ok (.iconst 1, 1) := by decide +kernel
theorem dX8_noTwo_15 : decode cX8_noTwo 15 = .ok (.goto 4, 3) := by decide +kernel
theorem dX8_noTwo_18 : decode cX8_noTwo 18 = .ok (.iconst 0, 1) := by decide +kernel
theorem dX8_noTwo_19 : decode cX8_noTwo 19 = .ok (.istore 4, 2) := by decide +kernel
theorem dX8_noTwo_21 : decode cX8_noTwo 21 = .ok (.aload_n 0, 1) := by decide +kernel
theorem dX8_noTwo_22 : decode cX8_noTwo 22 = .ok (.iload 4, 2) := by decide +kernel
theorem dX8_noTwo_24 : decode cX8_noTwo 24 = .ok (.ifCond .ne 7, 3) := by decide +kernel
theorem dX8_noTwo_27 : decode cX8_noTwo 27 = .ok (.iconst 1, 1) := by decide +kernel
theorem dX8_noTwo_28 : decode cX8_noTwo 28 = .ok (.goto 37, 3) := by decide +kernel
theorem dX8_noTwo_31 : decode cX8_noTwo 31 = .ok (.iload_n 1, 1) := by decide +kernel
theorem dX8_noTwo_32 : decode cX8_noTwo 32 = .ok (.iload_n 2, 1) := by decide +kernel
theorem dX8_noTwo_33 : decode cX8_noTwo 33 = .ok (.if_icmp .eq 7, 3) := by decide +kernel
theorem dX8_noTwo_36 : decode cX8_noTwo 36 = .ok (.iload_n 3, 1) := by decide +kernel
theorem dX8_noTwo_37 : decode cX8_noTwo 37 = .ok (.ifCond .ne 7, 3) := by decide +kernel
theorem dX8_noTwo_40 : decode cX8_noTwo 40 = .ok (.iconst 2, 1) := by decide +kernel
theorem dX8_noTwo_41 : decode cX8_noTwo 41 = .ok (.goto 24, 3) := by decide +kernel
theorem dX8_noTwo_44 : decode cX8_noTwo 44 = .ok (.aload_n 0, 1) := by decide +kernel
theorem dX8_noTwo_45 : decode cX8_noTwo 45 = .ok (.iload_n 1, 1) := by decide +kernel
theorem dX8_noTwo_46 : decode cX8_noTwo 46 = .ok (.invokevirtual 118, 3) := by decide +kernel
theorem dX8_noTwo_49 : decode cX8_noTwo 49 = .ok (.ifCond .eq 11, 3) := by decide +kernel
theorem dX8_noTwo_52 : decode cX8_noTwo 52 = .ok (.aload_n 0, 1) := by decide +kernel
theorem dX8_noTwo_53 : decode cX8_noTwo 53 = .ok (.iload_n 2, 1) := by decide +kernel
theorem dX8_noTwo_54 : decode cX8_noTwo 54 = .ok (.invokevirtual 118, 3) := by decide +kernel
theorem dX8_noTwo_57 : decode cX8_noTwo 57 = .ok (.ifCond .ne 7, 3) := by decide +kernel
theorem dX8_noTwo_60 : decode cX8_noTwo 60 = .ok (.iconst 3, 1) := by decide +kernel
theorem dX8_noTwo_61 : decode cX8_noTwo 61 = .ok (.goto 4, 3) := by decide +kernel
theorem dX8_noTwo_64 : decode cX8_noTwo 64 = .ok (.iconst 0, 1) := by decide +kernel
theorem dX8_noTwo_65 : decode cX8_noTwo 65 = .ok (.putfield 76, 3) := by decide +kernel
theorem dX8_noTwo_68 : decode cX8_noTwo 68 = .ok (.aload_n 0, 1) := by decide +kernel
theorem dX8_noTwo_69 : decode cX8_noTwo 69 = .ok (.getfield 76, 3) := by decide +kernel
theorem dX8_noTwo_72 : decode cX8_noTwo 72 = .ok (.ifCond .le 7, 3) := by decide +kernel
theorem dX8_noTwo_75 : decode cX8_noTwo 75 = .ok (.iconst 1, 1) := by decide +kernel
theorem dX8_noTwo_76 : decode cX8_noTwo 76 = .ok (.goto 4, 3) := by decide +kernel
theorem dX8_noTwo_79 : decode cX8_noTwo 79 = .ok (.iconst 0, 1) := by decide +kernel
theorem dX8_noTwo_80 : decode cX8_noTwo 80 = .ok (.ireturn, 1) := by decide +kernel
set_option maxRecDepth 20000 in
theorem ggX8_map_X8_noTwo : GoodIn wsX8_map wsX8_noTwo := goodIn_ca (goodIn_r _ [8, 2, 9, 10, 7, 11, 12, 13, 14, 15, 16, 17, 18, 19, 20, 1, 77, 78, 79, 80, 81, 82, 83, 84, 85, 86, 87, 88, 89, 90, 91, 92, 93, 94, 95, 96, 97, 98, 99, 100, 101, 102, 103, 104, 105] (by decide +kernel) (by decide +kernel)) (goodIn_sub (fun _ h => List.mem_cons_of_mem _ (List.mem_append_left _ (List.mem_append_right _ h))) (by decide +kernel))
set_option maxRecDepth 20000 in
theorem gX8_map_X8_noTwo : GoodIn wsX8_map (wsV RX8 236 RX8 yX8_noTwo wsX8_noTwo) := goodIn_app (goodIn_of _ (by decide +kernel)) ggX8_map_X8_noTwo
set_option maxRecDepth 20000 in
theorem ggX8_map_X8_in : GoodIn wsX8_map wsX8_in := goodIn_r _ [15] (by decide +kernel) (by decide +kernel)
set_option maxRecDepth 20000 in
theorem gX8_map_X8_in : GoodIn wsX8_map (va_wsS RX8 87 yX8_in wsX8_in) := goodIn_app (goodIn_of _ (by decide +kernel)) ggX8_map_X8_in
set_option maxRecDepth 20000 in
theorem ggX8_map_X6_takesTwo : GoodIn wsX8_map wsX6_takesTwo := goodIn_ca (goodIn_r _ [25, 26, 27, 28, 29, 30, 31, 24, 32, 33, 34, 35, 36, 98, 99, 100, 101, 102, 103, 104, 105, 77, 78, 79, 80, 81, 82, 83, 84, 85, 86, 87, 88, 89, 90, 91, 92, 93, 94, 95, 96, 97] (by decide +kernel) (by decide +kernel)) (goodIn_sub (fun _ h => List.mem_cons_of_mem _ (List.mem_append_left _ (List.mem_append_right _ h))) (by decide +kernel))
set_option maxRecDepth 20000 in
theorem gX8_map_X6_takesTwo : GoodIn wsX8_map (wsV RX8 240 RX6 yX6_takesTwo wsX6_takesTwo) := goodIn_app (goodIn_of _ (by decide +kernel)) ggX8_map_X6_takesTwo
set_option maxRecDepth 20000 in
theorem ggX8_map_X6_tick : GoodIn wsX8_map wsX6_tick := goodIn_ca (goodIn_ca (goodIn_r _ [40, 36, 28, 41, 27, 34, 33, 35, 26, 42, 43, 44, 45, 46, 47, 7, 48, 49, 50, 51, 52, 53, 54, 55, 56, 57, 58, 59, 60, 61, 62, 63, 64, 65, 66, 67, 68, 69, 70, 71, 72, 73, 74, 75, 76, 98, 99, 100, 101, 102, 103, 104, 105, 77, 78, 79, 80, 81, 82, 83, 84, 85, 86, 87, 88, 89, 90, 91, 92, 93, 94, 95, 96, 97, 106, 107, 108, 109, 110, 111, 112] (by decide +kernel) (by decide +kernel)) (goodIn_sub (fun _ h => List.mem_cons_of_mem _ (List.mem_append_left _ (List.mem_append_right _ h))) (by decide +kernel))) (goodIn_sub (fun _ h => List.mem_cons_of_mem _ (List.mem_append_right _ h)) (by decide +kernel))
set_option maxRecDepth 20000 in
theorem gX8_map_X6_tick : GoodIn wsX8_map (wsV RX8 181 RX6 yX6_tick wsX6_tick) := goodIn_app (goodIn_of _ (by decide +kernel)) ggX8_map_X6_tick
theorem dX8_map_0 : decode cX8_map 0 = .ok (.aload_n 0, 1) := by decide +kernel
theorem dX8_map_1 : decode cX8_map 1 = .ok (.iload_n 1, 1) := by decide +kernel
theorem dX8_map_2 : decode cX8_map 2 = .ok (.iload_n 2, 1) := by decide +kernel
theorem dX8_map_3 : decode cX8_map 3 = .ok (.iconst 1, 1) := by decide +kernel
theorem dX8_map_4 : decode cX8_map 4 = .ok (.invokevirtual 236, 3) := by decide +kernel
theorem dX8_map_7 : decode cX8_map 7 = .ok (.ifCond .eq 5, 3) := by decide +kernel
theorem dX8_map_10 : decode cX8_map 10 = .ok (.iconst 0, 1) := by decide +kernel
theorem dX8_map_11 : decode cX8_map 11 = .ok (.ireturn, 1) := by decide +kernel
theorem dX8_map_12 : decode cX8_map 12 = .ok (.aload_n 0, 1) := by decide +kernel
theorem dX8_map_13 : decode cX8_map 13 = .ok (.iload_n 3, 1) := by decide +kernel
theorem dX8_map_14 : decode cX8_map 14 = .ok (.i2l, 1) := by decide +kernel
theorem dX8_map_15 : decode cX8_map 15 = .ok (.lconst 0, 1) := by decide +kernel
theorem dX8_map_16 : decode cX8_map 16 = .ok (.aload_n 0, 1) := by decide +kernel
theorem dX8_map_17 : decode cX8_map 17 = .ok (.getfield 26, 3) := by decide +kernel
theorem dX8_map_20 : decode cX8_map 20 = .ok (.getfield 102, 3) := by decide +kernel
theorem dX8_map_23 : decode cX8_map 23 = .ok (.iload_n 2, 1) := by decide +kernel
theorem dX8_map_24 : decode cX8_map 24 = .ok (.iaload, 1) := by decide +kernel
theorem dX8_map_25 : decode cX8_map 25 = .ok (.iconst 1, 1) := by decide +kernel
theorem dX8_map_26 : decode cX8_map 26 = .ok (.isub, 1) := by decide +kernel
theorem dX8_map_27 : decode cX8_map 27 = .ok (.i2l, 1) := by decide +kernel
theorem dX8_map_28 : decode cX8_map 28 = .ok (.invokestatic 87, 3) := by decide +kernel
theorem dX8_map_31 : decode cX8_map 31 = .ok (.ifCond .eq 7, 3) := by decide +kernel
theorem dX8_map_34 : decode cX8_map 34 = .ok (.iconst 0, 1) := by decide +kernel
theorem dX8_map_35 : decode cX8_map 35 = .ok (.goto 4, 3) := by decide +kernel
theorem dX8_map_38 : decode cX8_map 38 = .ok (.iconst 4, 1) := by decide +kernel
theorem dX8_map_39 : decode cX8_map 39 = .ok (.putfield 76, 3) := by decide +kernel
theorem dX8_map_42 : decode cX8_map 42 = .ok (.aload_n 0, 1) := by decide +kernel
theorem dX8_map_43 : decode cX8_map 43 = .ok (.getfield 76, 3) := by decide +kernel
theorem dX8_map_46 : decode cX8_map 46 = .ok (.ifCond .le 5, 3) := by decide +kernel
theorem dX8_map_49 : decode cX8_map 49 = .ok (.iconst 0, 1) := by decide +kernel
theorem dX8_map_50 : decode cX8_map 50 = .ok (.ireturn, 1) := by decide +kernel
theorem dX8_map_51 : decode cX8_map 51 = .ok (.aload_n 0, 1) := by decide +kernel
theorem dX8_map_52 : decode cX8_map 52 = .ok (.getfield 47, 3) := by decide +kernel
theorem dX8_map_55 : decode cX8_map 55 = .ok (.iload_n 1, 1) := by decide +kernel
theorem dX8_map_56 : decode cX8_map 56 = .ok (.iload_n 2, 1) := by decide +kernel
theorem dX8_map_57 : decode cX8_map 57 = .ok (.invokevirtual 240, 3) := by decide +kernel
theorem dX8_map_60 : decode cX8_map 60 = .ok (.aload_n 0, 1) := by decide +kernel
theorem dX8_map_61 : decode cX8_map 61 = .ok (.getfield 47, 3) := by decide +kernel
theorem dX8_map_64 : decode cX8_map 64 = .ok (.getfield 105, 3) := by decide +kernel
theorem dX8_map_67 : decode cX8_map 67 = .ok (.iload_n 1, 1) := by decide +kernel
theorem dX8_map_68 : decode cX8_map 68 = .ok (.iconst 0, 1) := by decide +kernel
theorem dX8_map_69 : decode cX8_map 69 = .ok (.iastore, 1) := by decide +kernel
theorem dX8_map_70 : decode cX8_map 70 = .ok (.aload_n 0, 1) := by decide +kernel
theorem dX8_map_71 : decode cX8_map 71 = .ok (.getfield 47, 3) := by decide +kernel
theorem dX8_map_74 : decode cX8_map 74 = .ok (.getfield 105, 3) := by decide +kernel
theorem dX8_map_77 : decode cX8_map 77 = .ok (.iload_n 2, 1) := by decide +kernel
theorem dX8_map_78 : decode cX8_map 78 = .ok (.iload_n 3, 1) := by decide +kernel
theorem dX8_map_79 : decode cX8_map 79 = .ok (.iastore, 1) := by decide +kernel
theorem dX8_map_80 : decode cX8_map 80 = .ok (.iconst 0, 1) := by decide +kernel
theorem dX8_map_81 : decode cX8_map 81 = .ok (.istore 4, 2) := by decide +kernel
theorem dX8_map_83 : decode cX8_map 83 = .ok (.iload 4, 2) := by decide +kernel
theorem dX8_map_85 : decode cX8_map 85 = .ok (.sipush 999, 3) := by decide +kernel
theorem dX8_map_88 : decode cX8_map 88 = .ok (.if_icmp .ge 41, 3) := by decide +kernel
theorem dX8_map_91 : decode cX8_map 91 = .ok (.aload_n 0, 1) := by decide +kernel
theorem dX8_map_92 : decode cX8_map 92 = .ok (.getfield 47, 3) := by decide +kernel
theorem dX8_map_95 : decode cX8_map 95 = .ok (.iconst 0, 1) := by decide +kernel
theorem dX8_map_96 : decode cX8_map 96 = .ok (.invokevirtual 181, 3) := by decide +kernel
theorem dX8_map_99 : decode cX8_map 99 = .ok (.istore 5, 2) := by decide +kernel
theorem dX8_map_101 : decode cX8_map 101 = .ok (.aload_n 0, 1) := by decide +kernel
theorem dX8_map_102 : decode cX8_map 102 = .ok (.getfield 47, 3) := by decide +kernel
theorem dX8_map_105 : decode cX8_map 105 = .ok (.getfield 185, 3) := by decide +kernel
theorem dX8_map_108 : decode cX8_map 108 = .ok (.iload_n 1, 1) := by decide +kernel
theorem dX8_map_109 : decode cX8_map 109 = .ok (.baload, 1) := by decide +kernel
theorem dX8_map_110 : decode cX8_map 110 = .ok (.ifCond .eq 13, 3) := by decide +kernel
theorem dX8_map_113 : decode cX8_map 113 = .ok (.aload_n 0, 1) := by decide +kernel
theorem dX8_map_114 : decode cX8_map 114 = .ok (.getfield 47, 3) := by decide +kernel
theorem dX8_map_117 : decode cX8_map 117 = .ok (.getfield 105, 3) := by decide +kernel
theorem dX8_map_120 : decode cX8_map 120 = .ok (.iload_n 2, 1) := by decide +kernel
theorem dX8_map_121 : decode cX8_map 121 = .ok (.iaload, 1) := by decide +kernel
theorem dX8_map_122 : decode cX8_map 122 = .ok (.ireturn, 1) := by decide +kernel
theorem dX8_map_123 : decode cX8_map 123 = .ok (.iinc 4 1, 3) := by decide +kernel
theorem dX8_map_126 : decode cX8_map 126 = .ok (.goto (-43), 3) := by decide +kernel
theorem dX8_map_129 : decode cX8_map 129 = .ok (.aload_n 0, 1) := by decide +kernel
theorem dX8_map_130 : decode cX8_map 130 = .ok (.iconst 4, 1) := by decide +kernel
theorem dX8_map_131 : decode cX8_map 131 = .ok (.putfield 76, 3) := by decide +kernel
theorem dX8_map_134 : decode cX8_map 134 = .ok (.iconst 0, 1) := by decide +kernel
theorem dX8_map_135 : decode cX8_map 135 = .ok (.ireturn, 1) := by decide +kernel
set_option maxRecDepth 20000 in
theorem ggX8_locked_X6_takesTwo : GoodIn wsX8_locked wsX6_takesTwo := goodIn_ca (goodIn_r _ [7, 8, 9, 10, 11, 12, 13, 6, 14, 15, 16, 17, 18, 106, 107, 108, 109, 110, 111, 112, 113, 85, 86, 87, 88, 89, 90, 91, 92, 93, 94, 95, 96, 97, 98, 99, 100, 101, 102, 103, 104, 105] (by decide +kernel) (by decide +kernel)) (goodIn_sub (fun _ h => List.mem_cons_of_mem _ (List.mem_append_left _ (List.mem_append_right _ h))) (by decide +kernel))
set_option maxRecDepth 20000 in
theorem gX8_locked_X6_takesTwo : GoodIn wsX8_locked (wsV RX8 240 RX6 yX6_takesTwo wsX6_takesTwo) := goodIn_app (goodIn_of _ (by decide +kernel)) ggX8_locked_X6_takesTwo
set_option maxRecDepth 20000 in
theorem ggX8_locked_X6_setPeriod : GoodIn wsX8_locked wsX6_setPeriod := goodIn_ca (goodIn_r _ [22, 15, 16, 23, 24, 25, 26, 17, 106, 107, 108, 109, 110, 111, 112, 113] (by decide +kernel) (by decide +kernel)) (goodIn_sub (fun _ h => List.mem_cons_of_mem _ (List.mem_append_left _ (List.mem_append_right _ h))) (by decide +kernel))
set_option maxRecDepth 20000 in
theorem gX8_locked_X6_setPeriod : GoodIn wsX8_locked (wsV RX8 124 RX6 yX6_setPeriod wsX6_setPeriod) := goodIn_app (goodIn_of _ (by decide +kernel)) ggX8_locked_X6_setPeriod
set_option maxRecDepth 20000 in
theorem ggX8_locked_X8_findCycle : GoodIn wsX8_locked wsX8_findCycle := goodIn_ca (goodIn_ca (goodIn_r _ [31, 32, 1, 33, 34, 35, 36, 12, 13, 6, 14, 9, 15, 16, 17, 10, 18, 37, 38, 39, 40, 41, 8, 42, 43, 25, 44, 45, 46, 30, 47, 48, 49, 50, 51, 52, 53, 54, 55, 56, 57, 58, 59, 60, 61, 62, 63, 64, 65, 66, 67, 68, 69, 70, 71, 72, 73, 74, 75, 76, 77, 78, 79, 85, 86, 87, 88, 89, 90, 91, 92, 93, 94, 95, 96, 97, 98, 99, 100, 101, 102, 103, 104, 105, 106, 107, 108, 109, 110, 111, 112, 113, 114, 115, 116, 117, 118, 119, 120] (by decide +kernel) (by decide +kernel)) (goodIn_sub (fun _ h => List.mem_cons_of_mem _ (List.mem_append_left _ (List.mem_append_right _ h))) (by decide +kernel))) (goodIn_sub (fun _ h => List.mem_cons_of_mem _ (List.mem_append_right _ h)) (by decide +kernel))
set_option maxRecDepth 20000 in
theorem gX8_locked_X8_findCycle : GoodIn wsX8_locked (wsV RX8 211 RX8 yX8_findCycle wsX8_findCycle) := goodIn_app (goodIn_of _ (by decide +kernel)) ggX8_locked_X8_findCycle
set_option maxRecDepth 20000 in
theorem ggX8_locked_X8_goRound : GoodIn wsX8_locked wsX8_goRound := goodIn_ca (goodIn_ca (goodIn_r _ [83, 2, 84, 34, 33, 37, 38, 39, 6, 40, 18, 10, 41, 9, 16, 15, 17, 8, 42, 43, 25, 44, 45, 46, 30, 47, 48, 49, 50, 51, 52, 53, 54, 55, 56, 57, 58, 59, 60, 61, 62, 63, 64, 65, 66, 67, 68, 69, 70, 71, 72, 73, 74, 75, 85, 86, 87, 88, 89, 90, 91, 92, 93, 94, 95, 96, 97, 98, 99, 100, 101, 102, 103, 104, 105, 106, 107, 108, 109, 110, 111, 112, 113, 114, 115, 116, 117, 118, 119, 120] (by decide +kernel) (by decide +kernel)) (goodIn_sub (fun _ h => List.mem_cons_of_mem _ (List.mem_append_left _ (List.mem_append_right _ h))) (by decide +kernel))) (goodIn_sub (fun _ h => List.mem_cons_of_mem _ (List.mem_append_right _ h)) (by decide +kernel))
set_option maxRecDepth 20000 in
theorem gX8_locked_X8_goRound : GoodIn wsX8_locked (wsV RX8 215 RX8 yX8_goRound wsX8_goRound) := goodIn_app (goodIn_of _ (by decide +kernel)) ggX8_locked_X8_goRound
theorem dX8_locked_0 : decode cX8_locked 0 = .ok (.aload_n 0, 1) := by decide +kernel
theorem dX8_locked_1 : decode cX8_locked 1 = .ok (.getfield 41, 3) := by decide +kernel
theorem dX8_locked_4 : decode cX8_locked 4 = .ok (.iload_n 1, 1) := by decide +kernel
theorem dX8_locked_5 : decode cX8_locked 5 = .ok (.iload_n 2, 1) := by decide +kernel
theorem dX8_locked_6 : decode cX8_locked 6 = .ok (.invokevirtual 240, 3) := by decide +kernel
theorem dX8_locked_9 : decode cX8_locked 9 = .ok (.aload_n 0, 1) := by decide +kernel
theorem dX8_locked_10 : decode cX8_locked 10 = .ok (.getfield 41, 3) := by decide +kernel
theorem dX8_locked_13 : decode cX8_locked 13 = .ok (.iload_n 2, 1) := by decide +kernel
theorem dX8_locked_14 : decode cX8_locked 14 = .ok (.iload_n 3, 1) := by decide +kernel
