theorem dL_law_1344 : decode cL_law 1344 = .ok (.iconst 1, 1) := by decide +kernel
theorem dL_law_1345 : decode cL_law 1345 = .ok (.newarray .int, 2) := by decide +kernel
theorem dL_law_1347 : decode cL_law 1347 = .ok (.dup, 1) := by decide +kernel
theorem dL_law_1348 : decode cL_law 1348 = .ok (.iconst 0, 1) := by decide +kernel
theorem dL_law_1349 : decode cL_law 1349 = .ok (.iconst 1, 1) := by decide +kernel
theorem dL_law_1350 : decode cL_law 1350 = .ok (.iastore, 1) := by decide +kernel
theorem dL_law_1351 : decode cL_law 1351 = .ok (.invokestatic 176, 3) := by decide +kernel
theorem dL_law_1354 : decode cL_law 1354 = .ok (.ifCond .ne 40, 3) := by decide +kernel
theorem dL_law_1357 : decode cL_law 1357 = .ok (.aload_n 1, 1) := by decide +kernel
theorem dL_law_1358 : decode cL_law 1358 = .ok (.bipush 97, 2) := by decide +kernel
theorem dL_law_1360 : decode cL_law 1360 = .ok (.iconst 1, 1) := by decide +kernel
theorem dL_law_1361 : decode cL_law 1361 = .ok (.newarray .int, 2) := by decide +kernel
theorem dL_law_1363 : decode cL_law 1363 = .ok (.dup, 1) := by decide +kernel
theorem dL_law_1364 : decode cL_law 1364 = .ok (.iconst 0, 1) := by decide +kernel
theorem dL_law_1365 : decode cL_law 1365 = .ok (.iconst 0, 1) := by decide +kernel
theorem dL_law_1366 : decode cL_law 1366 = .ok (.iastore, 1) := by decide +kernel
theorem dL_law_1367 : decode cL_law 1367 = .ok (.invokestatic 176, 3) := by decide +kernel
theorem dL_law_1370 : decode cL_law 1370 = .ok (.ldc 88, 2) := by decide +kernel
theorem dL_law_1372 : decode cL_law 1372 = .ok (.if_icmp .ne 22, 3) := by decide +kernel
theorem dL_law_1375 : decode cL_law 1375 = .ok (.aload_n 1, 1) := by decide +kernel
theorem dL_law_1376 : decode cL_law 1376 = .ok (.bipush 97, 2) := by decide +kernel
theorem dL_law_1378 : decode cL_law 1378 = .ok (.iconst 1, 1) := by decide +kernel
theorem dL_law_1379 : decode cL_law 1379 = .ok (.newarray .int, 2) := by decide +kernel
theorem dL_law_1381 : decode cL_law 1381 = .ok (.dup, 1) := by decide +kernel
theorem dL_law_1382 : decode cL_law 1382 = .ok (.iconst 0, 1) := by decide +kernel
theorem dL_law_1383 : decode cL_law 1383 = .ok (.bipush 20, 2) := by decide +kernel
theorem dL_law_1385 : decode cL_law 1385 = .ok (.iastore, 1) := by decide +kernel
theorem dL_law_1386 : decode cL_law 1386 = .ok (.invokestatic 176, 3) := by decide +kernel
theorem dL_law_1389 : decode cL_law 1389 = .ok (.ldc 73, 2) := by decide +kernel
theorem dL_law_1391 : decode cL_law 1391 = .ok (.if_icmp .eq 5, 3) := by decide +kernel
theorem dL_law_1394 : decode cL_law 1394 = .ok (.iconst 0, 1) := by decide +kernel
theorem dL_law_1395 : decode cL_law 1395 = .ok (.ireturn, 1) := by decide +kernel
theorem dL_law_1396 : decode cL_law 1396 = .ok (.aload_n 0, 1) := by decide +kernel
theorem dL_law_1397 : decode cL_law 1397 = .ok (.invokestatic 179, 3) := by decide +kernel
theorem dL_law_1400 : decode cL_law 1400 = .ok (.ifCond .eq 20, 3) := by decide +kernel
theorem dL_law_1403 : decode cL_law 1403 = .ok (.aload_n 0, 1) := by decide +kernel
theorem dL_law_1404 : decode cL_law 1404 = .ok (.invokestatic 183, 3) := by decide +kernel
theorem dL_law_1407 : decode cL_law 1407 = .ok (.ifCond .eq 13, 3) := by decide +kernel
theorem dL_law_1410 : decode cL_law 1410 = .ok (.invokestatic 186, 3) := by decide +kernel
theorem dL_law_1413 : decode cL_law 1413 = .ok (.ifCond .eq 7, 3) := by decide +kernel
theorem dL_law_1416 : decode cL_law 1416 = .ok (.iconst 1, 1) := by decide +kernel
theorem dL_law_1417 : decode cL_law 1417 = .ok (.goto 4, 3) := by decide +kernel
theorem dL_law_1420 : decode cL_law 1420 = .ok (.iconst 0, 1) := by decide +kernel
theorem dL_law_1421 : decode cL_law 1421 = .ok (.ireturn, 1) := by decide +kernel
set_option maxRecDepth 20000 in
theorem ggL_nets_X5_init : GoodIn wsL_nets wsX5_init := goodIn_r _ [9, 10, 11, 12, 13, 14, 15, 16, 17, 18, 19, 20, 4, 21, 22, 23, 24, 25, 26, 27, 28, 29, 30, 31, 32, 33, 34, 35, 36, 37, 38, 39, 40, 41, 42, 43, 44, 45, 46, 47, 48, 49, 50, 51, 52, 53, 54, 55, 56, 57, 58, 59, 60, 61, 62, 63, 64, 65, 66, 67, 68, 69, 70, 71, 72, 73, 74, 75, 76, 77, 78, 79, 80, 6, 81, 82, 83, 84, 85, 86, 566, 567, 568, 569, 570, 571, 572, 573, 574, 575, 576, 551, 552, 553, 554, 555, 556, 557, 558, 559, 560, 561, 562, 563, 564, 565, 577, 578, 579, 580, 581, 582, 583, 584, 585, 586, 587, 588, 589, 590, 591, 592] (by decide +kernel) (by decide +kernel)
set_option maxRecDepth 20000 in
theorem gL_nets_X5_init : GoodIn wsL_nets (wsX5_init) := ggL_nets_X5_init
set_option maxRecDepth 20000 in
theorem ggL_nets_J0_charAt_5068e : GoodIn wsL_nets wsJ0_charAt_5068e := goodIn_r _ [503, 504, 505, 506, 507, 502, 508, 509, 510, 511, 512, 513, 514, 515, 516, 517, 518, 519, 520, 521, 522, 523, 524, 525, 526, 527, 528, 529, 530, 531, 532, 533, 534, 535, 536, 537, 538, 539, 593, 594] (by decide +kernel) (by decide +kernel)
set_option maxRecDepth 20000 in
theorem gL_nets_J0_charAt_5068e : GoodIn wsL_nets (wsV RL 198 RJ0 yJ0_charAt_5068e wsJ0_charAt_5068e) := goodIn_app (goodIn_of _ (by decide +kernel)) ggL_nets_J0_charAt_5068e
set_option maxRecDepth 20000 in
theorem ggL_nets_X5_isTrue : GoodIn wsL_nets wsX5_isTrue := goodIn_ca (goodIn_ca (goodIn_r _ [543, 16, 20, 24, 34, 279, 28, 280, 281, 71, 72, 68, 67, 262, 19, 263, 264, 60, 265, 266, 267, 268, 61, 62, 211, 212, 213, 214, 215, 216, 217, 218, 15, 219, 220, 49, 50, 51, 221, 222, 159, 223, 224, 225, 226, 227, 282, 283, 284, 285, 286, 287, 288, 66, 544, 545, 546, 547, 548, 549, 69, 550, 318, 319, 320, 321, 322, 323, 324, 325, 311, 312, 313, 300, 301, 302, 303, 551, 552, 553, 554, 555, 556, 557, 558, 559, 560, 561, 562, 563, 564, 565, 566, 567, 568, 569, 570, 571, 572, 573, 574, 575, 576, 577, 578, 579, 580, 581, 582, 583, 584, 585] (by decide +kernel) (by decide +kernel)) (goodIn_sub (fun _ h => List.mem_cons_of_mem _ (List.mem_append_left _ (List.mem_append_left _ (List.mem_append_left _ (List.mem_append_left _ (List.mem_append_left _ (List.mem_append_left _ (List.mem_append_left _ (List.mem_append_right _ h))))))))) (by decide +kernel))) (goodIn_sub (fun _ h => List.mem_cons_of_mem _ (List.mem_append_left _ (List.mem_append_left _ (List.mem_append_left _ (List.mem_append_left _ (List.mem_append_left _ (List.mem_append_left _ (List.mem_append_right _ h)))))))) (by decide +kernel))
set_option maxRecDepth 20000 in
theorem gL_nets_X5_isTrue : GoodIn wsL_nets (wsV RL 172 RX5 yX5_isTrue wsX5_isTrue) := goodIn_app (goodIn_of _ (by decide +kernel)) ggL_nets_X5_isTrue
theorem dL_nets_0 : decode cL_nets 0 = .ok (.new 8, 3) := by decide +kernel
theorem dL_nets_3 : decode cL_nets 3 = .ok (.dup, 1) := by decide +kernel
theorem dL_nets_4 : decode cL_nets 4 = .ok (.invokespecial 152, 3) := by decide +kernel
theorem dL_nets_7 : decode cL_nets 7 = .ok (.astore_n 1, 1) := by decide +kernel
theorem dL_nets_8 : decode cL_nets 8 = .ok (.iconst 2, 1) := by decide +kernel
theorem dL_nets_9 : decode cL_nets 9 = .ok (.aload_n 0, 1) := by decide +kernel
theorem dL_nets_10 : decode cL_nets 10 = .ok (.iconst 0, 1) := by decide +kernel
theorem dL_nets_11 : decode cL_nets 11 = .ok (.invokestatic 189, 3) := by decide +kernel
theorem dL_nets_14 : decode cL_nets 14 = .ok (.bipush 7, 2) := by decide +kernel
theorem dL_nets_16 : decode cL_nets 16 = .ok (.invokestatic 193, 3) := by decide +kernel
theorem dL_nets_19 : decode cL_nets 19 = .ok (.iadd, 1) := by decide +kernel
theorem dL_nets_20 : decode cL_nets 20 = .ok (.istore_n 2, 1) := by decide +kernel
theorem dL_nets_21 : decode cL_nets 21 = .ok (.iload_n 2, 1) := by decide +kernel
theorem dL_nets_22 : decode cL_nets 22 = .ok (.newarray .int, 2) := by decide +kernel
theorem dL_nets_24 : decode cL_nets 24 = .ok (.astore_n 3, 1) := by decide +kernel
theorem dL_nets_25 : decode cL_nets 25 = .ok (.iconst 0, 1) := by decide +kernel
theorem dL_nets_26 : decode cL_nets 26 = .ok (.istore 4, 2) := by decide +kernel
theorem dL_nets_28 : decode cL_nets 28 = .ok (.iload 4, 2) := by decide +kernel
theorem dL_nets_30 : decode cL_nets 30 = .ok (.iload_n 2, 1) := by decide +kernel
theorem dL_nets_31 : decode cL_nets 31 = .ok (.if_icmp .ge 102, 3) := by decide +kernel
theorem dL_nets_34 : decode cL_nets 34 = .ok (.aload_n 3, 1) := by decide +kernel
theorem dL_nets_35 : decode cL_nets 35 = .ok (.iload 4, 2) := by decide +kernel
theorem dL_nets_37 : decode cL_nets 37 = .ok (.iload 4, 2) := by decide +kernel
theorem dL_nets_39 : decode cL_nets 39 = .ok (.ifCond .ne 15, 3) := by decide +kernel
theorem dL_nets_42 : decode cL_nets 42 = .ok (.aload_n 0, 1) := by decide +kernel
theorem dL_nets_43 : decode cL_nets 43 = .ok (.iconst 1, 1) := by decide +kernel
theorem dL_nets_44 : decode cL_nets 44 = .ok (.invokestatic 189, 3) := by decide +kernel
theorem dL_nets_47 : decode cL_nets 47 = .ok (.iconst 2, 1) := by decide +kernel
theorem dL_nets_48 : decode cL_nets 48 = .ok (.invokestatic 193, 3) := by decide +kernel
theorem dL_nets_51 : decode cL_nets 51 = .ok (.goto 41, 3) := by decide +kernel
theorem dL_nets_54 : decode cL_nets 54 = .ok (.aload_n 3, 1) := by decide +kernel
theorem dL_nets_55 : decode cL_nets 55 = .ok (.iload 4, 2) := by decide +kernel
theorem dL_nets_57 : decode cL_nets 57 = .ok (.iconst 1, 1) := by decide +kernel
theorem dL_nets_58 : decode cL_nets 58 = .ok (.isub, 1) := by decide +kernel
theorem dL_nets_59 : decode cL_nets 59 = .ok (.iaload, 1) := by decide +kernel
theorem dL_nets_60 : decode cL_nets 60 = .ok (.iconst 1, 1) := by decide +kernel
theorem dL_nets_61 : decode cL_nets 61 = .ok (.iadd, 1) := by decide +kernel
theorem dL_nets_62 : decode cL_nets 62 = .ok (.aload_n 0, 1) := by decide +kernel
theorem dL_nets_63 : decode cL_nets 63 = .ok (.iconst 1, 1) := by decide +kernel
theorem dL_nets_64 : decode cL_nets 64 = .ok (.iload 4, 2) := by decide +kernel
theorem dL_nets_66 : decode cL_nets 66 = .ok (.iadd, 1) := by decide +kernel
theorem dL_nets_67 : decode cL_nets 67 = .ok (.invokestatic 189, 3) := by decide +kernel
theorem dL_nets_70 : decode cL_nets 70 = .ok (.iconst 2, 1) := by decide +kernel
theorem dL_nets_71 : decode cL_nets 71 = .ok (.invokestatic 193, 3) := by decide +kernel
theorem dL_nets_74 : decode cL_nets 74 = .ok (.aload_n 3, 1) := by decide +kernel
theorem dL_nets_75 : decode cL_nets 75 = .ok (.iload 4, 2) := by decide +kernel
theorem dL_nets_77 : decode cL_nets 77 = .ok (.iconst 1, 1) := by decide +kernel
theorem dL_nets_78 : decode cL_nets 78 = .ok (.isub, 1) := by decide +kernel
theorem dL_nets_79 : decode cL_nets 79 = .ok (.iaload, 1) := by decide +kernel
theorem dL_nets_80 : decode cL_nets 80 = .ok (.bipush 6, 2) := by decide +kernel
theorem dL_nets_82 : decode cL_nets 82 = .ok (.if_icmp .ge 7, 3) := by decide +kernel
theorem dL_nets_85 : decode cL_nets 85 = .ok (.iconst 1, 1) := by decide +kernel
theorem dL_nets_86 : decode cL_nets 86 = .ok (.goto 4, 3) := by decide +kernel
theorem dL_nets_89 : decode cL_nets 89 = .ok (.iconst 0, 1) := by decide +kernel
theorem dL_nets_90 : decode cL_nets 90 = .ok (.imul, 1) := by decide +kernel
theorem dL_nets_91 : decode cL_nets 91 = .ok (.iadd, 1) := by decide +kernel
theorem dL_nets_92 : decode cL_nets 92 = .ok (.iastore, 1) := by decide +kernel
theorem dL_nets_93 : decode cL_nets 93 = .ok (.aload_n 1, 1) := by decide +kernel
theorem dL_nets_94 : decode cL_nets 94 = .ok (.bipush 66, 2) := by decide +kernel
theorem dL_nets_96 : decode cL_nets 96 = .ok (.iconst 4, 1) := by decide +kernel
theorem dL_nets_97 : decode cL_nets 97 = .ok (.newarray .int, 2) := by decide +kernel
theorem dL_nets_99 : decode cL_nets 99 = .ok (.dup, 1) := by decide +kernel
theorem dL_nets_100 : decode cL_nets 100 = .ok (.iconst 0, 1) := by decide +kernel
theorem dL_nets_101 : decode cL_nets 101 = .ok (.aload_n 3, 1) := by decide +kernel
theorem dL_nets_102 : decode cL_nets 102 = .ok (.iload 4, 2) := by decide +kernel
theorem dL_nets_104 : decode cL_nets 104 = .ok (.iaload, 1) := by decide +kernel
theorem dL_nets_105 : decode cL_nets 105 = .ok (.iastore, 1) := by decide +kernel
theorem dL_nets_106 : decode cL_nets 106 = .ok (.dup, 1) := by decide +kernel
theorem dL_nets_107 : decode cL_nets 107 = .ok (.iconst 1, 1) := by decide +kernel
theorem dL_nets_108 : decode cL_nets 108 = .ok (.bipush 90, 2) := by decide +kernel
theorem dL_nets_110 : decode cL_nets 110 = .ok (.iastore, 1) := by decide +kernel
theorem dL_nets_111 : decode cL_nets 111 = .ok (.dup, 1) := by decide +kernel
theorem dL_nets_112 : decode cL_nets 112 = .ok (.iconst 2, 1) := by decide +kernel
theorem dL_nets_113 : decode cL_nets 113 = .ok (.iconst 0, 1) := by decide +kernel
theorem dL_nets_114 : decode cL_nets 114 = .ok (.iastore, 1) := by decide +kernel
theorem dL_nets_115 : decode cL_nets 115 = .ok (.dup, 1) := by decide +kernel
theorem dL_nets_116 : decode cL_nets 116 = .ok (.iconst 3, 1) := by decide +kernel
theorem dL_nets_117 : decode cL_nets 117 = .ok (.iconst 0, 1) := by decide +kernel
theorem dL_nets_118 : decode cL_nets 118 = .ok (.iastore, 1) := by decide +kernel
theorem dL_nets_119 : decode cL_nets 119 = .ok (.invokestatic 176, 3) := by decide +kernel
theorem dL_nets_122 : decode cL_nets 122 = .ok (.ifCond .eq 5, 3) := by decide +kernel
theorem dL_nets_125 : decode cL_nets 125 = .ok (.iconst 0, 1) := by decide +kernel
theorem dL_nets_126 : decode cL_nets 126 = .ok (.ireturn, 1) := by decide +kernel
theorem dL_nets_127 : decode cL_nets 127 = .ok (.iinc 4 1, 3) := by decide +kernel
theorem dL_nets_130 : decode cL_nets 130 = .ok (.goto (-102), 3) := by decide +kernel
theorem dL_nets_133 : decode cL_nets 133 = .ok (.iconst 0, 1) := by decide +kernel
theorem dL_nets_134 : decode cL_nets 134 = .ok (.istore 4, 2) := by decide +kernel
theorem dL_nets_136 : decode cL_nets 136 = .ok (.iload 4, 2) := by decide +kernel
theorem dL_nets_138 : decode cL_nets 138 = .ok (.iconst 5, 1) := by decide +kernel
theorem dL_nets_139 : decode cL_nets 139 = .ok (.if_icmp .ge 493, 3) := by decide +kernel
theorem dL_nets_142 : decode cL_nets 142 = .ok (.ldc 196, 2) := by decide +kernel
theorem dL_nets_144 : decode cL_nets 144 = .ok (.aload_n 0, 1) := by decide +kernel
theorem dL_nets_145 : decode cL_nets 145 = .ok (.bipush 10, 2) := by decide +kernel
theorem dL_nets_147 : decode cL_nets 147 = .ok (.iload 4, 2) := by decide +kernel
theorem dL_nets_149 : decode cL_nets 149 = .ok (.iadd, 1) := by decide +kernel
theorem dL_nets_150 : decode cL_nets 150 = .ok (.invokestatic 189, 3) := by decide +kernel
theorem dL_nets_153 : decode cL_nets 153 = .ok (.iconst 4, 1) := by decide +kernel
theorem dL_nets_154 : decode cL_nets 154 = .ok (.invokestatic 193, 3) := by decide +kernel
theorem dL_nets_157 : decode cL_nets 157 = .ok (.invokevirtual 198, 3) := by decide +kernel
theorem dL_nets_160 : decode cL_nets 160 = .ok (.istore 5, 2) := by decide +kernel
theorem dL_nets_162 : decode cL_nets 162 = .ok (.iconst 1, 1) := by decide +kernel
theorem dL_nets_163 : decode cL_nets 163 = .ok (.aload_n 0, 1) := by decide +kernel
theorem dL_nets_164 : decode cL_nets 164 = .ok (.bipush 15, 2) := by decide +kernel
theorem dL_nets_166 : decode cL_nets 166 = .ok (.iload 4, 2) := by decide +kernel
theorem dL_nets_168 : decode cL_nets 168 = .ok (.iadd, 1) := by decide +kernel
theorem dL_nets_169 : decode cL_nets 169 = .ok (.invokestatic 189, 3) := by decide +kernel
theorem dL_nets_172 : decode cL_nets 172 = .ok (.bipush 9, 2) := by decide +kernel
theorem dL_nets_174 : decode cL_nets 174 = .ok (.invokestatic 193, 3) := by decide +kernel
theorem dL_nets_177 : decode cL_nets 177 = .ok (.iadd, 1) := by decide +kernel
theorem dL_nets_178 : decode cL_nets 178 = .ok (.istore 6, 2) := by decide +kernel
theorem dL_nets_180 : decode cL_nets 180 = .ok (.iload_n 2, 1) := by decide +kernel
theorem dL_nets_181 : decode cL_nets 181 = .ok (.iload_n 2, 1) := by decide +kernel
theorem dL_nets_182 : decode cL_nets 182 = .ok (.multianewarray 204 2, 4) := by decide +kernel
theorem dL_nets_186 : decode cL_nets 186 = .ok (.astore 7, 2) := by decide +kernel
theorem dL_nets_188 : decode cL_nets 188 = .ok (.iconst 0, 1) := by decide +kernel
theorem dL_nets_189 : decode cL_nets 189 = .ok (.istore 8, 2) := by decide +kernel
theorem dL_nets_191 : decode cL_nets 191 = .ok (.iconst 0, 1) := by decide +kernel
theorem dL_nets_192 : decode cL_nets 192 = .ok (.istore 9, 2) := by decide +kernel
theorem dL_nets_194 : decode cL_nets 194 = .ok (.iload 9, 2) := by decide +kernel
theorem dL_nets_196 : decode cL_nets 196 = .ok (.iload_n 2, 1) := by decide +kernel
theorem dL_nets_197 : decode cL_nets 197 = .ok (.if_icmp .ge 141, 3) := by decide +kernel
theorem dL_nets_200 : decode cL_nets 200 = .ok (.iconst 0, 1) := by decide +kernel
theorem dL_nets_201 : decode cL_nets 201 = .ok (.istore 10, 2) := by decide +kernel
theorem dL_nets_203 : decode cL_nets 203 = .ok (.iload 10, 2) := by decide +kernel
theorem dL_nets_205 : decode cL_nets 205 = .ok (.iload_n 2, 1) := by decide +kernel
theorem dL_nets_206 : decode cL_nets 206 = .ok (.if_icmp .ge 126, 3) := by decide +kernel
theorem dL_nets_209 : decode cL_nets 209 = .ok (.iload 10, 2) := by decide +kernel
theorem dL_nets_211 : decode cL_nets 211 = .ok (.iload 9, 2) := by decide +kernel
theorem dL_nets_213 : decode cL_nets 213 = .ok (.iconst 1, 1) := by decide +kernel
theorem dL_nets_214 : decode cL_nets 214 = .ok (.iadd, 1) := by decide +kernel
theorem dL_nets_215 : decode cL_nets 215 = .ok (.iload_n 2, 1) := by decide +kernel
theorem dL_nets_216 : decode cL_nets 216 = .ok (.irem, 1) := by decide +kernel
theorem dL_nets_217 : decode cL_nets 217 = .ok (.if_icmp .ne 22, 3) := by decide +kernel
theorem dL_nets_220 : decode cL_nets 220 = .ok (.iload 5, 2) := by decide +kernel
theorem dL_nets_222 : decode cL_nets 222 = .ok (.bipush 114, 2) := by decide +kernel
theorem dL_nets_224 : decode cL_nets 224 = .ok (.if_icmp .eq 11, 3) := by decide +kernel
theorem dL_nets_227 : decode cL_nets 227 = .ok (.iload 9, 2) := by decide +kernel
theorem dL_nets_229 : decode cL_nets 229 = .ok (.iload_n 2, 1) := by decide +kernel
theorem dL_nets_230 : decode cL_nets 230 = .ok (.iconst 1, 1) := by decide +kernel
theorem dL_nets_231 : decode cL_nets 231 = .ok (.isub, 1) := by decide +kernel
theorem dL_nets_232 : decode cL_nets 232 = .ok (.if_icmp .ge 7, 3) := by decide +kernel
theorem dL_nets_235 : decode cL_nets 235 = .ok (.iconst 1, 1) := by decide +kernel
theorem dL_nets_236 : decode cL_nets 236 = .ok (.goto 4, 3) := by decide +kernel
theorem dL_nets_239 : decode cL_nets 239 = .ok (.iconst 0, 1) := by decide +kernel
theorem dL_nets_240 : decode cL_nets 240 = .ok (.istore 11, 2) := by decide +kernel
theorem dL_nets_242 : decode cL_nets 242 = .ok (.aload 7, 2) := by decide +kernel
theorem dL_nets_244 : decode cL_nets 244 = .ok (.iload 9, 2) := by decide +kernel
theorem dL_nets_246 : decode cL_nets 246 = .ok (.aaload, 1) := by decide +kernel
theorem dL_nets_247 : decode cL_nets 247 = .ok (.iload 10, 2) := by decide +kernel
theorem dL_nets_249 : decode cL_nets 249 = .ok (.iload 9, 2) := by decide +kernel
theorem dL_nets_251 : decode cL_nets 251 = .ok (.iload 10, 2) := by decide +kernel
theorem dL_nets_253 : decode cL_nets 253 = .ok (.if_icmp .eq 50, 3) := by decide +kernel
theorem dL_nets_256 : decode cL_nets 256 = .ok (.iload 5, 2) := by decide +kernel
theorem dL_nets_258 : decode cL_nets 258 = .ok (.bipush 97, 2) := by decide +kernel
theorem dL_nets_260 : decode cL_nets 260 = .ok (.if_icmp .eq 39, 3) := by decide +kernel
theorem dL_nets_263 : decode cL_nets 263 = .ok (.iload 5, 2) := by decide +kernel
theorem dL_nets_265 : decode cL_nets 265 = .ok (.bipush 104, 2) := by decide +kernel
theorem dL_nets_267 : decode cL_nets 267 = .ok (.if_icmp .ne 13, 3) := by decide +kernel
theorem dL_nets_270 : decode cL_nets 270 = .ok (.iload 9, 2) := by decide +kernel
theorem dL_nets_272 : decode cL_nets 272 = .ok (.ifCond .eq 27, 3) := by decide +kernel
theorem dL_nets_275 : decode cL_nets 275 = .ok (.iload 10, 2) := by decide +kernel
theorem dL_nets_277 : decode cL_nets 277 = .ok (.ifCond .eq 22, 3) := by decide +kernel
theorem dL_nets_280 : decode cL_nets 280 = .ok (.iload 5, 2) := by decide +kernel
theorem dL_nets_282 : decode cL_nets 282 = .ok (.bipush 114, 2) := by decide +kernel
theorem dL_nets_284 : decode cL_nets 284 = .ok (.if_icmp .eq 10, 3) := by decide +kernel
theorem dL_nets_287 : decode cL_nets 287 = .ok (.iload 5, 2) := by decide +kernel
theorem dL_nets_289 : decode cL_nets 289 = .ok (.bipush 108, 2) := by decide +kernel
theorem dL_nets_291 : decode cL_nets 291 = .ok (.if_icmp .ne 12, 3) := by decide +kernel
theorem dL_nets_294 : decode cL_nets 294 = .ok (.iload 11, 2) := by decide +kernel
theorem dL_nets_296 : decode cL_nets 296 = .ok (.ifCond .eq 7, 3) := by decide +kernel
theorem dL_nets_299 : decode cL_nets 299 = .ok (.iconst 1, 1) := by decide +kernel
theorem dL_nets_300 : decode cL_nets 300 = .ok (.goto 4, 3) := by decide +kernel
theorem dL_nets_303 : decode cL_nets 303 = .ok (.iconst 0, 1) := by decide +kernel
theorem dL_nets_304 : decode cL_nets 304 = .ok (.bastore, 1) := by decide +kernel
theorem dL_nets_305 : decode cL_nets 305 = .ok (.iload 8, 2) := by decide +kernel
theorem dL_nets_307 : decode cL_nets 307 = .ok (.aload 7, 2) := by decide +kernel
theorem dL_nets_309 : decode cL_nets 309 = .ok (.iload 9, 2) := by decide +kernel
theorem dL_nets_311 : decode cL_nets 311 = .ok (.aaload, 1) := by decide +kernel
theorem dL_nets_312 : decode cL_nets 312 = .ok (.iload 10, 2) := by decide +kernel
theorem dL_nets_314 : decode cL_nets 314 = .ok (.baload, 1) := by decide +kernel
theorem dL_nets_315 : decode cL_nets 315 = .ok (.ifCond .eq 7, 3) := by decide +kernel
theorem dL_nets_318 : decode cL_nets 318 = .ok (.iconst 1, 1) := by decide +kernel
theorem dL_nets_319 : decode cL_nets 319 = .ok (.goto 4, 3) := by decide +kernel
theorem dL_nets_322 : decode cL_nets 322 = .ok (.iconst 0, 1) := by decide +kernel
theorem dL_nets_323 : decode cL_nets 323 = .ok (.iadd, 1) := by decide +kernel
theorem dL_nets_324 : decode cL_nets 324 = .ok (.istore 8, 2) := by decide +kernel
theorem dL_nets_326 : decode cL_nets 326 = .ok (.iinc 10 1, 3) := by decide +kernel
theorem dL_nets_329 : decode cL_nets 329 = .ok (.goto (-126), 3) := by decide +kernel
theorem dL_nets_332 : decode cL_nets 332 = .ok (.iinc 9 1, 3) := by decide +kernel
theorem dL_nets_335 : decode cL_nets 335 = .ok (.goto (-141), 3) := by decide +kernel
theorem dL_nets_338 : decode cL_nets 338 = .ok (.aload_n 1, 1) := by decide +kernel
theorem dL_nets_339 : decode cL_nets 339 = .ok (.bipush 78, 2) := by decide +kernel
theorem dL_nets_341 : decode cL_nets 341 = .ok (.iconst 3, 1) := by decide +kernel
theorem dL_nets_342 : decode cL_nets 342 = .ok (.newarray .int, 2) := by decide +kernel
theorem dL_nets_344 : decode cL_nets 344 = .ok (.dup, 1) := by decide +kernel
theorem dL_nets_345 : decode cL_nets 345 = .ok (.iconst 0, 1) := by decide +kernel
theorem dL_nets_346 : decode cL_nets 346 = .ok (.iload 5, 2) := by decide +kernel
theorem dL_nets_348 : decode cL_nets 348 = .ok (.iastore, 1) := by decide +kernel
theorem dL_nets_349 : decode cL_nets 349 = .ok (.dup, 1) := by decide +kernel
theorem dL_nets_350 : decode cL_nets 350 = .ok (.iconst 1, 1) := by decide +kernel
theorem dL_nets_351 : decode cL_nets 351 = .ok (.bipush 30, 2) := by decide +kernel
theorem dL_nets_353 : decode cL_nets 353 = .ok (.iastore, 1) := by decide +kernel
theorem dL_nets_354 : decode cL_nets 354 = .ok (.dup, 1) := by decide +kernel
theorem dL_nets_355 : decode cL_nets 355 = .ok (.iconst 2, 1) := by decide +kernel
theorem dL_nets_356 : decode cL_nets 356 = .ok (.iload 6, 2) := by decide +kernel
theorem dL_nets_358 : decode cL_nets 358 = .ok (.iastore, 1) := by decide +kernel
theorem dL_nets_359 : decode cL_nets 359 = .ok (.invokestatic 176, 3) := by decide +kernel
theorem dL_nets_362 : decode cL_nets 362 = .ok (.iload 8, 2) := by decide +kernel
theorem dL_nets_364 : decode cL_nets 364 = .ok (.if_icmp .eq 5, 3) := by decide +kernel
theorem dL_nets_367 : decode cL_nets 367 = .ok (.iconst 0, 1) := by decide +kernel
theorem dL_nets_368 : decode cL_nets 368 = .ok (.ireturn, 1) := by decide +kernel
theorem dL_nets_369 : decode cL_nets 369 = .ok (.aload_n 0, 1) := by decide +kernel
theorem dL_nets_370 : decode cL_nets 370 = .ok (.bipush 20, 2) := by decide +kernel
theorem dL_nets_372 : decode cL_nets 372 = .ok (.iload 4, 2) := by decide +kernel
theorem dL_nets_374 : decode cL_nets 374 = .ok (.iadd, 1) := by decide +kernel
theorem dL_nets_375 : decode cL_nets 375 = .ok (.invokestatic 189, 3) := by decide +kernel
theorem dL_nets_378 : decode cL_nets 378 = .ok (.iload_n 2, 1) := by decide +kernel
theorem dL_nets_379 : decode cL_nets 379 = .ok (.invokestatic 193, 3) := by decide +kernel
theorem dL_nets_382 : decode cL_nets 382 = .ok (.istore 9, 2) := by decide +kernel
theorem dL_nets_384 : decode cL_nets 384 = .ok (.iload_n 2, 1) := by decide +kernel
theorem dL_nets_385 : decode cL_nets 385 = .ok (.newarray .int, 2) := by decide +kernel
theorem dL_nets_387 : decode cL_nets 387 = .ok (.astore 10, 2) := by decide +kernel
theorem dL_nets_389 : decode cL_nets 389 = .ok (.iconst 0, 1) := by decide +kernel
theorem dL_nets_390 : decode cL_nets 390 = .ok (.istore 11, 2) := by decide +kernel
theorem dL_nets_392 : decode cL_nets 392 = .ok (.iload 11, 2) := by decide +kernel
theorem dL_nets_394 : decode cL_nets 394 = .ok (.iload_n 2, 1) := by decide +kernel
theorem dL_nets_395 : decode cL_nets 395 = .ok (.if_icmp .ge 68, 3) := by decide +kernel
theorem dL_nets_398 : decode cL_nets 398 = .ok (.aload_n 1, 1) := by decide +kernel
theorem dL_nets_399 : decode cL_nets 399 = .ok (.bipush 120, 2) := by decide +kernel
theorem dL_nets_401 : decode cL_nets 401 = .ok (.iconst 2, 1) := by decide +kernel
theorem dL_nets_402 : decode cL_nets 402 = .ok (.newarray .int, 2) := by decide +kernel
theorem dL_nets_404 : decode cL_nets 404 = .ok (.dup, 1) := by decide +kernel
theorem dL_nets_405 : decode cL_nets 405 = .ok (.iconst 0, 1) := by decide +kernel
theorem dL_nets_406 : decode cL_nets 406 = .ok (.aload_n 3, 1) := by decide +kernel
theorem dL_nets_407 : decode cL_nets 407 = .ok (.iload 11, 2) := by decide +kernel
theorem dL_nets_409 : decode cL_nets 409 = .ok (.iaload, 1) := by decide +kernel
theorem dL_nets_410 : decode cL_nets 410 = .ok (.iastore, 1) := by decide +kernel
theorem dL_nets_411 : decode cL_nets 411 = .ok (.dup, 1) := by decide +kernel
theorem dL_nets_412 : decode cL_nets 412 = .ok (.iconst 1, 1) := by decide +kernel
theorem dL_nets_413 : decode cL_nets 413 = .ok (.bipush (-99), 2) := by decide +kernel
theorem dL_nets_415 : decode cL_nets 415 = .ok (.iastore, 1) := by decide +kernel
theorem dL_nets_416 : decode cL_nets 416 = .ok (.invokestatic 176, 3) := by decide +kernel
theorem dL_nets_419 : decode cL_nets 419 = .ok (.ifCond .ne 36, 3) := by decide +kernel
theorem dL_nets_422 : decode cL_nets 422 = .ok (.iload 11, 2) := by decide +kernel
theorem dL_nets_424 : decode cL_nets 424 = .ok (.iload 9, 2) := by decide +kernel
theorem dL_nets_426 : decode cL_nets 426 = .ok (.if_icmp .ne 31, 3) := by decide +kernel
theorem dL_nets_429 : decode cL_nets 429 = .ok (.aload_n 1, 1) := by decide +kernel
theorem dL_nets_430 : decode cL_nets 430 = .ok (.bipush 120, 2) := by decide +kernel
theorem dL_nets_432 : decode cL_nets 432 = .ok (.iconst 2, 1) := by decide +kernel
theorem dL_nets_433 : decode cL_nets 433 = .ok (.newarray .int, 2) := by decide +kernel
theorem dL_nets_435 : decode cL_nets 435 = .ok (.dup, 1) := by decide +kernel
theorem dL_nets_436 : decode cL_nets 436 = .ok (.iconst 0, 1) := by decide +kernel
theorem dL_nets_437 : decode cL_nets 437 = .ok (.aload_n 3, 1) := by decide +kernel
theorem dL_nets_438 : decode cL_nets 438 = .ok (.iload 11, 2) := by decide +kernel
theorem dL_nets_440 : decode cL_nets 440 = .ok (.iaload, 1) := by decide +kernel
theorem dL_nets_441 : decode cL_nets 441 = .ok (.iastore, 1) := by decide +kernel
theorem dL_nets_442 : decode cL_nets 442 = .ok (.dup, 1) := by decide +kernel
theorem dL_nets_443 : decode cL_nets 443 = .ok (.iconst 1, 1) := by decide +kernel
theorem dL_nets_444 : decode cL_nets 444 = .ok (.bipush 99, 2) := by decide +kernel
theorem dL_nets_446 : decode cL_nets 446 = .ok (.iastore, 1) := by decide +kernel
theorem dL_nets_447 : decode cL_nets 447 = .ok (.invokestatic 176, 3) := by decide +kernel
theorem dL_nets_450 : decode cL_nets 450 = .ok (.bipush 89, 2) := by decide +kernel
theorem dL_nets_452 : decode cL_nets 452 = .ok (.if_icmp .eq 5, 3) := by decide +kernel
theorem dL_nets_455 : decode cL_nets 455 = .ok (.iconst 0, 1) := by decide +kernel
theorem dL_nets_456 : decode cL_nets 456 = .ok (.ireturn, 1) := by decide +kernel
theorem dL_nets_457 : decode cL_nets 457 = .ok (.iinc 11 1, 3) := by decide +kernel
theorem dL_nets_460 : decode cL_nets 460 = .ok (.goto (-68), 3) := by decide +kernel
theorem dL_nets_463 : decode cL_nets 463 = .ok (.iconst 0, 1) := by decide +kernel
theorem dL_nets_464 : decode cL_nets 464 = .ok (.istore 11, 2) := by decide +kernel
theorem dL_nets_466 : decode cL_nets 466 = .ok (.iload 11, 2) := by decide +kernel
theorem dL_nets_468 : decode cL_nets 468 = .ok (.iload_n 2, 1) := by decide +kernel
theorem dL_nets_469 : decode cL_nets 469 = .ok (.if_icmp .ge 30, 3) := by decide +kernel
theorem dL_nets_472 : decode cL_nets 472 = .ok (.aload 10, 2) := by decide +kernel
theorem dL_nets_474 : decode cL_nets 474 = .ok (.iload 11, 2) := by decide +kernel
theorem dL_nets_476 : decode cL_nets 476 = .ok (.aload_n 1, 1) := by decide +kernel
theorem dL_nets_477 : decode cL_nets 477 = .ok (.bipush 119, 2) := by decide +kernel
theorem dL_nets_479 : decode cL_nets 479 = .ok (.iconst 1, 1) := by decide +kernel
theorem dL_nets_480 : decode cL_nets 480 = .ok (.newarray .int, 2) := by decide +kernel
theorem dL_nets_482 : decode cL_nets 482 = .ok (.dup, 1) := by decide +kernel
theorem dL_nets_483 : decode cL_nets 483 = .ok (.iconst 0, 1) := by decide +kernel
theorem dL_nets_484 : decode cL_nets 484 = .ok (.aload_n 3, 1) := by decide +kernel
theorem dL_nets_485 : decode cL_nets 485 = .ok (.iload 11, 2) := by decide +kernel
theorem dL_nets_487 : decode cL_nets 487 = .ok (.iaload, 1) := by decide +kernel
theorem dL_nets_488 : decode cL_nets 488 = .ok (.iastore, 1) := by decide +kernel
