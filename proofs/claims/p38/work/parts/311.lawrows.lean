set_option maxRecDepth 20000 in
theorem ggL_areMovesSo_X8_distance : GoodIn wsL_areMovesSo wsX8_distance := goodIn_ca (goodIn_r _ [42, 10, 11, 6, 7, 8, 4, 9, 16, 13, 17, 18, 19, 20, 21, 22, 23, 24, 25, 26, 27, 28, 29, 30, 31, 32, 33, 34, 35, 132, 133, 134, 135, 136, 137, 138, 139, 140, 141, 142, 143, 144, 145, 146, 147, 148, 149, 150] (by decide +kernel) (by decide +kernel)) (goodIn_sub (fun _ h => List.mem_cons_of_mem _ (List.mem_append_left _ (List.mem_append_right _ h))) (by decide +kernel))
set_option maxRecDepth 20000 in
theorem gL_areMovesSo_X8_distance : GoodIn wsL_areMovesSo (wsV RL 84 RX8 yX8_distance wsX8_distance) := goodIn_app (goodIn_of _ (by decide +kernel)) ggL_areMovesSo_X8_distance
set_option maxRecDepth 20000 in
theorem ggL_areMovesSo_L_steps : GoodIn wsL_areMovesSo wsL_steps := goodIn_r _ [46] (by decide +kernel) (by decide +kernel)
set_option maxRecDepth 20000 in
theorem gL_areMovesSo_L_steps : GoodIn wsL_areMovesSo (va_wsS RL 87 yL_steps wsL_steps) := goodIn_app (goodIn_of _ (by decide +kernel)) ggL_areMovesSo_L_steps
set_option maxRecDepth 20000 in
theorem ggL_areMovesSo_X8_bestMoveByStopping : GoodIn wsL_areMovesSo wsX8_bestMoveByStopping := goodIn_ca (goodIn_r _ [50, 6, 7, 8, 4, 9, 10, 11, 51, 13, 52, 53, 54, 55, 56, 18, 19, 20, 21, 26, 27, 22, 23, 24, 25, 33, 29, 34, 35, 32, 28, 30, 31, 132, 133, 134, 135, 136, 137, 138, 139, 140, 141, 142, 143, 144, 145, 146, 147, 148, 149, 150] (by decide +kernel) (by decide +kernel)) (goodIn_sub (fun _ h => List.mem_cons_of_mem _ (List.mem_append_left _ (List.mem_append_right _ h))) (by decide +kernel))
set_option maxRecDepth 20000 in
theorem gL_areMovesSo_X8_bestMoveByStopping : GoodIn wsL_areMovesSo (wsV RL 90 RX8 yX8_bestMoveByStopping wsX8_bestMoveByStopping) := goodIn_app (goodIn_of _ (by decide +kernel)) ggL_areMovesSo_X8_bestMoveByStopping
set_option maxRecDepth 20000 in
theorem ggL_areMovesSo_X8_kindWith : GoodIn wsL_areMovesSo wsX8_kindWith := goodIn_ca (goodIn_ca (goodIn_r _ [60, 61, 6, 7, 8, 4, 9, 10, 11, 62, 63, 64, 65, 66, 12, 13, 14, 15, 16, 17, 18, 19, 20, 21, 22, 23, 24, 25, 26, 27, 28, 29, 30, 31, 32, 33, 34, 35, 36, 37, 38, 67, 68, 69, 70, 71, 72, 73, 74, 75, 76, 77, 78, 79, 80, 81, 82, 83, 84, 85, 86, 87, 88, 89, 90, 132, 133, 134, 135, 136, 137, 138, 139, 140, 141, 142, 143, 144, 145, 146, 147, 148, 149, 150, 151, 152, 153, 154, 155, 156] (by decide +kernel) (by decide +kernel)) (goodIn_sub (fun _ h => List.mem_cons_of_mem _ (List.mem_append_left _ (List.mem_append_right _ h))) (by decide +kernel))) (goodIn_sub (fun _ h => List.mem_cons_of_mem _ (List.mem_append_right _ h)) (by decide +kernel))
set_option maxRecDepth 20000 in
theorem gL_areMovesSo_X8_kindWith : GoodIn wsL_areMovesSo (wsV RL 93 RX8 yX8_kindWith wsX8_kindWith) := goodIn_app (goodIn_of _ (by decide +kernel)) ggL_areMovesSo_X8_kindWith
set_option maxRecDepth 20000 in
theorem ggL_areMovesSo_X8_bitsWith : GoodIn wsL_areMovesSo wsX8_bitsWith := goodIn_ca (goodIn_ca (goodIn_r _ [94, 61, 6, 7, 8, 4, 9, 10, 11, 62, 63, 64, 65, 66, 12, 13, 14, 15, 16, 17, 18, 19, 20, 21, 22, 23, 24, 25, 26, 27, 28, 29, 30, 31, 32, 33, 34, 35, 36, 37, 38, 67, 68, 69, 70, 71, 72, 73, 74, 75, 76, 77, 78, 79, 80, 81, 82, 83, 84, 85, 86, 87, 132, 133, 134, 135, 136, 137, 138, 139, 140, 141, 142, 143, 144, 145, 146, 147, 148, 149, 150, 151, 152, 153, 154, 155, 156] (by decide +kernel) (by decide +kernel)) (goodIn_sub (fun _ h => List.mem_cons_of_mem _ (List.mem_append_left _ (List.mem_append_right _ h))) (by decide +kernel))) (goodIn_sub (fun _ h => List.mem_cons_of_mem _ (List.mem_append_right _ h)) (by decide +kernel))
set_option maxRecDepth 20000 in
theorem gL_areMovesSo_X8_bitsWith : GoodIn wsL_areMovesSo (wsV RL 96 RX8 yX8_bitsWith wsX8_bitsWith) := goodIn_app (goodIn_of _ (by decide +kernel)) ggL_areMovesSo_X8_bitsWith
set_option maxRecDepth 20000 in
theorem ggL_areMovesSo_X8_bitsByWriting : GoodIn wsL_areMovesSo wsX8_bitsByWriting := goodIn_ca (goodIn_ca (goodIn_r _ [98, 61, 6, 99, 7, 8, 4, 9, 10, 11, 62, 63, 64, 65, 66, 51, 13, 52, 53, 54, 55, 56, 18, 19, 20, 21, 26, 27, 22, 23, 24, 25, 33, 29, 34, 35, 32, 28, 30, 31, 67, 68, 69, 70, 71, 72, 73, 74, 75, 76, 100, 101, 102, 103, 104, 105, 106, 107, 108, 109, 110, 111, 112, 113, 114, 115, 116, 82, 83, 84, 117, 118, 119, 120, 121, 122, 123, 124, 125, 132, 133, 134, 135, 136, 137, 138, 139, 140, 141, 142, 143, 144, 145, 146, 147, 148, 149, 150, 151, 152, 153, 154, 155, 156, 157, 158] (by decide +kernel) (by decide +kernel)) (goodIn_sub (fun _ h => List.mem_cons_of_mem _ (List.mem_append_left _ (List.mem_append_right _ h))) (by decide +kernel))) (goodIn_sub (fun _ h => List.mem_cons_of_mem _ (List.mem_append_right _ h)) (by decide +kernel))
set_option maxRecDepth 20000 in
theorem gL_areMovesSo_X8_bitsByWriting : GoodIn wsL_areMovesSo (wsV RL 99 RX8 yX8_bitsByWriting wsX8_bitsByWriting) := goodIn_app (goodIn_of _ (by decide +kernel)) ggL_areMovesSo_X8_bitsByWriting
set_option maxRecDepth 20000 in
theorem ggL_areMovesSo_X8_equalMoves : GoodIn wsL_areMovesSo wsX8_equalMoves := goodIn_ca (goodIn_r _ [129, 6, 7, 8, 4, 9, 10, 11, 130, 13, 131, 15, 16, 17, 18, 19, 20, 21, 22, 23, 24, 25, 26, 27, 28, 29, 30, 31, 32, 33, 34, 35, 132, 133, 134, 135, 136, 137, 138, 139, 140, 141, 142, 143, 144, 145, 146, 147, 148, 149, 150] (by decide +kernel) (by decide +kernel)) (goodIn_sub (fun _ h => List.mem_cons_of_mem _ (List.mem_append_left _ (List.mem_append_right _ h))) (by decide +kernel))
set_option maxRecDepth 20000 in
theorem gL_areMovesSo_X8_equalMoves : GoodIn wsL_areMovesSo (wsV RL 102 RX8 yX8_equalMoves wsX8_equalMoves) := goodIn_app (goodIn_of _ (by decide +kernel)) ggL_areMovesSo_X8_equalMoves
theorem dL_areMovesSo_0 : decode cL_areMovesSo 0 = .ok (.aload_n 0, 1) := by decide +kernel
theorem dL_areMovesSo_1 : decode cL_areMovesSo 1 = .ok (.iload_n 1, 1) := by decide +kernel
theorem dL_areMovesSo_2 : decode cL_areMovesSo 2 = .ok (.invokevirtual 81, 3) := by decide +kernel
theorem dL_areMovesSo_5 : decode cL_areMovesSo 5 = .ok (.istore_n 2, 1) := by decide +kernel
theorem dL_areMovesSo_6 : decode cL_areMovesSo 6 = .ok (.aload_n 0, 1) := by decide +kernel
theorem dL_areMovesSo_7 : decode cL_areMovesSo 7 = .ok (.iload_n 1, 1) := by decide +kernel
theorem dL_areMovesSo_8 : decode cL_areMovesSo 8 = .ok (.iload_n 2, 1) := by decide +kernel
theorem dL_areMovesSo_9 : decode cL_areMovesSo 9 = .ok (.invokevirtual 84, 3) := by decide +kernel
theorem dL_areMovesSo_12 : decode cL_areMovesSo 12 = .ok (.istore_n 3, 1) := by decide +kernel
theorem dL_areMovesSo_13 : decode cL_areMovesSo 13 = .ok (.iload_n 2, 1) := by decide +kernel
theorem dL_areMovesSo_14 : decode cL_areMovesSo 14 = .ok (.invokestatic 87, 3) := by decide +kernel
theorem dL_areMovesSo_17 : decode cL_areMovesSo 17 = .ok (.istore 4, 2) := by decide +kernel
theorem dL_areMovesSo_19 : decode cL_areMovesSo 19 = .ok (.iconst 0, 1) := by decide +kernel
theorem dL_areMovesSo_20 : decode cL_areMovesSo 20 = .ok (.istore 5, 2) := by decide +kernel
theorem dL_areMovesSo_22 : decode cL_areMovesSo 22 = .ok (.bipush 66, 2) := by decide +kernel
theorem dL_areMovesSo_24 : decode cL_areMovesSo 24 = .ok (.istore 6, 2) := by decide +kernel
theorem dL_areMovesSo_26 : decode cL_areMovesSo 26 = .ok (.iload_n 2, 1) := by decide +kernel
theorem dL_areMovesSo_27 : decode cL_areMovesSo 27 = .ok (.aload_n 0, 1) := by decide +kernel
theorem dL_areMovesSo_28 : decode cL_areMovesSo 28 = .ok (.iload_n 1, 1) := by decide +kernel
theorem dL_areMovesSo_29 : decode cL_areMovesSo 29 = .ok (.invokevirtual 90, 3) := by decide +kernel
theorem dL_areMovesSo_32 : decode cL_areMovesSo 32 = .ok (.if_icmp .ne 7, 3) := by decide +kernel
theorem dL_areMovesSo_35 : decode cL_areMovesSo 35 = .ok (.iconst 1, 1) := by decide +kernel
theorem dL_areMovesSo_36 : decode cL_areMovesSo 36 = .ok (.goto 4, 3) := by decide +kernel
theorem dL_areMovesSo_39 : decode cL_areMovesSo 39 = .ok (.iconst 0, 1) := by decide +kernel
theorem dL_areMovesSo_40 : decode cL_areMovesSo 40 = .ok (.istore 7, 2) := by decide +kernel
theorem dL_areMovesSo_42 : decode cL_areMovesSo 42 = .ok (.iconst 0, 1) := by decide +kernel
theorem dL_areMovesSo_43 : decode cL_areMovesSo 43 = .ok (.istore 8, 2) := by decide +kernel
theorem dL_areMovesSo_45 : decode cL_areMovesSo 45 = .ok (.iload 8, 2) := by decide +kernel
theorem dL_areMovesSo_47 : decode cL_areMovesSo 47 = .ok (.bipush 25, 2) := by decide +kernel
theorem dL_areMovesSo_49 : decode cL_areMovesSo 49 = .ok (.if_icmp .ge 92, 3) := by decide +kernel
theorem dL_areMovesSo_52 : decode cL_areMovesSo 52 = .ok (.aload_n 0, 1) := by decide +kernel
theorem dL_areMovesSo_53 : decode cL_areMovesSo 53 = .ok (.iload_n 1, 1) := by decide +kernel
theorem dL_areMovesSo_54 : decode cL_areMovesSo 54 = .ok (.iload 8, 2) := by decide +kernel
theorem dL_areMovesSo_56 : decode cL_areMovesSo 56 = .ok (.invokevirtual 84, 3) := by decide +kernel
theorem dL_areMovesSo_59 : decode cL_areMovesSo 59 = .ok (.istore 9, 2) := by decide +kernel
theorem dL_areMovesSo_61 : decode cL_areMovesSo 61 = .ok (.iload 5, 2) := by decide +kernel
theorem dL_areMovesSo_63 : decode cL_areMovesSo 63 = .ok (.iload 9, 2) := by decide +kernel
theorem dL_areMovesSo_65 : decode cL_areMovesSo 65 = .ok (.iload_n 3, 1) := by decide +kernel
theorem dL_areMovesSo_66 : decode cL_areMovesSo 66 = .ok (.if_icmp .ne 7, 3) := by decide +kernel
theorem dL_areMovesSo_69 : decode cL_areMovesSo 69 = .ok (.iconst 1, 1) := by decide +kernel
theorem dL_areMovesSo_70 : decode cL_areMovesSo 70 = .ok (.goto 4, 3) := by decide +kernel
theorem dL_areMovesSo_73 : decode cL_areMovesSo 73 = .ok (.iconst 0, 1) := by decide +kernel
theorem dL_areMovesSo_74 : decode cL_areMovesSo 74 = .ok (.iadd, 1) := by decide +kernel
theorem dL_areMovesSo_75 : decode cL_areMovesSo 75 = .ok (.istore 5, 2) := by decide +kernel
theorem dL_areMovesSo_77 : decode cL_areMovesSo 77 = .ok (.iload 7, 2) := by decide +kernel
theorem dL_areMovesSo_79 : decode cL_areMovesSo 79 = .ok (.ifCond .eq 53, 3) := by decide +kernel
theorem dL_areMovesSo_82 : decode cL_areMovesSo 82 = .ok (.iload 9, 2) := by decide +kernel
theorem dL_areMovesSo_84 : decode cL_areMovesSo 84 = .ok (.iload_n 3, 1) := by decide +kernel
theorem dL_areMovesSo_85 : decode cL_areMovesSo 85 = .ok (.if_icmp .lt 47, 3) := by decide +kernel
theorem dL_areMovesSo_88 : decode cL_areMovesSo 88 = .ok (.iload 9, 2) := by decide +kernel
theorem dL_areMovesSo_90 : decode cL_areMovesSo 90 = .ok (.sipush 240, 3) := by decide +kernel
theorem dL_areMovesSo_93 : decode cL_areMovesSo 93 = .ok (.if_icmp .gt 39, 3) := by decide +kernel
theorem dL_areMovesSo_96 : decode cL_areMovesSo 96 = .ok (.iload 9, 2) := by decide +kernel
theorem dL_areMovesSo_98 : decode cL_areMovesSo 98 = .ok (.iload_n 3, 1) := by decide +kernel
theorem dL_areMovesSo_99 : decode cL_areMovesSo 99 = .ok (.if_icmp .gt 29, 3) := by decide +kernel
theorem dL_areMovesSo_102 : decode cL_areMovesSo 102 = .ok (.iload 8, 2) := by decide +kernel
theorem dL_areMovesSo_104 : decode cL_areMovesSo 104 = .ok (.invokestatic 87, 3) := by decide +kernel
theorem dL_areMovesSo_107 : decode cL_areMovesSo 107 = .ok (.iload 4, 2) := by decide +kernel
theorem dL_areMovesSo_109 : decode cL_areMovesSo 109 = .ok (.if_icmp .gt 19, 3) := by decide +kernel
theorem dL_areMovesSo_112 : decode cL_areMovesSo 112 = .ok (.iload 8, 2) := by decide +kernel
theorem dL_areMovesSo_114 : decode cL_areMovesSo 114 = .ok (.invokestatic 87, 3) := by decide +kernel
theorem dL_areMovesSo_117 : decode cL_areMovesSo 117 = .ok (.iload 4, 2) := by decide +kernel
theorem dL_areMovesSo_119 : decode cL_areMovesSo 119 = .ok (.if_icmp .ne 13, 3) := by decide +kernel
theorem dL_areMovesSo_122 : decode cL_areMovesSo 122 = .ok (.iload 8, 2) := by decide +kernel
theorem dL_areMovesSo_124 : decode cL_areMovesSo 124 = .ok (.iload_n 2, 1) := by decide +kernel
theorem dL_areMovesSo_125 : decode cL_areMovesSo 125 = .ok (.if_icmp .lt 7, 3) := by decide +kernel
theorem dL_areMovesSo_128 : decode cL_areMovesSo 128 = .ok (.iconst 1, 1) := by decide +kernel
theorem dL_areMovesSo_129 : decode cL_areMovesSo 129 = .ok (.goto 4, 3) := by decide +kernel
theorem dL_areMovesSo_132 : decode cL_areMovesSo 132 = .ok (.iconst 0, 1) := by decide +kernel
theorem dL_areMovesSo_133 : decode cL_areMovesSo 133 = .ok (.istore 7, 2) := by decide +kernel
theorem dL_areMovesSo_135 : decode cL_areMovesSo 135 = .ok (.iinc 8 1, 3) := by decide +kernel
theorem dL_areMovesSo_138 : decode cL_areMovesSo 138 = .ok (.goto (-93), 3) := by decide +kernel
theorem dL_areMovesSo_141 : decode cL_areMovesSo 141 = .ok (.iconst 1, 1) := by decide +kernel
theorem dL_areMovesSo_142 : decode cL_areMovesSo 142 = .ok (.istore 8, 2) := by decide +kernel
theorem dL_areMovesSo_144 : decode cL_areMovesSo 144 = .ok (.iload 8, 2) := by decide +kernel
theorem dL_areMovesSo_146 : decode cL_areMovesSo 146 = .ok (.bipush 9, 2) := by decide +kernel
theorem dL_areMovesSo_148 : decode cL_areMovesSo 148 = .ok (.if_icmp .ge 144, 3) := by decide +kernel
theorem dL_areMovesSo_151 : decode cL_areMovesSo 151 = .ok (.aload_n 0, 1) := by decide +kernel
theorem dL_areMovesSo_152 : decode cL_areMovesSo 152 = .ok (.iload_n 1, 1) := by decide +kernel
theorem dL_areMovesSo_153 : decode cL_areMovesSo 153 = .ok (.iload 8, 2) := by decide +kernel
theorem dL_areMovesSo_155 : decode cL_areMovesSo 155 = .ok (.invokevirtual 93, 3) := by decide +kernel
theorem dL_areMovesSo_158 : decode cL_areMovesSo 158 = .ok (.istore 9, 2) := by decide +kernel
theorem dL_areMovesSo_160 : decode cL_areMovesSo 160 = .ok (.aload_n 0, 1) := by decide +kernel
theorem dL_areMovesSo_161 : decode cL_areMovesSo 161 = .ok (.iload_n 1, 1) := by decide +kernel
theorem dL_areMovesSo_162 : decode cL_areMovesSo 162 = .ok (.iload 8, 2) := by decide +kernel
theorem dL_areMovesSo_164 : decode cL_areMovesSo 164 = .ok (.invokevirtual 96, 3) := by decide +kernel
theorem dL_areMovesSo_167 : decode cL_areMovesSo 167 = .ok (.istore 10, 2) := by decide +kernel
theorem dL_areMovesSo_169 : decode cL_areMovesSo 169 = .ok (.iload 7, 2) := by decide +kernel
theorem dL_areMovesSo_171 : decode cL_areMovesSo 171 = .ok (.ifCond .eq 108, 3) := by decide +kernel
theorem dL_areMovesSo_174 : decode cL_areMovesSo 174 = .ok (.iload 10, 2) := by decide +kernel
theorem dL_areMovesSo_176 : decode cL_areMovesSo 176 = .ok (.aload_n 0, 1) := by decide +kernel
theorem dL_areMovesSo_177 : decode cL_areMovesSo 177 = .ok (.iload_n 1, 1) := by decide +kernel
theorem dL_areMovesSo_178 : decode cL_areMovesSo 178 = .ok (.iload 8, 2) := by decide +kernel
theorem dL_areMovesSo_180 : decode cL_areMovesSo 180 = .ok (.invokevirtual 99, 3) := by decide +kernel
theorem dL_areMovesSo_183 : decode cL_areMovesSo 183 = .ok (.if_icmp .ne 96, 3) := by decide +kernel
theorem dL_areMovesSo_186 : decode cL_areMovesSo 186 = .ok (.iload 10, 2) := by decide +kernel
theorem dL_areMovesSo_188 : decode cL_areMovesSo 188 = .ok (.iload 6, 2) := by decide +kernel
theorem dL_areMovesSo_190 : decode cL_areMovesSo 190 = .ok (.if_icmp .gt 89, 3) := by decide +kernel
theorem dL_areMovesSo_193 : decode cL_areMovesSo 193 = .ok (.iload 9, 2) := by decide +kernel
theorem dL_areMovesSo_195 : decode cL_areMovesSo 195 = .ok (.ifCond .ne 13, 3) := by decide +kernel
theorem dL_areMovesSo_198 : decode cL_areMovesSo 198 = .ok (.iload 10, 2) := by decide +kernel
theorem dL_areMovesSo_200 : decode cL_areMovesSo 200 = .ok (.bipush 66, 2) := by decide +kernel
theorem dL_areMovesSo_202 : decode cL_areMovesSo 202 = .ok (.if_icmp .ne 77, 3) := by decide +kernel
theorem dL_areMovesSo_205 : decode cL_areMovesSo 205 = .ok (.goto 61, 3) := by decide +kernel
theorem dL_areMovesSo_208 : decode cL_areMovesSo 208 = .ok (.iload 9, 2) := by decide +kernel
theorem dL_areMovesSo_210 : decode cL_areMovesSo 210 = .ok (.iconst 1, 1) := by decide +kernel
theorem dL_areMovesSo_211 : decode cL_areMovesSo 211 = .ok (.if_icmp .ne 18, 3) := by decide +kernel
theorem dL_areMovesSo_214 : decode cL_areMovesSo 214 = .ok (.iload 10, 2) := by decide +kernel
theorem dL_areMovesSo_216 : decode cL_areMovesSo 216 = .ok (.iconst 1, 1) := by decide +kernel
theorem dL_areMovesSo_217 : decode cL_areMovesSo 217 = .ok (.if_icmp .ne 62, 3) := by decide +kernel
theorem dL_areMovesSo_220 : decode cL_areMovesSo 220 = .ok (.iload_n 2, 1) := by decide +kernel
theorem dL_areMovesSo_221 : decode cL_areMovesSo 221 = .ok (.bipush 12, 2) := by decide +kernel
theorem dL_areMovesSo_223 : decode cL_areMovesSo 223 = .ok (.if_icmp .ne 56, 3) := by decide +kernel
theorem dL_areMovesSo_226 : decode cL_areMovesSo 226 = .ok (.goto 40, 3) := by decide +kernel
theorem dL_areMovesSo_229 : decode cL_areMovesSo 229 = .ok (.iload 9, 2) := by decide +kernel
theorem dL_areMovesSo_231 : decode cL_areMovesSo 231 = .ok (.iconst 2, 1) := by decide +kernel
theorem dL_areMovesSo_232 : decode cL_areMovesSo 232 = .ok (.if_icmp .ne 47, 3) := by decide +kernel
theorem dL_areMovesSo_235 : decode cL_areMovesSo 235 = .ok (.iload 10, 2) := by decide +kernel
theorem dL_areMovesSo_237 : decode cL_areMovesSo 237 = .ok (.bipush 22, 2) := by decide +kernel
theorem dL_areMovesSo_239 : decode cL_areMovesSo 239 = .ok (.if_icmp .lt 40, 3) := by decide +kernel
theorem dL_areMovesSo_242 : decode cL_areMovesSo 242 = .ok (.iload 10, 2) := by decide +kernel
theorem dL_areMovesSo_244 : decode cL_areMovesSo 244 = .ok (.bipush 66, 2) := by decide +kernel
theorem dL_areMovesSo_246 : decode cL_areMovesSo 246 = .ok (.if_icmp .gt 33, 3) := by decide +kernel
theorem dL_areMovesSo_249 : decode cL_areMovesSo 249 = .ok (.iload_n 3, 1) := by decide +kernel
theorem dL_areMovesSo_250 : decode cL_areMovesSo 250 = .ok (.ifCond .gt 16, 3) := by decide +kernel
theorem dL_areMovesSo_253 : decode cL_areMovesSo 253 = .ok (.iload 10, 2) := by decide +kernel
theorem dL_areMovesSo_255 : decode cL_areMovesSo 255 = .ok (.bipush 22, 2) := by decide +kernel
theorem dL_areMovesSo_257 : decode cL_areMovesSo 257 = .ok (.if_icmp .ne 22, 3) := by decide +kernel
theorem dL_areMovesSo_260 : decode cL_areMovesSo 260 = .ok (.iload_n 2, 1) := by decide +kernel
theorem dL_areMovesSo_261 : decode cL_areMovesSo 261 = .ok (.bipush 12, 2) := by decide +kernel
theorem dL_areMovesSo_263 : decode cL_areMovesSo 263 = .ok (.if_icmp .eq 16, 3) := by decide +kernel
theorem dL_areMovesSo_266 : decode cL_areMovesSo 266 = .ok (.iload_n 3, 1) := by decide +kernel
theorem dL_areMovesSo_267 : decode cL_areMovesSo 267 = .ok (.ifCond .gt 8, 3) := by decide +kernel
theorem dL_areMovesSo_270 : decode cL_areMovesSo 270 = .ok (.iload 9, 2) := by decide +kernel
theorem dL_areMovesSo_272 : decode cL_areMovesSo 272 = .ok (.ifCond .le 7, 3) := by decide +kernel
theorem dL_areMovesSo_275 : decode cL_areMovesSo 275 = .ok (.iconst 1, 1) := by decide +kernel
theorem dL_areMovesSo_276 : decode cL_areMovesSo 276 = .ok (.goto 4, 3) := by decide +kernel
theorem dL_areMovesSo_279 : decode cL_areMovesSo 279 = .ok (.iconst 0, 1) := by decide +kernel
theorem dL_areMovesSo_280 : decode cL_areMovesSo 280 = .ok (.istore 7, 2) := by decide +kernel
theorem dL_areMovesSo_282 : decode cL_areMovesSo 282 = .ok (.iload 10, 2) := by decide +kernel
theorem dL_areMovesSo_284 : decode cL_areMovesSo 284 = .ok (.istore 6, 2) := by decide +kernel
theorem dL_areMovesSo_286 : decode cL_areMovesSo 286 = .ok (.iinc 8 1, 3) := by decide +kernel
theorem dL_areMovesSo_289 : decode cL_areMovesSo 289 = .ok (.goto (-145), 3) := by decide +kernel
theorem dL_areMovesSo_292 : decode cL_areMovesSo 292 = .ok (.iload 7, 2) := by decide +kernel
theorem dL_areMovesSo_294 : decode cL_areMovesSo 294 = .ok (.ifCond .eq 17, 3) := by decide +kernel
theorem dL_areMovesSo_297 : decode cL_areMovesSo 297 = .ok (.aload_n 0, 1) := by decide +kernel
theorem dL_areMovesSo_298 : decode cL_areMovesSo 298 = .ok (.iload_n 1, 1) := by decide +kernel
theorem dL_areMovesSo_299 : decode cL_areMovesSo 299 = .ok (.invokevirtual 102, 3) := by decide +kernel
theorem dL_areMovesSo_302 : decode cL_areMovesSo 302 = .ok (.iload 5, 2) := by decide +kernel
theorem dL_areMovesSo_304 : decode cL_areMovesSo 304 = .ok (.if_icmp .ne 7, 3) := by decide +kernel
theorem dL_areMovesSo_307 : decode cL_areMovesSo 307 = .ok (.iconst 1, 1) := by decide +kernel
theorem dL_areMovesSo_308 : decode cL_areMovesSo 308 = .ok (.goto 4, 3) := by decide +kernel
theorem dL_areMovesSo_311 : decode cL_areMovesSo 311 = .ok (.iconst 0, 1) := by decide +kernel
theorem dL_areMovesSo_312 : decode cL_areMovesSo 312 = .ok (.ireturn, 1) := by decide +kernel
theorem dL_steps_0 : decode cL_steps 0 = .ok (.iload_n 0, 1) := by decide +kernel
theorem dL_steps_1 : decode cL_steps 1 = .ok (.iconst 5, 1) := by decide +kernel
theorem dL_steps_2 : decode cL_steps 2 = .ok (.idiv, 1) := by decide +kernel
theorem dL_steps_3 : decode cL_steps 3 = .ok (.iconst 2, 1) := by decide +kernel
theorem dL_steps_4 : decode cL_steps 4 = .ok (.isub, 1) := by decide +kernel
theorem dL_steps_5 : decode cL_steps 5 = .ok (.istore_n 1, 1) := by decide +kernel
theorem dL_steps_6 : decode cL_steps 6 = .ok (.iload_n 0, 1) := by decide +kernel
theorem dL_steps_7 : decode cL_steps 7 = .ok (.iconst 5, 1) := by decide +kernel
theorem dL_steps_8 : decode cL_steps 8 = .ok (.irem, 1) := by decide +kernel
theorem dL_steps_9 : decode cL_steps 9 = .ok (.iconst 2, 1) := by decide +kernel
theorem dL_steps_10 : decode cL_steps 10 = .ok (.isub, 1) := by decide +kernel
theorem dL_steps_11 : decode cL_steps 11 = .ok (.istore_n 2, 1) := by decide +kernel
theorem dL_steps_12 : decode cL_steps 12 = .ok (.iload_n 1, 1) := by decide +kernel
theorem dL_steps_13 : decode cL_steps 13 = .ok (.ifCond .ge 8, 3) := by decide +kernel
theorem dL_steps_16 : decode cL_steps 16 = .ok (.iload_n 1, 1) := by decide +kernel
theorem dL_steps_17 : decode cL_steps 17 = .ok (.ineg, 1) := by decide +kernel
theorem dL_steps_18 : decode cL_steps 18 = .ok (.goto 4, 3) := by decide +kernel
theorem dL_steps_21 : decode cL_steps 21 = .ok (.iload_n 1, 1) := by decide +kernel
theorem dL_steps_22 : decode cL_steps 22 = .ok (.iload_n 2, 1) := by decide +kernel
theorem dL_steps_23 : decode cL_steps 23 = .ok (.ifCond .ge 8, 3) := by decide +kernel
theorem dL_steps_26 : decode cL_steps 26 = .ok (.iload_n 2, 1) := by decide +kernel
theorem dL_steps_27 : decode cL_steps 27 = .ok (.ineg, 1) := by decide +kernel
theorem dL_steps_28 : decode cL_steps 28 = .ok (.goto 4, 3) := by decide +kernel
theorem dL_steps_31 : decode cL_steps 31 = .ok (.iload_n 2, 1) := by decide +kernel
theorem dL_steps_32 : decode cL_steps 32 = .ok (.iadd, 1) := by decide +kernel
theorem dL_steps_33 : decode cL_steps 33 = .ok (.ireturn, 1) := by decide +kernel
set_option maxRecDepth 20000 in
theorem ggL_isNextSo_X8_coarsenessNext : GoodIn wsL_isNextSo wsX8_coarsenessNext := goodIn_r _ [5, 6, 7, 8, 9, 10, 11, 12, 13, 14, 15, 16, 17, 18, 19, 20, 21, 22, 23, 24, 25, 26, 27, 28, 29, 30, 31, 32, 33, 34, 35, 4, 36, 37, 38, 39, 40, 41, 42, 43, 44, 45, 46, 47, 48, 49, 50, 51, 52, 53, 54, 55, 56, 57, 58, 59, 60, 61, 62, 63, 64, 65, 66, 67, 68, 69, 70, 71, 72, 73, 74, 75, 76, 242, 243, 244, 245, 246, 247, 248, 249, 250, 251, 252, 253, 254, 255, 256, 257, 258, 259, 260, 261, 262, 263, 264, 265, 266] (by decide +kernel) (by decide +kernel)
set_option maxRecDepth 20000 in
theorem gL_isNextSo_X8_coarsenessNext : GoodIn wsL_isNextSo (wsV RL 105 RX8 yX8_coarsenessNext wsX8_coarsenessNext) := goodIn_app (goodIn_of _ (by decide +kernel)) ggL_isNextSo_X8_coarsenessNext
set_option maxRecDepth 20000 in
theorem ggL_isNextSo_X8_bitsNext : GoodIn wsL_isNextSo wsX8_bitsNext := goodIn_r _ [80, 6, 7, 8, 9, 10, 11, 12, 13, 14, 15, 16, 17, 18, 19, 20, 21, 22, 23, 24, 25, 26, 27, 28, 29, 30, 31, 32, 33, 34, 35, 4, 36, 37, 38, 39, 40, 41, 42, 43, 44, 45, 46, 47, 48, 49, 50, 51, 52, 53, 54, 55, 56, 57, 58, 59, 60, 61, 62, 63, 64, 65, 66, 67, 68, 69, 70, 71, 72, 73, 74, 75, 76, 242, 243, 244, 245, 246, 247, 248, 249, 250, 251, 252, 253, 254, 255, 256, 257, 258, 259, 260, 261, 262, 263, 264, 265, 266] (by decide +kernel) (by decide +kernel)
set_option maxRecDepth 20000 in
theorem gL_isNextSo_X8_bitsNext : GoodIn wsL_isNextSo (wsV RL 57 RX8 yX8_bitsNext wsX8_bitsNext) := goodIn_app (goodIn_of _ (by decide +kernel)) ggL_isNextSo_X8_bitsNext
set_option maxRecDepth 20000 in
theorem ggL_isNextSo_X8_bitCount : GoodIn wsL_isNextSo wsX8_bitCount := goodIn_r _ [84, 7, 242, 243, 244, 245, 246, 247, 248, 249, 256, 257, 258, 259, 260, 261, 262, 263, 264, 265] (by decide +kernel) (by decide +kernel)
set_option maxRecDepth 20000 in
theorem gL_isNextSo_X8_bitCount : GoodIn wsL_isNextSo (wsV RL 54 RX8 yX8_bitCount wsX8_bitCount) := goodIn_app (goodIn_of _ (by decide +kernel)) ggL_isNextSo_X8_bitCount
set_option maxRecDepth 20000 in
theorem ggL_isNextSo_X8_pictureCount : GoodIn wsL_isNextSo wsX8_pictureCount := goodIn_r _ [88, 7, 242, 243, 244, 245, 246, 247, 248, 249, 256, 257, 258, 259, 260, 261, 262, 263, 264, 265] (by decide +kernel) (by decide +kernel)
set_option maxRecDepth 20000 in
theorem gL_isNextSo_X8_pictureCount : GoodIn wsL_isNextSo (wsV RL 47 RX8 yX8_pictureCount wsX8_pictureCount) := goodIn_app (goodIn_of _ (by decide +kernel)) ggL_isNextSo_X8_pictureCount
set_option maxRecDepth 20000 in
theorem ggL_isNextSo_X8_drift : GoodIn wsL_isNextSo wsX8_drift := goodIn_r _ [92, 7, 93, 32, 33, 34, 41, 42, 43, 44, 45, 242, 243, 244, 245, 246, 247, 248, 249, 256, 257, 258, 259, 260, 261, 262, 263, 264, 265, 266] (by decide +kernel) (by decide +kernel)
set_option maxRecDepth 20000 in
theorem gL_isNextSo_X8_drift : GoodIn wsL_isNextSo (wsV RL 78 RX8 yX8_drift wsX8_drift) := goodIn_app (goodIn_of _ (by decide +kernel)) ggL_isNextSo_X8_drift
set_option maxRecDepth 20000 in
theorem ggL_isNextSo_X8_isKeyNext : GoodIn wsL_isNextSo wsX8_isKeyNext := goodIn_r _ [97, 7, 13, 14, 15, 16, 17, 18, 242, 243, 244, 245, 246, 247, 248, 249, 256, 257, 258, 259, 260, 261, 262, 263, 264, 265] (by decide +kernel) (by decide +kernel)
set_option maxRecDepth 20000 in
theorem gL_isNextSo_X8_isKeyNext : GoodIn wsL_isNextSo (wsV RL 108 RX8 yX8_isKeyNext wsX8_isKeyNext) := goodIn_app (goodIn_of _ (by decide +kernel)) ggL_isNextSo_X8_isKeyNext
set_option maxRecDepth 20000 in
theorem ggL_isNextSo_X8_bitsWith : GoodIn wsL_isNextSo wsX8_bitsWith := goodIn_ca (goodIn_ca (goodIn_r _ [101, 6, 7, 102, 103, 4, 104, 105, 106, 107, 108, 109, 110, 111, 25, 26, 27, 28, 29, 30, 31, 32, 33, 34, 35, 36, 37, 38, 39, 40, 41, 42, 43, 44, 45, 46, 47, 48, 49, 50, 51, 53, 9, 54, 55, 56, 57, 58, 59, 60, 61, 67, 68, 69, 23, 70, 71, 72, 73, 74, 75, 76, 242, 243, 244, 245, 246, 247, 248, 249, 256, 257, 258, 259, 260, 261, 262, 263, 264, 265, 266, 250, 251, 252, 253, 254, 255] (by decide +kernel) (by decide +kernel)) (goodIn_sub (fun _ h => List.mem_cons_of_mem _ (List.mem_append_left _ (List.mem_append_left _ (List.mem_append_right _ h)))) (by decide +kernel))) (goodIn_sub (fun _ h => List.mem_cons_of_mem _ (List.mem_append_left _ (List.mem_append_right _ h))) (by decide +kernel))
set_option maxRecDepth 20000 in
theorem gL_isNextSo_X8_bitsWith : GoodIn wsL_isNextSo (wsV RL 96 RX8 yX8_bitsWith wsX8_bitsWith) := goodIn_app (goodIn_of _ (by decide +kernel)) ggL_isNextSo_X8_bitsWith
set_option maxRecDepth 20000 in
theorem ggL_isNextSo_L_changes : GoodIn wsL_isNextSo wsL_changes := goodIn_ca (goodIn_ca (goodIn_ca (goodIn_r _ [115, 116, 117, 118, 119, 120, 121, 4, 122, 123, 7, 124, 125, 126, 105, 106, 107, 108, 109, 110, 111, 127, 128, 129, 130, 131, 132, 133, 134, 33, 135, 136, 137, 138, 139, 140, 141, 14, 142, 143, 144, 145, 146, 147, 148, 149, 150, 151, 152, 153, 17, 18, 154, 155, 156, 42, 157, 158, 45, 159, 59, 60, 61, 160, 161, 162, 163, 164, 165, 166, 167, 168, 169, 170, 171, 172, 173, 174, 175, 176, 177, 178, 179, 180, 46, 47, 48, 181, 182, 183, 184, 185, 186, 187, 188, 189, 190, 191, 192, 193, 194, 6, 8, 9, 10, 11, 12, 13, 15, 16, 19, 20, 21, 22, 23, 24, 25, 26, 27, 28, 29, 30, 31, 32, 34, 35, 36, 37, 38, 39, 40, 41, 43, 44, 49, 50, 51, 52, 53, 54, 55, 56, 57, 58, 62, 63, 64, 65, 66, 67, 68, 69, 70, 71, 72, 73, 74, 75, 76, 195, 196, 197, 198, 199, 200, 201, 202, 203, 204, 205, 206, 207, 208, 209, 210, 211, 212, 213, 214, 215, 216, 217, 218, 219, 220, 221, 222, 223, 224, 225, 226, 227, 228, 229, 230, 242, 243, 244, 245, 246, 247, 248, 249, 256, 257, 258, 259, 260, 261, 262, 263, 264, 265, 267, 268, 269, 266, 250, 251, 252, 253, 254, 255] (by decide +kernel) (by decide +kernel)) (goodIn_sub (fun _ h => List.mem_cons_of_mem _ (List.mem_append_left _ (List.mem_append_left _ (List.mem_append_right _ h)))) (by decide +kernel))) (goodIn_sub (fun _ h => List.mem_cons_of_mem _ (List.mem_append_left _ (List.mem_append_right _ h))) (by decide +kernel))) (goodIn_sub (fun _ h => List.mem_cons_of_mem _ (List.mem_append_right _ h)) (by decide +kernel))
set_option maxRecDepth 20000 in
theorem gL_isNextSo_L_changes : GoodIn wsL_isNextSo (va_wsS RL 43 yL_changes wsL_changes) := goodIn_app (goodIn_of _ (by decide +kernel)) ggL_isNextSo_L_changes
set_option maxRecDepth 20000 in
theorem ggL_isNextSo_X8_error : GoodIn wsL_isNextSo wsX8_error := goodIn_r _ [234, 7, 41, 42, 43, 44, 45, 242, 243, 244, 245, 246, 247, 248, 249, 256, 257, 258, 259, 260, 261, 262, 263, 264, 265, 266] (by decide +kernel) (by decide +kernel)
set_option maxRecDepth 20000 in
theorem gL_isNextSo_X8_error : GoodIn wsL_isNextSo (wsV RL 75 RX8 yX8_error wsX8_error) := goodIn_app (goodIn_of _ (by decide +kernel)) ggL_isNextSo_X8_error
set_option maxRecDepth 20000 in
theorem ggL_isNextSo_X8_undo : GoodIn wsL_isNextSo wsX8_undo := goodIn_ca (goodIn_r _ [238, 185, 186, 123, 7, 239, 128, 240, 241, 131, 132, 136, 137, 138, 139, 140, 141, 14, 142, 143, 144, 145, 146, 147, 148, 149, 150, 151, 152, 153, 17, 18, 154, 155, 156, 42, 157, 158, 45, 159, 242, 243, 244, 245, 246, 247, 248, 249, 267, 268, 269, 256, 257, 258, 259, 260, 261, 262, 263, 264, 265, 266] (by decide +kernel) (by decide +kernel)) (goodIn_sub (fun _ h => List.mem_cons_of_mem _ (List.mem_append_right _ h)) (by decide +kernel))
set_option maxRecDepth 20000 in
theorem gL_isNextSo_X8_undo : GoodIn wsL_isNextSo (wsV RL 112 RX8 yX8_undo wsX8_undo) := goodIn_app (goodIn_of _ (by decide +kernel)) ggL_isNextSo_X8_undo
theorem dL_isNextSo_0 : decode cL_isNextSo 0 = .ok (.aload_n 0, 1) := by decide +kernel
theorem dL_isNextSo_1 : decode cL_isNextSo 1 = .ok (.invokevirtual 105, 3) := by decide +kernel
theorem dL_isNextSo_4 : decode cL_isNextSo 4 = .ok (.istore_n 3, 1) := by decide +kernel
theorem dL_isNextSo_5 : decode cL_isNextSo 5 = .ok (.aload_n 0, 1) := by decide +kernel
theorem dL_isNextSo_6 : decode cL_isNextSo 6 = .ok (.invokevirtual 57, 3) := by decide +kernel
theorem dL_isNextSo_9 : decode cL_isNextSo 9 = .ok (.istore 4, 2) := by decide +kernel
theorem dL_isNextSo_11 : decode cL_isNextSo 11 = .ok (.iconst 0, 1) := by decide +kernel
theorem dL_isNextSo_12 : decode cL_isNextSo 12 = .ok (.istore 5, 2) := by decide +kernel
theorem dL_isNextSo_14 : decode cL_isNextSo 14 = .ok (.aload_n 0, 1) := by decide +kernel
theorem dL_isNextSo_15 : decode cL_isNextSo 15 = .ok (.invokevirtual 54, 3) := by decide +kernel
theorem dL_isNextSo_18 : decode cL_isNextSo 18 = .ok (.istore 6, 2) := by decide +kernel
theorem dL_isNextSo_20 : decode cL_isNextSo 20 = .ok (.aload_n 0, 1) := by decide +kernel
theorem dL_isNextSo_21 : decode cL_isNextSo 21 = .ok (.invokevirtual 47, 3) := by decide +kernel
theorem dL_isNextSo_24 : decode cL_isNextSo 24 = .ok (.istore 7, 2) := by decide +kernel
theorem dL_isNextSo_26 : decode cL_isNextSo 26 = .ok (.aload_n 0, 1) := by decide +kernel
theorem dL_isNextSo_27 : decode cL_isNextSo 27 = .ok (.invokevirtual 78, 3) := by decide +kernel
theorem dL_isNextSo_30 : decode cL_isNextSo 30 = .ok (.istore 8, 2) := by decide +kernel
theorem dL_isNextSo_32 : decode cL_isNextSo 32 = .ok (.aload_n 0, 1) := by decide +kernel
theorem dL_isNextSo_33 : decode cL_isNextSo 33 = .ok (.invokevirtual 108, 3) := by decide +kernel
theorem dL_isNextSo_36 : decode cL_isNextSo 36 = .ok (.istore 9, 2) := by decide +kernel
theorem dL_isNextSo_38 : decode cL_isNextSo 38 = .ok (.iconst 0, 1) := by decide +kernel
theorem dL_isNextSo_39 : decode cL_isNextSo 39 = .ok (.istore 10, 2) := by decide +kernel
theorem dL_isNextSo_41 : decode cL_isNextSo 41 = .ok (.iload 10, 2) := by decide +kernel
theorem dL_isNextSo_43 : decode cL_isNextSo 43 = .ok (.iconst 4, 1) := by decide +kernel
theorem dL_isNextSo_44 : decode cL_isNextSo 44 = .ok (.if_icmp .ge 31, 3) := by decide +kernel
theorem dL_isNextSo_47 : decode cL_isNextSo 47 = .ok (.iload 5, 2) := by decide +kernel
theorem dL_isNextSo_49 : decode cL_isNextSo 49 = .ok (.iload 9, 2) := by decide +kernel
theorem dL_isNextSo_51 : decode cL_isNextSo 51 = .ok (.ifCond .eq 8, 3) := by decide +kernel
theorem dL_isNextSo_54 : decode cL_isNextSo 54 = .ok (.bipush 66, 2) := by decide +kernel
theorem dL_isNextSo_56 : decode cL_isNextSo 56 = .ok (.goto 10, 3) := by decide +kernel
theorem dL_isNextSo_59 : decode cL_isNextSo 59 = .ok (.aload_n 0, 1) := by decide +kernel
theorem dL_isNextSo_60 : decode cL_isNextSo 60 = .ok (.iload 10, 2) := by decide +kernel
theorem dL_isNextSo_62 : decode cL_isNextSo 62 = .ok (.iload_n 3, 1) := by decide +kernel
theorem dL_isNextSo_63 : decode cL_isNextSo 63 = .ok (.invokevirtual 96, 3) := by decide +kernel
theorem dL_isNextSo_66 : decode cL_isNextSo 66 = .ok (.iadd, 1) := by decide +kernel
theorem dL_isNextSo_67 : decode cL_isNextSo 67 = .ok (.istore 5, 2) := by decide +kernel
theorem dL_isNextSo_69 : decode cL_isNextSo 69 = .ok (.iinc 10 1, 3) := by decide +kernel
theorem dL_isNextSo_72 : decode cL_isNextSo 72 = .ok (.goto (-31), 3) := by decide +kernel
theorem dL_isNextSo_75 : decode cL_isNextSo 75 = .ok (.iload 9, 2) := by decide +kernel
theorem dL_isNextSo_77 : decode cL_isNextSo 77 = .ok (.iload_n 3, 1) := by decide +kernel
theorem dL_isNextSo_78 : decode cL_isNextSo 78 = .ok (.iconst (-1), 1) := by decide +kernel
theorem dL_isNextSo_79 : decode cL_isNextSo 79 = .ok (.if_icmp .ne 7, 3) := by decide +kernel
theorem dL_isNextSo_82 : decode cL_isNextSo 82 = .ok (.iconst 1, 1) := by decide +kernel
theorem dL_isNextSo_83 : decode cL_isNextSo 83 = .ok (.goto 4, 3) := by decide +kernel
theorem dL_isNextSo_86 : decode cL_isNextSo 86 = .ok (.iconst 0, 1) := by decide +kernel
theorem dL_isNextSo_87 : decode cL_isNextSo 87 = .ok (.if_icmp .ne 44, 3) := by decide +kernel
theorem dL_isNextSo_90 : decode cL_isNextSo 90 = .ok (.iload 4, 2) := by decide +kernel
theorem dL_isNextSo_92 : decode cL_isNextSo 92 = .ok (.iload 5, 2) := by decide +kernel
theorem dL_isNextSo_94 : decode cL_isNextSo 94 = .ok (.if_icmp .ne 37, 3) := by decide +kernel
theorem dL_isNextSo_97 : decode cL_isNextSo 97 = .ok (.iload 4, 2) := by decide +kernel
theorem dL_isNextSo_99 : decode cL_isNextSo 99 = .ok (.iconst 4, 1) := by decide +kernel
theorem dL_isNextSo_100 : decode cL_isNextSo 100 = .ok (.if_icmp .lt 31, 3) := by decide +kernel
theorem dL_isNextSo_103 : decode cL_isNextSo 103 = .ok (.iload 4, 2) := by decide +kernel
theorem dL_isNextSo_105 : decode cL_isNextSo 105 = .ok (.sipush 264, 3) := by decide +kernel
theorem dL_isNextSo_108 : decode cL_isNextSo 108 = .ok (.if_icmp .gt 23, 3) := by decide +kernel
theorem dL_isNextSo_111 : decode cL_isNextSo 111 = .ok (.iload 9, 2) := by decide +kernel
theorem dL_isNextSo_113 : decode cL_isNextSo 113 = .ok (.ifCond .ne 14, 3) := by decide +kernel
theorem dL_isNextSo_116 : decode cL_isNextSo 116 = .ok (.iload_n 3, 1) := by decide +kernel
theorem dL_isNextSo_117 : decode cL_isNextSo 117 = .ok (.iconst 1, 1) := by decide +kernel
theorem dL_isNextSo_118 : decode cL_isNextSo 118 = .ok (.if_icmp .lt 13, 3) := by decide +kernel
theorem dL_isNextSo_121 : decode cL_isNextSo 121 = .ok (.iload_n 3, 1) := by decide +kernel
theorem dL_isNextSo_122 : decode cL_isNextSo 122 = .ok (.bipush 8, 2) := by decide +kernel
theorem dL_isNextSo_124 : decode cL_isNextSo 124 = .ok (.if_icmp .gt 7, 3) := by decide +kernel
theorem dL_isNextSo_127 : decode cL_isNextSo 127 = .ok (.iconst 1, 1) := by decide +kernel
theorem dL_isNextSo_128 : decode cL_isNextSo 128 = .ok (.goto 4, 3) := by decide +kernel
theorem dL_isNextSo_131 : decode cL_isNextSo 131 = .ok (.iconst 0, 1) := by decide +kernel
theorem dL_isNextSo_132 : decode cL_isNextSo 132 = .ok (.istore 10, 2) := by decide +kernel
theorem dL_isNextSo_134 : decode cL_isNextSo 134 = .ok (.aload_n 0, 1) := by decide +kernel
theorem dL_isNextSo_135 : decode cL_isNextSo 135 = .ok (.iconst 3, 1) := by decide +kernel
theorem dL_isNextSo_136 : decode cL_isNextSo 136 = .ok (.iload_n 1, 1) := by decide +kernel
theorem dL_isNextSo_137 : decode cL_isNextSo 137 = .ok (.ifCond .eq 7, 3) := by decide +kernel
theorem dL_isNextSo_140 : decode cL_isNextSo 140 = .ok (.iconst 1, 1) := by decide +kernel
theorem dL_isNextSo_141 : decode cL_isNextSo 141 = .ok (.goto 4, 3) := by decide +kernel
theorem dL_isNextSo_144 : decode cL_isNextSo 144 = .ok (.iconst 0, 1) := by decide +kernel
theorem dL_isNextSo_145 : decode cL_isNextSo 145 = .ok (.iconst 0, 1) := by decide +kernel
theorem dL_isNextSo_146 : decode cL_isNextSo 146 = .ok (.iconst 0, 1) := by decide +kernel
theorem dL_isNextSo_147 : decode cL_isNextSo 147 = .ok (.aload_n 2, 1) := by decide +kernel
theorem dL_isNextSo_148 : decode cL_isNextSo 148 = .ok (.invokestatic 43, 3) := by decide +kernel
theorem dL_isNextSo_151 : decode cL_isNextSo 151 = .ok (.istore 11, 2) := by decide +kernel
theorem dL_isNextSo_153 : decode cL_isNextSo 153 = .ok (.iload 10, 2) := by decide +kernel
theorem dL_isNextSo_155 : decode cL_isNextSo 155 = .ok (.ifCond .eq 71, 3) := by decide +kernel
theorem dL_isNextSo_158 : decode cL_isNextSo 158 = .ok (.iload 11, 2) := by decide +kernel
theorem dL_isNextSo_160 : decode cL_isNextSo 160 = .ok (.ifCond .ne 66, 3) := by decide +kernel
theorem dL_isNextSo_163 : decode cL_isNextSo 163 = .ok (.aload_n 2, 1) := by decide +kernel
theorem dL_isNextSo_164 : decode cL_isNextSo 164 = .ok (.iconst 0, 1) := by decide +kernel
theorem dL_isNextSo_165 : decode cL_isNextSo 165 = .ok (.iaload, 1) := by decide +kernel
theorem dL_isNextSo_166 : decode cL_isNextSo 166 = .ok (.iload 4, 2) := by decide +kernel
theorem dL_isNextSo_168 : decode cL_isNextSo 168 = .ok (.if_icmp .ne 58, 3) := by decide +kernel
theorem dL_isNextSo_171 : decode cL_isNextSo 171 = .ok (.aload_n 0, 1) := by decide +kernel
theorem dL_isNextSo_172 : decode cL_isNextSo 172 = .ok (.invokevirtual 54, 3) := by decide +kernel
theorem dL_isNextSo_175 : decode cL_isNextSo 175 = .ok (.iload 6, 2) := by decide +kernel
theorem dL_isNextSo_177 : decode cL_isNextSo 177 = .ok (.iload 4, 2) := by decide +kernel
theorem dL_isNextSo_179 : decode cL_isNextSo 179 = .ok (.iadd, 1) := by decide +kernel
theorem dL_isNextSo_180 : decode cL_isNextSo 180 = .ok (.if_icmp .ne 46, 3) := by decide +kernel
theorem dL_isNextSo_183 : decode cL_isNextSo 183 = .ok (.aload_n 0, 1) := by decide +kernel
theorem dL_isNextSo_184 : decode cL_isNextSo 184 = .ok (.invokevirtual 47, 3) := by decide +kernel
theorem dL_isNextSo_187 : decode cL_isNextSo 187 = .ok (.iload 7, 2) := by decide +kernel
theorem dL_isNextSo_189 : decode cL_isNextSo 189 = .ok (.iconst 1, 1) := by decide +kernel
theorem dL_isNextSo_190 : decode cL_isNextSo 190 = .ok (.iadd, 1) := by decide +kernel
theorem dL_isNextSo_191 : decode cL_isNextSo 191 = .ok (.if_icmp .ne 35, 3) := by decide +kernel
theorem dL_isNextSo_194 : decode cL_isNextSo 194 = .ok (.iload_n 3, 1) := by decide +kernel
theorem dL_isNextSo_195 : decode cL_isNextSo 195 = .ok (.iconst 1, 1) := by decide +kernel
theorem dL_isNextSo_196 : decode cL_isNextSo 196 = .ok (.if_icmp .gt 10, 3) := by decide +kernel
theorem dL_isNextSo_199 : decode cL_isNextSo 199 = .ok (.aload_n 0, 1) := by decide +kernel
theorem dL_isNextSo_200 : decode cL_isNextSo 200 = .ok (.invokevirtual 75, 3) := by decide +kernel
theorem dL_isNextSo_203 : decode cL_isNextSo 203 = .ok (.ifCond .ne 23, 3) := by decide +kernel
theorem dL_isNextSo_206 : decode cL_isNextSo 206 = .ok (.iload 9, 2) := by decide +kernel
theorem dL_isNextSo_208 : decode cL_isNextSo 208 = .ok (.ifCond .eq 14, 3) := by decide +kernel
theorem dL_isNextSo_211 : decode cL_isNextSo 211 = .ok (.iload_n 1, 1) := by decide +kernel
theorem dL_isNextSo_212 : decode cL_isNextSo 212 = .ok (.ifCond .ne 10, 3) := by decide +kernel
theorem dL_isNextSo_215 : decode cL_isNextSo 215 = .ok (.aload_n 0, 1) := by decide +kernel
theorem dL_isNextSo_216 : decode cL_isNextSo 216 = .ok (.invokevirtual 78, 3) := by decide +kernel
theorem dL_isNextSo_219 : decode cL_isNextSo 219 = .ok (.ifCond .ne 7, 3) := by decide +kernel
theorem dL_isNextSo_222 : decode cL_isNextSo 222 = .ok (.iconst 1, 1) := by decide +kernel
theorem dL_isNextSo_223 : decode cL_isNextSo 223 = .ok (.goto 4, 3) := by decide +kernel
theorem dL_isNextSo_226 : decode cL_isNextSo 226 = .ok (.iconst 0, 1) := by decide +kernel
theorem dL_isNextSo_227 : decode cL_isNextSo 227 = .ok (.istore 10, 2) := by decide +kernel
theorem dL_isNextSo_229 : decode cL_isNextSo 229 = .ok (.iload 9, 2) := by decide +kernel
theorem dL_isNextSo_231 : decode cL_isNextSo 231 = .ok (.ifCond .ne 36, 3) := by decide +kernel
theorem dL_isNextSo_234 : decode cL_isNextSo 234 = .ok (.iload_n 3, 1) := by decide +kernel
theorem dL_isNextSo_235 : decode cL_isNextSo 235 = .ok (.iconst 1, 1) := by decide +kernel
theorem dL_isNextSo_236 : decode cL_isNextSo 236 = .ok (.if_icmp .ne 31, 3) := by decide +kernel
theorem dL_isNextSo_239 : decode cL_isNextSo 239 = .ok (.iload_n 1, 1) := by decide +kernel
theorem dL_isNextSo_240 : decode cL_isNextSo 240 = .ok (.ifCond .ne 27, 3) := by decide +kernel
theorem dL_isNextSo_243 : decode cL_isNextSo 243 = .ok (.iload 8, 2) := by decide +kernel
theorem dL_isNextSo_245 : decode cL_isNextSo 245 = .ok (.ifCond .ne 22, 3) := by decide +kernel
theorem dL_isNextSo_248 : decode cL_isNextSo 248 = .ok (.iload 10, 2) := by decide +kernel
theorem dL_isNextSo_250 : decode cL_isNextSo 250 = .ok (.ifCond .eq 14, 3) := by decide +kernel
theorem dL_isNextSo_253 : decode cL_isNextSo 253 = .ok (.aload_n 0, 1) := by decide +kernel
theorem dL_isNextSo_254 : decode cL_isNextSo 254 = .ok (.invokevirtual 78, 3) := by decide +kernel
theorem dL_isNextSo_257 : decode cL_isNextSo 257 = .ok (.ifCond .ne 7, 3) := by decide +kernel
theorem dL_isNextSo_260 : decode cL_isNextSo 260 = .ok (.iconst 1, 1) := by decide +kernel
theorem dL_isNextSo_261 : decode cL_isNextSo 261 = .ok (.goto 4, 3) := by decide +kernel
theorem dL_isNextSo_264 : decode cL_isNextSo 264 = .ok (.iconst 0, 1) := by decide +kernel
theorem dL_isNextSo_265 : decode cL_isNextSo 265 = .ok (.istore 10, 2) := by decide +kernel
theorem dL_isNextSo_267 : decode cL_isNextSo 267 = .ok (.iload 10, 2) := by decide +kernel
theorem dL_isNextSo_269 : decode cL_isNextSo 269 = .ok (.ifCond .eq 41, 3) := by decide +kernel
theorem dL_isNextSo_272 : decode cL_isNextSo 272 = .ok (.aload_n 0, 1) := by decide +kernel
theorem dL_isNextSo_273 : decode cL_isNextSo 273 = .ok (.invokevirtual 112, 3) := by decide +kernel
theorem dL_isNextSo_276 : decode cL_isNextSo 276 = .ok (.ifCond .lt 34, 3) := by decide +kernel
theorem dL_isNextSo_279 : decode cL_isNextSo 279 = .ok (.aload_n 0, 1) := by decide +kernel
theorem dL_isNextSo_280 : decode cL_isNextSo 280 = .ok (.invokevirtual 47, 3) := by decide +kernel
theorem dL_isNextSo_283 : decode cL_isNextSo 283 = .ok (.iload 7, 2) := by decide +kernel
theorem dL_isNextSo_285 : decode cL_isNextSo 285 = .ok (.if_icmp .ne 25, 3) := by decide +kernel
theorem dL_isNextSo_288 : decode cL_isNextSo 288 = .ok (.aload_n 0, 1) := by decide +kernel
theorem dL_isNextSo_289 : decode cL_isNextSo 289 = .ok (.invokevirtual 78, 3) := by decide +kernel
theorem dL_isNextSo_292 : decode cL_isNextSo 292 = .ok (.iload 8, 2) := by decide +kernel
theorem dL_isNextSo_294 : decode cL_isNextSo 294 = .ok (.if_icmp .ne 16, 3) := by decide +kernel
theorem dL_isNextSo_297 : decode cL_isNextSo 297 = .ok (.aload_n 0, 1) := by decide +kernel
theorem dL_isNextSo_298 : decode cL_isNextSo 298 = .ok (.invokevirtual 57, 3) := by decide +kernel
theorem dL_isNextSo_301 : decode cL_isNextSo 301 = .ok (.iload 4, 2) := by decide +kernel
theorem dL_isNextSo_303 : decode cL_isNextSo 303 = .ok (.if_icmp .ne 7, 3) := by decide +kernel
theorem dL_isNextSo_306 : decode cL_isNextSo 306 = .ok (.iconst 1, 1) := by decide +kernel
theorem dL_isNextSo_307 : decode cL_isNextSo 307 = .ok (.goto 4, 3) := by decide +kernel
theorem dL_isNextSo_310 : decode cL_isNextSo 310 = .ok (.iconst 0, 1) := by decide +kernel
theorem dL_isNextSo_311 : decode cL_isNextSo 311 = .ok (.ireturn, 1) := by decide +kernel
set_option maxRecDepth 20000 in
theorem ggL_law_X8_init : GoodIn wsL_law wsX8_init := goodIn_r _ [6, 7, 8, 9, 10, 11, 12, 13, 14, 15, 16, 17, 18, 19, 20, 21, 22, 23, 24, 25, 26, 27, 28, 29, 30, 31, 32, 33, 34, 35, 36, 37, 38, 39, 40, 41, 42, 43, 44, 45, 3, 46, 47, 48, 49, 50, 51, 52, 53, 54, 55, 56, 57, 58, 59, 60, 61, 62, 63, 64, 65, 66, 67, 68, 69, 70, 71, 72, 73, 74, 75, 76, 77, 78, 79, 80, 81, 82, 83, 84, 85, 86, 87, 88, 89, 90, 91, 417, 418, 419, 420, 421, 422, 423, 424, 425, 426, 409, 410, 411, 412, 413, 414, 415, 416, 427, 428, 429, 430, 431, 432, 433, 434, 435, 436, 437, 438, 439, 440, 441, 442] (by decide +kernel) (by decide +kernel)
set_option maxRecDepth 20000 in
theorem gL_law_X8_init : GoodIn wsL_law (wsX8_init) := ggL_law_X8_init
set_option maxRecDepth 20000 in
theorem ggL_law_L_cell : GoodIn wsL_law wsL_cell := goodIn_r _ [95] (by decide +kernel) (by decide +kernel)
set_option maxRecDepth 20000 in
theorem gL_law_L_cell : GoodIn wsL_law (va_wsS RL 116 yL_cell wsL_cell) := goodIn_app (goodIn_of _ (by decide +kernel)) ggL_law_L_cell
set_option maxRecDepth 20000 in
theorem ggL_law_X8_undoCount : GoodIn wsL_law wsX8_undoCount := goodIn_r _ [99, 33, 409, 410, 411, 412, 413, 414, 415, 416, 438, 439, 440] (by decide +kernel) (by decide +kernel)
set_option maxRecDepth 20000 in
theorem gL_law_X8_undoCount : GoodIn wsL_law (wsV RL 120 RX8 yX8_undoCount wsX8_undoCount) := goodIn_app (goodIn_of _ (by decide +kernel)) ggL_law_X8_undoCount
set_option maxRecDepth 20000 in
theorem ggL_law_L_act : GoodIn wsL_law wsL_act := goodIn_ca (goodIn_ca (goodIn_ca (goodIn_r _ [102, 103, 104, 94, 105, 106, 107, 108, 109, 110, 111, 112, 113, 114, 115, 2, 116, 33, 13, 117, 118, 119, 120, 121, 122, 123, 124, 125, 126, 127, 32, 128, 129, 84, 85, 130, 131, 132, 133, 134, 135, 136, 137, 83, 138, 12, 139, 140, 43, 44, 45, 46, 141, 142, 143, 144, 47, 48, 49, 50, 51, 52, 145, 24, 146, 147, 56, 148, 149, 150, 151, 152, 153, 154, 155, 156, 157, 158, 159, 160, 161, 162, 163, 164, 165, 166, 167, 25, 168, 169, 170, 171, 172, 173, 174, 175, 176, 177, 178, 179, 180, 181, 182, 183, 184, 185, 186, 187, 188, 17, 189, 16, 190, 191, 66, 192, 193, 194, 195, 196, 197, 198, 61, 65, 199, 200, 201, 202, 203, 204, 205, 206, 207, 208, 209, 210, 211, 212, 213, 214, 215, 216, 217, 218, 219, 220, 221, 222, 223, 60, 63, 64, 224, 225, 226, 227, 228, 229, 230, 231, 232, 233, 234, 235, 236, 237, 238, 239, 240, 241, 242, 243, 244, 245, 246, 247, 248, 249, 250, 251, 252, 253, 254, 255, 256, 257, 258, 259, 260, 261, 262, 263, 264, 265, 266, 267, 268, 269, 270, 271, 272, 273, 274, 409, 410, 411, 412, 413, 414, 415, 416, 417, 418, 419, 420, 421, 422, 423, 424, 425, 426, 438, 439, 440, 435, 427, 428, 429, 430, 431, 432] (by decide +kernel) (by decide +kernel)) (goodIn_sub (fun _ h => List.mem_append_left _ (List.mem_append_left _ (List.mem_append_right _ h))) (by decide +kernel))) (goodIn_sub (fun _ h => List.mem_append_left _ (List.mem_append_right _ h)) (by decide +kernel))) (goodIn_sub (fun _ h => List.mem_append_right _ h) (by decide +kernel))
set_option maxRecDepth 20000 in
theorem gL_law_L_act : GoodIn wsL_law (va_wsS RL 123 yL_act wsL_act) := goodIn_app (goodIn_of _ (by decide +kernel)) ggL_law_L_act
set_option maxRecDepth 20000 in
theorem ggL_law_L_areAlike : GoodIn wsL_law wsL_areAlike := goodIn_ca (goodIn_r _ [277, 278, 279, 280, 2, 281, 13, 282, 283, 284, 285, 286, 287, 288, 289, 290, 291, 292, 293, 17, 189, 16, 190, 191, 66, 192, 12, 193, 194, 49, 50, 195, 196, 197, 198, 61, 65, 199, 200, 201, 202, 203, 204, 205, 206, 132, 207, 208, 209, 210, 211, 212, 213, 214, 24, 215, 216, 56, 172, 173, 174, 217, 218, 219, 220, 221, 222, 223, 60, 63, 64, 149, 150, 151, 224, 225, 226, 227, 228, 229, 230, 231, 232, 233, 234, 235, 236, 237, 238, 294, 295, 296, 297, 117, 118, 119, 120, 121, 298, 299, 300, 301, 302, 303, 304, 305, 306, 307, 308, 309, 310, 311, 312, 313, 314, 315, 316, 409, 410, 411, 412, 413, 414, 415, 416, 417, 418, 419, 420, 421, 422, 423, 424, 425, 426, 427, 428, 429, 430, 431, 432, 435] (by decide +kernel) (by decide +kernel)) (goodIn_sub (fun _ h => List.mem_append_left _ (List.mem_append_left _ (List.mem_append_right _ h))) (by decide +kernel))
set_option maxRecDepth 20000 in
theorem gL_law_L_areAlike : GoodIn wsL_law (va_wsS RL 127 yL_areAlike wsL_areAlike) := goodIn_app (goodIn_of _ (by decide +kernel)) ggL_law_L_areAlike
set_option maxRecDepth 20000 in
theorem ggL_law_X8_undo : GoodIn wsL_law wsX8_undo := goodIn_ca (goodIn_r _ [320, 179, 180, 33, 13, 321, 32, 322, 323, 84, 85, 134, 135, 136, 137, 83, 138, 12, 139, 140, 43, 44, 45, 46, 141, 142, 143, 144, 47, 48, 49, 50, 51, 52, 145, 24, 146, 147, 56, 148, 409, 410, 411, 412, 413, 414, 415, 416, 438, 439, 440, 417, 418, 419, 420, 421, 422, 423, 424, 425, 426, 435] (by decide +kernel) (by decide +kernel)) (goodIn_sub (fun _ h => List.mem_append_right _ h) (by decide +kernel))
set_option maxRecDepth 20000 in
theorem gL_law_X8_undo : GoodIn wsL_law (wsV RL 112 RX8 yX8_undo wsX8_undo) := goodIn_app (goodIn_of _ (by decide +kernel)) ggL_law_X8_undo
set_option maxRecDepth 20000 in
theorem ggL_law_L_arePicturesSo : GoodIn wsL_law wsL_arePicturesSo := goodIn_ca (goodIn_r _ [326, 282, 283, 284, 2, 285, 13, 278, 279, 280, 281, 286, 287, 288, 289, 294, 295, 296, 297, 117, 118, 119, 120, 121, 214, 24, 215, 216, 56, 298, 299, 300, 301, 302, 303, 304, 305, 306, 307, 308, 309, 310, 311, 312, 313, 314, 315, 316, 327, 328, 329, 330, 331, 332, 333, 334, 335, 206, 132, 207, 409, 410, 411, 412, 413, 414, 415, 416, 417, 418, 419, 420, 421, 422, 423, 424, 425, 426, 435] (by decide +kernel) (by decide +kernel)) (goodIn_sub (fun _ h => List.mem_append_left _ (List.mem_append_left _ (List.mem_append_right _ h))) (by decide +kernel))
set_option maxRecDepth 20000 in
theorem gL_law_L_arePicturesSo : GoodIn wsL_law (va_wsS RL 131 yL_arePicturesSo wsL_arePicturesSo) := goodIn_app (goodIn_of _ (by decide +kernel)) ggL_law_L_arePicturesSo
set_option maxRecDepth 20000 in
theorem ggL_law_L_low : GoodIn wsL_law wsL_low := goodIn_r _ [105, 106] (by decide +kernel) (by decide +kernel)
set_option maxRecDepth 20000 in
theorem gL_law_L_low : GoodIn wsL_law (va_wsS RL 38 yL_low wsL_low) := goodIn_app (goodIn_of _ (by decide +kernel)) ggL_law_L_low
set_option maxRecDepth 20000 in
theorem ggL_law_L_areMovesSo : GoodIn wsL_law wsL_areMovesSo := goodIn_ca (goodIn_ca (goodIn_r _ [338, 339, 340, 341, 2, 342, 13, 310, 311, 312, 120, 121, 199, 200, 201, 202, 203, 204, 205, 206, 132, 207, 208, 209, 210, 211, 212, 213, 214, 24, 215, 216, 56, 172, 173, 174, 217, 218, 219, 343, 344, 345, 346, 347, 348, 94, 349, 350, 351, 352, 353, 354, 355, 356, 357, 358, 359, 360, 361, 362, 363, 17, 122, 123, 124, 125, 126, 221, 16, 222, 223, 60, 63, 64, 149, 150, 151, 229, 230, 231, 61, 232, 233, 234, 235, 236, 237, 238, 251, 252, 253, 364, 365, 366, 367, 368, 369, 370, 371, 21, 372, 20, 373, 374, 72, 254, 255, 256, 375, 376, 377, 378, 379, 380, 381, 382, 71, 383, 384, 385, 386, 387, 388, 389, 390, 391, 392, 393, 394, 395, 396, 397, 409, 410, 411, 412, 413, 414, 415, 416, 417, 418, 419, 420, 421, 422, 423, 424, 425, 426, 435, 427, 428, 429, 430, 431, 432, 433, 434] (by decide +kernel) (by decide +kernel)) (goodIn_sub (fun _ h => List.mem_append_left _ (List.mem_append_left _ (List.mem_append_right _ h))) (by decide +kernel))) (goodIn_sub (fun _ h => List.mem_append_left _ (List.mem_append_right _ h)) (by decide +kernel))
set_option maxRecDepth 20000 in
theorem gL_law_L_areMovesSo : GoodIn wsL_law (va_wsS RL 135 yL_areMovesSo wsL_areMovesSo) := goodIn_app (goodIn_of _ (by decide +kernel)) ggL_law_L_areMovesSo
set_option maxRecDepth 20000 in
theorem ggL_law_L_isNextSo : GoodIn wsL_law wsL_isNextSo := goodIn_ca (goodIn_ca (goodIn_ca (goodIn_r _ [400, 401, 402, 403, 2, 404, 17, 13, 189, 16, 190, 191, 66, 192, 12, 193, 194, 49, 50, 195, 196, 197, 198, 61, 65, 199, 200, 201, 202, 203, 204, 205, 206, 132, 207, 208, 209, 210, 211, 212, 213, 214, 24, 215, 216, 56, 172, 173, 174, 217, 218, 219, 220, 221, 222, 223, 60, 63, 64, 149, 150, 151, 224, 225, 226, 227, 228, 229, 230, 231, 232, 233, 234, 235, 236, 237, 238, 290, 291, 292, 293, 286, 287, 288, 289, 278, 279, 280, 281, 331, 332, 333, 334, 335, 405, 406, 407, 408, 364, 365, 366, 367, 310, 311, 312, 120, 121, 122, 123, 124, 125, 126, 107, 108, 94, 109, 110, 111, 112, 113, 114, 115, 116, 33, 117, 118, 119, 127, 32, 128, 129, 84, 85, 130, 131, 133, 134, 135, 136, 137, 83, 138, 139, 140, 43, 44, 45, 46, 141, 142, 143, 144, 47, 48, 51, 52, 145, 146, 147, 148, 152, 153, 154, 155, 156, 157, 158, 159, 160, 161, 162, 163, 164, 165, 166, 167, 25, 168, 169, 170, 171, 175, 176, 177, 178, 179, 180, 181, 182, 183, 184, 185, 186, 187, 188, 239, 240, 241, 242, 243, 244, 245, 246, 247, 248, 249, 250, 251, 252, 253, 254, 255, 256, 257, 258, 259, 260, 261, 262, 263, 264, 265, 266, 267, 268, 269, 270, 271, 272, 273, 274, 327, 328, 329, 330, 317, 318, 319, 320, 321, 322, 323, 409, 410, 411, 412, 413, 414, 415, 416, 427, 428, 429, 430, 431, 432, 417, 418, 419, 420, 421, 422, 423, 424, 425, 426, 435, 438, 439, 440] (by decide +kernel) (by decide +kernel)) (goodIn_sub (fun _ h => List.mem_append_left _ (List.mem_append_left _ (List.mem_append_right _ h))) (by decide +kernel))) (goodIn_sub (fun _ h => List.mem_append_left _ (List.mem_append_right _ h)) (by decide +kernel))) (goodIn_sub (fun _ h => List.mem_append_right _ h) (by decide +kernel))
set_option maxRecDepth 20000 in
theorem gL_law_L_isNextSo : GoodIn wsL_law (va_wsS RL 139 yL_isNextSo wsL_isNextSo) := goodIn_app (goodIn_of _ (by decide +kernel)) ggL_law_L_isNextSo
theorem dL_law_0 : decode cL_law 0 = .ok (.new 9, 3) := by decide +kernel
theorem dL_law_3 : decode cL_law 3 = .ok (.dup, 1) := by decide +kernel
theorem dL_law_4 : decode cL_law 4 = .ok (.invokespecial 115, 3) := by decide +kernel
theorem dL_law_7 : decode cL_law 7 = .ok (.astore_n 1, 1) := by decide +kernel
theorem dL_law_8 : decode cL_law 8 = .ok (.new 9, 3) := by decide +kernel
theorem dL_law_11 : decode cL_law 11 = .ok (.dup, 1) := by decide +kernel
theorem dL_law_12 : decode cL_law 12 = .ok (.invokespecial 115, 3) := by decide +kernel
theorem dL_law_15 : decode cL_law 15 = .ok (.astore_n 2, 1) := by decide +kernel
theorem dL_law_16 : decode cL_law 16 = .ok (.iconst 1, 1) := by decide +kernel
theorem dL_law_17 : decode cL_law 17 = .ok (.newarray .int, 2) := by decide +kernel
theorem dL_law_19 : decode cL_law 19 = .ok (.astore_n 3, 1) := by decide +kernel
theorem dL_law_20 : decode cL_law 20 = .ok (.iconst 0, 1) := by decide +kernel
theorem dL_law_21 : decode cL_law 21 = .ok (.istore 4, 2) := by decide +kernel
theorem dL_law_23 : decode cL_law 23 = .ok (.iload 4, 2) := by decide +kernel
theorem dL_law_25 : decode cL_law 25 = .ok (.bipush 52, 2) := by decide +kernel
theorem dL_law_27 : decode cL_law 27 = .ok (.if_icmp .ge 235, 3) := by decide +kernel
theorem dL_law_30 : decode cL_law 30 = .ok (.aload_n 0, 1) := by decide +kernel
theorem dL_law_31 : decode cL_law 31 = .ok (.iload 4, 2) := by decide +kernel
theorem dL_law_33 : decode cL_law 33 = .ok (.invokestatic 116, 3) := by decide +kernel
theorem dL_law_36 : decode cL_law 36 = .ok (.istore 5, 2) := by decide +kernel
theorem dL_law_38 : decode cL_law 38 = .ok (.aload_n 1, 1) := by decide +kernel
theorem dL_law_39 : decode cL_law 39 = .ok (.invokevirtual 120, 3) := by decide +kernel
theorem dL_law_42 : decode cL_law 42 = .ok (.istore 6, 2) := by decide +kernel
theorem dL_law_44 : decode cL_law 44 = .ok (.aload_n 1, 1) := by decide +kernel
theorem dL_law_45 : decode cL_law 45 = .ok (.iload 5, 2) := by decide +kernel
theorem dL_law_47 : decode cL_law 47 = .ok (.aload_n 3, 1) := by decide +kernel
theorem dL_law_48 : decode cL_law 48 = .ok (.invokestatic 123, 3) := by decide +kernel
theorem dL_law_51 : decode cL_law 51 = .ok (.istore 7, 2) := by decide +kernel
theorem dL_law_53 : decode cL_law 53 = .ok (.aload_n 3, 1) := by decide +kernel
theorem dL_law_54 : decode cL_law 54 = .ok (.iconst 0, 1) := by decide +kernel
theorem dL_law_55 : decode cL_law 55 = .ok (.iaload, 1) := by decide +kernel
theorem dL_law_56 : decode cL_law 56 = .ok (.istore 8, 2) := by decide +kernel
theorem dL_law_58 : decode cL_law 58 = .ok (.iload 7, 2) := by decide +kernel
theorem dL_law_60 : decode cL_law 60 = .ok (.ifCond .eq 22, 3) := by decide +kernel
theorem dL_law_63 : decode cL_law 63 = .ok (.aload_n 1, 1) := by decide +kernel
theorem dL_law_64 : decode cL_law 64 = .ok (.aload_n 2, 1) := by decide +kernel
theorem dL_law_65 : decode cL_law 65 = .ok (.invokestatic 127, 3) := by decide +kernel
theorem dL_law_68 : decode cL_law 68 = .ok (.ifCond .eq 12, 3) := by decide +kernel
theorem dL_law_71 : decode cL_law 71 = .ok (.aload_n 1, 1) := by decide +kernel
theorem dL_law_72 : decode cL_law 72 = .ok (.invokevirtual 120, 3) := by decide +kernel
theorem dL_law_75 : decode cL_law 75 = .ok (.iload 6, 2) := by decide +kernel
theorem dL_law_77 : decode cL_law 77 = .ok (.if_icmp .eq 5, 3) := by decide +kernel
theorem dL_law_80 : decode cL_law 80 = .ok (.iconst 0, 1) := by decide +kernel
theorem dL_law_81 : decode cL_law 81 = .ok (.ireturn, 1) := by decide +kernel
theorem dL_law_82 : decode cL_law 82 = .ok (.iload 7, 2) := by decide +kernel
theorem dL_law_84 : decode cL_law 84 = .ok (.ifCond .ne 65, 3) := by decide +kernel
theorem dL_law_87 : decode cL_law 87 = .ok (.iload 5, 2) := by decide +kernel
theorem dL_law_89 : decode cL_law 89 = .ok (.bipush 9, 2) := by decide +kernel
theorem dL_law_91 : decode cL_law 91 = .ok (.ishr, 1) := by decide +kernel
theorem dL_law_92 : decode cL_law 92 = .ok (.iconst 1, 1) := by decide +kernel
theorem dL_law_93 : decode cL_law 93 = .ok (.iand, 1) := by decide +kernel
theorem dL_law_94 : decode cL_law 94 = .ok (.ifCond .ne 55, 3) := by decide +kernel
theorem dL_law_97 : decode cL_law 97 = .ok (.aload_n 1, 1) := by decide +kernel
theorem dL_law_98 : decode cL_law 98 = .ok (.invokevirtual 112, 3) := by decide +kernel
theorem dL_law_101 : decode cL_law 101 = .ok (.istore 9, 2) := by decide +kernel
theorem dL_law_103 : decode cL_law 103 = .ok (.iload 9, 2) := by decide +kernel
theorem dL_law_105 : decode cL_law 105 = .ok (.iload 6, 2) := by decide +kernel
theorem dL_law_107 : decode cL_law 107 = .ok (.bipush 6, 2) := by decide +kernel
theorem dL_law_109 : decode cL_law 109 = .ok (.if_icmp .ne 7, 3) := by decide +kernel
theorem dL_law_112 : decode cL_law 112 = .ok (.iconst 5, 1) := by decide +kernel
theorem dL_law_113 : decode cL_law 113 = .ok (.goto 5, 3) := by decide +kernel
theorem dL_law_116 : decode cL_law 116 = .ok (.iload 6, 2) := by decide +kernel
theorem dL_law_118 : decode cL_law 118 = .ok (.if_icmp .ne 29, 3) := by decide +kernel
theorem dL_law_121 : decode cL_law 121 = .ok (.aload_n 1, 1) := by decide +kernel
theorem dL_law_122 : decode cL_law 122 = .ok (.aload_n 2, 1) := by decide +kernel
theorem dL_law_123 : decode cL_law 123 = .ok (.invokestatic 127, 3) := by decide +kernel
theorem dL_law_126 : decode cL_law 126 = .ok (.ifCond .eq 21, 3) := by decide +kernel
theorem dL_law_129 : decode cL_law 129 = .ok (.aload_n 1, 1) := by decide +kernel
theorem dL_law_130 : decode cL_law 130 = .ok (.iload 5, 2) := by decide +kernel
theorem dL_law_132 : decode cL_law 132 = .ok (.aload_n 3, 1) := by decide +kernel
theorem dL_law_133 : decode cL_law 133 = .ok (.invokestatic 123, 3) := by decide +kernel
theorem dL_law_136 : decode cL_law 136 = .ok (.ifCond .ne 11, 3) := by decide +kernel
theorem dL_law_139 : decode cL_law 139 = .ok (.aload_n 3, 1) := by decide +kernel
theorem dL_law_140 : decode cL_law 140 = .ok (.iconst 0, 1) := by decide +kernel
theorem dL_law_141 : decode cL_law 141 = .ok (.iaload, 1) := by decide +kernel
theorem dL_law_142 : decode cL_law 142 = .ok (.iload 8, 2) := by decide +kernel
theorem dL_law_144 : decode cL_law 144 = .ok (.if_icmp .eq 5, 3) := by decide +kernel
theorem dL_law_147 : decode cL_law 147 = .ok (.iconst 0, 1) := by decide +kernel
theorem dL_law_148 : decode cL_law 148 = .ok (.ireturn, 1) := by decide +kernel
theorem dL_law_149 : decode cL_law 149 = .ok (.aload_n 2, 1) := by decide +kernel
theorem dL_law_150 : decode cL_law 150 = .ok (.iload 5, 2) := by decide +kernel
theorem dL_law_152 : decode cL_law 152 = .ok (.aload_n 3, 1) := by decide +kernel
theorem dL_law_153 : decode cL_law 153 = .ok (.invokestatic 123, 3) := by decide +kernel
theorem dL_law_156 : decode cL_law 156 = .ok (.iload 7, 2) := by decide +kernel
theorem dL_law_158 : decode cL_law 158 = .ok (.if_icmp .ne 31, 3) := by decide +kernel
theorem dL_law_161 : decode cL_law 161 = .ok (.iload 7, 2) := by decide +kernel
theorem dL_law_163 : decode cL_law 163 = .ok (.ifCond .ne 11, 3) := by decide +kernel
theorem dL_law_166 : decode cL_law 166 = .ok (.aload_n 3, 1) := by decide +kernel
theorem dL_law_167 : decode cL_law 167 = .ok (.iconst 0, 1) := by decide +kernel
theorem dL_law_168 : decode cL_law 168 = .ok (.iaload, 1) := by decide +kernel
theorem dL_law_169 : decode cL_law 169 = .ok (.iload 8, 2) := by decide +kernel
theorem dL_law_171 : decode cL_law 171 = .ok (.if_icmp .ne 18, 3) := by decide +kernel
theorem dL_law_174 : decode cL_law 174 = .ok (.aload_n 1, 1) := by decide +kernel
theorem dL_law_175 : decode cL_law 175 = .ok (.aload_n 2, 1) := by decide +kernel
theorem dL_law_176 : decode cL_law 176 = .ok (.invokestatic 127, 3) := by decide +kernel
theorem dL_law_179 : decode cL_law 179 = .ok (.ifCond .eq 10, 3) := by decide +kernel
theorem dL_law_182 : decode cL_law 182 = .ok (.aload_n 1, 1) := by decide +kernel
theorem dL_law_183 : decode cL_law 183 = .ok (.invokestatic 131, 3) := by decide +kernel
theorem dL_law_186 : decode cL_law 186 = .ok (.ifCond .ne 5, 3) := by decide +kernel
theorem dL_law_189 : decode cL_law 189 = .ok (.iconst 0, 1) := by decide +kernel
theorem dL_law_190 : decode cL_law 190 = .ok (.ireturn, 1) := by decide +kernel
theorem dL_law_191 : decode cL_law 191 = .ok (.iload 4, 2) := by decide +kernel
theorem dL_law_193 : decode cL_law 193 = .ok (.iconst 3, 1) := by decide +kernel
theorem dL_law_194 : decode cL_law 194 = .ok (.irem, 1) := by decide +kernel
theorem dL_law_195 : decode cL_law 195 = .ok (.iconst 2, 1) := by decide +kernel
theorem dL_law_196 : decode cL_law 196 = .ok (.if_icmp .ne 19, 3) := by decide +kernel
theorem dL_law_199 : decode cL_law 199 = .ok (.aload_n 1, 1) := by decide +kernel
theorem dL_law_200 : decode cL_law 200 = .ok (.iload 5, 2) := by decide +kernel
theorem dL_law_202 : decode cL_law 202 = .ok (.bipush 7, 2) := by decide +kernel
theorem dL_law_204 : decode cL_law 204 = .ok (.ishr, 1) := by decide +kernel
theorem dL_law_205 : decode cL_law 205 = .ok (.iconst 4, 1) := by decide +kernel
theorem dL_law_206 : decode cL_law 206 = .ok (.invokestatic 38, 3) := by decide +kernel
theorem dL_law_209 : decode cL_law 209 = .ok (.invokestatic 135, 3) := by decide +kernel
theorem dL_law_212 : decode cL_law 212 = .ok (.ifCond .eq 42, 3) := by decide +kernel
theorem dL_law_215 : decode cL_law 215 = .ok (.iload 4, 2) := by decide +kernel
theorem dL_law_217 : decode cL_law 217 = .ok (.iconst 2, 1) := by decide +kernel
theorem dL_law_218 : decode cL_law 218 = .ok (.irem, 1) := by decide +kernel
theorem dL_law_219 : decode cL_law 219 = .ok (.iconst 1, 1) := by decide +kernel
theorem dL_law_220 : decode cL_law 220 = .ok (.if_icmp .ne 26, 3) := by decide +kernel
theorem dL_law_223 : decode cL_law 223 = .ok (.aload_n 1, 1) := by decide +kernel
theorem dL_law_224 : decode cL_law 224 = .ok (.iload 5, 2) := by decide +kernel
theorem dL_law_226 : decode cL_law 226 = .ok (.bipush 8, 2) := by decide +kernel
theorem dL_law_228 : decode cL_law 228 = .ok (.ishr, 1) := by decide +kernel
theorem dL_law_229 : decode cL_law 229 = .ok (.iconst 1, 1) := by decide +kernel
theorem dL_law_230 : decode cL_law 230 = .ok (.iand, 1) := by decide +kernel
theorem dL_law_231 : decode cL_law 231 = .ok (.ifCond .ne 7, 3) := by decide +kernel
theorem dL_law_234 : decode cL_law 234 = .ok (.iconst 1, 1) := by decide +kernel
theorem dL_law_235 : decode cL_law 235 = .ok (.goto 4, 3) := by decide +kernel
theorem dL_law_238 : decode cL_law 238 = .ok (.iconst 0, 1) := by decide +kernel
theorem dL_law_239 : decode cL_law 239 = .ok (.aload_n 3, 1) := by decide +kernel
theorem dL_law_240 : decode cL_law 240 = .ok (.invokestatic 139, 3) := by decide +kernel
theorem dL_law_243 : decode cL_law 243 = .ok (.ifCond .eq 11, 3) := by decide +kernel
theorem dL_law_246 : decode cL_law 246 = .ok (.aload_n 1, 1) := by decide +kernel
theorem dL_law_247 : decode cL_law 247 = .ok (.aload_n 2, 1) := by decide +kernel
theorem dL_law_248 : decode cL_law 248 = .ok (.invokestatic 127, 3) := by decide +kernel
theorem dL_law_251 : decode cL_law 251 = .ok (.ifCond .ne 5, 3) := by decide +kernel
theorem dL_law_254 : decode cL_law 254 = .ok (.iconst 0, 1) := by decide +kernel
theorem dL_law_255 : decode cL_law 255 = .ok (.ireturn, 1) := by decide +kernel
theorem dL_law_256 : decode cL_law 256 = .ok (.iinc 4 1, 3) := by decide +kernel
theorem dL_law_259 : decode cL_law 259 = .ok (.goto (-236), 3) := by decide +kernel
theorem dL_law_262 : decode cL_law 262 = .ok (.aload_n 1, 1) := by decide +kernel
theorem dL_law_263 : decode cL_law 263 = .ok (.invokestatic 131, 3) := by decide +kernel
theorem dL_law_266 : decode cL_law 266 = .ok (.ireturn, 1) := by decide +kernel
