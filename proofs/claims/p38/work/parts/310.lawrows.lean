theorem dL_cell_0 : decode cL_cell 0 = .ok (.iload_n 1, 1) := by decide +kernel
theorem dL_cell_1 : decode cL_cell 1 = .ok (.aload_n 0, 1) := by decide +kernel
theorem dL_cell_2 : decode cL_cell 2 = .ok (.arraylength, 1) := by decide +kernel
theorem dL_cell_3 : decode cL_cell 3 = .ok (.if_icmp .ge 9, 3) := by decide +kernel
theorem dL_cell_6 : decode cL_cell 6 = .ok (.aload_n 0, 1) := by decide +kernel
theorem dL_cell_7 : decode cL_cell 7 = .ok (.iload_n 1, 1) := by decide +kernel
theorem dL_cell_8 : decode cL_cell 8 = .ok (.iaload, 1) := by decide +kernel
theorem dL_cell_9 : decode cL_cell 9 = .ok (.goto 17, 3) := by decide +kernel
theorem dL_cell_12 : decode cL_cell 12 = .ok (.sipush 7919, 3) := by decide +kernel
theorem dL_cell_15 : decode cL_cell 15 = .ok (.iload_n 1, 1) := by decide +kernel
theorem dL_cell_16 : decode cL_cell 16 = .ok (.bipush 7, 2) := by decide +kernel
theorem dL_cell_18 : decode cL_cell 18 = .ok (.iadd, 1) := by decide +kernel
theorem dL_cell_19 : decode cL_cell 19 = .ok (.imul, 1) := by decide +kernel
theorem dL_cell_20 : decode cL_cell 20 = .ok (.iload_n 1, 1) := by decide +kernel
theorem dL_cell_21 : decode cL_cell 21 = .ok (.sipush 1483, 3) := by decide +kernel
theorem dL_cell_24 : decode cL_cell 24 = .ok (.iadd, 1) := by decide +kernel
theorem dL_cell_25 : decode cL_cell 25 = .ok (.imul, 1) := by decide +kernel
theorem dL_cell_26 : decode cL_cell 26 = .ok (.ireturn, 1) := by decide +kernel
theorem dL_low_0 : decode cL_low 0 = .ok (.iload_n 0, 1) := by decide +kernel
theorem dL_low_1 : decode cL_low 1 = .ok (.ldc 7, 2) := by decide +kernel
theorem dL_low_3 : decode cL_low 3 = .ok (.iand, 1) := by decide +kernel
theorem dL_low_4 : decode cL_low 4 = .ok (.iload_n 1, 1) := by decide +kernel
theorem dL_low_5 : decode cL_low 5 = .ok (.irem, 1) := by decide +kernel
theorem dL_low_6 : decode cL_low 6 = .ok (.ireturn, 1) := by decide +kernel
set_option maxRecDepth 20000 in
theorem ggL_changes_X8_draw : GoodIn wsL_changes wsX8_draw := goodIn_ca (goodIn_ca (goodIn_r _ [8, 9, 10, 11, 12, 7, 13, 14, 15, 16, 17, 18, 19, 20, 21, 22, 23, 24, 25, 26, 27, 28, 29, 30, 31, 32, 33, 34, 35, 36, 37, 38, 39, 40, 41, 42, 43, 44, 45, 46, 47, 48, 49, 50, 51, 52, 53, 54, 55, 56, 57, 58, 59, 60, 61, 62, 195, 196, 197, 198, 199, 200, 201, 202, 203, 204, 205, 206, 207, 208, 209, 210, 211, 212, 213, 214, 215, 216] (by decide +kernel) (by decide +kernel)) (goodIn_sub (fun _ h => List.mem_cons_of_mem _ (List.mem_append_left _ (List.mem_append_left _ (List.mem_append_right _ h)))) (by decide +kernel))) (goodIn_sub (fun _ h => List.mem_cons_of_mem _ (List.mem_append_left _ (List.mem_append_right _ h))) (by decide +kernel))
set_option maxRecDepth 20000 in
theorem gL_changes_X8_draw : GoodIn wsL_changes (wsV RL 8 RX8 yX8_draw wsX8_draw) := goodIn_app (goodIn_of _ (by decide +kernel)) ggL_changes_X8_draw
set_option maxRecDepth 20000 in
theorem ggL_changes_X8_fill : GoodIn wsL_changes wsX8_fill := goodIn_ca (goodIn_ca (goodIn_r _ [66, 9, 10, 11, 12, 7, 13, 14, 15, 16, 17, 18, 19, 20, 21, 22, 23, 24, 25, 26, 27, 28, 29, 30, 31, 32, 33, 34, 35, 36, 37, 38, 39, 40, 41, 42, 43, 44, 45, 46, 47, 48, 49, 50, 51, 52, 53, 54, 55, 56, 57, 58, 59, 67, 68, 69, 70, 60, 61, 62, 195, 196, 197, 198, 199, 200, 201, 202, 203, 204, 205, 206, 207, 208, 209, 210, 211, 212, 213, 214, 215, 216] (by decide +kernel) (by decide +kernel)) (goodIn_sub (fun _ h => List.mem_cons_of_mem _ (List.mem_append_left _ (List.mem_append_left _ (List.mem_append_right _ h)))) (by decide +kernel))) (goodIn_sub (fun _ h => List.mem_cons_of_mem _ (List.mem_append_left _ (List.mem_append_right _ h))) (by decide +kernel))
set_option maxRecDepth 20000 in
theorem gL_changes_X8_fill : GoodIn wsL_changes (wsV RL 14 RX8 yX8_fill wsX8_fill) := goodIn_app (goodIn_of _ (by decide +kernel)) ggL_changes_X8_fill
set_option maxRecDepth 20000 in
theorem ggL_changes_X8_scroll : GoodIn wsL_changes wsX8_scroll := goodIn_ca (goodIn_r _ [74, 9, 10, 16, 17, 7, 18, 19, 20, 21, 22, 23, 24, 25, 26, 27, 28, 29, 30, 31, 32, 33, 34, 35, 36, 37, 38, 39, 40, 41, 42, 43, 44, 45, 46, 47, 48, 49, 50, 51, 52, 53, 54, 55, 56, 57, 58, 59, 75, 76, 77, 78, 79, 80, 81, 82, 83, 84, 85, 86, 70, 60, 61, 62, 195, 196, 197, 198, 199, 200, 201, 202, 213, 214, 215, 203, 204, 205, 206, 207, 208, 209, 210, 211, 212, 216] (by decide +kernel) (by decide +kernel)) (goodIn_sub (fun _ h => List.mem_cons_of_mem _ (List.mem_append_left _ (List.mem_append_right _ h))) (by decide +kernel))
set_option maxRecDepth 20000 in
theorem gL_changes_X8_scroll : GoodIn wsL_changes (wsV RL 18 RX8 yX8_scroll wsX8_scroll) := goodIn_app (goodIn_of _ (by decide +kernel)) ggL_changes_X8_scroll
set_option maxRecDepth 20000 in
theorem ggL_changes_X8_send : GoodIn wsL_changes wsX8_send := goodIn_ca (goodIn_r _ [90, 91, 92, 9, 10, 93, 94, 95, 7, 96, 21, 22, 23, 24, 25, 26, 27, 28, 29, 30, 31, 32, 33, 34, 35, 36, 37, 38, 39, 40, 41, 42, 43, 44, 45, 46, 47, 48, 49, 50, 51, 52, 53, 54, 55, 56, 57, 58, 59, 97, 98, 99, 100, 101, 102, 103, 104, 105, 106, 107, 108, 109, 110, 111, 112, 113, 114, 115, 116, 117, 118, 119, 120, 121, 122, 123, 124, 125, 126, 127, 128, 129, 130, 131, 132, 133, 84, 85, 86, 134, 135, 136, 137, 138, 139, 140, 141, 142, 143, 60, 61, 62, 144, 145, 146, 147, 148, 149, 150, 151, 152, 153, 154, 155, 156, 157, 158, 159, 160, 161, 162, 79, 163, 164, 165, 166, 167, 168, 169, 170, 171, 172, 173, 174, 175, 176, 177, 178, 179, 180, 181, 182, 183, 184, 185, 186, 195, 196, 197, 198, 199, 200, 201, 202, 203, 204, 205, 206, 207, 208, 209, 210, 211, 212, 213, 214, 215, 216, 217, 218, 219, 220, 221, 222] (by decide +kernel) (by decide +kernel)) (goodIn_sub (fun _ h => List.mem_cons_of_mem _ (List.mem_append_right _ h)) (by decide +kernel))
set_option maxRecDepth 20000 in
theorem gL_changes_X8_send : GoodIn wsL_changes (wsV RL 21 RX8 yX8_send wsX8_send) := goodIn_app (goodIn_of _ (by decide +kernel)) ggL_changes_X8_send
set_option maxRecDepth 20000 in
theorem ggL_changes_X8_setBudget : GoodIn wsL_changes wsX8_setBudget := goodIn_ca (goodIn_r _ [190, 9, 10, 16, 17, 7, 18, 19, 20, 21, 22, 23, 24, 25, 26, 27, 28, 29, 30, 31, 32, 33, 34, 35, 36, 37, 38, 39, 40, 41, 42, 43, 44, 45, 46, 47, 48, 49, 50, 51, 52, 53, 54, 55, 56, 57, 58, 59, 195, 196, 197, 198, 199, 200, 201, 202, 203, 204, 205, 206, 207, 208, 209, 210, 211, 212, 213, 214, 215, 216] (by decide +kernel) (by decide +kernel)) (goodIn_sub (fun _ h => List.mem_cons_of_mem _ (List.mem_append_left _ (List.mem_append_right _ h))) (by decide +kernel))
set_option maxRecDepth 20000 in
theorem gL_changes_X8_setBudget : GoodIn wsL_changes (wsV RL 25 RX8 yX8_setBudget wsX8_setBudget) := goodIn_app (goodIn_of _ (by decide +kernel)) ggL_changes_X8_setBudget
set_option maxRecDepth 20000 in
theorem ggL_changes_X8_setKeyDistance : GoodIn wsL_changes wsX8_setKeyDistance := goodIn_ca (goodIn_r _ [194, 9, 10, 16, 17, 7, 18, 19, 20, 21, 22, 23, 24, 25, 26, 27, 28, 29, 30, 31, 32, 33, 34, 35, 36, 37, 38, 39, 40, 41, 42, 43, 44, 45, 46, 47, 48, 49, 50, 51, 52, 53, 54, 55, 56, 57, 58, 59, 195, 196, 197, 198, 199, 200, 201, 202, 203, 204, 205, 206, 207, 208, 209, 210, 211, 212, 213, 214, 215, 216] (by decide +kernel) (by decide +kernel)) (goodIn_sub (fun _ h => List.mem_cons_of_mem _ (List.mem_append_left _ (List.mem_append_right _ h))) (by decide +kernel))
set_option maxRecDepth 20000 in
theorem gL_changes_X8_setKeyDistance : GoodIn wsL_changes (wsV RL 29 RX8 yX8_setKeyDistance wsX8_setKeyDistance) := goodIn_app (goodIn_of _ (by decide +kernel)) ggL_changes_X8_setKeyDistance
theorem dL_changes_0 : decode cL_changes 0 = .ok (.aload 5, 2) := by decide +kernel
theorem dL_changes_2 : decode cL_changes 2 = .ok (.iconst 0, 1) := by decide +kernel
theorem dL_changes_3 : decode cL_changes 3 = .ok (.iload_n 1, 1) := by decide +kernel
theorem dL_changes_4 : decode cL_changes 4 = .ok (.ifCond .ne 12, 3) := by decide +kernel
theorem dL_changes_7 : decode cL_changes 7 = .ok (.aload_n 0, 1) := by decide +kernel
theorem dL_changes_8 : decode cL_changes 8 = .ok (.iload_n 2, 1) := by decide +kernel
theorem dL_changes_9 : decode cL_changes 9 = .ok (.iload_n 3, 1) := by decide +kernel
theorem dL_changes_10 : decode cL_changes 10 = .ok (.invokevirtual 8, 3) := by decide +kernel
theorem dL_changes_13 : decode cL_changes 13 = .ok (.goto 81, 3) := by decide +kernel
theorem dL_changes_16 : decode cL_changes 16 = .ok (.iload_n 1, 1) := by decide +kernel
theorem dL_changes_17 : decode cL_changes 17 = .ok (.iconst 1, 1) := by decide +kernel
theorem dL_changes_18 : decode cL_changes 18 = .ok (.if_icmp .ne 22, 3) := by decide +kernel
theorem dL_changes_21 : decode cL_changes 21 = .ok (.aload_n 0, 1) := by decide +kernel
theorem dL_changes_22 : decode cL_changes 22 = .ok (.iload_n 2, 1) := by decide +kernel
theorem dL_changes_23 : decode cL_changes 23 = .ok (.iload_n 3, 1) := by decide +kernel
theorem dL_changes_24 : decode cL_changes 24 = .ok (.iload 4, 2) := by decide +kernel
theorem dL_changes_26 : decode cL_changes 26 = .ok (.bipush 100, 2) := by decide +kernel
theorem dL_changes_28 : decode cL_changes 28 = .ok (.idiv, 1) := by decide +kernel
theorem dL_changes_29 : decode cL_changes 29 = .ok (.iload 4, 2) := by decide +kernel
theorem dL_changes_31 : decode cL_changes 31 = .ok (.bipush 100, 2) := by decide +kernel
theorem dL_changes_33 : decode cL_changes 33 = .ok (.irem, 1) := by decide +kernel
theorem dL_changes_34 : decode cL_changes 34 = .ok (.invokevirtual 14, 3) := by decide +kernel
theorem dL_changes_37 : decode cL_changes 37 = .ok (.goto 57, 3) := by decide +kernel
theorem dL_changes_40 : decode cL_changes 40 = .ok (.iload_n 1, 1) := by decide +kernel
theorem dL_changes_41 : decode cL_changes 41 = .ok (.iconst 2, 1) := by decide +kernel
theorem dL_changes_42 : decode cL_changes 42 = .ok (.if_icmp .ne 12, 3) := by decide +kernel
theorem dL_changes_45 : decode cL_changes 45 = .ok (.aload_n 0, 1) := by decide +kernel
theorem dL_changes_46 : decode cL_changes 46 = .ok (.iload_n 2, 1) := by decide +kernel
theorem dL_changes_47 : decode cL_changes 47 = .ok (.iload_n 3, 1) := by decide +kernel
theorem dL_changes_48 : decode cL_changes 48 = .ok (.invokevirtual 18, 3) := by decide +kernel
theorem dL_changes_51 : decode cL_changes 51 = .ok (.goto 43, 3) := by decide +kernel
theorem dL_changes_54 : decode cL_changes 54 = .ok (.iload_n 1, 1) := by decide +kernel
theorem dL_changes_55 : decode cL_changes 55 = .ok (.iconst 3, 1) := by decide +kernel
theorem dL_changes_56 : decode cL_changes 56 = .ok (.if_icmp .ne 20, 3) := by decide +kernel
theorem dL_changes_59 : decode cL_changes 59 = .ok (.aload_n 0, 1) := by decide +kernel
theorem dL_changes_60 : decode cL_changes 60 = .ok (.iload_n 2, 1) := by decide +kernel
theorem dL_changes_61 : decode cL_changes 61 = .ok (.iconst 1, 1) := by decide +kernel
theorem dL_changes_62 : decode cL_changes 62 = .ok (.if_icmp .ne 7, 3) := by decide +kernel
theorem dL_changes_65 : decode cL_changes 65 = .ok (.iconst 1, 1) := by decide +kernel
theorem dL_changes_66 : decode cL_changes 66 = .ok (.goto 4, 3) := by decide +kernel
theorem dL_changes_69 : decode cL_changes 69 = .ok (.iconst 0, 1) := by decide +kernel
theorem dL_changes_70 : decode cL_changes 70 = .ok (.invokevirtual 21, 3) := by decide +kernel
theorem dL_changes_73 : decode cL_changes 73 = .ok (.goto 21, 3) := by decide +kernel
theorem dL_changes_76 : decode cL_changes 76 = .ok (.iload_n 1, 1) := by decide +kernel
theorem dL_changes_77 : decode cL_changes 77 = .ok (.iconst 4, 1) := by decide +kernel
theorem dL_changes_78 : decode cL_changes 78 = .ok (.if_icmp .ne 11, 3) := by decide +kernel
theorem dL_changes_81 : decode cL_changes 81 = .ok (.aload_n 0, 1) := by decide +kernel
theorem dL_changes_82 : decode cL_changes 82 = .ok (.iload_n 2, 1) := by decide +kernel
theorem dL_changes_83 : decode cL_changes 83 = .ok (.invokevirtual 25, 3) := by decide +kernel
theorem dL_changes_86 : decode cL_changes 86 = .ok (.goto 8, 3) := by decide +kernel
theorem dL_changes_89 : decode cL_changes 89 = .ok (.aload_n 0, 1) := by decide +kernel
theorem dL_changes_90 : decode cL_changes 90 = .ok (.iload_n 2, 1) := by decide +kernel
theorem dL_changes_91 : decode cL_changes 91 = .ok (.invokevirtual 29, 3) := by decide +kernel
theorem dL_changes_94 : decode cL_changes 94 = .ok (.iastore, 1) := by decide +kernel
theorem dL_changes_95 : decode cL_changes 95 = .ok (.goto 15, 3) := by decide +kernel
theorem dL_changes_98 : decode cL_changes 98 = .ok (.astore 6, 2) := by decide +kernel
theorem dL_changes_100 : decode cL_changes 100 = .ok (.iconst 1, 1) := by decide +kernel
theorem dL_changes_101 : decode cL_changes 101 = .ok (.ireturn, 1) := by decide +kernel
theorem dL_changes_102 : decode cL_changes 102 = .ok (.astore 6, 2) := by decide +kernel
theorem dL_changes_104 : decode cL_changes 104 = .ok (.iconst 2, 1) := by decide +kernel
theorem dL_changes_105 : decode cL_changes 105 = .ok (.ireturn, 1) := by decide +kernel
theorem dL_changes_106 : decode cL_changes 106 = .ok (.astore 6, 2) := by decide +kernel
theorem dL_changes_108 : decode cL_changes 108 = .ok (.iconst 3, 1) := by decide +kernel
theorem dL_changes_109 : decode cL_changes 109 = .ok (.ireturn, 1) := by decide +kernel
theorem dL_changes_110 : decode cL_changes 110 = .ok (.iconst 0, 1) := by decide +kernel
theorem dL_changes_111 : decode cL_changes 111 = .ok (.ireturn, 1) := by decide +kernel
set_option maxRecDepth 20000 in
theorem ggL_act_L_low : GoodIn wsL_act wsL_low := goodIn_r _ [4, 5] (by decide +kernel) (by decide +kernel)
set_option maxRecDepth 20000 in
theorem gL_act_L_low : GoodIn wsL_act (va_wsS RL 38 yL_low wsL_low) := goodIn_app (goodIn_of _ (by decide +kernel)) ggL_act_L_low
set_option maxRecDepth 20000 in
theorem ggL_act_L_changes : GoodIn wsL_act wsL_changes := goodIn_ca (goodIn_ca (goodIn_ca (goodIn_r _ [8, 9, 10, 11, 12, 13, 14, 15, 16, 17, 18, 19, 20, 21, 22, 23, 24, 25, 26, 27, 28, 29, 30, 31, 32, 33, 34, 35, 36, 37, 38, 39, 40, 41, 42, 43, 44, 45, 46, 47, 48, 49, 50, 51, 52, 53, 54, 55, 56, 57, 58, 59, 60, 61, 62, 63, 64, 65, 66, 67, 68, 69, 70, 71, 72, 73, 74, 75, 76, 77, 78, 79, 80, 81, 82, 83, 84, 85, 86, 87, 88, 89, 90, 91, 92, 93, 94, 95, 96, 97, 98, 99, 100, 101, 102, 103, 104, 105, 106, 107, 108, 109, 110, 111, 112, 113, 114, 115, 116, 117, 118, 119, 120, 121, 122, 123, 124, 125, 126, 127, 128, 129, 130, 131, 132, 133, 134, 135, 136, 137, 138, 139, 140, 141, 142, 143, 144, 145, 146, 147, 148, 149, 150, 151, 152, 153, 154, 155, 156, 157, 158, 159, 160, 161, 162, 163, 164, 165, 166, 167, 168, 169, 170, 171, 172, 173, 174, 175, 176, 177, 178, 179, 180, 181, 182, 183, 184, 185, 186, 187, 188, 189, 190, 191, 192, 193, 194, 195, 196, 197, 198, 199, 200, 201, 202, 203, 204, 205, 206, 207, 208, 209, 210, 211, 212, 213, 214, 215, 216, 217, 218, 219, 220, 221, 222, 223, 224, 225, 226, 227, 228, 229, 230] (by decide +kernel) (by decide +kernel)) (goodIn_sub (fun _ h => List.mem_cons_of_mem _ (List.mem_append_left _ (List.mem_append_left _ (List.mem_append_right _ h)))) (by decide +kernel))) (goodIn_sub (fun _ h => List.mem_cons_of_mem _ (List.mem_append_left _ (List.mem_append_right _ h))) (by decide +kernel))) (goodIn_sub (fun _ h => List.mem_cons_of_mem _ (List.mem_append_right _ h)) (by decide +kernel))
set_option maxRecDepth 20000 in
theorem gL_act_L_changes : GoodIn wsL_act (va_wsS RL 43 yL_changes wsL_changes) := goodIn_app (goodIn_of _ (by decide +kernel)) ggL_act_L_changes
theorem dL_act_0 : decode cL_act 0 = .ok (.iload_n 1, 1) := by decide +kernel
theorem dL_act_1 : decode cL_act 1 = .ok (.iconst 5, 1) := by decide +kernel
theorem dL_act_2 : decode cL_act 2 = .ok (.ishr, 1) := by decide +kernel
theorem dL_act_3 : decode cL_act 3 = .ok (.istore_n 3, 1) := by decide +kernel
theorem dL_act_4 : decode cL_act 4 = .ok (.iload_n 1, 1) := by decide +kernel
theorem dL_act_5 : decode cL_act 5 = .ok (.bipush 22, 2) := by decide +kernel
theorem dL_act_7 : decode cL_act 7 = .ok (.ishr, 1) := by decide +kernel
theorem dL_act_8 : decode cL_act 8 = .ok (.bipush 9, 2) := by decide +kernel
theorem dL_act_10 : decode cL_act 10 = .ok (.invokestatic 38, 3) := by decide +kernel
theorem dL_act_13 : decode cL_act 13 = .ok (.ifCond .le 7, 3) := by decide +kernel
theorem dL_act_16 : decode cL_act 16 = .ok (.iconst 1, 1) := by decide +kernel
theorem dL_act_17 : decode cL_act 17 = .ok (.goto 4, 3) := by decide +kernel
theorem dL_act_20 : decode cL_act 20 = .ok (.iconst 0, 1) := by decide +kernel
theorem dL_act_21 : decode cL_act 21 = .ok (.istore 4, 2) := by decide +kernel
theorem dL_act_23 : decode cL_act 23 = .ok (.iload_n 1, 1) := by decide +kernel
theorem dL_act_24 : decode cL_act 24 = .ok (.bipush 20, 2) := by decide +kernel
theorem dL_act_26 : decode cL_act 26 = .ok (.invokestatic 38, 3) := by decide +kernel
theorem dL_act_29 : decode cL_act 29 = .ok (.istore 5, 2) := by decide +kernel
theorem dL_act_31 : decode cL_act 31 = .ok (.iload 5, 2) := by decide +kernel
theorem dL_act_33 : decode cL_act 33 = .ok (.iconst 4, 1) := by decide +kernel
theorem dL_act_34 : decode cL_act 34 = .ok (.if_icmp .ge 46, 3) := by decide +kernel
theorem dL_act_37 : decode cL_act 37 = .ok (.aload_n 0, 1) := by decide +kernel
theorem dL_act_38 : decode cL_act 38 = .ok (.iconst 0, 1) := by decide +kernel
theorem dL_act_39 : decode cL_act 39 = .ok (.iload_n 3, 1) := by decide +kernel
theorem dL_act_40 : decode cL_act 40 = .ok (.iload 4, 2) := by decide +kernel
theorem dL_act_42 : decode cL_act 42 = .ok (.ifCond .eq 8, 3) := by decide +kernel
theorem dL_act_45 : decode cL_act 45 = .ok (.bipush 64, 2) := by decide +kernel
theorem dL_act_47 : decode cL_act 47 = .ok (.goto 5, 3) := by decide +kernel
theorem dL_act_50 : decode cL_act 50 = .ok (.bipush 80, 2) := by decide +kernel
theorem dL_act_52 : decode cL_act 52 = .ok (.invokestatic 38, 3) := by decide +kernel
theorem dL_act_55 : decode cL_act 55 = .ok (.iload_n 3, 1) := by decide +kernel
theorem dL_act_56 : decode cL_act 56 = .ok (.bipush 6, 2) := by decide +kernel
theorem dL_act_58 : decode cL_act 58 = .ok (.ishr, 1) := by decide +kernel
theorem dL_act_59 : decode cL_act 59 = .ok (.iload 4, 2) := by decide +kernel
theorem dL_act_61 : decode cL_act 61 = .ok (.ifCond .eq 8, 3) := by decide +kernel
theorem dL_act_64 : decode cL_act 64 = .ok (.bipush 16, 2) := by decide +kernel
theorem dL_act_66 : decode cL_act 66 = .ok (.goto 5, 3) := by decide +kernel
theorem dL_act_69 : decode cL_act 69 = .ok (.bipush 20, 2) := by decide +kernel
theorem dL_act_71 : decode cL_act 71 = .ok (.invokestatic 38, 3) := by decide +kernel
theorem dL_act_74 : decode cL_act 74 = .ok (.iconst 0, 1) := by decide +kernel
theorem dL_act_75 : decode cL_act 75 = .ok (.aload_n 2, 1) := by decide +kernel
theorem dL_act_76 : decode cL_act 76 = .ok (.invokestatic 43, 3) := by decide +kernel
theorem dL_act_79 : decode cL_act 79 = .ok (.ireturn, 1) := by decide +kernel
theorem dL_act_80 : decode cL_act 80 = .ok (.iload 5, 2) := by decide +kernel
theorem dL_act_82 : decode cL_act 82 = .ok (.bipush 9, 2) := by decide +kernel
theorem dL_act_84 : decode cL_act 84 = .ok (.if_icmp .ge 80, 3) := by decide +kernel
theorem dL_act_87 : decode cL_act 87 = .ok (.aload_n 0, 1) := by decide +kernel
theorem dL_act_88 : decode cL_act 88 = .ok (.iconst 1, 1) := by decide +kernel
theorem dL_act_89 : decode cL_act 89 = .ok (.iload_n 3, 1) := by decide +kernel
theorem dL_act_90 : decode cL_act 90 = .ok (.iload 4, 2) := by decide +kernel
theorem dL_act_92 : decode cL_act 92 = .ok (.ifCond .eq 8, 3) := by decide +kernel
theorem dL_act_95 : decode cL_act 95 = .ok (.bipush 64, 2) := by decide +kernel
theorem dL_act_97 : decode cL_act 97 = .ok (.goto 5, 3) := by decide +kernel
theorem dL_act_100 : decode cL_act 100 = .ok (.bipush 70, 2) := by decide +kernel
theorem dL_act_102 : decode cL_act 102 = .ok (.invokestatic 38, 3) := by decide +kernel
theorem dL_act_105 : decode cL_act 105 = .ok (.iload_n 3, 1) := by decide +kernel
theorem dL_act_106 : decode cL_act 106 = .ok (.bipush 6, 2) := by decide +kernel
theorem dL_act_108 : decode cL_act 108 = .ok (.ishr, 1) := by decide +kernel
theorem dL_act_109 : decode cL_act 109 = .ok (.bipush 8, 2) := by decide +kernel
theorem dL_act_111 : decode cL_act 111 = .ok (.invokestatic 38, 3) := by decide +kernel
theorem dL_act_114 : decode cL_act 114 = .ok (.iload 4, 2) := by decide +kernel
theorem dL_act_116 : decode cL_act 116 = .ok (.ifCond .eq 7, 3) := by decide +kernel
theorem dL_act_119 : decode cL_act 119 = .ok (.iconst 1, 1) := by decide +kernel
theorem dL_act_120 : decode cL_act 120 = .ok (.goto 4, 3) := by decide +kernel
theorem dL_act_123 : decode cL_act 123 = .ok (.iconst 0, 1) := by decide +kernel
theorem dL_act_124 : decode cL_act 124 = .ok (.iadd, 1) := by decide +kernel
theorem dL_act_125 : decode cL_act 125 = .ok (.bipush 100, 2) := by decide +kernel
theorem dL_act_127 : decode cL_act 127 = .ok (.iconst 1, 1) := by decide +kernel
theorem dL_act_128 : decode cL_act 128 = .ok (.iload_n 3, 1) := by decide +kernel
theorem dL_act_129 : decode cL_act 129 = .ok (.bipush 9, 2) := by decide +kernel
theorem dL_act_131 : decode cL_act 131 = .ok (.ishr, 1) := by decide +kernel
theorem dL_act_132 : decode cL_act 132 = .ok (.iload 4, 2) := by decide +kernel
theorem dL_act_134 : decode cL_act 134 = .ok (.ifCond .eq 8, 3) := by decide +kernel
theorem dL_act_137 : decode cL_act 137 = .ok (.bipush 8, 2) := by decide +kernel
theorem dL_act_139 : decode cL_act 139 = .ok (.goto 5, 3) := by decide +kernel
theorem dL_act_142 : decode cL_act 142 = .ok (.bipush 9, 2) := by decide +kernel
theorem dL_act_144 : decode cL_act 144 = .ok (.invokestatic 38, 3) := by decide +kernel
theorem dL_act_147 : decode cL_act 147 = .ok (.iadd, 1) := by decide +kernel
theorem dL_act_148 : decode cL_act 148 = .ok (.imul, 1) := by decide +kernel
theorem dL_act_149 : decode cL_act 149 = .ok (.iload_n 3, 1) := by decide +kernel
theorem dL_act_150 : decode cL_act 150 = .ok (.bipush 12, 2) := by decide +kernel
theorem dL_act_152 : decode cL_act 152 = .ok (.ishr, 1) := by decide +kernel
theorem dL_act_153 : decode cL_act 153 = .ok (.bipush 16, 2) := by decide +kernel
theorem dL_act_155 : decode cL_act 155 = .ok (.invokestatic 38, 3) := by decide +kernel
theorem dL_act_158 : decode cL_act 158 = .ok (.iadd, 1) := by decide +kernel
theorem dL_act_159 : decode cL_act 159 = .ok (.aload_n 2, 1) := by decide +kernel
theorem dL_act_160 : decode cL_act 160 = .ok (.invokestatic 43, 3) := by decide +kernel
theorem dL_act_163 : decode cL_act 163 = .ok (.ireturn, 1) := by decide +kernel
theorem dL_act_164 : decode cL_act 164 = .ok (.iload 5, 2) := by decide +kernel
theorem dL_act_166 : decode cL_act 166 = .ok (.bipush 13, 2) := by decide +kernel
theorem dL_act_168 : decode cL_act 168 = .ok (.if_icmp .ge 37, 3) := by decide +kernel
theorem dL_act_171 : decode cL_act 171 = .ok (.aload_n 0, 1) := by decide +kernel
theorem dL_act_172 : decode cL_act 172 = .ok (.iconst 2, 1) := by decide +kernel
theorem dL_act_173 : decode cL_act 173 = .ok (.iload_n 3, 1) := by decide +kernel
theorem dL_act_174 : decode cL_act 174 = .ok (.iload 4, 2) := by decide +kernel
theorem dL_act_176 : decode cL_act 176 = .ok (.ifCond .eq 7, 3) := by decide +kernel
theorem dL_act_179 : decode cL_act 179 = .ok (.iconst 5, 1) := by decide +kernel
theorem dL_act_180 : decode cL_act 180 = .ok (.goto 5, 3) := by decide +kernel
theorem dL_act_183 : decode cL_act 183 = .ok (.bipush 8, 2) := by decide +kernel
theorem dL_act_185 : decode cL_act 185 = .ok (.invokestatic 38, 3) := by decide +kernel
theorem dL_act_188 : decode cL_act 188 = .ok (.iconst 2, 1) := by decide +kernel
theorem dL_act_189 : decode cL_act 189 = .ok (.isub, 1) := by decide +kernel
theorem dL_act_190 : decode cL_act 190 = .ok (.iload_n 3, 1) := by decide +kernel
theorem dL_act_191 : decode cL_act 191 = .ok (.iconst 3, 1) := by decide +kernel
theorem dL_act_192 : decode cL_act 192 = .ok (.ishr, 1) := by decide +kernel
theorem dL_act_193 : decode cL_act 193 = .ok (.iconst 5, 1) := by decide +kernel
theorem dL_act_194 : decode cL_act 194 = .ok (.invokestatic 38, 3) := by decide +kernel
theorem dL_act_197 : decode cL_act 197 = .ok (.iconst 2, 1) := by decide +kernel
theorem dL_act_198 : decode cL_act 198 = .ok (.isub, 1) := by decide +kernel
theorem dL_act_199 : decode cL_act 199 = .ok (.iconst 0, 1) := by decide +kernel
theorem dL_act_200 : decode cL_act 200 = .ok (.aload_n 2, 1) := by decide +kernel
theorem dL_act_201 : decode cL_act 201 = .ok (.invokestatic 43, 3) := by decide +kernel
theorem dL_act_204 : decode cL_act 204 = .ok (.ireturn, 1) := by decide +kernel
theorem dL_act_205 : decode cL_act 205 = .ok (.iload 5, 2) := by decide +kernel
theorem dL_act_207 : decode cL_act 207 = .ok (.bipush 18, 2) := by decide +kernel
theorem dL_act_209 : decode cL_act 209 = .ok (.if_icmp .ge 25, 3) := by decide +kernel
theorem dL_act_212 : decode cL_act 212 = .ok (.aload_n 0, 1) := by decide +kernel
theorem dL_act_213 : decode cL_act 213 = .ok (.iconst 3, 1) := by decide +kernel
theorem dL_act_214 : decode cL_act 214 = .ok (.iload_n 3, 1) := by decide +kernel
theorem dL_act_215 : decode cL_act 215 = .ok (.iconst 3, 1) := by decide +kernel
theorem dL_act_216 : decode cL_act 216 = .ok (.iand, 1) := by decide +kernel
theorem dL_act_217 : decode cL_act 217 = .ok (.ifCond .ne 7, 3) := by decide +kernel
theorem dL_act_220 : decode cL_act 220 = .ok (.iconst 1, 1) := by decide +kernel
theorem dL_act_221 : decode cL_act 221 = .ok (.goto 4, 3) := by decide +kernel
theorem dL_act_224 : decode cL_act 224 = .ok (.iconst 0, 1) := by decide +kernel
theorem dL_act_225 : decode cL_act 225 = .ok (.iconst 0, 1) := by decide +kernel
theorem dL_act_226 : decode cL_act 226 = .ok (.iconst 0, 1) := by decide +kernel
theorem dL_act_227 : decode cL_act 227 = .ok (.aload_n 2, 1) := by decide +kernel
theorem dL_act_228 : decode cL_act 228 = .ok (.invokestatic 43, 3) := by decide +kernel
theorem dL_act_231 : decode cL_act 231 = .ok (.goto 85, 3) := by decide +kernel
theorem dL_act_234 : decode cL_act 234 = .ok (.iload 5, 2) := by decide +kernel
theorem dL_act_236 : decode cL_act 236 = .ok (.bipush 18, 2) := by decide +kernel
theorem dL_act_238 : decode cL_act 238 = .ok (.if_icmp .ne 43, 3) := by decide +kernel
theorem dL_act_241 : decode cL_act 241 = .ok (.aload_n 0, 1) := by decide +kernel
theorem dL_act_242 : decode cL_act 242 = .ok (.iconst 4, 1) := by decide +kernel
theorem dL_act_243 : decode cL_act 243 = .ok (.iload_n 3, 1) := by decide +kernel
theorem dL_act_244 : decode cL_act 244 = .ok (.iload 4, 2) := by decide +kernel
theorem dL_act_246 : decode cL_act 246 = .ok (.ifCond .eq 9, 3) := by decide +kernel
theorem dL_act_249 : decode cL_act 249 = .ok (.sipush 297, 3) := by decide +kernel
theorem dL_act_252 : decode cL_act 252 = .ok (.goto 6, 3) := by decide +kernel
theorem dL_act_255 : decode cL_act 255 = .ok (.sipush 320, 3) := by decide +kernel
theorem dL_act_258 : decode cL_act 258 = .ok (.invokestatic 38, 3) := by decide +kernel
theorem dL_act_261 : decode cL_act 261 = .ok (.iload 4, 2) := by decide +kernel
theorem dL_act_263 : decode cL_act 263 = .ok (.ifCond .eq 7, 3) := by decide +kernel
theorem dL_act_266 : decode cL_act 266 = .ok (.iconst 4, 1) := by decide +kernel
theorem dL_act_267 : decode cL_act 267 = .ok (.goto 4, 3) := by decide +kernel
theorem dL_act_270 : decode cL_act 270 = .ok (.iconst 0, 1) := by decide +kernel
theorem dL_act_271 : decode cL_act 271 = .ok (.iadd, 1) := by decide +kernel
theorem dL_act_272 : decode cL_act 272 = .ok (.iconst 0, 1) := by decide +kernel
theorem dL_act_273 : decode cL_act 273 = .ok (.iconst 0, 1) := by decide +kernel
theorem dL_act_274 : decode cL_act 274 = .ok (.aload_n 2, 1) := by decide +kernel
theorem dL_act_275 : decode cL_act 275 = .ok (.invokestatic 43, 3) := by decide +kernel
theorem dL_act_278 : decode cL_act 278 = .ok (.goto 38, 3) := by decide +kernel
theorem dL_act_281 : decode cL_act 281 = .ok (.aload_n 0, 1) := by decide +kernel
theorem dL_act_282 : decode cL_act 282 = .ok (.iconst 5, 1) := by decide +kernel
theorem dL_act_283 : decode cL_act 283 = .ok (.iload_n 3, 1) := by decide +kernel
theorem dL_act_284 : decode cL_act 284 = .ok (.iload 4, 2) := by decide +kernel
theorem dL_act_286 : decode cL_act 286 = .ok (.ifCond .eq 8, 3) := by decide +kernel
theorem dL_act_289 : decode cL_act 289 = .ok (.bipush 20, 2) := by decide +kernel
theorem dL_act_291 : decode cL_act 291 = .ok (.goto 5, 3) := by decide +kernel
theorem dL_act_294 : decode cL_act 294 = .ok (.bipush 25, 2) := by decide +kernel
theorem dL_act_296 : decode cL_act 296 = .ok (.invokestatic 38, 3) := by decide +kernel
theorem dL_act_299 : decode cL_act 299 = .ok (.iload 4, 2) := by decide +kernel
theorem dL_act_301 : decode cL_act 301 = .ok (.ifCond .eq 7, 3) := by decide +kernel
theorem dL_act_304 : decode cL_act 304 = .ok (.iconst 1, 1) := by decide +kernel
theorem dL_act_305 : decode cL_act 305 = .ok (.goto 4, 3) := by decide +kernel
theorem dL_act_308 : decode cL_act 308 = .ok (.iconst 0, 1) := by decide +kernel
theorem dL_act_309 : decode cL_act 309 = .ok (.iadd, 1) := by decide +kernel
theorem dL_act_310 : decode cL_act 310 = .ok (.iconst 0, 1) := by decide +kernel
theorem dL_act_311 : decode cL_act 311 = .ok (.iconst 0, 1) := by decide +kernel
theorem dL_act_312 : decode cL_act 312 = .ok (.aload_n 2, 1) := by decide +kernel
theorem dL_act_313 : decode cL_act 313 = .ok (.invokestatic 43, 3) := by decide +kernel
theorem dL_act_316 : decode cL_act 316 = .ok (.ireturn, 1) := by decide +kernel
set_option maxRecDepth 20000 in
theorem ggL_areAlike_X8_pictureCount : GoodIn wsL_areAlike wsX8_pictureCount := goodIn_r _ [5, 6, 117, 118, 119, 120, 121, 122, 123, 124, 125, 126, 127, 128, 129, 130, 131, 132, 133, 134] (by decide +kernel) (by decide +kernel)
set_option maxRecDepth 20000 in
theorem gL_areAlike_X8_pictureCount : GoodIn wsL_areAlike (wsV RL 47 RX8 yX8_pictureCount wsX8_pictureCount) := goodIn_app (goodIn_of _ (by decide +kernel)) ggL_areAlike_X8_pictureCount
set_option maxRecDepth 20000 in
theorem ggL_areAlike_X8_lostCount : GoodIn wsL_areAlike wsX8_lostCount := goodIn_r _ [10, 6, 117, 118, 119, 120, 121, 122, 123, 124, 125, 126, 127, 128, 129, 130, 131, 132, 133, 134] (by decide +kernel) (by decide +kernel)
set_option maxRecDepth 20000 in
theorem gL_areAlike_X8_lostCount : GoodIn wsL_areAlike (wsV RL 51 RX8 yX8_lostCount wsX8_lostCount) := goodIn_app (goodIn_of _ (by decide +kernel)) ggL_areAlike_X8_lostCount
set_option maxRecDepth 20000 in
theorem ggL_areAlike_X8_bitCount : GoodIn wsL_areAlike wsX8_bitCount := goodIn_r _ [14, 6, 117, 118, 119, 120, 121, 122, 123, 124, 125, 126, 127, 128, 129, 130, 131, 132, 133, 134] (by decide +kernel) (by decide +kernel)
set_option maxRecDepth 20000 in
theorem gL_areAlike_X8_bitCount : GoodIn wsL_areAlike (wsV RL 54 RX8 yX8_bitCount wsX8_bitCount) := goodIn_app (goodIn_of _ (by decide +kernel)) ggL_areAlike_X8_bitCount
set_option maxRecDepth 20000 in
theorem ggL_areAlike_X8_bitsNext : GoodIn wsL_areAlike wsX8_bitsNext := goodIn_r _ [18, 19, 6, 20, 21, 22, 23, 24, 25, 26, 27, 28, 29, 30, 31, 32, 33, 34, 35, 36, 37, 38, 39, 40, 41, 42, 43, 44, 45, 46, 47, 4, 48, 49, 50, 51, 52, 53, 54, 55, 56, 57, 58, 59, 60, 61, 62, 63, 64, 65, 66, 67, 68, 69, 70, 71, 72, 73, 74, 75, 76, 77, 78, 79, 80, 81, 82, 83, 84, 85, 86, 87, 88, 117, 118, 119, 120, 121, 122, 123, 124, 135, 136, 137, 138, 139, 140, 125, 126, 127, 128, 129, 130, 131, 132, 133, 134, 141] (by decide +kernel) (by decide +kernel)
set_option maxRecDepth 20000 in
theorem gL_areAlike_X8_bitsNext : GoodIn wsL_areAlike (wsV RL 57 RX8 yX8_bitsNext wsX8_bitsNext) := goodIn_app (goodIn_of _ (by decide +kernel)) ggL_areAlike_X8_bitsNext
set_option maxRecDepth 20000 in
theorem ggL_areAlike_X8_drawnAt : GoodIn wsL_areAlike wsX8_drawnAt := goodIn_ca (goodIn_r _ [92, 6, 93, 94, 4, 95, 96, 97, 53, 54, 55, 56, 57, 117, 118, 119, 120, 121, 122, 123, 124, 125, 126, 127, 128, 129, 130, 131, 132, 133, 134, 141] (by decide +kernel) (by decide +kernel)) (goodIn_sub (fun _ h => List.mem_cons_of_mem _ (List.mem_append_right _ h)) (by decide +kernel))
set_option maxRecDepth 20000 in
theorem gL_areAlike_X8_drawnAt : GoodIn wsL_areAlike (wsV RL 60 RX8 yX8_drawnAt wsX8_drawnAt) := goodIn_app (goodIn_of _ (by decide +kernel)) ggL_areAlike_X8_drawnAt
set_option maxRecDepth 20000 in
theorem ggL_areAlike_X8_sentAt : GoodIn wsL_areAlike wsX8_sentAt := goodIn_ca (goodIn_r _ [101, 6, 93, 94, 4, 95, 96, 97, 53, 54, 55, 56, 57, 117, 118, 119, 120, 121, 122, 123, 124, 125, 126, 127, 128, 129, 130, 131, 132, 133, 134, 141] (by decide +kernel) (by decide +kernel)) (goodIn_sub (fun _ h => List.mem_cons_of_mem _ (List.mem_append_right _ h)) (by decide +kernel))
set_option maxRecDepth 20000 in
theorem gL_areAlike_X8_sentAt : GoodIn wsL_areAlike (wsV RL 63 RX8 yX8_sentAt wsX8_sentAt) := goodIn_app (goodIn_of _ (by decide +kernel)) ggL_areAlike_X8_sentAt
set_option maxRecDepth 20000 in
theorem ggL_areAlike_X8_receivedAt : GoodIn wsL_areAlike wsX8_receivedAt := goodIn_ca (goodIn_r _ [105, 6, 93, 94, 4, 95, 96, 97, 53, 54, 55, 56, 57, 117, 118, 119, 120, 121, 122, 123, 124, 125, 126, 127, 128, 129, 130, 131, 132, 133, 134, 141] (by decide +kernel) (by decide +kernel)) (goodIn_sub (fun _ h => List.mem_cons_of_mem _ (List.mem_append_right _ h)) (by decide +kernel))
set_option maxRecDepth 20000 in
theorem gL_areAlike_X8_receivedAt : GoodIn wsL_areAlike (wsV RL 66 RX8 yX8_receivedAt wsX8_receivedAt) := goodIn_app (goodIn_of _ (by decide +kernel)) ggL_areAlike_X8_receivedAt
set_option maxRecDepth 20000 in
theorem ggL_areAlike_X8_lastKind : GoodIn wsL_areAlike wsX8_lastKind := goodIn_ca (goodIn_r _ [109, 6, 110, 111, 4, 112, 96, 97, 117, 118, 119, 120, 121, 122, 123, 124, 125, 126, 127, 128, 129, 130, 131, 132, 133, 134] (by decide +kernel) (by decide +kernel)) (goodIn_sub (fun _ h => List.mem_cons_of_mem _ (List.mem_append_right _ h)) (by decide +kernel))
set_option maxRecDepth 20000 in
theorem gL_areAlike_X8_lastKind : GoodIn wsL_areAlike (wsV RL 69 RX8 yX8_lastKind wsX8_lastKind) := goodIn_app (goodIn_of _ (by decide +kernel)) ggL_areAlike_X8_lastKind
set_option maxRecDepth 20000 in
theorem ggL_areAlike_X8_lastMove : GoodIn wsL_areAlike wsX8_lastMove := goodIn_ca (goodIn_r _ [116, 6, 110, 111, 4, 112, 96, 97, 117, 118, 119, 120, 121, 122, 123, 124, 125, 126, 127, 128, 129, 130, 131, 132, 133, 134] (by decide +kernel) (by decide +kernel)) (goodIn_sub (fun _ h => List.mem_cons_of_mem _ (List.mem_append_right _ h)) (by decide +kernel))
set_option maxRecDepth 20000 in
theorem gL_areAlike_X8_lastMove : GoodIn wsL_areAlike (wsV RL 72 RX8 yX8_lastMove wsX8_lastMove) := goodIn_app (goodIn_of _ (by decide +kernel)) ggL_areAlike_X8_lastMove
theorem dL_areAlike_0 : decode cL_areAlike 0 = .ok (.aload_n 0, 1) := by decide +kernel
theorem dL_areAlike_1 : decode cL_areAlike 1 = .ok (.invokevirtual 47, 3) := by decide +kernel
theorem dL_areAlike_4 : decode cL_areAlike 4 = .ok (.aload_n 1, 1) := by decide +kernel
theorem dL_areAlike_5 : decode cL_areAlike 5 = .ok (.invokevirtual 47, 3) := by decide +kernel
theorem dL_areAlike_8 : decode cL_areAlike 8 = .ok (.if_icmp .ne 40, 3) := by decide +kernel
theorem dL_areAlike_11 : decode cL_areAlike 11 = .ok (.aload_n 0, 1) := by decide +kernel
theorem dL_areAlike_12 : decode cL_areAlike 12 = .ok (.invokevirtual 51, 3) := by decide +kernel
theorem dL_areAlike_15 : decode cL_areAlike 15 = .ok (.aload_n 1, 1) := by decide +kernel
theorem dL_areAlike_16 : decode cL_areAlike 16 = .ok (.invokevirtual 51, 3) := by decide +kernel
theorem dL_areAlike_19 : decode cL_areAlike 19 = .ok (.if_icmp .ne 29, 3) := by decide +kernel
theorem dL_areAlike_22 : decode cL_areAlike 22 = .ok (.aload_n 0, 1) := by decide +kernel
theorem dL_areAlike_23 : decode cL_areAlike 23 = .ok (.invokevirtual 54, 3) := by decide +kernel
theorem dL_areAlike_26 : decode cL_areAlike 26 = .ok (.aload_n 1, 1) := by decide +kernel
theorem dL_areAlike_27 : decode cL_areAlike 27 = .ok (.invokevirtual 54, 3) := by decide +kernel
theorem dL_areAlike_30 : decode cL_areAlike 30 = .ok (.if_icmp .ne 18, 3) := by decide +kernel
theorem dL_areAlike_33 : decode cL_areAlike 33 = .ok (.aload_n 0, 1) := by decide +kernel
theorem dL_areAlike_34 : decode cL_areAlike 34 = .ok (.invokevirtual 57, 3) := by decide +kernel
theorem dL_areAlike_37 : decode cL_areAlike 37 = .ok (.aload_n 1, 1) := by decide +kernel
theorem dL_areAlike_38 : decode cL_areAlike 38 = .ok (.invokevirtual 57, 3) := by decide +kernel
theorem dL_areAlike_41 : decode cL_areAlike 41 = .ok (.if_icmp .ne 7, 3) := by decide +kernel
theorem dL_areAlike_44 : decode cL_areAlike 44 = .ok (.iconst 1, 1) := by decide +kernel
theorem dL_areAlike_45 : decode cL_areAlike 45 = .ok (.goto 4, 3) := by decide +kernel
theorem dL_areAlike_48 : decode cL_areAlike 48 = .ok (.iconst 0, 1) := by decide +kernel
theorem dL_areAlike_49 : decode cL_areAlike 49 = .ok (.istore_n 2, 1) := by decide +kernel
theorem dL_areAlike_50 : decode cL_areAlike 50 = .ok (.iconst 0, 1) := by decide +kernel
theorem dL_areAlike_51 : decode cL_areAlike 51 = .ok (.istore_n 3, 1) := by decide +kernel
theorem dL_areAlike_52 : decode cL_areAlike 52 = .ok (.iload_n 3, 1) := by decide +kernel
theorem dL_areAlike_53 : decode cL_areAlike 53 = .ok (.bipush 64, 2) := by decide +kernel
theorem dL_areAlike_55 : decode cL_areAlike 55 = .ok (.if_icmp .ge 58, 3) := by decide +kernel
theorem dL_areAlike_58 : decode cL_areAlike 58 = .ok (.iload_n 2, 1) := by decide +kernel
theorem dL_areAlike_59 : decode cL_areAlike 59 = .ok (.ifCond .eq 54, 3) := by decide +kernel
theorem dL_areAlike_62 : decode cL_areAlike 62 = .ok (.aload_n 0, 1) := by decide +kernel
theorem dL_areAlike_63 : decode cL_areAlike 63 = .ok (.iload_n 3, 1) := by decide +kernel
theorem dL_areAlike_64 : decode cL_areAlike 64 = .ok (.invokevirtual 60, 3) := by decide +kernel
theorem dL_areAlike_67 : decode cL_areAlike 67 = .ok (.aload_n 1, 1) := by decide +kernel
theorem dL_areAlike_68 : decode cL_areAlike 68 = .ok (.iload_n 3, 1) := by decide +kernel
theorem dL_areAlike_69 : decode cL_areAlike 69 = .ok (.invokevirtual 60, 3) := by decide +kernel
theorem dL_areAlike_72 : decode cL_areAlike 72 = .ok (.if_icmp .ne 33, 3) := by decide +kernel
theorem dL_areAlike_75 : decode cL_areAlike 75 = .ok (.aload_n 0, 1) := by decide +kernel
theorem dL_areAlike_76 : decode cL_areAlike 76 = .ok (.iload_n 3, 1) := by decide +kernel
theorem dL_areAlike_77 : decode cL_areAlike 77 = .ok (.invokevirtual 63, 3) := by decide +kernel
theorem dL_areAlike_80 : decode cL_areAlike 80 = .ok (.aload_n 1, 1) := by decide +kernel
theorem dL_areAlike_81 : decode cL_areAlike 81 = .ok (.iload_n 3, 1) := by decide +kernel
theorem dL_areAlike_82 : decode cL_areAlike 82 = .ok (.invokevirtual 63, 3) := by decide +kernel
theorem dL_areAlike_85 : decode cL_areAlike 85 = .ok (.if_icmp .ne 20, 3) := by decide +kernel
theorem dL_areAlike_88 : decode cL_areAlike 88 = .ok (.aload_n 0, 1) := by decide +kernel
theorem dL_areAlike_89 : decode cL_areAlike 89 = .ok (.iload_n 3, 1) := by decide +kernel
theorem dL_areAlike_90 : decode cL_areAlike 90 = .ok (.invokevirtual 66, 3) := by decide +kernel
theorem dL_areAlike_93 : decode cL_areAlike 93 = .ok (.aload_n 1, 1) := by decide +kernel
theorem dL_areAlike_94 : decode cL_areAlike 94 = .ok (.iload_n 3, 1) := by decide +kernel
theorem dL_areAlike_95 : decode cL_areAlike 95 = .ok (.invokevirtual 66, 3) := by decide +kernel
theorem dL_areAlike_98 : decode cL_areAlike 98 = .ok (.if_icmp .ne 7, 3) := by decide +kernel
theorem dL_areAlike_101 : decode cL_areAlike 101 = .ok (.iconst 1, 1) := by decide +kernel
theorem dL_areAlike_102 : decode cL_areAlike 102 = .ok (.goto 4, 3) := by decide +kernel
theorem dL_areAlike_105 : decode cL_areAlike 105 = .ok (.iconst 0, 1) := by decide +kernel
theorem dL_areAlike_106 : decode cL_areAlike 106 = .ok (.istore_n 2, 1) := by decide +kernel
theorem dL_areAlike_107 : decode cL_areAlike 107 = .ok (.iinc 3 1, 3) := by decide +kernel
theorem dL_areAlike_110 : decode cL_areAlike 110 = .ok (.goto (-58), 3) := by decide +kernel
theorem dL_areAlike_113 : decode cL_areAlike 113 = .ok (.iconst 0, 1) := by decide +kernel
theorem dL_areAlike_114 : decode cL_areAlike 114 = .ok (.istore_n 3, 1) := by decide +kernel
theorem dL_areAlike_115 : decode cL_areAlike 115 = .ok (.iload_n 3, 1) := by decide +kernel
theorem dL_areAlike_116 : decode cL_areAlike 116 = .ok (.iconst 4, 1) := by decide +kernel
theorem dL_areAlike_117 : decode cL_areAlike 117 = .ok (.if_icmp .ge 45, 3) := by decide +kernel
theorem dL_areAlike_120 : decode cL_areAlike 120 = .ok (.iload_n 2, 1) := by decide +kernel
theorem dL_areAlike_121 : decode cL_areAlike 121 = .ok (.ifCond .eq 41, 3) := by decide +kernel
theorem dL_areAlike_124 : decode cL_areAlike 124 = .ok (.aload_n 0, 1) := by decide +kernel
theorem dL_areAlike_125 : decode cL_areAlike 125 = .ok (.iload_n 3, 1) := by decide +kernel
theorem dL_areAlike_126 : decode cL_areAlike 126 = .ok (.invokevirtual 69, 3) := by decide +kernel
theorem dL_areAlike_129 : decode cL_areAlike 129 = .ok (.aload_n 1, 1) := by decide +kernel
theorem dL_areAlike_130 : decode cL_areAlike 130 = .ok (.iload_n 3, 1) := by decide +kernel
theorem dL_areAlike_131 : decode cL_areAlike 131 = .ok (.invokevirtual 69, 3) := by decide +kernel
theorem dL_areAlike_134 : decode cL_areAlike 134 = .ok (.if_icmp .ne 20, 3) := by decide +kernel
theorem dL_areAlike_137 : decode cL_areAlike 137 = .ok (.aload_n 0, 1) := by decide +kernel
theorem dL_areAlike_138 : decode cL_areAlike 138 = .ok (.iload_n 3, 1) := by decide +kernel
theorem dL_areAlike_139 : decode cL_areAlike 139 = .ok (.invokevirtual 72, 3) := by decide +kernel
theorem dL_areAlike_142 : decode cL_areAlike 142 = .ok (.aload_n 1, 1) := by decide +kernel
theorem dL_areAlike_143 : decode cL_areAlike 143 = .ok (.iload_n 3, 1) := by decide +kernel
theorem dL_areAlike_144 : decode cL_areAlike 144 = .ok (.invokevirtual 72, 3) := by decide +kernel
theorem dL_areAlike_147 : decode cL_areAlike 147 = .ok (.if_icmp .ne 7, 3) := by decide +kernel
theorem dL_areAlike_150 : decode cL_areAlike 150 = .ok (.iconst 1, 1) := by decide +kernel
theorem dL_areAlike_151 : decode cL_areAlike 151 = .ok (.goto 4, 3) := by decide +kernel
theorem dL_areAlike_154 : decode cL_areAlike 154 = .ok (.iconst 0, 1) := by decide +kernel
theorem dL_areAlike_155 : decode cL_areAlike 155 = .ok (.istore_n 2, 1) := by decide +kernel
theorem dL_areAlike_156 : decode cL_areAlike 156 = .ok (.iinc 3 1, 3) := by decide +kernel
theorem dL_areAlike_159 : decode cL_areAlike 159 = .ok (.goto (-44), 3) := by decide +kernel
theorem dL_areAlike_162 : decode cL_areAlike 162 = .ok (.iload_n 2, 1) := by decide +kernel
theorem dL_areAlike_163 : decode cL_areAlike 163 = .ok (.ireturn, 1) := by decide +kernel
set_option maxRecDepth 20000 in
theorem ggL_arePicturesSo_X8_lostCount : GoodIn wsL_arePicturesSo wsX8_lostCount := goodIn_r _ [5, 6, 60, 61, 62, 63, 64, 65, 66, 67, 68, 69, 70, 71, 72, 73, 74, 75, 76, 77] (by decide +kernel) (by decide +kernel)
set_option maxRecDepth 20000 in
theorem gL_arePicturesSo_X8_lostCount : GoodIn wsL_arePicturesSo (wsV RL 51 RX8 yX8_lostCount wsX8_lostCount) := goodIn_app (goodIn_of _ (by decide +kernel)) ggL_arePicturesSo_X8_lostCount
set_option maxRecDepth 20000 in
theorem ggL_arePicturesSo_X8_pictureCount : GoodIn wsL_arePicturesSo wsX8_pictureCount := goodIn_r _ [10, 6, 60, 61, 62, 63, 64, 65, 66, 67, 68, 69, 70, 71, 72, 73, 74, 75, 76, 77] (by decide +kernel) (by decide +kernel)
set_option maxRecDepth 20000 in
theorem gL_arePicturesSo_X8_pictureCount : GoodIn wsL_arePicturesSo (wsV RL 47 RX8 yX8_pictureCount wsX8_pictureCount) := goodIn_app (goodIn_of _ (by decide +kernel)) ggL_arePicturesSo_X8_pictureCount
set_option maxRecDepth 20000 in
theorem ggL_arePicturesSo_X8_bitCount : GoodIn wsL_arePicturesSo wsX8_bitCount := goodIn_r _ [14, 6, 60, 61, 62, 63, 64, 65, 66, 67, 68, 69, 70, 71, 72, 73, 74, 75, 76, 77] (by decide +kernel) (by decide +kernel)
set_option maxRecDepth 20000 in
theorem gL_arePicturesSo_X8_bitCount : GoodIn wsL_arePicturesSo (wsV RL 54 RX8 yX8_bitCount wsX8_bitCount) := goodIn_app (goodIn_of _ (by decide +kernel)) ggL_arePicturesSo_X8_bitCount
set_option maxRecDepth 20000 in
theorem ggL_arePicturesSo_X8_drawnAt : GoodIn wsL_arePicturesSo wsX8_drawnAt := goodIn_ca (goodIn_r _ [18, 6, 19, 20, 4, 21, 22, 23, 24, 25, 26, 27, 28, 60, 61, 62, 63, 64, 65, 66, 67, 68, 69, 70, 71, 72, 73, 74, 75, 76, 77, 78] (by decide +kernel) (by decide +kernel)) (goodIn_sub (fun _ h => List.mem_cons_of_mem _ (List.mem_append_right _ h)) (by decide +kernel))
set_option maxRecDepth 20000 in
theorem gL_arePicturesSo_X8_drawnAt : GoodIn wsL_arePicturesSo (wsV RL 60 RX8 yX8_drawnAt wsX8_drawnAt) := goodIn_app (goodIn_of _ (by decide +kernel)) ggL_arePicturesSo_X8_drawnAt
set_option maxRecDepth 20000 in
theorem ggL_arePicturesSo_X8_sentAt : GoodIn wsL_arePicturesSo wsX8_sentAt := goodIn_ca (goodIn_r _ [32, 6, 19, 20, 4, 21, 22, 23, 24, 25, 26, 27, 28, 60, 61, 62, 63, 64, 65, 66, 67, 68, 69, 70, 71, 72, 73, 74, 75, 76, 77, 78] (by decide +kernel) (by decide +kernel)) (goodIn_sub (fun _ h => List.mem_cons_of_mem _ (List.mem_append_right _ h)) (by decide +kernel))
set_option maxRecDepth 20000 in
theorem gL_arePicturesSo_X8_sentAt : GoodIn wsL_arePicturesSo (wsV RL 63 RX8 yX8_sentAt wsX8_sentAt) := goodIn_app (goodIn_of _ (by decide +kernel)) ggL_arePicturesSo_X8_sentAt
set_option maxRecDepth 20000 in
theorem ggL_arePicturesSo_X8_receivedAt : GoodIn wsL_arePicturesSo wsX8_receivedAt := goodIn_ca (goodIn_r _ [36, 6, 19, 20, 4, 21, 22, 23, 24, 25, 26, 27, 28, 60, 61, 62, 63, 64, 65, 66, 67, 68, 69, 70, 71, 72, 73, 74, 75, 76, 77, 78] (by decide +kernel) (by decide +kernel)) (goodIn_sub (fun _ h => List.mem_cons_of_mem _ (List.mem_append_right _ h)) (by decide +kernel))
set_option maxRecDepth 20000 in
theorem gL_arePicturesSo_X8_receivedAt : GoodIn wsL_arePicturesSo (wsV RL 66 RX8 yX8_receivedAt wsX8_receivedAt) := goodIn_app (goodIn_of _ (by decide +kernel)) ggL_arePicturesSo_X8_receivedAt
set_option maxRecDepth 20000 in
theorem ggL_arePicturesSo_X8_lastKind : GoodIn wsL_arePicturesSo wsX8_lastKind := goodIn_ca (goodIn_r _ [40, 6, 41, 42, 4, 43, 22, 23, 60, 61, 62, 63, 64, 65, 66, 67, 68, 69, 70, 71, 72, 73, 74, 75, 76, 77] (by decide +kernel) (by decide +kernel)) (goodIn_sub (fun _ h => List.mem_cons_of_mem _ (List.mem_append_right _ h)) (by decide +kernel))
set_option maxRecDepth 20000 in
theorem gL_arePicturesSo_X8_lastKind : GoodIn wsL_arePicturesSo (wsV RL 69 RX8 yX8_lastKind wsX8_lastKind) := goodIn_app (goodIn_of _ (by decide +kernel)) ggL_arePicturesSo_X8_lastKind
set_option maxRecDepth 20000 in
theorem ggL_arePicturesSo_X8_lastMove : GoodIn wsL_arePicturesSo wsX8_lastMove := goodIn_ca (goodIn_r _ [47, 6, 41, 42, 4, 43, 22, 23, 60, 61, 62, 63, 64, 65, 66, 67, 68, 69, 70, 71, 72, 73, 74, 75, 76, 77] (by decide +kernel) (by decide +kernel)) (goodIn_sub (fun _ h => List.mem_cons_of_mem _ (List.mem_append_right _ h)) (by decide +kernel))
set_option maxRecDepth 20000 in
theorem gL_arePicturesSo_X8_lastMove : GoodIn wsL_arePicturesSo (wsV RL 72 RX8 yX8_lastMove wsX8_lastMove) := goodIn_app (goodIn_of _ (by decide +kernel)) ggL_arePicturesSo_X8_lastMove
set_option maxRecDepth 20000 in
theorem ggL_arePicturesSo_X8_error : GoodIn wsL_arePicturesSo wsX8_error := goodIn_r _ [51, 6, 24, 25, 26, 27, 28, 60, 61, 62, 63, 64, 65, 66, 67, 68, 69, 70, 71, 72, 73, 74, 75, 76, 77, 78] (by decide +kernel) (by decide +kernel)
set_option maxRecDepth 20000 in
theorem gL_arePicturesSo_X8_error : GoodIn wsL_arePicturesSo (wsV RL 75 RX8 yX8_error wsX8_error) := goodIn_app (goodIn_of _ (by decide +kernel)) ggL_arePicturesSo_X8_error
set_option maxRecDepth 20000 in
theorem ggL_arePicturesSo_X8_drift : GoodIn wsL_arePicturesSo wsX8_drift := goodIn_r _ [55, 6, 56, 57, 58, 59, 24, 25, 26, 27, 28, 60, 61, 62, 63, 64, 65, 66, 67, 68, 69, 70, 71, 72, 73, 74, 75, 76, 77, 78] (by decide +kernel) (by decide +kernel)
set_option maxRecDepth 20000 in
theorem gL_arePicturesSo_X8_drift : GoodIn wsL_arePicturesSo (wsV RL 78 RX8 yX8_drift wsX8_drift) := goodIn_app (goodIn_of _ (by decide +kernel)) ggL_arePicturesSo_X8_drift
theorem dL_arePicturesSo_0 : decode cL_arePicturesSo 0 = .ok (.iconst 0, 1) := by decide +kernel
theorem dL_arePicturesSo_1 : decode cL_arePicturesSo 1 = .ok (.istore_n 1, 1) := by decide +kernel
theorem dL_arePicturesSo_2 : decode cL_arePicturesSo 2 = .ok (.iconst 0, 1) := by decide +kernel
theorem dL_arePicturesSo_3 : decode cL_arePicturesSo 3 = .ok (.istore_n 2, 1) := by decide +kernel
theorem dL_arePicturesSo_4 : decode cL_arePicturesSo 4 = .ok (.aload_n 0, 1) := by decide +kernel
theorem dL_arePicturesSo_5 : decode cL_arePicturesSo 5 = .ok (.invokevirtual 51, 3) := by decide +kernel
theorem dL_arePicturesSo_8 : decode cL_arePicturesSo 8 = .ok (.aload_n 0, 1) := by decide +kernel
theorem dL_arePicturesSo_9 : decode cL_arePicturesSo 9 = .ok (.invokevirtual 47, 3) := by decide +kernel
theorem dL_arePicturesSo_12 : decode cL_arePicturesSo 12 = .ok (.if_icmp .gt 35, 3) := by decide +kernel
theorem dL_arePicturesSo_15 : decode cL_arePicturesSo 15 = .ok (.aload_n 0, 1) := by decide +kernel
theorem dL_arePicturesSo_16 : decode cL_arePicturesSo 16 = .ok (.invokevirtual 54, 3) := by decide +kernel
theorem dL_arePicturesSo_19 : decode cL_arePicturesSo 19 = .ok (.sipush 264, 3) := by decide +kernel
theorem dL_arePicturesSo_22 : decode cL_arePicturesSo 22 = .ok (.aload_n 0, 1) := by decide +kernel
theorem dL_arePicturesSo_23 : decode cL_arePicturesSo 23 = .ok (.invokevirtual 47, 3) := by decide +kernel
theorem dL_arePicturesSo_26 : decode cL_arePicturesSo 26 = .ok (.imul, 1) := by decide +kernel
theorem dL_arePicturesSo_27 : decode cL_arePicturesSo 27 = .ok (.if_icmp .gt 20, 3) := by decide +kernel
theorem dL_arePicturesSo_30 : decode cL_arePicturesSo 30 = .ok (.aload_n 0, 1) := by decide +kernel
theorem dL_arePicturesSo_31 : decode cL_arePicturesSo 31 = .ok (.invokevirtual 54, 3) := by decide +kernel
theorem dL_arePicturesSo_34 : decode cL_arePicturesSo 34 = .ok (.iconst 4, 1) := by decide +kernel
theorem dL_arePicturesSo_35 : decode cL_arePicturesSo 35 = .ok (.aload_n 0, 1) := by decide +kernel
theorem dL_arePicturesSo_36 : decode cL_arePicturesSo 36 = .ok (.invokevirtual 47, 3) := by decide +kernel
theorem dL_arePicturesSo_39 : decode cL_arePicturesSo 39 = .ok (.imul, 1) := by decide +kernel
theorem dL_arePicturesSo_40 : decode cL_arePicturesSo 40 = .ok (.if_icmp .lt 7, 3) := by decide +kernel
theorem dL_arePicturesSo_43 : decode cL_arePicturesSo 43 = .ok (.iconst 1, 1) := by decide +kernel
theorem dL_arePicturesSo_44 : decode cL_arePicturesSo 44 = .ok (.goto 4, 3) := by decide +kernel
theorem dL_arePicturesSo_47 : decode cL_arePicturesSo 47 = .ok (.iconst 0, 1) := by decide +kernel
theorem dL_arePicturesSo_48 : decode cL_arePicturesSo 48 = .ok (.istore_n 3, 1) := by decide +kernel
theorem dL_arePicturesSo_49 : decode cL_arePicturesSo 49 = .ok (.iconst 0, 1) := by decide +kernel
theorem dL_arePicturesSo_50 : decode cL_arePicturesSo 50 = .ok (.istore 4, 2) := by decide +kernel
theorem dL_arePicturesSo_52 : decode cL_arePicturesSo 52 = .ok (.iload 4, 2) := by decide +kernel
theorem dL_arePicturesSo_54 : decode cL_arePicturesSo 54 = .ok (.bipush 64, 2) := by decide +kernel
theorem dL_arePicturesSo_56 : decode cL_arePicturesSo 56 = .ok (.if_icmp .ge 133, 3) := by decide +kernel
theorem dL_arePicturesSo_59 : decode cL_arePicturesSo 59 = .ok (.aload_n 0, 1) := by decide +kernel
theorem dL_arePicturesSo_60 : decode cL_arePicturesSo 60 = .ok (.iload 4, 2) := by decide +kernel
theorem dL_arePicturesSo_62 : decode cL_arePicturesSo 62 = .ok (.invokevirtual 60, 3) := by decide +kernel
theorem dL_arePicturesSo_65 : decode cL_arePicturesSo 65 = .ok (.aload_n 0, 1) := by decide +kernel
theorem dL_arePicturesSo_66 : decode cL_arePicturesSo 66 = .ok (.iload 4, 2) := by decide +kernel
theorem dL_arePicturesSo_68 : decode cL_arePicturesSo 68 = .ok (.invokevirtual 63, 3) := by decide +kernel
theorem dL_arePicturesSo_71 : decode cL_arePicturesSo 71 = .ok (.isub, 1) := by decide +kernel
theorem dL_arePicturesSo_72 : decode cL_arePicturesSo 72 = .ok (.istore 5, 2) := by decide +kernel
theorem dL_arePicturesSo_74 : decode cL_arePicturesSo 74 = .ok (.aload_n 0, 1) := by decide +kernel
theorem dL_arePicturesSo_75 : decode cL_arePicturesSo 75 = .ok (.iload 4, 2) := by decide +kernel
theorem dL_arePicturesSo_77 : decode cL_arePicturesSo 77 = .ok (.invokevirtual 63, 3) := by decide +kernel
theorem dL_arePicturesSo_80 : decode cL_arePicturesSo 80 = .ok (.aload_n 0, 1) := by decide +kernel
theorem dL_arePicturesSo_81 : decode cL_arePicturesSo 81 = .ok (.iload 4, 2) := by decide +kernel
theorem dL_arePicturesSo_83 : decode cL_arePicturesSo 83 = .ok (.invokevirtual 66, 3) := by decide +kernel
theorem dL_arePicturesSo_86 : decode cL_arePicturesSo 86 = .ok (.isub, 1) := by decide +kernel
theorem dL_arePicturesSo_87 : decode cL_arePicturesSo 87 = .ok (.istore 6, 2) := by decide +kernel
theorem dL_arePicturesSo_89 : decode cL_arePicturesSo 89 = .ok (.iload_n 1, 1) := by decide +kernel
theorem dL_arePicturesSo_90 : decode cL_arePicturesSo 90 = .ok (.iload 5, 2) := by decide +kernel
theorem dL_arePicturesSo_92 : decode cL_arePicturesSo 92 = .ok (.iload 5, 2) := by decide +kernel
theorem dL_arePicturesSo_94 : decode cL_arePicturesSo 94 = .ok (.imul, 1) := by decide +kernel
theorem dL_arePicturesSo_95 : decode cL_arePicturesSo 95 = .ok (.iadd, 1) := by decide +kernel
theorem dL_arePicturesSo_96 : decode cL_arePicturesSo 96 = .ok (.istore_n 1, 1) := by decide +kernel
theorem dL_arePicturesSo_97 : decode cL_arePicturesSo 97 = .ok (.iload_n 2, 1) := by decide +kernel
theorem dL_arePicturesSo_98 : decode cL_arePicturesSo 98 = .ok (.iload 6, 2) := by decide +kernel
theorem dL_arePicturesSo_100 : decode cL_arePicturesSo 100 = .ok (.ifCond .ge 9, 3) := by decide +kernel
theorem dL_arePicturesSo_103 : decode cL_arePicturesSo 103 = .ok (.iload 6, 2) := by decide +kernel
theorem dL_arePicturesSo_105 : decode cL_arePicturesSo 105 = .ok (.ineg, 1) := by decide +kernel
theorem dL_arePicturesSo_106 : decode cL_arePicturesSo 106 = .ok (.goto 5, 3) := by decide +kernel
theorem dL_arePicturesSo_109 : decode cL_arePicturesSo 109 = .ok (.iload 6, 2) := by decide +kernel
theorem dL_arePicturesSo_111 : decode cL_arePicturesSo 111 = .ok (.iadd, 1) := by decide +kernel
theorem dL_arePicturesSo_112 : decode cL_arePicturesSo 112 = .ok (.istore_n 2, 1) := by decide +kernel
theorem dL_arePicturesSo_113 : decode cL_arePicturesSo 113 = .ok (.iload_n 3, 1) := by decide +kernel
theorem dL_arePicturesSo_114 : decode cL_arePicturesSo 114 = .ok (.ifCond .eq 67, 3) := by decide +kernel
theorem dL_arePicturesSo_117 : decode cL_arePicturesSo 117 = .ok (.aload_n 0, 1) := by decide +kernel
theorem dL_arePicturesSo_118 : decode cL_arePicturesSo 118 = .ok (.iload 4, 2) := by decide +kernel
theorem dL_arePicturesSo_120 : decode cL_arePicturesSo 120 = .ok (.invokevirtual 60, 3) := by decide +kernel
theorem dL_arePicturesSo_123 : decode cL_arePicturesSo 123 = .ok (.ifCond .lt 58, 3) := by decide +kernel
theorem dL_arePicturesSo_126 : decode cL_arePicturesSo 126 = .ok (.aload_n 0, 1) := by decide +kernel
theorem dL_arePicturesSo_127 : decode cL_arePicturesSo 127 = .ok (.iload 4, 2) := by decide +kernel
theorem dL_arePicturesSo_129 : decode cL_arePicturesSo 129 = .ok (.invokevirtual 60, 3) := by decide +kernel
theorem dL_arePicturesSo_132 : decode cL_arePicturesSo 132 = .ok (.bipush 16, 2) := by decide +kernel
theorem dL_arePicturesSo_134 : decode cL_arePicturesSo 134 = .ok (.if_icmp .ge 47, 3) := by decide +kernel
theorem dL_arePicturesSo_137 : decode cL_arePicturesSo 137 = .ok (.aload_n 0, 1) := by decide +kernel
theorem dL_arePicturesSo_138 : decode cL_arePicturesSo 138 = .ok (.iload 4, 2) := by decide +kernel
theorem dL_arePicturesSo_140 : decode cL_arePicturesSo 140 = .ok (.invokevirtual 63, 3) := by decide +kernel
theorem dL_arePicturesSo_143 : decode cL_arePicturesSo 143 = .ok (.ifCond .lt 38, 3) := by decide +kernel
theorem dL_arePicturesSo_146 : decode cL_arePicturesSo 146 = .ok (.aload_n 0, 1) := by decide +kernel
theorem dL_arePicturesSo_147 : decode cL_arePicturesSo 147 = .ok (.iload 4, 2) := by decide +kernel
theorem dL_arePicturesSo_149 : decode cL_arePicturesSo 149 = .ok (.invokevirtual 63, 3) := by decide +kernel
theorem dL_arePicturesSo_152 : decode cL_arePicturesSo 152 = .ok (.bipush 16, 2) := by decide +kernel
theorem dL_arePicturesSo_154 : decode cL_arePicturesSo 154 = .ok (.if_icmp .ge 27, 3) := by decide +kernel
theorem dL_arePicturesSo_157 : decode cL_arePicturesSo 157 = .ok (.aload_n 0, 1) := by decide +kernel
theorem dL_arePicturesSo_158 : decode cL_arePicturesSo 158 = .ok (.iload 4, 2) := by decide +kernel
theorem dL_arePicturesSo_160 : decode cL_arePicturesSo 160 = .ok (.invokevirtual 66, 3) := by decide +kernel
theorem dL_arePicturesSo_163 : decode cL_arePicturesSo 163 = .ok (.ifCond .lt 18, 3) := by decide +kernel
theorem dL_arePicturesSo_166 : decode cL_arePicturesSo 166 = .ok (.aload_n 0, 1) := by decide +kernel
theorem dL_arePicturesSo_167 : decode cL_arePicturesSo 167 = .ok (.iload 4, 2) := by decide +kernel
theorem dL_arePicturesSo_169 : decode cL_arePicturesSo 169 = .ok (.invokevirtual 66, 3) := by decide +kernel
theorem dL_arePicturesSo_172 : decode cL_arePicturesSo 172 = .ok (.bipush 16, 2) := by decide +kernel
theorem dL_arePicturesSo_174 : decode cL_arePicturesSo 174 = .ok (.if_icmp .ge 7, 3) := by decide +kernel
theorem dL_arePicturesSo_177 : decode cL_arePicturesSo 177 = .ok (.iconst 1, 1) := by decide +kernel
theorem dL_arePicturesSo_178 : decode cL_arePicturesSo 178 = .ok (.goto 4, 3) := by decide +kernel
theorem dL_arePicturesSo_181 : decode cL_arePicturesSo 181 = .ok (.iconst 0, 1) := by decide +kernel
theorem dL_arePicturesSo_182 : decode cL_arePicturesSo 182 = .ok (.istore_n 3, 1) := by decide +kernel
theorem dL_arePicturesSo_183 : decode cL_arePicturesSo 183 = .ok (.iinc 4 1, 3) := by decide +kernel
theorem dL_arePicturesSo_186 : decode cL_arePicturesSo 186 = .ok (.goto (-134), 3) := by decide +kernel
theorem dL_arePicturesSo_189 : decode cL_arePicturesSo 189 = .ok (.iconst 0, 1) := by decide +kernel
theorem dL_arePicturesSo_190 : decode cL_arePicturesSo 190 = .ok (.istore 4, 2) := by decide +kernel
theorem dL_arePicturesSo_192 : decode cL_arePicturesSo 192 = .ok (.iload 4, 2) := by decide +kernel
theorem dL_arePicturesSo_194 : decode cL_arePicturesSo 194 = .ok (.iconst 4, 1) := by decide +kernel
theorem dL_arePicturesSo_195 : decode cL_arePicturesSo 195 = .ok (.if_icmp .ge 105, 3) := by decide +kernel
theorem dL_arePicturesSo_198 : decode cL_arePicturesSo 198 = .ok (.aload_n 0, 1) := by decide +kernel
theorem dL_arePicturesSo_199 : decode cL_arePicturesSo 199 = .ok (.iload 4, 2) := by decide +kernel
theorem dL_arePicturesSo_201 : decode cL_arePicturesSo 201 = .ok (.invokevirtual 69, 3) := by decide +kernel
theorem dL_arePicturesSo_204 : decode cL_arePicturesSo 204 = .ok (.istore 5, 2) := by decide +kernel
theorem dL_arePicturesSo_206 : decode cL_arePicturesSo 206 = .ok (.aload_n 0, 1) := by decide +kernel
theorem dL_arePicturesSo_207 : decode cL_arePicturesSo 207 = .ok (.iload 4, 2) := by decide +kernel
theorem dL_arePicturesSo_209 : decode cL_arePicturesSo 209 = .ok (.invokevirtual 72, 3) := by decide +kernel
theorem dL_arePicturesSo_212 : decode cL_arePicturesSo 212 = .ok (.istore 6, 2) := by decide +kernel
theorem dL_arePicturesSo_214 : decode cL_arePicturesSo 214 = .ok (.iload_n 3, 1) := by decide +kernel
theorem dL_arePicturesSo_215 : decode cL_arePicturesSo 215 = .ok (.ifCond .eq 77, 3) := by decide +kernel
theorem dL_arePicturesSo_218 : decode cL_arePicturesSo 218 = .ok (.aload_n 0, 1) := by decide +kernel
theorem dL_arePicturesSo_219 : decode cL_arePicturesSo 219 = .ok (.invokevirtual 47, 3) := by decide +kernel
theorem dL_arePicturesSo_222 : decode cL_arePicturesSo 222 = .ok (.ifCond .ne 18, 3) := by decide +kernel
theorem dL_arePicturesSo_225 : decode cL_arePicturesSo 225 = .ok (.iload 5, 2) := by decide +kernel
theorem dL_arePicturesSo_227 : decode cL_arePicturesSo 227 = .ok (.iconst (-1), 1) := by decide +kernel
theorem dL_arePicturesSo_228 : decode cL_arePicturesSo 228 = .ok (.if_icmp .ne 64, 3) := by decide +kernel
theorem dL_arePicturesSo_231 : decode cL_arePicturesSo 231 = .ok (.iload 6, 2) := by decide +kernel
theorem dL_arePicturesSo_233 : decode cL_arePicturesSo 233 = .ok (.iconst (-1), 1) := by decide +kernel
theorem dL_arePicturesSo_234 : decode cL_arePicturesSo 234 = .ok (.if_icmp .ne 58, 3) := by decide +kernel
theorem dL_arePicturesSo_237 : decode cL_arePicturesSo 237 = .ok (.goto 51, 3) := by decide +kernel
theorem dL_arePicturesSo_240 : decode cL_arePicturesSo 240 = .ok (.iload 5, 2) := by decide +kernel
theorem dL_arePicturesSo_242 : decode cL_arePicturesSo 242 = .ok (.ifCond .ne 12, 3) := by decide +kernel
theorem dL_arePicturesSo_245 : decode cL_arePicturesSo 245 = .ok (.iload 6, 2) := by decide +kernel
theorem dL_arePicturesSo_247 : decode cL_arePicturesSo 247 = .ok (.iconst (-1), 1) := by decide +kernel
theorem dL_arePicturesSo_248 : decode cL_arePicturesSo 248 = .ok (.if_icmp .ne 44, 3) := by decide +kernel
theorem dL_arePicturesSo_251 : decode cL_arePicturesSo 251 = .ok (.goto 37, 3) := by decide +kernel
theorem dL_arePicturesSo_254 : decode cL_arePicturesSo 254 = .ok (.iload 5, 2) := by decide +kernel
theorem dL_arePicturesSo_256 : decode cL_arePicturesSo 256 = .ok (.iconst 1, 1) := by decide +kernel
theorem dL_arePicturesSo_257 : decode cL_arePicturesSo 257 = .ok (.if_icmp .ne 13, 3) := by decide +kernel
theorem dL_arePicturesSo_260 : decode cL_arePicturesSo 260 = .ok (.iload 6, 2) := by decide +kernel
theorem dL_arePicturesSo_262 : decode cL_arePicturesSo 262 = .ok (.bipush 12, 2) := by decide +kernel
theorem dL_arePicturesSo_264 : decode cL_arePicturesSo 264 = .ok (.if_icmp .ne 28, 3) := by decide +kernel
theorem dL_arePicturesSo_267 : decode cL_arePicturesSo 267 = .ok (.goto 21, 3) := by decide +kernel
theorem dL_arePicturesSo_270 : decode cL_arePicturesSo 270 = .ok (.iload 5, 2) := by decide +kernel
theorem dL_arePicturesSo_272 : decode cL_arePicturesSo 272 = .ok (.iconst 2, 1) := by decide +kernel
theorem dL_arePicturesSo_273 : decode cL_arePicturesSo 273 = .ok (.if_icmp .ne 19, 3) := by decide +kernel
theorem dL_arePicturesSo_276 : decode cL_arePicturesSo 276 = .ok (.iload 6, 2) := by decide +kernel
theorem dL_arePicturesSo_278 : decode cL_arePicturesSo 278 = .ok (.ifCond .lt 14, 3) := by decide +kernel
theorem dL_arePicturesSo_281 : decode cL_arePicturesSo 281 = .ok (.iload 6, 2) := by decide +kernel
theorem dL_arePicturesSo_283 : decode cL_arePicturesSo 283 = .ok (.bipush 25, 2) := by decide +kernel
theorem dL_arePicturesSo_285 : decode cL_arePicturesSo 285 = .ok (.if_icmp .ge 7, 3) := by decide +kernel
theorem dL_arePicturesSo_288 : decode cL_arePicturesSo 288 = .ok (.iconst 1, 1) := by decide +kernel
theorem dL_arePicturesSo_289 : decode cL_arePicturesSo 289 = .ok (.goto 4, 3) := by decide +kernel
theorem dL_arePicturesSo_292 : decode cL_arePicturesSo 292 = .ok (.iconst 0, 1) := by decide +kernel
theorem dL_arePicturesSo_293 : decode cL_arePicturesSo 293 = .ok (.istore_n 3, 1) := by decide +kernel
theorem dL_arePicturesSo_294 : decode cL_arePicturesSo 294 = .ok (.iinc 4 1, 3) := by decide +kernel
theorem dL_arePicturesSo_297 : decode cL_arePicturesSo 297 = .ok (.goto (-105), 3) := by decide +kernel
theorem dL_arePicturesSo_300 : decode cL_arePicturesSo 300 = .ok (.iload_n 3, 1) := by decide +kernel
theorem dL_arePicturesSo_301 : decode cL_arePicturesSo 301 = .ok (.ifCond .eq 34, 3) := by decide +kernel
theorem dL_arePicturesSo_304 : decode cL_arePicturesSo 304 = .ok (.aload_n 0, 1) := by decide +kernel
theorem dL_arePicturesSo_305 : decode cL_arePicturesSo 305 = .ok (.invokevirtual 75, 3) := by decide +kernel
theorem dL_arePicturesSo_308 : decode cL_arePicturesSo 308 = .ok (.iload_n 1, 1) := by decide +kernel
theorem dL_arePicturesSo_309 : decode cL_arePicturesSo 309 = .ok (.if_icmp .ne 26, 3) := by decide +kernel
theorem dL_arePicturesSo_312 : decode cL_arePicturesSo 312 = .ok (.aload_n 0, 1) := by decide +kernel
theorem dL_arePicturesSo_313 : decode cL_arePicturesSo 313 = .ok (.invokevirtual 78, 3) := by decide +kernel
theorem dL_arePicturesSo_316 : decode cL_arePicturesSo 316 = .ok (.iload_n 2, 1) := by decide +kernel
theorem dL_arePicturesSo_317 : decode cL_arePicturesSo 317 = .ok (.if_icmp .ne 18, 3) := by decide +kernel
theorem dL_arePicturesSo_320 : decode cL_arePicturesSo 320 = .ok (.aload_n 0, 1) := by decide +kernel
theorem dL_arePicturesSo_321 : decode cL_arePicturesSo 321 = .ok (.invokevirtual 51, 3) := by decide +kernel
theorem dL_arePicturesSo_324 : decode cL_arePicturesSo 324 = .ok (.ifCond .gt 7, 3) := by decide +kernel
theorem dL_arePicturesSo_327 : decode cL_arePicturesSo 327 = .ok (.iload_n 2, 1) := by decide +kernel
theorem dL_arePicturesSo_328 : decode cL_arePicturesSo 328 = .ok (.ifCond .ne 7, 3) := by decide +kernel
theorem dL_arePicturesSo_331 : decode cL_arePicturesSo 331 = .ok (.iconst 1, 1) := by decide +kernel
theorem dL_arePicturesSo_332 : decode cL_arePicturesSo 332 = .ok (.goto 4, 3) := by decide +kernel
theorem dL_arePicturesSo_335 : decode cL_arePicturesSo 335 = .ok (.iconst 0, 1) := by decide +kernel
theorem dL_arePicturesSo_336 : decode cL_arePicturesSo 336 = .ok (.ireturn, 1) := by decide +kernel
set_option maxRecDepth 20000 in
theorem ggL_areMovesSo_X8_bestMove : GoodIn wsL_areMovesSo wsX8_bestMove := goodIn_ca (goodIn_r _ [5, 6, 7, 8, 4, 9, 10, 11, 12, 13, 14, 15, 16, 17, 18, 19, 20, 21, 22, 23, 24, 25, 26, 27, 28, 29, 30, 31, 32, 33, 34, 35, 36, 37, 38, 132, 133, 134, 135, 136, 137, 138, 139, 140, 141, 142, 143, 144, 145, 146, 147, 148, 149, 150] (by decide +kernel) (by decide +kernel)) (goodIn_sub (fun _ h => List.mem_cons_of_mem _ (List.mem_append_left _ (List.mem_append_right _ h))) (by decide +kernel))
set_option maxRecDepth 20000 in
theorem gL_areMovesSo_X8_bestMove : GoodIn wsL_areMovesSo (wsV RL 81 RX8 yX8_bestMove wsX8_bestMove) := goodIn_app (goodIn_of _ (by decide +kernel)) ggL_areMovesSo_X8_bestMove
