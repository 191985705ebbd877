set_option maxRecDepth 20000 in
theorem ggL_bitsWith_X8_bitsWith : GoodIn wsL_bitsWith wsX8_bitsWith := goodIn_ca (goodIn_ca (goodIn_r _ [7, 8, 9, 10, 11, 6, 12, 13, 14, 15, 16, 17, 18, 19, 20, 21, 22, 23, 24, 25, 26, 27, 28, 29, 30, 31, 32, 33, 34, 35, 36, 37, 38, 39, 40, 41, 42, 43, 44, 45, 46, 47, 48, 49, 50, 51, 52, 53, 54, 55, 56, 57, 58, 59, 60, 61, 62, 63, 64, 65, 66, 67, 68, 69, 70, 71, 72, 73, 74, 75, 76, 77, 78, 79, 80, 81, 82, 83, 84, 85, 86, 87, 88, 89, 90, 91, 92] (by decide +kernel) (by decide +kernel)) (goodIn_sub (fun _ h => List.mem_cons_of_mem _ (List.mem_append_left _ (List.mem_append_right _ h))) (by decide +kernel))) (goodIn_sub (fun _ h => List.mem_cons_of_mem _ (List.mem_append_right _ h)) (by decide +kernel))
set_option maxRecDepth 20000 in
theorem gL_bitsWith_X8_bitsWith : GoodIn wsL_bitsWith (wsV RL 61 RX8 yX8_bitsWith wsX8_bitsWith) := goodIn_app (goodIn_of _ (by decide +kernel)) ggL_bitsWith_X8_bitsWith
theorem dL_bitsWith_0 : decode cL_bitsWith 0 = .ok (.aload_n 3, 1) := by decide +kernel
theorem dL_bitsWith_1 : decode cL_bitsWith 1 = .ok (.iconst 0, 1) := by decide +kernel
theorem dL_bitsWith_2 : decode cL_bitsWith 2 = .ok (.aload_n 0, 1) := by decide +kernel
theorem dL_bitsWith_3 : decode cL_bitsWith 3 = .ok (.iload_n 1, 1) := by decide +kernel
theorem dL_bitsWith_4 : decode cL_bitsWith 4 = .ok (.iload_n 2, 1) := by decide +kernel
theorem dL_bitsWith_5 : decode cL_bitsWith 5 = .ok (.invokevirtual 61, 3) := by decide +kernel
theorem dL_bitsWith_8 : decode cL_bitsWith 8 = .ok (.i2l, 1) := by decide +kernel
theorem dL_bitsWith_9 : decode cL_bitsWith 9 = .ok (.lastore, 1) := by decide +kernel
theorem dL_bitsWith_10 : decode cL_bitsWith 10 = .ok (.goto 11, 3) := by decide +kernel
theorem dL_bitsWith_13 : decode cL_bitsWith 13 = .ok (.astore 4, 2) := by decide +kernel
theorem dL_bitsWith_15 : decode cL_bitsWith 15 = .ok (.iconst 1, 1) := by decide +kernel
theorem dL_bitsWith_16 : decode cL_bitsWith 16 = .ok (.ireturn, 1) := by decide +kernel
theorem dL_bitsWith_17 : decode cL_bitsWith 17 = .ok (.astore 4, 2) := by decide +kernel
theorem dL_bitsWith_19 : decode cL_bitsWith 19 = .ok (.iconst 2, 1) := by decide +kernel
theorem dL_bitsWith_20 : decode cL_bitsWith 20 = .ok (.ireturn, 1) := by decide +kernel
theorem dL_bitsWith_21 : decode cL_bitsWith 21 = .ok (.iconst 0, 1) := by decide +kernel
theorem dL_bitsWith_22 : decode cL_bitsWith 22 = .ok (.ireturn, 1) := by decide +kernel
set_option maxRecDepth 20000 in
theorem ggL_bitsByWriting_X8_bitsByWriting : GoodIn wsL_bitsByWriting wsX8_bitsByWriting := goodIn_ca (goodIn_ca (goodIn_r _ [7, 8, 9, 10, 11, 12, 6, 13, 14, 15, 16, 17, 18, 19, 20, 21, 22, 23, 24, 25, 26, 27, 28, 29, 30, 31, 32, 33, 34, 35, 36, 37, 38, 39, 40, 41, 42, 43, 44, 45, 46, 47, 48, 49, 50, 51, 52, 53, 54, 55, 56, 57, 58, 59, 60, 61, 62, 63, 64, 65, 66, 67, 68, 69, 70, 71, 72, 73, 74, 75, 76, 77, 78, 79, 80, 81, 82, 83, 84, 85, 86, 87, 88, 89, 90, 91, 92, 93, 94, 95, 96, 97, 98, 99, 100, 101, 102, 103, 104, 105, 106, 107, 108, 109, 110, 111] (by decide +kernel) (by decide +kernel)) (goodIn_sub (fun _ h => List.mem_cons_of_mem _ (List.mem_append_left _ (List.mem_append_right _ h))) (by decide +kernel))) (goodIn_sub (fun _ h => List.mem_cons_of_mem _ (List.mem_append_right _ h)) (by decide +kernel))
set_option maxRecDepth 20000 in
theorem gL_bitsByWriting_X8_bitsByWriting : GoodIn wsL_bitsByWriting (wsV RL 64 RX8 yX8_bitsByWriting wsX8_bitsByWriting) := goodIn_app (goodIn_of _ (by decide +kernel)) ggL_bitsByWriting_X8_bitsByWriting
theorem dL_bitsByWriting_0 : decode cL_bitsByWriting 0 = .ok (.aload_n 3, 1) := by decide +kernel
theorem dL_bitsByWriting_1 : decode cL_bitsByWriting 1 = .ok (.iconst 0, 1) := by decide +kernel
theorem dL_bitsByWriting_2 : decode cL_bitsByWriting 2 = .ok (.aload_n 0, 1) := by decide +kernel
theorem dL_bitsByWriting_3 : decode cL_bitsByWriting 3 = .ok (.iload_n 1, 1) := by decide +kernel
theorem dL_bitsByWriting_4 : decode cL_bitsByWriting 4 = .ok (.iload_n 2, 1) := by decide +kernel
theorem dL_bitsByWriting_5 : decode cL_bitsByWriting 5 = .ok (.invokevirtual 64, 3) := by decide +kernel
theorem dL_bitsByWriting_8 : decode cL_bitsByWriting 8 = .ok (.i2l, 1) := by decide +kernel
theorem dL_bitsByWriting_9 : decode cL_bitsByWriting 9 = .ok (.lastore, 1) := by decide +kernel
theorem dL_bitsByWriting_10 : decode cL_bitsByWriting 10 = .ok (.goto 11, 3) := by decide +kernel
theorem dL_bitsByWriting_13 : decode cL_bitsByWriting 13 = .ok (.astore 4, 2) := by decide +kernel
theorem dL_bitsByWriting_15 : decode cL_bitsByWriting 15 = .ok (.iconst 1, 1) := by decide +kernel
theorem dL_bitsByWriting_16 : decode cL_bitsByWriting 16 = .ok (.ireturn, 1) := by decide +kernel
theorem dL_bitsByWriting_17 : decode cL_bitsByWriting 17 = .ok (.astore 4, 2) := by decide +kernel
theorem dL_bitsByWriting_19 : decode cL_bitsByWriting 19 = .ok (.iconst 2, 1) := by decide +kernel
theorem dL_bitsByWriting_20 : decode cL_bitsByWriting 20 = .ok (.ireturn, 1) := by decide +kernel
theorem dL_bitsByWriting_21 : decode cL_bitsByWriting 21 = .ok (.iconst 0, 1) := by decide +kernel
theorem dL_bitsByWriting_22 : decode cL_bitsByWriting 22 = .ok (.ireturn, 1) := by decide +kernel
set_option maxRecDepth 20000 in
theorem ggL_lastKind_X8_lastKind : GoodIn wsL_lastKind wsX8_lastKind := goodIn_ca (goodIn_r _ [6, 7, 8, 9, 5, 10, 11, 12, 13, 14, 15, 16, 17, 18, 19, 20, 21, 22, 23, 24, 25, 26, 27, 28, 29, 30] (by decide +kernel) (by decide +kernel)) (goodIn_sub (fun _ h => List.mem_cons_of_mem _ (List.mem_append_right _ h)) (by decide +kernel))
set_option maxRecDepth 20000 in
theorem gL_lastKind_X8_lastKind : GoodIn wsL_lastKind (wsV RL 67 RX8 yX8_lastKind wsX8_lastKind) := goodIn_app (goodIn_of _ (by decide +kernel)) ggL_lastKind_X8_lastKind
theorem dL_lastKind_0 : decode cL_lastKind 0 = .ok (.aload_n 2, 1) := by decide +kernel
theorem dL_lastKind_1 : decode cL_lastKind 1 = .ok (.iconst 0, 1) := by decide +kernel
theorem dL_lastKind_2 : decode cL_lastKind 2 = .ok (.aload_n 0, 1) := by decide +kernel
theorem dL_lastKind_3 : decode cL_lastKind 3 = .ok (.iload_n 1, 1) := by decide +kernel
theorem dL_lastKind_4 : decode cL_lastKind 4 = .ok (.invokevirtual 67, 3) := by decide +kernel
theorem dL_lastKind_7 : decode cL_lastKind 7 = .ok (.i2l, 1) := by decide +kernel
theorem dL_lastKind_8 : decode cL_lastKind 8 = .ok (.lastore, 1) := by decide +kernel
theorem dL_lastKind_9 : decode cL_lastKind 9 = .ok (.goto 6, 3) := by decide +kernel
theorem dL_lastKind_12 : decode cL_lastKind 12 = .ok (.astore_n 3, 1) := by decide +kernel
theorem dL_lastKind_13 : decode cL_lastKind 13 = .ok (.iconst 1, 1) := by decide +kernel
theorem dL_lastKind_14 : decode cL_lastKind 14 = .ok (.ireturn, 1) := by decide +kernel
theorem dL_lastKind_15 : decode cL_lastKind 15 = .ok (.iconst 0, 1) := by decide +kernel
theorem dL_lastKind_16 : decode cL_lastKind 16 = .ok (.ireturn, 1) := by decide +kernel
set_option maxRecDepth 20000 in
theorem ggL_lastMove_X8_lastMove : GoodIn wsL_lastMove wsX8_lastMove := goodIn_ca (goodIn_r _ [6, 7, 8, 9, 5, 10, 11, 12, 13, 14, 15, 16, 17, 18, 19, 20, 21, 22, 23, 24, 25, 26, 27, 28, 29, 30] (by decide +kernel) (by decide +kernel)) (goodIn_sub (fun _ h => List.mem_cons_of_mem _ (List.mem_append_right _ h)) (by decide +kernel))
set_option maxRecDepth 20000 in
theorem gL_lastMove_X8_lastMove : GoodIn wsL_lastMove (wsV RL 70 RX8 yX8_lastMove wsX8_lastMove) := goodIn_app (goodIn_of _ (by decide +kernel)) ggL_lastMove_X8_lastMove
theorem dL_lastMove_0 : decode cL_lastMove 0 = .ok (.aload_n 2, 1) := by decide +kernel
theorem dL_lastMove_1 : decode cL_lastMove 1 = .ok (.iconst 0, 1) := by decide +kernel
theorem dL_lastMove_2 : decode cL_lastMove 2 = .ok (.aload_n 0, 1) := by decide +kernel
theorem dL_lastMove_3 : decode cL_lastMove 3 = .ok (.iload_n 1, 1) := by decide +kernel
theorem dL_lastMove_4 : decode cL_lastMove 4 = .ok (.invokevirtual 70, 3) := by decide +kernel
theorem dL_lastMove_7 : decode cL_lastMove 7 = .ok (.i2l, 1) := by decide +kernel
theorem dL_lastMove_8 : decode cL_lastMove 8 = .ok (.lastore, 1) := by decide +kernel
theorem dL_lastMove_9 : decode cL_lastMove 9 = .ok (.goto 6, 3) := by decide +kernel
theorem dL_lastMove_12 : decode cL_lastMove 12 = .ok (.astore_n 3, 1) := by decide +kernel
theorem dL_lastMove_13 : decode cL_lastMove 13 = .ok (.iconst 1, 1) := by decide +kernel
theorem dL_lastMove_14 : decode cL_lastMove 14 = .ok (.ireturn, 1) := by decide +kernel
theorem dL_lastMove_15 : decode cL_lastMove 15 = .ok (.iconst 0, 1) := by decide +kernel
theorem dL_lastMove_16 : decode cL_lastMove 16 = .ok (.ireturn, 1) := by decide +kernel
set_option maxRecDepth 20000 in
theorem ggL_appendText_X8_appendText : GoodIn wsL_appendText wsX8_appendText := goodIn_ca (goodIn_ca (goodIn_r _ [7, 8, 9, 10, 11, 12, 13, 14, 15, 16, 17, 18, 19, 20, 21, 22, 23, 24, 25, 26, 27, 28, 29, 30, 31, 32, 33] (by decide +kernel) (by decide +kernel)) (goodIn_sub (fun _ h => List.mem_cons_of_mem _ (List.mem_append_left _ (List.mem_append_right _ h))) (by decide +kernel))) (goodIn_sub (fun _ h => List.mem_cons_of_mem _ (List.mem_append_right _ h)) (by decide +kernel))
set_option maxRecDepth 20000 in
theorem gL_appendText_X8_appendText : GoodIn wsL_appendText (wsV RL 73 RX8 yX8_appendText wsX8_appendText) := goodIn_app (goodIn_of _ (by decide +kernel)) ggL_appendText_X8_appendText
theorem dL_appendText_0 : decode cL_appendText 0 = .ok (.aload_n 3, 1) := by decide +kernel
theorem dL_appendText_1 : decode cL_appendText 1 = .ok (.iconst 0, 1) := by decide +kernel
theorem dL_appendText_2 : decode cL_appendText 2 = .ok (.aload_n 0, 1) := by decide +kernel
theorem dL_appendText_3 : decode cL_appendText 3 = .ok (.lload_n 1, 1) := by decide +kernel
theorem dL_appendText_4 : decode cL_appendText 4 = .ok (.invokevirtual 73, 3) := by decide +kernel
theorem dL_appendText_7 : decode cL_appendText 7 = .ok (.i2l, 1) := by decide +kernel
theorem dL_appendText_8 : decode cL_appendText 8 = .ok (.lastore, 1) := by decide +kernel
theorem dL_appendText_9 : decode cL_appendText 9 = .ok (.goto 11, 3) := by decide +kernel
theorem dL_appendText_12 : decode cL_appendText 12 = .ok (.astore 4, 2) := by decide +kernel
theorem dL_appendText_14 : decode cL_appendText 14 = .ok (.iconst 1, 1) := by decide +kernel
theorem dL_appendText_15 : decode cL_appendText 15 = .ok (.ireturn, 1) := by decide +kernel
theorem dL_appendText_16 : decode cL_appendText 16 = .ok (.astore 4, 2) := by decide +kernel
theorem dL_appendText_18 : decode cL_appendText 18 = .ok (.iconst 2, 1) := by decide +kernel
theorem dL_appendText_19 : decode cL_appendText 19 = .ok (.ireturn, 1) := by decide +kernel
theorem dL_appendText_20 : decode cL_appendText 20 = .ok (.iconst 0, 1) := by decide +kernel
theorem dL_appendText_21 : decode cL_appendText 21 = .ok (.ireturn, 1) := by decide +kernel
set_option maxRecDepth 20000 in
theorem ggL_runText_X8_runText : GoodIn wsL_runText wsX8_runText := goodIn_ca (goodIn_r _ [6, 7, 8, 9, 10, 11, 12, 13, 14, 15, 16, 17, 18, 19, 20, 21, 22, 23, 24, 25, 26, 27, 28, 29, 30, 31, 32, 33, 34, 35, 36, 37, 38, 39, 40, 41, 42, 43, 44, 45, 46, 47, 48, 49, 50, 51, 52, 53, 54, 55, 56, 57, 58, 59, 60, 61, 62, 63, 64, 65, 66, 67, 68, 69, 70, 71, 72, 73, 74, 75, 5, 76, 77, 78, 79, 80, 81, 82, 83, 84, 85, 86, 87, 88, 89, 90, 91, 92, 93, 94, 95, 96, 97, 98, 99, 100, 101, 102, 103, 104, 105, 106, 107, 108, 109, 110, 111, 112, 113, 114, 115, 116, 117, 118, 119, 120, 121, 122, 123, 124, 125, 126, 127, 128, 129, 130, 131, 132, 133, 134, 135, 136, 137, 138, 139, 140, 141, 142, 143, 144, 145, 146, 147, 148, 149, 150, 151, 152, 153, 154, 155, 156, 157, 158, 159, 160, 161, 162, 163, 164, 165, 166, 167, 168, 169, 170, 171, 172, 173, 174, 175, 176, 177, 178, 179, 180, 181, 182, 183, 184, 185, 186, 187, 188, 189, 190, 191, 192, 193, 194, 195, 196, 197, 198, 199, 200, 201, 202, 203, 204, 205, 206, 207, 208, 209, 210, 211, 212, 213, 214, 215, 216, 217, 218, 219, 220, 221, 222, 223, 224, 225, 226, 227] (by decide +kernel) (by decide +kernel)) (goodIn_sub (fun _ h => List.mem_cons_of_mem _ (List.mem_append_right _ h)) (by decide +kernel))
set_option maxRecDepth 20000 in
theorem gL_runText_X8_runText : GoodIn wsL_runText (wsV RL 77 RX8 yX8_runText wsX8_runText) := goodIn_app (goodIn_of _ (by decide +kernel)) ggL_runText_X8_runText
theorem dL_runText_0 : decode cL_runText 0 = .ok (.aload_n 1, 1) := by decide +kernel
theorem dL_runText_1 : decode cL_runText 1 = .ok (.iconst 0, 1) := by decide +kernel
theorem dL_runText_2 : decode cL_runText 2 = .ok (.aload_n 0, 1) := by decide +kernel
theorem dL_runText_3 : decode cL_runText 3 = .ok (.invokevirtual 77, 3) := by decide +kernel
theorem dL_runText_6 : decode cL_runText 6 = .ok (.i2l, 1) := by decide +kernel
theorem dL_runText_7 : decode cL_runText 7 = .ok (.lastore, 1) := by decide +kernel
theorem dL_runText_8 : decode cL_runText 8 = .ok (.goto 6, 3) := by decide +kernel
theorem dL_runText_11 : decode cL_runText 11 = .ok (.astore_n 2, 1) := by decide +kernel
theorem dL_runText_12 : decode cL_runText 12 = .ok (.iconst 1, 1) := by decide +kernel
theorem dL_runText_13 : decode cL_runText 13 = .ok (.ireturn, 1) := by decide +kernel
theorem dL_runText_14 : decode cL_runText 14 = .ok (.iconst 0, 1) := by decide +kernel
theorem dL_runText_15 : decode cL_runText 15 = .ok (.ireturn, 1) := by decide +kernel
set_option maxRecDepth 20000 in
theorem ggL_undo_X8_undo : GoodIn wsL_undo wsX8_undo := goodIn_ca (goodIn_r _ [6, 7, 8, 9, 10, 11, 12, 13, 14, 15, 16, 17, 18, 19, 20, 21, 22, 23, 24, 25, 26, 27, 28, 29, 30, 31, 32, 33, 34, 35, 36, 37, 38, 39, 40, 41, 42, 43, 44, 45, 46, 47, 48, 49, 50, 51, 52, 53, 54, 55, 56, 57, 58, 59, 60, 61, 62, 63, 64, 65, 66, 67] (by decide +kernel) (by decide +kernel)) (goodIn_sub (fun _ h => List.mem_cons_of_mem _ (List.mem_append_right _ h)) (by decide +kernel))
set_option maxRecDepth 20000 in
theorem gL_undo_X8_undo : GoodIn wsL_undo (wsV RL 81 RX8 yX8_undo wsX8_undo) := goodIn_app (goodIn_of _ (by decide +kernel)) ggL_undo_X8_undo
theorem dL_undo_0 : decode cL_undo 0 = .ok (.aload_n 1, 1) := by decide +kernel
theorem dL_undo_1 : decode cL_undo 1 = .ok (.iconst 0, 1) := by decide +kernel
theorem dL_undo_2 : decode cL_undo 2 = .ok (.aload_n 0, 1) := by decide +kernel
theorem dL_undo_3 : decode cL_undo 3 = .ok (.invokevirtual 81, 3) := by decide +kernel
theorem dL_undo_6 : decode cL_undo 6 = .ok (.i2l, 1) := by decide +kernel
theorem dL_undo_7 : decode cL_undo 7 = .ok (.lastore, 1) := by decide +kernel
theorem dL_undo_8 : decode cL_undo 8 = .ok (.goto 6, 3) := by decide +kernel
theorem dL_undo_11 : decode cL_undo 11 = .ok (.astore_n 2, 1) := by decide +kernel
theorem dL_undo_12 : decode cL_undo 12 = .ok (.iconst 1, 1) := by decide +kernel
theorem dL_undo_13 : decode cL_undo 13 = .ok (.ireturn, 1) := by decide +kernel
theorem dL_undo_14 : decode cL_undo 14 = .ok (.iconst 0, 1) := by decide +kernel
theorem dL_undo_15 : decode cL_undo 15 = .ok (.ireturn, 1) := by decide +kernel
set_option maxRecDepth 20000 in
theorem ggL_saveState_X8_saveState : GoodIn wsL_saveState wsX8_saveState := goodIn_ca (goodIn_r _ [6, 7, 8, 9, 10, 11, 5, 12, 13, 14, 15, 16, 17, 18, 19, 20, 21, 22, 23, 24, 25, 26, 27, 28, 29, 30, 31, 32, 33, 34, 35, 36, 37, 38, 39, 40, 41, 42, 43, 44, 45, 46, 47, 48, 49, 50, 51, 52, 53, 54, 55, 56, 57, 58, 59] (by decide +kernel) (by decide +kernel)) (goodIn_sub (fun _ h => List.mem_cons_of_mem _ (List.mem_append_right _ h)) (by decide +kernel))
set_option maxRecDepth 20000 in
theorem gL_saveState_X8_saveState : GoodIn wsL_saveState (wsV RL 84 RX8 yX8_saveState wsX8_saveState) := goodIn_app (goodIn_of _ (by decide +kernel)) ggL_saveState_X8_saveState
theorem dL_saveState_0 : decode cL_saveState 0 = .ok (.aload_n 2, 1) := by decide +kernel
theorem dL_saveState_1 : decode cL_saveState 1 = .ok (.iconst 0, 1) := by decide +kernel
theorem dL_saveState_2 : decode cL_saveState 2 = .ok (.aload_n 0, 1) := by decide +kernel
theorem dL_saveState_3 : decode cL_saveState 3 = .ok (.iload_n 1, 1) := by decide +kernel
theorem dL_saveState_4 : decode cL_saveState 4 = .ok (.invokevirtual 84, 3) := by decide +kernel
theorem dL_saveState_7 : decode cL_saveState 7 = .ok (.i2l, 1) := by decide +kernel
theorem dL_saveState_8 : decode cL_saveState 8 = .ok (.lastore, 1) := by decide +kernel
theorem dL_saveState_9 : decode cL_saveState 9 = .ok (.goto 6, 3) := by decide +kernel
theorem dL_saveState_12 : decode cL_saveState 12 = .ok (.astore_n 3, 1) := by decide +kernel
theorem dL_saveState_13 : decode cL_saveState 13 = .ok (.iconst 1, 1) := by decide +kernel
theorem dL_saveState_14 : decode cL_saveState 14 = .ok (.ireturn, 1) := by decide +kernel
theorem dL_saveState_15 : decode cL_saveState 15 = .ok (.iconst 0, 1) := by decide +kernel
theorem dL_saveState_16 : decode cL_saveState 16 = .ok (.ireturn, 1) := by decide +kernel
set_option maxRecDepth 20000 in
theorem ggL_loadState_X8_loadState : GoodIn wsL_loadState wsX8_loadState := goodIn_ca (goodIn_ca (goodIn_r _ [7, 8, 9, 10, 11, 12, 13, 14, 15, 6, 16, 17, 18, 19, 20, 21, 22, 23, 24, 25, 26, 27, 28, 29, 30, 31, 32, 33, 34, 35, 36, 37, 38, 39, 40, 41, 42, 43, 44, 45, 46, 47, 48, 49, 50, 51, 52, 53, 54, 55, 56, 57, 58, 59, 60, 61, 62, 63, 64, 65, 66, 67, 68, 69, 70, 71, 72, 73, 74, 75, 76, 77, 78, 79, 80, 81] (by decide +kernel) (by decide +kernel)) (goodIn_sub (fun _ h => List.mem_cons_of_mem _ (List.mem_append_left _ (List.mem_append_right _ h))) (by decide +kernel))) (goodIn_sub (fun _ h => List.mem_cons_of_mem _ (List.mem_append_right _ h)) (by decide +kernel))
set_option maxRecDepth 20000 in
theorem gL_loadState_X8_loadState : GoodIn wsL_loadState (wsV RL 87 RX8 yX8_loadState wsX8_loadState) := goodIn_app (goodIn_of _ (by decide +kernel)) ggL_loadState_X8_loadState
theorem dL_loadState_0 : decode cL_loadState 0 = .ok (.aload_n 2, 1) := by decide +kernel
theorem dL_loadState_1 : decode cL_loadState 1 = .ok (.iconst 0, 1) := by decide +kernel
theorem dL_loadState_2 : decode cL_loadState 2 = .ok (.aload_n 0, 1) := by decide +kernel
theorem dL_loadState_3 : decode cL_loadState 3 = .ok (.iload_n 1, 1) := by decide +kernel
theorem dL_loadState_4 : decode cL_loadState 4 = .ok (.invokevirtual 87, 3) := by decide +kernel
theorem dL_loadState_7 : decode cL_loadState 7 = .ok (.i2l, 1) := by decide +kernel
theorem dL_loadState_8 : decode cL_loadState 8 = .ok (.lastore, 1) := by decide +kernel
theorem dL_loadState_9 : decode cL_loadState 9 = .ok (.goto 9, 3) := by decide +kernel
theorem dL_loadState_12 : decode cL_loadState 12 = .ok (.astore_n 3, 1) := by decide +kernel
theorem dL_loadState_13 : decode cL_loadState 13 = .ok (.iconst 1, 1) := by decide +kernel
theorem dL_loadState_14 : decode cL_loadState 14 = .ok (.ireturn, 1) := by decide +kernel
theorem dL_loadState_15 : decode cL_loadState 15 = .ok (.astore_n 3, 1) := by decide +kernel
theorem dL_loadState_16 : decode cL_loadState 16 = .ok (.iconst 2, 1) := by decide +kernel
theorem dL_loadState_17 : decode cL_loadState 17 = .ok (.ireturn, 1) := by decide +kernel
theorem dL_loadState_18 : decode cL_loadState 18 = .ok (.iconst 0, 1) := by decide +kernel
theorem dL_loadState_19 : decode cL_loadState 19 = .ok (.ireturn, 1) := by decide +kernel
