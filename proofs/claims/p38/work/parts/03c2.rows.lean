theorem dX8_error_39 : decode cX8_error 39 = .ok (.istore_n 1, 1) := by decide +kernel
theorem dX8_error_40 : decode cX8_error 40 = .ok (.iinc 2 1, 3) := by decide +kernel
theorem dX8_error_43 : decode cX8_error 43 = .ok (.goto (-39), 3) := by decide +kernel
theorem dX8_error_46 : decode cX8_error 46 = .ok (.iload_n 1, 1) := by decide +kernel
theorem dX8_error_47 : decode cX8_error 47 = .ok (.ireturn, 1) := by decide +kernel
set_option maxRecDepth 20000 in
theorem ggX8_drift_X4_valueAt : GoodIn wsX8_drift wsX4_valueAt := goodIn_r _ [9, 10, 29] (by decide +kernel) (by decide +kernel)
set_option maxRecDepth 20000 in
theorem gX8_drift_X4_valueAt_n109 : GoodIn wsX8_drift (wsX4_valueAt) := ggX8_drift_X4_valueAt
theorem dX8_drift_0 : decode cX8_drift 0 = .ok (.iconst 0, 1) := by decide +kernel
theorem dX8_drift_1 : decode cX8_drift 1 = .ok (.istore_n 1, 1) := by decide +kernel
theorem dX8_drift_2 : decode cX8_drift 2 = .ok (.iconst 0, 1) := by decide +kernel
theorem dX8_drift_3 : decode cX8_drift 3 = .ok (.istore_n 2, 1) := by decide +kernel
theorem dX8_drift_4 : decode cX8_drift 4 = .ok (.iload_n 2, 1) := by decide +kernel
theorem dX8_drift_5 : decode cX8_drift 5 = .ok (.bipush 64, 2) := by decide +kernel
theorem dX8_drift_7 : decode cX8_drift 7 = .ok (.if_icmp .ge 38, 3) := by decide +kernel
theorem dX8_drift_10 : decode cX8_drift 10 = .ok (.iload_n 1, 1) := by decide +kernel
theorem dX8_drift_11 : decode cX8_drift 11 = .ok (.aload_n 0, 1) := by decide +kernel
theorem dX8_drift_12 : decode cX8_drift 12 = .ok (.getfield 12, 3) := by decide +kernel
theorem dX8_drift_15 : decode cX8_drift 15 = .ok (.getfield 113, 3) := by decide +kernel
theorem dX8_drift_18 : decode cX8_drift 18 = .ok (.iload_n 2, 1) := by decide +kernel
theorem dX8_drift_19 : decode cX8_drift 19 = .ok (.invokevirtual 109, 3) := by decide +kernel
theorem dX8_drift_22 : decode cX8_drift 22 = .ok (.aload_n 0, 1) := by decide +kernel
theorem dX8_drift_23 : decode cX8_drift 23 = .ok (.getfield 12, 3) := by decide +kernel
theorem dX8_drift_26 : decode cX8_drift 26 = .ok (.getfield 116, 3) := by decide +kernel
theorem dX8_drift_29 : decode cX8_drift 29 = .ok (.iload_n 2, 1) := by decide +kernel
theorem dX8_drift_30 : decode cX8_drift 30 = .ok (.invokevirtual 109, 3) := by decide +kernel
theorem dX8_drift_33 : decode cX8_drift 33 = .ok (.isub, 1) := by decide +kernel
theorem dX8_drift_34 : decode cX8_drift 34 = .ok (.invokestatic 119, 3) := by decide +kernel
theorem dX8_drift_37 : decode cX8_drift 37 = .ok (.iadd, 1) := by decide +kernel
theorem dX8_drift_38 : decode cX8_drift 38 = .ok (.istore_n 1, 1) := by decide +kernel
theorem dX8_drift_39 : decode cX8_drift 39 = .ok (.iinc 2 1, 3) := by decide +kernel
theorem dX8_drift_42 : decode cX8_drift 42 = .ok (.goto (-38), 3) := by decide +kernel
theorem dX8_drift_45 : decode cX8_drift 45 = .ok (.iload_n 1, 1) := by decide +kernel
theorem dX8_drift_46 : decode cX8_drift 46 = .ok (.ireturn, 1) := by decide +kernel
set_option maxRecDepth 20000 in
theorem ggX8_distance_X8_requireBlock : GoodIn wsX8_distance wsX8_requireBlock := goodIn_ca (goodIn_r _ [7, 1, 2] (by decide +kernel) (by decide +kernel)) (goodIn_sub (fun _ h => List.mem_cons_of_mem _ (List.mem_append_right _ h)) (by decide +kernel))
set_option maxRecDepth 20000 in
theorem gX8_distance_X8_requireBlock : GoodIn wsX8_distance (va_wsS RX8 124 yX8_requireBlock wsX8_requireBlock) := goodIn_app (goodIn_of _ (by decide +kernel)) ggX8_distance_X8_requireBlock
set_option maxRecDepth 20000 in
theorem ggX8_distance_X3_distanceBy : GoodIn wsX8_distance wsX3_distanceBy := goodIn_r _ [10, 11, 12, 13, 14, 15, 6, 16, 17, 18, 19, 20, 21, 22, 23, 24, 25, 26, 27, 28, 37, 38, 39, 40, 41, 42, 43, 44, 45, 46, 47] (by decide +kernel) (by decide +kernel)
set_option maxRecDepth 20000 in
theorem gX8_distance_X3_distanceBy_n132 : GoodIn wsX8_distance (wsX3_distanceBy) := ggX8_distance_X3_distanceBy
theorem dX8_distance_0 : decode cX8_distance 0 = .ok (.iload_n 1, 1) := by decide +kernel
theorem dX8_distance_1 : decode cX8_distance 1 = .ok (.invokestatic 124, 3) := by decide +kernel
theorem dX8_distance_4 : decode cX8_distance 4 = .ok (.iload_n 2, 1) := by decide +kernel
theorem dX8_distance_5 : decode cX8_distance 5 = .ok (.ifCond .lt 9, 3) := by decide +kernel
theorem dX8_distance_8 : decode cX8_distance 8 = .ok (.iload_n 2, 1) := by decide +kernel
theorem dX8_distance_9 : decode cX8_distance 9 = .ok (.bipush 25, 2) := by decide +kernel
theorem dX8_distance_11 : decode cX8_distance 11 = .ok (.if_icmp .lt 13, 3) := by decide +kernel
theorem dX8_distance_14 : decode cX8_distance 14 = .ok (.new 127, 3) := by decide +kernel
theorem dX8_distance_17 : decode cX8_distance 17 = .ok (.dup, 1) := by decide +kernel
theorem dX8_distance_18 : decode cX8_distance 18 = .ok (.ldc 129, 2) := by decide +kernel
theorem dX8_distance_20 : decode cX8_distance 20 = .ok (.invokespecial 131, 3) := by decide +kernel
theorem dX8_distance_23 : decode cX8_distance 23 = .ok (.athrow, 1) := by decide +kernel
theorem dX8_distance_24 : decode cX8_distance 24 = .ok (.aload_n 0, 1) := by decide +kernel
theorem dX8_distance_25 : decode cX8_distance 25 = .ok (.getfield 12, 3) := by decide +kernel
theorem dX8_distance_28 : decode cX8_distance 28 = .ok (.iload_n 1, 1) := by decide +kernel
theorem dX8_distance_29 : decode cX8_distance 29 = .ok (.iload_n 2, 1) := by decide +kernel
theorem dX8_distance_30 : decode cX8_distance 30 = .ok (.invokestatic 132, 3) := by decide +kernel
theorem dX8_distance_33 : decode cX8_distance 33 = .ok (.ireturn, 1) := by decide +kernel
set_option maxRecDepth 20000 in
theorem ggX8_bestMove_X8_requireBlock : GoodIn wsX8_bestMove wsX8_requireBlock := goodIn_ca (goodIn_r _ [5, 6, 7] (by decide +kernel) (by decide +kernel)) (goodIn_sub (fun _ h => List.mem_cons_of_mem _ (List.mem_append_right _ h)) (by decide +kernel))
set_option maxRecDepth 20000 in
theorem gX8_bestMove_X8_requireBlock : GoodIn wsX8_bestMove (va_wsS RX8 124 yX8_requireBlock wsX8_requireBlock) := goodIn_app (goodIn_of _ (by decide +kernel)) ggX8_bestMove_X8_requireBlock
set_option maxRecDepth 20000 in
theorem ggX8_bestMove_X3_bestByLooking : GoodIn wsX8_bestMove wsX3_bestByLooking := goodIn_r _ [10, 11, 12, 9, 13, 14, 15, 16, 17, 18, 4, 19, 20, 21, 22, 23, 24, 25, 26, 27, 28, 29, 30, 31, 32, 33, 34, 43, 44, 45, 46, 47, 48, 49, 50, 51, 52, 53] (by decide +kernel) (by decide +kernel)
set_option maxRecDepth 20000 in
theorem gX8_bestMove_X3_bestByLooking_n138 : GoodIn wsX8_bestMove (wsX3_bestByLooking) := ggX8_bestMove_X3_bestByLooking
theorem dX8_bestMove_0 : decode cX8_bestMove 0 = .ok (.iload_n 1, 1) := by decide +kernel
theorem dX8_bestMove_1 : decode cX8_bestMove 1 = .ok (.invokestatic 124, 3) := by decide +kernel
theorem dX8_bestMove_4 : decode cX8_bestMove 4 = .ok (.aload_n 0, 1) := by decide +kernel
theorem dX8_bestMove_5 : decode cX8_bestMove 5 = .ok (.getfield 12, 3) := by decide +kernel
theorem dX8_bestMove_8 : decode cX8_bestMove 8 = .ok (.iload_n 1, 1) := by decide +kernel
theorem dX8_bestMove_9 : decode cX8_bestMove 9 = .ok (.invokestatic 138, 3) := by decide +kernel
theorem dX8_bestMove_12 : decode cX8_bestMove 12 = .ok (.ireturn, 1) := by decide +kernel
set_option maxRecDepth 20000 in
theorem ggX8_bestMoveByStopping_X8_requireBlock : GoodIn wsX8_bestMoveByStopping wsX8_requireBlock := goodIn_ca (goodIn_r _ [5, 6, 7] (by decide +kernel) (by decide +kernel)) (goodIn_sub (fun _ h => List.mem_cons_of_mem _ (List.mem_append_right _ h)) (by decide +kernel))
set_option maxRecDepth 20000 in
theorem gX8_bestMoveByStopping_X8_requireBlock : GoodIn wsX8_bestMoveByStopping (va_wsS RX8 124 yX8_requireBlock wsX8_requireBlock) := goodIn_app (goodIn_of _ (by decide +kernel)) ggX8_bestMoveByStopping_X8_requireBlock
set_option maxRecDepth 20000 in
theorem ggX8_bestMoveByStopping_X3_bestByStopping : GoodIn wsX8_bestMoveByStopping wsX3_bestByStopping := goodIn_r _ [10, 11, 12, 13, 9, 14, 15, 16, 17, 18, 19, 4, 20, 21, 22, 23, 24, 25, 26, 27, 28, 29, 30, 31, 32, 41, 42, 43, 44, 45, 46, 47, 48, 49, 50, 51] (by decide +kernel) (by decide +kernel)
set_option maxRecDepth 20000 in
theorem gX8_bestMoveByStopping_X3_bestByStopping_n142 : GoodIn wsX8_bestMoveByStopping (wsX3_bestByStopping) := ggX8_bestMoveByStopping_X3_bestByStopping
theorem dX8_bestMoveByStopping_0 : decode cX8_bestMoveByStopping 0 = .ok (.iload_n 1, 1) := by decide +kernel
theorem dX8_bestMoveByStopping_1 : decode cX8_bestMoveByStopping 1 = .ok (.invokestatic 124, 3) := by decide +kernel
theorem dX8_bestMoveByStopping_4 : decode cX8_bestMoveByStopping 4 = .ok (.aload_n 0, 1) := by decide +kernel
theorem dX8_bestMoveByStopping_5 : decode cX8_bestMoveByStopping 5 = .ok (.getfield 12, 3) := by decide +kernel
theorem dX8_bestMoveByStopping_8 : decode cX8_bestMoveByStopping 8 = .ok (.iload_n 1, 1) := by decide +kernel
theorem dX8_bestMoveByStopping_9 : decode cX8_bestMoveByStopping 9 = .ok (.invokestatic 142, 3) := by decide +kernel
theorem dX8_bestMoveByStopping_12 : decode cX8_bestMoveByStopping 12 = .ok (.ireturn, 1) := by decide +kernel
set_option maxRecDepth 20000 in
theorem ggX8_equalMoves_X8_requireBlock : GoodIn wsX8_equalMoves wsX8_requireBlock := goodIn_ca (goodIn_r _ [5, 6, 7] (by decide +kernel) (by decide +kernel)) (goodIn_sub (fun _ h => List.mem_cons_of_mem _ (List.mem_append_right _ h)) (by decide +kernel))
set_option maxRecDepth 20000 in
theorem gX8_equalMoves_X8_requireBlock : GoodIn wsX8_equalMoves (va_wsS RX8 124 yX8_requireBlock wsX8_requireBlock) := goodIn_app (goodIn_of _ (by decide +kernel)) ggX8_equalMoves_X8_requireBlock
set_option maxRecDepth 20000 in
theorem ggX8_equalMoves_X3_countBest : GoodIn wsX8_equalMoves wsX3_countBest := goodIn_r _ [10, 11, 12, 9, 13, 14, 15, 16, 17, 18, 4, 19, 20, 21, 22, 23, 24, 25, 26, 27, 28, 29, 30, 31, 40, 41, 42, 43, 44, 45, 46, 47, 48, 49, 50] (by decide +kernel) (by decide +kernel)
set_option maxRecDepth 20000 in
theorem gX8_equalMoves_X3_countBest_n145 : GoodIn wsX8_equalMoves (wsX3_countBest) := ggX8_equalMoves_X3_countBest
theorem dX8_equalMoves_0 : decode cX8_equalMoves 0 = .ok (.iload_n 1, 1) := by decide +kernel
theorem dX8_equalMoves_1 : decode cX8_equalMoves 1 = .ok (.invokestatic 124, 3) := by decide +kernel
theorem dX8_equalMoves_4 : decode cX8_equalMoves 4 = .ok (.aload_n 0, 1) := by decide +kernel
theorem dX8_equalMoves_5 : decode cX8_equalMoves 5 = .ok (.getfield 12, 3) := by decide +kernel
theorem dX8_equalMoves_8 : decode cX8_equalMoves 8 = .ok (.iload_n 1, 1) := by decide +kernel
theorem dX8_equalMoves_9 : decode cX8_equalMoves 9 = .ok (.invokestatic 145, 3) := by decide +kernel
theorem dX8_equalMoves_12 : decode cX8_equalMoves 12 = .ok (.ireturn, 1) := by decide +kernel
set_option maxRecDepth 20000 in
theorem ggX8_isKeyNext_X7_isKeyDue : GoodIn wsX8_isKeyNext wsX7_isKeyDue := goodIn_r _ [5, 6, 7, 16, 17, 18, 19, 20, 21, 22, 23, 24, 25] (by decide +kernel) (by decide +kernel)
set_option maxRecDepth 20000 in
theorem gX8_isKeyNext_X7_isKeyDue_n148 : GoodIn wsX8_isKeyNext (wsX7_isKeyDue) := ggX8_isKeyNext_X7_isKeyDue
theorem dX8_isKeyNext_0 : decode cX8_isKeyNext 0 = .ok (.aload_n 0, 1) := by decide +kernel
theorem dX8_isKeyNext_1 : decode cX8_isKeyNext 1 = .ok (.getfield 12, 3) := by decide +kernel
theorem dX8_isKeyNext_4 : decode cX8_isKeyNext 4 = .ok (.invokevirtual 148, 3) := by decide +kernel
theorem dX8_isKeyNext_7 : decode cX8_isKeyNext 7 = .ok (.ireturn, 1) := by decide +kernel
set_option maxRecDepth 20000 in
theorem ggX8_kindWith_X8_requireBlock : GoodIn wsX8_kindWith wsX8_requireBlock := goodIn_ca (goodIn_r _ [6, 7, 8] (by decide +kernel) (by decide +kernel)) (goodIn_sub (fun _ h => List.mem_cons_of_mem _ (List.mem_append_left _ (List.mem_append_right _ h))) (by decide +kernel))
set_option maxRecDepth 20000 in
theorem gX8_kindWith_X8_requireBlock : GoodIn wsX8_kindWith (va_wsS RX8 124 yX8_requireBlock wsX8_requireBlock) := goodIn_app (goodIn_of _ (by decide +kernel)) ggX8_kindWith_X8_requireBlock
set_option maxRecDepth 20000 in
theorem ggX8_kindWith_X8_requireWithin : GoodIn wsX8_kindWith wsX8_requireWithin := goodIn_ca (goodIn_r _ [11, 12, 13] (by decide +kernel) (by decide +kernel)) (goodIn_sub (fun _ h => List.mem_cons_of_mem _ (List.mem_append_right _ h)) (by decide +kernel))
set_option maxRecDepth 20000 in
theorem gX8_kindWith_X8_requireWithin : GoodIn wsX8_kindWith (va_wsS RX8 65 yX8_requireWithin wsX8_requireWithin) := goodIn_app (goodIn_of _ (by decide +kernel)) ggX8_kindWith_X8_requireWithin
set_option maxRecDepth 20000 in
theorem ggX8_kindWith_X3_bestByLooking : GoodIn wsX8_kindWith wsX3_bestByLooking := goodIn_r _ [16, 17, 18, 15, 19, 20, 21, 22, 23, 24, 5, 25, 26, 27, 28, 29, 30, 31, 32, 33, 34, 35, 36, 37, 38, 39, 40, 73, 74, 75, 76, 77, 78, 79, 80, 81, 82, 83] (by decide +kernel) (by decide +kernel)
set_option maxRecDepth 20000 in
theorem gX8_kindWith_X3_bestByLooking_n138 : GoodIn wsX8_kindWith (wsX3_bestByLooking) := ggX8_kindWith_X3_bestByLooking
set_option maxRecDepth 20000 in
theorem ggX8_kindWith_X5_foreseeBlock : GoodIn wsX8_kindWith wsX5_foreseeBlock := goodIn_r _ [44, 45, 46, 47, 28, 5, 29, 24, 25, 26, 27, 35, 31, 36, 37, 34, 48, 49, 50, 30, 32, 33, 84, 85, 86, 87, 88, 89, 73, 74, 75, 76, 77, 78, 79, 80, 81, 82, 83] (by decide +kernel) (by decide +kernel)
set_option maxRecDepth 20000 in
theorem gX8_kindWith_X5_foreseeBlock_n151 : GoodIn wsX8_kindWith (wsX5_foreseeBlock) := ggX8_kindWith_X5_foreseeBlock
set_option maxRecDepth 20000 in
theorem ggX8_kindWith_X5_weighBlock : GoodIn wsX8_kindWith wsX5_weighBlock := goodIn_r _ [53, 45, 54, 28, 5, 29, 55, 56, 57, 42, 58, 47, 59, 60, 61, 84, 85, 86, 87, 88, 89] (by decide +kernel) (by decide +kernel)
set_option maxRecDepth 20000 in
theorem gX8_kindWith_X5_weighBlock_n155 : GoodIn wsX8_kindWith (wsX5_weighBlock) := ggX8_kindWith_X5_weighBlock
set_option maxRecDepth 20000 in
theorem ggX8_kindWith_X5_kindOf : GoodIn wsX8_kindWith wsX5_kindOf := goodIn_r _ [64, 54, 84, 85, 86, 87, 88, 89] (by decide +kernel) (by decide +kernel)
set_option maxRecDepth 20000 in
theorem gX8_kindWith_X5_kindOf_n158 : GoodIn wsX8_kindWith (wsX5_kindOf) := ggX8_kindWith_X5_kindOf
theorem dX8_kindWith_0 : decode cX8_kindWith 0 = .ok (.iload_n 1, 1) := by decide +kernel
theorem dX8_kindWith_1 : decode cX8_kindWith 1 = .ok (.invokestatic 124, 3) := by decide +kernel
theorem dX8_kindWith_4 : decode cX8_kindWith 4 = .ok (.iload_n 2, 1) := by decide +kernel
theorem dX8_kindWith_5 : decode cX8_kindWith 5 = .ok (.iconst 1, 1) := by decide +kernel
theorem dX8_kindWith_6 : decode cX8_kindWith 6 = .ok (.bipush 8, 2) := by decide +kernel
theorem dX8_kindWith_8 : decode cX8_kindWith 8 = .ok (.invokestatic 65, 3) := by decide +kernel
theorem dX8_kindWith_11 : decode cX8_kindWith 11 = .ok (.aload_n 0, 1) := by decide +kernel
theorem dX8_kindWith_12 : decode cX8_kindWith 12 = .ok (.getfield 19, 3) := by decide +kernel
theorem dX8_kindWith_15 : decode cX8_kindWith 15 = .ok (.aload_n 0, 1) := by decide +kernel
theorem dX8_kindWith_16 : decode cX8_kindWith 16 = .ok (.getfield 12, 3) := by decide +kernel
theorem dX8_kindWith_19 : decode cX8_kindWith 19 = .ok (.iload_n 1, 1) := by decide +kernel
theorem dX8_kindWith_20 : decode cX8_kindWith 20 = .ok (.aload_n 0, 1) := by decide +kernel
theorem dX8_kindWith_21 : decode cX8_kindWith 21 = .ok (.getfield 12, 3) := by decide +kernel
theorem dX8_kindWith_24 : decode cX8_kindWith 24 = .ok (.iload_n 1, 1) := by decide +kernel
theorem dX8_kindWith_25 : decode cX8_kindWith 25 = .ok (.invokestatic 138, 3) := by decide +kernel
theorem dX8_kindWith_28 : decode cX8_kindWith 28 = .ok (.invokevirtual 151, 3) := by decide +kernel
theorem dX8_kindWith_31 : decode cX8_kindWith 31 = .ok (.aload_n 0, 1) := by decide +kernel
theorem dX8_kindWith_32 : decode cX8_kindWith 32 = .ok (.getfield 19, 3) := by decide +kernel
theorem dX8_kindWith_35 : decode cX8_kindWith 35 = .ok (.iload_n 1, 1) := by decide +kernel
theorem dX8_kindWith_36 : decode cX8_kindWith 36 = .ok (.iload_n 2, 1) := by decide +kernel
theorem dX8_kindWith_37 : decode cX8_kindWith 37 = .ok (.invokevirtual 155, 3) := by decide +kernel
theorem dX8_kindWith_40 : decode cX8_kindWith 40 = .ok (.pop, 1) := by decide +kernel
theorem dX8_kindWith_41 : decode cX8_kindWith 41 = .ok (.aload_n 0, 1) := by decide +kernel
theorem dX8_kindWith_42 : decode cX8_kindWith 42 = .ok (.getfield 19, 3) := by decide +kernel
theorem dX8_kindWith_45 : decode cX8_kindWith 45 = .ok (.iload_n 1, 1) := by decide +kernel
theorem dX8_kindWith_46 : decode cX8_kindWith 46 = .ok (.invokevirtual 158, 3) := by decide +kernel
theorem dX8_kindWith_49 : decode cX8_kindWith 49 = .ok (.ireturn, 1) := by decide +kernel
set_option maxRecDepth 20000 in
theorem ggX8_bitsWith_X8_requireBlock : GoodIn wsX8_bitsWith wsX8_requireBlock := goodIn_ca (goodIn_r _ [6, 7, 8] (by decide +kernel) (by decide +kernel)) (goodIn_sub (fun _ h => List.mem_cons_of_mem _ (List.mem_append_left _ (List.mem_append_right _ h))) (by decide +kernel))
set_option maxRecDepth 20000 in
theorem gX8_bitsWith_X8_requireBlock : GoodIn wsX8_bitsWith (va_wsS RX8 124 yX8_requireBlock wsX8_requireBlock) := goodIn_app (goodIn_of _ (by decide +kernel)) ggX8_bitsWith_X8_requireBlock
set_option maxRecDepth 20000 in
theorem ggX8_bitsWith_X8_requireWithin : GoodIn wsX8_bitsWith wsX8_requireWithin := goodIn_ca (goodIn_r _ [11, 12, 13] (by decide +kernel) (by decide +kernel)) (goodIn_sub (fun _ h => List.mem_cons_of_mem _ (List.mem_append_right _ h)) (by decide +kernel))
set_option maxRecDepth 20000 in
theorem gX8_bitsWith_X8_requireWithin : GoodIn wsX8_bitsWith (va_wsS RX8 65 yX8_requireWithin wsX8_requireWithin) := goodIn_app (goodIn_of _ (by decide +kernel)) ggX8_bitsWith_X8_requireWithin
set_option maxRecDepth 20000 in
theorem ggX8_bitsWith_X3_bestByLooking : GoodIn wsX8_bitsWith wsX3_bestByLooking := goodIn_r _ [16, 17, 18, 15, 19, 20, 21, 22, 23, 24, 5, 25, 26, 27, 28, 29, 30, 31, 32, 33, 34, 35, 36, 37, 38, 39, 40, 70, 71, 72, 73, 74, 75, 76, 77, 78, 79, 80] (by decide +kernel) (by decide +kernel)
set_option maxRecDepth 20000 in
theorem gX8_bitsWith_X3_bestByLooking_n138 : GoodIn wsX8_bitsWith (wsX3_bestByLooking) := ggX8_bitsWith_X3_bestByLooking
set_option maxRecDepth 20000 in
theorem ggX8_bitsWith_X5_foreseeBlock : GoodIn wsX8_bitsWith wsX5_foreseeBlock := goodIn_r _ [44, 45, 46, 47, 28, 5, 29, 24, 25, 26, 27, 35, 31, 36, 37, 34, 48, 49, 50, 30, 32, 33, 81, 82, 83, 84, 85, 86, 70, 71, 72, 73, 74, 75, 76, 77, 78, 79, 80] (by decide +kernel) (by decide +kernel)
set_option maxRecDepth 20000 in
theorem gX8_bitsWith_X5_foreseeBlock_n151 : GoodIn wsX8_bitsWith (wsX5_foreseeBlock) := ggX8_bitsWith_X5_foreseeBlock
set_option maxRecDepth 20000 in
theorem ggX8_bitsWith_X5_weighBlock : GoodIn wsX8_bitsWith wsX5_weighBlock := goodIn_r _ [53, 45, 54, 28, 5, 29, 55, 56, 57, 42, 58, 47, 59, 60, 61, 81, 82, 83, 84, 85, 86] (by decide +kernel) (by decide +kernel)
set_option maxRecDepth 20000 in
theorem gX8_bitsWith_X5_weighBlock_n155 : GoodIn wsX8_bitsWith (wsX5_weighBlock) := ggX8_bitsWith_X5_weighBlock
theorem dX8_bitsWith_0 : decode cX8_bitsWith 0 = .ok (.iload_n 1, 1) := by decide +kernel
theorem dX8_bitsWith_1 : decode cX8_bitsWith 1 = .ok (.invokestatic 124, 3) := by decide +kernel
theorem dX8_bitsWith_4 : decode cX8_bitsWith 4 = .ok (.iload_n 2, 1) := by decide +kernel
theorem dX8_bitsWith_5 : decode cX8_bitsWith 5 = .ok (.iconst 1, 1) := by decide +kernel
theorem dX8_bitsWith_6 : decode cX8_bitsWith 6 = .ok (.bipush 8, 2) := by decide +kernel
theorem dX8_bitsWith_8 : decode cX8_bitsWith 8 = .ok (.invokestatic 65, 3) := by decide +kernel
theorem dX8_bitsWith_11 : decode cX8_bitsWith 11 = .ok (.aload_n 0, 1) := by decide +kernel
theorem dX8_bitsWith_12 : decode cX8_bitsWith 12 = .ok (.getfield 19, 3) := by decide +kernel
theorem dX8_bitsWith_15 : decode cX8_bitsWith 15 = .ok (.aload_n 0, 1) := by decide +kernel
theorem dX8_bitsWith_16 : decode cX8_bitsWith 16 = .ok (.getfield 12, 3) := by decide +kernel
theorem dX8_bitsWith_19 : decode cX8_bitsWith 19 = .ok (.iload_n 1, 1) := by decide +kernel
theorem dX8_bitsWith_20 : decode cX8_bitsWith 20 = .ok (.aload_n 0, 1) := by decide +kernel
theorem dX8_bitsWith_21 : decode cX8_bitsWith 21 = .ok (.getfield 12, 3) := by decide +kernel
theorem dX8_bitsWith_24 : decode cX8_bitsWith 24 = .ok (.iload_n 1, 1) := by decide +kernel
theorem dX8_bitsWith_25 : decode cX8_bitsWith 25 = .ok (.invokestatic 138, 3) := by decide +kernel
theorem dX8_bitsWith_28 : decode cX8_bitsWith 28 = .ok (.invokevirtual 151, 3) := by decide +kernel
theorem dX8_bitsWith_31 : decode cX8_bitsWith 31 = .ok (.aload_n 0, 1) := by decide +kernel
theorem dX8_bitsWith_32 : decode cX8_bitsWith 32 = .ok (.getfield 19, 3) := by decide +kernel
theorem dX8_bitsWith_35 : decode cX8_bitsWith 35 = .ok (.iload_n 1, 1) := by decide +kernel
theorem dX8_bitsWith_36 : decode cX8_bitsWith 36 = .ok (.iload_n 2, 1) := by decide +kernel
theorem dX8_bitsWith_37 : decode cX8_bitsWith 37 = .ok (.invokevirtual 155, 3) := by decide +kernel
theorem dX8_bitsWith_40 : decode cX8_bitsWith 40 = .ok (.ireturn, 1) := by decide +kernel
set_option maxRecDepth 20000 in
theorem ggX8_bitsByWriting_X8_requireBlock : GoodIn wsX8_bitsByWriting wsX8_requireBlock := goodIn_ca (goodIn_r _ [7, 8, 9] (by decide +kernel) (by decide +kernel)) (goodIn_sub (fun _ h => List.mem_cons_of_mem _ (List.mem_append_left _ (List.mem_append_right _ h))) (by decide +kernel))
set_option maxRecDepth 20000 in
theorem gX8_bitsByWriting_X8_requireBlock : GoodIn wsX8_bitsByWriting (va_wsS RX8 124 yX8_requireBlock wsX8_requireBlock) := goodIn_app (goodIn_of _ (by decide +kernel)) ggX8_bitsByWriting_X8_requireBlock
set_option maxRecDepth 20000 in
theorem ggX8_bitsByWriting_X8_requireWithin : GoodIn wsX8_bitsByWriting wsX8_requireWithin := goodIn_ca (goodIn_r _ [12, 13, 14] (by decide +kernel) (by decide +kernel)) (goodIn_sub (fun _ h => List.mem_cons_of_mem _ (List.mem_append_right _ h)) (by decide +kernel))
set_option maxRecDepth 20000 in
theorem gX8_bitsByWriting_X8_requireWithin : GoodIn wsX8_bitsByWriting (va_wsS RX8 65 yX8_requireWithin wsX8_requireWithin) := goodIn_app (goodIn_of _ (by decide +kernel)) ggX8_bitsByWriting_X8_requireWithin
set_option maxRecDepth 20000 in
theorem ggX8_bitsByWriting_X3_bestByStopping : GoodIn wsX8_bitsByWriting wsX3_bestByStopping := goodIn_r _ [17, 18, 19, 20, 16, 21, 22, 23, 24, 25, 26, 6, 27, 28, 29, 30, 31, 32, 33, 34, 35, 36, 37, 38, 39, 87, 88, 89, 90, 91, 92, 93, 94, 95, 96, 97] (by decide +kernel) (by decide +kernel)
set_option maxRecDepth 20000 in
theorem gX8_bitsByWriting_X3_bestByStopping_n142 : GoodIn wsX8_bitsByWriting (wsX3_bestByStopping) := ggX8_bitsByWriting_X3_bestByStopping
set_option maxRecDepth 20000 in
theorem ggX8_bitsByWriting_X5_foreseeBlock : GoodIn wsX8_bitsByWriting wsX5_foreseeBlock := goodIn_r _ [43, 44, 45, 46, 26, 6, 27, 28, 29, 30, 31, 32, 33, 34, 35, 36, 47, 48, 49, 37, 38, 39, 98, 99, 100, 101, 102, 103, 87, 88, 89, 90, 91, 92, 93, 94, 95, 96, 97] (by decide +kernel) (by decide +kernel)
set_option maxRecDepth 20000 in
theorem gX8_bitsByWriting_X5_foreseeBlock_n151 : GoodIn wsX8_bitsByWriting (wsX5_foreseeBlock) := ggX8_bitsByWriting_X5_foreseeBlock
set_option maxRecDepth 20000 in
theorem ggX8_bitsByWriting_X0_writeBlock : GoodIn wsX8_bitsByWriting wsX0_writeBlock := goodIn_r _ [53, 54, 55, 41, 56, 57, 44, 58, 59, 60, 51, 61, 62, 63, 64, 65, 66, 26, 6, 27, 67, 68, 69, 46, 70, 71, 72, 73, 74, 23, 24, 25, 75, 76, 77, 78, 37, 33, 38, 39, 36, 104, 105, 98, 99, 100, 101, 102, 103, 97] (by decide +kernel) (by decide +kernel)
set_option maxRecDepth 20000 in
theorem gX8_bitsByWriting_X0_writeBlock_n161 : GoodIn wsX8_bitsByWriting (wsX0_writeBlock) := ggX8_bitsByWriting_X0_writeBlock
theorem dX8_bitsByWriting_0 : decode cX8_bitsByWriting 0 = .ok (.iload_n 1, 1) := by decide +kernel
theorem dX8_bitsByWriting_1 : decode cX8_bitsByWriting 1 = .ok (.invokestatic 124, 3) := by decide +kernel
theorem dX8_bitsByWriting_4 : decode cX8_bitsByWriting 4 = .ok (.iload_n 2, 1) := by decide +kernel
theorem dX8_bitsByWriting_5 : decode cX8_bitsByWriting 5 = .ok (.iconst 1, 1) := by decide +kernel
theorem dX8_bitsByWriting_6 : decode cX8_bitsByWriting 6 = .ok (.bipush 8, 2) := by decide +kernel
theorem dX8_bitsByWriting_8 : decode cX8_bitsByWriting 8 = .ok (.invokestatic 65, 3) := by decide +kernel
theorem dX8_bitsByWriting_11 : decode cX8_bitsByWriting 11 = .ok (.aload_n 0, 1) := by decide +kernel
theorem dX8_bitsByWriting_12 : decode cX8_bitsByWriting 12 = .ok (.getfield 19, 3) := by decide +kernel
theorem dX8_bitsByWriting_15 : decode cX8_bitsByWriting 15 = .ok (.aload_n 0, 1) := by decide +kernel
theorem dX8_bitsByWriting_16 : decode cX8_bitsByWriting 16 = .ok (.getfield 12, 3) := by decide +kernel
theorem dX8_bitsByWriting_19 : decode cX8_bitsByWriting 19 = .ok (.iload_n 1, 1) := by decide +kernel
theorem dX8_bitsByWriting_20 : decode cX8_bitsByWriting 20 = .ok (.aload_n 0, 1) := by decide +kernel
theorem dX8_bitsByWriting_21 : decode cX8_bitsByWriting 21 = .ok (.getfield 12, 3) := by decide +kernel
theorem dX8_bitsByWriting_24 : decode cX8_bitsByWriting 24 = .ok (.iload_n 1, 1) := by decide +kernel
theorem dX8_bitsByWriting_25 : decode cX8_bitsByWriting 25 = .ok (.invokestatic 142, 3) := by decide +kernel
theorem dX8_bitsByWriting_28 : decode cX8_bitsByWriting 28 = .ok (.invokevirtual 151, 3) := by decide +kernel
theorem dX8_bitsByWriting_31 : decode cX8_bitsByWriting 31 = .ok (.aload_n 0, 1) := by decide +kernel
theorem dX8_bitsByWriting_32 : decode cX8_bitsByWriting 32 = .ok (.getfield 26, 3) := by decide +kernel
theorem dX8_bitsByWriting_35 : decode cX8_bitsByWriting 35 = .ok (.aload_n 0, 1) := by decide +kernel
theorem dX8_bitsByWriting_36 : decode cX8_bitsByWriting 36 = .ok (.getfield 19, 3) := by decide +kernel
theorem dX8_bitsByWriting_39 : decode cX8_bitsByWriting 39 = .ok (.aload_n 0, 1) := by decide +kernel
theorem dX8_bitsByWriting_40 : decode cX8_bitsByWriting 40 = .ok (.getfield 12, 3) := by decide +kernel
theorem dX8_bitsByWriting_43 : decode cX8_bitsByWriting 43 = .ok (.getfield 73, 3) := by decide +kernel
theorem dX8_bitsByWriting_46 : decode cX8_bitsByWriting 46 = .ok (.iload_n 1, 1) := by decide +kernel
theorem dX8_bitsByWriting_47 : decode cX8_bitsByWriting 47 = .ok (.iload_n 2, 1) := by decide +kernel
theorem dX8_bitsByWriting_48 : decode cX8_bitsByWriting 48 = .ok (.invokevirtual 161, 3) := by decide +kernel
theorem dX8_bitsByWriting_51 : decode cX8_bitsByWriting 51 = .ok (.ireturn, 1) := by decide +kernel
set_option maxRecDepth 20000 in
theorem ggX8_coarsenessNext_X5_foreseePicture : GoodIn wsX8_coarsenessNext wsX5_foreseePicture := goodIn_r _ [6, 7, 8, 9, 10, 11, 12, 13, 14, 15, 16, 4, 17, 18, 19, 20, 21, 22, 23, 24, 25, 26, 27, 28, 29, 30, 31, 32, 33, 34, 35, 36, 37, 38, 39, 40, 41, 42, 43, 44, 45, 46, 47, 48, 49, 50, 51, 52, 53, 54, 55, 56, 57, 58, 59, 60, 61, 62, 63, 64, 65, 66, 67, 68, 69, 70, 71, 72, 81, 82, 83, 84, 85, 86, 87, 88, 89, 90, 91, 92, 93, 94, 95, 96, 97] (by decide +kernel) (by decide +kernel)
set_option maxRecDepth 20000 in
theorem gX8_coarsenessNext_X5_foreseePicture_n165 : GoodIn wsX8_coarsenessNext (wsX5_foreseePicture) := ggX8_coarsenessNext_X5_foreseePicture
theorem dX8_coarsenessNext_0 : decode cX8_coarsenessNext 0 = .ok (.aload_n 0, 1) := by decide +kernel
theorem dX8_coarsenessNext_1 : decode cX8_coarsenessNext 1 = .ok (.getfield 19, 3) := by decide +kernel
theorem dX8_coarsenessNext_4 : decode cX8_coarsenessNext 4 = .ok (.aload_n 0, 1) := by decide +kernel
theorem dX8_coarsenessNext_5 : decode cX8_coarsenessNext 5 = .ok (.getfield 12, 3) := by decide +kernel
theorem dX8_coarsenessNext_8 : decode cX8_coarsenessNext 8 = .ok (.invokevirtual 165, 3) := by decide +kernel
theorem dX8_coarsenessNext_11 : decode cX8_coarsenessNext 11 = .ok (.aload_n 0, 1) := by decide +kernel
theorem dX8_coarsenessNext_12 : decode cX8_coarsenessNext 12 = .ok (.getfield 19, 3) := by decide +kernel
theorem dX8_coarsenessNext_15 : decode cX8_coarsenessNext 15 = .ok (.getfield 168, 3) := by decide +kernel
theorem dX8_coarsenessNext_18 : decode cX8_coarsenessNext 18 = .ok (.ireturn, 1) := by decide +kernel
set_option maxRecDepth 20000 in
theorem ggX8_bitsNext_X5_foreseePicture : GoodIn wsX8_bitsNext wsX5_foreseePicture := goodIn_r _ [6, 7, 8, 9, 10, 11, 12, 13, 14, 15, 16, 4, 17, 18, 19, 20, 21, 22, 23, 24, 25, 26, 27, 28, 29, 30, 31, 32, 33, 34, 35, 36, 37, 38, 39, 40, 41, 42, 43, 44, 45, 46, 47, 48, 49, 50, 51, 52, 53, 54, 55, 56, 57, 58, 59, 60, 61, 62, 63, 64, 65, 66, 67, 68, 69, 70, 71, 72, 81, 82, 83, 84, 85, 86, 87, 88, 89, 90, 91, 92, 93, 94, 95, 96, 97] (by decide +kernel) (by decide +kernel)
set_option maxRecDepth 20000 in
theorem gX8_bitsNext_X5_foreseePicture_n165 : GoodIn wsX8_bitsNext (wsX5_foreseePicture) := ggX8_bitsNext_X5_foreseePicture
theorem dX8_bitsNext_0 : decode cX8_bitsNext 0 = .ok (.aload_n 0, 1) := by decide +kernel
theorem dX8_bitsNext_1 : decode cX8_bitsNext 1 = .ok (.getfield 19, 3) := by decide +kernel
theorem dX8_bitsNext_4 : decode cX8_bitsNext 4 = .ok (.aload_n 0, 1) := by decide +kernel
theorem dX8_bitsNext_5 : decode cX8_bitsNext 5 = .ok (.getfield 12, 3) := by decide +kernel
theorem dX8_bitsNext_8 : decode cX8_bitsNext 8 = .ok (.invokevirtual 165, 3) := by decide +kernel
theorem dX8_bitsNext_11 : decode cX8_bitsNext 11 = .ok (.aload_n 0, 1) := by decide +kernel
theorem dX8_bitsNext_12 : decode cX8_bitsNext 12 = .ok (.getfield 19, 3) := by decide +kernel
theorem dX8_bitsNext_15 : decode cX8_bitsNext 15 = .ok (.getfield 171, 3) := by decide +kernel
theorem dX8_bitsNext_18 : decode cX8_bitsNext 18 = .ok (.ireturn, 1) := by decide +kernel
theorem dX8_pictureCount_0 : decode cX8_pictureCount 0 = .ok (.aload_n 0, 1) := by decide +kernel
theorem dX8_pictureCount_1 : decode cX8_pictureCount 1 = .ok (.getfield 12, 3) := by decide +kernel
theorem dX8_pictureCount_4 : decode cX8_pictureCount 4 = .ok (.getfield 174, 3) := by decide +kernel
theorem dX8_pictureCount_7 : decode cX8_pictureCount 7 = .ok (.ireturn, 1) := by decide +kernel
theorem dX8_lostCount_0 : decode cX8_lostCount 0 = .ok (.aload_n 0, 1) := by decide +kernel
theorem dX8_lostCount_1 : decode cX8_lostCount 1 = .ok (.getfield 12, 3) := by decide +kernel
theorem dX8_lostCount_4 : decode cX8_lostCount 4 = .ok (.getfield 177, 3) := by decide +kernel
theorem dX8_lostCount_7 : decode cX8_lostCount 7 = .ok (.ireturn, 1) := by decide +kernel
theorem dX8_bitCount_0 : decode cX8_bitCount 0 = .ok (.aload_n 0, 1) := by decide +kernel
theorem dX8_bitCount_1 : decode cX8_bitCount 1 = .ok (.getfield 12, 3) := by decide +kernel
theorem dX8_bitCount_4 : decode cX8_bitCount 4 = .ok (.getfield 180, 3) := by decide +kernel
theorem dX8_bitCount_7 : decode cX8_bitCount 7 = .ok (.ireturn, 1) := by decide +kernel
set_option maxRecDepth 20000 in
theorem ggX8_lastKind_X8_requireBlock : GoodIn wsX8_lastKind wsX8_requireBlock := goodIn_ca (goodIn_r _ [5, 6, 7] (by decide +kernel) (by decide +kernel)) (goodIn_sub (fun _ h => List.mem_cons_of_mem _ (List.mem_append_right _ h)) (by decide +kernel))
set_option maxRecDepth 20000 in
theorem gX8_lastKind_X8_requireBlock : GoodIn wsX8_lastKind (va_wsS RX8 124 yX8_requireBlock wsX8_requireBlock) := goodIn_app (goodIn_of _ (by decide +kernel)) ggX8_lastKind_X8_requireBlock
theorem dX8_lastKind_0 : decode cX8_lastKind 0 = .ok (.iload_n 1, 1) := by decide +kernel
theorem dX8_lastKind_1 : decode cX8_lastKind 1 = .ok (.invokestatic 124, 3) := by decide +kernel
theorem dX8_lastKind_4 : decode cX8_lastKind 4 = .ok (.aload_n 0, 1) := by decide +kernel
theorem dX8_lastKind_5 : decode cX8_lastKind 5 = .ok (.getfield 12, 3) := by decide +kernel
theorem dX8_lastKind_8 : decode cX8_lastKind 8 = .ok (.getfield 174, 3) := by decide +kernel
theorem dX8_lastKind_11 : decode cX8_lastKind 11 = .ok (.ifCond .ne 7, 3) := by decide +kernel
theorem dX8_lastKind_14 : decode cX8_lastKind 14 = .ok (.iconst (-1), 1) := by decide +kernel
theorem dX8_lastKind_15 : decode cX8_lastKind 15 = .ok (.goto 12, 3) := by decide +kernel
theorem dX8_lastKind_18 : decode cX8_lastKind 18 = .ok (.aload_n 0, 1) := by decide +kernel
theorem dX8_lastKind_19 : decode cX8_lastKind 19 = .ok (.getfield 12, 3) := by decide +kernel
theorem dX8_lastKind_22 : decode cX8_lastKind 22 = .ok (.getfield 183, 3) := by decide +kernel
theorem dX8_lastKind_25 : decode cX8_lastKind 25 = .ok (.iload_n 1, 1) := by decide +kernel
theorem dX8_lastKind_26 : decode cX8_lastKind 26 = .ok (.iaload, 1) := by decide +kernel
theorem dX8_lastKind_27 : decode cX8_lastKind 27 = .ok (.ireturn, 1) := by decide +kernel
set_option maxRecDepth 20000 in
theorem ggX8_lastMove_X8_requireBlock : GoodIn wsX8_lastMove wsX8_requireBlock := goodIn_ca (goodIn_r _ [5, 6, 7] (by decide +kernel) (by decide +kernel)) (goodIn_sub (fun _ h => List.mem_cons_of_mem _ (List.mem_append_right _ h)) (by decide +kernel))
set_option maxRecDepth 20000 in
theorem gX8_lastMove_X8_requireBlock : GoodIn wsX8_lastMove (va_wsS RX8 124 yX8_requireBlock wsX8_requireBlock) := goodIn_app (goodIn_of _ (by decide +kernel)) ggX8_lastMove_X8_requireBlock
theorem dX8_lastMove_0 : decode cX8_lastMove 0 = .ok (.iload_n 1, 1) := by decide +kernel
theorem dX8_lastMove_1 : decode cX8_lastMove 1 = .ok (.invokestatic 124, 3) := by decide +kernel
theorem dX8_lastMove_4 : decode cX8_lastMove 4 = .ok (.aload_n 0, 1) := by decide +kernel
theorem dX8_lastMove_5 : decode cX8_lastMove 5 = .ok (.getfield 12, 3) := by decide +kernel
theorem dX8_lastMove_8 : decode cX8_lastMove 8 = .ok (.getfield 174, 3) := by decide +kernel
theorem dX8_lastMove_11 : decode cX8_lastMove 11 = .ok (.ifCond .eq 15, 3) := by decide +kernel
theorem dX8_lastMove_14 : decode cX8_lastMove 14 = .ok (.aload_n 0, 1) := by decide +kernel
theorem dX8_lastMove_15 : decode cX8_lastMove 15 = .ok (.getfield 12, 3) := by decide +kernel
theorem dX8_lastMove_18 : decode cX8_lastMove 18 = .ok (.getfield 183, 3) := by decide +kernel
theorem dX8_lastMove_21 : decode cX8_lastMove 21 = .ok (.iload_n 1, 1) := by decide +kernel
theorem dX8_lastMove_22 : decode cX8_lastMove 22 = .ok (.iaload, 1) := by decide +kernel
theorem dX8_lastMove_23 : decode cX8_lastMove 23 = .ok (.ifCond .ne 7, 3) := by decide +kernel
theorem dX8_lastMove_26 : decode cX8_lastMove 26 = .ok (.iconst (-1), 1) := by decide +kernel
theorem dX8_lastMove_27 : decode cX8_lastMove 27 = .ok (.goto 12, 3) := by decide +kernel
theorem dX8_lastMove_30 : decode cX8_lastMove 30 = .ok (.aload_n 0, 1) := by decide +kernel
theorem dX8_lastMove_31 : decode cX8_lastMove 31 = .ok (.getfield 12, 3) := by decide +kernel
theorem dX8_lastMove_34 : decode cX8_lastMove 34 = .ok (.getfield 187, 3) := by decide +kernel
theorem dX8_lastMove_37 : decode cX8_lastMove 37 = .ok (.iload_n 1, 1) := by decide +kernel
theorem dX8_lastMove_38 : decode cX8_lastMove 38 = .ok (.iaload, 1) := by decide +kernel
theorem dX8_lastMove_39 : decode cX8_lastMove 39 = .ok (.ireturn, 1) := by decide +kernel
set_option maxRecDepth 20000 in
theorem ggX8_undo_X2_takeBack : GoodIn wsX8_undo wsX2_takeBack := goodIn_r _ [8, 9, 10, 11, 12, 13, 6, 14, 15, 16, 17, 18, 19, 20, 21, 22, 23, 24, 25, 26, 27, 28, 29, 30, 31, 32, 33, 34, 35, 36, 37, 38, 39, 48, 49, 50, 51, 52, 53, 54, 55, 56, 57, 58, 59, 60, 61] (by decide +kernel) (by decide +kernel)
set_option maxRecDepth 20000 in
theorem gX8_undo_X2_takeBack_n226 : GoodIn wsX8_undo (wsX2_takeBack) := ggX8_undo_X2_takeBack
theorem dX8_undo_0 : decode cX8_undo 0 = .ok (.aload_n 0, 1) := by decide +kernel
theorem dX8_undo_1 : decode cX8_undo 1 = .ok (.getfield 47, 3) := by decide +kernel
theorem dX8_undo_4 : decode cX8_undo 4 = .ok (.getfield 221, 3) := by decide +kernel
theorem dX8_undo_7 : decode cX8_undo 7 = .ok (.ifCond .ne 13, 3) := by decide +kernel
theorem dX8_undo_10 : decode cX8_undo 10 = .ok (.new 91, 3) := by decide +kernel
theorem dX8_undo_13 : decode cX8_undo 13 = .ok (.dup, 1) := by decide +kernel
theorem dX8_undo_14 : decode cX8_undo 14 = .ok (.ldc 224, 2) := by decide +kernel
theorem dX8_undo_16 : decode cX8_undo 16 = .ok (.invokespecial 95, 3) := by decide +kernel
theorem dX8_undo_19 : decode cX8_undo 19 = .ok (.athrow, 1) := by decide +kernel
theorem dX8_undo_20 : decode cX8_undo 20 = .ok (.aload_n 0, 1) := by decide +kernel
theorem dX8_undo_21 : decode cX8_undo 21 = .ok (.getfield 47, 3) := by decide +kernel
theorem dX8_undo_24 : decode cX8_undo 24 = .ok (.aload_n 0, 1) := by decide +kernel
theorem dX8_undo_25 : decode cX8_undo 25 = .ok (.getfield 12, 3) := by decide +kernel
theorem dX8_undo_28 : decode cX8_undo 28 = .ok (.invokevirtual 226, 3) := by decide +kernel
theorem dX8_undo_31 : decode cX8_undo 31 = .ok (.aload_n 0, 1) := by decide +kernel
theorem dX8_undo_32 : decode cX8_undo 32 = .ok (.getfield 47, 3) := by decide +kernel
theorem dX8_undo_35 : decode cX8_undo 35 = .ok (.getfield 221, 3) := by decide +kernel
theorem dX8_undo_38 : decode cX8_undo 38 = .ok (.ireturn, 1) := by decide +kernel
theorem dX8_undoCount_0 : decode cX8_undoCount 0 = .ok (.aload_n 0, 1) := by decide +kernel
theorem dX8_undoCount_1 : decode cX8_undoCount 1 = .ok (.getfield 47, 3) := by decide +kernel
theorem dX8_undoCount_4 : decode cX8_undoCount 4 = .ok (.getfield 221, 3) := by decide +kernel
theorem dX8_undoCount_7 : decode cX8_undoCount 7 = .ok (.ireturn, 1) := by decide +kernel
theorem dX8_requirePixel_0 : decode cX8_requirePixel 0 = .ok (.iload_n 0, 1) := by decide +kernel
theorem dX8_requirePixel_1 : decode cX8_requirePixel 1 = .ok (.ifCond .lt 9, 3) := by decide +kernel
theorem dX8_requirePixel_4 : decode cX8_requirePixel 4 = .ok (.iload_n 0, 1) := by decide +kernel
theorem dX8_requirePixel_5 : decode cX8_requirePixel 5 = .ok (.bipush 64, 2) := by decide +kernel
theorem dX8_requirePixel_7 : decode cX8_requirePixel 7 = .ok (.if_icmp .lt 13, 3) := by decide +kernel
theorem dX8_requirePixel_10 : decode cX8_requirePixel 10 = .ok (.new 127, 3) := by decide +kernel
theorem dX8_requirePixel_13 : decode cX8_requirePixel 13 = .ok (.dup, 1) := by decide +kernel
theorem dX8_requirePixel_14 : decode cX8_requirePixel 14 = .ok (.ldc 244, 2) := by decide +kernel
theorem dX8_requirePixel_16 : decode cX8_requirePixel 16 = .ok (.invokespecial 131, 3) := by decide +kernel
theorem dX8_requirePixel_19 : decode cX8_requirePixel 19 = .ok (.athrow, 1) := by decide +kernel
theorem dX8_requirePixel_20 : decode cX8_requirePixel 20 = .ok (.return_, 1) := by decide +kernel
theorem dX8_requireBlock_0 : decode cX8_requireBlock 0 = .ok (.iload_n 0, 1) := by decide +kernel
theorem dX8_requireBlock_1 : decode cX8_requireBlock 1 = .ok (.ifCond .lt 8, 3) := by decide +kernel
theorem dX8_requireBlock_4 : decode cX8_requireBlock 4 = .ok (.iload_n 0, 1) := by decide +kernel
theorem dX8_requireBlock_5 : decode cX8_requireBlock 5 = .ok (.iconst 4, 1) := by decide +kernel
theorem dX8_requireBlock_6 : decode cX8_requireBlock 6 = .ok (.if_icmp .lt 13, 3) := by decide +kernel
theorem dX8_requireBlock_9 : decode cX8_requireBlock 9 = .ok (.new 127, 3) := by decide +kernel
theorem dX8_requireBlock_12 : decode cX8_requireBlock 12 = .ok (.dup, 1) := by decide +kernel
theorem dX8_requireBlock_13 : decode cX8_requireBlock 13 = .ok (.ldc 246, 2) := by decide +kernel
theorem dX8_requireBlock_15 : decode cX8_requireBlock 15 = .ok (.invokespecial 131, 3) := by decide +kernel
theorem dX8_requireBlock_18 : decode cX8_requireBlock 18 = .ok (.athrow, 1) := by decide +kernel
theorem dX8_requireBlock_19 : decode cX8_requireBlock 19 = .ok (.return_, 1) := by decide +kernel
theorem dX8_requireWithin_0 : decode cX8_requireWithin 0 = .ok (.iload_n 0, 1) := by decide +kernel
theorem dX8_requireWithin_1 : decode cX8_requireWithin 1 = .ok (.iload_n 1, 1) := by decide +kernel
theorem dX8_requireWithin_2 : decode cX8_requireWithin 2 = .ok (.if_icmp .lt 8, 3) := by decide +kernel
theorem dX8_requireWithin_5 : decode cX8_requireWithin 5 = .ok (.iload_n 0, 1) := by decide +kernel
theorem dX8_requireWithin_6 : decode cX8_requireWithin 6 = .ok (.iload_n 2, 1) := by decide +kernel
theorem dX8_requireWithin_7 : decode cX8_requireWithin 7 = .ok (.if_icmp .le 13, 3) := by decide +kernel
theorem dX8_requireWithin_10 : decode cX8_requireWithin 10 = .ok (.new 194, 3) := by decide +kernel
theorem dX8_requireWithin_13 : decode cX8_requireWithin 13 = .ok (.dup, 1) := by decide +kernel
theorem dX8_requireWithin_14 : decode cX8_requireWithin 14 = .ok (.ldc 250, 2) := by decide +kernel
theorem dX8_requireWithin_16 : decode cX8_requireWithin 16 = .ok (.invokespecial 198, 3) := by decide +kernel
theorem dX8_requireWithin_19 : decode cX8_requireWithin 19 = .ok (.athrow, 1) := by decide +kernel
theorem dX8_requireWithin_20 : decode cX8_requireWithin 20 = .ok (.return_, 1) := by decide +kernel
theorem dX8_maySend_0 : decode cX8_maySend 0 = .ok (.aload_n 0, 1) := by decide +kernel
theorem dX8_maySend_1 : decode cX8_maySend 1 = .ok (.getfield 12, 3) := by decide +kernel
theorem dX8_maySend_4 : decode cX8_maySend 4 = .ok (.getfield 174, 3) := by decide +kernel
theorem dX8_maySend_7 : decode cX8_maySend 7 = .ok (.sipush 999, 3) := by decide +kernel
theorem dX8_maySend_10 : decode cX8_maySend 10 = .ok (.if_icmp .ge 7, 3) := by decide +kernel
theorem dX8_maySend_13 : decode cX8_maySend 13 = .ok (.iconst 1, 1) := by decide +kernel
theorem dX8_maySend_14 : decode cX8_maySend 14 = .ok (.goto 4, 3) := by decide +kernel
theorem dX8_maySend_17 : decode cX8_maySend 17 = .ok (.iconst 0, 1) := by decide +kernel
theorem dX8_maySend_18 : decode cX8_maySend 18 = .ok (.ireturn, 1) := by decide +kernel
set_option maxRecDepth 20000 in
theorem ggX8_scrollDrawn_X4_copyFrom : GoodIn wsX8_scrollDrawn wsX4_copyFrom := goodIn_r _ [6, 7, 8, 9, 10, 11, 41] (by decide +kernel) (by decide +kernel)
set_option maxRecDepth 20000 in
theorem gX8_scrollDrawn_X4_copyFrom_n252 : GoodIn wsX8_scrollDrawn (wsX4_copyFrom) := ggX8_scrollDrawn_X4_copyFrom
set_option maxRecDepth 20000 in
theorem ggX8_scrollDrawn_X4_takeMoved : GoodIn wsX8_scrollDrawn wsX4_takeMoved := goodIn_r _ [14, 15, 16, 17, 4, 18, 7, 19, 20, 21, 22, 41] (by decide +kernel) (by decide +kernel)
set_option maxRecDepth 20000 in
theorem gX8_scrollDrawn_X4_takeMoved_n255 : GoodIn wsX8_scrollDrawn (wsX4_takeMoved) := ggX8_scrollDrawn_X4_takeMoved
theorem dX8_scrollDrawn_0 : decode cX8_scrollDrawn 0 = .ok (.aload_n 0, 1) := by decide +kernel
theorem dX8_scrollDrawn_1 : decode cX8_scrollDrawn 1 = .ok (.getfield 33, 3) := by decide +kernel
theorem dX8_scrollDrawn_4 : decode cX8_scrollDrawn 4 = .ok (.aload_n 0, 1) := by decide +kernel
theorem dX8_scrollDrawn_5 : decode cX8_scrollDrawn 5 = .ok (.getfield 12, 3) := by decide +kernel
theorem dX8_scrollDrawn_8 : decode cX8_scrollDrawn 8 = .ok (.getfield 73, 3) := by decide +kernel
theorem dX8_scrollDrawn_11 : decode cX8_scrollDrawn 11 = .ok (.invokevirtual 252, 3) := by decide +kernel
theorem dX8_scrollDrawn_14 : decode cX8_scrollDrawn 14 = .ok (.aload_n 0, 1) := by decide +kernel
theorem dX8_scrollDrawn_15 : decode cX8_scrollDrawn 15 = .ok (.getfield 12, 3) := by decide +kernel
theorem dX8_scrollDrawn_18 : decode cX8_scrollDrawn 18 = .ok (.getfield 73, 3) := by decide +kernel
theorem dX8_scrollDrawn_21 : decode cX8_scrollDrawn 21 = .ok (.aload_n 0, 1) := by decide +kernel
theorem dX8_scrollDrawn_22 : decode cX8_scrollDrawn 22 = .ok (.getfield 33, 3) := by decide +kernel
theorem dX8_scrollDrawn_25 : decode cX8_scrollDrawn 25 = .ok (.iload_n 1, 1) := by decide +kernel
theorem dX8_scrollDrawn_26 : decode cX8_scrollDrawn 26 = .ok (.iload_n 2, 1) := by decide +kernel
theorem dX8_scrollDrawn_27 : decode cX8_scrollDrawn 27 = .ok (.invokevirtual 255, 3) := by decide +kernel
theorem dX8_scrollDrawn_30 : decode cX8_scrollDrawn 30 = .ok (.ireturn, 1) := by decide +kernel
set_option maxRecDepth 20000 in
theorem ggX8_sendDrawn_X5_foreseePicture : GoodIn wsX8_sendDrawn wsX5_foreseePicture := goodIn_r _ [6, 7, 8, 9, 10, 11, 12, 13, 14, 15, 16, 4, 17, 18, 19, 20, 21, 22, 23, 24, 25, 26, 27, 28, 29, 30, 31, 32, 33, 34, 35, 36, 37, 38, 39, 40, 41, 42, 43, 44, 45, 46, 47, 48, 49, 50, 51, 52, 53, 54, 55, 56, 57, 58, 59, 60, 61, 62, 63, 64, 65, 66, 67, 68, 69, 70, 71, 72, 129, 130, 131, 132, 133, 134, 119, 120, 121, 122, 123, 124, 125, 126, 127, 128, 135] (by decide +kernel) (by decide +kernel)
set_option maxRecDepth 20000 in
theorem gX8_sendDrawn_X5_foreseePicture_n165 : GoodIn wsX8_sendDrawn (wsX5_foreseePicture) := ggX8_sendDrawn_X5_foreseePicture
set_option maxRecDepth 20000 in
theorem ggX8_sendDrawn_X8_receivePicture : GoodIn wsX8_sendDrawn wsX8_receivePicture := goodIn_r _ [76, 77, 2, 78, 38, 79, 80, 41, 81, 82, 83, 84, 85, 86, 87, 31, 88, 1, 89, 90, 28, 91, 92, 93, 94, 95, 4, 96, 97, 18, 98, 99, 100, 52, 101, 35, 36, 37, 39, 40, 55, 56, 57, 102, 30, 32, 103, 33, 34, 42, 43, 44, 104, 105, 106, 19, 66, 67, 68, 69, 54, 111, 112, 113, 114, 115, 116, 117, 118, 119, 120, 121, 122, 123, 124, 125, 126, 127, 128, 135, 129, 130, 131, 132, 133, 134] (by decide +kernel) (by decide +kernel)
set_option maxRecDepth 20000 in
theorem gX8_sendDrawn_X8_receivePicture : GoodIn wsX8_sendDrawn (wsV RX8 259 RX8 yX8_receivePicture wsX8_receivePicture) := goodIn_app (goodIn_of _ (by decide +kernel)) ggX8_sendDrawn_X8_receivePicture
set_option maxRecDepth 20000 in
theorem ggX8_sendDrawn_X8_sendBlock : GoodIn wsX8_sendDrawn wsX8_sendBlock := goodIn_r _ [110, 1, 2, 95, 4, 96, 97, 18, 101, 35, 31, 36, 37, 38, 39, 40, 41, 104, 105, 106, 19, 66, 67, 68, 69, 54, 55, 56, 57, 111, 112, 113, 114, 115, 116, 117, 118, 119, 120, 121, 122, 123, 124, 125, 126, 127, 128, 129, 130, 131, 132, 133, 134, 135] (by decide +kernel) (by decide +kernel)
set_option maxRecDepth 20000 in
theorem gX8_sendDrawn_X8_sendBlock : GoodIn wsX8_sendDrawn (wsV RX8 262 RX8 yX8_sendBlock wsX8_sendBlock) := goodIn_app (goodIn_of _ (by decide +kernel)) ggX8_sendDrawn_X8_sendBlock
set_option maxRecDepth 20000 in
theorem ggX8_sendDrawn_X5_kindOf : GoodIn wsX8_sendDrawn wsX5_kindOf := goodIn_r _ [97, 18, 129, 130, 131, 132, 133, 134] (by decide +kernel) (by decide +kernel)
set_option maxRecDepth 20000 in
theorem gX8_sendDrawn_X5_kindOf_n158 : GoodIn wsX8_sendDrawn (wsX5_kindOf) := ggX8_sendDrawn_X5_kindOf
set_option maxRecDepth 20000 in
theorem ggX8_sendDrawn_X5_moveOf : GoodIn wsX8_sendDrawn wsX5_moveOf := goodIn_r _ [100, 52, 129, 130, 131, 132, 133, 134] (by decide +kernel) (by decide +kernel)
set_option maxRecDepth 20000 in
theorem gX8_sendDrawn_X5_moveOf_n265 : GoodIn wsX8_sendDrawn (wsX5_moveOf) := ggX8_sendDrawn_X5_moveOf
theorem dX8_sendDrawn_0 : decode cX8_sendDrawn 0 = .ok (.aload_n 0, 1) := by decide +kernel
theorem dX8_sendDrawn_1 : decode cX8_sendDrawn 1 = .ok (.getfield 19, 3) := by decide +kernel
theorem dX8_sendDrawn_4 : decode cX8_sendDrawn 4 = .ok (.aload_n 0, 1) := by decide +kernel
theorem dX8_sendDrawn_5 : decode cX8_sendDrawn 5 = .ok (.getfield 12, 3) := by decide +kernel
theorem dX8_sendDrawn_8 : decode cX8_sendDrawn 8 = .ok (.invokevirtual 165, 3) := by decide +kernel
theorem dX8_sendDrawn_11 : decode cX8_sendDrawn 11 = .ok (.iload_n 1, 1) := by decide +kernel
theorem dX8_sendDrawn_12 : decode cX8_sendDrawn 12 = .ok (.ifCond .eq 19, 3) := by decide +kernel
theorem dX8_sendDrawn_15 : decode cX8_sendDrawn 15 = .ok (.aload_n 0, 1) := by decide +kernel
theorem dX8_sendDrawn_16 : decode cX8_sendDrawn 16 = .ok (.getfield 12, 3) := by decide +kernel
theorem dX8_sendDrawn_19 : decode cX8_sendDrawn 19 = .ok (.dup, 1) := by decide +kernel
theorem dX8_sendDrawn_20 : decode cX8_sendDrawn 20 = .ok (.getfield 177, 3) := by decide +kernel
theorem dX8_sendDrawn_23 : decode cX8_sendDrawn 23 = .ok (.iconst 1, 1) := by decide +kernel
theorem dX8_sendDrawn_24 : decode cX8_sendDrawn 24 = .ok (.iadd, 1) := by decide +kernel
theorem dX8_sendDrawn_25 : decode cX8_sendDrawn 25 = .ok (.putfield 177, 3) := by decide +kernel
theorem dX8_sendDrawn_28 : decode cX8_sendDrawn 28 = .ok (.goto 7, 3) := by decide +kernel
theorem dX8_sendDrawn_31 : decode cX8_sendDrawn 31 = .ok (.aload_n 0, 1) := by decide +kernel
theorem dX8_sendDrawn_32 : decode cX8_sendDrawn 32 = .ok (.invokevirtual 259, 3) := by decide +kernel
theorem dX8_sendDrawn_35 : decode cX8_sendDrawn 35 = .ok (.iconst 0, 1) := by decide +kernel
theorem dX8_sendDrawn_36 : decode cX8_sendDrawn 36 = .ok (.istore_n 2, 1) := by decide +kernel
theorem dX8_sendDrawn_37 : decode cX8_sendDrawn 37 = .ok (.iload_n 2, 1) := by decide +kernel
theorem dX8_sendDrawn_38 : decode cX8_sendDrawn 38 = .ok (.iconst 4, 1) := by decide +kernel
theorem dX8_sendDrawn_39 : decode cX8_sendDrawn 39 = .ok (.if_icmp .ge 48, 3) := by decide +kernel
theorem dX8_sendDrawn_42 : decode cX8_sendDrawn 42 = .ok (.aload_n 0, 1) := by decide +kernel
theorem dX8_sendDrawn_43 : decode cX8_sendDrawn 43 = .ok (.iload_n 2, 1) := by decide +kernel
theorem dX8_sendDrawn_44 : decode cX8_sendDrawn 44 = .ok (.invokevirtual 262, 3) := by decide +kernel
theorem dX8_sendDrawn_47 : decode cX8_sendDrawn 47 = .ok (.aload_n 0, 1) := by decide +kernel
theorem dX8_sendDrawn_48 : decode cX8_sendDrawn 48 = .ok (.getfield 12, 3) := by decide +kernel
theorem dX8_sendDrawn_51 : decode cX8_sendDrawn 51 = .ok (.getfield 183, 3) := by decide +kernel
theorem dX8_sendDrawn_54 : decode cX8_sendDrawn 54 = .ok (.iload_n 2, 1) := by decide +kernel
theorem dX8_sendDrawn_55 : decode cX8_sendDrawn 55 = .ok (.aload_n 0, 1) := by decide +kernel
theorem dX8_sendDrawn_56 : decode cX8_sendDrawn 56 = .ok (.getfield 19, 3) := by decide +kernel
theorem dX8_sendDrawn_59 : decode cX8_sendDrawn 59 = .ok (.iload_n 2, 1) := by decide +kernel
theorem dX8_sendDrawn_60 : decode cX8_sendDrawn 60 = .ok (.invokevirtual 158, 3) := by decide +kernel
theorem dX8_sendDrawn_63 : decode cX8_sendDrawn 63 = .ok (.iastore, 1) := by decide +kernel
theorem dX8_sendDrawn_64 : decode cX8_sendDrawn 64 = .ok (.aload_n 0, 1) := by decide +kernel
theorem dX8_sendDrawn_65 : decode cX8_sendDrawn 65 = .ok (.getfield 12, 3) := by decide +kernel
theorem dX8_sendDrawn_68 : decode cX8_sendDrawn 68 = .ok (.getfield 187, 3) := by decide +kernel
theorem dX8_sendDrawn_71 : decode cX8_sendDrawn 71 = .ok (.iload_n 2, 1) := by decide +kernel
theorem dX8_sendDrawn_72 : decode cX8_sendDrawn 72 = .ok (.aload_n 0, 1) := by decide +kernel
theorem dX8_sendDrawn_73 : decode cX8_sendDrawn 73 = .ok (.getfield 19, 3) := by decide +kernel
theorem dX8_sendDrawn_76 : decode cX8_sendDrawn 76 = .ok (.iload_n 2, 1) := by decide +kernel
theorem dX8_sendDrawn_77 : decode cX8_sendDrawn 77 = .ok (.invokevirtual 265, 3) := by decide +kernel
theorem dX8_sendDrawn_80 : decode cX8_sendDrawn 80 = .ok (.iastore, 1) := by decide +kernel
theorem dX8_sendDrawn_81 : decode cX8_sendDrawn 81 = .ok (.iinc 2 1, 3) := by decide +kernel
theorem dX8_sendDrawn_84 : decode cX8_sendDrawn 84 = .ok (.goto (-47), 3) := by decide +kernel
theorem dX8_sendDrawn_87 : decode cX8_sendDrawn 87 = .ok (.aload_n 0, 1) := by decide +kernel
theorem dX8_sendDrawn_88 : decode cX8_sendDrawn 88 = .ok (.getfield 12, 3) := by decide +kernel
theorem dX8_sendDrawn_91 : decode cX8_sendDrawn 91 = .ok (.dup, 1) := by decide +kernel
theorem dX8_sendDrawn_92 : decode cX8_sendDrawn 92 = .ok (.getfield 174, 3) := by decide +kernel
theorem dX8_sendDrawn_95 : decode cX8_sendDrawn 95 = .ok (.iconst 1, 1) := by decide +kernel
theorem dX8_sendDrawn_96 : decode cX8_sendDrawn 96 = .ok (.iadd, 1) := by decide +kernel
theorem dX8_sendDrawn_97 : decode cX8_sendDrawn 97 = .ok (.putfield 174, 3) := by decide +kernel
theorem dX8_sendDrawn_100 : decode cX8_sendDrawn 100 = .ok (.aload_n 0, 1) := by decide +kernel
theorem dX8_sendDrawn_101 : decode cX8_sendDrawn 101 = .ok (.getfield 12, 3) := by decide +kernel
theorem dX8_sendDrawn_104 : decode cX8_sendDrawn 104 = .ok (.dup, 1) := by decide +kernel
theorem dX8_sendDrawn_105 : decode cX8_sendDrawn 105 = .ok (.getfield 180, 3) := by decide +kernel
theorem dX8_sendDrawn_108 : decode cX8_sendDrawn 108 = .ok (.aload_n 0, 1) := by decide +kernel
theorem dX8_sendDrawn_109 : decode cX8_sendDrawn 109 = .ok (.getfield 19, 3) := by decide +kernel
theorem dX8_sendDrawn_112 : decode cX8_sendDrawn 112 = .ok (.getfield 171, 3) := by decide +kernel
theorem dX8_sendDrawn_115 : decode cX8_sendDrawn 115 = .ok (.iadd, 1) := by decide +kernel
theorem dX8_sendDrawn_116 : decode cX8_sendDrawn 116 = .ok (.putfield 180, 3) := by decide +kernel
theorem dX8_sendDrawn_119 : decode cX8_sendDrawn 119 = .ok (.aload_n 0, 1) := by decide +kernel
theorem dX8_sendDrawn_120 : decode cX8_sendDrawn 120 = .ok (.getfield 19, 3) := by decide +kernel
theorem dX8_sendDrawn_123 : decode cX8_sendDrawn 123 = .ok (.getfield 171, 3) := by decide +kernel
theorem dX8_sendDrawn_126 : decode cX8_sendDrawn 126 = .ok (.ireturn, 1) := by decide +kernel
set_option maxRecDepth 20000 in
theorem ggX8_sendBlock_X5_kindOf : GoodIn wsX8_sendBlock wsX5_kindOf := goodIn_r _ [6, 7, 47, 48, 49, 50, 51, 52] (by decide +kernel) (by decide +kernel)
set_option maxRecDepth 20000 in
theorem gX8_sendBlock_X5_kindOf_n158 : GoodIn wsX8_sendBlock (wsX5_kindOf) := ggX8_sendBlock_X5_kindOf
set_option maxRecDepth 20000 in
theorem ggX8_sendBlock_X8_pixelIn : GoodIn wsX8_sendBlock wsX8_pixelIn := goodIn_r _ [11] (by decide +kernel) (by decide +kernel)
set_option maxRecDepth 20000 in
theorem gX8_sendBlock_X8_pixelIn : GoodIn wsX8_sendBlock (va_wsS RX8 268 yX8_pixelIn wsX8_pixelIn) := goodIn_app (goodIn_of _ (by decide +kernel)) ggX8_sendBlock_X8_pixelIn
set_option maxRecDepth 20000 in
theorem ggX8_sendBlock_X4_valueAt : GoodIn wsX8_sendBlock wsX4_valueAt := goodIn_r _ [15, 16, 53] (by decide +kernel) (by decide +kernel)
set_option maxRecDepth 20000 in
theorem gX8_sendBlock_X4_valueAt_n109 : GoodIn wsX8_sendBlock (wsX4_valueAt) := ggX8_sendBlock_X4_valueAt
set_option maxRecDepth 20000 in
theorem ggX8_sendBlock_X5_additionAt : GoodIn wsX8_sendBlock wsX5_additionAt := goodIn_r _ [19, 20, 21, 22, 23, 4, 24, 25, 47, 48, 49, 50, 51, 52] (by decide +kernel) (by decide +kernel)
set_option maxRecDepth 20000 in
theorem gX8_sendBlock_X5_additionAt_n274 : GoodIn wsX8_sendBlock (wsX5_additionAt) := ggX8_sendBlock_X5_additionAt
set_option maxRecDepth 20000 in
theorem ggX8_sendBlock_X4_put : GoodIn wsX8_sendBlock wsX4_put := goodIn_r _ [28, 16, 53] (by decide +kernel) (by decide +kernel)
set_option maxRecDepth 20000 in
theorem gX8_sendBlock_X4_put_n76 : GoodIn wsX8_sendBlock (wsX4_put) := ggX8_sendBlock_X4_put
theorem dX8_sendBlock_0 : decode cX8_sendBlock 0 = .ok (.aload_n 0, 1) := by decide +kernel
theorem dX8_sendBlock_1 : decode cX8_sendBlock 1 = .ok (.getfield 19, 3) := by decide +kernel
theorem dX8_sendBlock_4 : decode cX8_sendBlock 4 = .ok (.iload_n 1, 1) := by decide +kernel
theorem dX8_sendBlock_5 : decode cX8_sendBlock 5 = .ok (.invokevirtual 158, 3) := by decide +kernel
theorem dX8_sendBlock_8 : decode cX8_sendBlock 8 = .ok (.istore_n 2, 1) := by decide +kernel
theorem dX8_sendBlock_9 : decode cX8_sendBlock 9 = .ok (.iconst 0, 1) := by decide +kernel
theorem dX8_sendBlock_10 : decode cX8_sendBlock 10 = .ok (.istore_n 3, 1) := by decide +kernel
theorem dX8_sendBlock_11 : decode cX8_sendBlock 11 = .ok (.iload_n 3, 1) := by decide +kernel
theorem dX8_sendBlock_12 : decode cX8_sendBlock 12 = .ok (.bipush 16, 2) := by decide +kernel
theorem dX8_sendBlock_14 : decode cX8_sendBlock 14 = .ok (.if_icmp .ge 70, 3) := by decide +kernel
theorem dX8_sendBlock_17 : decode cX8_sendBlock 17 = .ok (.iload_n 1, 1) := by decide +kernel
theorem dX8_sendBlock_18 : decode cX8_sendBlock 18 = .ok (.iload_n 3, 1) := by decide +kernel
theorem dX8_sendBlock_19 : decode cX8_sendBlock 19 = .ok (.invokestatic 268, 3) := by decide +kernel
theorem dX8_sendBlock_22 : decode cX8_sendBlock 22 = .ok (.istore 4, 2) := by decide +kernel
theorem dX8_sendBlock_24 : decode cX8_sendBlock 24 = .ok (.aload_n 0, 1) := by decide +kernel
theorem dX8_sendBlock_25 : decode cX8_sendBlock 25 = .ok (.getfield 12, 3) := by decide +kernel
theorem dX8_sendBlock_28 : decode cX8_sendBlock 28 = .ok (.getfield 113, 3) := by decide +kernel
theorem dX8_sendBlock_31 : decode cX8_sendBlock 31 = .ok (.iload 4, 2) := by decide +kernel
theorem dX8_sendBlock_33 : decode cX8_sendBlock 33 = .ok (.iload_n 2, 1) := by decide +kernel
theorem dX8_sendBlock_34 : decode cX8_sendBlock 34 = .ok (.ifCond .ne 18, 3) := by decide +kernel
theorem dX8_sendBlock_37 : decode cX8_sendBlock 37 = .ok (.aload_n 0, 1) := by decide +kernel
theorem dX8_sendBlock_38 : decode cX8_sendBlock 38 = .ok (.getfield 12, 3) := by decide +kernel
theorem dX8_sendBlock_41 : decode cX8_sendBlock 41 = .ok (.getfield 73, 3) := by decide +kernel
theorem dX8_sendBlock_44 : decode cX8_sendBlock 44 = .ok (.iload 4, 2) := by decide +kernel
theorem dX8_sendBlock_46 : decode cX8_sendBlock 46 = .ok (.invokevirtual 109, 3) := by decide +kernel
theorem dX8_sendBlock_49 : decode cX8_sendBlock 49 = .ok (.goto 25, 3) := by decide +kernel
theorem dX8_sendBlock_52 : decode cX8_sendBlock 52 = .ok (.aload_n 0, 1) := by decide +kernel
theorem dX8_sendBlock_53 : decode cX8_sendBlock 53 = .ok (.getfield 19, 3) := by decide +kernel
theorem dX8_sendBlock_56 : decode cX8_sendBlock 56 = .ok (.getfield 271, 3) := by decide +kernel
theorem dX8_sendBlock_59 : decode cX8_sendBlock 59 = .ok (.iload 4, 2) := by decide +kernel
theorem dX8_sendBlock_61 : decode cX8_sendBlock 61 = .ok (.invokevirtual 109, 3) := by decide +kernel
theorem dX8_sendBlock_64 : decode cX8_sendBlock 64 = .ok (.aload_n 0, 1) := by decide +kernel
theorem dX8_sendBlock_65 : decode cX8_sendBlock 65 = .ok (.getfield 19, 3) := by decide +kernel
theorem dX8_sendBlock_68 : decode cX8_sendBlock 68 = .ok (.iload 4, 2) := by decide +kernel
theorem dX8_sendBlock_70 : decode cX8_sendBlock 70 = .ok (.invokevirtual 274, 3) := by decide +kernel
theorem dX8_sendBlock_73 : decode cX8_sendBlock 73 = .ok (.iadd, 1) := by decide +kernel
theorem dX8_sendBlock_74 : decode cX8_sendBlock 74 = .ok (.invokevirtual 76, 3) := by decide +kernel
theorem dX8_sendBlock_77 : decode cX8_sendBlock 77 = .ok (.pop, 1) := by decide +kernel
theorem dX8_sendBlock_78 : decode cX8_sendBlock 78 = .ok (.iinc 3 1, 3) := by decide +kernel
theorem dX8_sendBlock_81 : decode cX8_sendBlock 81 = .ok (.goto (-70), 3) := by decide +kernel
theorem dX8_sendBlock_84 : decode cX8_sendBlock 84 = .ok (.return_, 1) := by decide +kernel
set_option maxRecDepth 20000 in
theorem ggX8_receivePicture_X4_copyFrom : GoodIn wsX8_receivePicture wsX4_copyFrom := goodIn_r _ [6, 7, 8, 9, 10, 11, 79] (by decide +kernel) (by decide +kernel)
set_option maxRecDepth 20000 in
theorem gX8_receivePicture_X4_copyFrom_n252 : GoodIn wsX8_receivePicture (wsX4_copyFrom) := ggX8_receivePicture_X4_copyFrom
set_option maxRecDepth 20000 in
theorem ggX8_receivePicture_X8_receiveBlock : GoodIn wsX8_receivePicture wsX8_receiveBlock := goodIn_r _ [16, 17, 2, 1, 18, 19, 20, 21, 22, 23, 24, 25, 26, 27, 28, 29, 30, 31, 32, 33, 34, 35, 15, 36, 37, 4, 38, 39, 7, 40, 41, 42, 43, 44, 45, 46, 47, 48, 49, 50, 51, 52, 53, 54, 55, 56, 57, 58, 59, 60, 61, 62, 63, 64, 65, 66, 67, 68, 69, 70, 71, 72, 73, 74, 75, 76, 77, 78, 80, 81, 82, 83, 84, 85, 79] (by decide +kernel) (by decide +kernel)
set_option maxRecDepth 20000 in
theorem gX8_receivePicture_X8_receiveBlock : GoodIn wsX8_receivePicture (wsV RX8 277 RX8 yX8_receiveBlock wsX8_receiveBlock) := goodIn_app (goodIn_of _ (by decide +kernel)) ggX8_receivePicture_X8_receiveBlock
theorem dX8_receivePicture_0 : decode cX8_receivePicture 0 = .ok (.aload_n 0, 1) := by decide +kernel
theorem dX8_receivePicture_1 : decode cX8_receivePicture 1 = .ok (.getfield 33, 3) := by decide +kernel
theorem dX8_receivePicture_4 : decode cX8_receivePicture 4 = .ok (.aload_n 0, 1) := by decide +kernel
theorem dX8_receivePicture_5 : decode cX8_receivePicture 5 = .ok (.getfield 12, 3) := by decide +kernel
theorem dX8_receivePicture_8 : decode cX8_receivePicture 8 = .ok (.getfield 116, 3) := by decide +kernel
theorem dX8_receivePicture_11 : decode cX8_receivePicture 11 = .ok (.invokevirtual 252, 3) := by decide +kernel
theorem dX8_receivePicture_14 : decode cX8_receivePicture 14 = .ok (.iconst 0, 1) := by decide +kernel
theorem dX8_receivePicture_15 : decode cX8_receivePicture 15 = .ok (.istore_n 1, 1) := by decide +kernel
theorem dX8_receivePicture_16 : decode cX8_receivePicture 16 = .ok (.iload_n 1, 1) := by decide +kernel
theorem dX8_receivePicture_17 : decode cX8_receivePicture 17 = .ok (.iconst 4, 1) := by decide +kernel
theorem dX8_receivePicture_18 : decode cX8_receivePicture 18 = .ok (.if_icmp .ge 14, 3) := by decide +kernel
theorem dX8_receivePicture_21 : decode cX8_receivePicture 21 = .ok (.aload_n 0, 1) := by decide +kernel
theorem dX8_receivePicture_22 : decode cX8_receivePicture 22 = .ok (.iload_n 1, 1) := by decide +kernel
theorem dX8_receivePicture_23 : decode cX8_receivePicture 23 = .ok (.invokevirtual 277, 3) := by decide +kernel
theorem dX8_receivePicture_26 : decode cX8_receivePicture 26 = .ok (.iinc 1 1, 3) := by decide +kernel
theorem dX8_receivePicture_29 : decode cX8_receivePicture 29 = .ok (.goto (-13), 3) := by decide +kernel
theorem dX8_receivePicture_32 : decode cX8_receivePicture 32 = .ok (.return_, 1) := by decide +kernel
set_option maxRecDepth 20000 in
theorem ggX8_receiveBlock_X5_kindOf : GoodIn wsX8_receiveBlock wsX5_kindOf := goodIn_r _ [14, 15, 68, 69, 70, 71, 72, 73] (by decide +kernel) (by decide +kernel)
set_option maxRecDepth 20000 in
theorem gX8_receiveBlock_X5_kindOf_n158 : GoodIn wsX8_receiveBlock (wsX5_kindOf) := ggX8_receiveBlock_X5_kindOf
set_option maxRecDepth 20000 in
theorem ggX8_receiveBlock_X5_moveOf : GoodIn wsX8_receiveBlock wsX5_moveOf := goodIn_r _ [18, 19, 68, 69, 70, 71, 72, 73] (by decide +kernel) (by decide +kernel)
set_option maxRecDepth 20000 in
theorem gX8_receiveBlock_X5_moveOf_n265 : GoodIn wsX8_receiveBlock (wsX5_moveOf) := ggX8_receiveBlock_X5_moveOf
set_option maxRecDepth 20000 in
theorem ggX8_receiveBlock_X8_pixelIn : GoodIn wsX8_receiveBlock wsX8_pixelIn := goodIn_r _ [23] (by decide +kernel) (by decide +kernel)
set_option maxRecDepth 20000 in
theorem gX8_receiveBlock_X8_pixelIn : GoodIn wsX8_receiveBlock (va_wsS RX8 268 yX8_pixelIn wsX8_pixelIn) := goodIn_app (goodIn_of _ (by decide +kernel)) ggX8_receiveBlock_X8_pixelIn
set_option maxRecDepth 20000 in
theorem ggX8_receiveBlock_X4_valueAt : GoodIn wsX8_receiveBlock wsX4_valueAt := goodIn_r _ [27, 28, 74] (by decide +kernel) (by decide +kernel)
set_option maxRecDepth 20000 in
theorem gX8_receiveBlock_X4_valueAt_n109 : GoodIn wsX8_receiveBlock (wsX4_valueAt) := ggX8_receiveBlock_X4_valueAt
set_option maxRecDepth 20000 in
theorem ggX8_receiveBlock_X4_put : GoodIn wsX8_receiveBlock wsX4_put := goodIn_r _ [31, 28, 74] (by decide +kernel) (by decide +kernel)
set_option maxRecDepth 20000 in
theorem gX8_receiveBlock_X4_put_n76 : GoodIn wsX8_receiveBlock (wsX4_put) := ggX8_receiveBlock_X4_put
set_option maxRecDepth 20000 in
theorem ggX8_receiveBlock_X8_downOf : GoodIn wsX8_receiveBlock wsX8_downOf := goodIn_r _ [34] (by decide +kernel) (by decide +kernel)
set_option maxRecDepth 20000 in
theorem gX8_receiveBlock_X8_downOf : GoodIn wsX8_receiveBlock (va_wsS RX8 280 yX8_downOf wsX8_downOf) := goodIn_app (goodIn_of _ (by decide +kernel)) ggX8_receiveBlock_X8_downOf
set_option maxRecDepth 20000 in
theorem ggX8_receiveBlock_X8_rightOf : GoodIn wsX8_receiveBlock wsX8_rightOf := goodIn_r _ [37] (by decide +kernel) (by decide +kernel)
set_option maxRecDepth 20000 in
theorem gX8_receiveBlock_X8_rightOf : GoodIn wsX8_receiveBlock (va_wsS RX8 283 yX8_rightOf wsX8_rightOf) := goodIn_app (goodIn_of _ (by decide +kernel)) ggX8_receiveBlock_X8_rightOf
set_option maxRecDepth 20000 in
theorem ggX8_receiveBlock_X4_movedValueAt : GoodIn wsX8_receiveBlock wsX4_movedValueAt := goodIn_r _ [40, 28, 74] (by decide +kernel) (by decide +kernel)
set_option maxRecDepth 20000 in
theorem gX8_receiveBlock_X4_movedValueAt_n286 : GoodIn wsX8_receiveBlock (wsX4_movedValueAt) := ggX8_receiveBlock_X4_movedValueAt
set_option maxRecDepth 20000 in
theorem ggX8_receiveBlock_X5_additionAt : GoodIn wsX8_receiveBlock wsX5_additionAt := goodIn_r _ [43, 44, 45, 46, 47, 12, 48, 49, 68, 69, 70, 71, 72, 73] (by decide +kernel) (by decide +kernel)
set_option maxRecDepth 20000 in
theorem gX8_receiveBlock_X5_additionAt_n274 : GoodIn wsX8_receiveBlock (wsX5_additionAt) := ggX8_receiveBlock_X5_additionAt
theorem dX8_receiveBlock_0 : decode cX8_receiveBlock 0 = .ok (.aload_n 0, 1) := by decide +kernel
theorem dX8_receiveBlock_1 : decode cX8_receiveBlock 1 = .ok (.getfield 19, 3) := by decide +kernel
theorem dX8_receiveBlock_4 : decode cX8_receiveBlock 4 = .ok (.iload_n 1, 1) := by decide +kernel
theorem dX8_receiveBlock_5 : decode cX8_receiveBlock 5 = .ok (.invokevirtual 158, 3) := by decide +kernel
theorem dX8_receiveBlock_8 : decode cX8_receiveBlock 8 = .ok (.istore_n 2, 1) := by decide +kernel
theorem dX8_receiveBlock_9 : decode cX8_receiveBlock 9 = .ok (.aload_n 0, 1) := by decide +kernel
theorem dX8_receiveBlock_10 : decode cX8_receiveBlock 10 = .ok (.getfield 19, 3) := by decide +kernel
theorem dX8_receiveBlock_13 : decode cX8_receiveBlock 13 = .ok (.iload_n 1, 1) := by decide +kernel
theorem dX8_receiveBlock_14 : decode cX8_receiveBlock 14 = .ok (.invokevirtual 265, 3) := by decide +kernel
theorem dX8_receiveBlock_17 : decode cX8_receiveBlock 17 = .ok (.istore_n 3, 1) := by decide +kernel
theorem dX8_receiveBlock_18 : decode cX8_receiveBlock 18 = .ok (.iconst 0, 1) := by decide +kernel
theorem dX8_receiveBlock_19 : decode cX8_receiveBlock 19 = .ok (.istore 4, 2) := by decide +kernel
theorem dX8_receiveBlock_21 : decode cX8_receiveBlock 21 = .ok (.iload 4, 2) := by decide +kernel
theorem dX8_receiveBlock_23 : decode cX8_receiveBlock 23 = .ok (.bipush 16, 2) := by decide +kernel
theorem dX8_receiveBlock_25 : decode cX8_receiveBlock 25 = .ok (.if_icmp .ge 102, 3) := by decide +kernel
theorem dX8_receiveBlock_28 : decode cX8_receiveBlock 28 = .ok (.iload_n 1, 1) := by decide +kernel
theorem dX8_receiveBlock_29 : decode cX8_receiveBlock 29 = .ok (.iload 4, 2) := by decide +kernel
theorem dX8_receiveBlock_31 : decode cX8_receiveBlock 31 = .ok (.invokestatic 268, 3) := by decide +kernel
theorem dX8_receiveBlock_34 : decode cX8_receiveBlock 34 = .ok (.istore 5, 2) := by decide +kernel
theorem dX8_receiveBlock_36 : decode cX8_receiveBlock 36 = .ok (.iload_n 2, 1) := by decide +kernel
theorem dX8_receiveBlock_37 : decode cX8_receiveBlock 37 = .ok (.ifCond .ne 31, 3) := by decide +kernel
theorem dX8_receiveBlock_40 : decode cX8_receiveBlock 40 = .ok (.aload_n 0, 1) := by decide +kernel
theorem dX8_receiveBlock_41 : decode cX8_receiveBlock 41 = .ok (.getfield 12, 3) := by decide +kernel
theorem dX8_receiveBlock_44 : decode cX8_receiveBlock 44 = .ok (.getfield 116, 3) := by decide +kernel
theorem dX8_receiveBlock_47 : decode cX8_receiveBlock 47 = .ok (.iload 5, 2) := by decide +kernel
theorem dX8_receiveBlock_49 : decode cX8_receiveBlock 49 = .ok (.aload_n 0, 1) := by decide +kernel
theorem dX8_receiveBlock_50 : decode cX8_receiveBlock 50 = .ok (.getfield 12, 3) := by decide +kernel
theorem dX8_receiveBlock_53 : decode cX8_receiveBlock 53 = .ok (.getfield 73, 3) := by decide +kernel
theorem dX8_receiveBlock_56 : decode cX8_receiveBlock 56 = .ok (.iload 5, 2) := by decide +kernel
theorem dX8_receiveBlock_58 : decode cX8_receiveBlock 58 = .ok (.invokevirtual 109, 3) := by decide +kernel
theorem dX8_receiveBlock_61 : decode cX8_receiveBlock 61 = .ok (.invokevirtual 76, 3) := by decide +kernel
theorem dX8_receiveBlock_64 : decode cX8_receiveBlock 64 = .ok (.pop, 1) := by decide +kernel
theorem dX8_receiveBlock_65 : decode cX8_receiveBlock 65 = .ok (.goto 56, 3) := by decide +kernel
theorem dX8_receiveBlock_68 : decode cX8_receiveBlock 68 = .ok (.aload_n 0, 1) := by decide +kernel
theorem dX8_receiveBlock_69 : decode cX8_receiveBlock 69 = .ok (.getfield 33, 3) := by decide +kernel
theorem dX8_receiveBlock_72 : decode cX8_receiveBlock 72 = .ok (.iload 5, 2) := by decide +kernel
theorem dX8_receiveBlock_74 : decode cX8_receiveBlock 74 = .ok (.iload_n 3, 1) := by decide +kernel
theorem dX8_receiveBlock_75 : decode cX8_receiveBlock 75 = .ok (.invokestatic 280, 3) := by decide +kernel
theorem dX8_receiveBlock_78 : decode cX8_receiveBlock 78 = .ok (.iload_n 3, 1) := by decide +kernel
theorem dX8_receiveBlock_79 : decode cX8_receiveBlock 79 = .ok (.invokestatic 283, 3) := by decide +kernel
theorem dX8_receiveBlock_82 : decode cX8_receiveBlock 82 = .ok (.invokevirtual 286, 3) := by decide +kernel
theorem dX8_receiveBlock_85 : decode cX8_receiveBlock 85 = .ok (.aload_n 0, 1) := by decide +kernel
theorem dX8_receiveBlock_86 : decode cX8_receiveBlock 86 = .ok (.getfield 19, 3) := by decide +kernel
theorem dX8_receiveBlock_89 : decode cX8_receiveBlock 89 = .ok (.iload 5, 2) := by decide +kernel
theorem dX8_receiveBlock_91 : decode cX8_receiveBlock 91 = .ok (.invokevirtual 274, 3) := by decide +kernel
theorem dX8_receiveBlock_94 : decode cX8_receiveBlock 94 = .ok (.iadd, 1) := by decide +kernel
theorem dX8_receiveBlock_95 : decode cX8_receiveBlock 95 = .ok (.istore 6, 2) := by decide +kernel
theorem dX8_receiveBlock_97 : decode cX8_receiveBlock 97 = .ok (.aload_n 0, 1) := by decide +kernel
theorem dX8_receiveBlock_98 : decode cX8_receiveBlock 98 = .ok (.getfield 12, 3) := by decide +kernel
theorem dX8_receiveBlock_101 : decode cX8_receiveBlock 101 = .ok (.getfield 116, 3) := by decide +kernel
theorem dX8_receiveBlock_104 : decode cX8_receiveBlock 104 = .ok (.iload 5, 2) := by decide +kernel
theorem dX8_receiveBlock_106 : decode cX8_receiveBlock 106 = .ok (.iconst 0, 1) := by decide +kernel
theorem dX8_receiveBlock_107 : decode cX8_receiveBlock 107 = .ok (.iload 6, 2) := by decide +kernel
theorem dX8_receiveBlock_109 : decode cX8_receiveBlock 109 = .ok (.bipush 15, 2) := by decide +kernel
theorem dX8_receiveBlock_111 : decode cX8_receiveBlock 111 = .ok (.invokestatic 290, 3) := by decide +kernel
theorem dX8_receiveBlock_114 : decode cX8_receiveBlock 114 = .ok (.invokestatic 293, 3) := by decide +kernel
theorem dX8_receiveBlock_117 : decode cX8_receiveBlock 117 = .ok (.invokevirtual 76, 3) := by decide +kernel
theorem dX8_receiveBlock_120 : decode cX8_receiveBlock 120 = .ok (.pop, 1) := by decide +kernel
theorem dX8_receiveBlock_121 : decode cX8_receiveBlock 121 = .ok (.iinc 4 1, 3) := by decide +kernel
theorem dX8_receiveBlock_124 : decode cX8_receiveBlock 124 = .ok (.goto (-103), 3) := by decide +kernel
theorem dX8_receiveBlock_127 : decode cX8_receiveBlock 127 = .ok (.return_, 1) := by decide +kernel
theorem dX8_pixelIn_0 : decode cX8_pixelIn 0 = .ok (.iconst 4, 1) := by decide +kernel
theorem dX8_pixelIn_1 : decode cX8_pixelIn 1 = .ok (.iload_n 0, 1) := by decide +kernel
theorem dX8_pixelIn_2 : decode cX8_pixelIn 2 = .ok (.iconst 2, 1) := by decide +kernel
theorem dX8_pixelIn_3 : decode cX8_pixelIn 3 = .ok (.idiv, 1) := by decide +kernel
theorem dX8_pixelIn_4 : decode cX8_pixelIn 4 = .ok (.imul, 1) := by decide +kernel
theorem dX8_pixelIn_5 : decode cX8_pixelIn 5 = .ok (.iload_n 1, 1) := by decide +kernel
theorem dX8_pixelIn_6 : decode cX8_pixelIn 6 = .ok (.iconst 4, 1) := by decide +kernel
theorem dX8_pixelIn_7 : decode cX8_pixelIn 7 = .ok (.idiv, 1) := by decide +kernel
theorem dX8_pixelIn_8 : decode cX8_pixelIn 8 = .ok (.iadd, 1) := by decide +kernel
theorem dX8_pixelIn_9 : decode cX8_pixelIn 9 = .ok (.istore_n 2, 1) := by decide +kernel
theorem dX8_pixelIn_10 : decode cX8_pixelIn 10 = .ok (.iconst 4, 1) := by decide +kernel
theorem dX8_pixelIn_11 : decode cX8_pixelIn 11 = .ok (.iload_n 0, 1) := by decide +kernel
theorem dX8_pixelIn_12 : decode cX8_pixelIn 12 = .ok (.iconst 2, 1) := by decide +kernel
theorem dX8_pixelIn_13 : decode cX8_pixelIn 13 = .ok (.irem, 1) := by decide +kernel
theorem dX8_pixelIn_14 : decode cX8_pixelIn 14 = .ok (.imul, 1) := by decide +kernel
theorem dX8_pixelIn_15 : decode cX8_pixelIn 15 = .ok (.iload_n 1, 1) := by decide +kernel
theorem dX8_pixelIn_16 : decode cX8_pixelIn 16 = .ok (.iconst 4, 1) := by decide +kernel
theorem dX8_pixelIn_17 : decode cX8_pixelIn 17 = .ok (.irem, 1) := by decide +kernel
theorem dX8_pixelIn_18 : decode cX8_pixelIn 18 = .ok (.iadd, 1) := by decide +kernel
theorem dX8_pixelIn_19 : decode cX8_pixelIn 19 = .ok (.istore_n 3, 1) := by decide +kernel
theorem dX8_pixelIn_20 : decode cX8_pixelIn 20 = .ok (.bipush 8, 2) := by decide +kernel
theorem dX8_pixelIn_22 : decode cX8_pixelIn 22 = .ok (.iload_n 2, 1) := by decide +kernel
theorem dX8_pixelIn_23 : decode cX8_pixelIn 23 = .ok (.imul, 1) := by decide +kernel
theorem dX8_pixelIn_24 : decode cX8_pixelIn 24 = .ok (.iload_n 3, 1) := by decide +kernel
theorem dX8_pixelIn_25 : decode cX8_pixelIn 25 = .ok (.iadd, 1) := by decide +kernel
theorem dX8_pixelIn_26 : decode cX8_pixelIn 26 = .ok (.ireturn, 1) := by decide +kernel
theorem dX8_downOf_0 : decode cX8_downOf 0 = .ok (.iload_n 0, 1) := by decide +kernel
theorem dX8_downOf_1 : decode cX8_downOf 1 = .ok (.iconst 5, 1) := by decide +kernel
theorem dX8_downOf_2 : decode cX8_downOf 2 = .ok (.idiv, 1) := by decide +kernel
theorem dX8_downOf_3 : decode cX8_downOf 3 = .ok (.iconst 2, 1) := by decide +kernel
theorem dX8_downOf_4 : decode cX8_downOf 4 = .ok (.isub, 1) := by decide +kernel
theorem dX8_downOf_5 : decode cX8_downOf 5 = .ok (.ireturn, 1) := by decide +kernel
theorem dX8_rightOf_0 : decode cX8_rightOf 0 = .ok (.iload_n 0, 1) := by decide +kernel
theorem dX8_rightOf_1 : decode cX8_rightOf 1 = .ok (.iconst 5, 1) := by decide +kernel
theorem dX8_rightOf_2 : decode cX8_rightOf 2 = .ok (.irem, 1) := by decide +kernel
theorem dX8_rightOf_3 : decode cX8_rightOf 3 = .ok (.iconst 2, 1) := by decide +kernel
theorem dX8_rightOf_4 : decode cX8_rightOf 4 = .ok (.isub, 1) := by decide +kernel
theorem dX8_rightOf_5 : decode cX8_rightOf 5 = .ok (.ireturn, 1) := by decide +kernel
theorem dJ9_abs_0f7a4_0 : decode cJ9_abs_0f7a4 0 = .ok (.iload_n 0, 1) := by decide +kernel
theorem dJ9_abs_0f7a4_1 : decode cJ9_abs_0f7a4 1 = .ok (.ifCond .ge 8, 3) := by decide +kernel
theorem dJ9_abs_0f7a4_4 : decode cJ9_abs_0f7a4 4 = .ok (.iload_n 0, 1) := by decide +kernel
theorem dJ9_abs_0f7a4_5 : decode cJ9_abs_0f7a4 5 = .ok (.ineg, 1) := by decide +kernel
theorem dJ9_abs_0f7a4_6 : decode cJ9_abs_0f7a4 6 = .ok (.goto 4, 3) := by decide +kernel
theorem dJ9_abs_0f7a4_9 : decode cJ9_abs_0f7a4 9 = .ok (.iload_n 0, 1) := by decide +kernel
theorem dJ9_abs_0f7a4_10 : decode cJ9_abs_0f7a4 10 = .ok (.ireturn, 1) := by decide +kernel
theorem dJ9_max_7cf53_0 : decode cJ9_max_7cf53 0 = .ok (.iload_n 0, 1) := by decide +kernel
theorem dJ9_max_7cf53_1 : decode cJ9_max_7cf53 1 = .ok (.iload_n 1, 1) := by decide +kernel
theorem dJ9_max_7cf53_2 : decode cJ9_max_7cf53 2 = .ok (.if_icmp .lt 7, 3) := by decide +kernel
theorem dJ9_max_7cf53_5 : decode cJ9_max_7cf53 5 = .ok (.iload_n 0, 1) := by decide +kernel
theorem dJ9_max_7cf53_6 : decode cJ9_max_7cf53 6 = .ok (.goto 4, 3) := by decide +kernel
theorem dJ9_max_7cf53_9 : decode cJ9_max_7cf53 9 = .ok (.iload_n 1, 1) := by decide +kernel
theorem dJ9_max_7cf53_10 : decode cJ9_max_7cf53 10 = .ok (.ireturn, 1) := by decide +kernel
theorem dJ9_min_7cf53_0 : decode cJ9_min_7cf53 0 = .ok (.iload_n 0, 1) := by decide +kernel
theorem dJ9_min_7cf53_1 : decode cJ9_min_7cf53 1 = .ok (.iload_n 1, 1) := by decide +kernel
theorem dJ9_min_7cf53_2 : decode cJ9_min_7cf53 2 = .ok (.if_icmp .gt 7, 3) := by decide +kernel
theorem dJ9_min_7cf53_5 : decode cJ9_min_7cf53 5 = .ok (.iload_n 0, 1) := by decide +kernel
theorem dJ9_min_7cf53_6 : decode cJ9_min_7cf53 6 = .ok (.goto 4, 3) := by decide +kernel
theorem dJ9_min_7cf53_9 : decode cJ9_min_7cf53 9 = .ok (.iload_n 1, 1) := by decide +kernel
theorem dJ9_min_7cf53_10 : decode cJ9_min_7cf53 10 = .ok (.ireturn, 1) := by decide +kernel
