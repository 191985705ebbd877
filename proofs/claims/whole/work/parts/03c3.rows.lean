theorem dX9_receivedAt_9 : decode cX9_receivedAt 9 = .ok (.goto 4, 3) := by decide +kernel
theorem dX9_receivedAt_12 : decode cX9_receivedAt 12 = .ok (.iconst 1, 1) := by decide +kernel
theorem dX9_receivedAt_13 : decode cX9_receivedAt 13 = .ok (.invokevirtual 93, 3) := by decide +kernel
theorem dX9_receivedAt_16 : decode cX9_receivedAt 16 = .ok (.ifCond .eq 16, 3) := by decide +kernel
theorem dX9_receivedAt_19 : decode cX9_receivedAt 19 = .ok (.aload_n 0, 1) := by decide +kernel
theorem dX9_receivedAt_20 : decode cX9_receivedAt 20 = .ok (.getfield 7, 3) := by decide +kernel
theorem dX9_receivedAt_23 : decode cX9_receivedAt 23 = .ok (.sipush 128, 3) := by decide +kernel
theorem dX9_receivedAt_26 : decode cX9_receivedAt 26 = .ok (.iload_n 1, 1) := by decide +kernel
theorem dX9_receivedAt_27 : decode cX9_receivedAt 27 = .ok (.iadd, 1) := by decide +kernel
theorem dX9_receivedAt_28 : decode cX9_receivedAt 28 = .ok (.iaload, 1) := by decide +kernel
theorem dX9_receivedAt_29 : decode cX9_receivedAt 29 = .ok (.goto 4, 3) := by decide +kernel
theorem dX9_receivedAt_32 : decode cX9_receivedAt 32 = .ok (.iconst 0, 1) := by decide +kernel
theorem dX9_receivedAt_33 : decode cX9_receivedAt 33 = .ok (.ireturn, 1) := by decide +kernel
theorem dX9_error_0 : decode cX9_error 0 = .ok (.aload_n 0, 1) := by decide +kernel
theorem dX9_error_1 : decode cX9_error 1 = .ok (.iconst 0, 1) := by decide +kernel
theorem dX9_error_2 : decode cX9_error 2 = .ok (.putfield 25, 3) := by decide +kernel
theorem dX9_error_5 : decode cX9_error 5 = .ok (.iconst 0, 1) := by decide +kernel
theorem dX9_error_6 : decode cX9_error 6 = .ok (.istore_n 1, 1) := by decide +kernel
theorem dX9_error_7 : decode cX9_error 7 = .ok (.iconst 0, 1) := by decide +kernel
theorem dX9_error_8 : decode cX9_error 8 = .ok (.istore_n 2, 1) := by decide +kernel
theorem dX9_error_9 : decode cX9_error 9 = .ok (.iload_n 2, 1) := by decide +kernel
theorem dX9_error_10 : decode cX9_error 10 = .ok (.bipush 64, 2) := by decide +kernel
theorem dX9_error_12 : decode cX9_error 12 = .ok (.if_icmp .ge 49, 3) := by decide +kernel
theorem dX9_error_15 : decode cX9_error 15 = .ok (.iload_n 1, 1) := by decide +kernel
theorem dX9_error_16 : decode cX9_error 16 = .ok (.aload_n 0, 1) := by decide +kernel
theorem dX9_error_17 : decode cX9_error 17 = .ok (.getfield 7, 3) := by decide +kernel
theorem dX9_error_20 : decode cX9_error 20 = .ok (.iconst 0, 1) := by decide +kernel
theorem dX9_error_21 : decode cX9_error 21 = .ok (.iload_n 2, 1) := by decide +kernel
theorem dX9_error_22 : decode cX9_error 22 = .ok (.iadd, 1) := by decide +kernel
theorem dX9_error_23 : decode cX9_error 23 = .ok (.iaload, 1) := by decide +kernel
theorem dX9_error_24 : decode cX9_error 24 = .ok (.aload_n 0, 1) := by decide +kernel
theorem dX9_error_25 : decode cX9_error 25 = .ok (.getfield 7, 3) := by decide +kernel
theorem dX9_error_28 : decode cX9_error 28 = .ok (.bipush 64, 2) := by decide +kernel
theorem dX9_error_30 : decode cX9_error 30 = .ok (.iload_n 2, 1) := by decide +kernel
theorem dX9_error_31 : decode cX9_error 31 = .ok (.iadd, 1) := by decide +kernel
theorem dX9_error_32 : decode cX9_error 32 = .ok (.iaload, 1) := by decide +kernel
theorem dX9_error_33 : decode cX9_error 33 = .ok (.isub, 1) := by decide +kernel
theorem dX9_error_34 : decode cX9_error 34 = .ok (.aload_n 0, 1) := by decide +kernel
theorem dX9_error_35 : decode cX9_error 35 = .ok (.getfield 7, 3) := by decide +kernel
theorem dX9_error_38 : decode cX9_error 38 = .ok (.iconst 0, 1) := by decide +kernel
theorem dX9_error_39 : decode cX9_error 39 = .ok (.iload_n 2, 1) := by decide +kernel
theorem dX9_error_40 : decode cX9_error 40 = .ok (.iadd, 1) := by decide +kernel
theorem dX9_error_41 : decode cX9_error 41 = .ok (.iaload, 1) := by decide +kernel
theorem dX9_error_42 : decode cX9_error 42 = .ok (.aload_n 0, 1) := by decide +kernel
theorem dX9_error_43 : decode cX9_error 43 = .ok (.getfield 7, 3) := by decide +kernel
theorem dX9_error_46 : decode cX9_error 46 = .ok (.bipush 64, 2) := by decide +kernel
theorem dX9_error_48 : decode cX9_error 48 = .ok (.iload_n 2, 1) := by decide +kernel
theorem dX9_error_49 : decode cX9_error 49 = .ok (.iadd, 1) := by decide +kernel
theorem dX9_error_50 : decode cX9_error 50 = .ok (.iaload, 1) := by decide +kernel
theorem dX9_error_51 : decode cX9_error 51 = .ok (.isub, 1) := by decide +kernel
theorem dX9_error_52 : decode cX9_error 52 = .ok (.imul, 1) := by decide +kernel
theorem dX9_error_53 : decode cX9_error 53 = .ok (.iadd, 1) := by decide +kernel
theorem dX9_error_54 : decode cX9_error 54 = .ok (.istore_n 1, 1) := by decide +kernel
theorem dX9_error_55 : decode cX9_error 55 = .ok (.iinc 2 1, 3) := by decide +kernel
theorem dX9_error_58 : decode cX9_error 58 = .ok (.goto (-49), 3) := by decide +kernel
theorem dX9_error_61 : decode cX9_error 61 = .ok (.iload_n 1, 1) := by decide +kernel
theorem dX9_error_62 : decode cX9_error 62 = .ok (.ireturn, 1) := by decide +kernel
set_option maxRecDepth 20000 in
theorem ggX9_drift_X9_abs : GoodIn wsX9_drift wsX9_abs := goodIn_r _ [6] (by decide +kernel) (by decide +kernel)
set_option maxRecDepth 20000 in
theorem gX9_drift_X9_abs : GoodIn wsX9_drift (va_wsS RX9 51 yX9_abs wsX9_abs) := goodIn_app (goodIn_of _ (by decide +kernel)) ggX9_drift_X9_abs
theorem dX9_drift_0 : decode cX9_drift 0 = .ok (.aload_n 0, 1) := by decide +kernel
theorem dX9_drift_1 : decode cX9_drift 1 = .ok (.iconst 0, 1) := by decide +kernel
theorem dX9_drift_2 : decode cX9_drift 2 = .ok (.putfield 25, 3) := by decide +kernel
theorem dX9_drift_5 : decode cX9_drift 5 = .ok (.iconst 0, 1) := by decide +kernel
theorem dX9_drift_6 : decode cX9_drift 6 = .ok (.istore_n 1, 1) := by decide +kernel
theorem dX9_drift_7 : decode cX9_drift 7 = .ok (.iconst 0, 1) := by decide +kernel
theorem dX9_drift_8 : decode cX9_drift 8 = .ok (.istore_n 2, 1) := by decide +kernel
theorem dX9_drift_9 : decode cX9_drift 9 = .ok (.iload_n 2, 1) := by decide +kernel
theorem dX9_drift_10 : decode cX9_drift 10 = .ok (.bipush 64, 2) := by decide +kernel
theorem dX9_drift_12 : decode cX9_drift 12 = .ok (.if_icmp .ge 35, 3) := by decide +kernel
theorem dX9_drift_15 : decode cX9_drift 15 = .ok (.iload_n 1, 1) := by decide +kernel
theorem dX9_drift_16 : decode cX9_drift 16 = .ok (.aload_n 0, 1) := by decide +kernel
theorem dX9_drift_17 : decode cX9_drift 17 = .ok (.getfield 7, 3) := by decide +kernel
theorem dX9_drift_20 : decode cX9_drift 20 = .ok (.bipush 64, 2) := by decide +kernel
theorem dX9_drift_22 : decode cX9_drift 22 = .ok (.iload_n 2, 1) := by decide +kernel
theorem dX9_drift_23 : decode cX9_drift 23 = .ok (.iadd, 1) := by decide +kernel
theorem dX9_drift_24 : decode cX9_drift 24 = .ok (.iaload, 1) := by decide +kernel
theorem dX9_drift_25 : decode cX9_drift 25 = .ok (.aload_n 0, 1) := by decide +kernel
theorem dX9_drift_26 : decode cX9_drift 26 = .ok (.getfield 7, 3) := by decide +kernel
theorem dX9_drift_29 : decode cX9_drift 29 = .ok (.sipush 128, 3) := by decide +kernel
theorem dX9_drift_32 : decode cX9_drift 32 = .ok (.iload_n 2, 1) := by decide +kernel
theorem dX9_drift_33 : decode cX9_drift 33 = .ok (.iadd, 1) := by decide +kernel
theorem dX9_drift_34 : decode cX9_drift 34 = .ok (.iaload, 1) := by decide +kernel
theorem dX9_drift_35 : decode cX9_drift 35 = .ok (.isub, 1) := by decide +kernel
theorem dX9_drift_36 : decode cX9_drift 36 = .ok (.invokestatic 51, 3) := by decide +kernel
theorem dX9_drift_39 : decode cX9_drift 39 = .ok (.iadd, 1) := by decide +kernel
theorem dX9_drift_40 : decode cX9_drift 40 = .ok (.istore_n 1, 1) := by decide +kernel
theorem dX9_drift_41 : decode cX9_drift 41 = .ok (.iinc 2 1, 3) := by decide +kernel
theorem dX9_drift_44 : decode cX9_drift 44 = .ok (.goto (-35), 3) := by decide +kernel
theorem dX9_drift_47 : decode cX9_drift 47 = .ok (.iload_n 1, 1) := by decide +kernel
theorem dX9_drift_48 : decode cX9_drift 48 = .ok (.ireturn, 1) := by decide +kernel
set_option maxRecDepth 20000 in
theorem ggX9_distance_X9_isBlock : GoodIn wsX9_distance wsX9_isBlock := goodIn_r _ [4, 5, 6, 3, 7] (by decide +kernel) (by decide +kernel)
set_option maxRecDepth 20000 in
theorem gX9_distance_X9_isBlock : GoodIn wsX9_distance (va_wsS RX9 109 yX9_isBlock wsX9_isBlock) := goodIn_app (goodIn_of _ (by decide +kernel)) ggX9_distance_X9_isBlock
set_option maxRecDepth 20000 in
theorem ggX9_distance_X9_in : GoodIn wsX9_distance wsX9_in := goodIn_r _ [7] (by decide +kernel) (by decide +kernel)
set_option maxRecDepth 20000 in
theorem gX9_distance_X9_in : GoodIn wsX9_distance (va_wsS RX9 29 yX9_in wsX9_in) := goodIn_app (goodIn_of _ (by decide +kernel)) ggX9_distance_X9_in
set_option maxRecDepth 20000 in
theorem ggX9_distance_X9_holds : GoodIn wsX9_distance wsX9_holds := goodIn_r _ [11, 12, 34, 35, 36, 37, 38, 39, 40, 41, 42, 43, 44, 45, 46, 47, 48] (by decide +kernel) (by decide +kernel)
set_option maxRecDepth 20000 in
theorem gX9_distance_X9_holds : GoodIn wsX9_distance (wsV RX9 93 RX9 yX9_holds wsX9_holds) := goodIn_app (goodIn_of _ (by decide +kernel)) ggX9_distance_X9_holds
set_option maxRecDepth 20000 in
theorem ggX9_distance_X9_far : GoodIn wsX9_distance wsX9_far := goodIn_r _ [16, 17, 18, 19, 3, 20, 21, 22, 23, 24, 25, 26, 27, 28, 29, 30, 31, 32, 33, 34, 35, 36, 37, 38, 39, 40, 41, 42, 43, 44, 45, 46, 47, 48] (by decide +kernel) (by decide +kernel)
set_option maxRecDepth 20000 in
theorem gX9_distance_X9_far : GoodIn wsX9_distance (wsV RX9 54 RX9 yX9_far wsX9_far) := goodIn_app (goodIn_of _ (by decide +kernel)) ggX9_distance_X9_far
theorem dX9_distance_0 : decode cX9_distance 0 = .ok (.aload_n 0, 1) := by decide +kernel
theorem dX9_distance_1 : decode cX9_distance 1 = .ok (.iload_n 1, 1) := by decide +kernel
theorem dX9_distance_2 : decode cX9_distance 2 = .ok (.invokestatic 109, 3) := by decide +kernel
theorem dX9_distance_5 : decode cX9_distance 5 = .ok (.ifCond .eq 17, 3) := by decide +kernel
theorem dX9_distance_8 : decode cX9_distance 8 = .ok (.iload_n 2, 1) := by decide +kernel
theorem dX9_distance_9 : decode cX9_distance 9 = .ok (.iconst 0, 1) := by decide +kernel
theorem dX9_distance_10 : decode cX9_distance 10 = .ok (.bipush 24, 2) := by decide +kernel
theorem dX9_distance_12 : decode cX9_distance 12 = .ok (.invokestatic 29, 3) := by decide +kernel
theorem dX9_distance_15 : decode cX9_distance 15 = .ok (.ifCond .eq 7, 3) := by decide +kernel
theorem dX9_distance_18 : decode cX9_distance 18 = .ok (.iconst 0, 1) := by decide +kernel
theorem dX9_distance_19 : decode cX9_distance 19 = .ok (.goto 4, 3) := by decide +kernel
theorem dX9_distance_22 : decode cX9_distance 22 = .ok (.iconst 1, 1) := by decide +kernel
theorem dX9_distance_23 : decode cX9_distance 23 = .ok (.invokevirtual 93, 3) := by decide +kernel
theorem dX9_distance_26 : decode cX9_distance 26 = .ok (.ifCond .eq 12, 3) := by decide +kernel
theorem dX9_distance_29 : decode cX9_distance 29 = .ok (.aload_n 0, 1) := by decide +kernel
theorem dX9_distance_30 : decode cX9_distance 30 = .ok (.iload_n 1, 1) := by decide +kernel
theorem dX9_distance_31 : decode cX9_distance 31 = .ok (.iload_n 2, 1) := by decide +kernel
theorem dX9_distance_32 : decode cX9_distance 32 = .ok (.invokevirtual 54, 3) := by decide +kernel
theorem dX9_distance_35 : decode cX9_distance 35 = .ok (.goto 4, 3) := by decide +kernel
theorem dX9_distance_38 : decode cX9_distance 38 = .ok (.iconst 0, 1) := by decide +kernel
theorem dX9_distance_39 : decode cX9_distance 39 = .ok (.ireturn, 1) := by decide +kernel
set_option maxRecDepth 20000 in
theorem ggX9_bestMove_X9_isBlock : GoodIn wsX9_bestMove wsX9_isBlock := goodIn_r _ [4, 5, 6, 3, 7] (by decide +kernel) (by decide +kernel)
set_option maxRecDepth 20000 in
theorem gX9_bestMove_X9_isBlock : GoodIn wsX9_bestMove (va_wsS RX9 109 yX9_isBlock wsX9_isBlock) := goodIn_app (goodIn_of _ (by decide +kernel)) ggX9_bestMove_X9_isBlock
set_option maxRecDepth 20000 in
theorem ggX9_bestMove_X9_holds : GoodIn wsX9_bestMove wsX9_holds := goodIn_r _ [11, 12, 41, 42, 43, 44, 45, 46, 47, 48, 49, 50, 51, 52, 53, 54, 55] (by decide +kernel) (by decide +kernel)
set_option maxRecDepth 20000 in
theorem gX9_bestMove_X9_holds : GoodIn wsX9_bestMove (wsV RX9 93 RX9 yX9_holds wsX9_holds) := goodIn_app (goodIn_of _ (by decide +kernel)) ggX9_bestMove_X9_holds
set_option maxRecDepth 20000 in
theorem ggX9_bestMove_X9_best : GoodIn wsX9_bestMove wsX9_best := goodIn_r _ [16, 17, 18, 19, 3, 20, 21, 22, 23, 24, 25, 26, 27, 28, 29, 30, 31, 32, 33, 34, 35, 36, 37, 38, 39, 40, 41, 42, 43, 44, 45, 46, 47, 48, 49, 50, 51, 52, 53, 54, 55] (by decide +kernel) (by decide +kernel)
set_option maxRecDepth 20000 in
theorem gX9_bestMove_X9_best : GoodIn wsX9_bestMove (wsV RX9 66 RX9 yX9_best wsX9_best) := goodIn_app (goodIn_of _ (by decide +kernel)) ggX9_bestMove_X9_best
theorem dX9_bestMove_0 : decode cX9_bestMove 0 = .ok (.aload_n 0, 1) := by decide +kernel
theorem dX9_bestMove_1 : decode cX9_bestMove 1 = .ok (.iload_n 1, 1) := by decide +kernel
theorem dX9_bestMove_2 : decode cX9_bestMove 2 = .ok (.invokestatic 109, 3) := by decide +kernel
theorem dX9_bestMove_5 : decode cX9_bestMove 5 = .ok (.ifCond .eq 7, 3) := by decide +kernel
theorem dX9_bestMove_8 : decode cX9_bestMove 8 = .ok (.iconst 0, 1) := by decide +kernel
theorem dX9_bestMove_9 : decode cX9_bestMove 9 = .ok (.goto 4, 3) := by decide +kernel
theorem dX9_bestMove_12 : decode cX9_bestMove 12 = .ok (.iconst 1, 1) := by decide +kernel
theorem dX9_bestMove_13 : decode cX9_bestMove 13 = .ok (.invokevirtual 93, 3) := by decide +kernel
theorem dX9_bestMove_16 : decode cX9_bestMove 16 = .ok (.ifCond .eq 11, 3) := by decide +kernel
theorem dX9_bestMove_19 : decode cX9_bestMove 19 = .ok (.aload_n 0, 1) := by decide +kernel
theorem dX9_bestMove_20 : decode cX9_bestMove 20 = .ok (.iload_n 1, 1) := by decide +kernel
theorem dX9_bestMove_21 : decode cX9_bestMove 21 = .ok (.invokevirtual 66, 3) := by decide +kernel
theorem dX9_bestMove_24 : decode cX9_bestMove 24 = .ok (.goto 4, 3) := by decide +kernel
theorem dX9_bestMove_27 : decode cX9_bestMove 27 = .ok (.iconst 0, 1) := by decide +kernel
theorem dX9_bestMove_28 : decode cX9_bestMove 28 = .ok (.ireturn, 1) := by decide +kernel
set_option maxRecDepth 20000 in
theorem ggX9_bestMoveByStopping_X9_bestMove : GoodIn wsX9_bestMoveByStopping wsX9_bestMove := goodIn_r _ [5, 6, 7, 4, 8, 9, 10, 11, 12, 13, 14, 15, 16, 17, 18, 19, 20, 21, 22, 23, 24, 25, 26, 27, 28, 29, 30, 31, 32, 33, 34, 35, 36, 37, 38, 39, 40, 41, 42, 43, 44, 45, 46, 47, 48, 49, 50, 51, 52, 53, 54, 55, 56, 57, 58, 59] (by decide +kernel) (by decide +kernel)
set_option maxRecDepth 20000 in
theorem gX9_bestMoveByStopping_X9_bestMove : GoodIn wsX9_bestMoveByStopping (wsV RX9 112 RX9 yX9_bestMove wsX9_bestMove) := goodIn_app (goodIn_of _ (by decide +kernel)) ggX9_bestMoveByStopping_X9_bestMove
theorem dX9_bestMoveByStopping_0 : decode cX9_bestMoveByStopping 0 = .ok (.aload_n 0, 1) := by decide +kernel
theorem dX9_bestMoveByStopping_1 : decode cX9_bestMoveByStopping 1 = .ok (.iload_n 1, 1) := by decide +kernel
theorem dX9_bestMoveByStopping_2 : decode cX9_bestMoveByStopping 2 = .ok (.invokevirtual 112, 3) := by decide +kernel
theorem dX9_bestMoveByStopping_5 : decode cX9_bestMoveByStopping 5 = .ok (.ireturn, 1) := by decide +kernel
set_option maxRecDepth 20000 in
theorem ggX9_equalMoves_X9_isBlock : GoodIn wsX9_equalMoves wsX9_isBlock := goodIn_r _ [4, 5, 6, 3, 7] (by decide +kernel) (by decide +kernel)
set_option maxRecDepth 20000 in
theorem gX9_equalMoves_X9_isBlock : GoodIn wsX9_equalMoves (va_wsS RX9 109 yX9_isBlock wsX9_isBlock) := goodIn_app (goodIn_of _ (by decide +kernel)) ggX9_equalMoves_X9_isBlock
set_option maxRecDepth 20000 in
theorem ggX9_equalMoves_X9_holds : GoodIn wsX9_equalMoves wsX9_holds := goodIn_r _ [11, 12, 41, 42, 43, 44, 45, 46, 47, 48, 49, 50, 51, 52, 53, 54, 55] (by decide +kernel) (by decide +kernel)
set_option maxRecDepth 20000 in
theorem gX9_equalMoves_X9_holds : GoodIn wsX9_equalMoves (wsV RX9 93 RX9 yX9_holds wsX9_holds) := goodIn_app (goodIn_of _ (by decide +kernel)) ggX9_equalMoves_X9_holds
set_option maxRecDepth 20000 in
theorem ggX9_equalMoves_X9_best : GoodIn wsX9_equalMoves wsX9_best := goodIn_r _ [16, 17, 18, 19, 3, 20, 21, 22, 23, 24, 25, 26, 27, 28, 29, 30, 31, 32, 33, 34, 35, 36, 37, 38, 39, 40, 41, 42, 43, 44, 45, 46, 47, 48, 49, 50, 51, 52, 53, 54, 55] (by decide +kernel) (by decide +kernel)
set_option maxRecDepth 20000 in
theorem gX9_equalMoves_X9_best : GoodIn wsX9_equalMoves (wsV RX9 66 RX9 yX9_best wsX9_best) := goodIn_app (goodIn_of _ (by decide +kernel)) ggX9_equalMoves_X9_best
set_option maxRecDepth 20000 in
theorem ggX9_equalMoves_X9_far : GoodIn wsX9_equalMoves wsX9_far := goodIn_r _ [20, 21, 22, 23, 3, 24, 25, 26, 27, 28, 29, 30, 31, 32, 33, 34, 35, 36, 37, 41, 42, 43, 44, 45, 46, 47, 48, 49, 50, 51, 52, 53, 54, 55] (by decide +kernel) (by decide +kernel)
set_option maxRecDepth 20000 in
theorem gX9_equalMoves_X9_far : GoodIn wsX9_equalMoves (wsV RX9 54 RX9 yX9_far wsX9_far) := goodIn_app (goodIn_of _ (by decide +kernel)) ggX9_equalMoves_X9_far
theorem dX9_equalMoves_0 : decode cX9_equalMoves 0 = .ok (.aload_n 0, 1) := by decide +kernel
theorem dX9_equalMoves_1 : decode cX9_equalMoves 1 = .ok (.iload_n 1, 1) := by decide +kernel
theorem dX9_equalMoves_2 : decode cX9_equalMoves 2 = .ok (.invokestatic 109, 3) := by decide +kernel
theorem dX9_equalMoves_5 : decode cX9_equalMoves 5 = .ok (.ifCond .eq 7, 3) := by decide +kernel
theorem dX9_equalMoves_8 : decode cX9_equalMoves 8 = .ok (.iconst 0, 1) := by decide +kernel
theorem dX9_equalMoves_9 : decode cX9_equalMoves 9 = .ok (.goto 4, 3) := by decide +kernel
theorem dX9_equalMoves_12 : decode cX9_equalMoves 12 = .ok (.iconst 1, 1) := by decide +kernel
theorem dX9_equalMoves_13 : decode cX9_equalMoves 13 = .ok (.invokevirtual 93, 3) := by decide +kernel
theorem dX9_equalMoves_16 : decode cX9_equalMoves 16 = .ok (.ifCond .ne 5, 3) := by decide +kernel
theorem dX9_equalMoves_19 : decode cX9_equalMoves 19 = .ok (.iconst 0, 1) := by decide +kernel
theorem dX9_equalMoves_20 : decode cX9_equalMoves 20 = .ok (.ireturn, 1) := by decide +kernel
theorem dX9_equalMoves_21 : decode cX9_equalMoves 21 = .ok (.aload_n 0, 1) := by decide +kernel
theorem dX9_equalMoves_22 : decode cX9_equalMoves 22 = .ok (.iload_n 1, 1) := by decide +kernel
theorem dX9_equalMoves_23 : decode cX9_equalMoves 23 = .ok (.aload_n 0, 1) := by decide +kernel
theorem dX9_equalMoves_24 : decode cX9_equalMoves 24 = .ok (.iload_n 1, 1) := by decide +kernel
theorem dX9_equalMoves_25 : decode cX9_equalMoves 25 = .ok (.invokevirtual 66, 3) := by decide +kernel
theorem dX9_equalMoves_28 : decode cX9_equalMoves 28 = .ok (.invokevirtual 54, 3) := by decide +kernel
theorem dX9_equalMoves_31 : decode cX9_equalMoves 31 = .ok (.istore_n 2, 1) := by decide +kernel
theorem dX9_equalMoves_32 : decode cX9_equalMoves 32 = .ok (.iconst 0, 1) := by decide +kernel
theorem dX9_equalMoves_33 : decode cX9_equalMoves 33 = .ok (.istore_n 3, 1) := by decide +kernel
theorem dX9_equalMoves_34 : decode cX9_equalMoves 34 = .ok (.iconst 0, 1) := by decide +kernel
theorem dX9_equalMoves_35 : decode cX9_equalMoves 35 = .ok (.istore 4, 2) := by decide +kernel
theorem dX9_equalMoves_37 : decode cX9_equalMoves 37 = .ok (.iload 4, 2) := by decide +kernel
theorem dX9_equalMoves_39 : decode cX9_equalMoves 39 = .ok (.bipush 25, 2) := by decide +kernel
theorem dX9_equalMoves_41 : decode cX9_equalMoves 41 = .ok (.if_icmp .ge 28, 3) := by decide +kernel
theorem dX9_equalMoves_44 : decode cX9_equalMoves 44 = .ok (.iload_n 3, 1) := by decide +kernel
theorem dX9_equalMoves_45 : decode cX9_equalMoves 45 = .ok (.aload_n 0, 1) := by decide +kernel
theorem dX9_equalMoves_46 : decode cX9_equalMoves 46 = .ok (.iload_n 1, 1) := by decide +kernel
theorem dX9_equalMoves_47 : decode cX9_equalMoves 47 = .ok (.iload 4, 2) := by decide +kernel
theorem dX9_equalMoves_49 : decode cX9_equalMoves 49 = .ok (.invokevirtual 54, 3) := by decide +kernel
theorem dX9_equalMoves_52 : decode cX9_equalMoves 52 = .ok (.iload_n 2, 1) := by decide +kernel
theorem dX9_equalMoves_53 : decode cX9_equalMoves 53 = .ok (.if_icmp .ne 7, 3) := by decide +kernel
theorem dX9_equalMoves_56 : decode cX9_equalMoves 56 = .ok (.iconst 1, 1) := by decide +kernel
theorem dX9_equalMoves_57 : decode cX9_equalMoves 57 = .ok (.goto 4, 3) := by decide +kernel
theorem dX9_equalMoves_60 : decode cX9_equalMoves 60 = .ok (.iconst 0, 1) := by decide +kernel
theorem dX9_equalMoves_61 : decode cX9_equalMoves 61 = .ok (.iadd, 1) := by decide +kernel
theorem dX9_equalMoves_62 : decode cX9_equalMoves 62 = .ok (.istore_n 3, 1) := by decide +kernel
theorem dX9_equalMoves_63 : decode cX9_equalMoves 63 = .ok (.iinc 4 1, 3) := by decide +kernel
theorem dX9_equalMoves_66 : decode cX9_equalMoves 66 = .ok (.goto (-29), 3) := by decide +kernel
theorem dX9_equalMoves_69 : decode cX9_equalMoves 69 = .ok (.iload_n 3, 1) := by decide +kernel
theorem dX9_equalMoves_70 : decode cX9_equalMoves 70 = .ok (.ireturn, 1) := by decide +kernel
set_option maxRecDepth 20000 in
theorem ggX9_isKeyNext_X9_isKey : GoodIn wsX9_isKeyNext wsX9_isKey := goodIn_r _ [6, 7, 8, 9, 10, 11, 12, 13, 14, 15, 16, 17, 18, 19, 20, 21, 22] (by decide +kernel) (by decide +kernel)
set_option maxRecDepth 20000 in
theorem gX9_isKeyNext_X9_isKey : GoodIn wsX9_isKeyNext (wsV RX9 81 RX9 yX9_isKey wsX9_isKey) := goodIn_app (goodIn_of _ (by decide +kernel)) ggX9_isKeyNext_X9_isKey
theorem dX9_isKeyNext_0 : decode cX9_isKeyNext 0 = .ok (.aload_n 0, 1) := by decide +kernel
theorem dX9_isKeyNext_1 : decode cX9_isKeyNext 1 = .ok (.iconst 0, 1) := by decide +kernel
theorem dX9_isKeyNext_2 : decode cX9_isKeyNext 2 = .ok (.putfield 25, 3) := by decide +kernel
theorem dX9_isKeyNext_5 : decode cX9_isKeyNext 5 = .ok (.aload_n 0, 1) := by decide +kernel
theorem dX9_isKeyNext_6 : decode cX9_isKeyNext 6 = .ok (.invokevirtual 81, 3) := by decide +kernel
theorem dX9_isKeyNext_9 : decode cX9_isKeyNext 9 = .ok (.ireturn, 1) := by decide +kernel
set_option maxRecDepth 20000 in
theorem ggX9_goes_X9_isBlock : GoodIn wsX9_goes wsX9_isBlock := goodIn_r _ [4, 5, 6, 3, 7] (by decide +kernel) (by decide +kernel)
set_option maxRecDepth 20000 in
theorem gX9_goes_X9_isBlock : GoodIn wsX9_goes (va_wsS RX9 109 yX9_isBlock wsX9_isBlock) := goodIn_app (goodIn_of _ (by decide +kernel)) ggX9_goes_X9_isBlock
set_option maxRecDepth 20000 in
theorem ggX9_goes_X9_in : GoodIn wsX9_goes wsX9_in := goodIn_r _ [7] (by decide +kernel) (by decide +kernel)
set_option maxRecDepth 20000 in
theorem gX9_goes_X9_in : GoodIn wsX9_goes (va_wsS RX9 29 yX9_in wsX9_in) := goodIn_app (goodIn_of _ (by decide +kernel)) ggX9_goes_X9_in
set_option maxRecDepth 20000 in
theorem ggX9_goes_X9_holds : GoodIn wsX9_goes wsX9_holds := goodIn_r _ [11, 12, 13, 14, 15, 16, 17, 18, 19, 20, 21, 22, 23, 24, 25, 26, 27] (by decide +kernel) (by decide +kernel)
set_option maxRecDepth 20000 in
theorem gX9_goes_X9_holds : GoodIn wsX9_goes (wsV RX9 93 RX9 yX9_holds wsX9_holds) := goodIn_app (goodIn_of _ (by decide +kernel)) ggX9_goes_X9_holds
theorem dX9_goes_0 : decode cX9_goes 0 = .ok (.aload_n 0, 1) := by decide +kernel
theorem dX9_goes_1 : decode cX9_goes 1 = .ok (.iload_n 1, 1) := by decide +kernel
theorem dX9_goes_2 : decode cX9_goes 2 = .ok (.invokestatic 109, 3) := by decide +kernel
theorem dX9_goes_5 : decode cX9_goes 5 = .ok (.ifCond .ne 7, 3) := by decide +kernel
theorem dX9_goes_8 : decode cX9_goes 8 = .ok (.iconst 1, 1) := by decide +kernel
theorem dX9_goes_9 : decode cX9_goes 9 = .ok (.goto 18, 3) := by decide +kernel
theorem dX9_goes_12 : decode cX9_goes 12 = .ok (.iload_n 2, 1) := by decide +kernel
theorem dX9_goes_13 : decode cX9_goes 13 = .ok (.iconst 1, 1) := by decide +kernel
theorem dX9_goes_14 : decode cX9_goes 14 = .ok (.bipush 8, 2) := by decide +kernel
theorem dX9_goes_16 : decode cX9_goes 16 = .ok (.invokestatic 29, 3) := by decide +kernel
theorem dX9_goes_19 : decode cX9_goes 19 = .ok (.ifCond .eq 7, 3) := by decide +kernel
theorem dX9_goes_22 : decode cX9_goes 22 = .ok (.iconst 0, 1) := by decide +kernel
theorem dX9_goes_23 : decode cX9_goes 23 = .ok (.goto 4, 3) := by decide +kernel
theorem dX9_goes_26 : decode cX9_goes 26 = .ok (.iconst 2, 1) := by decide +kernel
theorem dX9_goes_27 : decode cX9_goes 27 = .ok (.invokevirtual 93, 3) := by decide +kernel
theorem dX9_goes_30 : decode cX9_goes 30 = .ok (.ireturn, 1) := by decide +kernel
set_option maxRecDepth 20000 in
theorem ggX9_kindWith_X9_goes : GoodIn wsX9_kindWith wsX9_goes := goodIn_r _ [5, 6, 7, 4, 8, 9, 10, 11, 12, 13, 14, 15, 16, 60, 61, 62, 63, 64, 65, 66, 67, 68, 69, 70, 71, 72, 73, 74] (by decide +kernel) (by decide +kernel)
set_option maxRecDepth 20000 in
theorem gX9_kindWith_X9_goes : GoodIn wsX9_kindWith (wsV RX9 115 RX9 yX9_goes wsX9_goes) := goodIn_app (goodIn_of _ (by decide +kernel)) ggX9_kindWith_X9_goes
set_option maxRecDepth 20000 in
theorem ggX9_kindWith_X9_kind : GoodIn wsX9_kindWith wsX9_kind := goodIn_r _ [20, 21, 22, 23, 4, 24, 25, 26, 27, 28, 29, 30, 31, 32, 33, 34, 35, 36, 37, 38, 39, 40, 41, 42, 43, 44, 45, 46, 47, 48, 49, 50, 51, 52, 53, 54, 55, 56, 57, 58, 59, 60, 61, 62, 63, 64, 65, 66, 67, 68, 69, 70, 71, 72, 73, 74] (by decide +kernel) (by decide +kernel)
set_option maxRecDepth 20000 in
theorem gX9_kindWith_X9_kind : GoodIn wsX9_kindWith (wsV RX9 72 RX9 yX9_kind wsX9_kind) := goodIn_app (goodIn_of _ (by decide +kernel)) ggX9_kindWith_X9_kind
theorem dX9_kindWith_0 : decode cX9_kindWith 0 = .ok (.aload_n 0, 1) := by decide +kernel
theorem dX9_kindWith_1 : decode cX9_kindWith 1 = .ok (.iload_n 1, 1) := by decide +kernel
theorem dX9_kindWith_2 : decode cX9_kindWith 2 = .ok (.iload_n 2, 1) := by decide +kernel
theorem dX9_kindWith_3 : decode cX9_kindWith 3 = .ok (.invokevirtual 115, 3) := by decide +kernel
theorem dX9_kindWith_6 : decode cX9_kindWith 6 = .ok (.ifCond .eq 12, 3) := by decide +kernel
theorem dX9_kindWith_9 : decode cX9_kindWith 9 = .ok (.aload_n 0, 1) := by decide +kernel
theorem dX9_kindWith_10 : decode cX9_kindWith 10 = .ok (.iload_n 1, 1) := by decide +kernel
theorem dX9_kindWith_11 : decode cX9_kindWith 11 = .ok (.iload_n 2, 1) := by decide +kernel
theorem dX9_kindWith_12 : decode cX9_kindWith 12 = .ok (.invokevirtual 72, 3) := by decide +kernel
theorem dX9_kindWith_15 : decode cX9_kindWith 15 = .ok (.goto 4, 3) := by decide +kernel
theorem dX9_kindWith_18 : decode cX9_kindWith 18 = .ok (.iconst 0, 1) := by decide +kernel
theorem dX9_kindWith_19 : decode cX9_kindWith 19 = .ok (.ireturn, 1) := by decide +kernel
set_option maxRecDepth 20000 in
theorem ggX9_bitsWith_X9_goes : GoodIn wsX9_bitsWith wsX9_goes := goodIn_r _ [5, 6, 7, 4, 8, 9, 10, 11, 12, 13, 14, 15, 16, 64, 65, 66, 67, 68, 69, 70, 71, 72, 73, 74, 75, 76, 77, 78] (by decide +kernel) (by decide +kernel)
set_option maxRecDepth 20000 in
theorem gX9_bitsWith_X9_goes : GoodIn wsX9_bitsWith (wsV RX9 115 RX9 yX9_goes wsX9_goes) := goodIn_app (goodIn_of _ (by decide +kernel)) ggX9_bitsWith_X9_goes
set_option maxRecDepth 20000 in
theorem ggX9_bitsWith_X9_bits : GoodIn wsX9_bitsWith wsX9_bits := goodIn_r _ [20, 21, 22, 23, 4, 24, 25, 26, 27, 28, 29, 30, 31, 32, 33, 34, 35, 36, 37, 38, 39, 40, 41, 42, 43, 44, 45, 46, 47, 48, 49, 50, 51, 52, 53, 54, 55, 56, 57, 58, 59, 60, 61, 62, 63, 64, 65, 66, 67, 68, 69, 70, 71, 72, 73, 74, 75, 76, 77, 78] (by decide +kernel) (by decide +kernel)
set_option maxRecDepth 20000 in
theorem gX9_bitsWith_X9_bits : GoodIn wsX9_bitsWith (wsV RX9 75 RX9 yX9_bits wsX9_bits) := goodIn_app (goodIn_of _ (by decide +kernel)) ggX9_bitsWith_X9_bits
theorem dX9_bitsWith_0 : decode cX9_bitsWith 0 = .ok (.aload_n 0, 1) := by decide +kernel
theorem dX9_bitsWith_1 : decode cX9_bitsWith 1 = .ok (.iload_n 1, 1) := by decide +kernel
theorem dX9_bitsWith_2 : decode cX9_bitsWith 2 = .ok (.iload_n 2, 1) := by decide +kernel
theorem dX9_bitsWith_3 : decode cX9_bitsWith 3 = .ok (.invokevirtual 115, 3) := by decide +kernel
theorem dX9_bitsWith_6 : decode cX9_bitsWith 6 = .ok (.ifCond .eq 12, 3) := by decide +kernel
theorem dX9_bitsWith_9 : decode cX9_bitsWith 9 = .ok (.aload_n 0, 1) := by decide +kernel
theorem dX9_bitsWith_10 : decode cX9_bitsWith 10 = .ok (.iload_n 1, 1) := by decide +kernel
theorem dX9_bitsWith_11 : decode cX9_bitsWith 11 = .ok (.iload_n 2, 1) := by decide +kernel
theorem dX9_bitsWith_12 : decode cX9_bitsWith 12 = .ok (.invokevirtual 75, 3) := by decide +kernel
theorem dX9_bitsWith_15 : decode cX9_bitsWith 15 = .ok (.goto 4, 3) := by decide +kernel
theorem dX9_bitsWith_18 : decode cX9_bitsWith 18 = .ok (.iconst 0, 1) := by decide +kernel
theorem dX9_bitsWith_19 : decode cX9_bitsWith 19 = .ok (.ireturn, 1) := by decide +kernel
set_option maxRecDepth 20000 in
theorem ggX9_bitsByWriting_X9_bitsWith : GoodIn wsX9_bitsByWriting wsX9_bitsWith := goodIn_r _ [5, 6, 7, 8, 4, 9, 10, 11, 12, 13, 14, 15, 16, 17, 18, 19, 20, 21, 22, 23, 24, 25, 26, 27, 28, 29, 30, 31, 32, 33, 34, 35, 36, 37, 38, 39, 40, 41, 42, 43, 44, 45, 46, 47, 48, 49, 50, 51, 52, 53, 54, 55, 56, 57, 58, 59, 60, 61, 62, 63, 64, 65, 66, 67, 68, 69, 70, 71, 72, 73, 74, 75, 76, 77, 78, 79, 80, 81, 82] (by decide +kernel) (by decide +kernel)
set_option maxRecDepth 20000 in
theorem gX9_bitsByWriting_X9_bitsWith : GoodIn wsX9_bitsByWriting (wsV RX9 119 RX9 yX9_bitsWith wsX9_bitsWith) := goodIn_app (goodIn_of _ (by decide +kernel)) ggX9_bitsByWriting_X9_bitsWith
theorem dX9_bitsByWriting_0 : decode cX9_bitsByWriting 0 = .ok (.aload_n 0, 1) := by decide +kernel
theorem dX9_bitsByWriting_1 : decode cX9_bitsByWriting 1 = .ok (.iload_n 1, 1) := by decide +kernel
theorem dX9_bitsByWriting_2 : decode cX9_bitsByWriting 2 = .ok (.iload_n 2, 1) := by decide +kernel
theorem dX9_bitsByWriting_3 : decode cX9_bitsByWriting 3 = .ok (.invokevirtual 119, 3) := by decide +kernel
theorem dX9_bitsByWriting_6 : decode cX9_bitsByWriting 6 = .ok (.ireturn, 1) := by decide +kernel
set_option maxRecDepth 20000 in
theorem ggX9_coarsenessNext_X9_isKey : GoodIn wsX9_coarsenessNext wsX9_isKey := goodIn_r _ [6, 7, 62, 63, 64, 65, 66, 67, 68, 69, 70, 71, 72, 73, 74, 75, 76] (by decide +kernel) (by decide +kernel)
set_option maxRecDepth 20000 in
theorem gX9_coarsenessNext_X9_isKey : GoodIn wsX9_coarsenessNext (wsV RX9 81 RX9 yX9_isKey wsX9_isKey) := goodIn_app (goodIn_of _ (by decide +kernel)) ggX9_coarsenessNext_X9_isKey
set_option maxRecDepth 20000 in
theorem ggX9_coarsenessNext_X9_coarseness : GoodIn wsX9_coarsenessNext wsX9_coarseness := goodIn_r _ [11, 7, 12, 13, 14, 5, 15, 16, 17, 18, 19, 20, 21, 22, 23, 24, 25, 26, 27, 28, 29, 30, 31, 32, 33, 34, 35, 36, 37, 38, 39, 40, 41, 42, 43, 44, 45, 46, 47, 48, 49, 50, 51, 52, 53, 54, 55, 56, 57, 58, 59, 60, 61, 62, 63, 64, 65, 66, 67, 68, 69, 70, 71, 72, 73, 74, 75, 76] (by decide +kernel) (by decide +kernel)
set_option maxRecDepth 20000 in
theorem gX9_coarsenessNext_X9_coarseness : GoodIn wsX9_coarsenessNext (wsV RX9 85 RX9 yX9_coarseness wsX9_coarseness) := goodIn_app (goodIn_of _ (by decide +kernel)) ggX9_coarsenessNext_X9_coarseness
theorem dX9_coarsenessNext_0 : decode cX9_coarsenessNext 0 = .ok (.aload_n 0, 1) := by decide +kernel
theorem dX9_coarsenessNext_1 : decode cX9_coarsenessNext 1 = .ok (.iconst 0, 1) := by decide +kernel
theorem dX9_coarsenessNext_2 : decode cX9_coarsenessNext 2 = .ok (.putfield 25, 3) := by decide +kernel
theorem dX9_coarsenessNext_5 : decode cX9_coarsenessNext 5 = .ok (.aload_n 0, 1) := by decide +kernel
theorem dX9_coarsenessNext_6 : decode cX9_coarsenessNext 6 = .ok (.invokevirtual 81, 3) := by decide +kernel
theorem dX9_coarsenessNext_9 : decode cX9_coarsenessNext 9 = .ok (.ifCond .eq 7, 3) := by decide +kernel
theorem dX9_coarsenessNext_12 : decode cX9_coarsenessNext 12 = .ok (.iconst (-1), 1) := by decide +kernel
theorem dX9_coarsenessNext_13 : decode cX9_coarsenessNext 13 = .ok (.goto 7, 3) := by decide +kernel
theorem dX9_coarsenessNext_16 : decode cX9_coarsenessNext 16 = .ok (.aload_n 0, 1) := by decide +kernel
theorem dX9_coarsenessNext_17 : decode cX9_coarsenessNext 17 = .ok (.invokevirtual 85, 3) := by decide +kernel
theorem dX9_coarsenessNext_20 : decode cX9_coarsenessNext 20 = .ok (.ireturn, 1) := by decide +kernel
set_option maxRecDepth 20000 in
theorem ggX9_bitsNext_X9_isKey : GoodIn wsX9_bitsNext wsX9_isKey := goodIn_r _ [6, 7, 62, 63, 64, 65, 66, 67, 68, 69, 70, 71, 72, 73, 74, 75, 76] (by decide +kernel) (by decide +kernel)
set_option maxRecDepth 20000 in
theorem gX9_bitsNext_X9_isKey : GoodIn wsX9_bitsNext (wsV RX9 81 RX9 yX9_isKey wsX9_isKey) := goodIn_app (goodIn_of _ (by decide +kernel)) ggX9_bitsNext_X9_isKey
set_option maxRecDepth 20000 in
theorem ggX9_bitsNext_X9_coarseness : GoodIn wsX9_bitsNext wsX9_coarseness := goodIn_r _ [11, 7, 12, 13, 14, 5, 15, 16, 17, 18, 19, 20, 21, 22, 23, 24, 25, 26, 27, 28, 29, 30, 31, 32, 33, 34, 35, 36, 37, 38, 39, 40, 41, 42, 43, 44, 45, 46, 47, 48, 49, 50, 51, 52, 53, 54, 55, 56, 57, 58, 59, 60, 61, 62, 63, 64, 65, 66, 67, 68, 69, 70, 71, 72, 73, 74, 75, 76] (by decide +kernel) (by decide +kernel)
set_option maxRecDepth 20000 in
theorem gX9_bitsNext_X9_coarseness : GoodIn wsX9_bitsNext (wsV RX9 85 RX9 yX9_coarseness wsX9_coarseness) := goodIn_app (goodIn_of _ (by decide +kernel)) ggX9_bitsNext_X9_coarseness
set_option maxRecDepth 20000 in
theorem ggX9_bitsNext_X9_allBits : GoodIn wsX9_bitsNext wsX9_allBits := goodIn_r _ [15, 16, 17, 18, 5, 19, 20, 21, 22, 23, 24, 25, 26, 27, 28, 29, 30, 31, 7, 32, 33, 34, 35, 36, 37, 38, 39, 40, 41, 42, 43, 44, 45, 46, 47, 48, 49, 50, 51, 52, 53, 54, 55, 56, 57, 58, 59, 60, 61, 62, 63, 64, 65, 66, 67, 68, 69, 70, 71, 72, 73, 74, 75, 76] (by decide +kernel) (by decide +kernel)
set_option maxRecDepth 20000 in
theorem gX9_bitsNext_X9_allBits : GoodIn wsX9_bitsNext (wsV RX9 78 RX9 yX9_allBits wsX9_allBits) := goodIn_app (goodIn_of _ (by decide +kernel)) ggX9_bitsNext_X9_allBits
theorem dX9_bitsNext_0 : decode cX9_bitsNext 0 = .ok (.aload_n 0, 1) := by decide +kernel
theorem dX9_bitsNext_1 : decode cX9_bitsNext 1 = .ok (.iconst 0, 1) := by decide +kernel
theorem dX9_bitsNext_2 : decode cX9_bitsNext 2 = .ok (.putfield 25, 3) := by decide +kernel
theorem dX9_bitsNext_5 : decode cX9_bitsNext 5 = .ok (.aload_n 0, 1) := by decide +kernel
theorem dX9_bitsNext_6 : decode cX9_bitsNext 6 = .ok (.invokevirtual 81, 3) := by decide +kernel
theorem dX9_bitsNext_9 : decode cX9_bitsNext 9 = .ok (.ifCond .eq 9, 3) := by decide +kernel
theorem dX9_bitsNext_12 : decode cX9_bitsNext 12 = .ok (.sipush 264, 3) := by decide +kernel
theorem dX9_bitsNext_15 : decode cX9_bitsNext 15 = .ok (.goto 11, 3) := by decide +kernel
theorem dX9_bitsNext_18 : decode cX9_bitsNext 18 = .ok (.aload_n 0, 1) := by decide +kernel
theorem dX9_bitsNext_19 : decode cX9_bitsNext 19 = .ok (.aload_n 0, 1) := by decide +kernel
theorem dX9_bitsNext_20 : decode cX9_bitsNext 20 = .ok (.invokevirtual 85, 3) := by decide +kernel
theorem dX9_bitsNext_23 : decode cX9_bitsNext 23 = .ok (.invokevirtual 78, 3) := by decide +kernel
theorem dX9_bitsNext_26 : decode cX9_bitsNext 26 = .ok (.ireturn, 1) := by decide +kernel
theorem dX9_pictureCount_0 : decode cX9_pictureCount 0 = .ok (.aload_n 0, 1) := by decide +kernel
theorem dX9_pictureCount_1 : decode cX9_pictureCount 1 = .ok (.iconst 0, 1) := by decide +kernel
theorem dX9_pictureCount_2 : decode cX9_pictureCount 2 = .ok (.putfield 25, 3) := by decide +kernel
theorem dX9_pictureCount_5 : decode cX9_pictureCount 5 = .ok (.aload_n 0, 1) := by decide +kernel
theorem dX9_pictureCount_6 : decode cX9_pictureCount 6 = .ok (.getfield 7, 3) := by decide +kernel
theorem dX9_pictureCount_9 : decode cX9_pictureCount 9 = .ok (.sipush 194, 3) := by decide +kernel
theorem dX9_pictureCount_12 : decode cX9_pictureCount 12 = .ok (.iaload, 1) := by decide +kernel
theorem dX9_pictureCount_13 : decode cX9_pictureCount 13 = .ok (.ireturn, 1) := by decide +kernel
theorem dX9_lostCount_0 : decode cX9_lostCount 0 = .ok (.aload_n 0, 1) := by decide +kernel
theorem dX9_lostCount_1 : decode cX9_lostCount 1 = .ok (.iconst 0, 1) := by decide +kernel
theorem dX9_lostCount_2 : decode cX9_lostCount 2 = .ok (.putfield 25, 3) := by decide +kernel
theorem dX9_lostCount_5 : decode cX9_lostCount 5 = .ok (.aload_n 0, 1) := by decide +kernel
theorem dX9_lostCount_6 : decode cX9_lostCount 6 = .ok (.getfield 7, 3) := by decide +kernel
theorem dX9_lostCount_9 : decode cX9_lostCount 9 = .ok (.sipush 195, 3) := by decide +kernel
theorem dX9_lostCount_12 : decode cX9_lostCount 12 = .ok (.iaload, 1) := by decide +kernel
theorem dX9_lostCount_13 : decode cX9_lostCount 13 = .ok (.ireturn, 1) := by decide +kernel
theorem dX9_bitCount_0 : decode cX9_bitCount 0 = .ok (.aload_n 0, 1) := by decide +kernel
theorem dX9_bitCount_1 : decode cX9_bitCount 1 = .ok (.iconst 0, 1) := by decide +kernel
theorem dX9_bitCount_2 : decode cX9_bitCount 2 = .ok (.putfield 25, 3) := by decide +kernel
theorem dX9_bitCount_5 : decode cX9_bitCount 5 = .ok (.aload_n 0, 1) := by decide +kernel
theorem dX9_bitCount_6 : decode cX9_bitCount 6 = .ok (.getfield 7, 3) := by decide +kernel
theorem dX9_bitCount_9 : decode cX9_bitCount 9 = .ok (.sipush 196, 3) := by decide +kernel
theorem dX9_bitCount_12 : decode cX9_bitCount 12 = .ok (.iaload, 1) := by decide +kernel
theorem dX9_bitCount_13 : decode cX9_bitCount 13 = .ok (.ireturn, 1) := by decide +kernel
set_option maxRecDepth 20000 in
theorem ggX9_lastKind_X9_isBlock : GoodIn wsX9_lastKind wsX9_isBlock := goodIn_r _ [5, 6, 7, 4, 8] (by decide +kernel) (by decide +kernel)
set_option maxRecDepth 20000 in
theorem gX9_lastKind_X9_isBlock : GoodIn wsX9_lastKind (va_wsS RX9 109 yX9_isBlock wsX9_isBlock) := goodIn_app (goodIn_of _ (by decide +kernel)) ggX9_lastKind_X9_isBlock
set_option maxRecDepth 20000 in
theorem ggX9_lastKind_X9_holds : GoodIn wsX9_lastKind wsX9_holds := goodIn_r _ [12, 13, 14, 15, 16, 17, 18, 19, 20, 21, 22, 23, 24, 25, 26, 27, 28] (by decide +kernel) (by decide +kernel)
set_option maxRecDepth 20000 in
theorem gX9_lastKind_X9_holds : GoodIn wsX9_lastKind (wsV RX9 93 RX9 yX9_holds wsX9_holds) := goodIn_app (goodIn_of _ (by decide +kernel)) ggX9_lastKind_X9_holds
theorem dX9_lastKind_0 : decode cX9_lastKind 0 = .ok (.aload_n 0, 1) := by decide +kernel
theorem dX9_lastKind_1 : decode cX9_lastKind 1 = .ok (.iload_n 1, 1) := by decide +kernel
theorem dX9_lastKind_2 : decode cX9_lastKind 2 = .ok (.invokestatic 109, 3) := by decide +kernel
theorem dX9_lastKind_5 : decode cX9_lastKind 5 = .ok (.ifCond .eq 7, 3) := by decide +kernel
theorem dX9_lastKind_8 : decode cX9_lastKind 8 = .ok (.iconst 0, 1) := by decide +kernel
theorem dX9_lastKind_9 : decode cX9_lastKind 9 = .ok (.goto 4, 3) := by decide +kernel
theorem dX9_lastKind_12 : decode cX9_lastKind 12 = .ok (.iconst 1, 1) := by decide +kernel
theorem dX9_lastKind_13 : decode cX9_lastKind 13 = .ok (.invokevirtual 93, 3) := by decide +kernel
theorem dX9_lastKind_16 : decode cX9_lastKind 16 = .ok (.ifCond .eq 18, 3) := by decide +kernel
theorem dX9_lastKind_19 : decode cX9_lastKind 19 = .ok (.aload_n 0, 1) := by decide +kernel
theorem dX9_lastKind_20 : decode cX9_lastKind 20 = .ok (.getfield 7, 3) := by decide +kernel
theorem dX9_lastKind_23 : decode cX9_lastKind 23 = .ok (.sipush 197, 3) := by decide +kernel
theorem dX9_lastKind_26 : decode cX9_lastKind 26 = .ok (.iload_n 1, 1) := by decide +kernel
theorem dX9_lastKind_27 : decode cX9_lastKind 27 = .ok (.iadd, 1) := by decide +kernel
theorem dX9_lastKind_28 : decode cX9_lastKind 28 = .ok (.iaload, 1) := by decide +kernel
theorem dX9_lastKind_29 : decode cX9_lastKind 29 = .ok (.iconst 1, 1) := by decide +kernel
theorem dX9_lastKind_30 : decode cX9_lastKind 30 = .ok (.isub, 1) := by decide +kernel
theorem dX9_lastKind_31 : decode cX9_lastKind 31 = .ok (.goto 4, 3) := by decide +kernel
theorem dX9_lastKind_34 : decode cX9_lastKind 34 = .ok (.iconst 0, 1) := by decide +kernel
theorem dX9_lastKind_35 : decode cX9_lastKind 35 = .ok (.ireturn, 1) := by decide +kernel
set_option maxRecDepth 20000 in
theorem ggX9_lastMove_X9_isBlock : GoodIn wsX9_lastMove wsX9_isBlock := goodIn_r _ [5, 6, 7, 4, 8] (by decide +kernel) (by decide +kernel)
set_option maxRecDepth 20000 in
theorem gX9_lastMove_X9_isBlock : GoodIn wsX9_lastMove (va_wsS RX9 109 yX9_isBlock wsX9_isBlock) := goodIn_app (goodIn_of _ (by decide +kernel)) ggX9_lastMove_X9_isBlock
set_option maxRecDepth 20000 in
theorem ggX9_lastMove_X9_holds : GoodIn wsX9_lastMove wsX9_holds := goodIn_r _ [12, 13, 14, 15, 16, 17, 18, 19, 20, 21, 22, 23, 24, 25, 26, 27, 28] (by decide +kernel) (by decide +kernel)
set_option maxRecDepth 20000 in
theorem gX9_lastMove_X9_holds : GoodIn wsX9_lastMove (wsV RX9 93 RX9 yX9_holds wsX9_holds) := goodIn_app (goodIn_of _ (by decide +kernel)) ggX9_lastMove_X9_holds
theorem dX9_lastMove_0 : decode cX9_lastMove 0 = .ok (.aload_n 0, 1) := by decide +kernel
theorem dX9_lastMove_1 : decode cX9_lastMove 1 = .ok (.iload_n 1, 1) := by decide +kernel
theorem dX9_lastMove_2 : decode cX9_lastMove 2 = .ok (.invokestatic 109, 3) := by decide +kernel
theorem dX9_lastMove_5 : decode cX9_lastMove 5 = .ok (.ifCond .eq 7, 3) := by decide +kernel
theorem dX9_lastMove_8 : decode cX9_lastMove 8 = .ok (.iconst 0, 1) := by decide +kernel
theorem dX9_lastMove_9 : decode cX9_lastMove 9 = .ok (.goto 4, 3) := by decide +kernel
theorem dX9_lastMove_12 : decode cX9_lastMove 12 = .ok (.iconst 1, 1) := by decide +kernel
theorem dX9_lastMove_13 : decode cX9_lastMove 13 = .ok (.invokevirtual 93, 3) := by decide +kernel
theorem dX9_lastMove_16 : decode cX9_lastMove 16 = .ok (.ifCond .eq 31, 3) := by decide +kernel
theorem dX9_lastMove_19 : decode cX9_lastMove 19 = .ok (.aload_n 0, 1) := by decide +kernel
theorem dX9_lastMove_20 : decode cX9_lastMove 20 = .ok (.getfield 7, 3) := by decide +kernel
theorem dX9_lastMove_23 : decode cX9_lastMove 23 = .ok (.sipush 194, 3) := by decide +kernel
theorem dX9_lastMove_26 : decode cX9_lastMove 26 = .ok (.iaload, 1) := by decide +kernel
theorem dX9_lastMove_27 : decode cX9_lastMove 27 = .ok (.ifCond .ne 7, 3) := by decide +kernel
theorem dX9_lastMove_30 : decode cX9_lastMove 30 = .ok (.iconst (-1), 1) := by decide +kernel
theorem dX9_lastMove_31 : decode cX9_lastMove 31 = .ok (.goto 17, 3) := by decide +kernel
theorem dX9_lastMove_34 : decode cX9_lastMove 34 = .ok (.aload_n 0, 1) := by decide +kernel
theorem dX9_lastMove_35 : decode cX9_lastMove 35 = .ok (.getfield 7, 3) := by decide +kernel
theorem dX9_lastMove_38 : decode cX9_lastMove 38 = .ok (.sipush 201, 3) := by decide +kernel
theorem dX9_lastMove_41 : decode cX9_lastMove 41 = .ok (.iload_n 1, 1) := by decide +kernel
theorem dX9_lastMove_42 : decode cX9_lastMove 42 = .ok (.iadd, 1) := by decide +kernel
theorem dX9_lastMove_43 : decode cX9_lastMove 43 = .ok (.iaload, 1) := by decide +kernel
theorem dX9_lastMove_44 : decode cX9_lastMove 44 = .ok (.goto 4, 3) := by decide +kernel
theorem dX9_lastMove_47 : decode cX9_lastMove 47 = .ok (.iconst 0, 1) := by decide +kernel
theorem dX9_lastMove_48 : decode cX9_lastMove 48 = .ok (.ireturn, 1) := by decide +kernel
set_option maxRecDepth 20000 in
theorem ggX9_appendText_X9_in : GoodIn wsX9_appendText wsX9_in := goodIn_r _ [7] (by decide +kernel) (by decide +kernel)
set_option maxRecDepth 20000 in
theorem gX9_appendText_X9_in : GoodIn wsX9_appendText (va_wsS RX9 29 yX9_in wsX9_in) := goodIn_app (goodIn_of _ (by decide +kernel)) ggX9_appendText_X9_in
set_option maxRecDepth 20000 in
theorem ggX9_appendText_X9_holds : GoodIn wsX9_appendText wsX9_holds := goodIn_r _ [11, 12, 13, 14, 15, 16, 17, 18, 19, 20, 21, 22, 23, 24, 25, 26, 27] (by decide +kernel) (by decide +kernel)
set_option maxRecDepth 20000 in
theorem gX9_appendText_X9_holds : GoodIn wsX9_appendText (wsV RX9 93 RX9 yX9_holds wsX9_holds) := goodIn_app (goodIn_of _ (by decide +kernel)) ggX9_appendText_X9_holds
theorem dX9_appendText_0 : decode cX9_appendText 0 = .ok (.iconst 0, 1) := by decide +kernel
theorem dX9_appendText_1 : decode cX9_appendText 1 = .ok (.istore_n 3, 1) := by decide +kernel
theorem dX9_appendText_2 : decode cX9_appendText 2 = .ok (.iconst 1, 1) := by decide +kernel
theorem dX9_appendText_3 : decode cX9_appendText 3 = .ok (.istore 4, 2) := by decide +kernel
theorem dX9_appendText_5 : decode cX9_appendText 5 = .ok (.lload_n 1, 1) := by decide +kernel
theorem dX9_appendText_6 : decode cX9_appendText 6 = .ok (.lstore 5, 2) := by decide +kernel
theorem dX9_appendText_8 : decode cX9_appendText 8 = .ok (.lload 5, 2) := by decide +kernel
theorem dX9_appendText_10 : decode cX9_appendText 10 = .ok (.lconst 0, 1) := by decide +kernel
theorem dX9_appendText_11 : decode cX9_appendText 11 = .ok (.lcmp, 1) := by decide +kernel
theorem dX9_appendText_12 : decode cX9_appendText 12 = .ok (.ifCond .eq 45, 3) := by decide +kernel
theorem dX9_appendText_15 : decode cX9_appendText 15 = .ok (.iload 4, 2) := by decide +kernel
theorem dX9_appendText_17 : decode cX9_appendText 17 = .ok (.ifCond .eq 24, 3) := by decide +kernel
theorem dX9_appendText_20 : decode cX9_appendText 20 = .ok (.lload 5, 2) := by decide +kernel
theorem dX9_appendText_22 : decode cX9_appendText 22 = .ok (.ldc2_w 122, 3) := by decide +kernel
theorem dX9_appendText_25 : decode cX9_appendText 25 = .ok (.land, 1) := by decide +kernel
theorem dX9_appendText_26 : decode cX9_appendText 26 = .ok (.l2i, 1) := by decide +kernel
theorem dX9_appendText_27 : decode cX9_appendText 27 = .ok (.bipush 33, 2) := by decide +kernel
theorem dX9_appendText_29 : decode cX9_appendText 29 = .ok (.bipush 126, 2) := by decide +kernel
theorem dX9_appendText_31 : decode cX9_appendText 31 = .ok (.invokestatic 29, 3) := by decide +kernel
theorem dX9_appendText_34 : decode cX9_appendText 34 = .ok (.ifCond .eq 7, 3) := by decide +kernel
theorem dX9_appendText_37 : decode cX9_appendText 37 = .ok (.iconst 1, 1) := by decide +kernel
theorem dX9_appendText_38 : decode cX9_appendText 38 = .ok (.goto 4, 3) := by decide +kernel
theorem dX9_appendText_41 : decode cX9_appendText 41 = .ok (.iconst 0, 1) := by decide +kernel
theorem dX9_appendText_42 : decode cX9_appendText 42 = .ok (.istore 4, 2) := by decide +kernel
theorem dX9_appendText_44 : decode cX9_appendText 44 = .ok (.iinc 3 1, 3) := by decide +kernel
theorem dX9_appendText_47 : decode cX9_appendText 47 = .ok (.lload 5, 2) := by decide +kernel
theorem dX9_appendText_49 : decode cX9_appendText 49 = .ok (.bipush 8, 2) := by decide +kernel
theorem dX9_appendText_51 : decode cX9_appendText 51 = .ok (.lushr, 1) := by decide +kernel
theorem dX9_appendText_52 : decode cX9_appendText 52 = .ok (.lstore 5, 2) := by decide +kernel
theorem dX9_appendText_54 : decode cX9_appendText 54 = .ok (.goto (-46), 3) := by decide +kernel
theorem dX9_appendText_57 : decode cX9_appendText 57 = .ok (.aload_n 0, 1) := by decide +kernel
theorem dX9_appendText_58 : decode cX9_appendText 58 = .ok (.iload_n 3, 1) := by decide +kernel
theorem dX9_appendText_59 : decode cX9_appendText 59 = .ok (.ifCond .eq 8, 3) := by decide +kernel
theorem dX9_appendText_62 : decode cX9_appendText 62 = .ok (.iload 4, 2) := by decide +kernel
theorem dX9_appendText_64 : decode cX9_appendText 64 = .ok (.ifCond .ne 7, 3) := by decide +kernel
theorem dX9_appendText_67 : decode cX9_appendText 67 = .ok (.iconst 1, 1) := by decide +kernel
theorem dX9_appendText_68 : decode cX9_appendText 68 = .ok (.goto 19, 3) := by decide +kernel
theorem dX9_appendText_71 : decode cX9_appendText 71 = .ok (.aload_n 0, 1) := by decide +kernel
theorem dX9_appendText_72 : decode cX9_appendText 72 = .ok (.getfield 124, 3) := by decide +kernel
theorem dX9_appendText_75 : decode cX9_appendText 75 = .ok (.iload_n 3, 1) := by decide +kernel
theorem dX9_appendText_76 : decode cX9_appendText 76 = .ok (.iadd, 1) := by decide +kernel
theorem dX9_appendText_77 : decode cX9_appendText 77 = .ok (.bipush 80, 2) := by decide +kernel
theorem dX9_appendText_79 : decode cX9_appendText 79 = .ok (.if_icmp .le 7, 3) := by decide +kernel
theorem dX9_appendText_82 : decode cX9_appendText 82 = .ok (.iconst 2, 1) := by decide +kernel
theorem dX9_appendText_83 : decode cX9_appendText 83 = .ok (.goto 4, 3) := by decide +kernel
theorem dX9_appendText_86 : decode cX9_appendText 86 = .ok (.iconst 0, 1) := by decide +kernel
theorem dX9_appendText_87 : decode cX9_appendText 87 = .ok (.invokevirtual 93, 3) := by decide +kernel
theorem dX9_appendText_90 : decode cX9_appendText 90 = .ok (.ifCond .ne 5, 3) := by decide +kernel
theorem dX9_appendText_93 : decode cX9_appendText 93 = .ok (.iconst 0, 1) := by decide +kernel
theorem dX9_appendText_94 : decode cX9_appendText 94 = .ok (.ireturn, 1) := by decide +kernel
theorem dX9_appendText_95 : decode cX9_appendText 95 = .ok (.iload_n 3, 1) := by decide +kernel
theorem dX9_appendText_96 : decode cX9_appendText 96 = .ok (.iconst 1, 1) := by decide +kernel
theorem dX9_appendText_97 : decode cX9_appendText 97 = .ok (.isub, 1) := by decide +kernel
theorem dX9_appendText_98 : decode cX9_appendText 98 = .ok (.istore 5, 2) := by decide +kernel
theorem dX9_appendText_100 : decode cX9_appendText 100 = .ok (.iload 5, 2) := by decide +kernel
theorem dX9_appendText_102 : decode cX9_appendText 102 = .ok (.ifCond .lt 40, 3) := by decide +kernel
theorem dX9_appendText_105 : decode cX9_appendText 105 = .ok (.aload_n 0, 1) := by decide +kernel
theorem dX9_appendText_106 : decode cX9_appendText 106 = .ok (.getfield 19, 3) := by decide +kernel
theorem dX9_appendText_109 : decode cX9_appendText 109 = .ok (.aload_n 0, 1) := by decide +kernel
theorem dX9_appendText_110 : decode cX9_appendText 110 = .ok (.getfield 124, 3) := by decide +kernel
theorem dX9_appendText_113 : decode cX9_appendText 113 = .ok (.lload_n 1, 1) := by decide +kernel
theorem dX9_appendText_114 : decode cX9_appendText 114 = .ok (.bipush 8, 2) := by decide +kernel
theorem dX9_appendText_116 : decode cX9_appendText 116 = .ok (.iload 5, 2) := by decide +kernel
theorem dX9_appendText_118 : decode cX9_appendText 118 = .ok (.imul, 1) := by decide +kernel
theorem dX9_appendText_119 : decode cX9_appendText 119 = .ok (.lshr, 1) := by decide +kernel
theorem dX9_appendText_120 : decode cX9_appendText 120 = .ok (.ldc2_w 122, 3) := by decide +kernel
theorem dX9_appendText_123 : decode cX9_appendText 123 = .ok (.land, 1) := by decide +kernel
theorem dX9_appendText_124 : decode cX9_appendText 124 = .ok (.l2i, 1) := by decide +kernel
theorem dX9_appendText_125 : decode cX9_appendText 125 = .ok (.iastore, 1) := by decide +kernel
theorem dX9_appendText_126 : decode cX9_appendText 126 = .ok (.aload_n 0, 1) := by decide +kernel
theorem dX9_appendText_127 : decode cX9_appendText 127 = .ok (.dup, 1) := by decide +kernel
theorem dX9_appendText_128 : decode cX9_appendText 128 = .ok (.getfield 124, 3) := by decide +kernel
theorem dX9_appendText_131 : decode cX9_appendText 131 = .ok (.iconst 1, 1) := by decide +kernel
theorem dX9_appendText_132 : decode cX9_appendText 132 = .ok (.iadd, 1) := by decide +kernel
theorem dX9_appendText_133 : decode cX9_appendText 133 = .ok (.putfield 124, 3) := by decide +kernel
theorem dX9_appendText_136 : decode cX9_appendText 136 = .ok (.iinc 5 (-1), 3) := by decide +kernel
theorem dX9_appendText_139 : decode cX9_appendText 139 = .ok (.goto (-39), 3) := by decide +kernel
theorem dX9_appendText_142 : decode cX9_appendText 142 = .ok (.aload_n 0, 1) := by decide +kernel
theorem dX9_appendText_143 : decode cX9_appendText 143 = .ok (.getfield 124, 3) := by decide +kernel
theorem dX9_appendText_146 : decode cX9_appendText 146 = .ok (.ireturn, 1) := by decide +kernel
theorem dX9_clearText_0 : decode cX9_clearText 0 = .ok (.aload_n 0, 1) := by decide +kernel
theorem dX9_clearText_1 : decode cX9_clearText 1 = .ok (.iconst 0, 1) := by decide +kernel
theorem dX9_clearText_2 : decode cX9_clearText 2 = .ok (.putfield 25, 3) := by decide +kernel
theorem dX9_clearText_5 : decode cX9_clearText 5 = .ok (.aload_n 0, 1) := by decide +kernel
theorem dX9_clearText_6 : decode cX9_clearText 6 = .ok (.getfield 124, 3) := by decide +kernel
theorem dX9_clearText_9 : decode cX9_clearText 9 = .ok (.istore_n 1, 1) := by decide +kernel
theorem dX9_clearText_10 : decode cX9_clearText 10 = .ok (.aload_n 0, 1) := by decide +kernel
theorem dX9_clearText_11 : decode cX9_clearText 11 = .ok (.iconst 0, 1) := by decide +kernel
theorem dX9_clearText_12 : decode cX9_clearText 12 = .ok (.putfield 124, 3) := by decide +kernel
theorem dX9_clearText_15 : decode cX9_clearText 15 = .ok (.iload_n 1, 1) := by decide +kernel
theorem dX9_clearText_16 : decode cX9_clearText 16 = .ok (.ireturn, 1) := by decide +kernel
theorem dX9_textLength_0 : decode cX9_textLength 0 = .ok (.aload_n 0, 1) := by decide +kernel
theorem dX9_textLength_1 : decode cX9_textLength 1 = .ok (.iconst 0, 1) := by decide +kernel
theorem dX9_textLength_2 : decode cX9_textLength 2 = .ok (.putfield 25, 3) := by decide +kernel
theorem dX9_textLength_5 : decode cX9_textLength 5 = .ok (.aload_n 0, 1) := by decide +kernel
theorem dX9_textLength_6 : decode cX9_textLength 6 = .ok (.getfield 124, 3) := by decide +kernel
theorem dX9_textLength_9 : decode cX9_textLength 9 = .ok (.ireturn, 1) := by decide +kernel
set_option maxRecDepth 20000 in
theorem ggX9_takes_X9_in : GoodIn wsX9_takes wsX9_in := goodIn_r _ [8] (by decide +kernel) (by decide +kernel)
set_option maxRecDepth 20000 in
theorem gX9_takes_X9_in : GoodIn wsX9_takes (va_wsS RX9 29 yX9_in wsX9_in) := goodIn_app (goodIn_of _ (by decide +kernel)) ggX9_takes_X9_in
theorem dX9_takes_0 : decode cX9_takes 0 = .ok (.aload_n 0, 1) := by decide +kernel
theorem dX9_takes_1 : decode cX9_takes 1 = .ok (.getfield 127, 3) := by decide +kernel
theorem dX9_takes_4 : decode cX9_takes 4 = .ok (.ifCond .ne 35, 3) := by decide +kernel
theorem dX9_takes_7 : decode cX9_takes 7 = .ok (.aload_n 0, 1) := by decide +kernel
theorem dX9_takes_8 : decode cX9_takes 8 = .ok (.getfield 131, 3) := by decide +kernel
theorem dX9_takes_11 : decode cX9_takes 11 = .ok (.aload_n 0, 1) := by decide +kernel
theorem dX9_takes_12 : decode cX9_takes 12 = .ok (.getfield 124, 3) := by decide +kernel
theorem dX9_takes_15 : decode cX9_takes 15 = .ok (.if_icmp .ge 24, 3) := by decide +kernel
theorem dX9_takes_18 : decode cX9_takes 18 = .ok (.aload_n 0, 1) := by decide +kernel
theorem dX9_takes_19 : decode cX9_takes 19 = .ok (.getfield 19, 3) := by decide +kernel
theorem dX9_takes_22 : decode cX9_takes 22 = .ok (.aload_n 0, 1) := by decide +kernel
theorem dX9_takes_23 : decode cX9_takes 23 = .ok (.getfield 131, 3) := by decide +kernel
theorem dX9_takes_26 : decode cX9_takes 26 = .ok (.iaload, 1) := by decide +kernel
theorem dX9_takes_27 : decode cX9_takes 27 = .ok (.iload_n 1, 1) := by decide +kernel
theorem dX9_takes_28 : decode cX9_takes 28 = .ok (.iload_n 2, 1) := by decide +kernel
theorem dX9_takes_29 : decode cX9_takes 29 = .ok (.invokestatic 29, 3) := by decide +kernel
theorem dX9_takes_32 : decode cX9_takes 32 = .ok (.ifCond .eq 7, 3) := by decide +kernel
theorem dX9_takes_35 : decode cX9_takes 35 = .ok (.iconst 1, 1) := by decide +kernel
theorem dX9_takes_36 : decode cX9_takes 36 = .ok (.goto 4, 3) := by decide +kernel
theorem dX9_takes_39 : decode cX9_takes 39 = .ok (.iconst 0, 1) := by decide +kernel
theorem dX9_takes_40 : decode cX9_takes 40 = .ok (.istore_n 3, 1) := by decide +kernel
theorem dX9_takes_41 : decode cX9_takes 41 = .ok (.iload_n 3, 1) := by decide +kernel
theorem dX9_takes_42 : decode cX9_takes 42 = .ok (.ifCond .eq 15, 3) := by decide +kernel
theorem dX9_takes_45 : decode cX9_takes 45 = .ok (.aload_n 0, 1) := by decide +kernel
theorem dX9_takes_46 : decode cX9_takes 46 = .ok (.getfield 19, 3) := by decide +kernel
theorem dX9_takes_49 : decode cX9_takes 49 = .ok (.aload_n 0, 1) := by decide +kernel
theorem dX9_takes_50 : decode cX9_takes 50 = .ok (.getfield 131, 3) := by decide +kernel
theorem dX9_takes_53 : decode cX9_takes 53 = .ok (.iaload, 1) := by decide +kernel
theorem dX9_takes_54 : decode cX9_takes 54 = .ok (.goto 4, 3) := by decide +kernel
theorem dX9_takes_57 : decode cX9_takes 57 = .ok (.iload_n 1, 1) := by decide +kernel
theorem dX9_takes_58 : decode cX9_takes 58 = .ok (.istore 4, 2) := by decide +kernel
theorem dX9_takes_60 : decode cX9_takes 60 = .ok (.aload_n 0, 1) := by decide +kernel
theorem dX9_takes_61 : decode cX9_takes 61 = .ok (.dup, 1) := by decide +kernel
theorem dX9_takes_62 : decode cX9_takes 62 = .ok (.getfield 131, 3) := by decide +kernel
theorem dX9_takes_65 : decode cX9_takes 65 = .ok (.iload_n 3, 1) := by decide +kernel
theorem dX9_takes_66 : decode cX9_takes 66 = .ok (.ifCond .eq 7, 3) := by decide +kernel
theorem dX9_takes_69 : decode cX9_takes 69 = .ok (.iconst 1, 1) := by decide +kernel
theorem dX9_takes_70 : decode cX9_takes 70 = .ok (.goto 4, 3) := by decide +kernel
theorem dX9_takes_73 : decode cX9_takes 73 = .ok (.iconst 0, 1) := by decide +kernel
theorem dX9_takes_74 : decode cX9_takes 74 = .ok (.iadd, 1) := by decide +kernel
theorem dX9_takes_75 : decode cX9_takes 75 = .ok (.putfield 131, 3) := by decide +kernel
theorem dX9_takes_78 : decode cX9_takes 78 = .ok (.aload_n 0, 1) := by decide +kernel
theorem dX9_takes_79 : decode cX9_takes 79 = .ok (.aload_n 0, 1) := by decide +kernel
theorem dX9_takes_80 : decode cX9_takes 80 = .ok (.getfield 127, 3) := by decide +kernel
theorem dX9_takes_83 : decode cX9_takes 83 = .ok (.ifCond .ne 7, 3) := by decide +kernel
theorem dX9_takes_86 : decode cX9_takes 86 = .ok (.iload_n 3, 1) := by decide +kernel
theorem dX9_takes_87 : decode cX9_takes 87 = .ok (.ifCond .ne 7, 3) := by decide +kernel
theorem dX9_takes_90 : decode cX9_takes 90 = .ok (.iconst 1, 1) := by decide +kernel
theorem dX9_takes_91 : decode cX9_takes 91 = .ok (.goto 4, 3) := by decide +kernel
theorem dX9_takes_94 : decode cX9_takes 94 = .ok (.iconst 0, 1) := by decide +kernel
theorem dX9_takes_95 : decode cX9_takes 95 = .ok (.putfield 127, 3) := by decide +kernel
theorem dX9_takes_98 : decode cX9_takes 98 = .ok (.iload 4, 2) := by decide +kernel
theorem dX9_takes_100 : decode cX9_takes 100 = .ok (.ireturn, 1) := by decide +kernel
set_option maxRecDepth 20000 in
theorem ggX9_number_X9_takes : GoodIn wsX9_number wsX9_takes := goodIn_r _ [9, 1, 2, 3, 4, 10, 11, 8, 12, 13, 14, 15, 16, 17, 18, 19, 20, 21, 22, 23, 24, 25, 26, 27] (by decide +kernel) (by decide +kernel)
set_option maxRecDepth 20000 in
theorem gX9_number_X9_takes : GoodIn wsX9_number (wsV RX9 134 RX9 yX9_takes wsX9_takes) := goodIn_app (goodIn_of _ (by decide +kernel)) ggX9_number_X9_takes
set_option maxRecDepth 20000 in
theorem ggX9_number_X9_in : GoodIn wsX9_number wsX9_in := goodIn_r _ [12] (by decide +kernel) (by decide +kernel)
set_option maxRecDepth 20000 in
theorem gX9_number_X9_in : GoodIn wsX9_number (va_wsS RX9 29 yX9_in wsX9_in) := goodIn_app (goodIn_of _ (by decide +kernel)) ggX9_number_X9_in
theorem dX9_number_0 : decode cX9_number 0 = .ok (.aload_n 0, 1) := by decide +kernel
theorem dX9_number_1 : decode cX9_number 1 = .ok (.bipush 48, 2) := by decide +kernel
theorem dX9_number_3 : decode cX9_number 3 = .ok (.bipush 57, 2) := by decide +kernel
theorem dX9_number_5 : decode cX9_number 5 = .ok (.invokevirtual 134, 3) := by decide +kernel
theorem dX9_number_8 : decode cX9_number 8 = .ok (.bipush 48, 2) := by decide +kernel
theorem dX9_number_10 : decode cX9_number 10 = .ok (.isub, 1) := by decide +kernel
theorem dX9_number_11 : decode cX9_number 11 = .ok (.istore_n 1, 1) := by decide +kernel
theorem dX9_number_12 : decode cX9_number 12 = .ok (.aload_n 0, 1) := by decide +kernel
theorem dX9_number_13 : decode cX9_number 13 = .ok (.getfield 127, 3) := by decide +kernel
theorem dX9_number_16 : decode cX9_number 16 = .ok (.ifCond .ne 54, 3) := by decide +kernel
theorem dX9_number_19 : decode cX9_number 19 = .ok (.iload_n 1, 1) := by decide +kernel
theorem dX9_number_20 : decode cX9_number 20 = .ok (.ifCond .le 50, 3) := by decide +kernel
theorem dX9_number_23 : decode cX9_number 23 = .ok (.aload_n 0, 1) := by decide +kernel
theorem dX9_number_24 : decode cX9_number 24 = .ok (.getfield 131, 3) := by decide +kernel
theorem dX9_number_27 : decode cX9_number 27 = .ok (.aload_n 0, 1) := by decide +kernel
theorem dX9_number_28 : decode cX9_number 28 = .ok (.getfield 124, 3) := by decide +kernel
theorem dX9_number_31 : decode cX9_number 31 = .ok (.if_icmp .ge 39, 3) := by decide +kernel
theorem dX9_number_34 : decode cX9_number 34 = .ok (.aload_n 0, 1) := by decide +kernel
theorem dX9_number_35 : decode cX9_number 35 = .ok (.getfield 19, 3) := by decide +kernel
theorem dX9_number_38 : decode cX9_number 38 = .ok (.aload_n 0, 1) := by decide +kernel
theorem dX9_number_39 : decode cX9_number 39 = .ok (.getfield 131, 3) := by decide +kernel
theorem dX9_number_42 : decode cX9_number 42 = .ok (.iaload, 1) := by decide +kernel
theorem dX9_number_43 : decode cX9_number 43 = .ok (.bipush 48, 2) := by decide +kernel
theorem dX9_number_45 : decode cX9_number 45 = .ok (.bipush 57, 2) := by decide +kernel
theorem dX9_number_47 : decode cX9_number 47 = .ok (.invokestatic 29, 3) := by decide +kernel
theorem dX9_number_50 : decode cX9_number 50 = .ok (.ifCond .eq 20, 3) := by decide +kernel
theorem dX9_number_53 : decode cX9_number 53 = .ok (.bipush 10, 2) := by decide +kernel
theorem dX9_number_55 : decode cX9_number 55 = .ok (.iload_n 1, 1) := by decide +kernel
theorem dX9_number_56 : decode cX9_number 56 = .ok (.imul, 1) := by decide +kernel
theorem dX9_number_57 : decode cX9_number 57 = .ok (.aload_n 0, 1) := by decide +kernel
theorem dX9_number_58 : decode cX9_number 58 = .ok (.bipush 48, 2) := by decide +kernel
theorem dX9_number_60 : decode cX9_number 60 = .ok (.bipush 57, 2) := by decide +kernel
theorem dX9_number_62 : decode cX9_number 62 = .ok (.invokevirtual 134, 3) := by decide +kernel
theorem dX9_number_65 : decode cX9_number 65 = .ok (.iadd, 1) := by decide +kernel
theorem dX9_number_66 : decode cX9_number 66 = .ok (.bipush 48, 2) := by decide +kernel
theorem dX9_number_68 : decode cX9_number 68 = .ok (.isub, 1) := by decide +kernel
theorem dX9_number_69 : decode cX9_number 69 = .ok (.istore_n 1, 1) := by decide +kernel
theorem dX9_number_70 : decode cX9_number 70 = .ok (.iload_n 1, 1) := by decide +kernel
theorem dX9_number_71 : decode cX9_number 71 = .ok (.ireturn, 1) := by decide +kernel
set_option maxRecDepth 20000 in
theorem ggX9_readCommand_X9_number : GoodIn wsX9_readCommand wsX9_number := goodIn_r _ [12, 5, 1, 2, 3, 13, 14, 15, 11, 16, 17, 18, 19, 20, 21, 22, 23, 24, 25, 26, 27, 28, 29, 30, 31, 32, 33, 34] (by decide +kernel) (by decide +kernel)
set_option maxRecDepth 20000 in
theorem gX9_readCommand_X9_number : GoodIn wsX9_readCommand (wsV RX9 140 RX9 yX9_number wsX9_number) := goodIn_app (goodIn_of _ (by decide +kernel)) ggX9_readCommand_X9_number
set_option maxRecDepth 20000 in
theorem ggX9_readCommand_X9_takes : GoodIn wsX9_readCommand wsX9_takes := goodIn_r _ [16, 5, 1, 2, 3, 17, 18, 11, 19, 20, 21, 22, 23, 24, 25, 26, 27, 28, 29, 30, 31, 32, 33, 34] (by decide +kernel) (by decide +kernel)
set_option maxRecDepth 20000 in
theorem gX9_readCommand_X9_takes : GoodIn wsX9_readCommand (wsV RX9 134 RX9 yX9_takes wsX9_takes) := goodIn_app (goodIn_of _ (by decide +kernel)) ggX9_readCommand_X9_takes
theorem dX9_readCommand_0 : decode cX9_readCommand 0 = .ok (.aload_n 0, 1) := by decide +kernel
theorem dX9_readCommand_1 : decode cX9_readCommand 1 = .ok (.aload_n 0, 1) := by decide +kernel
theorem dX9_readCommand_2 : decode cX9_readCommand 2 = .ok (.getfield 131, 3) := by decide +kernel
theorem dX9_readCommand_5 : decode cX9_readCommand 5 = .ok (.aload_n 0, 1) := by decide +kernel
theorem dX9_readCommand_6 : decode cX9_readCommand 6 = .ok (.getfield 124, 3) := by decide +kernel
theorem dX9_readCommand_9 : decode cX9_readCommand 9 = .ok (.if_icmp .ge 15, 3) := by decide +kernel
theorem dX9_readCommand_12 : decode cX9_readCommand 12 = .ok (.aload_n 0, 1) := by decide +kernel
theorem dX9_readCommand_13 : decode cX9_readCommand 13 = .ok (.getfield 19, 3) := by decide +kernel
theorem dX9_readCommand_16 : decode cX9_readCommand 16 = .ok (.aload_n 0, 1) := by decide +kernel
theorem dX9_readCommand_17 : decode cX9_readCommand 17 = .ok (.getfield 131, 3) := by decide +kernel
theorem dX9_readCommand_20 : decode cX9_readCommand 20 = .ok (.iaload, 1) := by decide +kernel
theorem dX9_readCommand_21 : decode cX9_readCommand 21 = .ok (.goto 4, 3) := by decide +kernel
theorem dX9_readCommand_24 : decode cX9_readCommand 24 = .ok (.iconst 0, 1) := by decide +kernel
theorem dX9_readCommand_25 : decode cX9_readCommand 25 = .ok (.putfield 137, 3) := by decide +kernel
theorem dX9_readCommand_28 : decode cX9_readCommand 28 = .ok (.aload_n 0, 1) := by decide +kernel
theorem dX9_readCommand_29 : decode cX9_readCommand 29 = .ok (.getfield 137, 3) := by decide +kernel
theorem dX9_readCommand_32 : decode cX9_readCommand 32 = .ok (.bipush 112, 2) := by decide +kernel
theorem dX9_readCommand_34 : decode cX9_readCommand 34 = .ok (.if_icmp .eq 63, 3) := by decide +kernel
theorem dX9_readCommand_37 : decode cX9_readCommand 37 = .ok (.aload_n 0, 1) := by decide +kernel
theorem dX9_readCommand_38 : decode cX9_readCommand 38 = .ok (.getfield 137, 3) := by decide +kernel
theorem dX9_readCommand_41 : decode cX9_readCommand 41 = .ok (.bipush 117, 2) := by decide +kernel
theorem dX9_readCommand_43 : decode cX9_readCommand 43 = .ok (.if_icmp .eq 54, 3) := by decide +kernel
theorem dX9_readCommand_46 : decode cX9_readCommand 46 = .ok (.aload_n 0, 1) := by decide +kernel
theorem dX9_readCommand_47 : decode cX9_readCommand 47 = .ok (.getfield 137, 3) := by decide +kernel
theorem dX9_readCommand_50 : decode cX9_readCommand 50 = .ok (.bipush 100, 2) := by decide +kernel
theorem dX9_readCommand_52 : decode cX9_readCommand 52 = .ok (.if_icmp .eq 45, 3) := by decide +kernel
theorem dX9_readCommand_55 : decode cX9_readCommand 55 = .ok (.aload_n 0, 1) := by decide +kernel
theorem dX9_readCommand_56 : decode cX9_readCommand 56 = .ok (.getfield 137, 3) := by decide +kernel
theorem dX9_readCommand_59 : decode cX9_readCommand 59 = .ok (.bipush 108, 2) := by decide +kernel
theorem dX9_readCommand_61 : decode cX9_readCommand 61 = .ok (.if_icmp .eq 36, 3) := by decide +kernel
theorem dX9_readCommand_64 : decode cX9_readCommand 64 = .ok (.aload_n 0, 1) := by decide +kernel
theorem dX9_readCommand_65 : decode cX9_readCommand 65 = .ok (.getfield 137, 3) := by decide +kernel
theorem dX9_readCommand_68 : decode cX9_readCommand 68 = .ok (.bipush 114, 2) := by decide +kernel
theorem dX9_readCommand_70 : decode cX9_readCommand 70 = .ok (.if_icmp .eq 27, 3) := by decide +kernel
theorem dX9_readCommand_73 : decode cX9_readCommand 73 = .ok (.aload_n 0, 1) := by decide +kernel
theorem dX9_readCommand_74 : decode cX9_readCommand 74 = .ok (.getfield 137, 3) := by decide +kernel
theorem dX9_readCommand_77 : decode cX9_readCommand 77 = .ok (.bipush 115, 2) := by decide +kernel
theorem dX9_readCommand_79 : decode cX9_readCommand 79 = .ok (.if_icmp .eq 18, 3) := by decide +kernel
theorem dX9_readCommand_82 : decode cX9_readCommand 82 = .ok (.aload_n 0, 1) := by decide +kernel
theorem dX9_readCommand_83 : decode cX9_readCommand 83 = .ok (.getfield 137, 3) := by decide +kernel
theorem dX9_readCommand_86 : decode cX9_readCommand 86 = .ok (.bipush 120, 2) := by decide +kernel
theorem dX9_readCommand_88 : decode cX9_readCommand 88 = .ok (.if_icmp .eq 9, 3) := by decide +kernel
theorem dX9_readCommand_91 : decode cX9_readCommand 91 = .ok (.aload_n 0, 1) := by decide +kernel
theorem dX9_readCommand_92 : decode cX9_readCommand 92 = .ok (.iconst 1, 1) := by decide +kernel
theorem dX9_readCommand_93 : decode cX9_readCommand 93 = .ok (.putfield 127, 3) := by decide +kernel
theorem dX9_readCommand_96 : decode cX9_readCommand 96 = .ok (.return_, 1) := by decide +kernel
theorem dX9_readCommand_97 : decode cX9_readCommand 97 = .ok (.aload_n 0, 1) := by decide +kernel
theorem dX9_readCommand_98 : decode cX9_readCommand 98 = .ok (.dup, 1) := by decide +kernel
theorem dX9_readCommand_99 : decode cX9_readCommand 99 = .ok (.getfield 131, 3) := by decide +kernel
theorem dX9_readCommand_102 : decode cX9_readCommand 102 = .ok (.iconst 1, 1) := by decide +kernel
theorem dX9_readCommand_103 : decode cX9_readCommand 103 = .ok (.iadd, 1) := by decide +kernel
theorem dX9_readCommand_104 : decode cX9_readCommand 104 = .ok (.putfield 131, 3) := by decide +kernel
theorem dX9_readCommand_107 : decode cX9_readCommand 107 = .ok (.aload_n 0, 1) := by decide +kernel
theorem dX9_readCommand_108 : decode cX9_readCommand 108 = .ok (.getfield 137, 3) := by decide +kernel
theorem dX9_readCommand_111 : decode cX9_readCommand 111 = .ok (.bipush 112, 2) := by decide +kernel
theorem dX9_readCommand_113 : decode cX9_readCommand 113 = .ok (.if_icmp .ne 28, 3) := by decide +kernel
theorem dX9_readCommand_116 : decode cX9_readCommand 116 = .ok (.aload_n 0, 1) := by decide +kernel
theorem dX9_readCommand_117 : decode cX9_readCommand 117 = .ok (.aload_n 0, 1) := by decide +kernel
theorem dX9_readCommand_118 : decode cX9_readCommand 118 = .ok (.invokevirtual 140, 3) := by decide +kernel
theorem dX9_readCommand_121 : decode cX9_readCommand 121 = .ok (.putfield 143, 3) := by decide +kernel
theorem dX9_readCommand_124 : decode cX9_readCommand 124 = .ok (.aload_n 0, 1) := by decide +kernel
theorem dX9_readCommand_125 : decode cX9_readCommand 125 = .ok (.bipush 61, 2) := by decide +kernel
theorem dX9_readCommand_127 : decode cX9_readCommand 127 = .ok (.bipush 61, 2) := by decide +kernel
theorem dX9_readCommand_129 : decode cX9_readCommand 129 = .ok (.invokevirtual 134, 3) := by decide +kernel
theorem dX9_readCommand_132 : decode cX9_readCommand 132 = .ok (.istore_n 1, 1) := by decide +kernel
theorem dX9_readCommand_133 : decode cX9_readCommand 133 = .ok (.aload_n 0, 1) := by decide +kernel
theorem dX9_readCommand_134 : decode cX9_readCommand 134 = .ok (.aload_n 0, 1) := by decide +kernel
theorem dX9_readCommand_135 : decode cX9_readCommand 135 = .ok (.invokevirtual 140, 3) := by decide +kernel
theorem dX9_readCommand_138 : decode cX9_readCommand 138 = .ok (.putfield 146, 3) := by decide +kernel
theorem dX9_readCommand_141 : decode cX9_readCommand 141 = .ok (.return_, 1) := by decide +kernel
set_option maxRecDepth 20000 in
theorem ggX9_does_X9_isPixel : GoodIn wsX9_does wsX9_isPixel := goodIn_r _ [8, 9, 10, 7, 11] (by decide +kernel) (by decide +kernel)
set_option maxRecDepth 20000 in
theorem gX9_does_X9_isPixel : GoodIn wsX9_does (va_wsS RX9 89 yX9_isPixel wsX9_isPixel) := goodIn_app (goodIn_of _ (by decide +kernel)) ggX9_does_X9_isPixel
set_option maxRecDepth 20000 in
theorem ggX9_does_X9_draws : GoodIn wsX9_does wsX9_draws := goodIn_r _ [15, 4, 83, 84, 85, 86, 87, 88, 89, 90, 91, 92, 93, 94, 95, 96, 97] (by decide +kernel) (by decide +kernel)
set_option maxRecDepth 20000 in
theorem gX9_does_X9_draws : GoodIn wsX9_does (wsV RX9 99 RX9 yX9_draws wsX9_draws) := goodIn_app (goodIn_of _ (by decide +kernel)) ggX9_does_X9_draws
set_option maxRecDepth 20000 in
theorem ggX9_does_X9_sends : GoodIn wsX9_does wsX9_sends := goodIn_r _ [19, 20, 4, 21, 22, 23, 7, 24, 25, 26, 27, 28, 29, 30, 31, 32, 33, 34, 35, 36, 37, 38, 39, 40, 41, 42, 43, 44, 45, 46, 47, 48, 49, 50, 51, 52, 53, 54, 55, 56, 57, 58, 59, 60, 61, 62, 63, 64, 65, 66, 67, 68, 69, 70, 71, 72, 73, 74, 75, 76, 77, 78, 83, 84, 85, 86, 87, 88, 89, 90, 91, 92, 93, 94, 95, 96, 97] (by decide +kernel) (by decide +kernel)
set_option maxRecDepth 20000 in
theorem gX9_does_X9_sends : GoodIn wsX9_does (wsV RX9 105 RX9 yX9_sends wsX9_sends) := goodIn_app (goodIn_of _ (by decide +kernel)) ggX9_does_X9_sends
set_option maxRecDepth 20000 in
theorem ggX9_does_X9_scrolls : GoodIn wsX9_does wsX9_scrolls := goodIn_r _ [82, 20, 4, 56, 57, 7, 58, 59, 60, 61, 83, 84, 85, 86, 87, 88, 89, 90, 91, 92, 93, 94, 95, 96, 97] (by decide +kernel) (by decide +kernel)
set_option maxRecDepth 20000 in
theorem gX9_does_X9_scrolls : GoodIn wsX9_does (wsV RX9 102 RX9 yX9_scrolls wsX9_scrolls) := goodIn_app (goodIn_of _ (by decide +kernel)) ggX9_does_X9_scrolls
theorem dX9_does_0 : decode cX9_does 0 = .ok (.aload_n 0, 1) := by decide +kernel
theorem dX9_does_1 : decode cX9_does 1 = .ok (.getfield 137, 3) := by decide +kernel
theorem dX9_does_4 : decode cX9_does 4 = .ok (.bipush 115, 2) := by decide +kernel
theorem dX9_does_6 : decode cX9_does 6 = .ok (.if_icmp .eq 12, 3) := by decide +kernel
theorem dX9_does_9 : decode cX9_does 9 = .ok (.aload_n 0, 1) := by decide +kernel
theorem dX9_does_10 : decode cX9_does 10 = .ok (.getfield 137, 3) := by decide +kernel
theorem dX9_does_13 : decode cX9_does 13 = .ok (.bipush 120, 2) := by decide +kernel
theorem dX9_does_15 : decode cX9_does 15 = .ok (.if_icmp .ne 7, 3) := by decide +kernel
theorem dX9_does_18 : decode cX9_does 18 = .ok (.iconst 1, 1) := by decide +kernel
theorem dX9_does_19 : decode cX9_does 19 = .ok (.goto 4, 3) := by decide +kernel
theorem dX9_does_22 : decode cX9_does 22 = .ok (.iconst 0, 1) := by decide +kernel
theorem dX9_does_23 : decode cX9_does 23 = .ok (.istore_n 1, 1) := by decide +kernel
theorem dX9_does_24 : decode cX9_does 24 = .ok (.aload_n 0, 1) := by decide +kernel
theorem dX9_does_25 : decode cX9_does 25 = .ok (.getfield 137, 3) := by decide +kernel
theorem dX9_does_28 : decode cX9_does 28 = .ok (.bipush 112, 2) := by decide +kernel
theorem dX9_does_30 : decode cX9_does 30 = .ok (.if_icmp .ne 22, 3) := by decide +kernel
theorem dX9_does_33 : decode cX9_does 33 = .ok (.aload_n 0, 1) := by decide +kernel
theorem dX9_does_34 : decode cX9_does 34 = .ok (.getfield 143, 3) := by decide +kernel
theorem dX9_does_37 : decode cX9_does 37 = .ok (.invokestatic 89, 3) := by decide +kernel
theorem dX9_does_40 : decode cX9_does 40 = .ok (.ifCond .eq 30, 3) := by decide +kernel
theorem dX9_does_43 : decode cX9_does 43 = .ok (.aload_n 0, 1) := by decide +kernel
theorem dX9_does_44 : decode cX9_does 44 = .ok (.getfield 146, 3) := by decide +kernel
theorem dX9_does_47 : decode cX9_does 47 = .ok (.bipush 15, 2) := by decide +kernel
theorem dX9_does_49 : decode cX9_does 49 = .ok (.if_icmp .gt 21, 3) := by decide +kernel
theorem dX9_does_52 : decode cX9_does 52 = .ok (.iload_n 1, 1) := by decide +kernel
theorem dX9_does_53 : decode cX9_does 53 = .ok (.ifCond .eq 19, 3) := by decide +kernel
theorem dX9_does_56 : decode cX9_does 56 = .ok (.aload_n 0, 1) := by decide +kernel
theorem dX9_does_57 : decode cX9_does 57 = .ok (.getfield 7, 3) := by decide +kernel
theorem dX9_does_60 : decode cX9_does 60 = .ok (.sipush 194, 3) := by decide +kernel
theorem dX9_does_63 : decode cX9_does 63 = .ok (.iaload, 1) := by decide +kernel
theorem dX9_does_64 : decode cX9_does 64 = .ok (.sipush 999, 3) := by decide +kernel
theorem dX9_does_67 : decode cX9_does 67 = .ok (.if_icmp .ne 5, 3) := by decide +kernel
theorem dX9_does_70 : decode cX9_does 70 = .ok (.iconst 0, 1) := by decide +kernel
theorem dX9_does_71 : decode cX9_does 71 = .ok (.ireturn, 1) := by decide +kernel
theorem dX9_does_72 : decode cX9_does 72 = .ok (.aload_n 0, 1) := by decide +kernel
theorem dX9_does_73 : decode cX9_does 73 = .ok (.getfield 137, 3) := by decide +kernel
theorem dX9_does_76 : decode cX9_does 76 = .ok (.bipush 112, 2) := by decide +kernel
theorem dX9_does_78 : decode cX9_does 78 = .ok (.if_icmp .ne 18, 3) := by decide +kernel
theorem dX9_does_81 : decode cX9_does 81 = .ok (.aload_n 0, 1) := by decide +kernel
theorem dX9_does_82 : decode cX9_does 82 = .ok (.aload_n 0, 1) := by decide +kernel
theorem dX9_does_83 : decode cX9_does 83 = .ok (.getfield 143, 3) := by decide +kernel
theorem dX9_does_86 : decode cX9_does 86 = .ok (.aload_n 0, 1) := by decide +kernel
theorem dX9_does_87 : decode cX9_does 87 = .ok (.getfield 146, 3) := by decide +kernel
theorem dX9_does_90 : decode cX9_does 90 = .ok (.invokevirtual 99, 3) := by decide +kernel
theorem dX9_does_93 : decode cX9_does 93 = .ok (.goto 86, 3) := by decide +kernel
theorem dX9_does_96 : decode cX9_does 96 = .ok (.iload_n 1, 1) := by decide +kernel
theorem dX9_does_97 : decode cX9_does 97 = .ok (.ifCond .eq 24, 3) := by decide +kernel
theorem dX9_does_100 : decode cX9_does 100 = .ok (.aload_n 0, 1) := by decide +kernel
theorem dX9_does_101 : decode cX9_does 101 = .ok (.aload_n 0, 1) := by decide +kernel
theorem dX9_does_102 : decode cX9_does 102 = .ok (.getfield 137, 3) := by decide +kernel
theorem dX9_does_105 : decode cX9_does 105 = .ok (.bipush 120, 2) := by decide +kernel
theorem dX9_does_107 : decode cX9_does 107 = .ok (.if_icmp .ne 7, 3) := by decide +kernel
theorem dX9_does_110 : decode cX9_does 110 = .ok (.iconst 1, 1) := by decide +kernel
theorem dX9_does_111 : decode cX9_does 111 = .ok (.goto 4, 3) := by decide +kernel
theorem dX9_does_114 : decode cX9_does 114 = .ok (.iconst 0, 1) := by decide +kernel
theorem dX9_does_115 : decode cX9_does 115 = .ok (.invokevirtual 105, 3) := by decide +kernel
theorem dX9_does_118 : decode cX9_does 118 = .ok (.goto 61, 3) := by decide +kernel
theorem dX9_does_121 : decode cX9_does 121 = .ok (.aload_n 0, 1) := by decide +kernel
theorem dX9_does_122 : decode cX9_does 122 = .ok (.aload_n 0, 1) := by decide +kernel
theorem dX9_does_123 : decode cX9_does 123 = .ok (.getfield 137, 3) := by decide +kernel
theorem dX9_does_126 : decode cX9_does 126 = .ok (.bipush 117, 2) := by decide +kernel
theorem dX9_does_128 : decode cX9_does 128 = .ok (.if_icmp .ne 7, 3) := by decide +kernel
theorem dX9_does_131 : decode cX9_does 131 = .ok (.iconst 1, 1) := by decide +kernel
theorem dX9_does_132 : decode cX9_does 132 = .ok (.goto 17, 3) := by decide +kernel
theorem dX9_does_135 : decode cX9_does 135 = .ok (.aload_n 0, 1) := by decide +kernel
theorem dX9_does_136 : decode cX9_does 136 = .ok (.getfield 137, 3) := by decide +kernel
theorem dX9_does_139 : decode cX9_does 139 = .ok (.bipush 100, 2) := by decide +kernel
theorem dX9_does_141 : decode cX9_does 141 = .ok (.if_icmp .ne 7, 3) := by decide +kernel
theorem dX9_does_144 : decode cX9_does 144 = .ok (.iconst (-1), 1) := by decide +kernel
theorem dX9_does_145 : decode cX9_does 145 = .ok (.goto 4, 3) := by decide +kernel
theorem dX9_does_148 : decode cX9_does 148 = .ok (.iconst 0, 1) := by decide +kernel
theorem dX9_does_149 : decode cX9_does 149 = .ok (.aload_n 0, 1) := by decide +kernel
theorem dX9_does_150 : decode cX9_does 150 = .ok (.getfield 137, 3) := by decide +kernel
theorem dX9_does_153 : decode cX9_does 153 = .ok (.bipush 108, 2) := by decide +kernel
theorem dX9_does_155 : decode cX9_does 155 = .ok (.if_icmp .ne 7, 3) := by decide +kernel
theorem dX9_does_158 : decode cX9_does 158 = .ok (.iconst 1, 1) := by decide +kernel
theorem dX9_does_159 : decode cX9_does 159 = .ok (.goto 17, 3) := by decide +kernel
theorem dX9_does_162 : decode cX9_does 162 = .ok (.aload_n 0, 1) := by decide +kernel
theorem dX9_does_163 : decode cX9_does 163 = .ok (.getfield 137, 3) := by decide +kernel
theorem dX9_does_166 : decode cX9_does 166 = .ok (.bipush 114, 2) := by decide +kernel
theorem dX9_does_168 : decode cX9_does 168 = .ok (.if_icmp .ne 7, 3) := by decide +kernel
theorem dX9_does_171 : decode cX9_does 171 = .ok (.iconst (-1), 1) := by decide +kernel
theorem dX9_does_172 : decode cX9_does 172 = .ok (.goto 4, 3) := by decide +kernel
theorem dX9_does_175 : decode cX9_does 175 = .ok (.iconst 0, 1) := by decide +kernel
theorem dX9_does_176 : decode cX9_does 176 = .ok (.invokevirtual 102, 3) := by decide +kernel
theorem dX9_does_179 : decode cX9_does 179 = .ok (.istore_n 2, 1) := by decide +kernel
theorem dX9_does_180 : decode cX9_does 180 = .ok (.iconst 1, 1) := by decide +kernel
theorem dX9_does_181 : decode cX9_does 181 = .ok (.ireturn, 1) := by decide +kernel
set_option maxRecDepth 20000 in
theorem ggX9_goesThrough_X9_readCommand : GoodIn wsX9_goesThrough wsX9_readCommand := goodIn_r _ [9, 1, 4, 10, 11, 2, 12, 13, 14, 15, 16, 8, 17, 18, 19, 20, 21, 22, 23, 24, 104, 105, 106, 107, 108, 109, 110, 111, 112, 113, 114, 115, 116, 117, 118] (by decide +kernel) (by decide +kernel)
set_option maxRecDepth 20000 in
theorem gX9_goesThrough_X9_readCommand : GoodIn wsX9_goesThrough (wsV RX9 152 RX9 yX9_readCommand wsX9_readCommand) := goodIn_app (goodIn_of _ (by decide +kernel)) ggX9_goesThrough_X9_readCommand
set_option maxRecDepth 20000 in
theorem ggX9_goesThrough_X9_does : GoodIn wsX9_goesThrough wsX9_does := goodIn_r _ [28, 11, 12, 13, 29, 30, 31, 8, 32, 22, 23, 24, 33, 34, 35, 36, 37, 38, 39, 40, 41, 42, 43, 44, 45, 46, 47, 48, 49, 50, 51, 52, 53, 54, 55, 56, 57, 58, 59, 60, 61, 62, 63, 64, 65, 66, 67, 68, 69, 70, 71, 72, 73, 74, 75, 76, 77, 78, 79, 80, 81, 82, 83, 84, 85, 86, 87, 88, 89, 90, 91, 92, 93, 94, 95, 96, 97, 98, 99, 100, 101, 102, 103, 104, 105, 106, 107, 108, 109, 110, 111, 112, 113, 114, 115, 116, 117, 118] (by decide +kernel) (by decide +kernel)
set_option maxRecDepth 20000 in
theorem gX9_goesThrough_X9_does : GoodIn wsX9_goesThrough (wsV RX9 155 RX9 yX9_does wsX9_does) := goodIn_app (goodIn_of _ (by decide +kernel)) ggX9_goesThrough_X9_does
set_option maxRecDepth 20000 in
theorem ggX9_goesThrough_X9_takes : GoodIn wsX9_goesThrough wsX9_takes := goodIn_r _ [21, 2, 1, 4, 10, 22, 23, 8, 24, 104, 105, 106, 107, 108, 109, 110, 111, 112, 113, 114, 115, 116, 117, 118] (by decide +kernel) (by decide +kernel)
set_option maxRecDepth 20000 in
theorem gX9_goesThrough_X9_takes : GoodIn wsX9_goesThrough (wsV RX9 134 RX9 yX9_takes wsX9_takes) := goodIn_app (goodIn_of _ (by decide +kernel)) ggX9_goesThrough_X9_takes
theorem dX9_goesThrough_0 : decode cX9_goesThrough 0 = .ok (.aload_n 0, 1) := by decide +kernel
theorem dX9_goesThrough_1 : decode cX9_goesThrough 1 = .ok (.iconst 0, 1) := by decide +kernel
theorem dX9_goesThrough_2 : decode cX9_goesThrough 2 = .ok (.putfield 131, 3) := by decide +kernel
theorem dX9_goesThrough_5 : decode cX9_goesThrough 5 = .ok (.aload_n 0, 1) := by decide +kernel
theorem dX9_goesThrough_6 : decode cX9_goesThrough 6 = .ok (.iconst 0, 1) := by decide +kernel
theorem dX9_goesThrough_7 : decode cX9_goesThrough 7 = .ok (.putfield 127, 3) := by decide +kernel
theorem dX9_goesThrough_10 : decode cX9_goesThrough 10 = .ok (.aload_n 0, 1) := by decide +kernel
theorem dX9_goesThrough_11 : decode cX9_goesThrough 11 = .ok (.iconst 0, 1) := by decide +kernel
theorem dX9_goesThrough_12 : decode cX9_goesThrough 12 = .ok (.putfield 149, 3) := by decide +kernel
theorem dX9_goesThrough_15 : decode cX9_goesThrough 15 = .ok (.iload_n 1, 1) := by decide +kernel
theorem dX9_goesThrough_16 : decode cX9_goesThrough 16 = .ok (.istore_n 2, 1) := by decide +kernel
theorem dX9_goesThrough_17 : decode cX9_goesThrough 17 = .ok (.iconst 1, 1) := by decide +kernel
theorem dX9_goesThrough_18 : decode cX9_goesThrough 18 = .ok (.istore_n 3, 1) := by decide +kernel
theorem dX9_goesThrough_19 : decode cX9_goesThrough 19 = .ok (.iload_n 3, 1) := by decide +kernel
theorem dX9_goesThrough_20 : decode cX9_goesThrough 20 = .ok (.ifCond .eq 103, 3) := by decide +kernel
theorem dX9_goesThrough_23 : decode cX9_goesThrough 23 = .ok (.aload_n 0, 1) := by decide +kernel
theorem dX9_goesThrough_24 : decode cX9_goesThrough 24 = .ok (.invokevirtual 152, 3) := by decide +kernel
theorem dX9_goesThrough_27 : decode cX9_goesThrough 27 = .ok (.iload_n 2, 1) := by decide +kernel
theorem dX9_goesThrough_28 : decode cX9_goesThrough 28 = .ok (.ifCond .eq 21, 3) := by decide +kernel
theorem dX9_goesThrough_31 : decode cX9_goesThrough 31 = .ok (.aload_n 0, 1) := by decide +kernel
theorem dX9_goesThrough_32 : decode cX9_goesThrough 32 = .ok (.getfield 127, 3) := by decide +kernel
theorem dX9_goesThrough_35 : decode cX9_goesThrough 35 = .ok (.ifCond .ne 14, 3) := by decide +kernel
theorem dX9_goesThrough_38 : decode cX9_goesThrough 38 = .ok (.aload_n 0, 1) := by decide +kernel
theorem dX9_goesThrough_39 : decode cX9_goesThrough 39 = .ok (.invokevirtual 155, 3) := by decide +kernel
theorem dX9_goesThrough_42 : decode cX9_goesThrough 42 = .ok (.ifCond .eq 7, 3) := by decide +kernel
theorem dX9_goesThrough_45 : decode cX9_goesThrough 45 = .ok (.iconst 1, 1) := by decide +kernel
theorem dX9_goesThrough_46 : decode cX9_goesThrough 46 = .ok (.goto 4, 3) := by decide +kernel
theorem dX9_goesThrough_49 : decode cX9_goesThrough 49 = .ok (.iconst 0, 1) := by decide +kernel
theorem dX9_goesThrough_50 : decode cX9_goesThrough 50 = .ok (.istore_n 2, 1) := by decide +kernel
theorem dX9_goesThrough_51 : decode cX9_goesThrough 51 = .ok (.aload_n 0, 1) := by decide +kernel
theorem dX9_goesThrough_52 : decode cX9_goesThrough 52 = .ok (.dup, 1) := by decide +kernel
theorem dX9_goesThrough_53 : decode cX9_goesThrough 53 = .ok (.getfield 149, 3) := by decide +kernel
theorem dX9_goesThrough_56 : decode cX9_goesThrough 56 = .ok (.iload_n 2, 1) := by decide +kernel
theorem dX9_goesThrough_57 : decode cX9_goesThrough 57 = .ok (.ifCond .eq 7, 3) := by decide +kernel
theorem dX9_goesThrough_60 : decode cX9_goesThrough 60 = .ok (.iconst 1, 1) := by decide +kernel
theorem dX9_goesThrough_61 : decode cX9_goesThrough 61 = .ok (.goto 4, 3) := by decide +kernel
theorem dX9_goesThrough_64 : decode cX9_goesThrough 64 = .ok (.iconst 0, 1) := by decide +kernel
theorem dX9_goesThrough_65 : decode cX9_goesThrough 65 = .ok (.iadd, 1) := by decide +kernel
theorem dX9_goesThrough_66 : decode cX9_goesThrough 66 = .ok (.putfield 149, 3) := by decide +kernel
theorem dX9_goesThrough_69 : decode cX9_goesThrough 69 = .ok (.aload_n 0, 1) := by decide +kernel
theorem dX9_goesThrough_70 : decode cX9_goesThrough 70 = .ok (.getfield 127, 3) := by decide +kernel
theorem dX9_goesThrough_73 : decode cX9_goesThrough 73 = .ok (.ifCond .ne 18, 3) := by decide +kernel
theorem dX9_goesThrough_76 : decode cX9_goesThrough 76 = .ok (.aload_n 0, 1) := by decide +kernel
theorem dX9_goesThrough_77 : decode cX9_goesThrough 77 = .ok (.getfield 131, 3) := by decide +kernel
theorem dX9_goesThrough_80 : decode cX9_goesThrough 80 = .ok (.aload_n 0, 1) := by decide +kernel
theorem dX9_goesThrough_81 : decode cX9_goesThrough 81 = .ok (.getfield 124, 3) := by decide +kernel
theorem dX9_goesThrough_84 : decode cX9_goesThrough 84 = .ok (.if_icmp .ge 7, 3) := by decide +kernel
theorem dX9_goesThrough_87 : decode cX9_goesThrough 87 = .ok (.iconst 1, 1) := by decide +kernel
theorem dX9_goesThrough_88 : decode cX9_goesThrough 88 = .ok (.goto 4, 3) := by decide +kernel
theorem dX9_goesThrough_91 : decode cX9_goesThrough 91 = .ok (.iconst 0, 1) := by decide +kernel
theorem dX9_goesThrough_92 : decode cX9_goesThrough 92 = .ok (.istore_n 3, 1) := by decide +kernel
theorem dX9_goesThrough_93 : decode cX9_goesThrough 93 = .ok (.iload_n 3, 1) := by decide +kernel
theorem dX9_goesThrough_94 : decode cX9_goesThrough 94 = .ok (.ifCond .eq (-75), 3) := by decide +kernel
theorem dX9_goesThrough_97 : decode cX9_goesThrough 97 = .ok (.aload_n 0, 1) := by decide +kernel
theorem dX9_goesThrough_98 : decode cX9_goesThrough 98 = .ok (.bipush 59, 2) := by decide +kernel
theorem dX9_goesThrough_100 : decode cX9_goesThrough 100 = .ok (.bipush 59, 2) := by decide +kernel
theorem dX9_goesThrough_102 : decode cX9_goesThrough 102 = .ok (.invokevirtual 134, 3) := by decide +kernel
theorem dX9_goesThrough_105 : decode cX9_goesThrough 105 = .ok (.istore 4, 2) := by decide +kernel
theorem dX9_goesThrough_107 : decode cX9_goesThrough 107 = .ok (.aload_n 0, 1) := by decide +kernel
theorem dX9_goesThrough_108 : decode cX9_goesThrough 108 = .ok (.getfield 127, 3) := by decide +kernel
theorem dX9_goesThrough_111 : decode cX9_goesThrough 111 = .ok (.ifCond .ne 7, 3) := by decide +kernel
theorem dX9_goesThrough_114 : decode cX9_goesThrough 114 = .ok (.iconst 1, 1) := by decide +kernel
theorem dX9_goesThrough_115 : decode cX9_goesThrough 115 = .ok (.goto 4, 3) := by decide +kernel
theorem dX9_goesThrough_118 : decode cX9_goesThrough 118 = .ok (.iconst 0, 1) := by decide +kernel
theorem dX9_goesThrough_119 : decode cX9_goesThrough 119 = .ok (.istore_n 3, 1) := by decide +kernel
theorem dX9_goesThrough_120 : decode cX9_goesThrough 120 = .ok (.goto (-101), 3) := by decide +kernel
theorem dX9_goesThrough_123 : decode cX9_goesThrough 123 = .ok (.return_, 1) := by decide +kernel
set_option maxRecDepth 20000 in
theorem ggX9_textError_X9_goesThrough : GoodIn wsX9_textError wsX9_goesThrough := goodIn_r _ [8, 3, 2, 9, 10, 11, 12, 13, 7, 14, 15, 16, 17, 18, 19, 20, 21, 22, 23, 24, 25, 26, 27, 28, 29, 30, 31, 32, 33, 34, 35, 36, 37, 38, 39, 40, 41, 42, 43, 44, 45, 46, 47, 48, 49, 50, 51, 52, 53, 54, 55, 56, 57, 58, 59, 60, 61, 62, 63, 64, 65, 66, 67, 68, 69, 70, 71, 72, 73, 74, 75, 76, 77, 78, 79, 80, 81, 82, 83, 84, 85, 86, 87, 88, 89, 90, 91, 92, 93, 94, 95, 96, 97, 98, 99, 100, 101, 102, 103, 104, 105, 106, 107, 108, 109, 110, 111, 112, 113, 114, 115, 116, 117, 118, 119, 120, 121, 122, 123] (by decide +kernel) (by decide +kernel)
set_option maxRecDepth 20000 in
theorem gX9_textError_X9_goesThrough : GoodIn wsX9_textError (wsV RX9 158 RX9 yX9_goesThrough wsX9_goesThrough) := goodIn_app (goodIn_of _ (by decide +kernel)) ggX9_textError_X9_goesThrough
theorem dX9_textError_0 : decode cX9_textError 0 = .ok (.aload_n 0, 1) := by decide +kernel
theorem dX9_textError_1 : decode cX9_textError 1 = .ok (.iconst 0, 1) := by decide +kernel
theorem dX9_textError_2 : decode cX9_textError 2 = .ok (.putfield 25, 3) := by decide +kernel
theorem dX9_textError_5 : decode cX9_textError 5 = .ok (.aload_n 0, 1) := by decide +kernel
theorem dX9_textError_6 : decode cX9_textError 6 = .ok (.iconst 0, 1) := by decide +kernel
theorem dX9_textError_7 : decode cX9_textError 7 = .ok (.invokevirtual 158, 3) := by decide +kernel
theorem dX9_textError_10 : decode cX9_textError 10 = .ok (.aload_n 0, 1) := by decide +kernel
theorem dX9_textError_11 : decode cX9_textError 11 = .ok (.getfield 127, 3) := by decide +kernel
theorem dX9_textError_14 : decode cX9_textError 14 = .ok (.ifCond .eq 10, 3) := by decide +kernel
theorem dX9_textError_17 : decode cX9_textError 17 = .ok (.aload_n 0, 1) := by decide +kernel
theorem dX9_textError_18 : decode cX9_textError 18 = .ok (.getfield 131, 3) := by decide +kernel
theorem dX9_textError_21 : decode cX9_textError 21 = .ok (.goto 4, 3) := by decide +kernel
theorem dX9_textError_24 : decode cX9_textError 24 = .ok (.iconst (-1), 1) := by decide +kernel
theorem dX9_textError_25 : decode cX9_textError 25 = .ok (.ireturn, 1) := by decide +kernel
set_option maxRecDepth 20000 in
theorem ggX9_runText_X9_goesThrough : GoodIn wsX9_runText wsX9_goesThrough := goodIn_r _ [8, 9, 1, 3, 2, 10, 11, 12, 7, 13, 14, 15, 16, 17, 18, 19, 20, 21, 22, 23, 24, 25, 26, 27, 28, 29, 30, 31, 32, 33, 34, 35, 36, 37, 38, 39, 40, 41, 42, 43, 44, 45, 46, 47, 48, 49, 50, 51, 52, 53, 54, 55, 56, 57, 58, 59, 60, 61, 62, 63, 64, 65, 66, 67, 68, 69, 70, 71, 72, 73, 74, 75, 76, 77, 78, 79, 80, 81, 82, 83, 84, 85, 86, 87, 88, 89, 90, 91, 92, 93, 94, 95, 96, 97, 98, 99, 100, 101, 102, 103, 104, 105, 106, 107, 119, 120, 121, 122, 123, 124, 125, 126, 127, 128, 129, 130, 131, 132, 133] (by decide +kernel) (by decide +kernel)
set_option maxRecDepth 20000 in
theorem gX9_runText_X9_goesThrough : GoodIn wsX9_runText (wsV RX9 158 RX9 yX9_goesThrough wsX9_goesThrough) := goodIn_app (goodIn_of _ (by decide +kernel)) ggX9_runText_X9_goesThrough
set_option maxRecDepth 20000 in
theorem ggX9_runText_X9_holds : GoodIn wsX9_runText wsX9_holds := goodIn_r _ [111, 112, 119, 120, 121, 122, 123, 124, 125, 126, 127, 128, 129, 130, 131, 132, 133] (by decide +kernel) (by decide +kernel)
set_option maxRecDepth 20000 in
theorem gX9_runText_X9_holds : GoodIn wsX9_runText (wsV RX9 93 RX9 yX9_holds wsX9_holds) := goodIn_app (goodIn_of _ (by decide +kernel)) ggX9_runText_X9_holds
set_option maxRecDepth 20000 in
theorem ggX9_runText_X9_record : GoodIn wsX9_runText wsX9_record := goodIn_r _ [116, 117, 118, 33, 119, 120, 121, 122, 123, 124, 125, 126, 127, 128, 129, 130, 131, 132, 133] (by decide +kernel) (by decide +kernel)
set_option maxRecDepth 20000 in
theorem gX9_runText_X9_record : GoodIn wsX9_runText (wsV RX9 96 RX9 yX9_record wsX9_record) := goodIn_app (goodIn_of _ (by decide +kernel)) ggX9_runText_X9_record
theorem dX9_runText_0 : decode cX9_runText 0 = .ok (.aload_n 0, 1) := by decide +kernel
theorem dX9_runText_1 : decode cX9_runText 1 = .ok (.iconst 0, 1) := by decide +kernel
theorem dX9_runText_2 : decode cX9_runText 2 = .ok (.invokevirtual 158, 3) := by decide +kernel
theorem dX9_runText_5 : decode cX9_runText 5 = .ok (.aload_n 0, 1) := by decide +kernel
theorem dX9_runText_6 : decode cX9_runText 6 = .ok (.aload_n 0, 1) := by decide +kernel
theorem dX9_runText_7 : decode cX9_runText 7 = .ok (.getfield 127, 3) := by decide +kernel
theorem dX9_runText_10 : decode cX9_runText 10 = .ok (.ifCond .eq 7, 3) := by decide +kernel
theorem dX9_runText_13 : decode cX9_runText 13 = .ok (.iconst 1, 1) := by decide +kernel
theorem dX9_runText_14 : decode cX9_runText 14 = .ok (.goto 4, 3) := by decide +kernel
theorem dX9_runText_17 : decode cX9_runText 17 = .ok (.iconst 0, 1) := by decide +kernel
theorem dX9_runText_18 : decode cX9_runText 18 = .ok (.invokevirtual 93, 3) := by decide +kernel
theorem dX9_runText_21 : decode cX9_runText 21 = .ok (.ifCond .ne 5, 3) := by decide +kernel
theorem dX9_runText_24 : decode cX9_runText 24 = .ok (.iconst 0, 1) := by decide +kernel
theorem dX9_runText_25 : decode cX9_runText 25 = .ok (.ireturn, 1) := by decide +kernel
theorem dX9_runText_26 : decode cX9_runText 26 = .ok (.aload_n 0, 1) := by decide +kernel
theorem dX9_runText_27 : decode cX9_runText 27 = .ok (.invokevirtual 96, 3) := by decide +kernel
theorem dX9_runText_30 : decode cX9_runText 30 = .ok (.aload_n 0, 1) := by decide +kernel
theorem dX9_runText_31 : decode cX9_runText 31 = .ok (.iconst 1, 1) := by decide +kernel
theorem dX9_runText_32 : decode cX9_runText 32 = .ok (.invokevirtual 158, 3) := by decide +kernel
theorem dX9_runText_35 : decode cX9_runText 35 = .ok (.aload_n 0, 1) := by decide +kernel
theorem dX9_runText_36 : decode cX9_runText 36 = .ok (.iconst 0, 1) := by decide +kernel
theorem dX9_runText_37 : decode cX9_runText 37 = .ok (.putfield 124, 3) := by decide +kernel
theorem dX9_runText_40 : decode cX9_runText 40 = .ok (.aload_n 0, 1) := by decide +kernel
theorem dX9_runText_41 : decode cX9_runText 41 = .ok (.getfield 149, 3) := by decide +kernel
theorem dX9_runText_44 : decode cX9_runText 44 = .ok (.ireturn, 1) := by decide +kernel
set_option maxRecDepth 20000 in
theorem ggX9_undo_X9_holds : GoodIn wsX9_undo wsX9_holds := goodIn_r _ [8, 9, 10, 11, 12, 13, 14, 15, 16, 17, 18, 19, 20, 21, 22, 23, 24] (by decide +kernel) (by decide +kernel)
set_option maxRecDepth 20000 in
theorem gX9_undo_X9_holds : GoodIn wsX9_undo (wsV RX9 93 RX9 yX9_holds wsX9_holds) := goodIn_app (goodIn_of _ (by decide +kernel)) ggX9_undo_X9_holds
theorem dX9_undo_0 : decode cX9_undo 0 = .ok (.aload_n 0, 1) := by decide +kernel
theorem dX9_undo_1 : decode cX9_undo 1 = .ok (.aload_n 0, 1) := by decide +kernel
theorem dX9_undo_2 : decode cX9_undo 2 = .ok (.getfield 33, 3) := by decide +kernel
theorem dX9_undo_5 : decode cX9_undo 5 = .ok (.ifCond .le 7, 3) := by decide +kernel
theorem dX9_undo_8 : decode cX9_undo 8 = .ok (.iconst 0, 1) := by decide +kernel
theorem dX9_undo_9 : decode cX9_undo 9 = .ok (.goto 4, 3) := by decide +kernel
theorem dX9_undo_12 : decode cX9_undo 12 = .ok (.iconst 1, 1) := by decide +kernel
theorem dX9_undo_13 : decode cX9_undo 13 = .ok (.invokevirtual 93, 3) := by decide +kernel
theorem dX9_undo_16 : decode cX9_undo 16 = .ok (.ifCond .ne 5, 3) := by decide +kernel
theorem dX9_undo_19 : decode cX9_undo 19 = .ok (.iconst 0, 1) := by decide +kernel
theorem dX9_undo_20 : decode cX9_undo 20 = .ok (.ireturn, 1) := by decide +kernel
theorem dX9_undo_21 : decode cX9_undo 21 = .ok (.aload_n 0, 1) := by decide +kernel
theorem dX9_undo_22 : decode cX9_undo 22 = .ok (.dup, 1) := by decide +kernel
theorem dX9_undo_23 : decode cX9_undo 23 = .ok (.getfield 33, 3) := by decide +kernel
theorem dX9_undo_26 : decode cX9_undo 26 = .ok (.iconst 1, 1) := by decide +kernel
theorem dX9_undo_27 : decode cX9_undo 27 = .ok (.isub, 1) := by decide +kernel
theorem dX9_undo_28 : decode cX9_undo 28 = .ok (.putfield 33, 3) := by decide +kernel
theorem dX9_undo_31 : decode cX9_undo 31 = .ok (.iconst 0, 1) := by decide +kernel
theorem dX9_undo_32 : decode cX9_undo 32 = .ok (.istore_n 1, 1) := by decide +kernel
theorem dX9_undo_33 : decode cX9_undo 33 = .ok (.iload_n 1, 1) := by decide +kernel
theorem dX9_undo_34 : decode cX9_undo 34 = .ok (.sipush 205, 3) := by decide +kernel
theorem dX9_undo_37 : decode cX9_undo 37 = .ok (.if_icmp .ge 30, 3) := by decide +kernel
theorem dX9_undo_40 : decode cX9_undo 40 = .ok (.aload_n 0, 1) := by decide +kernel
theorem dX9_undo_41 : decode cX9_undo 41 = .ok (.getfield 7, 3) := by decide +kernel
theorem dX9_undo_44 : decode cX9_undo 44 = .ok (.iload_n 1, 1) := by decide +kernel
theorem dX9_undo_45 : decode cX9_undo 45 = .ok (.aload_n 0, 1) := by decide +kernel
theorem dX9_undo_46 : decode cX9_undo 46 = .ok (.getfield 13, 3) := by decide +kernel
theorem dX9_undo_49 : decode cX9_undo 49 = .ok (.sipush 205, 3) := by decide +kernel
theorem dX9_undo_52 : decode cX9_undo 52 = .ok (.aload_n 0, 1) := by decide +kernel
theorem dX9_undo_53 : decode cX9_undo 53 = .ok (.getfield 33, 3) := by decide +kernel
theorem dX9_undo_56 : decode cX9_undo 56 = .ok (.imul, 1) := by decide +kernel
theorem dX9_undo_57 : decode cX9_undo 57 = .ok (.iload_n 1, 1) := by decide +kernel
theorem dX9_undo_58 : decode cX9_undo 58 = .ok (.iadd, 1) := by decide +kernel
theorem dX9_undo_59 : decode cX9_undo 59 = .ok (.iaload, 1) := by decide +kernel
theorem dX9_undo_60 : decode cX9_undo 60 = .ok (.iastore, 1) := by decide +kernel
theorem dX9_undo_61 : decode cX9_undo 61 = .ok (.iinc 1 1, 3) := by decide +kernel
theorem dX9_undo_64 : decode cX9_undo 64 = .ok (.goto (-31), 3) := by decide +kernel
theorem dX9_undo_67 : decode cX9_undo 67 = .ok (.aload_n 0, 1) := by decide +kernel
theorem dX9_undo_68 : decode cX9_undo 68 = .ok (.getfield 33, 3) := by decide +kernel
theorem dX9_undo_71 : decode cX9_undo 71 = .ok (.ireturn, 1) := by decide +kernel
theorem dX9_undoCount_0 : decode cX9_undoCount 0 = .ok (.aload_n 0, 1) := by decide +kernel
theorem dX9_undoCount_1 : decode cX9_undoCount 1 = .ok (.iconst 0, 1) := by decide +kernel
theorem dX9_undoCount_2 : decode cX9_undoCount 2 = .ok (.putfield 25, 3) := by decide +kernel
theorem dX9_undoCount_5 : decode cX9_undoCount 5 = .ok (.aload_n 0, 1) := by decide +kernel
theorem dX9_undoCount_6 : decode cX9_undoCount 6 = .ok (.getfield 33, 3) := by decide +kernel
theorem dX9_undoCount_9 : decode cX9_undoCount 9 = .ok (.ireturn, 1) := by decide +kernel
set_option maxRecDepth 20000 in
theorem ggX9_saveState_X9_in : GoodIn wsX9_saveState wsX9_in := goodIn_r _ [7] (by decide +kernel) (by decide +kernel)
set_option maxRecDepth 20000 in
theorem gX9_saveState_X9_in : GoodIn wsX9_saveState (va_wsS RX9 29 yX9_in wsX9_in) := goodIn_app (goodIn_of _ (by decide +kernel)) ggX9_saveState_X9_in
set_option maxRecDepth 20000 in
theorem ggX9_saveState_X9_holds : GoodIn wsX9_saveState wsX9_holds := goodIn_r _ [11, 12, 13, 14, 15, 16, 17, 18, 19, 20, 21, 22, 23, 24, 25, 26, 27] (by decide +kernel) (by decide +kernel)
set_option maxRecDepth 20000 in
theorem gX9_saveState_X9_holds : GoodIn wsX9_saveState (wsV RX9 93 RX9 yX9_holds wsX9_holds) := goodIn_app (goodIn_of _ (by decide +kernel)) ggX9_saveState_X9_holds
theorem dX9_saveState_0 : decode cX9_saveState 0 = .ok (.aload_n 0, 1) := by decide +kernel
theorem dX9_saveState_1 : decode cX9_saveState 1 = .ok (.iload_n 1, 1) := by decide +kernel
theorem dX9_saveState_2 : decode cX9_saveState 2 = .ok (.iconst 0, 1) := by decide +kernel
theorem dX9_saveState_3 : decode cX9_saveState 3 = .ok (.iconst 1, 1) := by decide +kernel
theorem dX9_saveState_4 : decode cX9_saveState 4 = .ok (.invokestatic 29, 3) := by decide +kernel
theorem dX9_saveState_7 : decode cX9_saveState 7 = .ok (.ifCond .eq 7, 3) := by decide +kernel
theorem dX9_saveState_10 : decode cX9_saveState 10 = .ok (.iconst 0, 1) := by decide +kernel
theorem dX9_saveState_11 : decode cX9_saveState 11 = .ok (.goto 4, 3) := by decide +kernel
theorem dX9_saveState_14 : decode cX9_saveState 14 = .ok (.iconst 1, 1) := by decide +kernel
theorem dX9_saveState_15 : decode cX9_saveState 15 = .ok (.invokevirtual 93, 3) := by decide +kernel
theorem dX9_saveState_18 : decode cX9_saveState 18 = .ok (.ifCond .ne 5, 3) := by decide +kernel
theorem dX9_saveState_21 : decode cX9_saveState 21 = .ok (.iconst 0, 1) := by decide +kernel
theorem dX9_saveState_22 : decode cX9_saveState 22 = .ok (.ireturn, 1) := by decide +kernel
theorem dX9_saveState_23 : decode cX9_saveState 23 = .ok (.iconst 0, 1) := by decide +kernel
theorem dX9_saveState_24 : decode cX9_saveState 24 = .ok (.istore_n 2, 1) := by decide +kernel
theorem dX9_saveState_25 : decode cX9_saveState 25 = .ok (.iload_n 2, 1) := by decide +kernel
theorem dX9_saveState_26 : decode cX9_saveState 26 = .ok (.sipush 205, 3) := by decide +kernel
theorem dX9_saveState_29 : decode cX9_saveState 29 = .ok (.if_icmp .ge 27, 3) := by decide +kernel
theorem dX9_saveState_32 : decode cX9_saveState 32 = .ok (.aload_n 0, 1) := by decide +kernel
theorem dX9_saveState_33 : decode cX9_saveState 33 = .ok (.getfield 16, 3) := by decide +kernel
theorem dX9_saveState_36 : decode cX9_saveState 36 = .ok (.sipush 205, 3) := by decide +kernel
theorem dX9_saveState_39 : decode cX9_saveState 39 = .ok (.iload_n 1, 1) := by decide +kernel
theorem dX9_saveState_40 : decode cX9_saveState 40 = .ok (.imul, 1) := by decide +kernel
theorem dX9_saveState_41 : decode cX9_saveState 41 = .ok (.iload_n 2, 1) := by decide +kernel
theorem dX9_saveState_42 : decode cX9_saveState 42 = .ok (.iadd, 1) := by decide +kernel
theorem dX9_saveState_43 : decode cX9_saveState 43 = .ok (.aload_n 0, 1) := by decide +kernel
theorem dX9_saveState_44 : decode cX9_saveState 44 = .ok (.getfield 7, 3) := by decide +kernel
theorem dX9_saveState_47 : decode cX9_saveState 47 = .ok (.iload_n 2, 1) := by decide +kernel
theorem dX9_saveState_48 : decode cX9_saveState 48 = .ok (.iaload, 1) := by decide +kernel
theorem dX9_saveState_49 : decode cX9_saveState 49 = .ok (.iastore, 1) := by decide +kernel
theorem dX9_saveState_50 : decode cX9_saveState 50 = .ok (.iinc 2 1, 3) := by decide +kernel
theorem dX9_saveState_53 : decode cX9_saveState 53 = .ok (.goto (-28), 3) := by decide +kernel
theorem dX9_saveState_56 : decode cX9_saveState 56 = .ok (.aload_n 0, 1) := by decide +kernel
theorem dX9_saveState_57 : decode cX9_saveState 57 = .ok (.dup, 1) := by decide +kernel
theorem dX9_saveState_58 : decode cX9_saveState 58 = .ok (.getfield 162, 3) := by decide +kernel
theorem dX9_saveState_61 : decode cX9_saveState 61 = .ok (.iconst 1, 1) := by decide +kernel
theorem dX9_saveState_62 : decode cX9_saveState 62 = .ok (.iload_n 1, 1) := by decide +kernel
theorem dX9_saveState_63 : decode cX9_saveState 63 = .ok (.ishl, 1) := by decide +kernel
theorem dX9_saveState_64 : decode cX9_saveState 64 = .ok (.ior, 1) := by decide +kernel
theorem dX9_saveState_65 : decode cX9_saveState 65 = .ok (.putfield 162, 3) := by decide +kernel
theorem dX9_saveState_68 : decode cX9_saveState 68 = .ok (.aload_n 0, 1) := by decide +kernel
theorem dX9_saveState_69 : decode cX9_saveState 69 = .ok (.getfield 7, 3) := by decide +kernel
theorem dX9_saveState_72 : decode cX9_saveState 72 = .ok (.sipush 194, 3) := by decide +kernel
theorem dX9_saveState_75 : decode cX9_saveState 75 = .ok (.iaload, 1) := by decide +kernel
theorem dX9_saveState_76 : decode cX9_saveState 76 = .ok (.ireturn, 1) := by decide +kernel
set_option maxRecDepth 20000 in
theorem ggX9_loadState_X9_in : GoodIn wsX9_loadState wsX9_in := goodIn_r _ [7] (by decide +kernel) (by decide +kernel)
set_option maxRecDepth 20000 in
theorem gX9_loadState_X9_in : GoodIn wsX9_loadState (va_wsS RX9 29 yX9_in wsX9_in) := goodIn_app (goodIn_of _ (by decide +kernel)) ggX9_loadState_X9_in
set_option maxRecDepth 20000 in
theorem ggX9_loadState_X9_holds : GoodIn wsX9_loadState wsX9_holds := goodIn_r _ [11, 12, 19, 20, 21, 22, 23, 24, 25, 26, 27, 28, 29, 30, 31, 32, 33] (by decide +kernel) (by decide +kernel)
set_option maxRecDepth 20000 in
theorem gX9_loadState_X9_holds : GoodIn wsX9_loadState (wsV RX9 93 RX9 yX9_holds wsX9_holds) := goodIn_app (goodIn_of _ (by decide +kernel)) ggX9_loadState_X9_holds
set_option maxRecDepth 20000 in
theorem ggX9_loadState_X9_record : GoodIn wsX9_loadState wsX9_record := goodIn_r _ [16, 17, 18, 2, 19, 20, 21, 22, 23, 24, 25, 26, 27, 28, 29, 30, 31, 32, 33] (by decide +kernel) (by decide +kernel)
set_option maxRecDepth 20000 in
theorem gX9_loadState_X9_record : GoodIn wsX9_loadState (wsV RX9 96 RX9 yX9_record wsX9_record) := goodIn_app (goodIn_of _ (by decide +kernel)) ggX9_loadState_X9_record
theorem dX9_loadState_0 : decode cX9_loadState 0 = .ok (.aload_n 0, 1) := by decide +kernel
theorem dX9_loadState_1 : decode cX9_loadState 1 = .ok (.iload_n 1, 1) := by decide +kernel
theorem dX9_loadState_2 : decode cX9_loadState 2 = .ok (.iconst 0, 1) := by decide +kernel
theorem dX9_loadState_3 : decode cX9_loadState 3 = .ok (.iconst 1, 1) := by decide +kernel
theorem dX9_loadState_4 : decode cX9_loadState 4 = .ok (.invokestatic 29, 3) := by decide +kernel
theorem dX9_loadState_7 : decode cX9_loadState 7 = .ok (.ifCond .ne 7, 3) := by decide +kernel
theorem dX9_loadState_10 : decode cX9_loadState 10 = .ok (.iconst 1, 1) := by decide +kernel
theorem dX9_loadState_11 : decode cX9_loadState 11 = .ok (.goto 19, 3) := by decide +kernel
theorem dX9_loadState_14 : decode cX9_loadState 14 = .ok (.aload_n 0, 1) := by decide +kernel
theorem dX9_loadState_15 : decode cX9_loadState 15 = .ok (.getfield 162, 3) := by decide +kernel
theorem dX9_loadState_18 : decode cX9_loadState 18 = .ok (.iload_n 1, 1) := by decide +kernel
theorem dX9_loadState_19 : decode cX9_loadState 19 = .ok (.ishr, 1) := by decide +kernel
theorem dX9_loadState_20 : decode cX9_loadState 20 = .ok (.iconst 1, 1) := by decide +kernel
theorem dX9_loadState_21 : decode cX9_loadState 21 = .ok (.iand, 1) := by decide +kernel
theorem dX9_loadState_22 : decode cX9_loadState 22 = .ok (.ifCond .ne 7, 3) := by decide +kernel
theorem dX9_loadState_25 : decode cX9_loadState 25 = .ok (.iconst 2, 1) := by decide +kernel
theorem dX9_loadState_26 : decode cX9_loadState 26 = .ok (.goto 4, 3) := by decide +kernel
theorem dX9_loadState_29 : decode cX9_loadState 29 = .ok (.iconst 0, 1) := by decide +kernel
theorem dX9_loadState_30 : decode cX9_loadState 30 = .ok (.invokevirtual 93, 3) := by decide +kernel
theorem dX9_loadState_33 : decode cX9_loadState 33 = .ok (.ifCond .ne 5, 3) := by decide +kernel
theorem dX9_loadState_36 : decode cX9_loadState 36 = .ok (.iconst 0, 1) := by decide +kernel
theorem dX9_loadState_37 : decode cX9_loadState 37 = .ok (.ireturn, 1) := by decide +kernel
theorem dX9_loadState_38 : decode cX9_loadState 38 = .ok (.aload_n 0, 1) := by decide +kernel
theorem dX9_loadState_39 : decode cX9_loadState 39 = .ok (.invokevirtual 96, 3) := by decide +kernel
theorem dX9_loadState_42 : decode cX9_loadState 42 = .ok (.iconst 0, 1) := by decide +kernel
theorem dX9_loadState_43 : decode cX9_loadState 43 = .ok (.istore_n 2, 1) := by decide +kernel
theorem dX9_loadState_44 : decode cX9_loadState 44 = .ok (.iload_n 2, 1) := by decide +kernel
theorem dX9_loadState_45 : decode cX9_loadState 45 = .ok (.sipush 205, 3) := by decide +kernel
theorem dX9_loadState_48 : decode cX9_loadState 48 = .ok (.if_icmp .ge 27, 3) := by decide +kernel
theorem dX9_loadState_51 : decode cX9_loadState 51 = .ok (.aload_n 0, 1) := by decide +kernel
theorem dX9_loadState_52 : decode cX9_loadState 52 = .ok (.getfield 7, 3) := by decide +kernel
theorem dX9_loadState_55 : decode cX9_loadState 55 = .ok (.iload_n 2, 1) := by decide +kernel
theorem dX9_loadState_56 : decode cX9_loadState 56 = .ok (.aload_n 0, 1) := by decide +kernel
theorem dX9_loadState_57 : decode cX9_loadState 57 = .ok (.getfield 16, 3) := by decide +kernel
theorem dX9_loadState_60 : decode cX9_loadState 60 = .ok (.sipush 205, 3) := by decide +kernel
theorem dX9_loadState_63 : decode cX9_loadState 63 = .ok (.iload_n 1, 1) := by decide +kernel
theorem dX9_loadState_64 : decode cX9_loadState 64 = .ok (.imul, 1) := by decide +kernel
theorem dX9_loadState_65 : decode cX9_loadState 65 = .ok (.iload_n 2, 1) := by decide +kernel
theorem dX9_loadState_66 : decode cX9_loadState 66 = .ok (.iadd, 1) := by decide +kernel
theorem dX9_loadState_67 : decode cX9_loadState 67 = .ok (.iaload, 1) := by decide +kernel
theorem dX9_loadState_68 : decode cX9_loadState 68 = .ok (.iastore, 1) := by decide +kernel
theorem dX9_loadState_69 : decode cX9_loadState 69 = .ok (.iinc 2 1, 3) := by decide +kernel
theorem dX9_loadState_72 : decode cX9_loadState 72 = .ok (.goto (-28), 3) := by decide +kernel
theorem dX9_loadState_75 : decode cX9_loadState 75 = .ok (.aload_n 0, 1) := by decide +kernel
theorem dX9_loadState_76 : decode cX9_loadState 76 = .ok (.getfield 7, 3) := by decide +kernel
theorem dX9_loadState_79 : decode cX9_loadState 79 = .ok (.sipush 194, 3) := by decide +kernel
theorem dX9_loadState_82 : decode cX9_loadState 82 = .ok (.iaload, 1) := by decide +kernel
theorem dX9_loadState_83 : decode cX9_loadState 83 = .ok (.ireturn, 1) := by decide +kernel
theorem dJ9_abs_0f7a4_0 : decode cJ9_abs_0f7a4 0 = .ok (.iload_n 0, 1) := by decide +kernel
theorem dJ9_abs_0f7a4_1 : decode cJ9_abs_0f7a4 1 = .ok (.ifCond .ge 8, 3) := by decide +kernel
theorem dJ9_abs_0f7a4_4 : decode cJ9_abs_0f7a4 4 = .ok (.iload_n 0, 1) := by decide +kernel
theorem dJ9_abs_0f7a4_5 : decode cJ9_abs_0f7a4 5 = .ok (.ineg, 1) := by decide +kernel
theorem dJ9_abs_0f7a4_6 : decode cJ9_abs_0f7a4 6 = .ok (.goto 4, 3) := by decide +kernel
theorem dJ9_abs_0f7a4_9 : decode cJ9_abs_0f7a4 9 = .ok (.iload_n 0, 1) := by decide +kernel
theorem dJ9_abs_0f7a4_10 : decode cJ9_abs_0f7a4 10 = .ok (.ireturn, 1) := by decide +kernel
theorem dJ9_max_7cf53_0 : decode cJ9_max_7cf53 0 = .ok (.iload_n 0, 1) := by decide +kernel
theorem dJ9_max_7cf53_1 : decode cJ9_max_7cf53 1 = .ok (.iload_n 1, 1) := by decide +kernel
theorem dJ9_max_7cf53_2 : decode cJ9_max_7cf53 2 = .ok (.if_icmp .lt 7, 3) := by decide +kernel
theorem dJ9_max_7cf53_5 : decode cJ9_max_7cf53 5 = .ok (.iload_n 0, 1) := by decide +kernel
theorem dJ9_max_7cf53_6 : decode cJ9_max_7cf53 6 = .ok (.goto 4, 3) := by decide +kernel
theorem dJ9_max_7cf53_9 : decode cJ9_max_7cf53 9 = .ok (.iload_n 1, 1) := by decide +kernel
theorem dJ9_max_7cf53_10 : decode cJ9_max_7cf53 10 = .ok (.ireturn, 1) := by decide +kernel
theorem dJ9_min_7cf53_0 : decode cJ9_min_7cf53 0 = .ok (.iload_n 0, 1) := by decide +kernel
theorem dJ9_min_7cf53_1 : decode cJ9_min_7cf53 1 = .ok (.iload_n 1, 1) := by decide +kernel
theorem dJ9_min_7cf53_2 : decode cJ9_min_7cf53 2 = .ok (.if_icmp .gt 7, 3) := by decide +kernel
theorem dJ9_min_7cf53_5 : decode cJ9_min_7cf53 5 = .ok (.iload_n 0, 1) := by decide +kernel
theorem dJ9_min_7cf53_6 : decode cJ9_min_7cf53 6 = .ok (.goto 4, 3) := by decide +kernel
theorem dJ9_min_7cf53_9 : decode cJ9_min_7cf53 9 = .ok (.iload_n 1, 1) := by decide +kernel
theorem dJ9_min_7cf53_10 : decode cJ9_min_7cf53 10 = .ok (.ireturn, 1) := by decide +kernel
set_option maxRecDepth 20000 in
theorem ggL_draw_X8_draw : GoodIn wsL_draw wsX8_draw := goodIn_ca (goodIn_ca (goodIn_r _ [7, 8, 9, 10, 11, 6, 12, 13, 14, 15, 16, 17, 18, 19, 20, 21, 22, 23, 24, 25, 26, 27, 28, 29, 30, 31, 32, 33, 34, 35, 36, 37, 38, 39, 40, 41, 42, 43, 44, 45, 46, 47, 48, 49, 50, 51, 52, 53, 54, 55, 56, 57, 58, 59, 60, 61, 62, 63, 64, 65, 66, 67, 68, 69, 70, 71, 72, 73, 74, 75, 76, 77, 78, 79, 80, 81, 82, 83] (by decide +kernel) (by decide +kernel)) (goodIn_sub (fun _ h => List.mem_cons_of_mem _ (List.mem_append_left _ (List.mem_append_right _ h))) (by decide +kernel))) (goodIn_sub (fun _ h => List.mem_cons_of_mem _ (List.mem_append_right _ h)) (by decide +kernel))
set_option maxRecDepth 20000 in
theorem gL_draw_X8_draw : GoodIn wsL_draw (wsV RL 7 RX8 yX8_draw wsX8_draw) := goodIn_app (goodIn_of _ (by decide +kernel)) ggL_draw_X8_draw
theorem dL_draw_0 : decode cL_draw 0 = .ok (.aload_n 3, 1) := by decide +kernel
theorem dL_draw_1 : decode cL_draw 1 = .ok (.iconst 0, 1) := by decide +kernel
theorem dL_draw_2 : decode cL_draw 2 = .ok (.aload_n 0, 1) := by decide +kernel
theorem dL_draw_3 : decode cL_draw 3 = .ok (.iload_n 1, 1) := by decide +kernel
theorem dL_draw_4 : decode cL_draw 4 = .ok (.iload_n 2, 1) := by decide +kernel
theorem dL_draw_5 : decode cL_draw 5 = .ok (.invokevirtual 7, 3) := by decide +kernel
theorem dL_draw_8 : decode cL_draw 8 = .ok (.i2l, 1) := by decide +kernel
theorem dL_draw_9 : decode cL_draw 9 = .ok (.lastore, 1) := by decide +kernel
theorem dL_draw_10 : decode cL_draw 10 = .ok (.goto 11, 3) := by decide +kernel
theorem dL_draw_13 : decode cL_draw 13 = .ok (.astore 4, 2) := by decide +kernel
theorem dL_draw_15 : decode cL_draw 15 = .ok (.iconst 1, 1) := by decide +kernel
theorem dL_draw_16 : decode cL_draw 16 = .ok (.ireturn, 1) := by decide +kernel
theorem dL_draw_17 : decode cL_draw 17 = .ok (.astore 4, 2) := by decide +kernel
theorem dL_draw_19 : decode cL_draw 19 = .ok (.iconst 2, 1) := by decide +kernel
theorem dL_draw_20 : decode cL_draw 20 = .ok (.ireturn, 1) := by decide +kernel
theorem dL_draw_21 : decode cL_draw 21 = .ok (.iconst 0, 1) := by decide +kernel
theorem dL_draw_22 : decode cL_draw 22 = .ok (.ireturn, 1) := by decide +kernel
set_option maxRecDepth 20000 in
theorem ggL_fill_X8_fill : GoodIn wsL_fill wsX8_fill := goodIn_ca (goodIn_ca (goodIn_r _ [7, 8, 9, 10, 11, 6, 12, 13, 14, 15, 16, 17, 18, 19, 20, 21, 22, 23, 24, 25, 26, 27, 28, 29, 30, 31, 32, 33, 34, 35, 36, 37, 38, 39, 40, 41, 42, 43, 44, 45, 46, 47, 48, 49, 50, 51, 52, 53, 54, 55, 56, 57, 58, 59, 60, 61, 62, 63, 64, 65, 66, 67, 68, 69, 70, 71, 72, 73, 74, 75, 76, 77, 78, 79, 80, 81, 82, 83, 84, 85, 86, 87] (by decide +kernel) (by decide +kernel)) (goodIn_sub (fun _ h => List.mem_cons_of_mem _ (List.mem_append_left _ (List.mem_append_right _ h))) (by decide +kernel))) (goodIn_sub (fun _ h => List.mem_cons_of_mem _ (List.mem_append_right _ h)) (by decide +kernel))
set_option maxRecDepth 20000 in
theorem gL_fill_X8_fill : GoodIn wsL_fill (wsV RL 17 RX8 yX8_fill wsX8_fill) := goodIn_app (goodIn_of _ (by decide +kernel)) ggL_fill_X8_fill
theorem dL_fill_0 : decode cL_fill 0 = .ok (.aload 5, 2) := by decide +kernel
theorem dL_fill_2 : decode cL_fill 2 = .ok (.iconst 0, 1) := by decide +kernel
theorem dL_fill_3 : decode cL_fill 3 = .ok (.aload_n 0, 1) := by decide +kernel
theorem dL_fill_4 : decode cL_fill 4 = .ok (.iload_n 1, 1) := by decide +kernel
theorem dL_fill_5 : decode cL_fill 5 = .ok (.iload_n 2, 1) := by decide +kernel
theorem dL_fill_6 : decode cL_fill 6 = .ok (.iload_n 3, 1) := by decide +kernel
theorem dL_fill_7 : decode cL_fill 7 = .ok (.iload 4, 2) := by decide +kernel
theorem dL_fill_9 : decode cL_fill 9 = .ok (.invokevirtual 17, 3) := by decide +kernel
theorem dL_fill_12 : decode cL_fill 12 = .ok (.i2l, 1) := by decide +kernel
theorem dL_fill_13 : decode cL_fill 13 = .ok (.lastore, 1) := by decide +kernel
theorem dL_fill_14 : decode cL_fill 14 = .ok (.goto 11, 3) := by decide +kernel
theorem dL_fill_17 : decode cL_fill 17 = .ok (.astore 6, 2) := by decide +kernel
theorem dL_fill_19 : decode cL_fill 19 = .ok (.iconst 1, 1) := by decide +kernel
theorem dL_fill_20 : decode cL_fill 20 = .ok (.ireturn, 1) := by decide +kernel
theorem dL_fill_21 : decode cL_fill 21 = .ok (.astore 6, 2) := by decide +kernel
theorem dL_fill_23 : decode cL_fill 23 = .ok (.iconst 2, 1) := by decide +kernel
theorem dL_fill_24 : decode cL_fill 24 = .ok (.ireturn, 1) := by decide +kernel
theorem dL_fill_25 : decode cL_fill 25 = .ok (.iconst 0, 1) := by decide +kernel
theorem dL_fill_26 : decode cL_fill 26 = .ok (.ireturn, 1) := by decide +kernel
set_option maxRecDepth 20000 in
theorem ggL_scroll_X8_scroll : GoodIn wsL_scroll wsX8_scroll := goodIn_ca (goodIn_r _ [6, 7, 8, 9, 10, 5, 11, 12, 13, 14, 15, 16, 17, 18, 19, 20, 21, 22, 23, 24, 25, 26, 27, 28, 29, 30, 31, 32, 33, 34, 35, 36, 37, 38, 39, 40, 41, 42, 43, 44, 45, 46, 47, 48, 49, 50, 51, 52, 53, 54, 55, 56, 57, 58, 59, 60, 61, 62, 63, 64, 65, 66, 67, 68, 69, 70, 71, 72, 73, 74, 75, 76, 77, 78, 79, 80, 81, 82, 83, 84, 85, 86, 87, 88, 89, 90] (by decide +kernel) (by decide +kernel)) (goodIn_sub (fun _ h => List.mem_cons_of_mem _ (List.mem_append_right _ h)) (by decide +kernel))
set_option maxRecDepth 20000 in
theorem gL_scroll_X8_scroll : GoodIn wsL_scroll (wsV RL 21 RX8 yX8_scroll wsX8_scroll) := goodIn_app (goodIn_of _ (by decide +kernel)) ggL_scroll_X8_scroll
theorem dL_scroll_0 : decode cL_scroll 0 = .ok (.aload_n 3, 1) := by decide +kernel
theorem dL_scroll_1 : decode cL_scroll 1 = .ok (.iconst 0, 1) := by decide +kernel
theorem dL_scroll_2 : decode cL_scroll 2 = .ok (.aload_n 0, 1) := by decide +kernel
theorem dL_scroll_3 : decode cL_scroll 3 = .ok (.iload_n 1, 1) := by decide +kernel
theorem dL_scroll_4 : decode cL_scroll 4 = .ok (.iload_n 2, 1) := by decide +kernel
theorem dL_scroll_5 : decode cL_scroll 5 = .ok (.invokevirtual 21, 3) := by decide +kernel
theorem dL_scroll_8 : decode cL_scroll 8 = .ok (.i2l, 1) := by decide +kernel
theorem dL_scroll_9 : decode cL_scroll 9 = .ok (.lastore, 1) := by decide +kernel
theorem dL_scroll_10 : decode cL_scroll 10 = .ok (.goto 7, 3) := by decide +kernel
theorem dL_scroll_13 : decode cL_scroll 13 = .ok (.astore 4, 2) := by decide +kernel
theorem dL_scroll_15 : decode cL_scroll 15 = .ok (.iconst 1, 1) := by decide +kernel
theorem dL_scroll_16 : decode cL_scroll 16 = .ok (.ireturn, 1) := by decide +kernel
theorem dL_scroll_17 : decode cL_scroll 17 = .ok (.iconst 0, 1) := by decide +kernel
theorem dL_scroll_18 : decode cL_scroll 18 = .ok (.ireturn, 1) := by decide +kernel
set_option maxRecDepth 20000 in
theorem ggL_send_X8_send : GoodIn wsL_send wsX8_send := goodIn_ca (goodIn_r _ [6, 7, 8, 9, 10, 11, 12, 13, 5, 14, 15, 16, 17, 18, 19, 20, 21, 22, 23, 24, 25, 26, 27, 28, 29, 30, 31, 32, 33, 34, 35, 36, 37, 38, 39, 40, 41, 42, 43, 44, 45, 46, 47, 48, 49, 50, 51, 52, 53, 54, 55, 56, 57, 58, 59, 60, 61, 62, 63, 64, 65, 66, 67, 68, 69, 70, 71, 72, 73, 74, 75, 76, 77, 78, 79, 80, 81, 82, 83, 84, 85, 86, 87, 88, 89, 90, 91, 92, 93, 94, 95, 96, 97, 98, 99, 100, 101, 102, 103, 104, 105, 106, 107, 108, 109, 110, 111, 112, 113, 114, 115, 116, 117, 118, 119, 120, 121, 122, 123, 124, 125, 126, 127, 128, 129, 130, 131, 132, 133, 134, 135, 136, 137, 138, 139, 140, 141, 142, 143, 144, 145, 146, 147, 148, 149, 150, 151, 152, 153, 154, 155, 156, 157, 158, 159, 160, 161, 162, 163, 164, 165, 166, 167, 168, 169, 170, 171, 172, 173, 174, 175, 176, 177, 178] (by decide +kernel) (by decide +kernel)) (goodIn_sub (fun _ h => List.mem_cons_of_mem _ (List.mem_append_right _ h)) (by decide +kernel))
set_option maxRecDepth 20000 in
theorem gL_send_X8_send : GoodIn wsL_send (wsV RL 24 RX8 yX8_send wsX8_send) := goodIn_app (goodIn_of _ (by decide +kernel)) ggL_send_X8_send
theorem dL_send_0 : decode cL_send 0 = .ok (.aload_n 2, 1) := by decide +kernel
theorem dL_send_1 : decode cL_send 1 = .ok (.iconst 0, 1) := by decide +kernel
theorem dL_send_2 : decode cL_send 2 = .ok (.aload_n 0, 1) := by decide +kernel
theorem dL_send_3 : decode cL_send 3 = .ok (.iload_n 1, 1) := by decide +kernel
theorem dL_send_4 : decode cL_send 4 = .ok (.invokevirtual 24, 3) := by decide +kernel
theorem dL_send_7 : decode cL_send 7 = .ok (.i2l, 1) := by decide +kernel
theorem dL_send_8 : decode cL_send 8 = .ok (.lastore, 1) := by decide +kernel
theorem dL_send_9 : decode cL_send 9 = .ok (.goto 6, 3) := by decide +kernel
theorem dL_send_12 : decode cL_send 12 = .ok (.astore_n 3, 1) := by decide +kernel
theorem dL_send_13 : decode cL_send 13 = .ok (.iconst 1, 1) := by decide +kernel
theorem dL_send_14 : decode cL_send 14 = .ok (.ireturn, 1) := by decide +kernel
theorem dL_send_15 : decode cL_send 15 = .ok (.iconst 0, 1) := by decide +kernel
theorem dL_send_16 : decode cL_send 16 = .ok (.ireturn, 1) := by decide +kernel
set_option maxRecDepth 20000 in
theorem ggL_setBudget_X8_setBudget : GoodIn wsL_setBudget wsX8_setBudget := goodIn_ca (goodIn_r _ [6, 7, 8, 9, 10, 5, 11, 12, 13, 14, 15, 16, 17, 18, 19, 20, 21, 22, 23, 24, 25, 26, 27, 28, 29, 30, 31, 32, 33, 34, 35, 36, 37, 38, 39, 40, 41, 42, 43, 44, 45, 46, 47, 48, 49, 50, 51, 52, 53, 54, 55, 56, 57, 58, 59, 60, 61, 62, 63, 64, 65, 66, 67, 68, 69, 70, 71, 72, 73, 74] (by decide +kernel) (by decide +kernel)) (goodIn_sub (fun _ h => List.mem_cons_of_mem _ (List.mem_append_right _ h)) (by decide +kernel))
set_option maxRecDepth 20000 in
theorem gL_setBudget_X8_setBudget : GoodIn wsL_setBudget (wsV RL 30 RX8 yX8_setBudget wsX8_setBudget) := goodIn_app (goodIn_of _ (by decide +kernel)) ggL_setBudget_X8_setBudget
theorem dL_setBudget_0 : decode cL_setBudget 0 = .ok (.aload_n 2, 1) := by decide +kernel
theorem dL_setBudget_1 : decode cL_setBudget 1 = .ok (.iconst 0, 1) := by decide +kernel
theorem dL_setBudget_2 : decode cL_setBudget 2 = .ok (.aload_n 0, 1) := by decide +kernel
theorem dL_setBudget_3 : decode cL_setBudget 3 = .ok (.iload_n 1, 1) := by decide +kernel
theorem dL_setBudget_4 : decode cL_setBudget 4 = .ok (.invokevirtual 30, 3) := by decide +kernel
theorem dL_setBudget_7 : decode cL_setBudget 7 = .ok (.i2l, 1) := by decide +kernel
theorem dL_setBudget_8 : decode cL_setBudget 8 = .ok (.lastore, 1) := by decide +kernel
theorem dL_setBudget_9 : decode cL_setBudget 9 = .ok (.goto 6, 3) := by decide +kernel
theorem dL_setBudget_12 : decode cL_setBudget 12 = .ok (.astore_n 3, 1) := by decide +kernel
theorem dL_setBudget_13 : decode cL_setBudget 13 = .ok (.iconst 1, 1) := by decide +kernel
theorem dL_setBudget_14 : decode cL_setBudget 14 = .ok (.ireturn, 1) := by decide +kernel
theorem dL_setBudget_15 : decode cL_setBudget 15 = .ok (.iconst 0, 1) := by decide +kernel
theorem dL_setBudget_16 : decode cL_setBudget 16 = .ok (.ireturn, 1) := by decide +kernel
set_option maxRecDepth 20000 in
theorem ggL_setKeyDistance_X8_setKeyDistance : GoodIn wsL_setKeyDistance wsX8_setKeyDistance := goodIn_ca (goodIn_r _ [6, 7, 8, 9, 10, 5, 11, 12, 13, 14, 15, 16, 17, 18, 19, 20, 21, 22, 23, 24, 25, 26, 27, 28, 29, 30, 31, 32, 33, 34, 35, 36, 37, 38, 39, 40, 41, 42, 43, 44, 45, 46, 47, 48, 49, 50, 51, 52, 53, 54, 55, 56, 57, 58, 59, 60, 61, 62, 63, 64, 65, 66, 67, 68, 69, 70, 71, 72, 73, 74] (by decide +kernel) (by decide +kernel)) (goodIn_sub (fun _ h => List.mem_cons_of_mem _ (List.mem_append_right _ h)) (by decide +kernel))
set_option maxRecDepth 20000 in
theorem gL_setKeyDistance_X8_setKeyDistance : GoodIn wsL_setKeyDistance (wsV RL 34 RX8 yX8_setKeyDistance wsX8_setKeyDistance) := goodIn_app (goodIn_of _ (by decide +kernel)) ggL_setKeyDistance_X8_setKeyDistance
theorem dL_setKeyDistance_0 : decode cL_setKeyDistance 0 = .ok (.aload_n 2, 1) := by decide +kernel
theorem dL_setKeyDistance_1 : decode cL_setKeyDistance 1 = .ok (.iconst 0, 1) := by decide +kernel
theorem dL_setKeyDistance_2 : decode cL_setKeyDistance 2 = .ok (.aload_n 0, 1) := by decide +kernel
theorem dL_setKeyDistance_3 : decode cL_setKeyDistance 3 = .ok (.iload_n 1, 1) := by decide +kernel
theorem dL_setKeyDistance_4 : decode cL_setKeyDistance 4 = .ok (.invokevirtual 34, 3) := by decide +kernel
theorem dL_setKeyDistance_7 : decode cL_setKeyDistance 7 = .ok (.i2l, 1) := by decide +kernel
theorem dL_setKeyDistance_8 : decode cL_setKeyDistance 8 = .ok (.lastore, 1) := by decide +kernel
theorem dL_setKeyDistance_9 : decode cL_setKeyDistance 9 = .ok (.goto 6, 3) := by decide +kernel
theorem dL_setKeyDistance_12 : decode cL_setKeyDistance 12 = .ok (.astore_n 3, 1) := by decide +kernel
theorem dL_setKeyDistance_13 : decode cL_setKeyDistance 13 = .ok (.iconst 1, 1) := by decide +kernel
theorem dL_setKeyDistance_14 : decode cL_setKeyDistance 14 = .ok (.ireturn, 1) := by decide +kernel
theorem dL_setKeyDistance_15 : decode cL_setKeyDistance 15 = .ok (.iconst 0, 1) := by decide +kernel
theorem dL_setKeyDistance_16 : decode cL_setKeyDistance 16 = .ok (.ireturn, 1) := by decide +kernel
set_option maxRecDepth 20000 in
theorem ggL_drawnAt_X8_drawnAt : GoodIn wsL_drawnAt wsX8_drawnAt := goodIn_ca (goodIn_r _ [6, 7, 8, 9, 5, 10, 11, 12, 13, 14, 15, 16, 17, 18, 19, 20, 21, 22, 23, 24, 25, 26, 27, 28, 29, 30, 31, 32, 33, 34, 35, 36] (by decide +kernel) (by decide +kernel)) (goodIn_sub (fun _ h => List.mem_cons_of_mem _ (List.mem_append_right _ h)) (by decide +kernel))
set_option maxRecDepth 20000 in
theorem gL_drawnAt_X8_drawnAt : GoodIn wsL_drawnAt (wsV RL 37 RX8 yX8_drawnAt wsX8_drawnAt) := goodIn_app (goodIn_of _ (by decide +kernel)) ggL_drawnAt_X8_drawnAt
theorem dL_drawnAt_0 : decode cL_drawnAt 0 = .ok (.aload_n 2, 1) := by decide +kernel
theorem dL_drawnAt_1 : decode cL_drawnAt 1 = .ok (.iconst 0, 1) := by decide +kernel
theorem dL_drawnAt_2 : decode cL_drawnAt 2 = .ok (.aload_n 0, 1) := by decide +kernel
theorem dL_drawnAt_3 : decode cL_drawnAt 3 = .ok (.iload_n 1, 1) := by decide +kernel
theorem dL_drawnAt_4 : decode cL_drawnAt 4 = .ok (.invokevirtual 37, 3) := by decide +kernel
theorem dL_drawnAt_7 : decode cL_drawnAt 7 = .ok (.i2l, 1) := by decide +kernel
theorem dL_drawnAt_8 : decode cL_drawnAt 8 = .ok (.lastore, 1) := by decide +kernel
theorem dL_drawnAt_9 : decode cL_drawnAt 9 = .ok (.goto 6, 3) := by decide +kernel
theorem dL_drawnAt_12 : decode cL_drawnAt 12 = .ok (.astore_n 3, 1) := by decide +kernel
theorem dL_drawnAt_13 : decode cL_drawnAt 13 = .ok (.iconst 1, 1) := by decide +kernel
theorem dL_drawnAt_14 : decode cL_drawnAt 14 = .ok (.ireturn, 1) := by decide +kernel
theorem dL_drawnAt_15 : decode cL_drawnAt 15 = .ok (.iconst 0, 1) := by decide +kernel
theorem dL_drawnAt_16 : decode cL_drawnAt 16 = .ok (.ireturn, 1) := by decide +kernel
set_option maxRecDepth 20000 in
theorem ggL_sentAt_X8_sentAt : GoodIn wsL_sentAt wsX8_sentAt := goodIn_ca (goodIn_r _ [6, 7, 8, 9, 5, 10, 11, 12, 13, 14, 15, 16, 17, 18, 19, 20, 21, 22, 23, 24, 25, 26, 27, 28, 29, 30, 31, 32, 33, 34, 35, 36] (by decide +kernel) (by decide +kernel)) (goodIn_sub (fun _ h => List.mem_cons_of_mem _ (List.mem_append_right _ h)) (by decide +kernel))
set_option maxRecDepth 20000 in
theorem gL_sentAt_X8_sentAt : GoodIn wsL_sentAt (wsV RL 40 RX8 yX8_sentAt wsX8_sentAt) := goodIn_app (goodIn_of _ (by decide +kernel)) ggL_sentAt_X8_sentAt
theorem dL_sentAt_0 : decode cL_sentAt 0 = .ok (.aload_n 2, 1) := by decide +kernel
theorem dL_sentAt_1 : decode cL_sentAt 1 = .ok (.iconst 0, 1) := by decide +kernel
theorem dL_sentAt_2 : decode cL_sentAt 2 = .ok (.aload_n 0, 1) := by decide +kernel
theorem dL_sentAt_3 : decode cL_sentAt 3 = .ok (.iload_n 1, 1) := by decide +kernel
theorem dL_sentAt_4 : decode cL_sentAt 4 = .ok (.invokevirtual 40, 3) := by decide +kernel
theorem dL_sentAt_7 : decode cL_sentAt 7 = .ok (.i2l, 1) := by decide +kernel
theorem dL_sentAt_8 : decode cL_sentAt 8 = .ok (.lastore, 1) := by decide +kernel
theorem dL_sentAt_9 : decode cL_sentAt 9 = .ok (.goto 6, 3) := by decide +kernel
theorem dL_sentAt_12 : decode cL_sentAt 12 = .ok (.astore_n 3, 1) := by decide +kernel
theorem dL_sentAt_13 : decode cL_sentAt 13 = .ok (.iconst 1, 1) := by decide +kernel
theorem dL_sentAt_14 : decode cL_sentAt 14 = .ok (.ireturn, 1) := by decide +kernel
theorem dL_sentAt_15 : decode cL_sentAt 15 = .ok (.iconst 0, 1) := by decide +kernel
theorem dL_sentAt_16 : decode cL_sentAt 16 = .ok (.ireturn, 1) := by decide +kernel
set_option maxRecDepth 20000 in
theorem ggL_receivedAt_X8_receivedAt : GoodIn wsL_receivedAt wsX8_receivedAt := goodIn_ca (goodIn_r _ [6, 7, 8, 9, 5, 10, 11, 12, 13, 14, 15, 16, 17, 18, 19, 20, 21, 22, 23, 24, 25, 26, 27, 28, 29, 30, 31, 32, 33, 34, 35, 36] (by decide +kernel) (by decide +kernel)) (goodIn_sub (fun _ h => List.mem_cons_of_mem _ (List.mem_append_right _ h)) (by decide +kernel))
set_option maxRecDepth 20000 in
theorem gL_receivedAt_X8_receivedAt : GoodIn wsL_receivedAt (wsV RL 43 RX8 yX8_receivedAt wsX8_receivedAt) := goodIn_app (goodIn_of _ (by decide +kernel)) ggL_receivedAt_X8_receivedAt
theorem dL_receivedAt_0 : decode cL_receivedAt 0 = .ok (.aload_n 2, 1) := by decide +kernel
theorem dL_receivedAt_1 : decode cL_receivedAt 1 = .ok (.iconst 0, 1) := by decide +kernel
theorem dL_receivedAt_2 : decode cL_receivedAt 2 = .ok (.aload_n 0, 1) := by decide +kernel
theorem dL_receivedAt_3 : decode cL_receivedAt 3 = .ok (.iload_n 1, 1) := by decide +kernel
theorem dL_receivedAt_4 : decode cL_receivedAt 4 = .ok (.invokevirtual 43, 3) := by decide +kernel
theorem dL_receivedAt_7 : decode cL_receivedAt 7 = .ok (.i2l, 1) := by decide +kernel
theorem dL_receivedAt_8 : decode cL_receivedAt 8 = .ok (.lastore, 1) := by decide +kernel
theorem dL_receivedAt_9 : decode cL_receivedAt 9 = .ok (.goto 6, 3) := by decide +kernel
theorem dL_receivedAt_12 : decode cL_receivedAt 12 = .ok (.astore_n 3, 1) := by decide +kernel
theorem dL_receivedAt_13 : decode cL_receivedAt 13 = .ok (.iconst 1, 1) := by decide +kernel
theorem dL_receivedAt_14 : decode cL_receivedAt 14 = .ok (.ireturn, 1) := by decide +kernel
theorem dL_receivedAt_15 : decode cL_receivedAt 15 = .ok (.iconst 0, 1) := by decide +kernel
theorem dL_receivedAt_16 : decode cL_receivedAt 16 = .ok (.ireturn, 1) := by decide +kernel
set_option maxRecDepth 20000 in
theorem ggL_distance_X8_distance : GoodIn wsL_distance wsX8_distance := goodIn_ca (goodIn_r _ [6, 7, 8, 9, 10, 11, 5, 12, 13, 14, 15, 16, 17, 18, 19, 20, 21, 22, 23, 24, 25, 26, 27, 28, 29, 30, 31, 32, 33, 34, 35, 36, 37, 38, 39, 40, 41, 42, 43, 44, 45, 46, 47, 48, 49, 50, 51, 52] (by decide +kernel) (by decide +kernel)) (goodIn_sub (fun _ h => List.mem_cons_of_mem _ (List.mem_append_right _ h)) (by decide +kernel))
set_option maxRecDepth 20000 in
theorem gL_distance_X8_distance : GoodIn wsL_distance (wsV RL 46 RX8 yX8_distance wsX8_distance) := goodIn_app (goodIn_of _ (by decide +kernel)) ggL_distance_X8_distance
theorem dL_distance_0 : decode cL_distance 0 = .ok (.aload_n 3, 1) := by decide +kernel
theorem dL_distance_1 : decode cL_distance 1 = .ok (.iconst 0, 1) := by decide +kernel
theorem dL_distance_2 : decode cL_distance 2 = .ok (.aload_n 0, 1) := by decide +kernel
theorem dL_distance_3 : decode cL_distance 3 = .ok (.iload_n 1, 1) := by decide +kernel
theorem dL_distance_4 : decode cL_distance 4 = .ok (.iload_n 2, 1) := by decide +kernel
theorem dL_distance_5 : decode cL_distance 5 = .ok (.invokevirtual 46, 3) := by decide +kernel
theorem dL_distance_8 : decode cL_distance 8 = .ok (.i2l, 1) := by decide +kernel
theorem dL_distance_9 : decode cL_distance 9 = .ok (.lastore, 1) := by decide +kernel
theorem dL_distance_10 : decode cL_distance 10 = .ok (.goto 7, 3) := by decide +kernel
theorem dL_distance_13 : decode cL_distance 13 = .ok (.astore 4, 2) := by decide +kernel
theorem dL_distance_15 : decode cL_distance 15 = .ok (.iconst 1, 1) := by decide +kernel
theorem dL_distance_16 : decode cL_distance 16 = .ok (.ireturn, 1) := by decide +kernel
theorem dL_distance_17 : decode cL_distance 17 = .ok (.iconst 0, 1) := by decide +kernel
theorem dL_distance_18 : decode cL_distance 18 = .ok (.ireturn, 1) := by decide +kernel
set_option maxRecDepth 20000 in
theorem ggL_bestMove_X8_bestMove : GoodIn wsL_bestMove wsX8_bestMove := goodIn_ca (goodIn_r _ [6, 7, 8, 9, 5, 10, 11, 12, 13, 14, 15, 16, 17, 18, 19, 20, 21, 22, 23, 24, 25, 26, 27, 28, 29, 30, 31, 32, 33, 34, 35, 36, 37, 38, 39, 40, 41, 42, 43, 44, 45, 46, 47, 48, 49, 50, 51, 52, 53, 54, 55, 56, 57, 58] (by decide +kernel) (by decide +kernel)) (goodIn_sub (fun _ h => List.mem_cons_of_mem _ (List.mem_append_right _ h)) (by decide +kernel))
set_option maxRecDepth 20000 in
theorem gL_bestMove_X8_bestMove : GoodIn wsL_bestMove (wsV RL 49 RX8 yX8_bestMove wsX8_bestMove) := goodIn_app (goodIn_of _ (by decide +kernel)) ggL_bestMove_X8_bestMove
theorem dL_bestMove_0 : decode cL_bestMove 0 = .ok (.aload_n 2, 1) := by decide +kernel
theorem dL_bestMove_1 : decode cL_bestMove 1 = .ok (.iconst 0, 1) := by decide +kernel
theorem dL_bestMove_2 : decode cL_bestMove 2 = .ok (.aload_n 0, 1) := by decide +kernel
theorem dL_bestMove_3 : decode cL_bestMove 3 = .ok (.iload_n 1, 1) := by decide +kernel
theorem dL_bestMove_4 : decode cL_bestMove 4 = .ok (.invokevirtual 49, 3) := by decide +kernel
theorem dL_bestMove_7 : decode cL_bestMove 7 = .ok (.i2l, 1) := by decide +kernel
theorem dL_bestMove_8 : decode cL_bestMove 8 = .ok (.lastore, 1) := by decide +kernel
theorem dL_bestMove_9 : decode cL_bestMove 9 = .ok (.goto 6, 3) := by decide +kernel
theorem dL_bestMove_12 : decode cL_bestMove 12 = .ok (.astore_n 3, 1) := by decide +kernel
theorem dL_bestMove_13 : decode cL_bestMove 13 = .ok (.iconst 1, 1) := by decide +kernel
theorem dL_bestMove_14 : decode cL_bestMove 14 = .ok (.ireturn, 1) := by decide +kernel
theorem dL_bestMove_15 : decode cL_bestMove 15 = .ok (.iconst 0, 1) := by decide +kernel
theorem dL_bestMove_16 : decode cL_bestMove 16 = .ok (.ireturn, 1) := by decide +kernel
set_option maxRecDepth 20000 in
theorem ggL_bestMoveByStopping_X8_bestMoveByStopping : GoodIn wsL_bestMoveByStopping wsX8_bestMoveByStopping := goodIn_ca (goodIn_r _ [6, 7, 8, 9, 5, 10, 11, 12, 13, 14, 15, 16, 17, 18, 19, 20, 21, 22, 23, 24, 25, 26, 27, 28, 29, 30, 31, 32, 33, 34, 35, 36, 37, 38, 39, 40, 41, 42, 43, 44, 45, 46, 47, 48, 49, 50, 51, 52, 53, 54, 55, 56] (by decide +kernel) (by decide +kernel)) (goodIn_sub (fun _ h => List.mem_cons_of_mem _ (List.mem_append_right _ h)) (by decide +kernel))
set_option maxRecDepth 20000 in
theorem gL_bestMoveByStopping_X8_bestMoveByStopping : GoodIn wsL_bestMoveByStopping (wsV RL 52 RX8 yX8_bestMoveByStopping wsX8_bestMoveByStopping) := goodIn_app (goodIn_of _ (by decide +kernel)) ggL_bestMoveByStopping_X8_bestMoveByStopping
theorem dL_bestMoveByStopping_0 : decode cL_bestMoveByStopping 0 = .ok (.aload_n 2, 1) := by decide +kernel
theorem dL_bestMoveByStopping_1 : decode cL_bestMoveByStopping 1 = .ok (.iconst 0, 1) := by decide +kernel
theorem dL_bestMoveByStopping_2 : decode cL_bestMoveByStopping 2 = .ok (.aload_n 0, 1) := by decide +kernel
theorem dL_bestMoveByStopping_3 : decode cL_bestMoveByStopping 3 = .ok (.iload_n 1, 1) := by decide +kernel
theorem dL_bestMoveByStopping_4 : decode cL_bestMoveByStopping 4 = .ok (.invokevirtual 52, 3) := by decide +kernel
theorem dL_bestMoveByStopping_7 : decode cL_bestMoveByStopping 7 = .ok (.i2l, 1) := by decide +kernel
theorem dL_bestMoveByStopping_8 : decode cL_bestMoveByStopping 8 = .ok (.lastore, 1) := by decide +kernel
theorem dL_bestMoveByStopping_9 : decode cL_bestMoveByStopping 9 = .ok (.goto 6, 3) := by decide +kernel
theorem dL_bestMoveByStopping_12 : decode cL_bestMoveByStopping 12 = .ok (.astore_n 3, 1) := by decide +kernel
theorem dL_bestMoveByStopping_13 : decode cL_bestMoveByStopping 13 = .ok (.iconst 1, 1) := by decide +kernel
theorem dL_bestMoveByStopping_14 : decode cL_bestMoveByStopping 14 = .ok (.ireturn, 1) := by decide +kernel
theorem dL_bestMoveByStopping_15 : decode cL_bestMoveByStopping 15 = .ok (.iconst 0, 1) := by decide +kernel
theorem dL_bestMoveByStopping_16 : decode cL_bestMoveByStopping 16 = .ok (.ireturn, 1) := by decide +kernel
set_option maxRecDepth 20000 in
theorem ggL_equalMoves_X8_equalMoves : GoodIn wsL_equalMoves wsX8_equalMoves := goodIn_ca (goodIn_r _ [6, 7, 8, 9, 5, 10, 11, 12, 13, 14, 15, 16, 17, 18, 19, 20, 21, 22, 23, 24, 25, 26, 27, 28, 29, 30, 31, 32, 33, 34, 35, 36, 37, 38, 39, 40, 41, 42, 43, 44, 45, 46, 47, 48, 49, 50, 51, 52, 53, 54, 55] (by decide +kernel) (by decide +kernel)) (goodIn_sub (fun _ h => List.mem_cons_of_mem _ (List.mem_append_right _ h)) (by decide +kernel))
set_option maxRecDepth 20000 in
theorem gL_equalMoves_X8_equalMoves : GoodIn wsL_equalMoves (wsV RL 55 RX8 yX8_equalMoves wsX8_equalMoves) := goodIn_app (goodIn_of _ (by decide +kernel)) ggL_equalMoves_X8_equalMoves
theorem dL_equalMoves_0 : decode cL_equalMoves 0 = .ok (.aload_n 2, 1) := by decide +kernel
theorem dL_equalMoves_1 : decode cL_equalMoves 1 = .ok (.iconst 0, 1) := by decide +kernel
theorem dL_equalMoves_2 : decode cL_equalMoves 2 = .ok (.aload_n 0, 1) := by decide +kernel
theorem dL_equalMoves_3 : decode cL_equalMoves 3 = .ok (.iload_n 1, 1) := by decide +kernel
theorem dL_equalMoves_4 : decode cL_equalMoves 4 = .ok (.invokevirtual 55, 3) := by decide +kernel
theorem dL_equalMoves_7 : decode cL_equalMoves 7 = .ok (.i2l, 1) := by decide +kernel
theorem dL_equalMoves_8 : decode cL_equalMoves 8 = .ok (.lastore, 1) := by decide +kernel
theorem dL_equalMoves_9 : decode cL_equalMoves 9 = .ok (.goto 6, 3) := by decide +kernel
theorem dL_equalMoves_12 : decode cL_equalMoves 12 = .ok (.astore_n 3, 1) := by decide +kernel
theorem dL_equalMoves_13 : decode cL_equalMoves 13 = .ok (.iconst 1, 1) := by decide +kernel
theorem dL_equalMoves_14 : decode cL_equalMoves 14 = .ok (.ireturn, 1) := by decide +kernel
theorem dL_equalMoves_15 : decode cL_equalMoves 15 = .ok (.iconst 0, 1) := by decide +kernel
theorem dL_equalMoves_16 : decode cL_equalMoves 16 = .ok (.ireturn, 1) := by decide +kernel
set_option maxRecDepth 20000 in
theorem ggL_kindWith_X8_kindWith : GoodIn wsL_kindWith wsX8_kindWith := goodIn_ca (goodIn_ca (goodIn_r _ [7, 8, 9, 10, 11, 6, 12, 13, 14, 15, 16, 17, 18, 19, 20, 21, 22, 23, 24, 25, 26, 27, 28, 29, 30, 31, 32, 33, 34, 35, 36, 37, 38, 39, 40, 41, 42, 43, 44, 45, 46, 47, 48, 49, 50, 51, 52, 53, 54, 55, 56, 57, 58, 59, 60, 61, 62, 63, 64, 65, 66, 67, 68, 69, 70, 71, 72, 73, 74, 75, 76, 77, 78, 79, 80, 81, 82, 83, 84, 85, 86, 87, 88, 89, 90, 91, 92, 93, 94, 95] (by decide +kernel) (by decide +kernel)) (goodIn_sub (fun _ h => List.mem_cons_of_mem _ (List.mem_append_left _ (List.mem_append_right _ h))) (by decide +kernel))) (goodIn_sub (fun _ h => List.mem_cons_of_mem _ (List.mem_append_right _ h)) (by decide +kernel))
set_option maxRecDepth 20000 in
theorem gL_kindWith_X8_kindWith : GoodIn wsL_kindWith (wsV RL 58 RX8 yX8_kindWith wsX8_kindWith) := goodIn_app (goodIn_of _ (by decide +kernel)) ggL_kindWith_X8_kindWith
theorem dL_kindWith_0 : decode cL_kindWith 0 = .ok (.aload_n 3, 1) := by decide +kernel
theorem dL_kindWith_1 : decode cL_kindWith 1 = .ok (.iconst 0, 1) := by decide +kernel
theorem dL_kindWith_2 : decode cL_kindWith 2 = .ok (.aload_n 0, 1) := by decide +kernel
theorem dL_kindWith_3 : decode cL_kindWith 3 = .ok (.iload_n 1, 1) := by decide +kernel
theorem dL_kindWith_4 : decode cL_kindWith 4 = .ok (.iload_n 2, 1) := by decide +kernel
theorem dL_kindWith_5 : decode cL_kindWith 5 = .ok (.invokevirtual 58, 3) := by decide +kernel
theorem dL_kindWith_8 : decode cL_kindWith 8 = .ok (.i2l, 1) := by decide +kernel
theorem dL_kindWith_9 : decode cL_kindWith 9 = .ok (.lastore, 1) := by decide +kernel
theorem dL_kindWith_10 : decode cL_kindWith 10 = .ok (.goto 11, 3) := by decide +kernel
theorem dL_kindWith_13 : decode cL_kindWith 13 = .ok (.astore 4, 2) := by decide +kernel
theorem dL_kindWith_15 : decode cL_kindWith 15 = .ok (.iconst 1, 1) := by decide +kernel
theorem dL_kindWith_16 : decode cL_kindWith 16 = .ok (.ireturn, 1) := by decide +kernel
theorem dL_kindWith_17 : decode cL_kindWith 17 = .ok (.astore 4, 2) := by decide +kernel
theorem dL_kindWith_19 : decode cL_kindWith 19 = .ok (.iconst 2, 1) := by decide +kernel
theorem dL_kindWith_20 : decode cL_kindWith 20 = .ok (.ireturn, 1) := by decide +kernel
theorem dL_kindWith_21 : decode cL_kindWith 21 = .ok (.iconst 0, 1) := by decide +kernel
theorem dL_kindWith_22 : decode cL_kindWith 22 = .ok (.ireturn, 1) := by decide +kernel
