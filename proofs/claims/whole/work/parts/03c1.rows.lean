theorem dX5_bitsOfLevel_36 : decode cX5_bitsOfLevel 36 = .ok (.goto (-12), 3) := by decide +kernel
theorem dX5_bitsOfLevel_39 : decode cX5_bitsOfLevel 39 = .ok (.iload_n 1, 1) := by decide +kernel
theorem dX5_bitsOfLevel_40 : decode cX5_bitsOfLevel 40 = .ok (.ireturn, 1) := by decide +kernel
theorem dX5_levelAt_0 : decode cX5_levelAt 0 = .ok (.iload_n 1, 1) := by decide +kernel
theorem dX5_levelAt_1 : decode cX5_levelAt 1 = .ok (.ifCond .lt 14, 3) := by decide +kernel
theorem dX5_levelAt_4 : decode cX5_levelAt 4 = .ok (.iload_n 1, 1) := by decide +kernel
theorem dX5_levelAt_5 : decode cX5_levelAt 5 = .ok (.bipush 64, 2) := by decide +kernel
theorem dX5_levelAt_7 : decode cX5_levelAt 7 = .ok (.if_icmp .ge 8, 3) := by decide +kernel
theorem dX5_levelAt_10 : decode cX5_levelAt 10 = .ok (.iload_n 2, 1) := by decide +kernel
theorem dX5_levelAt_11 : decode cX5_levelAt 11 = .ok (.iconst 1, 1) := by decide +kernel
theorem dX5_levelAt_12 : decode cX5_levelAt 12 = .ok (.if_icmp .ge 7, 3) := by decide +kernel
theorem dX5_levelAt_15 : decode cX5_levelAt 15 = .ok (.iconst 0, 1) := by decide +kernel
theorem dX5_levelAt_16 : decode cX5_levelAt 16 = .ok (.goto 11, 3) := by decide +kernel
theorem dX5_levelAt_19 : decode cX5_levelAt 19 = .ok (.aload_n 0, 1) := by decide +kernel
theorem dX5_levelAt_20 : decode cX5_levelAt 20 = .ok (.getfield 25, 3) := by decide +kernel
theorem dX5_levelAt_23 : decode cX5_levelAt 23 = .ok (.iload_n 1, 1) := by decide +kernel
theorem dX5_levelAt_24 : decode cX5_levelAt 24 = .ok (.iaload, 1) := by decide +kernel
theorem dX5_levelAt_25 : decode cX5_levelAt 25 = .ok (.iload_n 2, 1) := by decide +kernel
theorem dX5_levelAt_26 : decode cX5_levelAt 26 = .ok (.idiv, 1) := by decide +kernel
theorem dX5_levelAt_27 : decode cX5_levelAt 27 = .ok (.ireturn, 1) := by decide +kernel
set_option maxRecDepth 20000 in
theorem ggX5_additionAt_X5_levelAt : GoodIn wsX5_additionAt wsX5_levelAt := goodIn_r _ [6, 7, 8, 9, 10, 11, 12, 13] (by decide +kernel) (by decide +kernel)
set_option maxRecDepth 20000 in
theorem gX5_additionAt_X5_levelAt : GoodIn wsX5_additionAt (wsV RX5 91 RX5 yX5_levelAt wsX5_levelAt) := goodIn_app (goodIn_of _ (by decide +kernel)) ggX5_additionAt_X5_levelAt
theorem dX5_additionAt_0 : decode cX5_additionAt 0 = .ok (.aload_n 0, 1) := by decide +kernel
theorem dX5_additionAt_1 : decode cX5_additionAt 1 = .ok (.getfield 28, 3) := by decide +kernel
theorem dX5_additionAt_4 : decode cX5_additionAt 4 = .ok (.aload_n 0, 1) := by decide +kernel
theorem dX5_additionAt_5 : decode cX5_additionAt 5 = .ok (.iload_n 1, 1) := by decide +kernel
theorem dX5_additionAt_6 : decode cX5_additionAt 6 = .ok (.aload_n 0, 1) := by decide +kernel
theorem dX5_additionAt_7 : decode cX5_additionAt 7 = .ok (.getfield 28, 3) := by decide +kernel
theorem dX5_additionAt_10 : decode cX5_additionAt 10 = .ok (.invokevirtual 91, 3) := by decide +kernel
theorem dX5_additionAt_13 : decode cX5_additionAt 13 = .ok (.imul, 1) := by decide +kernel
theorem dX5_additionAt_14 : decode cX5_additionAt 14 = .ok (.ireturn, 1) := by decide +kernel
set_option maxRecDepth 20000 in
theorem ggX6_init_X7_init : GoodIn wsX6_init wsX7_init := goodIn_r _ [10, 11, 2, 3, 12, 13, 14, 15, 16, 17, 18, 19, 20, 21, 22, 23, 24, 25, 26, 27, 28, 29, 42, 30, 31, 32, 33, 34, 35, 36, 37, 38, 39] (by decide +kernel) (by decide +kernel)
set_option maxRecDepth 20000 in
theorem gX6_init_X7_init_n9 : GoodIn wsX6_init (wsX7_init) := ggX6_init_X7_init
theorem dX6_init_0 : decode cX6_init 0 = .ok (.aload_n 0, 1) := by decide +kernel
theorem dX6_init_1 : decode cX6_init 1 = .ok (.invokespecial 1, 3) := by decide +kernel
theorem dX6_init_4 : decode cX6_init 4 = .ok (.aload_n 0, 1) := by decide +kernel
theorem dX6_init_5 : decode cX6_init 5 = .ok (.new 7, 3) := by decide +kernel
theorem dX6_init_8 : decode cX6_init 8 = .ok (.dup, 1) := by decide +kernel
theorem dX6_init_9 : decode cX6_init 9 = .ok (.invokespecial 9, 3) := by decide +kernel
theorem dX6_init_12 : decode cX6_init 12 = .ok (.putfield 10, 3) := by decide +kernel
theorem dX6_init_15 : decode cX6_init 15 = .ok (.aload_n 0, 1) := by decide +kernel
theorem dX6_init_16 : decode cX6_init 16 = .ok (.iconst 0, 1) := by decide +kernel
theorem dX6_init_17 : decode cX6_init 17 = .ok (.putfield 16, 3) := by decide +kernel
theorem dX6_init_20 : decode cX6_init 20 = .ok (.return_, 1) := by decide +kernel
set_option maxRecDepth 20000 in
theorem ggX7_init_X4_init : GoodIn wsX7_init wsX4_init := goodIn_r _ [19, 20, 2, 3, 10, 21, 22] (by decide +kernel) (by decide +kernel)
set_option maxRecDepth 20000 in
theorem gX7_init_X4_init_n11 : GoodIn wsX7_init (wsX4_init) := ggX7_init_X4_init
theorem dX7_init_0 : decode cX7_init 0 = .ok (.aload_n 0, 1) := by decide +kernel
theorem dX7_init_1 : decode cX7_init 1 = .ok (.invokespecial 3, 3) := by decide +kernel
theorem dX7_init_4 : decode cX7_init 4 = .ok (.aload_n 0, 1) := by decide +kernel
theorem dX7_init_5 : decode cX7_init 5 = .ok (.new 9, 3) := by decide +kernel
theorem dX7_init_8 : decode cX7_init 8 = .ok (.dup, 1) := by decide +kernel
theorem dX7_init_9 : decode cX7_init 9 = .ok (.invokespecial 11, 3) := by decide +kernel
theorem dX7_init_12 : decode cX7_init 12 = .ok (.putfield 12, 3) := by decide +kernel
theorem dX7_init_15 : decode cX7_init 15 = .ok (.aload_n 0, 1) := by decide +kernel
theorem dX7_init_16 : decode cX7_init 16 = .ok (.new 9, 3) := by decide +kernel
theorem dX7_init_19 : decode cX7_init 19 = .ok (.dup, 1) := by decide +kernel
theorem dX7_init_20 : decode cX7_init 20 = .ok (.invokespecial 11, 3) := by decide +kernel
theorem dX7_init_23 : decode cX7_init 23 = .ok (.putfield 18, 3) := by decide +kernel
theorem dX7_init_26 : decode cX7_init 26 = .ok (.aload_n 0, 1) := by decide +kernel
theorem dX7_init_27 : decode cX7_init 27 = .ok (.new 9, 3) := by decide +kernel
theorem dX7_init_30 : decode cX7_init 30 = .ok (.dup, 1) := by decide +kernel
theorem dX7_init_31 : decode cX7_init 31 = .ok (.invokespecial 11, 3) := by decide +kernel
theorem dX7_init_34 : decode cX7_init 34 = .ok (.putfield 21, 3) := by decide +kernel
theorem dX7_init_37 : decode cX7_init 37 = .ok (.aload_n 0, 1) := by decide +kernel
theorem dX7_init_38 : decode cX7_init 38 = .ok (.iconst 4, 1) := by decide +kernel
theorem dX7_init_39 : decode cX7_init 39 = .ok (.newarray .int, 2) := by decide +kernel
theorem dX7_init_41 : decode cX7_init 41 = .ok (.putfield 24, 3) := by decide +kernel
theorem dX7_init_44 : decode cX7_init 44 = .ok (.aload_n 0, 1) := by decide +kernel
theorem dX7_init_45 : decode cX7_init 45 = .ok (.iconst 4, 1) := by decide +kernel
theorem dX7_init_46 : decode cX7_init 46 = .ok (.newarray .int, 2) := by decide +kernel
theorem dX7_init_48 : decode cX7_init 48 = .ok (.putfield 28, 3) := by decide +kernel
theorem dX7_init_51 : decode cX7_init 51 = .ok (.aload_n 0, 1) := by decide +kernel
theorem dX7_init_52 : decode cX7_init 52 = .ok (.bipush 120, 2) := by decide +kernel
theorem dX7_init_54 : decode cX7_init 54 = .ok (.putfield 31, 3) := by decide +kernel
theorem dX7_init_57 : decode cX7_init 57 = .ok (.aload_n 0, 1) := by decide +kernel
theorem dX7_init_58 : decode cX7_init 58 = .ok (.bipush 8, 2) := by decide +kernel
theorem dX7_init_60 : decode cX7_init 60 = .ok (.putfield 35, 3) := by decide +kernel
theorem dX7_init_63 : decode cX7_init 63 = .ok (.aload_n 0, 1) := by decide +kernel
theorem dX7_init_64 : decode cX7_init 64 = .ok (.iconst 0, 1) := by decide +kernel
theorem dX7_init_65 : decode cX7_init 65 = .ok (.putfield 38, 3) := by decide +kernel
theorem dX7_init_68 : decode cX7_init 68 = .ok (.aload_n 0, 1) := by decide +kernel
theorem dX7_init_69 : decode cX7_init 69 = .ok (.iconst 0, 1) := by decide +kernel
theorem dX7_init_70 : decode cX7_init 70 = .ok (.putfield 41, 3) := by decide +kernel
theorem dX7_init_73 : decode cX7_init 73 = .ok (.aload_n 0, 1) := by decide +kernel
theorem dX7_init_74 : decode cX7_init 74 = .ok (.iconst 0, 1) := by decide +kernel
theorem dX7_init_75 : decode cX7_init 75 = .ok (.putfield 44, 3) := by decide +kernel
theorem dX7_init_78 : decode cX7_init 78 = .ok (.return_, 1) := by decide +kernel
theorem dX7_isKeyDue_0 : decode cX7_isKeyDue 0 = .ok (.aload_n 0, 1) := by decide +kernel
theorem dX7_isKeyDue_1 : decode cX7_isKeyDue 1 = .ok (.getfield 35, 3) := by decide +kernel
theorem dX7_isKeyDue_4 : decode cX7_isKeyDue 4 = .ok (.ifCond .le 19, 3) := by decide +kernel
theorem dX7_isKeyDue_7 : decode cX7_isKeyDue 7 = .ok (.aload_n 0, 1) := by decide +kernel
theorem dX7_isKeyDue_8 : decode cX7_isKeyDue 8 = .ok (.getfield 38, 3) := by decide +kernel
theorem dX7_isKeyDue_11 : decode cX7_isKeyDue 11 = .ok (.aload_n 0, 1) := by decide +kernel
theorem dX7_isKeyDue_12 : decode cX7_isKeyDue 12 = .ok (.getfield 35, 3) := by decide +kernel
theorem dX7_isKeyDue_15 : decode cX7_isKeyDue 15 = .ok (.irem, 1) := by decide +kernel
theorem dX7_isKeyDue_16 : decode cX7_isKeyDue 16 = .ok (.ifCond .ne 7, 3) := by decide +kernel
theorem dX7_isKeyDue_19 : decode cX7_isKeyDue 19 = .ok (.iconst 1, 1) := by decide +kernel
theorem dX7_isKeyDue_20 : decode cX7_isKeyDue 20 = .ok (.goto 4, 3) := by decide +kernel
theorem dX7_isKeyDue_23 : decode cX7_isKeyDue 23 = .ok (.iconst 0, 1) := by decide +kernel
theorem dX7_isKeyDue_24 : decode cX7_isKeyDue 24 = .ok (.ireturn, 1) := by decide +kernel
set_option maxRecDepth 20000 in
theorem ggX7_copyFrom_X4_copyFrom : GoodIn wsX7_copyFrom wsX4_copyFrom := goodIn_r _ [18, 19, 20, 6, 7, 8, 31] (by decide +kernel) (by decide +kernel)
set_option maxRecDepth 20000 in
theorem gX7_copyFrom_X4_copyFrom_n47 : GoodIn wsX7_copyFrom (wsX4_copyFrom) := ggX7_copyFrom_X4_copyFrom
theorem dX7_copyFrom_0 : decode cX7_copyFrom 0 = .ok (.aload_n 0, 1) := by decide +kernel
theorem dX7_copyFrom_1 : decode cX7_copyFrom 1 = .ok (.getfield 12, 3) := by decide +kernel
theorem dX7_copyFrom_4 : decode cX7_copyFrom 4 = .ok (.aload_n 1, 1) := by decide +kernel
theorem dX7_copyFrom_5 : decode cX7_copyFrom 5 = .ok (.getfield 12, 3) := by decide +kernel
theorem dX7_copyFrom_8 : decode cX7_copyFrom 8 = .ok (.invokevirtual 47, 3) := by decide +kernel
theorem dX7_copyFrom_11 : decode cX7_copyFrom 11 = .ok (.aload_n 0, 1) := by decide +kernel
theorem dX7_copyFrom_12 : decode cX7_copyFrom 12 = .ok (.getfield 18, 3) := by decide +kernel
theorem dX7_copyFrom_15 : decode cX7_copyFrom 15 = .ok (.aload_n 1, 1) := by decide +kernel
theorem dX7_copyFrom_16 : decode cX7_copyFrom 16 = .ok (.getfield 18, 3) := by decide +kernel
theorem dX7_copyFrom_19 : decode cX7_copyFrom 19 = .ok (.invokevirtual 47, 3) := by decide +kernel
theorem dX7_copyFrom_22 : decode cX7_copyFrom 22 = .ok (.aload_n 0, 1) := by decide +kernel
theorem dX7_copyFrom_23 : decode cX7_copyFrom 23 = .ok (.getfield 21, 3) := by decide +kernel
theorem dX7_copyFrom_26 : decode cX7_copyFrom 26 = .ok (.aload_n 1, 1) := by decide +kernel
theorem dX7_copyFrom_27 : decode cX7_copyFrom 27 = .ok (.getfield 21, 3) := by decide +kernel
theorem dX7_copyFrom_30 : decode cX7_copyFrom 30 = .ok (.invokevirtual 47, 3) := by decide +kernel
theorem dX7_copyFrom_33 : decode cX7_copyFrom 33 = .ok (.aload_n 1, 1) := by decide +kernel
theorem dX7_copyFrom_34 : decode cX7_copyFrom 34 = .ok (.getfield 24, 3) := by decide +kernel
theorem dX7_copyFrom_37 : decode cX7_copyFrom 37 = .ok (.iconst 0, 1) := by decide +kernel
theorem dX7_copyFrom_38 : decode cX7_copyFrom 38 = .ok (.aload_n 0, 1) := by decide +kernel
theorem dX7_copyFrom_39 : decode cX7_copyFrom 39 = .ok (.getfield 24, 3) := by decide +kernel
theorem dX7_copyFrom_42 : decode cX7_copyFrom 42 = .ok (.iconst 0, 1) := by decide +kernel
theorem dX7_copyFrom_43 : decode cX7_copyFrom 43 = .ok (.iconst 4, 1) := by decide +kernel
theorem dX7_copyFrom_44 : decode cX7_copyFrom 44 = .ok (.invokestatic 51, 3) := by decide +kernel
theorem dX7_copyFrom_47 : decode cX7_copyFrom 47 = .ok (.aload_n 1, 1) := by decide +kernel
theorem dX7_copyFrom_48 : decode cX7_copyFrom 48 = .ok (.getfield 28, 3) := by decide +kernel
theorem dX7_copyFrom_51 : decode cX7_copyFrom 51 = .ok (.iconst 0, 1) := by decide +kernel
theorem dX7_copyFrom_52 : decode cX7_copyFrom 52 = .ok (.aload_n 0, 1) := by decide +kernel
theorem dX7_copyFrom_53 : decode cX7_copyFrom 53 = .ok (.getfield 28, 3) := by decide +kernel
theorem dX7_copyFrom_56 : decode cX7_copyFrom 56 = .ok (.iconst 0, 1) := by decide +kernel
theorem dX7_copyFrom_57 : decode cX7_copyFrom 57 = .ok (.iconst 4, 1) := by decide +kernel
theorem dX7_copyFrom_58 : decode cX7_copyFrom 58 = .ok (.invokestatic 51, 3) := by decide +kernel
theorem dX7_copyFrom_61 : decode cX7_copyFrom 61 = .ok (.aload_n 0, 1) := by decide +kernel
theorem dX7_copyFrom_62 : decode cX7_copyFrom 62 = .ok (.aload_n 1, 1) := by decide +kernel
theorem dX7_copyFrom_63 : decode cX7_copyFrom 63 = .ok (.getfield 31, 3) := by decide +kernel
theorem dX7_copyFrom_66 : decode cX7_copyFrom 66 = .ok (.putfield 31, 3) := by decide +kernel
theorem dX7_copyFrom_69 : decode cX7_copyFrom 69 = .ok (.aload_n 0, 1) := by decide +kernel
theorem dX7_copyFrom_70 : decode cX7_copyFrom 70 = .ok (.aload_n 1, 1) := by decide +kernel
theorem dX7_copyFrom_71 : decode cX7_copyFrom 71 = .ok (.getfield 35, 3) := by decide +kernel
theorem dX7_copyFrom_74 : decode cX7_copyFrom 74 = .ok (.putfield 35, 3) := by decide +kernel
theorem dX7_copyFrom_77 : decode cX7_copyFrom 77 = .ok (.aload_n 0, 1) := by decide +kernel
theorem dX7_copyFrom_78 : decode cX7_copyFrom 78 = .ok (.aload_n 1, 1) := by decide +kernel
theorem dX7_copyFrom_79 : decode cX7_copyFrom 79 = .ok (.getfield 38, 3) := by decide +kernel
theorem dX7_copyFrom_82 : decode cX7_copyFrom 82 = .ok (.putfield 38, 3) := by decide +kernel
theorem dX7_copyFrom_85 : decode cX7_copyFrom 85 = .ok (.aload_n 0, 1) := by decide +kernel
theorem dX7_copyFrom_86 : decode cX7_copyFrom 86 = .ok (.aload_n 1, 1) := by decide +kernel
theorem dX7_copyFrom_87 : decode cX7_copyFrom 87 = .ok (.getfield 41, 3) := by decide +kernel
theorem dX7_copyFrom_90 : decode cX7_copyFrom 90 = .ok (.putfield 41, 3) := by decide +kernel
theorem dX7_copyFrom_93 : decode cX7_copyFrom 93 = .ok (.aload_n 0, 1) := by decide +kernel
theorem dX7_copyFrom_94 : decode cX7_copyFrom 94 = .ok (.aload_n 1, 1) := by decide +kernel
theorem dX7_copyFrom_95 : decode cX7_copyFrom 95 = .ok (.getfield 44, 3) := by decide +kernel
theorem dX7_copyFrom_98 : decode cX7_copyFrom 98 = .ok (.putfield 44, 3) := by decide +kernel
theorem dX7_copyFrom_101 : decode cX7_copyFrom 101 = .ok (.return_, 1) := by decide +kernel
set_option maxRecDepth 20000 in
theorem ggX8_init_X7_init : GoodIn wsX8_init wsX7_init := goodIn_r _ [34, 35, 2, 3, 36, 17, 18, 37, 38, 39, 40, 41, 42, 43, 44, 45, 46, 47, 48, 49, 50, 51, 113, 87, 88, 89, 90, 91, 92, 93, 94, 95, 96] (by decide +kernel) (by decide +kernel)
set_option maxRecDepth 20000 in
theorem gX8_init_X7_init_n11 : GoodIn wsX8_init (wsX7_init) := ggX8_init_X7_init
set_option maxRecDepth 20000 in
theorem ggX8_init_X5_init : GoodIn wsX8_init wsX5_init := goodIn_r _ [53, 54, 2, 3, 40, 55, 56, 57, 17, 18, 58, 59, 60, 61, 48, 49, 50, 51, 105, 106, 107, 108, 109, 110, 113] (by decide +kernel) (by decide +kernel)
set_option maxRecDepth 20000 in
theorem gX8_init_X5_init_n18 : GoodIn wsX8_init (wsX5_init) := ggX8_init_X5_init
set_option maxRecDepth 20000 in
theorem ggX8_init_X0_init : GoodIn wsX8_init wsX0_init := goodIn_r _ [63, 64, 2, 3, 65, 66, 67, 111, 112] (by decide +kernel) (by decide +kernel)
set_option maxRecDepth 20000 in
theorem gX8_init_X0_init_n25 : GoodIn wsX8_init (wsX0_init) := ggX8_init_X0_init
set_option maxRecDepth 20000 in
theorem ggX8_init_X4_init : GoodIn wsX8_init wsX4_init := goodIn_r _ [49, 50, 2, 3, 40, 51, 113] (by decide +kernel) (by decide +kernel)
set_option maxRecDepth 20000 in
theorem gX8_init_X4_init_n32 : GoodIn wsX8_init (wsX4_init) := ggX8_init_X4_init
set_option maxRecDepth 20000 in
theorem ggX8_init_X1_init : GoodIn wsX8_init wsX1_init := goodIn_r _ [69, 70, 2, 3, 71, 72, 73, 114, 115] (by decide +kernel) (by decide +kernel)
set_option maxRecDepth 20000 in
theorem gX8_init_X1_init_n39 : GoodIn wsX8_init (wsX1_init) := ggX8_init_X1_init
set_option maxRecDepth 20000 in
theorem ggX8_init_X2_init : GoodIn wsX8_init wsX2_init := goodIn_r _ [75, 76, 2, 3, 77, 78, 79, 80, 5, 6, 33, 34, 35, 36, 17, 18, 37, 38, 39, 40, 41, 42, 43, 44, 45, 46, 47, 48, 49, 50, 51, 116, 117, 118, 87, 88, 89, 90, 91, 92, 93, 94, 95, 96, 113] (by decide +kernel) (by decide +kernel)
set_option maxRecDepth 20000 in
theorem gX8_init_X2_init_n46 : GoodIn wsX8_init (wsX2_init) := ggX8_init_X2_init
set_option maxRecDepth 20000 in
theorem ggX8_init_X6_init : GoodIn wsX8_init wsX6_init := goodIn_r _ [82, 83, 2, 3, 84, 5, 6, 85, 86, 33, 34, 35, 36, 17, 18, 37, 38, 39, 40, 41, 42, 43, 44, 45, 46, 47, 48, 49, 50, 51, 87, 88, 89, 90, 91, 92, 93, 94, 95, 96, 119, 120, 113] (by decide +kernel) (by decide +kernel)
set_option maxRecDepth 20000 in
theorem gX8_init_X6_init_n53 : GoodIn wsX8_init (wsX6_init) := ggX8_init_X6_init
theorem dX8_init_0 : decode cX8_init 0 = .ok (.aload_n 0, 1) := by decide +kernel
theorem dX8_init_1 : decode cX8_init 1 = .ok (.invokespecial 3, 3) := by decide +kernel
theorem dX8_init_4 : decode cX8_init 4 = .ok (.aload_n 0, 1) := by decide +kernel
theorem dX8_init_5 : decode cX8_init 5 = .ok (.new 9, 3) := by decide +kernel
theorem dX8_init_8 : decode cX8_init 8 = .ok (.dup, 1) := by decide +kernel
theorem dX8_init_9 : decode cX8_init 9 = .ok (.invokespecial 11, 3) := by decide +kernel
theorem dX8_init_12 : decode cX8_init 12 = .ok (.putfield 12, 3) := by decide +kernel
theorem dX8_init_15 : decode cX8_init 15 = .ok (.aload_n 0, 1) := by decide +kernel
theorem dX8_init_16 : decode cX8_init 16 = .ok (.new 16, 3) := by decide +kernel
theorem dX8_init_19 : decode cX8_init 19 = .ok (.dup, 1) := by decide +kernel
theorem dX8_init_20 : decode cX8_init 20 = .ok (.invokespecial 18, 3) := by decide +kernel
theorem dX8_init_23 : decode cX8_init 23 = .ok (.putfield 19, 3) := by decide +kernel
theorem dX8_init_26 : decode cX8_init 26 = .ok (.aload_n 0, 1) := by decide +kernel
theorem dX8_init_27 : decode cX8_init 27 = .ok (.new 23, 3) := by decide +kernel
theorem dX8_init_30 : decode cX8_init 30 = .ok (.dup, 1) := by decide +kernel
theorem dX8_init_31 : decode cX8_init 31 = .ok (.invokespecial 25, 3) := by decide +kernel
theorem dX8_init_34 : decode cX8_init 34 = .ok (.putfield 26, 3) := by decide +kernel
theorem dX8_init_37 : decode cX8_init 37 = .ok (.aload_n 0, 1) := by decide +kernel
theorem dX8_init_38 : decode cX8_init 38 = .ok (.new 30, 3) := by decide +kernel
theorem dX8_init_41 : decode cX8_init 41 = .ok (.dup, 1) := by decide +kernel
theorem dX8_init_42 : decode cX8_init 42 = .ok (.invokespecial 32, 3) := by decide +kernel
theorem dX8_init_45 : decode cX8_init 45 = .ok (.putfield 33, 3) := by decide +kernel
theorem dX8_init_48 : decode cX8_init 48 = .ok (.aload_n 0, 1) := by decide +kernel
theorem dX8_init_49 : decode cX8_init 49 = .ok (.new 37, 3) := by decide +kernel
theorem dX8_init_52 : decode cX8_init 52 = .ok (.dup, 1) := by decide +kernel
theorem dX8_init_53 : decode cX8_init 53 = .ok (.invokespecial 39, 3) := by decide +kernel
theorem dX8_init_56 : decode cX8_init 56 = .ok (.putfield 40, 3) := by decide +kernel
theorem dX8_init_59 : decode cX8_init 59 = .ok (.aload_n 0, 1) := by decide +kernel
theorem dX8_init_60 : decode cX8_init 60 = .ok (.new 44, 3) := by decide +kernel
theorem dX8_init_63 : decode cX8_init 63 = .ok (.dup, 1) := by decide +kernel
theorem dX8_init_64 : decode cX8_init 64 = .ok (.invokespecial 46, 3) := by decide +kernel
theorem dX8_init_67 : decode cX8_init 67 = .ok (.putfield 47, 3) := by decide +kernel
theorem dX8_init_70 : decode cX8_init 70 = .ok (.aload_n 0, 1) := by decide +kernel
theorem dX8_init_71 : decode cX8_init 71 = .ok (.new 51, 3) := by decide +kernel
theorem dX8_init_74 : decode cX8_init 74 = .ok (.dup, 1) := by decide +kernel
theorem dX8_init_75 : decode cX8_init 75 = .ok (.invokespecial 53, 3) := by decide +kernel
theorem dX8_init_78 : decode cX8_init 78 = .ok (.putfield 54, 3) := by decide +kernel
theorem dX8_init_81 : decode cX8_init 81 = .ok (.aload_n 0, 1) := by decide +kernel
theorem dX8_init_82 : decode cX8_init 82 = .ok (.new 51, 3) := by decide +kernel
theorem dX8_init_85 : decode cX8_init 85 = .ok (.dup, 1) := by decide +kernel
theorem dX8_init_86 : decode cX8_init 86 = .ok (.invokespecial 53, 3) := by decide +kernel
theorem dX8_init_89 : decode cX8_init 89 = .ok (.putfield 58, 3) := by decide +kernel
theorem dX8_init_92 : decode cX8_init 92 = .ok (.return_, 1) := by decide +kernel
set_option maxRecDepth 20000 in
theorem ggX8_draw_X8_requirePixel : GoodIn wsX8_draw wsX8_requirePixel := goodIn_ca (goodIn_r _ [6, 7, 8] (by decide +kernel) (by decide +kernel)) (goodIn_sub (fun _ h => List.mem_cons_of_mem _ (List.mem_append_left _ (List.mem_append_right _ h))) (by decide +kernel))
set_option maxRecDepth 20000 in
theorem gX8_draw_X8_requirePixel : GoodIn wsX8_draw (va_wsS RX8 61 yX8_requirePixel wsX8_requirePixel) := goodIn_app (goodIn_of _ (by decide +kernel)) ggX8_draw_X8_requirePixel
set_option maxRecDepth 20000 in
theorem ggX8_draw_X8_requireWithin : GoodIn wsX8_draw wsX8_requireWithin := goodIn_ca (goodIn_r _ [11, 12, 13] (by decide +kernel) (by decide +kernel)) (goodIn_sub (fun _ h => List.mem_cons_of_mem _ (List.mem_append_right _ h)) (by decide +kernel))
set_option maxRecDepth 20000 in
theorem gX8_draw_X8_requireWithin : GoodIn wsX8_draw (va_wsS RX8 65 yX8_requireWithin wsX8_requireWithin) := goodIn_app (goodIn_of _ (by decide +kernel)) ggX8_draw_X8_requireWithin
set_option maxRecDepth 20000 in
theorem ggX8_draw_X2_record : GoodIn wsX8_draw wsX2_record := goodIn_r _ [17, 18, 19, 20, 21, 22, 23, 24, 25, 26, 15, 27, 28, 29, 30, 31, 32, 33, 34, 35, 36, 37, 38, 39, 40, 41, 42, 43, 44, 45, 46, 47, 48, 49, 50, 51, 52, 74, 75, 76, 64, 65, 66, 67, 68, 69, 70, 71, 72, 73, 77] (by decide +kernel) (by decide +kernel)
set_option maxRecDepth 20000 in
theorem gX8_draw_X2_record_n69 : GoodIn wsX8_draw (wsX2_record) := ggX8_draw_X2_record
set_option maxRecDepth 20000 in
theorem ggX8_draw_X4_put : GoodIn wsX8_draw wsX4_put := goodIn_r _ [55, 51, 77] (by decide +kernel) (by decide +kernel)
set_option maxRecDepth 20000 in
theorem gX8_draw_X4_put_n76 : GoodIn wsX8_draw (wsX4_put) := ggX8_draw_X4_put
theorem dX8_draw_0 : decode cX8_draw 0 = .ok (.iload_n 1, 1) := by decide +kernel
theorem dX8_draw_1 : decode cX8_draw 1 = .ok (.invokestatic 61, 3) := by decide +kernel
theorem dX8_draw_4 : decode cX8_draw 4 = .ok (.iload_n 2, 1) := by decide +kernel
theorem dX8_draw_5 : decode cX8_draw 5 = .ok (.iconst 0, 1) := by decide +kernel
theorem dX8_draw_6 : decode cX8_draw 6 = .ok (.bipush 15, 2) := by decide +kernel
theorem dX8_draw_8 : decode cX8_draw 8 = .ok (.invokestatic 65, 3) := by decide +kernel
theorem dX8_draw_11 : decode cX8_draw 11 = .ok (.aload_n 0, 1) := by decide +kernel
theorem dX8_draw_12 : decode cX8_draw 12 = .ok (.getfield 47, 3) := by decide +kernel
theorem dX8_draw_15 : decode cX8_draw 15 = .ok (.aload_n 0, 1) := by decide +kernel
theorem dX8_draw_16 : decode cX8_draw 16 = .ok (.getfield 12, 3) := by decide +kernel
theorem dX8_draw_19 : decode cX8_draw 19 = .ok (.invokevirtual 69, 3) := by decide +kernel
theorem dX8_draw_22 : decode cX8_draw 22 = .ok (.aload_n 0, 1) := by decide +kernel
theorem dX8_draw_23 : decode cX8_draw 23 = .ok (.getfield 12, 3) := by decide +kernel
theorem dX8_draw_26 : decode cX8_draw 26 = .ok (.getfield 73, 3) := by decide +kernel
theorem dX8_draw_29 : decode cX8_draw 29 = .ok (.iload_n 1, 1) := by decide +kernel
theorem dX8_draw_30 : decode cX8_draw 30 = .ok (.iload_n 2, 1) := by decide +kernel
theorem dX8_draw_31 : decode cX8_draw 31 = .ok (.invokevirtual 76, 3) := by decide +kernel
theorem dX8_draw_34 : decode cX8_draw 34 = .ok (.ireturn, 1) := by decide +kernel
set_option maxRecDepth 20000 in
theorem ggX8_fill_X8_requirePixel : GoodIn wsX8_fill wsX8_requirePixel := goodIn_ca (goodIn_r _ [6, 7, 8] (by decide +kernel) (by decide +kernel)) (goodIn_sub (fun _ h => List.mem_cons_of_mem _ (List.mem_append_left _ (List.mem_append_right _ h))) (by decide +kernel))
set_option maxRecDepth 20000 in
theorem gX8_fill_X8_requirePixel : GoodIn wsX8_fill (va_wsS RX8 61 yX8_requirePixel wsX8_requirePixel) := goodIn_app (goodIn_of _ (by decide +kernel)) ggX8_fill_X8_requirePixel
set_option maxRecDepth 20000 in
theorem ggX8_fill_X8_requireWithin : GoodIn wsX8_fill wsX8_requireWithin := goodIn_ca (goodIn_r _ [11, 12, 13] (by decide +kernel) (by decide +kernel)) (goodIn_sub (fun _ h => List.mem_cons_of_mem _ (List.mem_append_right _ h)) (by decide +kernel))
set_option maxRecDepth 20000 in
theorem gX8_fill_X8_requireWithin : GoodIn wsX8_fill (va_wsS RX8 65 yX8_requireWithin wsX8_requireWithin) := goodIn_app (goodIn_of _ (by decide +kernel)) ggX8_fill_X8_requireWithin
set_option maxRecDepth 20000 in
theorem ggX8_fill_X2_record : GoodIn wsX8_fill wsX2_record := goodIn_r _ [17, 18, 19, 20, 21, 22, 23, 24, 25, 26, 15, 27, 28, 29, 30, 31, 32, 33, 34, 35, 36, 37, 38, 39, 40, 41, 42, 43, 44, 45, 46, 47, 48, 49, 50, 51, 52, 78, 79, 80, 68, 69, 70, 71, 72, 73, 74, 75, 76, 77, 81] (by decide +kernel) (by decide +kernel)
set_option maxRecDepth 20000 in
theorem gX8_fill_X2_record_n69 : GoodIn wsX8_fill (wsX2_record) := ggX8_fill_X2_record
set_option maxRecDepth 20000 in
theorem ggX8_fill_X4_putRectangle : GoodIn wsX8_fill wsX4_putRectangle := goodIn_r _ [55, 56, 57, 58, 48, 59, 51, 81] (by decide +kernel) (by decide +kernel)
set_option maxRecDepth 20000 in
theorem gX8_fill_X4_putRectangle_n80 : GoodIn wsX8_fill (wsX4_putRectangle) := ggX8_fill_X4_putRectangle
theorem dX8_fill_0 : decode cX8_fill 0 = .ok (.iload_n 1, 1) := by decide +kernel
theorem dX8_fill_1 : decode cX8_fill 1 = .ok (.invokestatic 61, 3) := by decide +kernel
theorem dX8_fill_4 : decode cX8_fill 4 = .ok (.iload_n 2, 1) := by decide +kernel
theorem dX8_fill_5 : decode cX8_fill 5 = .ok (.iconst 1, 1) := by decide +kernel
theorem dX8_fill_6 : decode cX8_fill 6 = .ok (.bipush 8, 2) := by decide +kernel
theorem dX8_fill_8 : decode cX8_fill 8 = .ok (.invokestatic 65, 3) := by decide +kernel
theorem dX8_fill_11 : decode cX8_fill 11 = .ok (.iload_n 3, 1) := by decide +kernel
theorem dX8_fill_12 : decode cX8_fill 12 = .ok (.iconst 1, 1) := by decide +kernel
theorem dX8_fill_13 : decode cX8_fill 13 = .ok (.bipush 8, 2) := by decide +kernel
theorem dX8_fill_15 : decode cX8_fill 15 = .ok (.invokestatic 65, 3) := by decide +kernel
theorem dX8_fill_18 : decode cX8_fill 18 = .ok (.iload 4, 2) := by decide +kernel
theorem dX8_fill_20 : decode cX8_fill 20 = .ok (.iconst 0, 1) := by decide +kernel
theorem dX8_fill_21 : decode cX8_fill 21 = .ok (.bipush 15, 2) := by decide +kernel
theorem dX8_fill_23 : decode cX8_fill 23 = .ok (.invokestatic 65, 3) := by decide +kernel
theorem dX8_fill_26 : decode cX8_fill 26 = .ok (.aload_n 0, 1) := by decide +kernel
theorem dX8_fill_27 : decode cX8_fill 27 = .ok (.getfield 47, 3) := by decide +kernel
theorem dX8_fill_30 : decode cX8_fill 30 = .ok (.aload_n 0, 1) := by decide +kernel
theorem dX8_fill_31 : decode cX8_fill 31 = .ok (.getfield 12, 3) := by decide +kernel
theorem dX8_fill_34 : decode cX8_fill 34 = .ok (.invokevirtual 69, 3) := by decide +kernel
theorem dX8_fill_37 : decode cX8_fill 37 = .ok (.aload_n 0, 1) := by decide +kernel
theorem dX8_fill_38 : decode cX8_fill 38 = .ok (.getfield 12, 3) := by decide +kernel
theorem dX8_fill_41 : decode cX8_fill 41 = .ok (.getfield 73, 3) := by decide +kernel
theorem dX8_fill_44 : decode cX8_fill 44 = .ok (.iload_n 1, 1) := by decide +kernel
theorem dX8_fill_45 : decode cX8_fill 45 = .ok (.iload_n 2, 1) := by decide +kernel
theorem dX8_fill_46 : decode cX8_fill 46 = .ok (.iload_n 3, 1) := by decide +kernel
theorem dX8_fill_47 : decode cX8_fill 47 = .ok (.iload 4, 2) := by decide +kernel
theorem dX8_fill_49 : decode cX8_fill 49 = .ok (.invokevirtual 80, 3) := by decide +kernel
theorem dX8_fill_52 : decode cX8_fill 52 = .ok (.ireturn, 1) := by decide +kernel
set_option maxRecDepth 20000 in
theorem ggX8_scroll_X8_requireWithin : GoodIn wsX8_scroll wsX8_requireWithin := goodIn_ca (goodIn_r _ [6, 7, 8] (by decide +kernel) (by decide +kernel)) (goodIn_sub (fun _ h => List.mem_cons_of_mem _ (List.mem_append_right _ h)) (by decide +kernel))
set_option maxRecDepth 20000 in
theorem gX8_scroll_X8_requireWithin : GoodIn wsX8_scroll (va_wsS RX8 65 yX8_requireWithin wsX8_requireWithin) := goodIn_app (goodIn_of _ (by decide +kernel)) ggX8_scroll_X8_requireWithin
set_option maxRecDepth 20000 in
theorem ggX8_scroll_X2_record : GoodIn wsX8_scroll wsX2_record := goodIn_r _ [12, 13, 14, 15, 16, 17, 18, 19, 20, 21, 10, 22, 23, 24, 25, 26, 27, 28, 29, 30, 31, 32, 33, 34, 35, 36, 37, 38, 39, 40, 41, 42, 43, 44, 45, 46, 47, 72, 73, 74, 75, 76, 77, 78, 79, 80, 81, 82, 83, 84, 85] (by decide +kernel) (by decide +kernel)
set_option maxRecDepth 20000 in
theorem gX8_scroll_X2_record_n69 : GoodIn wsX8_scroll (wsX2_record) := ggX8_scroll_X2_record
set_option maxRecDepth 20000 in
theorem ggX8_scroll_X8_scrollDrawn : GoodIn wsX8_scroll wsX8_scrollDrawn := goodIn_r _ [51, 52, 2, 42, 43, 44, 45, 46, 47, 33, 34, 35, 53, 54, 55, 56, 57, 58, 59, 60, 61, 62, 63, 64, 65, 66, 67, 68, 69, 70, 71, 75, 76, 77, 78, 79, 80, 81, 82, 83, 84, 85] (by decide +kernel) (by decide +kernel)
set_option maxRecDepth 20000 in
theorem gX8_scroll_X8_scrollDrawn : GoodIn wsX8_scroll (wsV RX8 84 RX8 yX8_scrollDrawn wsX8_scrollDrawn) := goodIn_app (goodIn_of _ (by decide +kernel)) ggX8_scroll_X8_scrollDrawn
theorem dX8_scroll_0 : decode cX8_scroll 0 = .ok (.iload_n 1, 1) := by decide +kernel
theorem dX8_scroll_1 : decode cX8_scroll 1 = .ok (.bipush (-2), 2) := by decide +kernel
theorem dX8_scroll_3 : decode cX8_scroll 3 = .ok (.iconst 2, 1) := by decide +kernel
theorem dX8_scroll_4 : decode cX8_scroll 4 = .ok (.invokestatic 65, 3) := by decide +kernel
theorem dX8_scroll_7 : decode cX8_scroll 7 = .ok (.iload_n 2, 1) := by decide +kernel
theorem dX8_scroll_8 : decode cX8_scroll 8 = .ok (.bipush (-2), 2) := by decide +kernel
theorem dX8_scroll_10 : decode cX8_scroll 10 = .ok (.iconst 2, 1) := by decide +kernel
theorem dX8_scroll_11 : decode cX8_scroll 11 = .ok (.invokestatic 65, 3) := by decide +kernel
theorem dX8_scroll_14 : decode cX8_scroll 14 = .ok (.aload_n 0, 1) := by decide +kernel
theorem dX8_scroll_15 : decode cX8_scroll 15 = .ok (.getfield 47, 3) := by decide +kernel
theorem dX8_scroll_18 : decode cX8_scroll 18 = .ok (.aload_n 0, 1) := by decide +kernel
theorem dX8_scroll_19 : decode cX8_scroll 19 = .ok (.getfield 12, 3) := by decide +kernel
theorem dX8_scroll_22 : decode cX8_scroll 22 = .ok (.invokevirtual 69, 3) := by decide +kernel
theorem dX8_scroll_25 : decode cX8_scroll 25 = .ok (.aload_n 0, 1) := by decide +kernel
theorem dX8_scroll_26 : decode cX8_scroll 26 = .ok (.iload_n 1, 1) := by decide +kernel
theorem dX8_scroll_27 : decode cX8_scroll 27 = .ok (.iload_n 2, 1) := by decide +kernel
theorem dX8_scroll_28 : decode cX8_scroll 28 = .ok (.invokevirtual 84, 3) := by decide +kernel
theorem dX8_scroll_31 : decode cX8_scroll 31 = .ok (.ireturn, 1) := by decide +kernel
set_option maxRecDepth 20000 in
theorem ggX8_send_X8_maySend : GoodIn wsX8_send wsX8_maySend := goodIn_r _ [9, 4, 146, 147, 148, 149, 150, 151, 152, 153, 154, 155, 156, 157, 158, 159, 160, 161, 162, 163] (by decide +kernel) (by decide +kernel)
set_option maxRecDepth 20000 in
theorem gX8_send_X8_maySend : GoodIn wsX8_send (wsV RX8 87 RX8 yX8_maySend wsX8_maySend) := goodIn_app (goodIn_of _ (by decide +kernel)) ggX8_send_X8_maySend
set_option maxRecDepth 20000 in
theorem ggX8_send_X2_record : GoodIn wsX8_send wsX2_record := goodIn_r _ [13, 14, 15, 16, 17, 18, 19, 20, 21, 22, 11, 23, 24, 25, 26, 27, 28, 29, 30, 31, 32, 33, 34, 35, 36, 37, 38, 39, 40, 41, 42, 43, 44, 45, 46, 47, 48, 164, 165, 166, 154, 155, 156, 157, 158, 159, 160, 161, 162, 163, 167] (by decide +kernel) (by decide +kernel)
set_option maxRecDepth 20000 in
theorem gX8_send_X2_record_n69 : GoodIn wsX8_send (wsX2_record) := ggX8_send_X2_record
set_option maxRecDepth 20000 in
theorem ggX8_send_X8_sendDrawn : GoodIn wsX8_send wsX8_sendDrawn := goodIn_r _ [52, 53, 4, 54, 55, 56, 57, 58, 59, 26, 60, 61, 39, 40, 62, 63, 64, 65, 66, 67, 68, 69, 70, 71, 72, 73, 74, 75, 18, 76, 77, 8, 78, 79, 80, 81, 82, 83, 44, 84, 85, 47, 86, 87, 88, 89, 90, 91, 92, 93, 94, 95, 96, 97, 98, 99, 100, 101, 102, 103, 104, 105, 106, 107, 108, 109, 110, 111, 112, 113, 114, 115, 116, 117, 118, 119, 120, 121, 43, 45, 46, 48, 34, 35, 36, 122, 123, 124, 125, 126, 17, 19, 127, 128, 129, 130, 131, 132, 133, 134, 135, 136, 137, 138, 139, 140, 141, 142, 143, 144, 145, 146, 147, 148, 149, 150, 151, 152, 153, 154, 155, 156, 157, 158, 159, 160, 161, 162, 163, 168, 169, 170, 171, 172, 173, 167] (by decide +kernel) (by decide +kernel)
set_option maxRecDepth 20000 in
theorem gX8_send_X8_sendDrawn : GoodIn wsX8_send (wsV RX8 98 RX8 yX8_sendDrawn wsX8_sendDrawn) := goodIn_app (goodIn_of _ (by decide +kernel)) ggX8_send_X8_sendDrawn
theorem dX8_send_0 : decode cX8_send 0 = .ok (.aload_n 0, 1) := by decide +kernel
theorem dX8_send_1 : decode cX8_send 1 = .ok (.invokevirtual 87, 3) := by decide +kernel
theorem dX8_send_4 : decode cX8_send 4 = .ok (.ifCond .ne 13, 3) := by decide +kernel
theorem dX8_send_7 : decode cX8_send 7 = .ok (.new 91, 3) := by decide +kernel
theorem dX8_send_10 : decode cX8_send 10 = .ok (.dup, 1) := by decide +kernel
theorem dX8_send_11 : decode cX8_send 11 = .ok (.ldc 93, 2) := by decide +kernel
theorem dX8_send_13 : decode cX8_send 13 = .ok (.invokespecial 95, 3) := by decide +kernel
theorem dX8_send_16 : decode cX8_send 16 = .ok (.athrow, 1) := by decide +kernel
theorem dX8_send_17 : decode cX8_send 17 = .ok (.aload_n 0, 1) := by decide +kernel
theorem dX8_send_18 : decode cX8_send 18 = .ok (.getfield 47, 3) := by decide +kernel
theorem dX8_send_21 : decode cX8_send 21 = .ok (.aload_n 0, 1) := by decide +kernel
theorem dX8_send_22 : decode cX8_send 22 = .ok (.getfield 12, 3) := by decide +kernel
theorem dX8_send_25 : decode cX8_send 25 = .ok (.invokevirtual 69, 3) := by decide +kernel
theorem dX8_send_28 : decode cX8_send 28 = .ok (.aload_n 0, 1) := by decide +kernel
theorem dX8_send_29 : decode cX8_send 29 = .ok (.iload_n 1, 1) := by decide +kernel
theorem dX8_send_30 : decode cX8_send 30 = .ok (.invokevirtual 98, 3) := by decide +kernel
theorem dX8_send_33 : decode cX8_send 33 = .ok (.ireturn, 1) := by decide +kernel
set_option maxRecDepth 20000 in
theorem ggX8_setBudget_X8_requireWithin : GoodIn wsX8_setBudget wsX8_requireWithin := goodIn_ca (goodIn_r _ [6, 7, 8] (by decide +kernel) (by decide +kernel)) (goodIn_sub (fun _ h => List.mem_cons_of_mem _ (List.mem_append_right _ h)) (by decide +kernel))
set_option maxRecDepth 20000 in
theorem gX8_setBudget_X8_requireWithin : GoodIn wsX8_setBudget (va_wsS RX8 65 yX8_requireWithin wsX8_requireWithin) := goodIn_app (goodIn_of _ (by decide +kernel)) ggX8_setBudget_X8_requireWithin
set_option maxRecDepth 20000 in
theorem ggX8_setBudget_X2_record : GoodIn wsX8_setBudget wsX2_record := goodIn_r _ [12, 13, 14, 15, 16, 17, 18, 19, 20, 21, 10, 22, 23, 24, 25, 26, 27, 28, 29, 30, 31, 32, 33, 34, 35, 36, 37, 38, 39, 40, 41, 42, 43, 44, 45, 46, 47, 66, 67, 68, 56, 57, 58, 59, 60, 61, 62, 63, 64, 65, 69] (by decide +kernel) (by decide +kernel)
set_option maxRecDepth 20000 in
theorem gX8_setBudget_X2_record_n69 : GoodIn wsX8_setBudget (wsX2_record) := ggX8_setBudget_X2_record
theorem dX8_setBudget_0 : decode cX8_setBudget 0 = .ok (.iload_n 1, 1) := by decide +kernel
theorem dX8_setBudget_1 : decode cX8_setBudget 1 = .ok (.iconst 4, 1) := by decide +kernel
theorem dX8_setBudget_2 : decode cX8_setBudget 2 = .ok (.sipush 300, 3) := by decide +kernel
theorem dX8_setBudget_5 : decode cX8_setBudget 5 = .ok (.invokestatic 65, 3) := by decide +kernel
theorem dX8_setBudget_8 : decode cX8_setBudget 8 = .ok (.aload_n 0, 1) := by decide +kernel
theorem dX8_setBudget_9 : decode cX8_setBudget 9 = .ok (.getfield 47, 3) := by decide +kernel
theorem dX8_setBudget_12 : decode cX8_setBudget 12 = .ok (.aload_n 0, 1) := by decide +kernel
theorem dX8_setBudget_13 : decode cX8_setBudget 13 = .ok (.getfield 12, 3) := by decide +kernel
theorem dX8_setBudget_16 : decode cX8_setBudget 16 = .ok (.invokevirtual 69, 3) := by decide +kernel
theorem dX8_setBudget_19 : decode cX8_setBudget 19 = .ok (.aload_n 0, 1) := by decide +kernel
theorem dX8_setBudget_20 : decode cX8_setBudget 20 = .ok (.getfield 12, 3) := by decide +kernel
theorem dX8_setBudget_23 : decode cX8_setBudget 23 = .ok (.getfield 102, 3) := by decide +kernel
theorem dX8_setBudget_26 : decode cX8_setBudget 26 = .ok (.istore_n 2, 1) := by decide +kernel
theorem dX8_setBudget_27 : decode cX8_setBudget 27 = .ok (.aload_n 0, 1) := by decide +kernel
theorem dX8_setBudget_28 : decode cX8_setBudget 28 = .ok (.getfield 12, 3) := by decide +kernel
theorem dX8_setBudget_31 : decode cX8_setBudget 31 = .ok (.iload_n 1, 1) := by decide +kernel
theorem dX8_setBudget_32 : decode cX8_setBudget 32 = .ok (.putfield 102, 3) := by decide +kernel
theorem dX8_setBudget_35 : decode cX8_setBudget 35 = .ok (.iload_n 2, 1) := by decide +kernel
theorem dX8_setBudget_36 : decode cX8_setBudget 36 = .ok (.ireturn, 1) := by decide +kernel
set_option maxRecDepth 20000 in
theorem ggX8_setKeyDistance_X8_requireWithin : GoodIn wsX8_setKeyDistance wsX8_requireWithin := goodIn_ca (goodIn_r _ [6, 7, 8] (by decide +kernel) (by decide +kernel)) (goodIn_sub (fun _ h => List.mem_cons_of_mem _ (List.mem_append_right _ h)) (by decide +kernel))
set_option maxRecDepth 20000 in
theorem gX8_setKeyDistance_X8_requireWithin : GoodIn wsX8_setKeyDistance (va_wsS RX8 65 yX8_requireWithin wsX8_requireWithin) := goodIn_app (goodIn_of _ (by decide +kernel)) ggX8_setKeyDistance_X8_requireWithin
set_option maxRecDepth 20000 in
theorem ggX8_setKeyDistance_X2_record : GoodIn wsX8_setKeyDistance wsX2_record := goodIn_r _ [12, 13, 14, 15, 16, 17, 18, 19, 20, 21, 10, 22, 23, 24, 25, 26, 27, 28, 29, 30, 31, 32, 33, 34, 35, 36, 37, 38, 39, 40, 41, 42, 43, 44, 45, 46, 47, 66, 67, 68, 56, 57, 58, 59, 60, 61, 62, 63, 64, 65, 69] (by decide +kernel) (by decide +kernel)
set_option maxRecDepth 20000 in
theorem gX8_setKeyDistance_X2_record_n69 : GoodIn wsX8_setKeyDistance (wsX2_record) := ggX8_setKeyDistance_X2_record
theorem dX8_setKeyDistance_0 : decode cX8_setKeyDistance 0 = .ok (.iload_n 1, 1) := by decide +kernel
theorem dX8_setKeyDistance_1 : decode cX8_setKeyDistance 1 = .ok (.iconst 1, 1) := by decide +kernel
theorem dX8_setKeyDistance_2 : decode cX8_setKeyDistance 2 = .ok (.bipush 20, 2) := by decide +kernel
theorem dX8_setKeyDistance_4 : decode cX8_setKeyDistance 4 = .ok (.invokestatic 65, 3) := by decide +kernel
theorem dX8_setKeyDistance_7 : decode cX8_setKeyDistance 7 = .ok (.aload_n 0, 1) := by decide +kernel
theorem dX8_setKeyDistance_8 : decode cX8_setKeyDistance 8 = .ok (.getfield 47, 3) := by decide +kernel
theorem dX8_setKeyDistance_11 : decode cX8_setKeyDistance 11 = .ok (.aload_n 0, 1) := by decide +kernel
theorem dX8_setKeyDistance_12 : decode cX8_setKeyDistance 12 = .ok (.getfield 12, 3) := by decide +kernel
theorem dX8_setKeyDistance_15 : decode cX8_setKeyDistance 15 = .ok (.invokevirtual 69, 3) := by decide +kernel
theorem dX8_setKeyDistance_18 : decode cX8_setKeyDistance 18 = .ok (.aload_n 0, 1) := by decide +kernel
theorem dX8_setKeyDistance_19 : decode cX8_setKeyDistance 19 = .ok (.getfield 12, 3) := by decide +kernel
theorem dX8_setKeyDistance_22 : decode cX8_setKeyDistance 22 = .ok (.getfield 106, 3) := by decide +kernel
theorem dX8_setKeyDistance_25 : decode cX8_setKeyDistance 25 = .ok (.istore_n 2, 1) := by decide +kernel
theorem dX8_setKeyDistance_26 : decode cX8_setKeyDistance 26 = .ok (.aload_n 0, 1) := by decide +kernel
theorem dX8_setKeyDistance_27 : decode cX8_setKeyDistance 27 = .ok (.getfield 12, 3) := by decide +kernel
theorem dX8_setKeyDistance_30 : decode cX8_setKeyDistance 30 = .ok (.iload_n 1, 1) := by decide +kernel
theorem dX8_setKeyDistance_31 : decode cX8_setKeyDistance 31 = .ok (.putfield 106, 3) := by decide +kernel
theorem dX8_setKeyDistance_34 : decode cX8_setKeyDistance 34 = .ok (.iload_n 2, 1) := by decide +kernel
theorem dX8_setKeyDistance_35 : decode cX8_setKeyDistance 35 = .ok (.ireturn, 1) := by decide +kernel
set_option maxRecDepth 20000 in
theorem ggX8_drawnAt_X8_requirePixel : GoodIn wsX8_drawnAt wsX8_requirePixel := goodIn_ca (goodIn_r _ [5, 6, 7] (by decide +kernel) (by decide +kernel)) (goodIn_sub (fun _ h => List.mem_cons_of_mem _ (List.mem_append_right _ h)) (by decide +kernel))
set_option maxRecDepth 20000 in
theorem gX8_drawnAt_X8_requirePixel : GoodIn wsX8_drawnAt (va_wsS RX8 61 yX8_requirePixel wsX8_requirePixel) := goodIn_app (goodIn_of _ (by decide +kernel)) ggX8_drawnAt_X8_requirePixel
set_option maxRecDepth 20000 in
theorem ggX8_drawnAt_X4_valueAt : GoodIn wsX8_drawnAt wsX4_valueAt := goodIn_r _ [11, 12, 31] (by decide +kernel) (by decide +kernel)
set_option maxRecDepth 20000 in
theorem gX8_drawnAt_X4_valueAt_n109 : GoodIn wsX8_drawnAt (wsX4_valueAt) := ggX8_drawnAt_X4_valueAt
theorem dX8_drawnAt_0 : decode cX8_drawnAt 0 = .ok (.iload_n 1, 1) := by decide +kernel
theorem dX8_drawnAt_1 : decode cX8_drawnAt 1 = .ok (.invokestatic 61, 3) := by decide +kernel
theorem dX8_drawnAt_4 : decode cX8_drawnAt 4 = .ok (.aload_n 0, 1) := by decide +kernel
theorem dX8_drawnAt_5 : decode cX8_drawnAt 5 = .ok (.getfield 12, 3) := by decide +kernel
theorem dX8_drawnAt_8 : decode cX8_drawnAt 8 = .ok (.getfield 73, 3) := by decide +kernel
theorem dX8_drawnAt_11 : decode cX8_drawnAt 11 = .ok (.iload_n 1, 1) := by decide +kernel
theorem dX8_drawnAt_12 : decode cX8_drawnAt 12 = .ok (.invokevirtual 109, 3) := by decide +kernel
theorem dX8_drawnAt_15 : decode cX8_drawnAt 15 = .ok (.ireturn, 1) := by decide +kernel
set_option maxRecDepth 20000 in
theorem ggX8_sentAt_X8_requirePixel : GoodIn wsX8_sentAt wsX8_requirePixel := goodIn_ca (goodIn_r _ [5, 6, 7] (by decide +kernel) (by decide +kernel)) (goodIn_sub (fun _ h => List.mem_cons_of_mem _ (List.mem_append_right _ h)) (by decide +kernel))
set_option maxRecDepth 20000 in
theorem gX8_sentAt_X8_requirePixel : GoodIn wsX8_sentAt (va_wsS RX8 61 yX8_requirePixel wsX8_requirePixel) := goodIn_app (goodIn_of _ (by decide +kernel)) ggX8_sentAt_X8_requirePixel
set_option maxRecDepth 20000 in
theorem ggX8_sentAt_X4_valueAt : GoodIn wsX8_sentAt wsX4_valueAt := goodIn_r _ [11, 12, 31] (by decide +kernel) (by decide +kernel)
set_option maxRecDepth 20000 in
theorem gX8_sentAt_X4_valueAt_n109 : GoodIn wsX8_sentAt (wsX4_valueAt) := ggX8_sentAt_X4_valueAt
theorem dX8_sentAt_0 : decode cX8_sentAt 0 = .ok (.iload_n 1, 1) := by decide +kernel
theorem dX8_sentAt_1 : decode cX8_sentAt 1 = .ok (.invokestatic 61, 3) := by decide +kernel
theorem dX8_sentAt_4 : decode cX8_sentAt 4 = .ok (.aload_n 0, 1) := by decide +kernel
theorem dX8_sentAt_5 : decode cX8_sentAt 5 = .ok (.getfield 12, 3) := by decide +kernel
theorem dX8_sentAt_8 : decode cX8_sentAt 8 = .ok (.getfield 113, 3) := by decide +kernel
theorem dX8_sentAt_11 : decode cX8_sentAt 11 = .ok (.iload_n 1, 1) := by decide +kernel
theorem dX8_sentAt_12 : decode cX8_sentAt 12 = .ok (.invokevirtual 109, 3) := by decide +kernel
theorem dX8_sentAt_15 : decode cX8_sentAt 15 = .ok (.ireturn, 1) := by decide +kernel
set_option maxRecDepth 20000 in
theorem ggX8_receivedAt_X8_requirePixel : GoodIn wsX8_receivedAt wsX8_requirePixel := goodIn_ca (goodIn_r _ [5, 6, 7] (by decide +kernel) (by decide +kernel)) (goodIn_sub (fun _ h => List.mem_cons_of_mem _ (List.mem_append_right _ h)) (by decide +kernel))
set_option maxRecDepth 20000 in
theorem gX8_receivedAt_X8_requirePixel : GoodIn wsX8_receivedAt (va_wsS RX8 61 yX8_requirePixel wsX8_requirePixel) := goodIn_app (goodIn_of _ (by decide +kernel)) ggX8_receivedAt_X8_requirePixel
set_option maxRecDepth 20000 in
theorem ggX8_receivedAt_X4_valueAt : GoodIn wsX8_receivedAt wsX4_valueAt := goodIn_r _ [11, 12, 31] (by decide +kernel) (by decide +kernel)
set_option maxRecDepth 20000 in
theorem gX8_receivedAt_X4_valueAt_n109 : GoodIn wsX8_receivedAt (wsX4_valueAt) := ggX8_receivedAt_X4_valueAt
theorem dX8_receivedAt_0 : decode cX8_receivedAt 0 = .ok (.iload_n 1, 1) := by decide +kernel
theorem dX8_receivedAt_1 : decode cX8_receivedAt 1 = .ok (.invokestatic 61, 3) := by decide +kernel
theorem dX8_receivedAt_4 : decode cX8_receivedAt 4 = .ok (.aload_n 0, 1) := by decide +kernel
theorem dX8_receivedAt_5 : decode cX8_receivedAt 5 = .ok (.getfield 12, 3) := by decide +kernel
theorem dX8_receivedAt_8 : decode cX8_receivedAt 8 = .ok (.getfield 116, 3) := by decide +kernel
theorem dX8_receivedAt_11 : decode cX8_receivedAt 11 = .ok (.iload_n 1, 1) := by decide +kernel
theorem dX8_receivedAt_12 : decode cX8_receivedAt 12 = .ok (.invokevirtual 109, 3) := by decide +kernel
theorem dX8_receivedAt_15 : decode cX8_receivedAt 15 = .ok (.ireturn, 1) := by decide +kernel
set_option maxRecDepth 20000 in
theorem ggX8_error_X4_valueAt : GoodIn wsX8_error wsX4_valueAt := goodIn_r _ [5, 6, 25] (by decide +kernel) (by decide +kernel)
set_option maxRecDepth 20000 in
theorem gX8_error_X4_valueAt_n109 : GoodIn wsX8_error (wsX4_valueAt) := ggX8_error_X4_valueAt
theorem dX8_error_0 : decode cX8_error 0 = .ok (.iconst 0, 1) := by decide +kernel
theorem dX8_error_1 : decode cX8_error 1 = .ok (.istore_n 1, 1) := by decide +kernel
theorem dX8_error_2 : decode cX8_error 2 = .ok (.iconst 0, 1) := by decide +kernel
theorem dX8_error_3 : decode cX8_error 3 = .ok (.istore_n 2, 1) := by decide +kernel
theorem dX8_error_4 : decode cX8_error 4 = .ok (.iload_n 2, 1) := by decide +kernel
theorem dX8_error_5 : decode cX8_error 5 = .ok (.bipush 64, 2) := by decide +kernel
theorem dX8_error_7 : decode cX8_error 7 = .ok (.if_icmp .ge 39, 3) := by decide +kernel
theorem dX8_error_10 : decode cX8_error 10 = .ok (.aload_n 0, 1) := by decide +kernel
theorem dX8_error_11 : decode cX8_error 11 = .ok (.getfield 12, 3) := by decide +kernel
theorem dX8_error_14 : decode cX8_error 14 = .ok (.getfield 73, 3) := by decide +kernel
theorem dX8_error_17 : decode cX8_error 17 = .ok (.iload_n 2, 1) := by decide +kernel
theorem dX8_error_18 : decode cX8_error 18 = .ok (.invokevirtual 109, 3) := by decide +kernel
theorem dX8_error_21 : decode cX8_error 21 = .ok (.aload_n 0, 1) := by decide +kernel
theorem dX8_error_22 : decode cX8_error 22 = .ok (.getfield 12, 3) := by decide +kernel
theorem dX8_error_25 : decode cX8_error 25 = .ok (.getfield 113, 3) := by decide +kernel
theorem dX8_error_28 : decode cX8_error 28 = .ok (.iload_n 2, 1) := by decide +kernel
theorem dX8_error_29 : decode cX8_error 29 = .ok (.invokevirtual 109, 3) := by decide +kernel
theorem dX8_error_32 : decode cX8_error 32 = .ok (.isub, 1) := by decide +kernel
theorem dX8_error_33 : decode cX8_error 33 = .ok (.istore_n 3, 1) := by decide +kernel
theorem dX8_error_34 : decode cX8_error 34 = .ok (.iload_n 1, 1) := by decide +kernel
theorem dX8_error_35 : decode cX8_error 35 = .ok (.iload_n 3, 1) := by decide +kernel
theorem dX8_error_36 : decode cX8_error 36 = .ok (.iload_n 3, 1) := by decide +kernel
theorem dX8_error_37 : decode cX8_error 37 = .ok (.imul, 1) := by decide +kernel
theorem dX8_error_38 : decode cX8_error 38 = .ok (.iadd, 1) := by decide +kernel
theorem dX8_error_39 : decode cX8_error 39 = .ok (.istore_n 1, 1) := by decide +kernel
theorem dX8_error_40 : decode cX8_error 40 = .ok (.iinc 2 1, 3) := by decide +kernel
theorem dX8_error_43 : decode cX8_error 43 = .ok (.goto (-39), 3) := by decide +kernel
theorem dX8_error_46 : decode cX8_error 46 = .ok (.iload_n 1, 1) := by decide +kernel
theorem dX8_error_47 : decode cX8_error 47 = .ok (.ireturn, 1) := by decide +kernel
set_option maxRecDepth 20000 in
theorem ggX8_drift_X4_valueAt : GoodIn wsX8_drift wsX4_valueAt := goodIn_r _ [9, 10, 29] (by decide +kernel) (by decide +kernel)
set_option maxRecDepth 20000 in
theorem gX8_drift_X4_valueAt_n109 : GoodIn wsX8_drift (wsX4_valueAt) := ggX8_drift_X4_valueAt
theorem dX8_drift_0 : decode cX8_drift 0 = .ok (.iconst 0, 1) := by decide +kernel
theorem dX8_drift_1 : decode cX8_drift 1 = .ok (.istore_n 1, 1) := by decide +kernel
theorem dX8_drift_2 : decode cX8_drift 2 = .ok (.iconst 0, 1) := by decide +kernel
theorem dX8_drift_3 : decode cX8_drift 3 = .ok (.istore_n 2, 1) := by decide +kernel
theorem dX8_drift_4 : decode cX8_drift 4 = .ok (.iload_n 2, 1) := by decide +kernel
theorem dX8_drift_5 : decode cX8_drift 5 = .ok (.bipush 64, 2) := by decide +kernel
theorem dX8_drift_7 : decode cX8_drift 7 = .ok (.if_icmp .ge 38, 3) := by decide +kernel
theorem dX8_drift_10 : decode cX8_drift 10 = .ok (.iload_n 1, 1) := by decide +kernel
theorem dX8_drift_11 : decode cX8_drift 11 = .ok (.aload_n 0, 1) := by decide +kernel
theorem dX8_drift_12 : decode cX8_drift 12 = .ok (.getfield 12, 3) := by decide +kernel
theorem dX8_drift_15 : decode cX8_drift 15 = .ok (.getfield 113, 3) := by decide +kernel
theorem dX8_drift_18 : decode cX8_drift 18 = .ok (.iload_n 2, 1) := by decide +kernel
theorem dX8_drift_19 : decode cX8_drift 19 = .ok (.invokevirtual 109, 3) := by decide +kernel
theorem dX8_drift_22 : decode cX8_drift 22 = .ok (.aload_n 0, 1) := by decide +kernel
theorem dX8_drift_23 : decode cX8_drift 23 = .ok (.getfield 12, 3) := by decide +kernel
theorem dX8_drift_26 : decode cX8_drift 26 = .ok (.getfield 116, 3) := by decide +kernel
theorem dX8_drift_29 : decode cX8_drift 29 = .ok (.iload_n 2, 1) := by decide +kernel
theorem dX8_drift_30 : decode cX8_drift 30 = .ok (.invokevirtual 109, 3) := by decide +kernel
theorem dX8_drift_33 : decode cX8_drift 33 = .ok (.isub, 1) := by decide +kernel
theorem dX8_drift_34 : decode cX8_drift 34 = .ok (.invokestatic 119, 3) := by decide +kernel
theorem dX8_drift_37 : decode cX8_drift 37 = .ok (.iadd, 1) := by decide +kernel
theorem dX8_drift_38 : decode cX8_drift 38 = .ok (.istore_n 1, 1) := by decide +kernel
theorem dX8_drift_39 : decode cX8_drift 39 = .ok (.iinc 2 1, 3) := by decide +kernel
theorem dX8_drift_42 : decode cX8_drift 42 = .ok (.goto (-38), 3) := by decide +kernel
theorem dX8_drift_45 : decode cX8_drift 45 = .ok (.iload_n 1, 1) := by decide +kernel
theorem dX8_drift_46 : decode cX8_drift 46 = .ok (.ireturn, 1) := by decide +kernel
set_option maxRecDepth 20000 in
theorem ggX8_distance_X8_requireBlock : GoodIn wsX8_distance wsX8_requireBlock := goodIn_ca (goodIn_r _ [7, 1, 2] (by decide +kernel) (by decide +kernel)) (goodIn_sub (fun _ h => List.mem_cons_of_mem _ (List.mem_append_right _ h)) (by decide +kernel))
set_option maxRecDepth 20000 in
theorem gX8_distance_X8_requireBlock : GoodIn wsX8_distance (va_wsS RX8 124 yX8_requireBlock wsX8_requireBlock) := goodIn_app (goodIn_of _ (by decide +kernel)) ggX8_distance_X8_requireBlock
set_option maxRecDepth 20000 in
theorem ggX8_distance_X3_distanceBy : GoodIn wsX8_distance wsX3_distanceBy := goodIn_r _ [10, 11, 12, 13, 14, 15, 6, 16, 17, 18, 19, 20, 21, 22, 23, 24, 25, 26, 27, 28, 37, 38, 39, 40, 41, 42, 43, 44, 45, 46, 47] (by decide +kernel) (by decide +kernel)
set_option maxRecDepth 20000 in
theorem gX8_distance_X3_distanceBy_n132 : GoodIn wsX8_distance (wsX3_distanceBy) := ggX8_distance_X3_distanceBy
theorem dX8_distance_0 : decode cX8_distance 0 = .ok (.iload_n 1, 1) := by decide +kernel
theorem dX8_distance_1 : decode cX8_distance 1 = .ok (.invokestatic 124, 3) := by decide +kernel
theorem dX8_distance_4 : decode cX8_distance 4 = .ok (.iload_n 2, 1) := by decide +kernel
theorem dX8_distance_5 : decode cX8_distance 5 = .ok (.ifCond .lt 9, 3) := by decide +kernel
theorem dX8_distance_8 : decode cX8_distance 8 = .ok (.iload_n 2, 1) := by decide +kernel
theorem dX8_distance_9 : decode cX8_distance 9 = .ok (.bipush 25, 2) := by decide +kernel
theorem dX8_distance_11 : decode cX8_distance 11 = .ok (.if_icmp .lt 13, 3) := by decide +kernel
theorem dX8_distance_14 : decode cX8_distance 14 = .ok (.new 127, 3) := by decide +kernel
theorem dX8_distance_17 : decode cX8_distance 17 = .ok (.dup, 1) := by decide +kernel
theorem dX8_distance_18 : decode cX8_distance 18 = .ok (.ldc 129, 2) := by decide +kernel
theorem dX8_distance_20 : decode cX8_distance 20 = .ok (.invokespecial 131, 3) := by decide +kernel
theorem dX8_distance_23 : decode cX8_distance 23 = .ok (.athrow, 1) := by decide +kernel
theorem dX8_distance_24 : decode cX8_distance 24 = .ok (.aload_n 0, 1) := by decide +kernel
theorem dX8_distance_25 : decode cX8_distance 25 = .ok (.getfield 12, 3) := by decide +kernel
theorem dX8_distance_28 : decode cX8_distance 28 = .ok (.iload_n 1, 1) := by decide +kernel
theorem dX8_distance_29 : decode cX8_distance 29 = .ok (.iload_n 2, 1) := by decide +kernel
theorem dX8_distance_30 : decode cX8_distance 30 = .ok (.invokestatic 132, 3) := by decide +kernel
theorem dX8_distance_33 : decode cX8_distance 33 = .ok (.ireturn, 1) := by decide +kernel
set_option maxRecDepth 20000 in
theorem ggX8_bestMove_X8_requireBlock : GoodIn wsX8_bestMove wsX8_requireBlock := goodIn_ca (goodIn_r _ [5, 6, 7] (by decide +kernel) (by decide +kernel)) (goodIn_sub (fun _ h => List.mem_cons_of_mem _ (List.mem_append_right _ h)) (by decide +kernel))
set_option maxRecDepth 20000 in
theorem gX8_bestMove_X8_requireBlock : GoodIn wsX8_bestMove (va_wsS RX8 124 yX8_requireBlock wsX8_requireBlock) := goodIn_app (goodIn_of _ (by decide +kernel)) ggX8_bestMove_X8_requireBlock
set_option maxRecDepth 20000 in
theorem ggX8_bestMove_X3_bestByLooking : GoodIn wsX8_bestMove wsX3_bestByLooking := goodIn_r _ [10, 11, 12, 9, 13, 14, 15, 16, 17, 18, 4, 19, 20, 21, 22, 23, 24, 25, 26, 27, 28, 29, 30, 31, 32, 33, 34, 43, 44, 45, 46, 47, 48, 49, 50, 51, 52, 53] (by decide +kernel) (by decide +kernel)
set_option maxRecDepth 20000 in
theorem gX8_bestMove_X3_bestByLooking_n138 : GoodIn wsX8_bestMove (wsX3_bestByLooking) := ggX8_bestMove_X3_bestByLooking
theorem dX8_bestMove_0 : decode cX8_bestMove 0 = .ok (.iload_n 1, 1) := by decide +kernel
theorem dX8_bestMove_1 : decode cX8_bestMove 1 = .ok (.invokestatic 124, 3) := by decide +kernel
theorem dX8_bestMove_4 : decode cX8_bestMove 4 = .ok (.aload_n 0, 1) := by decide +kernel
theorem dX8_bestMove_5 : decode cX8_bestMove 5 = .ok (.getfield 12, 3) := by decide +kernel
theorem dX8_bestMove_8 : decode cX8_bestMove 8 = .ok (.iload_n 1, 1) := by decide +kernel
theorem dX8_bestMove_9 : decode cX8_bestMove 9 = .ok (.invokestatic 138, 3) := by decide +kernel
theorem dX8_bestMove_12 : decode cX8_bestMove 12 = .ok (.ireturn, 1) := by decide +kernel
set_option maxRecDepth 20000 in
theorem ggX8_bestMoveByStopping_X8_requireBlock : GoodIn wsX8_bestMoveByStopping wsX8_requireBlock := goodIn_ca (goodIn_r _ [5, 6, 7] (by decide +kernel) (by decide +kernel)) (goodIn_sub (fun _ h => List.mem_cons_of_mem _ (List.mem_append_right _ h)) (by decide +kernel))
set_option maxRecDepth 20000 in
theorem gX8_bestMoveByStopping_X8_requireBlock : GoodIn wsX8_bestMoveByStopping (va_wsS RX8 124 yX8_requireBlock wsX8_requireBlock) := goodIn_app (goodIn_of _ (by decide +kernel)) ggX8_bestMoveByStopping_X8_requireBlock
set_option maxRecDepth 20000 in
theorem ggX8_bestMoveByStopping_X3_bestByStopping : GoodIn wsX8_bestMoveByStopping wsX3_bestByStopping := goodIn_r _ [10, 11, 12, 13, 9, 14, 15, 16, 17, 18, 19, 4, 20, 21, 22, 23, 24, 25, 26, 27, 28, 29, 30, 31, 32, 41, 42, 43, 44, 45, 46, 47, 48, 49, 50, 51] (by decide +kernel) (by decide +kernel)
set_option maxRecDepth 20000 in
theorem gX8_bestMoveByStopping_X3_bestByStopping_n142 : GoodIn wsX8_bestMoveByStopping (wsX3_bestByStopping) := ggX8_bestMoveByStopping_X3_bestByStopping
theorem dX8_bestMoveByStopping_0 : decode cX8_bestMoveByStopping 0 = .ok (.iload_n 1, 1) := by decide +kernel
theorem dX8_bestMoveByStopping_1 : decode cX8_bestMoveByStopping 1 = .ok (.invokestatic 124, 3) := by decide +kernel
theorem dX8_bestMoveByStopping_4 : decode cX8_bestMoveByStopping 4 = .ok (.aload_n 0, 1) := by decide +kernel
theorem dX8_bestMoveByStopping_5 : decode cX8_bestMoveByStopping 5 = .ok (.getfield 12, 3) := by decide +kernel
theorem dX8_bestMoveByStopping_8 : decode cX8_bestMoveByStopping 8 = .ok (.iload_n 1, 1) := by decide +kernel
theorem dX8_bestMoveByStopping_9 : decode cX8_bestMoveByStopping 9 = .ok (.invokestatic 142, 3) := by decide +kernel
theorem dX8_bestMoveByStopping_12 : decode cX8_bestMoveByStopping 12 = .ok (.ireturn, 1) := by decide +kernel
set_option maxRecDepth 20000 in
theorem ggX8_equalMoves_X8_requireBlock : GoodIn wsX8_equalMoves wsX8_requireBlock := goodIn_ca (goodIn_r _ [5, 6, 7] (by decide +kernel) (by decide +kernel)) (goodIn_sub (fun _ h => List.mem_cons_of_mem _ (List.mem_append_right _ h)) (by decide +kernel))
set_option maxRecDepth 20000 in
theorem gX8_equalMoves_X8_requireBlock : GoodIn wsX8_equalMoves (va_wsS RX8 124 yX8_requireBlock wsX8_requireBlock) := goodIn_app (goodIn_of _ (by decide +kernel)) ggX8_equalMoves_X8_requireBlock
set_option maxRecDepth 20000 in
theorem ggX8_equalMoves_X3_countBest : GoodIn wsX8_equalMoves wsX3_countBest := goodIn_r _ [10, 11, 12, 9, 13, 14, 15, 16, 17, 18, 4, 19, 20, 21, 22, 23, 24, 25, 26, 27, 28, 29, 30, 31, 40, 41, 42, 43, 44, 45, 46, 47, 48, 49, 50] (by decide +kernel) (by decide +kernel)
set_option maxRecDepth 20000 in
theorem gX8_equalMoves_X3_countBest_n145 : GoodIn wsX8_equalMoves (wsX3_countBest) := ggX8_equalMoves_X3_countBest
theorem dX8_equalMoves_0 : decode cX8_equalMoves 0 = .ok (.iload_n 1, 1) := by decide +kernel
theorem dX8_equalMoves_1 : decode cX8_equalMoves 1 = .ok (.invokestatic 124, 3) := by decide +kernel
theorem dX8_equalMoves_4 : decode cX8_equalMoves 4 = .ok (.aload_n 0, 1) := by decide +kernel
theorem dX8_equalMoves_5 : decode cX8_equalMoves 5 = .ok (.getfield 12, 3) := by decide +kernel
theorem dX8_equalMoves_8 : decode cX8_equalMoves 8 = .ok (.iload_n 1, 1) := by decide +kernel
theorem dX8_equalMoves_9 : decode cX8_equalMoves 9 = .ok (.invokestatic 145, 3) := by decide +kernel
theorem dX8_equalMoves_12 : decode cX8_equalMoves 12 = .ok (.ireturn, 1) := by decide +kernel
set_option maxRecDepth 20000 in
theorem ggX8_isKeyNext_X7_isKeyDue : GoodIn wsX8_isKeyNext wsX7_isKeyDue := goodIn_r _ [5, 6, 7, 16, 17, 18, 19, 20, 21, 22, 23, 24, 25] (by decide +kernel) (by decide +kernel)
set_option maxRecDepth 20000 in
theorem gX8_isKeyNext_X7_isKeyDue_n148 : GoodIn wsX8_isKeyNext (wsX7_isKeyDue) := ggX8_isKeyNext_X7_isKeyDue
theorem dX8_isKeyNext_0 : decode cX8_isKeyNext 0 = .ok (.aload_n 0, 1) := by decide +kernel
theorem dX8_isKeyNext_1 : decode cX8_isKeyNext 1 = .ok (.getfield 12, 3) := by decide +kernel
theorem dX8_isKeyNext_4 : decode cX8_isKeyNext 4 = .ok (.invokevirtual 148, 3) := by decide +kernel
theorem dX8_isKeyNext_7 : decode cX8_isKeyNext 7 = .ok (.ireturn, 1) := by decide +kernel
set_option maxRecDepth 20000 in
theorem ggX8_kindWith_X8_requireBlock : GoodIn wsX8_kindWith wsX8_requireBlock := goodIn_ca (goodIn_r _ [6, 7, 8] (by decide +kernel) (by decide +kernel)) (goodIn_sub (fun _ h => List.mem_cons_of_mem _ (List.mem_append_left _ (List.mem_append_right _ h))) (by decide +kernel))
set_option maxRecDepth 20000 in
theorem gX8_kindWith_X8_requireBlock : GoodIn wsX8_kindWith (va_wsS RX8 124 yX8_requireBlock wsX8_requireBlock) := goodIn_app (goodIn_of _ (by decide +kernel)) ggX8_kindWith_X8_requireBlock
set_option maxRecDepth 20000 in
theorem ggX8_kindWith_X8_requireWithin : GoodIn wsX8_kindWith wsX8_requireWithin := goodIn_ca (goodIn_r _ [11, 12, 13] (by decide +kernel) (by decide +kernel)) (goodIn_sub (fun _ h => List.mem_cons_of_mem _ (List.mem_append_right _ h)) (by decide +kernel))
set_option maxRecDepth 20000 in
theorem gX8_kindWith_X8_requireWithin : GoodIn wsX8_kindWith (va_wsS RX8 65 yX8_requireWithin wsX8_requireWithin) := goodIn_app (goodIn_of _ (by decide +kernel)) ggX8_kindWith_X8_requireWithin
set_option maxRecDepth 20000 in
theorem ggX8_kindWith_X3_bestByLooking : GoodIn wsX8_kindWith wsX3_bestByLooking := goodIn_r _ [16, 17, 18, 15, 19, 20, 21, 22, 23, 24, 5, 25, 26, 27, 28, 29, 30, 31, 32, 33, 34, 35, 36, 37, 38, 39, 40, 73, 74, 75, 76, 77, 78, 79, 80, 81, 82, 83] (by decide +kernel) (by decide +kernel)
set_option maxRecDepth 20000 in
theorem gX8_kindWith_X3_bestByLooking_n138 : GoodIn wsX8_kindWith (wsX3_bestByLooking) := ggX8_kindWith_X3_bestByLooking
set_option maxRecDepth 20000 in
theorem ggX8_kindWith_X5_foreseeBlock : GoodIn wsX8_kindWith wsX5_foreseeBlock := goodIn_r _ [44, 45, 46, 47, 28, 5, 29, 24, 25, 26, 27, 35, 31, 36, 37, 34, 48, 49, 50, 30, 32, 33, 84, 85, 86, 87, 88, 89, 73, 74, 75, 76, 77, 78, 79, 80, 81, 82, 83] (by decide +kernel) (by decide +kernel)
set_option maxRecDepth 20000 in
theorem gX8_kindWith_X5_foreseeBlock_n151 : GoodIn wsX8_kindWith (wsX5_foreseeBlock) := ggX8_kindWith_X5_foreseeBlock
set_option maxRecDepth 20000 in
theorem ggX8_kindWith_X5_weighBlock : GoodIn wsX8_kindWith wsX5_weighBlock := goodIn_r _ [53, 45, 54, 28, 5, 29, 55, 56, 57, 42, 58, 47, 59, 60, 61, 84, 85, 86, 87, 88, 89] (by decide +kernel) (by decide +kernel)
set_option maxRecDepth 20000 in
theorem gX8_kindWith_X5_weighBlock_n155 : GoodIn wsX8_kindWith (wsX5_weighBlock) := ggX8_kindWith_X5_weighBlock
set_option maxRecDepth 20000 in
theorem ggX8_kindWith_X5_kindOf : GoodIn wsX8_kindWith wsX5_kindOf := goodIn_r _ [64, 54, 84, 85, 86, 87, 88, 89] (by decide +kernel) (by decide +kernel)
set_option maxRecDepth 20000 in
theorem gX8_kindWith_X5_kindOf_n158 : GoodIn wsX8_kindWith (wsX5_kindOf) := ggX8_kindWith_X5_kindOf
theorem dX8_kindWith_0 : decode cX8_kindWith 0 = .ok (.iload_n 1, 1) := by decide +kernel
theorem dX8_kindWith_1 : decode cX8_kindWith 1 = .ok (.invokestatic 124, 3) := by decide +kernel
theorem dX8_kindWith_4 : decode cX8_kindWith 4 = .ok (.iload_n 2, 1) := by decide +kernel
theorem dX8_kindWith_5 : decode cX8_kindWith 5 = .ok (.iconst 1, 1) := by decide +kernel
theorem dX8_kindWith_6 : decode cX8_kindWith 6 = .ok (.bipush 8, 2) := by decide +kernel
theorem dX8_kindWith_8 : decode cX8_kindWith 8 = .ok (.invokestatic 65, 3) := by decide +kernel
theorem dX8_kindWith_11 : decode cX8_kindWith 11 = .ok (.aload_n 0, 1) := by decide +kernel
theorem dX8_kindWith_12 : decode cX8_kindWith 12 = .ok (.getfield 19, 3) := by decide +kernel
theorem dX8_kindWith_15 : decode cX8_kindWith 15 = .ok (.aload_n 0, 1) := by decide +kernel
theorem dX8_kindWith_16 : decode cX8_kindWith 16 = .ok (.getfield 12, 3) := by decide +kernel
theorem dX8_kindWith_19 : decode cX8_kindWith 19 = .ok (.iload_n 1, 1) := by decide +kernel
theorem dX8_kindWith_20 : decode cX8_kindWith 20 = .ok (.aload_n 0, 1) := by decide +kernel
theorem dX8_kindWith_21 : decode cX8_kindWith 21 = .ok (.getfield 12, 3) := by decide +kernel
theorem dX8_kindWith_24 : decode cX8_kindWith 24 = .ok (.iload_n 1, 1) := by decide +kernel
theorem dX8_kindWith_25 : decode cX8_kindWith 25 = .ok (.invokestatic 138, 3) := by decide +kernel
theorem dX8_kindWith_28 : decode cX8_kindWith 28 = .ok (.invokevirtual 151, 3) := by decide +kernel
theorem dX8_kindWith_31 : decode cX8_kindWith 31 = .ok (.aload_n 0, 1) := by decide +kernel
theorem dX8_kindWith_32 : decode cX8_kindWith 32 = .ok (.getfield 19, 3) := by decide +kernel
theorem dX8_kindWith_35 : decode cX8_kindWith 35 = .ok (.iload_n 1, 1) := by decide +kernel
theorem dX8_kindWith_36 : decode cX8_kindWith 36 = .ok (.iload_n 2, 1) := by decide +kernel
theorem dX8_kindWith_37 : decode cX8_kindWith 37 = .ok (.invokevirtual 155, 3) := by decide +kernel
theorem dX8_kindWith_40 : decode cX8_kindWith 40 = .ok (.pop, 1) := by decide +kernel
theorem dX8_kindWith_41 : decode cX8_kindWith 41 = .ok (.aload_n 0, 1) := by decide +kernel
theorem dX8_kindWith_42 : decode cX8_kindWith 42 = .ok (.getfield 19, 3) := by decide +kernel
theorem dX8_kindWith_45 : decode cX8_kindWith 45 = .ok (.iload_n 1, 1) := by decide +kernel
theorem dX8_kindWith_46 : decode cX8_kindWith 46 = .ok (.invokevirtual 158, 3) := by decide +kernel
theorem dX8_kindWith_49 : decode cX8_kindWith 49 = .ok (.ireturn, 1) := by decide +kernel
set_option maxRecDepth 20000 in
theorem ggX8_bitsWith_X8_requireBlock : GoodIn wsX8_bitsWith wsX8_requireBlock := goodIn_ca (goodIn_r _ [6, 7, 8] (by decide +kernel) (by decide +kernel)) (goodIn_sub (fun _ h => List.mem_cons_of_mem _ (List.mem_append_left _ (List.mem_append_right _ h))) (by decide +kernel))
set_option maxRecDepth 20000 in
theorem gX8_bitsWith_X8_requireBlock : GoodIn wsX8_bitsWith (va_wsS RX8 124 yX8_requireBlock wsX8_requireBlock) := goodIn_app (goodIn_of _ (by decide +kernel)) ggX8_bitsWith_X8_requireBlock
set_option maxRecDepth 20000 in
theorem ggX8_bitsWith_X8_requireWithin : GoodIn wsX8_bitsWith wsX8_requireWithin := goodIn_ca (goodIn_r _ [11, 12, 13] (by decide +kernel) (by decide +kernel)) (goodIn_sub (fun _ h => List.mem_cons_of_mem _ (List.mem_append_right _ h)) (by decide +kernel))
set_option maxRecDepth 20000 in
theorem gX8_bitsWith_X8_requireWithin : GoodIn wsX8_bitsWith (va_wsS RX8 65 yX8_requireWithin wsX8_requireWithin) := goodIn_app (goodIn_of _ (by decide +kernel)) ggX8_bitsWith_X8_requireWithin
set_option maxRecDepth 20000 in
theorem ggX8_bitsWith_X3_bestByLooking : GoodIn wsX8_bitsWith wsX3_bestByLooking := goodIn_r _ [16, 17, 18, 15, 19, 20, 21, 22, 23, 24, 5, 25, 26, 27, 28, 29, 30, 31, 32, 33, 34, 35, 36, 37, 38, 39, 40, 70, 71, 72, 73, 74, 75, 76, 77, 78, 79, 80] (by decide +kernel) (by decide +kernel)
set_option maxRecDepth 20000 in
theorem gX8_bitsWith_X3_bestByLooking_n138 : GoodIn wsX8_bitsWith (wsX3_bestByLooking) := ggX8_bitsWith_X3_bestByLooking
set_option maxRecDepth 20000 in
theorem ggX8_bitsWith_X5_foreseeBlock : GoodIn wsX8_bitsWith wsX5_foreseeBlock := goodIn_r _ [44, 45, 46, 47, 28, 5, 29, 24, 25, 26, 27, 35, 31, 36, 37, 34, 48, 49, 50, 30, 32, 33, 81, 82, 83, 84, 85, 86, 70, 71, 72, 73, 74, 75, 76, 77, 78, 79, 80] (by decide +kernel) (by decide +kernel)
set_option maxRecDepth 20000 in
theorem gX8_bitsWith_X5_foreseeBlock_n151 : GoodIn wsX8_bitsWith (wsX5_foreseeBlock) := ggX8_bitsWith_X5_foreseeBlock
set_option maxRecDepth 20000 in
theorem ggX8_bitsWith_X5_weighBlock : GoodIn wsX8_bitsWith wsX5_weighBlock := goodIn_r _ [53, 45, 54, 28, 5, 29, 55, 56, 57, 42, 58, 47, 59, 60, 61, 81, 82, 83, 84, 85, 86] (by decide +kernel) (by decide +kernel)
set_option maxRecDepth 20000 in
theorem gX8_bitsWith_X5_weighBlock_n155 : GoodIn wsX8_bitsWith (wsX5_weighBlock) := ggX8_bitsWith_X5_weighBlock
theorem dX8_bitsWith_0 : decode cX8_bitsWith 0 = .ok (.iload_n 1, 1) := by decide +kernel
theorem dX8_bitsWith_1 : decode cX8_bitsWith 1 = .ok (.invokestatic 124, 3) := by decide +kernel
theorem dX8_bitsWith_4 : decode cX8_bitsWith 4 = .ok (.iload_n 2, 1) := by decide +kernel
theorem dX8_bitsWith_5 : decode cX8_bitsWith 5 = .ok (.iconst 1, 1) := by decide +kernel
theorem dX8_bitsWith_6 : decode cX8_bitsWith 6 = .ok (.bipush 8, 2) := by decide +kernel
theorem dX8_bitsWith_8 : decode cX8_bitsWith 8 = .ok (.invokestatic 65, 3) := by decide +kernel
theorem dX8_bitsWith_11 : decode cX8_bitsWith 11 = .ok (.aload_n 0, 1) := by decide +kernel
theorem dX8_bitsWith_12 : decode cX8_bitsWith 12 = .ok (.getfield 19, 3) := by decide +kernel
theorem dX8_bitsWith_15 : decode cX8_bitsWith 15 = .ok (.aload_n 0, 1) := by decide +kernel
theorem dX8_bitsWith_16 : decode cX8_bitsWith 16 = .ok (.getfield 12, 3) := by decide +kernel
theorem dX8_bitsWith_19 : decode cX8_bitsWith 19 = .ok (.iload_n 1, 1) := by decide +kernel
theorem dX8_bitsWith_20 : decode cX8_bitsWith 20 = .ok (.aload_n 0, 1) := by decide +kernel
theorem dX8_bitsWith_21 : decode cX8_bitsWith 21 = .ok (.getfield 12, 3) := by decide +kernel
theorem dX8_bitsWith_24 : decode cX8_bitsWith 24 = .ok (.iload_n 1, 1) := by decide +kernel
theorem dX8_bitsWith_25 : decode cX8_bitsWith 25 = .ok (.invokestatic 138, 3) := by decide +kernel
theorem dX8_bitsWith_28 : decode cX8_bitsWith 28 = .ok (.invokevirtual 151, 3) := by decide +kernel
theorem dX8_bitsWith_31 : decode cX8_bitsWith 31 = .ok (.aload_n 0, 1) := by decide +kernel
theorem dX8_bitsWith_32 : decode cX8_bitsWith 32 = .ok (.getfield 19, 3) := by decide +kernel
theorem dX8_bitsWith_35 : decode cX8_bitsWith 35 = .ok (.iload_n 1, 1) := by decide +kernel
theorem dX8_bitsWith_36 : decode cX8_bitsWith 36 = .ok (.iload_n 2, 1) := by decide +kernel
theorem dX8_bitsWith_37 : decode cX8_bitsWith 37 = .ok (.invokevirtual 155, 3) := by decide +kernel
theorem dX8_bitsWith_40 : decode cX8_bitsWith 40 = .ok (.ireturn, 1) := by decide +kernel
set_option maxRecDepth 20000 in
theorem ggX8_bitsByWriting_X8_requireBlock : GoodIn wsX8_bitsByWriting wsX8_requireBlock := goodIn_ca (goodIn_r _ [7, 8, 9] (by decide +kernel) (by decide +kernel)) (goodIn_sub (fun _ h => List.mem_cons_of_mem _ (List.mem_append_left _ (List.mem_append_right _ h))) (by decide +kernel))
set_option maxRecDepth 20000 in
theorem gX8_bitsByWriting_X8_requireBlock : GoodIn wsX8_bitsByWriting (va_wsS RX8 124 yX8_requireBlock wsX8_requireBlock) := goodIn_app (goodIn_of _ (by decide +kernel)) ggX8_bitsByWriting_X8_requireBlock
set_option maxRecDepth 20000 in
theorem ggX8_bitsByWriting_X8_requireWithin : GoodIn wsX8_bitsByWriting wsX8_requireWithin := goodIn_ca (goodIn_r _ [12, 13, 14] (by decide +kernel) (by decide +kernel)) (goodIn_sub (fun _ h => List.mem_cons_of_mem _ (List.mem_append_right _ h)) (by decide +kernel))
set_option maxRecDepth 20000 in
theorem gX8_bitsByWriting_X8_requireWithin : GoodIn wsX8_bitsByWriting (va_wsS RX8 65 yX8_requireWithin wsX8_requireWithin) := goodIn_app (goodIn_of _ (by decide +kernel)) ggX8_bitsByWriting_X8_requireWithin
set_option maxRecDepth 20000 in
theorem ggX8_bitsByWriting_X3_bestByStopping : GoodIn wsX8_bitsByWriting wsX3_bestByStopping := goodIn_r _ [17, 18, 19, 20, 16, 21, 22, 23, 24, 25, 26, 6, 27, 28, 29, 30, 31, 32, 33, 34, 35, 36, 37, 38, 39, 87, 88, 89, 90, 91, 92, 93, 94, 95, 96, 97] (by decide +kernel) (by decide +kernel)
set_option maxRecDepth 20000 in
theorem gX8_bitsByWriting_X3_bestByStopping_n142 : GoodIn wsX8_bitsByWriting (wsX3_bestByStopping) := ggX8_bitsByWriting_X3_bestByStopping
set_option maxRecDepth 20000 in
theorem ggX8_bitsByWriting_X5_foreseeBlock : GoodIn wsX8_bitsByWriting wsX5_foreseeBlock := goodIn_r _ [43, 44, 45, 46, 26, 6, 27, 28, 29, 30, 31, 32, 33, 34, 35, 36, 47, 48, 49, 37, 38, 39, 98, 99, 100, 101, 102, 103, 87, 88, 89, 90, 91, 92, 93, 94, 95, 96, 97] (by decide +kernel) (by decide +kernel)
set_option maxRecDepth 20000 in
theorem gX8_bitsByWriting_X5_foreseeBlock_n151 : GoodIn wsX8_bitsByWriting (wsX5_foreseeBlock) := ggX8_bitsByWriting_X5_foreseeBlock
set_option maxRecDepth 20000 in
theorem ggX8_bitsByWriting_X0_writeBlock : GoodIn wsX8_bitsByWriting wsX0_writeBlock := goodIn_r _ [53, 54, 55, 41, 56, 57, 44, 58, 59, 60, 51, 61, 62, 63, 64, 65, 66, 26, 6, 27, 67, 68, 69, 46, 70, 71, 72, 73, 74, 23, 24, 25, 75, 76, 77, 78, 37, 33, 38, 39, 36, 104, 105, 98, 99, 100, 101, 102, 103, 97] (by decide +kernel) (by decide +kernel)
set_option maxRecDepth 20000 in
theorem gX8_bitsByWriting_X0_writeBlock_n161 : GoodIn wsX8_bitsByWriting (wsX0_writeBlock) := ggX8_bitsByWriting_X0_writeBlock
theorem dX8_bitsByWriting_0 : decode cX8_bitsByWriting 0 = .ok (.iload_n 1, 1) := by decide +kernel
theorem dX8_bitsByWriting_1 : decode cX8_bitsByWriting 1 = .ok (.invokestatic 124, 3) := by decide +kernel
theorem dX8_bitsByWriting_4 : decode cX8_bitsByWriting 4 = .ok (.iload_n 2, 1) := by decide +kernel
theorem dX8_bitsByWriting_5 : decode cX8_bitsByWriting 5 = .ok (.iconst 1, 1) := by decide +kernel
theorem dX8_bitsByWriting_6 : decode cX8_bitsByWriting 6 = .ok (.bipush 8, 2) := by decide +kernel
theorem dX8_bitsByWriting_8 : decode cX8_bitsByWriting 8 = .ok (.invokestatic 65, 3) := by decide +kernel
theorem dX8_bitsByWriting_11 : decode cX8_bitsByWriting 11 = .ok (.aload_n 0, 1) := by decide +kernel
theorem dX8_bitsByWriting_12 : decode cX8_bitsByWriting 12 = .ok (.getfield 19, 3) := by decide +kernel
theorem dX8_bitsByWriting_15 : decode cX8_bitsByWriting 15 = .ok (.aload_n 0, 1) := by decide +kernel
theorem dX8_bitsByWriting_16 : decode cX8_bitsByWriting 16 = .ok (.getfield 12, 3) := by decide +kernel
theorem dX8_bitsByWriting_19 : decode cX8_bitsByWriting 19 = .ok (.iload_n 1, 1) := by decide +kernel
theorem dX8_bitsByWriting_20 : decode cX8_bitsByWriting 20 = .ok (.aload_n 0, 1) := by decide +kernel
theorem dX8_bitsByWriting_21 : decode cX8_bitsByWriting 21 = .ok (.getfield 12, 3) := by decide +kernel
theorem dX8_bitsByWriting_24 : decode cX8_bitsByWriting 24 = .ok (.iload_n 1, 1) := by decide +kernel
theorem dX8_bitsByWriting_25 : decode cX8_bitsByWriting 25 = .ok (.invokestatic 142, 3) := by decide +kernel
theorem dX8_bitsByWriting_28 : decode cX8_bitsByWriting 28 = .ok (.invokevirtual 151, 3) := by decide +kernel
theorem dX8_bitsByWriting_31 : decode cX8_bitsByWriting 31 = .ok (.aload_n 0, 1) := by decide +kernel
theorem dX8_bitsByWriting_32 : decode cX8_bitsByWriting 32 = .ok (.getfield 26, 3) := by decide +kernel
theorem dX8_bitsByWriting_35 : decode cX8_bitsByWriting 35 = .ok (.aload_n 0, 1) := by decide +kernel
theorem dX8_bitsByWriting_36 : decode cX8_bitsByWriting 36 = .ok (.getfield 19, 3) := by decide +kernel
theorem dX8_bitsByWriting_39 : decode cX8_bitsByWriting 39 = .ok (.aload_n 0, 1) := by decide +kernel
theorem dX8_bitsByWriting_40 : decode cX8_bitsByWriting 40 = .ok (.getfield 12, 3) := by decide +kernel
theorem dX8_bitsByWriting_43 : decode cX8_bitsByWriting 43 = .ok (.getfield 73, 3) := by decide +kernel
theorem dX8_bitsByWriting_46 : decode cX8_bitsByWriting 46 = .ok (.iload_n 1, 1) := by decide +kernel
theorem dX8_bitsByWriting_47 : decode cX8_bitsByWriting 47 = .ok (.iload_n 2, 1) := by decide +kernel
theorem dX8_bitsByWriting_48 : decode cX8_bitsByWriting 48 = .ok (.invokevirtual 161, 3) := by decide +kernel
theorem dX8_bitsByWriting_51 : decode cX8_bitsByWriting 51 = .ok (.ireturn, 1) := by decide +kernel
set_option maxRecDepth 20000 in
theorem ggX8_coarsenessNext_X5_foreseePicture : GoodIn wsX8_coarsenessNext wsX5_foreseePicture := goodIn_r _ [6, 7, 8, 9, 10, 11, 12, 13, 14, 15, 16, 4, 17, 18, 19, 20, 21, 22, 23, 24, 25, 26, 27, 28, 29, 30, 31, 32, 33, 34, 35, 36, 37, 38, 39, 40, 41, 42, 43, 44, 45, 46, 47, 48, 49, 50, 51, 52, 53, 54, 55, 56, 57, 58, 59, 60, 61, 62, 63, 64, 65, 66, 67, 68, 69, 70, 71, 72, 81, 82, 83, 84, 85, 86, 87, 88, 89, 90, 91, 92, 93, 94, 95, 96, 97] (by decide +kernel) (by decide +kernel)
set_option maxRecDepth 20000 in
theorem gX8_coarsenessNext_X5_foreseePicture_n165 : GoodIn wsX8_coarsenessNext (wsX5_foreseePicture) := ggX8_coarsenessNext_X5_foreseePicture
theorem dX8_coarsenessNext_0 : decode cX8_coarsenessNext 0 = .ok (.aload_n 0, 1) := by decide +kernel
theorem dX8_coarsenessNext_1 : decode cX8_coarsenessNext 1 = .ok (.getfield 19, 3) := by decide +kernel
theorem dX8_coarsenessNext_4 : decode cX8_coarsenessNext 4 = .ok (.aload_n 0, 1) := by decide +kernel
theorem dX8_coarsenessNext_5 : decode cX8_coarsenessNext 5 = .ok (.getfield 12, 3) := by decide +kernel
theorem dX8_coarsenessNext_8 : decode cX8_coarsenessNext 8 = .ok (.invokevirtual 165, 3) := by decide +kernel
theorem dX8_coarsenessNext_11 : decode cX8_coarsenessNext 11 = .ok (.aload_n 0, 1) := by decide +kernel
theorem dX8_coarsenessNext_12 : decode cX8_coarsenessNext 12 = .ok (.getfield 19, 3) := by decide +kernel
theorem dX8_coarsenessNext_15 : decode cX8_coarsenessNext 15 = .ok (.getfield 168, 3) := by decide +kernel
theorem dX8_coarsenessNext_18 : decode cX8_coarsenessNext 18 = .ok (.ireturn, 1) := by decide +kernel
set_option maxRecDepth 20000 in
theorem ggX8_bitsNext_X5_foreseePicture : GoodIn wsX8_bitsNext wsX5_foreseePicture := goodIn_r _ [6, 7, 8, 9, 10, 11, 12, 13, 14, 15, 16, 4, 17, 18, 19, 20, 21, 22, 23, 24, 25, 26, 27, 28, 29, 30, 31, 32, 33, 34, 35, 36, 37, 38, 39, 40, 41, 42, 43, 44, 45, 46, 47, 48, 49, 50, 51, 52, 53, 54, 55, 56, 57, 58, 59, 60, 61, 62, 63, 64, 65, 66, 67, 68, 69, 70, 71, 72, 81, 82, 83, 84, 85, 86, 87, 88, 89, 90, 91, 92, 93, 94, 95, 96, 97] (by decide +kernel) (by decide +kernel)
set_option maxRecDepth 20000 in
theorem gX8_bitsNext_X5_foreseePicture_n165 : GoodIn wsX8_bitsNext (wsX5_foreseePicture) := ggX8_bitsNext_X5_foreseePicture
theorem dX8_bitsNext_0 : decode cX8_bitsNext 0 = .ok (.aload_n 0, 1) := by decide +kernel
theorem dX8_bitsNext_1 : decode cX8_bitsNext 1 = .ok (.getfield 19, 3) := by decide +kernel
theorem dX8_bitsNext_4 : decode cX8_bitsNext 4 = .ok (.aload_n 0, 1) := by decide +kernel
theorem dX8_bitsNext_5 : decode cX8_bitsNext 5 = .ok (.getfield 12, 3) := by decide +kernel
theorem dX8_bitsNext_8 : decode cX8_bitsNext 8 = .ok (.invokevirtual 165, 3) := by decide +kernel
theorem dX8_bitsNext_11 : decode cX8_bitsNext 11 = .ok (.aload_n 0, 1) := by decide +kernel
theorem dX8_bitsNext_12 : decode cX8_bitsNext 12 = .ok (.getfield 19, 3) := by decide +kernel
theorem dX8_bitsNext_15 : decode cX8_bitsNext 15 = .ok (.getfield 171, 3) := by decide +kernel
theorem dX8_bitsNext_18 : decode cX8_bitsNext 18 = .ok (.ireturn, 1) := by decide +kernel
theorem dX8_pictureCount_0 : decode cX8_pictureCount 0 = .ok (.aload_n 0, 1) := by decide +kernel
theorem dX8_pictureCount_1 : decode cX8_pictureCount 1 = .ok (.getfield 12, 3) := by decide +kernel
theorem dX8_pictureCount_4 : decode cX8_pictureCount 4 = .ok (.getfield 174, 3) := by decide +kernel
theorem dX8_pictureCount_7 : decode cX8_pictureCount 7 = .ok (.ireturn, 1) := by decide +kernel
theorem dX8_lostCount_0 : decode cX8_lostCount 0 = .ok (.aload_n 0, 1) := by decide +kernel
theorem dX8_lostCount_1 : decode cX8_lostCount 1 = .ok (.getfield 12, 3) := by decide +kernel
theorem dX8_lostCount_4 : decode cX8_lostCount 4 = .ok (.getfield 177, 3) := by decide +kernel
theorem dX8_lostCount_7 : decode cX8_lostCount 7 = .ok (.ireturn, 1) := by decide +kernel
theorem dX8_bitCount_0 : decode cX8_bitCount 0 = .ok (.aload_n 0, 1) := by decide +kernel
theorem dX8_bitCount_1 : decode cX8_bitCount 1 = .ok (.getfield 12, 3) := by decide +kernel
theorem dX8_bitCount_4 : decode cX8_bitCount 4 = .ok (.getfield 180, 3) := by decide +kernel
theorem dX8_bitCount_7 : decode cX8_bitCount 7 = .ok (.ireturn, 1) := by decide +kernel
set_option maxRecDepth 20000 in
theorem ggX8_lastKind_X8_requireBlock : GoodIn wsX8_lastKind wsX8_requireBlock := goodIn_ca (goodIn_r _ [5, 6, 7] (by decide +kernel) (by decide +kernel)) (goodIn_sub (fun _ h => List.mem_cons_of_mem _ (List.mem_append_right _ h)) (by decide +kernel))
set_option maxRecDepth 20000 in
theorem gX8_lastKind_X8_requireBlock : GoodIn wsX8_lastKind (va_wsS RX8 124 yX8_requireBlock wsX8_requireBlock) := goodIn_app (goodIn_of _ (by decide +kernel)) ggX8_lastKind_X8_requireBlock
theorem dX8_lastKind_0 : decode cX8_lastKind 0 = .ok (.iload_n 1, 1) := by decide +kernel
theorem dX8_lastKind_1 : decode cX8_lastKind 1 = .ok (.invokestatic 124, 3) := by decide +kernel
theorem dX8_lastKind_4 : decode cX8_lastKind 4 = .ok (.aload_n 0, 1) := by decide +kernel
theorem dX8_lastKind_5 : decode cX8_lastKind 5 = .ok (.getfield 12, 3) := by decide +kernel
theorem dX8_lastKind_8 : decode cX8_lastKind 8 = .ok (.getfield 174, 3) := by decide +kernel
theorem dX8_lastKind_11 : decode cX8_lastKind 11 = .ok (.ifCond .ne 7, 3) := by decide +kernel
theorem dX8_lastKind_14 : decode cX8_lastKind 14 = .ok (.iconst (-1), 1) := by decide +kernel
theorem dX8_lastKind_15 : decode cX8_lastKind 15 = .ok (.goto 12, 3) := by decide +kernel
theorem dX8_lastKind_18 : decode cX8_lastKind 18 = .ok (.aload_n 0, 1) := by decide +kernel
theorem dX8_lastKind_19 : decode cX8_lastKind 19 = .ok (.getfield 12, 3) := by decide +kernel
theorem dX8_lastKind_22 : decode cX8_lastKind 22 = .ok (.getfield 183, 3) := by decide +kernel
theorem dX8_lastKind_25 : decode cX8_lastKind 25 = .ok (.iload_n 1, 1) := by decide +kernel
theorem dX8_lastKind_26 : decode cX8_lastKind 26 = .ok (.iaload, 1) := by decide +kernel
theorem dX8_lastKind_27 : decode cX8_lastKind 27 = .ok (.ireturn, 1) := by decide +kernel
set_option maxRecDepth 20000 in
theorem ggX8_lastMove_X8_requireBlock : GoodIn wsX8_lastMove wsX8_requireBlock := goodIn_ca (goodIn_r _ [5, 6, 7] (by decide +kernel) (by decide +kernel)) (goodIn_sub (fun _ h => List.mem_cons_of_mem _ (List.mem_append_right _ h)) (by decide +kernel))
set_option maxRecDepth 20000 in
theorem gX8_lastMove_X8_requireBlock : GoodIn wsX8_lastMove (va_wsS RX8 124 yX8_requireBlock wsX8_requireBlock) := goodIn_app (goodIn_of _ (by decide +kernel)) ggX8_lastMove_X8_requireBlock
theorem dX8_lastMove_0 : decode cX8_lastMove 0 = .ok (.iload_n 1, 1) := by decide +kernel
theorem dX8_lastMove_1 : decode cX8_lastMove 1 = .ok (.invokestatic 124, 3) := by decide +kernel
theorem dX8_lastMove_4 : decode cX8_lastMove 4 = .ok (.aload_n 0, 1) := by decide +kernel
theorem dX8_lastMove_5 : decode cX8_lastMove 5 = .ok (.getfield 12, 3) := by decide +kernel
theorem dX8_lastMove_8 : decode cX8_lastMove 8 = .ok (.getfield 174, 3) := by decide +kernel
theorem dX8_lastMove_11 : decode cX8_lastMove 11 = .ok (.ifCond .eq 15, 3) := by decide +kernel
theorem dX8_lastMove_14 : decode cX8_lastMove 14 = .ok (.aload_n 0, 1) := by decide +kernel
theorem dX8_lastMove_15 : decode cX8_lastMove 15 = .ok (.getfield 12, 3) := by decide +kernel
theorem dX8_lastMove_18 : decode cX8_lastMove 18 = .ok (.getfield 183, 3) := by decide +kernel
theorem dX8_lastMove_21 : decode cX8_lastMove 21 = .ok (.iload_n 1, 1) := by decide +kernel
theorem dX8_lastMove_22 : decode cX8_lastMove 22 = .ok (.iaload, 1) := by decide +kernel
theorem dX8_lastMove_23 : decode cX8_lastMove 23 = .ok (.ifCond .ne 7, 3) := by decide +kernel
theorem dX8_lastMove_26 : decode cX8_lastMove 26 = .ok (.iconst (-1), 1) := by decide +kernel
theorem dX8_lastMove_27 : decode cX8_lastMove 27 = .ok (.goto 12, 3) := by decide +kernel
theorem dX8_lastMove_30 : decode cX8_lastMove 30 = .ok (.aload_n 0, 1) := by decide +kernel
theorem dX8_lastMove_31 : decode cX8_lastMove 31 = .ok (.getfield 12, 3) := by decide +kernel
theorem dX8_lastMove_34 : decode cX8_lastMove 34 = .ok (.getfield 187, 3) := by decide +kernel
theorem dX8_lastMove_37 : decode cX8_lastMove 37 = .ok (.iload_n 1, 1) := by decide +kernel
theorem dX8_lastMove_38 : decode cX8_lastMove 38 = .ok (.iaload, 1) := by decide +kernel
theorem dX8_lastMove_39 : decode cX8_lastMove 39 = .ok (.ireturn, 1) := by decide +kernel
set_option maxRecDepth 20000 in
theorem ggX8_appendText_X1_countSigns : GoodIn wsX8_appendText wsX1_countSigns := goodIn_r _ [8, 9, 10, 11] (by decide +kernel) (by decide +kernel)
set_option maxRecDepth 20000 in
theorem gX8_appendText_X1_countSigns_n190 : GoodIn wsX8_appendText (wsX1_countSigns) := ggX8_appendText_X1_countSigns
set_option maxRecDepth 20000 in
theorem ggX8_appendText_X1_add : GoodIn wsX8_appendText wsX1_add := goodIn_r _ [14, 15, 16, 9, 25, 26] (by decide +kernel) (by decide +kernel)
set_option maxRecDepth 20000 in
theorem gX8_appendText_X1_add_n204 : GoodIn wsX8_appendText (wsX1_add) := ggX8_appendText_X1_add
theorem dX8_appendText_0 : decode cX8_appendText 0 = .ok (.lload_n 1, 1) := by decide +kernel
theorem dX8_appendText_1 : decode cX8_appendText 1 = .ok (.invokestatic 190, 3) := by decide +kernel
theorem dX8_appendText_4 : decode cX8_appendText 4 = .ok (.istore_n 3, 1) := by decide +kernel
theorem dX8_appendText_5 : decode cX8_appendText 5 = .ok (.iload_n 3, 1) := by decide +kernel
theorem dX8_appendText_6 : decode cX8_appendText 6 = .ok (.ifCond .ne 13, 3) := by decide +kernel
theorem dX8_appendText_9 : decode cX8_appendText 9 = .ok (.new 194, 3) := by decide +kernel
theorem dX8_appendText_12 : decode cX8_appendText 12 = .ok (.dup, 1) := by decide +kernel
theorem dX8_appendText_13 : decode cX8_appendText 13 = .ok (.ldc 196, 2) := by decide +kernel
theorem dX8_appendText_15 : decode cX8_appendText 15 = .ok (.invokespecial 198, 3) := by decide +kernel
theorem dX8_appendText_18 : decode cX8_appendText 18 = .ok (.athrow, 1) := by decide +kernel
theorem dX8_appendText_19 : decode cX8_appendText 19 = .ok (.aload_n 0, 1) := by decide +kernel
theorem dX8_appendText_20 : decode cX8_appendText 20 = .ok (.getfield 40, 3) := by decide +kernel
theorem dX8_appendText_23 : decode cX8_appendText 23 = .ok (.getfield 199, 3) := by decide +kernel
theorem dX8_appendText_26 : decode cX8_appendText 26 = .ok (.iload_n 3, 1) := by decide +kernel
theorem dX8_appendText_27 : decode cX8_appendText 27 = .ok (.iadd, 1) := by decide +kernel
theorem dX8_appendText_28 : decode cX8_appendText 28 = .ok (.bipush 80, 2) := by decide +kernel
theorem dX8_appendText_30 : decode cX8_appendText 30 = .ok (.if_icmp .le 13, 3) := by decide +kernel
theorem dX8_appendText_33 : decode cX8_appendText 33 = .ok (.new 91, 3) := by decide +kernel
theorem dX8_appendText_36 : decode cX8_appendText 36 = .ok (.dup, 1) := by decide +kernel
theorem dX8_appendText_37 : decode cX8_appendText 37 = .ok (.ldc 202, 2) := by decide +kernel
theorem dX8_appendText_39 : decode cX8_appendText 39 = .ok (.invokespecial 95, 3) := by decide +kernel
theorem dX8_appendText_42 : decode cX8_appendText 42 = .ok (.athrow, 1) := by decide +kernel
theorem dX8_appendText_43 : decode cX8_appendText 43 = .ok (.aload_n 0, 1) := by decide +kernel
theorem dX8_appendText_44 : decode cX8_appendText 44 = .ok (.getfield 40, 3) := by decide +kernel
theorem dX8_appendText_47 : decode cX8_appendText 47 = .ok (.lload_n 1, 1) := by decide +kernel
theorem dX8_appendText_48 : decode cX8_appendText 48 = .ok (.iload_n 3, 1) := by decide +kernel
theorem dX8_appendText_49 : decode cX8_appendText 49 = .ok (.invokevirtual 204, 3) := by decide +kernel
theorem dX8_appendText_52 : decode cX8_appendText 52 = .ok (.aload_n 0, 1) := by decide +kernel
theorem dX8_appendText_53 : decode cX8_appendText 53 = .ok (.getfield 40, 3) := by decide +kernel
theorem dX8_appendText_56 : decode cX8_appendText 56 = .ok (.getfield 199, 3) := by decide +kernel
theorem dX8_appendText_59 : decode cX8_appendText 59 = .ok (.ireturn, 1) := by decide +kernel
theorem dX8_clearText_0 : decode cX8_clearText 0 = .ok (.aload_n 0, 1) := by decide +kernel
theorem dX8_clearText_1 : decode cX8_clearText 1 = .ok (.getfield 40, 3) := by decide +kernel
theorem dX8_clearText_4 : decode cX8_clearText 4 = .ok (.getfield 199, 3) := by decide +kernel
theorem dX8_clearText_7 : decode cX8_clearText 7 = .ok (.istore_n 1, 1) := by decide +kernel
theorem dX8_clearText_8 : decode cX8_clearText 8 = .ok (.aload_n 0, 1) := by decide +kernel
theorem dX8_clearText_9 : decode cX8_clearText 9 = .ok (.getfield 40, 3) := by decide +kernel
theorem dX8_clearText_12 : decode cX8_clearText 12 = .ok (.iconst 0, 1) := by decide +kernel
theorem dX8_clearText_13 : decode cX8_clearText 13 = .ok (.putfield 199, 3) := by decide +kernel
theorem dX8_clearText_16 : decode cX8_clearText 16 = .ok (.iload_n 1, 1) := by decide +kernel
theorem dX8_clearText_17 : decode cX8_clearText 17 = .ok (.ireturn, 1) := by decide +kernel
theorem dX8_textLength_0 : decode cX8_textLength 0 = .ok (.aload_n 0, 1) := by decide +kernel
theorem dX8_textLength_1 : decode cX8_textLength 1 = .ok (.getfield 40, 3) := by decide +kernel
theorem dX8_textLength_4 : decode cX8_textLength 4 = .ok (.getfield 199, 3) := by decide +kernel
theorem dX8_textLength_7 : decode cX8_textLength 7 = .ok (.ireturn, 1) := by decide +kernel
set_option maxRecDepth 20000 in
theorem ggX8_textError_X1_firstError : GoodIn wsX8_textError wsX1_firstError := goodIn_r _ [5, 6, 7, 8, 9, 3, 10, 11, 12, 13, 14, 15, 16, 17, 18, 19, 20, 29, 30] (by decide +kernel) (by decide +kernel)
set_option maxRecDepth 20000 in
theorem gX8_textError_X1_firstError_n208 : GoodIn wsX8_textError (wsX1_firstError) := ggX8_textError_X1_firstError
theorem dX8_textError_0 : decode cX8_textError 0 = .ok (.aload_n 0, 1) := by decide +kernel
theorem dX8_textError_1 : decode cX8_textError 1 = .ok (.getfield 40, 3) := by decide +kernel
theorem dX8_textError_4 : decode cX8_textError 4 = .ok (.invokevirtual 208, 3) := by decide +kernel
theorem dX8_textError_7 : decode cX8_textError 7 = .ok (.ireturn, 1) := by decide +kernel
set_option maxRecDepth 20000 in
theorem ggX8_runText_X1_firstError : GoodIn wsX8_runText wsX1_firstError := goodIn_r _ [9, 10, 11, 12, 13, 7, 14, 15, 16, 17, 18, 19, 20, 21, 22, 23, 24, 201, 202] (by decide +kernel) (by decide +kernel)
set_option maxRecDepth 20000 in
theorem gX8_runText_X1_firstError_n208 : GoodIn wsX8_runText (wsX1_firstError) := ggX8_runText_X1_firstError
set_option maxRecDepth 20000 in
theorem ggX8_runText_X2_record : GoodIn wsX8_runText wsX2_record := goodIn_r _ [28, 29, 30, 31, 32, 33, 34, 35, 36, 37, 26, 38, 39, 40, 41, 42, 43, 44, 45, 46, 47, 48, 49, 50, 51, 52, 53, 54, 55, 56, 57, 58, 59, 60, 61, 62, 63, 203, 204, 205, 206, 207, 208, 209, 210, 211, 212, 213, 214, 215, 216] (by decide +kernel) (by decide +kernel)
set_option maxRecDepth 20000 in
theorem gX8_runText_X2_record_n69 : GoodIn wsX8_runText (wsX2_record) := ggX8_runText_X2_record
set_option maxRecDepth 20000 in
theorem ggX8_runText_X1_startsCommand : GoodIn wsX8_runText wsX1_startsCommand := goodIn_r _ [66, 11, 12, 13, 7, 14, 10, 15, 201, 202] (by decide +kernel) (by decide +kernel)
set_option maxRecDepth 20000 in
theorem gX8_runText_X1_startsCommand_n214 : GoodIn wsX8_runText (wsX1_startsCommand) := ggX8_runText_X1_startsCommand
set_option maxRecDepth 20000 in
theorem ggX8_runText_X8_execute : GoodIn wsX8_runText wsX8_execute := goodIn_r _ [71, 3, 12, 7, 13, 14, 10, 15, 72, 73, 74, 70, 75, 5, 76, 77, 78, 79, 80, 81, 82, 11, 22, 23, 24, 83, 59, 84, 85, 62, 86, 87, 88, 89, 90, 58, 60, 61, 63, 49, 50, 51, 91, 92, 93, 94, 95, 96, 97, 98, 99, 100, 101, 102, 103, 104, 105, 106, 107, 108, 109, 110, 111, 112, 113, 41, 114, 115, 54, 55, 116, 117, 118, 119, 120, 121, 122, 123, 124, 125, 126, 127, 128, 129, 33, 130, 131, 132, 133, 134, 135, 136, 137, 138, 139, 140, 141, 142, 143, 144, 145, 146, 147, 148, 149, 150, 151, 152, 153, 154, 155, 156, 157, 158, 159, 160, 161, 162, 163, 164, 165, 166, 167, 168, 169, 170, 171, 172, 173, 32, 34, 174, 175, 176, 177, 178, 179, 180, 181, 182, 183, 184, 185, 186, 187, 188, 189, 190, 191, 192, 193, 194, 195, 196, 197, 198, 199, 200, 201, 202, 206, 207, 208, 209, 210, 211, 212, 213, 214, 215, 216, 217, 218, 219, 220, 221, 222] (by decide +kernel) (by decide +kernel)
set_option maxRecDepth 20000 in
theorem gX8_runText_X8_execute : GoodIn wsX8_runText (wsV RX8 218 RX8 yX8_execute wsX8_execute) := goodIn_app (goodIn_of _ (by decide +kernel)) ggX8_runText_X8_execute
theorem dX8_runText_0 : decode cX8_runText 0 = .ok (.aload_n 0, 1) := by decide +kernel
theorem dX8_runText_1 : decode cX8_runText 1 = .ok (.getfield 40, 3) := by decide +kernel
theorem dX8_runText_4 : decode cX8_runText 4 = .ok (.invokevirtual 208, 3) := by decide +kernel
theorem dX8_runText_7 : decode cX8_runText 7 = .ok (.iconst (-1), 1) := by decide +kernel
theorem dX8_runText_8 : decode cX8_runText 8 = .ok (.if_icmp .eq 13, 3) := by decide +kernel
theorem dX8_runText_11 : decode cX8_runText 11 = .ok (.new 91, 3) := by decide +kernel
theorem dX8_runText_14 : decode cX8_runText 14 = .ok (.dup, 1) := by decide +kernel
theorem dX8_runText_15 : decode cX8_runText 15 = .ok (.ldc 212, 2) := by decide +kernel
theorem dX8_runText_17 : decode cX8_runText 17 = .ok (.invokespecial 95, 3) := by decide +kernel
theorem dX8_runText_20 : decode cX8_runText 20 = .ok (.athrow, 1) := by decide +kernel
theorem dX8_runText_21 : decode cX8_runText 21 = .ok (.aload_n 0, 1) := by decide +kernel
theorem dX8_runText_22 : decode cX8_runText 22 = .ok (.getfield 47, 3) := by decide +kernel
theorem dX8_runText_25 : decode cX8_runText 25 = .ok (.aload_n 0, 1) := by decide +kernel
theorem dX8_runText_26 : decode cX8_runText 26 = .ok (.getfield 12, 3) := by decide +kernel
theorem dX8_runText_29 : decode cX8_runText 29 = .ok (.invokevirtual 69, 3) := by decide +kernel
theorem dX8_runText_32 : decode cX8_runText 32 = .ok (.iconst 0, 1) := by decide +kernel
theorem dX8_runText_33 : decode cX8_runText 33 = .ok (.istore_n 1, 1) := by decide +kernel
theorem dX8_runText_34 : decode cX8_runText 34 = .ok (.iconst 0, 1) := by decide +kernel
theorem dX8_runText_35 : decode cX8_runText 35 = .ok (.istore_n 2, 1) := by decide +kernel
theorem dX8_runText_36 : decode cX8_runText 36 = .ok (.iconst 0, 1) := by decide +kernel
theorem dX8_runText_37 : decode cX8_runText 37 = .ok (.istore_n 3, 1) := by decide +kernel
theorem dX8_runText_38 : decode cX8_runText 38 = .ok (.iload_n 3, 1) := by decide +kernel
theorem dX8_runText_39 : decode cX8_runText 39 = .ok (.aload_n 0, 1) := by decide +kernel
theorem dX8_runText_40 : decode cX8_runText 40 = .ok (.getfield 40, 3) := by decide +kernel
theorem dX8_runText_43 : decode cX8_runText 43 = .ok (.getfield 199, 3) := by decide +kernel
theorem dX8_runText_46 : decode cX8_runText 46 = .ok (.if_icmp .ge 50, 3) := by decide +kernel
theorem dX8_runText_49 : decode cX8_runText 49 = .ok (.iload_n 2, 1) := by decide +kernel
theorem dX8_runText_50 : decode cX8_runText 50 = .ok (.ifCond .ne 46, 3) := by decide +kernel
theorem dX8_runText_53 : decode cX8_runText 53 = .ok (.aload_n 0, 1) := by decide +kernel
theorem dX8_runText_54 : decode cX8_runText 54 = .ok (.getfield 40, 3) := by decide +kernel
theorem dX8_runText_57 : decode cX8_runText 57 = .ok (.iload_n 3, 1) := by decide +kernel
theorem dX8_runText_58 : decode cX8_runText 58 = .ok (.invokevirtual 214, 3) := by decide +kernel
theorem dX8_runText_61 : decode cX8_runText 61 = .ok (.ifCond .eq 29, 3) := by decide +kernel
theorem dX8_runText_64 : decode cX8_runText 64 = .ok (.aload_n 0, 1) := by decide +kernel
theorem dX8_runText_65 : decode cX8_runText 65 = .ok (.iload_n 3, 1) := by decide +kernel
theorem dX8_runText_66 : decode cX8_runText 66 = .ok (.invokevirtual 218, 3) := by decide +kernel
theorem dX8_runText_69 : decode cX8_runText 69 = .ok (.ifCond .ne 7, 3) := by decide +kernel
theorem dX8_runText_72 : decode cX8_runText 72 = .ok (.iconst 1, 1) := by decide +kernel
theorem dX8_runText_73 : decode cX8_runText 73 = .ok (.goto 4, 3) := by decide +kernel
theorem dX8_runText_76 : decode cX8_runText 76 = .ok (.iconst 0, 1) := by decide +kernel
theorem dX8_runText_77 : decode cX8_runText 77 = .ok (.istore_n 2, 1) := by decide +kernel
theorem dX8_runText_78 : decode cX8_runText 78 = .ok (.iload_n 1, 1) := by decide +kernel
theorem dX8_runText_79 : decode cX8_runText 79 = .ok (.iload_n 2, 1) := by decide +kernel
theorem dX8_runText_80 : decode cX8_runText 80 = .ok (.ifCond .eq 7, 3) := by decide +kernel
theorem dX8_runText_83 : decode cX8_runText 83 = .ok (.iconst 0, 1) := by decide +kernel
theorem dX8_runText_84 : decode cX8_runText 84 = .ok (.goto 4, 3) := by decide +kernel
theorem dX8_runText_87 : decode cX8_runText 87 = .ok (.iconst 1, 1) := by decide +kernel
theorem dX8_runText_88 : decode cX8_runText 88 = .ok (.iadd, 1) := by decide +kernel
theorem dX8_runText_89 : decode cX8_runText 89 = .ok (.istore_n 1, 1) := by decide +kernel
theorem dX8_runText_90 : decode cX8_runText 90 = .ok (.iinc 3 1, 3) := by decide +kernel
theorem dX8_runText_93 : decode cX8_runText 93 = .ok (.goto (-55), 3) := by decide +kernel
theorem dX8_runText_96 : decode cX8_runText 96 = .ok (.aload_n 0, 1) := by decide +kernel
theorem dX8_runText_97 : decode cX8_runText 97 = .ok (.getfield 40, 3) := by decide +kernel
theorem dX8_runText_100 : decode cX8_runText 100 = .ok (.iconst 0, 1) := by decide +kernel
theorem dX8_runText_101 : decode cX8_runText 101 = .ok (.putfield 199, 3) := by decide +kernel
theorem dX8_runText_104 : decode cX8_runText 104 = .ok (.iload_n 1, 1) := by decide +kernel
theorem dX8_runText_105 : decode cX8_runText 105 = .ok (.ireturn, 1) := by decide +kernel
set_option maxRecDepth 20000 in
theorem ggX8_undo_X2_takeBack : GoodIn wsX8_undo wsX2_takeBack := goodIn_r _ [8, 9, 10, 11, 12, 13, 6, 14, 15, 16, 17, 18, 19, 20, 21, 22, 23, 24, 25, 26, 27, 28, 29, 30, 31, 32, 33, 34, 35, 36, 37, 38, 39, 48, 49, 50, 51, 52, 53, 54, 55, 56, 57, 58, 59, 60, 61] (by decide +kernel) (by decide +kernel)
set_option maxRecDepth 20000 in
theorem gX8_undo_X2_takeBack_n226 : GoodIn wsX8_undo (wsX2_takeBack) := ggX8_undo_X2_takeBack
theorem dX8_undo_0 : decode cX8_undo 0 = .ok (.aload_n 0, 1) := by decide +kernel
theorem dX8_undo_1 : decode cX8_undo 1 = .ok (.getfield 47, 3) := by decide +kernel
theorem dX8_undo_4 : decode cX8_undo 4 = .ok (.getfield 221, 3) := by decide +kernel
theorem dX8_undo_7 : decode cX8_undo 7 = .ok (.ifCond .ne 13, 3) := by decide +kernel
theorem dX8_undo_10 : decode cX8_undo 10 = .ok (.new 91, 3) := by decide +kernel
theorem dX8_undo_13 : decode cX8_undo 13 = .ok (.dup, 1) := by decide +kernel
theorem dX8_undo_14 : decode cX8_undo 14 = .ok (.ldc 224, 2) := by decide +kernel
theorem dX8_undo_16 : decode cX8_undo 16 = .ok (.invokespecial 95, 3) := by decide +kernel
theorem dX8_undo_19 : decode cX8_undo 19 = .ok (.athrow, 1) := by decide +kernel
theorem dX8_undo_20 : decode cX8_undo 20 = .ok (.aload_n 0, 1) := by decide +kernel
theorem dX8_undo_21 : decode cX8_undo 21 = .ok (.getfield 47, 3) := by decide +kernel
theorem dX8_undo_24 : decode cX8_undo 24 = .ok (.aload_n 0, 1) := by decide +kernel
theorem dX8_undo_25 : decode cX8_undo 25 = .ok (.getfield 12, 3) := by decide +kernel
theorem dX8_undo_28 : decode cX8_undo 28 = .ok (.invokevirtual 226, 3) := by decide +kernel
theorem dX8_undo_31 : decode cX8_undo 31 = .ok (.aload_n 0, 1) := by decide +kernel
theorem dX8_undo_32 : decode cX8_undo 32 = .ok (.getfield 47, 3) := by decide +kernel
theorem dX8_undo_35 : decode cX8_undo 35 = .ok (.getfield 221, 3) := by decide +kernel
theorem dX8_undo_38 : decode cX8_undo 38 = .ok (.ireturn, 1) := by decide +kernel
theorem dX8_undoCount_0 : decode cX8_undoCount 0 = .ok (.aload_n 0, 1) := by decide +kernel
theorem dX8_undoCount_1 : decode cX8_undoCount 1 = .ok (.getfield 47, 3) := by decide +kernel
theorem dX8_undoCount_4 : decode cX8_undoCount 4 = .ok (.getfield 221, 3) := by decide +kernel
theorem dX8_undoCount_7 : decode cX8_undoCount 7 = .ok (.ireturn, 1) := by decide +kernel
set_option maxRecDepth 20000 in
theorem ggX8_saveState_X8_requireSlot : GoodIn wsX8_saveState wsX8_requireSlot := goodIn_ca (goodIn_r _ [7, 8, 9] (by decide +kernel) (by decide +kernel)) (goodIn_sub (fun _ h => List.mem_cons_of_mem _ (List.mem_append_right _ h)) (by decide +kernel))
set_option maxRecDepth 20000 in
theorem gX8_saveState_X8_requireSlot : GoodIn wsX8_saveState (va_wsS RX8 229 yX8_requireSlot wsX8_requireSlot) := goodIn_app (goodIn_of _ (by decide +kernel)) ggX8_saveState_X8_requireSlot
set_option maxRecDepth 20000 in
theorem ggX8_saveState_X7_copyFrom : GoodIn wsX8_saveState wsX7_copyFrom := goodIn_r _ [13, 14, 15, 16, 17, 18, 19, 20, 21, 22, 23, 24, 25, 26, 27, 28, 29, 30, 31, 32, 33, 44, 45, 46, 47, 48, 49, 50, 51, 52, 53, 54] (by decide +kernel) (by decide +kernel)
set_option maxRecDepth 20000 in
theorem gX8_saveState_X7_copyFrom_n235 : GoodIn wsX8_saveState (wsX7_copyFrom) := ggX8_saveState_X7_copyFrom
theorem dX8_saveState_0 : decode cX8_saveState 0 = .ok (.iload_n 1, 1) := by decide +kernel
theorem dX8_saveState_1 : decode cX8_saveState 1 = .ok (.invokestatic 229, 3) := by decide +kernel
theorem dX8_saveState_4 : decode cX8_saveState 4 = .ok (.iload_n 1, 1) := by decide +kernel
theorem dX8_saveState_5 : decode cX8_saveState 5 = .ok (.ifCond .ne 10, 3) := by decide +kernel
theorem dX8_saveState_8 : decode cX8_saveState 8 = .ok (.aload_n 0, 1) := by decide +kernel
theorem dX8_saveState_9 : decode cX8_saveState 9 = .ok (.getfield 54, 3) := by decide +kernel
theorem dX8_saveState_12 : decode cX8_saveState 12 = .ok (.goto 7, 3) := by decide +kernel
theorem dX8_saveState_15 : decode cX8_saveState 15 = .ok (.aload_n 0, 1) := by decide +kernel
theorem dX8_saveState_16 : decode cX8_saveState 16 = .ok (.getfield 58, 3) := by decide +kernel
theorem dX8_saveState_19 : decode cX8_saveState 19 = .ok (.astore_n 2, 1) := by decide +kernel
theorem dX8_saveState_20 : decode cX8_saveState 20 = .ok (.aload_n 2, 1) := by decide +kernel
theorem dX8_saveState_21 : decode cX8_saveState 21 = .ok (.getfield 232, 3) := by decide +kernel
theorem dX8_saveState_24 : decode cX8_saveState 24 = .ok (.aload_n 0, 1) := by decide +kernel
theorem dX8_saveState_25 : decode cX8_saveState 25 = .ok (.getfield 12, 3) := by decide +kernel
theorem dX8_saveState_28 : decode cX8_saveState 28 = .ok (.invokevirtual 235, 3) := by decide +kernel
theorem dX8_saveState_31 : decode cX8_saveState 31 = .ok (.aload_n 2, 1) := by decide +kernel
theorem dX8_saveState_32 : decode cX8_saveState 32 = .ok (.iconst 1, 1) := by decide +kernel
theorem dX8_saveState_33 : decode cX8_saveState 33 = .ok (.putfield 238, 3) := by decide +kernel
theorem dX8_saveState_36 : decode cX8_saveState 36 = .ok (.aload_n 0, 1) := by decide +kernel
theorem dX8_saveState_37 : decode cX8_saveState 37 = .ok (.getfield 12, 3) := by decide +kernel
theorem dX8_saveState_40 : decode cX8_saveState 40 = .ok (.getfield 174, 3) := by decide +kernel
theorem dX8_saveState_43 : decode cX8_saveState 43 = .ok (.ireturn, 1) := by decide +kernel
set_option maxRecDepth 20000 in
theorem ggX8_loadState_X8_requireSlot : GoodIn wsX8_loadState wsX8_requireSlot := goodIn_ca (goodIn_r _ [10, 11, 12] (by decide +kernel) (by decide +kernel)) (goodIn_sub (fun _ h => List.mem_cons_of_mem _ (List.mem_append_right _ h)) (by decide +kernel))
set_option maxRecDepth 20000 in
theorem gX8_loadState_X8_requireSlot : GoodIn wsX8_loadState (va_wsS RX8 229 yX8_requireSlot wsX8_requireSlot) := goodIn_app (goodIn_of _ (by decide +kernel)) ggX8_loadState_X8_requireSlot
set_option maxRecDepth 20000 in
theorem ggX8_loadState_X2_record : GoodIn wsX8_loadState wsX2_record := goodIn_r _ [16, 17, 18, 19, 20, 21, 22, 23, 24, 25, 14, 26, 27, 28, 29, 30, 31, 32, 33, 34, 35, 36, 37, 38, 39, 40, 41, 42, 43, 44, 45, 46, 47, 48, 49, 50, 51, 72, 73, 74, 62, 63, 64, 65, 66, 67, 68, 69, 70, 71, 75] (by decide +kernel) (by decide +kernel)
set_option maxRecDepth 20000 in
theorem gX8_loadState_X2_record_n69 : GoodIn wsX8_loadState (wsX2_record) := ggX8_loadState_X2_record
set_option maxRecDepth 20000 in
theorem ggX8_loadState_X7_copyFrom : GoodIn wsX8_loadState wsX7_copyFrom := goodIn_r _ [31, 32, 33, 34, 35, 36, 37, 38, 39, 40, 41, 42, 43, 44, 45, 46, 47, 48, 49, 50, 51, 62, 63, 64, 65, 66, 67, 68, 69, 70, 71, 75] (by decide +kernel) (by decide +kernel)
set_option maxRecDepth 20000 in
theorem gX8_loadState_X7_copyFrom_n235 : GoodIn wsX8_loadState (wsX7_copyFrom) := ggX8_loadState_X7_copyFrom
theorem dX8_loadState_0 : decode cX8_loadState 0 = .ok (.iload_n 1, 1) := by decide +kernel
theorem dX8_loadState_1 : decode cX8_loadState 1 = .ok (.invokestatic 229, 3) := by decide +kernel
theorem dX8_loadState_4 : decode cX8_loadState 4 = .ok (.iload_n 1, 1) := by decide +kernel
theorem dX8_loadState_5 : decode cX8_loadState 5 = .ok (.ifCond .ne 10, 3) := by decide +kernel
theorem dX8_loadState_8 : decode cX8_loadState 8 = .ok (.aload_n 0, 1) := by decide +kernel
theorem dX8_loadState_9 : decode cX8_loadState 9 = .ok (.getfield 54, 3) := by decide +kernel
theorem dX8_loadState_12 : decode cX8_loadState 12 = .ok (.goto 7, 3) := by decide +kernel
theorem dX8_loadState_15 : decode cX8_loadState 15 = .ok (.aload_n 0, 1) := by decide +kernel
theorem dX8_loadState_16 : decode cX8_loadState 16 = .ok (.getfield 58, 3) := by decide +kernel
theorem dX8_loadState_19 : decode cX8_loadState 19 = .ok (.astore_n 2, 1) := by decide +kernel
theorem dX8_loadState_20 : decode cX8_loadState 20 = .ok (.aload_n 2, 1) := by decide +kernel
theorem dX8_loadState_21 : decode cX8_loadState 21 = .ok (.getfield 238, 3) := by decide +kernel
theorem dX8_loadState_24 : decode cX8_loadState 24 = .ok (.ifCond .ne 13, 3) := by decide +kernel
theorem dX8_loadState_27 : decode cX8_loadState 27 = .ok (.new 91, 3) := by decide +kernel
theorem dX8_loadState_30 : decode cX8_loadState 30 = .ok (.dup, 1) := by decide +kernel
theorem dX8_loadState_31 : decode cX8_loadState 31 = .ok (.ldc 242, 2) := by decide +kernel
theorem dX8_loadState_33 : decode cX8_loadState 33 = .ok (.invokespecial 95, 3) := by decide +kernel
theorem dX8_loadState_36 : decode cX8_loadState 36 = .ok (.athrow, 1) := by decide +kernel
theorem dX8_loadState_37 : decode cX8_loadState 37 = .ok (.aload_n 0, 1) := by decide +kernel
theorem dX8_loadState_38 : decode cX8_loadState 38 = .ok (.getfield 47, 3) := by decide +kernel
theorem dX8_loadState_41 : decode cX8_loadState 41 = .ok (.aload_n 0, 1) := by decide +kernel
theorem dX8_loadState_42 : decode cX8_loadState 42 = .ok (.getfield 12, 3) := by decide +kernel
theorem dX8_loadState_45 : decode cX8_loadState 45 = .ok (.invokevirtual 69, 3) := by decide +kernel
theorem dX8_loadState_48 : decode cX8_loadState 48 = .ok (.aload_n 0, 1) := by decide +kernel
theorem dX8_loadState_49 : decode cX8_loadState 49 = .ok (.getfield 12, 3) := by decide +kernel
theorem dX8_loadState_52 : decode cX8_loadState 52 = .ok (.aload_n 2, 1) := by decide +kernel
theorem dX8_loadState_53 : decode cX8_loadState 53 = .ok (.getfield 232, 3) := by decide +kernel
theorem dX8_loadState_56 : decode cX8_loadState 56 = .ok (.invokevirtual 235, 3) := by decide +kernel
theorem dX8_loadState_59 : decode cX8_loadState 59 = .ok (.aload_n 0, 1) := by decide +kernel
theorem dX8_loadState_60 : decode cX8_loadState 60 = .ok (.getfield 12, 3) := by decide +kernel
theorem dX8_loadState_63 : decode cX8_loadState 63 = .ok (.getfield 174, 3) := by decide +kernel
theorem dX8_loadState_66 : decode cX8_loadState 66 = .ok (.ireturn, 1) := by decide +kernel
theorem dX8_requirePixel_0 : decode cX8_requirePixel 0 = .ok (.iload_n 0, 1) := by decide +kernel
theorem dX8_requirePixel_1 : decode cX8_requirePixel 1 = .ok (.ifCond .lt 9, 3) := by decide +kernel
theorem dX8_requirePixel_4 : decode cX8_requirePixel 4 = .ok (.iload_n 0, 1) := by decide +kernel
theorem dX8_requirePixel_5 : decode cX8_requirePixel 5 = .ok (.bipush 64, 2) := by decide +kernel
theorem dX8_requirePixel_7 : decode cX8_requirePixel 7 = .ok (.if_icmp .lt 13, 3) := by decide +kernel
theorem dX8_requirePixel_10 : decode cX8_requirePixel 10 = .ok (.new 127, 3) := by decide +kernel
theorem dX8_requirePixel_13 : decode cX8_requirePixel 13 = .ok (.dup, 1) := by decide +kernel
theorem dX8_requirePixel_14 : decode cX8_requirePixel 14 = .ok (.ldc 244, 2) := by decide +kernel
theorem dX8_requirePixel_16 : decode cX8_requirePixel 16 = .ok (.invokespecial 131, 3) := by decide +kernel
theorem dX8_requirePixel_19 : decode cX8_requirePixel 19 = .ok (.athrow, 1) := by decide +kernel
theorem dX8_requirePixel_20 : decode cX8_requirePixel 20 = .ok (.return_, 1) := by decide +kernel
theorem dX8_requireBlock_0 : decode cX8_requireBlock 0 = .ok (.iload_n 0, 1) := by decide +kernel
theorem dX8_requireBlock_1 : decode cX8_requireBlock 1 = .ok (.ifCond .lt 8, 3) := by decide +kernel
theorem dX8_requireBlock_4 : decode cX8_requireBlock 4 = .ok (.iload_n 0, 1) := by decide +kernel
theorem dX8_requireBlock_5 : decode cX8_requireBlock 5 = .ok (.iconst 4, 1) := by decide +kernel
theorem dX8_requireBlock_6 : decode cX8_requireBlock 6 = .ok (.if_icmp .lt 13, 3) := by decide +kernel
theorem dX8_requireBlock_9 : decode cX8_requireBlock 9 = .ok (.new 127, 3) := by decide +kernel
theorem dX8_requireBlock_12 : decode cX8_requireBlock 12 = .ok (.dup, 1) := by decide +kernel
theorem dX8_requireBlock_13 : decode cX8_requireBlock 13 = .ok (.ldc 246, 2) := by decide +kernel
theorem dX8_requireBlock_15 : decode cX8_requireBlock 15 = .ok (.invokespecial 131, 3) := by decide +kernel
theorem dX8_requireBlock_18 : decode cX8_requireBlock 18 = .ok (.athrow, 1) := by decide +kernel
theorem dX8_requireBlock_19 : decode cX8_requireBlock 19 = .ok (.return_, 1) := by decide +kernel
theorem dX8_requireSlot_0 : decode cX8_requireSlot 0 = .ok (.iload_n 0, 1) := by decide +kernel
theorem dX8_requireSlot_1 : decode cX8_requireSlot 1 = .ok (.ifCond .lt 8, 3) := by decide +kernel
theorem dX8_requireSlot_4 : decode cX8_requireSlot 4 = .ok (.iload_n 0, 1) := by decide +kernel
theorem dX8_requireSlot_5 : decode cX8_requireSlot 5 = .ok (.iconst 2, 1) := by decide +kernel
theorem dX8_requireSlot_6 : decode cX8_requireSlot 6 = .ok (.if_icmp .lt 13, 3) := by decide +kernel
theorem dX8_requireSlot_9 : decode cX8_requireSlot 9 = .ok (.new 127, 3) := by decide +kernel
theorem dX8_requireSlot_12 : decode cX8_requireSlot 12 = .ok (.dup, 1) := by decide +kernel
theorem dX8_requireSlot_13 : decode cX8_requireSlot 13 = .ok (.ldc 248, 2) := by decide +kernel
theorem dX8_requireSlot_15 : decode cX8_requireSlot 15 = .ok (.invokespecial 131, 3) := by decide +kernel
theorem dX8_requireSlot_18 : decode cX8_requireSlot 18 = .ok (.athrow, 1) := by decide +kernel
theorem dX8_requireSlot_19 : decode cX8_requireSlot 19 = .ok (.return_, 1) := by decide +kernel
theorem dX8_requireWithin_0 : decode cX8_requireWithin 0 = .ok (.iload_n 0, 1) := by decide +kernel
theorem dX8_requireWithin_1 : decode cX8_requireWithin 1 = .ok (.iload_n 1, 1) := by decide +kernel
theorem dX8_requireWithin_2 : decode cX8_requireWithin 2 = .ok (.if_icmp .lt 8, 3) := by decide +kernel
theorem dX8_requireWithin_5 : decode cX8_requireWithin 5 = .ok (.iload_n 0, 1) := by decide +kernel
theorem dX8_requireWithin_6 : decode cX8_requireWithin 6 = .ok (.iload_n 2, 1) := by decide +kernel
theorem dX8_requireWithin_7 : decode cX8_requireWithin 7 = .ok (.if_icmp .le 13, 3) := by decide +kernel
theorem dX8_requireWithin_10 : decode cX8_requireWithin 10 = .ok (.new 194, 3) := by decide +kernel
theorem dX8_requireWithin_13 : decode cX8_requireWithin 13 = .ok (.dup, 1) := by decide +kernel
theorem dX8_requireWithin_14 : decode cX8_requireWithin 14 = .ok (.ldc 250, 2) := by decide +kernel
theorem dX8_requireWithin_16 : decode cX8_requireWithin 16 = .ok (.invokespecial 198, 3) := by decide +kernel
theorem dX8_requireWithin_19 : decode cX8_requireWithin 19 = .ok (.athrow, 1) := by decide +kernel
theorem dX8_requireWithin_20 : decode cX8_requireWithin 20 = .ok (.return_, 1) := by decide +kernel
theorem dX8_maySend_0 : decode cX8_maySend 0 = .ok (.aload_n 0, 1) := by decide +kernel
theorem dX8_maySend_1 : decode cX8_maySend 1 = .ok (.getfield 12, 3) := by decide +kernel
theorem dX8_maySend_4 : decode cX8_maySend 4 = .ok (.getfield 174, 3) := by decide +kernel
theorem dX8_maySend_7 : decode cX8_maySend 7 = .ok (.sipush 999, 3) := by decide +kernel
theorem dX8_maySend_10 : decode cX8_maySend 10 = .ok (.if_icmp .ge 7, 3) := by decide +kernel
theorem dX8_maySend_13 : decode cX8_maySend 13 = .ok (.iconst 1, 1) := by decide +kernel
theorem dX8_maySend_14 : decode cX8_maySend 14 = .ok (.goto 4, 3) := by decide +kernel
theorem dX8_maySend_17 : decode cX8_maySend 17 = .ok (.iconst 0, 1) := by decide +kernel
theorem dX8_maySend_18 : decode cX8_maySend 18 = .ok (.ireturn, 1) := by decide +kernel
set_option maxRecDepth 20000 in
theorem ggX8_scrollDrawn_X4_copyFrom : GoodIn wsX8_scrollDrawn wsX4_copyFrom := goodIn_r _ [6, 7, 8, 9, 10, 11, 41] (by decide +kernel) (by decide +kernel)
set_option maxRecDepth 20000 in
theorem gX8_scrollDrawn_X4_copyFrom_n252 : GoodIn wsX8_scrollDrawn (wsX4_copyFrom) := ggX8_scrollDrawn_X4_copyFrom
set_option maxRecDepth 20000 in
theorem ggX8_scrollDrawn_X4_takeMoved : GoodIn wsX8_scrollDrawn wsX4_takeMoved := goodIn_r _ [14, 15, 16, 17, 4, 18, 7, 19, 20, 21, 22, 41] (by decide +kernel) (by decide +kernel)
set_option maxRecDepth 20000 in
theorem gX8_scrollDrawn_X4_takeMoved_n255 : GoodIn wsX8_scrollDrawn (wsX4_takeMoved) := ggX8_scrollDrawn_X4_takeMoved
theorem dX8_scrollDrawn_0 : decode cX8_scrollDrawn 0 = .ok (.aload_n 0, 1) := by decide +kernel
theorem dX8_scrollDrawn_1 : decode cX8_scrollDrawn 1 = .ok (.getfield 33, 3) := by decide +kernel
theorem dX8_scrollDrawn_4 : decode cX8_scrollDrawn 4 = .ok (.aload_n 0, 1) := by decide +kernel
theorem dX8_scrollDrawn_5 : decode cX8_scrollDrawn 5 = .ok (.getfield 12, 3) := by decide +kernel
theorem dX8_scrollDrawn_8 : decode cX8_scrollDrawn 8 = .ok (.getfield 73, 3) := by decide +kernel
theorem dX8_scrollDrawn_11 : decode cX8_scrollDrawn 11 = .ok (.invokevirtual 252, 3) := by decide +kernel
theorem dX8_scrollDrawn_14 : decode cX8_scrollDrawn 14 = .ok (.aload_n 0, 1) := by decide +kernel
theorem dX8_scrollDrawn_15 : decode cX8_scrollDrawn 15 = .ok (.getfield 12, 3) := by decide +kernel
theorem dX8_scrollDrawn_18 : decode cX8_scrollDrawn 18 = .ok (.getfield 73, 3) := by decide +kernel
theorem dX8_scrollDrawn_21 : decode cX8_scrollDrawn 21 = .ok (.aload_n 0, 1) := by decide +kernel
theorem dX8_scrollDrawn_22 : decode cX8_scrollDrawn 22 = .ok (.getfield 33, 3) := by decide +kernel
theorem dX8_scrollDrawn_25 : decode cX8_scrollDrawn 25 = .ok (.iload_n 1, 1) := by decide +kernel
theorem dX8_scrollDrawn_26 : decode cX8_scrollDrawn 26 = .ok (.iload_n 2, 1) := by decide +kernel
theorem dX8_scrollDrawn_27 : decode cX8_scrollDrawn 27 = .ok (.invokevirtual 255, 3) := by decide +kernel
theorem dX8_scrollDrawn_30 : decode cX8_scrollDrawn 30 = .ok (.ireturn, 1) := by decide +kernel
set_option maxRecDepth 20000 in
theorem ggX8_sendDrawn_X5_foreseePicture : GoodIn wsX8_sendDrawn wsX5_foreseePicture := goodIn_r _ [6, 7, 8, 9, 10, 11, 12, 13, 14, 15, 16, 4, 17, 18, 19, 20, 21, 22, 23, 24, 25, 26, 27, 28, 29, 30, 31, 32, 33, 34, 35, 36, 37, 38, 39, 40, 41, 42, 43, 44, 45, 46, 47, 48, 49, 50, 51, 52, 53, 54, 55, 56, 57, 58, 59, 60, 61, 62, 63, 64, 65, 66, 67, 68, 69, 70, 71, 72, 129, 130, 131, 132, 133, 134, 119, 120, 121, 122, 123, 124, 125, 126, 127, 128, 135] (by decide +kernel) (by decide +kernel)
set_option maxRecDepth 20000 in
theorem gX8_sendDrawn_X5_foreseePicture_n165 : GoodIn wsX8_sendDrawn (wsX5_foreseePicture) := ggX8_sendDrawn_X5_foreseePicture
set_option maxRecDepth 20000 in
theorem ggX8_sendDrawn_X8_receivePicture : GoodIn wsX8_sendDrawn wsX8_receivePicture := goodIn_r _ [76, 77, 2, 78, 38, 79, 80, 41, 81, 82, 83, 84, 85, 86, 87, 31, 88, 1, 89, 90, 28, 91, 92, 93, 94, 95, 4, 96, 97, 18, 98, 99, 100, 52, 101, 35, 36, 37, 39, 40, 55, 56, 57, 102, 30, 32, 103, 33, 34, 42, 43, 44, 104, 105, 106, 19, 66, 67, 68, 69, 54, 111, 112, 113, 114, 115, 116, 117, 118, 119, 120, 121, 122, 123, 124, 125, 126, 127, 128, 135, 129, 130, 131, 132, 133, 134] (by decide +kernel) (by decide +kernel)
set_option maxRecDepth 20000 in
theorem gX8_sendDrawn_X8_receivePicture : GoodIn wsX8_sendDrawn (wsV RX8 259 RX8 yX8_receivePicture wsX8_receivePicture) := goodIn_app (goodIn_of _ (by decide +kernel)) ggX8_sendDrawn_X8_receivePicture
set_option maxRecDepth 20000 in
theorem ggX8_sendDrawn_X8_sendBlock : GoodIn wsX8_sendDrawn wsX8_sendBlock := goodIn_r _ [110, 1, 2, 95, 4, 96, 97, 18, 101, 35, 31, 36, 37, 38, 39, 40, 41, 104, 105, 106, 19, 66, 67, 68, 69, 54, 55, 56, 57, 111, 112, 113, 114, 115, 116, 117, 118, 119, 120, 121, 122, 123, 124, 125, 126, 127, 128, 129, 130, 131, 132, 133, 134, 135] (by decide +kernel) (by decide +kernel)
set_option maxRecDepth 20000 in
theorem gX8_sendDrawn_X8_sendBlock : GoodIn wsX8_sendDrawn (wsV RX8 262 RX8 yX8_sendBlock wsX8_sendBlock) := goodIn_app (goodIn_of _ (by decide +kernel)) ggX8_sendDrawn_X8_sendBlock
set_option maxRecDepth 20000 in
theorem ggX8_sendDrawn_X5_kindOf : GoodIn wsX8_sendDrawn wsX5_kindOf := goodIn_r _ [97, 18, 129, 130, 131, 132, 133, 134] (by decide +kernel) (by decide +kernel)
set_option maxRecDepth 20000 in
theorem gX8_sendDrawn_X5_kindOf_n158 : GoodIn wsX8_sendDrawn (wsX5_kindOf) := ggX8_sendDrawn_X5_kindOf
set_option maxRecDepth 20000 in
theorem ggX8_sendDrawn_X5_moveOf : GoodIn wsX8_sendDrawn wsX5_moveOf := goodIn_r _ [100, 52, 129, 130, 131, 132, 133, 134] (by decide +kernel) (by decide +kernel)
set_option maxRecDepth 20000 in
theorem gX8_sendDrawn_X5_moveOf_n265 : GoodIn wsX8_sendDrawn (wsX5_moveOf) := ggX8_sendDrawn_X5_moveOf
theorem dX8_sendDrawn_0 : decode cX8_sendDrawn 0 = .ok (.aload_n 0, 1) := by decide +kernel
theorem dX8_sendDrawn_1 : decode cX8_sendDrawn 1 = .ok (.getfield 19, 3) := by decide +kernel
theorem dX8_sendDrawn_4 : decode cX8_sendDrawn 4 = .ok (.aload_n 0, 1) := by decide +kernel
theorem dX8_sendDrawn_5 : decode cX8_sendDrawn 5 = .ok (.getfield 12, 3) := by decide +kernel
theorem dX8_sendDrawn_8 : decode cX8_sendDrawn 8 = .ok (.invokevirtual 165, 3) := by decide +kernel
theorem dX8_sendDrawn_11 : decode cX8_sendDrawn 11 = .ok (.iload_n 1, 1) := by decide +kernel
theorem dX8_sendDrawn_12 : decode cX8_sendDrawn 12 = .ok (.ifCond .eq 19, 3) := by decide +kernel
theorem dX8_sendDrawn_15 : decode cX8_sendDrawn 15 = .ok (.aload_n 0, 1) := by decide +kernel
theorem dX8_sendDrawn_16 : decode cX8_sendDrawn 16 = .ok (.getfield 12, 3) := by decide +kernel
theorem dX8_sendDrawn_19 : decode cX8_sendDrawn 19 = .ok (.dup, 1) := by decide +kernel
theorem dX8_sendDrawn_20 : decode cX8_sendDrawn 20 = .ok (.getfield 177, 3) := by decide +kernel
theorem dX8_sendDrawn_23 : decode cX8_sendDrawn 23 = .ok (.iconst 1, 1) := by decide +kernel
theorem dX8_sendDrawn_24 : decode cX8_sendDrawn 24 = .ok (.iadd, 1) := by decide +kernel
theorem dX8_sendDrawn_25 : decode cX8_sendDrawn 25 = .ok (.putfield 177, 3) := by decide +kernel
theorem dX8_sendDrawn_28 : decode cX8_sendDrawn 28 = .ok (.goto 7, 3) := by decide +kernel
theorem dX8_sendDrawn_31 : decode cX8_sendDrawn 31 = .ok (.aload_n 0, 1) := by decide +kernel
theorem dX8_sendDrawn_32 : decode cX8_sendDrawn 32 = .ok (.invokevirtual 259, 3) := by decide +kernel
theorem dX8_sendDrawn_35 : decode cX8_sendDrawn 35 = .ok (.iconst 0, 1) := by decide +kernel
theorem dX8_sendDrawn_36 : decode cX8_sendDrawn 36 = .ok (.istore_n 2, 1) := by decide +kernel
theorem dX8_sendDrawn_37 : decode cX8_sendDrawn 37 = .ok (.iload_n 2, 1) := by decide +kernel
theorem dX8_sendDrawn_38 : decode cX8_sendDrawn 38 = .ok (.iconst 4, 1) := by decide +kernel
theorem dX8_sendDrawn_39 : decode cX8_sendDrawn 39 = .ok (.if_icmp .ge 48, 3) := by decide +kernel
theorem dX8_sendDrawn_42 : decode cX8_sendDrawn 42 = .ok (.aload_n 0, 1) := by decide +kernel
theorem dX8_sendDrawn_43 : decode cX8_sendDrawn 43 = .ok (.iload_n 2, 1) := by decide +kernel
theorem dX8_sendDrawn_44 : decode cX8_sendDrawn 44 = .ok (.invokevirtual 262, 3) := by decide +kernel
theorem dX8_sendDrawn_47 : decode cX8_sendDrawn 47 = .ok (.aload_n 0, 1) := by decide +kernel
theorem dX8_sendDrawn_48 : decode cX8_sendDrawn 48 = .ok (.getfield 12, 3) := by decide +kernel
theorem dX8_sendDrawn_51 : decode cX8_sendDrawn 51 = .ok (.getfield 183, 3) := by decide +kernel
theorem dX8_sendDrawn_54 : decode cX8_sendDrawn 54 = .ok (.iload_n 2, 1) := by decide +kernel
theorem dX8_sendDrawn_55 : decode cX8_sendDrawn 55 = .ok (.aload_n 0, 1) := by decide +kernel
theorem dX8_sendDrawn_56 : decode cX8_sendDrawn 56 = .ok (.getfield 19, 3) := by decide +kernel
theorem dX8_sendDrawn_59 : decode cX8_sendDrawn 59 = .ok (.iload_n 2, 1) := by decide +kernel
theorem dX8_sendDrawn_60 : decode cX8_sendDrawn 60 = .ok (.invokevirtual 158, 3) := by decide +kernel
theorem dX8_sendDrawn_63 : decode cX8_sendDrawn 63 = .ok (.iastore, 1) := by decide +kernel
theorem dX8_sendDrawn_64 : decode cX8_sendDrawn 64 = .ok (.aload_n 0, 1) := by decide +kernel
theorem dX8_sendDrawn_65 : decode cX8_sendDrawn 65 = .ok (.getfield 12, 3) := by decide +kernel
theorem dX8_sendDrawn_68 : decode cX8_sendDrawn 68 = .ok (.getfield 187, 3) := by decide +kernel
theorem dX8_sendDrawn_71 : decode cX8_sendDrawn 71 = .ok (.iload_n 2, 1) := by decide +kernel
theorem dX8_sendDrawn_72 : decode cX8_sendDrawn 72 = .ok (.aload_n 0, 1) := by decide +kernel
theorem dX8_sendDrawn_73 : decode cX8_sendDrawn 73 = .ok (.getfield 19, 3) := by decide +kernel
theorem dX8_sendDrawn_76 : decode cX8_sendDrawn 76 = .ok (.iload_n 2, 1) := by decide +kernel
theorem dX8_sendDrawn_77 : decode cX8_sendDrawn 77 = .ok (.invokevirtual 265, 3) := by decide +kernel
theorem dX8_sendDrawn_80 : decode cX8_sendDrawn 80 = .ok (.iastore, 1) := by decide +kernel
theorem dX8_sendDrawn_81 : decode cX8_sendDrawn 81 = .ok (.iinc 2 1, 3) := by decide +kernel
theorem dX8_sendDrawn_84 : decode cX8_sendDrawn 84 = .ok (.goto (-47), 3) := by decide +kernel
theorem dX8_sendDrawn_87 : decode cX8_sendDrawn 87 = .ok (.aload_n 0, 1) := by decide +kernel
theorem dX8_sendDrawn_88 : decode cX8_sendDrawn 88 = .ok (.getfield 12, 3) := by decide +kernel
theorem dX8_sendDrawn_91 : decode cX8_sendDrawn 91 = .ok (.dup, 1) := by decide +kernel
theorem dX8_sendDrawn_92 : decode cX8_sendDrawn 92 = .ok (.getfield 174, 3) := by decide +kernel
theorem dX8_sendDrawn_95 : decode cX8_sendDrawn 95 = .ok (.iconst 1, 1) := by decide +kernel
theorem dX8_sendDrawn_96 : decode cX8_sendDrawn 96 = .ok (.iadd, 1) := by decide +kernel
theorem dX8_sendDrawn_97 : decode cX8_sendDrawn 97 = .ok (.putfield 174, 3) := by decide +kernel
theorem dX8_sendDrawn_100 : decode cX8_sendDrawn 100 = .ok (.aload_n 0, 1) := by decide +kernel
theorem dX8_sendDrawn_101 : decode cX8_sendDrawn 101 = .ok (.getfield 12, 3) := by decide +kernel
theorem dX8_sendDrawn_104 : decode cX8_sendDrawn 104 = .ok (.dup, 1) := by decide +kernel
theorem dX8_sendDrawn_105 : decode cX8_sendDrawn 105 = .ok (.getfield 180, 3) := by decide +kernel
theorem dX8_sendDrawn_108 : decode cX8_sendDrawn 108 = .ok (.aload_n 0, 1) := by decide +kernel
theorem dX8_sendDrawn_109 : decode cX8_sendDrawn 109 = .ok (.getfield 19, 3) := by decide +kernel
theorem dX8_sendDrawn_112 : decode cX8_sendDrawn 112 = .ok (.getfield 171, 3) := by decide +kernel
theorem dX8_sendDrawn_115 : decode cX8_sendDrawn 115 = .ok (.iadd, 1) := by decide +kernel
theorem dX8_sendDrawn_116 : decode cX8_sendDrawn 116 = .ok (.putfield 180, 3) := by decide +kernel
theorem dX8_sendDrawn_119 : decode cX8_sendDrawn 119 = .ok (.aload_n 0, 1) := by decide +kernel
theorem dX8_sendDrawn_120 : decode cX8_sendDrawn 120 = .ok (.getfield 19, 3) := by decide +kernel
theorem dX8_sendDrawn_123 : decode cX8_sendDrawn 123 = .ok (.getfield 171, 3) := by decide +kernel
theorem dX8_sendDrawn_126 : decode cX8_sendDrawn 126 = .ok (.ireturn, 1) := by decide +kernel
set_option maxRecDepth 20000 in
theorem ggX8_sendBlock_X5_kindOf : GoodIn wsX8_sendBlock wsX5_kindOf := goodIn_r _ [6, 7, 47, 48, 49, 50, 51, 52] (by decide +kernel) (by decide +kernel)
set_option maxRecDepth 20000 in
theorem gX8_sendBlock_X5_kindOf_n158 : GoodIn wsX8_sendBlock (wsX5_kindOf) := ggX8_sendBlock_X5_kindOf
set_option maxRecDepth 20000 in
theorem ggX8_sendBlock_X8_pixelIn : GoodIn wsX8_sendBlock wsX8_pixelIn := goodIn_r _ [11] (by decide +kernel) (by decide +kernel)
set_option maxRecDepth 20000 in
theorem gX8_sendBlock_X8_pixelIn : GoodIn wsX8_sendBlock (va_wsS RX8 268 yX8_pixelIn wsX8_pixelIn) := goodIn_app (goodIn_of _ (by decide +kernel)) ggX8_sendBlock_X8_pixelIn
set_option maxRecDepth 20000 in
theorem ggX8_sendBlock_X4_valueAt : GoodIn wsX8_sendBlock wsX4_valueAt := goodIn_r _ [15, 16, 53] (by decide +kernel) (by decide +kernel)
set_option maxRecDepth 20000 in
theorem gX8_sendBlock_X4_valueAt_n109 : GoodIn wsX8_sendBlock (wsX4_valueAt) := ggX8_sendBlock_X4_valueAt
set_option maxRecDepth 20000 in
theorem ggX8_sendBlock_X5_additionAt : GoodIn wsX8_sendBlock wsX5_additionAt := goodIn_r _ [19, 20, 21, 22, 23, 4, 24, 25, 47, 48, 49, 50, 51, 52] (by decide +kernel) (by decide +kernel)
set_option maxRecDepth 20000 in
theorem gX8_sendBlock_X5_additionAt_n274 : GoodIn wsX8_sendBlock (wsX5_additionAt) := ggX8_sendBlock_X5_additionAt
set_option maxRecDepth 20000 in
theorem ggX8_sendBlock_X4_put : GoodIn wsX8_sendBlock wsX4_put := goodIn_r _ [28, 16, 53] (by decide +kernel) (by decide +kernel)
set_option maxRecDepth 20000 in
theorem gX8_sendBlock_X4_put_n76 : GoodIn wsX8_sendBlock (wsX4_put) := ggX8_sendBlock_X4_put
theorem dX8_sendBlock_0 : decode cX8_sendBlock 0 = .ok (.aload_n 0, 1) := by decide +kernel
theorem dX8_sendBlock_1 : decode cX8_sendBlock 1 = .ok (.getfield 19, 3) := by decide +kernel
theorem dX8_sendBlock_4 : decode cX8_sendBlock 4 = .ok (.iload_n 1, 1) := by decide +kernel
theorem dX8_sendBlock_5 : decode cX8_sendBlock 5 = .ok (.invokevirtual 158, 3) := by decide +kernel
theorem dX8_sendBlock_8 : decode cX8_sendBlock 8 = .ok (.istore_n 2, 1) := by decide +kernel
theorem dX8_sendBlock_9 : decode cX8_sendBlock 9 = .ok (.iconst 0, 1) := by decide +kernel
theorem dX8_sendBlock_10 : decode cX8_sendBlock 10 = .ok (.istore_n 3, 1) := by decide +kernel
theorem dX8_sendBlock_11 : decode cX8_sendBlock 11 = .ok (.iload_n 3, 1) := by decide +kernel
theorem dX8_sendBlock_12 : decode cX8_sendBlock 12 = .ok (.bipush 16, 2) := by decide +kernel
theorem dX8_sendBlock_14 : decode cX8_sendBlock 14 = .ok (.if_icmp .ge 70, 3) := by decide +kernel
theorem dX8_sendBlock_17 : decode cX8_sendBlock 17 = .ok (.iload_n 1, 1) := by decide +kernel
theorem dX8_sendBlock_18 : decode cX8_sendBlock 18 = .ok (.iload_n 3, 1) := by decide +kernel
theorem dX8_sendBlock_19 : decode cX8_sendBlock 19 = .ok (.invokestatic 268, 3) := by decide +kernel
theorem dX8_sendBlock_22 : decode cX8_sendBlock 22 = .ok (.istore 4, 2) := by decide +kernel
theorem dX8_sendBlock_24 : decode cX8_sendBlock 24 = .ok (.aload_n 0, 1) := by decide +kernel
theorem dX8_sendBlock_25 : decode cX8_sendBlock 25 = .ok (.getfield 12, 3) := by decide +kernel
theorem dX8_sendBlock_28 : decode cX8_sendBlock 28 = .ok (.getfield 113, 3) := by decide +kernel
theorem dX8_sendBlock_31 : decode cX8_sendBlock 31 = .ok (.iload 4, 2) := by decide +kernel
theorem dX8_sendBlock_33 : decode cX8_sendBlock 33 = .ok (.iload_n 2, 1) := by decide +kernel
theorem dX8_sendBlock_34 : decode cX8_sendBlock 34 = .ok (.ifCond .ne 18, 3) := by decide +kernel
theorem dX8_sendBlock_37 : decode cX8_sendBlock 37 = .ok (.aload_n 0, 1) := by decide +kernel
theorem dX8_sendBlock_38 : decode cX8_sendBlock 38 = .ok (.getfield 12, 3) := by decide +kernel
theorem dX8_sendBlock_41 : decode cX8_sendBlock 41 = .ok (.getfield 73, 3) := by decide +kernel
theorem dX8_sendBlock_44 : decode cX8_sendBlock 44 = .ok (.iload 4, 2) := by decide +kernel
theorem dX8_sendBlock_46 : decode cX8_sendBlock 46 = .ok (.invokevirtual 109, 3) := by decide +kernel
theorem dX8_sendBlock_49 : decode cX8_sendBlock 49 = .ok (.goto 25, 3) := by decide +kernel
theorem dX8_sendBlock_52 : decode cX8_sendBlock 52 = .ok (.aload_n 0, 1) := by decide +kernel
theorem dX8_sendBlock_53 : decode cX8_sendBlock 53 = .ok (.getfield 19, 3) := by decide +kernel
theorem dX8_sendBlock_56 : decode cX8_sendBlock 56 = .ok (.getfield 271, 3) := by decide +kernel
theorem dX8_sendBlock_59 : decode cX8_sendBlock 59 = .ok (.iload 4, 2) := by decide +kernel
theorem dX8_sendBlock_61 : decode cX8_sendBlock 61 = .ok (.invokevirtual 109, 3) := by decide +kernel
theorem dX8_sendBlock_64 : decode cX8_sendBlock 64 = .ok (.aload_n 0, 1) := by decide +kernel
theorem dX8_sendBlock_65 : decode cX8_sendBlock 65 = .ok (.getfield 19, 3) := by decide +kernel
theorem dX8_sendBlock_68 : decode cX8_sendBlock 68 = .ok (.iload 4, 2) := by decide +kernel
theorem dX8_sendBlock_70 : decode cX8_sendBlock 70 = .ok (.invokevirtual 274, 3) := by decide +kernel
theorem dX8_sendBlock_73 : decode cX8_sendBlock 73 = .ok (.iadd, 1) := by decide +kernel
theorem dX8_sendBlock_74 : decode cX8_sendBlock 74 = .ok (.invokevirtual 76, 3) := by decide +kernel
theorem dX8_sendBlock_77 : decode cX8_sendBlock 77 = .ok (.pop, 1) := by decide +kernel
theorem dX8_sendBlock_78 : decode cX8_sendBlock 78 = .ok (.iinc 3 1, 3) := by decide +kernel
theorem dX8_sendBlock_81 : decode cX8_sendBlock 81 = .ok (.goto (-70), 3) := by decide +kernel
theorem dX8_sendBlock_84 : decode cX8_sendBlock 84 = .ok (.return_, 1) := by decide +kernel
set_option maxRecDepth 20000 in
theorem ggX8_receivePicture_X4_copyFrom : GoodIn wsX8_receivePicture wsX4_copyFrom := goodIn_r _ [6, 7, 8, 9, 10, 11, 79] (by decide +kernel) (by decide +kernel)
set_option maxRecDepth 20000 in
theorem gX8_receivePicture_X4_copyFrom_n252 : GoodIn wsX8_receivePicture (wsX4_copyFrom) := ggX8_receivePicture_X4_copyFrom
set_option maxRecDepth 20000 in
theorem ggX8_receivePicture_X8_receiveBlock : GoodIn wsX8_receivePicture wsX8_receiveBlock := goodIn_r _ [16, 17, 2, 1, 18, 19, 20, 21, 22, 23, 24, 25, 26, 27, 28, 29, 30, 31, 32, 33, 34, 35, 15, 36, 37, 4, 38, 39, 7, 40, 41, 42, 43, 44, 45, 46, 47, 48, 49, 50, 51, 52, 53, 54, 55, 56, 57, 58, 59, 60, 61, 62, 63, 64, 65, 66, 67, 68, 69, 70, 71, 72, 73, 74, 75, 76, 77, 78, 80, 81, 82, 83, 84, 85, 79] (by decide +kernel) (by decide +kernel)
set_option maxRecDepth 20000 in
theorem gX8_receivePicture_X8_receiveBlock : GoodIn wsX8_receivePicture (wsV RX8 277 RX8 yX8_receiveBlock wsX8_receiveBlock) := goodIn_app (goodIn_of _ (by decide +kernel)) ggX8_receivePicture_X8_receiveBlock
theorem dX8_receivePicture_0 : decode cX8_receivePicture 0 = .ok (.aload_n 0, 1) := by decide +kernel
theorem dX8_receivePicture_1 : decode cX8_receivePicture 1 = .ok (.getfield 33, 3) := by decide +kernel
theorem dX8_receivePicture_4 : decode cX8_receivePicture 4 = .ok (.aload_n 0, 1) := by decide +kernel
theorem dX8_receivePicture_5 : decode cX8_receivePicture 5 = .ok (.getfield 12, 3) := by decide +kernel
theorem dX8_receivePicture_8 : decode cX8_receivePicture 8 = .ok (.getfield 116, 3) := by decide +kernel
theorem dX8_receivePicture_11 : decode cX8_receivePicture 11 = .ok (.invokevirtual 252, 3) := by decide +kernel
theorem dX8_receivePicture_14 : decode cX8_receivePicture 14 = .ok (.iconst 0, 1) := by decide +kernel
theorem dX8_receivePicture_15 : decode cX8_receivePicture 15 = .ok (.istore_n 1, 1) := by decide +kernel
theorem dX8_receivePicture_16 : decode cX8_receivePicture 16 = .ok (.iload_n 1, 1) := by decide +kernel
theorem dX8_receivePicture_17 : decode cX8_receivePicture 17 = .ok (.iconst 4, 1) := by decide +kernel
theorem dX8_receivePicture_18 : decode cX8_receivePicture 18 = .ok (.if_icmp .ge 14, 3) := by decide +kernel
theorem dX8_receivePicture_21 : decode cX8_receivePicture 21 = .ok (.aload_n 0, 1) := by decide +kernel
theorem dX8_receivePicture_22 : decode cX8_receivePicture 22 = .ok (.iload_n 1, 1) := by decide +kernel
theorem dX8_receivePicture_23 : decode cX8_receivePicture 23 = .ok (.invokevirtual 277, 3) := by decide +kernel
theorem dX8_receivePicture_26 : decode cX8_receivePicture 26 = .ok (.iinc 1 1, 3) := by decide +kernel
theorem dX8_receivePicture_29 : decode cX8_receivePicture 29 = .ok (.goto (-13), 3) := by decide +kernel
theorem dX8_receivePicture_32 : decode cX8_receivePicture 32 = .ok (.return_, 1) := by decide +kernel
set_option maxRecDepth 20000 in
theorem ggX8_receiveBlock_X5_kindOf : GoodIn wsX8_receiveBlock wsX5_kindOf := goodIn_r _ [14, 15, 68, 69, 70, 71, 72, 73] (by decide +kernel) (by decide +kernel)
set_option maxRecDepth 20000 in
theorem gX8_receiveBlock_X5_kindOf_n158 : GoodIn wsX8_receiveBlock (wsX5_kindOf) := ggX8_receiveBlock_X5_kindOf
set_option maxRecDepth 20000 in
theorem ggX8_receiveBlock_X5_moveOf : GoodIn wsX8_receiveBlock wsX5_moveOf := goodIn_r _ [18, 19, 68, 69, 70, 71, 72, 73] (by decide +kernel) (by decide +kernel)
set_option maxRecDepth 20000 in
theorem gX8_receiveBlock_X5_moveOf_n265 : GoodIn wsX8_receiveBlock (wsX5_moveOf) := ggX8_receiveBlock_X5_moveOf
set_option maxRecDepth 20000 in
theorem ggX8_receiveBlock_X8_pixelIn : GoodIn wsX8_receiveBlock wsX8_pixelIn := goodIn_r _ [23] (by decide +kernel) (by decide +kernel)
set_option maxRecDepth 20000 in
theorem gX8_receiveBlock_X8_pixelIn : GoodIn wsX8_receiveBlock (va_wsS RX8 268 yX8_pixelIn wsX8_pixelIn) := goodIn_app (goodIn_of _ (by decide +kernel)) ggX8_receiveBlock_X8_pixelIn
set_option maxRecDepth 20000 in
theorem ggX8_receiveBlock_X4_valueAt : GoodIn wsX8_receiveBlock wsX4_valueAt := goodIn_r _ [27, 28, 74] (by decide +kernel) (by decide +kernel)
set_option maxRecDepth 20000 in
theorem gX8_receiveBlock_X4_valueAt_n109 : GoodIn wsX8_receiveBlock (wsX4_valueAt) := ggX8_receiveBlock_X4_valueAt
set_option maxRecDepth 20000 in
theorem ggX8_receiveBlock_X4_put : GoodIn wsX8_receiveBlock wsX4_put := goodIn_r _ [31, 28, 74] (by decide +kernel) (by decide +kernel)
set_option maxRecDepth 20000 in
theorem gX8_receiveBlock_X4_put_n76 : GoodIn wsX8_receiveBlock (wsX4_put) := ggX8_receiveBlock_X4_put
set_option maxRecDepth 20000 in
theorem ggX8_receiveBlock_X8_downOf : GoodIn wsX8_receiveBlock wsX8_downOf := goodIn_r _ [34] (by decide +kernel) (by decide +kernel)
set_option maxRecDepth 20000 in
theorem gX8_receiveBlock_X8_downOf : GoodIn wsX8_receiveBlock (va_wsS RX8 280 yX8_downOf wsX8_downOf) := goodIn_app (goodIn_of _ (by decide +kernel)) ggX8_receiveBlock_X8_downOf
set_option maxRecDepth 20000 in
theorem ggX8_receiveBlock_X8_rightOf : GoodIn wsX8_receiveBlock wsX8_rightOf := goodIn_r _ [37] (by decide +kernel) (by decide +kernel)
set_option maxRecDepth 20000 in
theorem gX8_receiveBlock_X8_rightOf : GoodIn wsX8_receiveBlock (va_wsS RX8 283 yX8_rightOf wsX8_rightOf) := goodIn_app (goodIn_of _ (by decide +kernel)) ggX8_receiveBlock_X8_rightOf
set_option maxRecDepth 20000 in
theorem ggX8_receiveBlock_X4_movedValueAt : GoodIn wsX8_receiveBlock wsX4_movedValueAt := goodIn_r _ [40, 28, 74] (by decide +kernel) (by decide +kernel)
set_option maxRecDepth 20000 in
theorem gX8_receiveBlock_X4_movedValueAt_n286 : GoodIn wsX8_receiveBlock (wsX4_movedValueAt) := ggX8_receiveBlock_X4_movedValueAt
set_option maxRecDepth 20000 in
theorem ggX8_receiveBlock_X5_additionAt : GoodIn wsX8_receiveBlock wsX5_additionAt := goodIn_r _ [43, 44, 45, 46, 47, 12, 48, 49, 68, 69, 70, 71, 72, 73] (by decide +kernel) (by decide +kernel)
set_option maxRecDepth 20000 in
theorem gX8_receiveBlock_X5_additionAt_n274 : GoodIn wsX8_receiveBlock (wsX5_additionAt) := ggX8_receiveBlock_X5_additionAt
theorem dX8_receiveBlock_0 : decode cX8_receiveBlock 0 = .ok (.aload_n 0, 1) := by decide +kernel
theorem dX8_receiveBlock_1 : decode cX8_receiveBlock 1 = .ok (.getfield 19, 3) := by decide +kernel
theorem dX8_receiveBlock_4 : decode cX8_receiveBlock 4 = .ok (.iload_n 1, 1) := by decide +kernel
theorem dX8_receiveBlock_5 : decode cX8_receiveBlock 5 = .ok (.invokevirtual 158, 3) := by decide +kernel
theorem dX8_receiveBlock_8 : decode cX8_receiveBlock 8 = .ok (.istore_n 2, 1) := by decide +kernel
theorem dX8_receiveBlock_9 : decode cX8_receiveBlock 9 = .ok (.aload_n 0, 1) := by decide +kernel
theorem dX8_receiveBlock_10 : decode cX8_receiveBlock 10 = .ok (.getfield 19, 3) := by decide +kernel
theorem dX8_receiveBlock_13 : decode cX8_receiveBlock 13 = .ok (.iload_n 1, 1) := by decide +kernel
theorem dX8_receiveBlock_14 : decode cX8_receiveBlock 14 = .ok (.invokevirtual 265, 3) := by decide +kernel
theorem dX8_receiveBlock_17 : decode cX8_receiveBlock 17 = .ok (.istore_n 3, 1) := by decide +kernel
theorem dX8_receiveBlock_18 : decode cX8_receiveBlock 18 = .ok (.iconst 0, 1) := by decide +kernel
theorem dX8_receiveBlock_19 : decode cX8_receiveBlock 19 = .ok (.istore 4, 2) := by decide +kernel
theorem dX8_receiveBlock_21 : decode cX8_receiveBlock 21 = .ok (.iload 4, 2) := by decide +kernel
theorem dX8_receiveBlock_23 : decode cX8_receiveBlock 23 = .ok (.bipush 16, 2) := by decide +kernel
theorem dX8_receiveBlock_25 : decode cX8_receiveBlock 25 = .ok (.if_icmp .ge 102, 3) := by decide +kernel
theorem dX8_receiveBlock_28 : decode cX8_receiveBlock 28 = .ok (.iload_n 1, 1) := by decide +kernel
theorem dX8_receiveBlock_29 : decode cX8_receiveBlock 29 = .ok (.iload 4, 2) := by decide +kernel
theorem dX8_receiveBlock_31 : decode cX8_receiveBlock 31 = .ok (.invokestatic 268, 3) := by decide +kernel
theorem dX8_receiveBlock_34 : decode cX8_receiveBlock 34 = .ok (.istore 5, 2) := by decide +kernel
theorem dX8_receiveBlock_36 : decode cX8_receiveBlock 36 = .ok (.iload_n 2, 1) := by decide +kernel
theorem dX8_receiveBlock_37 : decode cX8_receiveBlock 37 = .ok (.ifCond .ne 31, 3) := by decide +kernel
theorem dX8_receiveBlock_40 : decode cX8_receiveBlock 40 = .ok (.aload_n 0, 1) := by decide +kernel
theorem dX8_receiveBlock_41 : decode cX8_receiveBlock 41 = .ok (.getfield 12, 3) := by decide +kernel
theorem dX8_receiveBlock_44 : decode cX8_receiveBlock 44 = .ok (.getfield 116, 3) := by decide +kernel
theorem dX8_receiveBlock_47 : decode cX8_receiveBlock 47 = .ok (.iload 5, 2) := by decide +kernel
theorem dX8_receiveBlock_49 : decode cX8_receiveBlock 49 = .ok (.aload_n 0, 1) := by decide +kernel
theorem dX8_receiveBlock_50 : decode cX8_receiveBlock 50 = .ok (.getfield 12, 3) := by decide +kernel
theorem dX8_receiveBlock_53 : decode cX8_receiveBlock 53 = .ok (.getfield 73, 3) := by decide +kernel
theorem dX8_receiveBlock_56 : decode cX8_receiveBlock 56 = .ok (.iload 5, 2) := by decide +kernel
theorem dX8_receiveBlock_58 : decode cX8_receiveBlock 58 = .ok (.invokevirtual 109, 3) := by decide +kernel
theorem dX8_receiveBlock_61 : decode cX8_receiveBlock 61 = .ok (.invokevirtual 76, 3) := by decide +kernel
theorem dX8_receiveBlock_64 : decode cX8_receiveBlock 64 = .ok (.pop, 1) := by decide +kernel
theorem dX8_receiveBlock_65 : decode cX8_receiveBlock 65 = .ok (.goto 56, 3) := by decide +kernel
theorem dX8_receiveBlock_68 : decode cX8_receiveBlock 68 = .ok (.aload_n 0, 1) := by decide +kernel
theorem dX8_receiveBlock_69 : decode cX8_receiveBlock 69 = .ok (.getfield 33, 3) := by decide +kernel
theorem dX8_receiveBlock_72 : decode cX8_receiveBlock 72 = .ok (.iload 5, 2) := by decide +kernel
theorem dX8_receiveBlock_74 : decode cX8_receiveBlock 74 = .ok (.iload_n 3, 1) := by decide +kernel
theorem dX8_receiveBlock_75 : decode cX8_receiveBlock 75 = .ok (.invokestatic 280, 3) := by decide +kernel
theorem dX8_receiveBlock_78 : decode cX8_receiveBlock 78 = .ok (.iload_n 3, 1) := by decide +kernel
theorem dX8_receiveBlock_79 : decode cX8_receiveBlock 79 = .ok (.invokestatic 283, 3) := by decide +kernel
theorem dX8_receiveBlock_82 : decode cX8_receiveBlock 82 = .ok (.invokevirtual 286, 3) := by decide +kernel
theorem dX8_receiveBlock_85 : decode cX8_receiveBlock 85 = .ok (.aload_n 0, 1) := by decide +kernel
theorem dX8_receiveBlock_86 : decode cX8_receiveBlock 86 = .ok (.getfield 19, 3) := by decide +kernel
theorem dX8_receiveBlock_89 : decode cX8_receiveBlock 89 = .ok (.iload 5, 2) := by decide +kernel
theorem dX8_receiveBlock_91 : decode cX8_receiveBlock 91 = .ok (.invokevirtual 274, 3) := by decide +kernel
theorem dX8_receiveBlock_94 : decode cX8_receiveBlock 94 = .ok (.iadd, 1) := by decide +kernel
theorem dX8_receiveBlock_95 : decode cX8_receiveBlock 95 = .ok (.istore 6, 2) := by decide +kernel
theorem dX8_receiveBlock_97 : decode cX8_receiveBlock 97 = .ok (.aload_n 0, 1) := by decide +kernel
