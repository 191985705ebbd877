theorem dX5_moveOf_20 : decode cX5_moveOf 20 = .ok (.ireturn, 1) := by decide +kernel
theorem dX5_kindOf_0 : decode cX5_kindOf 0 = .ok (.iload_n 1, 1) := by decide +kernel
theorem dX5_kindOf_1 : decode cX5_kindOf 1 = .ok (.ifCond .lt 8, 3) := by decide +kernel
theorem dX5_kindOf_4 : decode cX5_kindOf 4 = .ok (.iload_n 1, 1) := by decide +kernel
theorem dX5_kindOf_5 : decode cX5_kindOf 5 = .ok (.iconst 4, 1) := by decide +kernel
theorem dX5_kindOf_6 : decode cX5_kindOf 6 = .ok (.if_icmp .lt 7, 3) := by decide +kernel
theorem dX5_kindOf_9 : decode cX5_kindOf 9 = .ok (.iconst 0, 1) := by decide +kernel
theorem dX5_kindOf_10 : decode cX5_kindOf 10 = .ok (.goto 9, 3) := by decide +kernel
theorem dX5_kindOf_13 : decode cX5_kindOf 13 = .ok (.aload_n 0, 1) := by decide +kernel
theorem dX5_kindOf_14 : decode cX5_kindOf 14 = .ok (.getfield 15, 3) := by decide +kernel
theorem dX5_kindOf_17 : decode cX5_kindOf 17 = .ok (.iload_n 1, 1) := by decide +kernel
theorem dX5_kindOf_18 : decode cX5_kindOf 18 = .ok (.iaload, 1) := by decide +kernel
theorem dX5_kindOf_19 : decode cX5_kindOf 19 = .ok (.ireturn, 1) := by decide +kernel
set_option maxRecDepth 20000 in
theorem ggX5_foreseePicture_X7_isKeyDue : GoodIn wsX5_foreseePicture wsX7_isKeyDue := goodIn_r _ [5, 6, 7, 74, 75, 76, 77, 78, 79, 80, 81, 82, 83] (by decide +kernel) (by decide +kernel)
set_option maxRecDepth 20000 in
theorem gX5_foreseePicture_X7_isKeyDue_n35 : GoodIn wsX5_foreseePicture (wsX7_isKeyDue) := ggX5_foreseePicture_X7_isKeyDue
set_option maxRecDepth 20000 in
theorem ggX5_foreseePicture_X5_foreseeKey : GoodIn wsX5_foreseePicture wsX5_foreseeKey := goodIn_r _ [12, 13, 14, 1, 68, 69, 70, 71, 72, 73] (by decide +kernel) (by decide +kernel)
set_option maxRecDepth 20000 in
theorem gX5_foreseePicture_X5_foreseeKey : GoodIn wsX5_foreseePicture (wsV RX5 41 RX5 yX5_foreseeKey wsX5_foreseeKey) := goodIn_app (goodIn_of _ (by decide +kernel)) ggX5_foreseePicture_X5_foreseeKey
set_option maxRecDepth 20000 in
theorem ggX5_foreseePicture_X3_bestByLooking : GoodIn wsX5_foreseePicture wsX3_bestByLooking := goodIn_r _ [17, 18, 19, 16, 20, 21, 22, 23, 24, 25, 26, 27, 28, 29, 30, 31, 32, 33, 34, 35, 36, 37, 38, 39, 40, 41, 42, 74, 75, 76, 77, 78, 79, 80, 81, 82, 83, 84] (by decide +kernel) (by decide +kernel)
set_option maxRecDepth 20000 in
theorem gX5_foreseePicture_X3_bestByLooking_n44 : GoodIn wsX5_foreseePicture (wsX3_bestByLooking) := ggX5_foreseePicture_X3_bestByLooking
set_option maxRecDepth 20000 in
theorem ggX5_foreseePicture_X5_foreseeBlock : GoodIn wsX5_foreseePicture wsX5_foreseeBlock := goodIn_r _ [46, 47, 48, 49, 30, 26, 31, 25, 27, 28, 29, 37, 33, 38, 39, 36, 50, 51, 52, 32, 34, 35, 68, 69, 70, 71, 72, 73, 74, 75, 76, 77, 78, 79, 80, 81, 82, 83, 84] (by decide +kernel) (by decide +kernel)
set_option maxRecDepth 20000 in
theorem gX5_foreseePicture_X5_foreseeBlock : GoodIn wsX5_foreseePicture (wsV RX5 50 RX5 yX5_foreseeBlock wsX5_foreseeBlock) := goodIn_app (goodIn_of _ (by decide +kernel)) ggX5_foreseePicture_X5_foreseeBlock
set_option maxRecDepth 20000 in
theorem ggX5_foreseePicture_X5_weighPicture : GoodIn wsX5_foreseePicture wsX5_weighPicture := goodIn_r _ [56, 14, 1, 57, 58, 59, 11, 60, 47, 13, 30, 26, 31, 61, 62, 63, 64, 49, 65, 66, 67, 68, 69, 70, 71, 72, 73] (by decide +kernel) (by decide +kernel)
set_option maxRecDepth 20000 in
theorem gX5_foreseePicture_X5_weighPicture : GoodIn wsX5_foreseePicture (wsV RX5 54 RX5 yX5_weighPicture wsX5_weighPicture) := goodIn_app (goodIn_of _ (by decide +kernel)) ggX5_foreseePicture_X5_weighPicture
theorem dX5_foreseePicture_0 : decode cX5_foreseePicture 0 = .ok (.aload_n 1, 1) := by decide +kernel
theorem dX5_foreseePicture_1 : decode cX5_foreseePicture 1 = .ok (.invokevirtual 35, 3) := by decide +kernel
theorem dX5_foreseePicture_4 : decode cX5_foreseePicture 4 = .ok (.ifCond .eq 8, 3) := by decide +kernel
theorem dX5_foreseePicture_7 : decode cX5_foreseePicture 7 = .ok (.aload_n 0, 1) := by decide +kernel
theorem dX5_foreseePicture_8 : decode cX5_foreseePicture 8 = .ok (.invokevirtual 41, 3) := by decide +kernel
theorem dX5_foreseePicture_11 : decode cX5_foreseePicture 11 = .ok (.return_, 1) := by decide +kernel
theorem dX5_foreseePicture_12 : decode cX5_foreseePicture 12 = .ok (.iconst 0, 1) := by decide +kernel
theorem dX5_foreseePicture_13 : decode cX5_foreseePicture 13 = .ok (.istore_n 2, 1) := by decide +kernel
theorem dX5_foreseePicture_14 : decode cX5_foreseePicture 14 = .ok (.iload_n 2, 1) := by decide +kernel
theorem dX5_foreseePicture_15 : decode cX5_foreseePicture 15 = .ok (.iconst 4, 1) := by decide +kernel
theorem dX5_foreseePicture_16 : decode cX5_foreseePicture 16 = .ok (.if_icmp .ge 20, 3) := by decide +kernel
theorem dX5_foreseePicture_19 : decode cX5_foreseePicture 19 = .ok (.aload_n 0, 1) := by decide +kernel
theorem dX5_foreseePicture_20 : decode cX5_foreseePicture 20 = .ok (.aload_n 1, 1) := by decide +kernel
theorem dX5_foreseePicture_21 : decode cX5_foreseePicture 21 = .ok (.iload_n 2, 1) := by decide +kernel
theorem dX5_foreseePicture_22 : decode cX5_foreseePicture 22 = .ok (.aload_n 1, 1) := by decide +kernel
theorem dX5_foreseePicture_23 : decode cX5_foreseePicture 23 = .ok (.iload_n 2, 1) := by decide +kernel
theorem dX5_foreseePicture_24 : decode cX5_foreseePicture 24 = .ok (.invokestatic 44, 3) := by decide +kernel
theorem dX5_foreseePicture_27 : decode cX5_foreseePicture 27 = .ok (.invokevirtual 50, 3) := by decide +kernel
theorem dX5_foreseePicture_30 : decode cX5_foreseePicture 30 = .ok (.iinc 2 1, 3) := by decide +kernel
theorem dX5_foreseePicture_33 : decode cX5_foreseePicture 33 = .ok (.goto (-19), 3) := by decide +kernel
theorem dX5_foreseePicture_36 : decode cX5_foreseePicture 36 = .ok (.aload_n 0, 1) := by decide +kernel
theorem dX5_foreseePicture_37 : decode cX5_foreseePicture 37 = .ok (.iconst 1, 1) := by decide +kernel
theorem dX5_foreseePicture_38 : decode cX5_foreseePicture 38 = .ok (.invokevirtual 54, 3) := by decide +kernel
theorem dX5_foreseePicture_41 : decode cX5_foreseePicture 41 = .ok (.iconst 2, 1) := by decide +kernel
theorem dX5_foreseePicture_42 : decode cX5_foreseePicture 42 = .ok (.istore_n 2, 1) := by decide +kernel
theorem dX5_foreseePicture_43 : decode cX5_foreseePicture 43 = .ok (.iload_n 2, 1) := by decide +kernel
theorem dX5_foreseePicture_44 : decode cX5_foreseePicture 44 = .ok (.bipush 8, 2) := by decide +kernel
theorem dX5_foreseePicture_46 : decode cX5_foreseePicture 46 = .ok (.if_icmp .gt 25, 3) := by decide +kernel
theorem dX5_foreseePicture_49 : decode cX5_foreseePicture 49 = .ok (.aload_n 0, 1) := by decide +kernel
theorem dX5_foreseePicture_50 : decode cX5_foreseePicture 50 = .ok (.getfield 32, 3) := by decide +kernel
theorem dX5_foreseePicture_53 : decode cX5_foreseePicture 53 = .ok (.aload_n 1, 1) := by decide +kernel
theorem dX5_foreseePicture_54 : decode cX5_foreseePicture 54 = .ok (.getfield 58, 3) := by decide +kernel
theorem dX5_foreseePicture_57 : decode cX5_foreseePicture 57 = .ok (.if_icmp .le 14, 3) := by decide +kernel
theorem dX5_foreseePicture_60 : decode cX5_foreseePicture 60 = .ok (.aload_n 0, 1) := by decide +kernel
theorem dX5_foreseePicture_61 : decode cX5_foreseePicture 61 = .ok (.iload_n 2, 1) := by decide +kernel
theorem dX5_foreseePicture_62 : decode cX5_foreseePicture 62 = .ok (.invokevirtual 54, 3) := by decide +kernel
theorem dX5_foreseePicture_65 : decode cX5_foreseePicture 65 = .ok (.iinc 2 1, 3) := by decide +kernel
theorem dX5_foreseePicture_68 : decode cX5_foreseePicture 68 = .ok (.goto (-25), 3) := by decide +kernel
theorem dX5_foreseePicture_71 : decode cX5_foreseePicture 71 = .ok (.return_, 1) := by decide +kernel
theorem dX5_foreseeKey_0 : decode cX5_foreseeKey 0 = .ok (.iconst 0, 1) := by decide +kernel
theorem dX5_foreseeKey_1 : decode cX5_foreseeKey 1 = .ok (.istore_n 1, 1) := by decide +kernel
theorem dX5_foreseeKey_2 : decode cX5_foreseeKey 2 = .ok (.iload_n 1, 1) := by decide +kernel
theorem dX5_foreseeKey_3 : decode cX5_foreseeKey 3 = .ok (.iconst 4, 1) := by decide +kernel
theorem dX5_foreseeKey_4 : decode cX5_foreseeKey 4 = .ok (.if_icmp .ge 16, 3) := by decide +kernel
theorem dX5_foreseeKey_7 : decode cX5_foreseeKey 7 = .ok (.aload_n 0, 1) := by decide +kernel
theorem dX5_foreseeKey_8 : decode cX5_foreseeKey 8 = .ok (.getfield 15, 3) := by decide +kernel
theorem dX5_foreseeKey_11 : decode cX5_foreseeKey 11 = .ok (.iload_n 1, 1) := by decide +kernel
theorem dX5_foreseeKey_12 : decode cX5_foreseeKey 12 = .ok (.iconst 0, 1) := by decide +kernel
theorem dX5_foreseeKey_13 : decode cX5_foreseeKey 13 = .ok (.iastore, 1) := by decide +kernel
theorem dX5_foreseeKey_14 : decode cX5_foreseeKey 14 = .ok (.iinc 1 1, 3) := by decide +kernel
theorem dX5_foreseeKey_17 : decode cX5_foreseeKey 17 = .ok (.goto (-15), 3) := by decide +kernel
theorem dX5_foreseeKey_20 : decode cX5_foreseeKey 20 = .ok (.aload_n 0, 1) := by decide +kernel
theorem dX5_foreseeKey_21 : decode cX5_foreseeKey 21 = .ok (.iconst (-1), 1) := by decide +kernel
theorem dX5_foreseeKey_22 : decode cX5_foreseeKey 22 = .ok (.putfield 28, 3) := by decide +kernel
theorem dX5_foreseeKey_25 : decode cX5_foreseeKey 25 = .ok (.aload_n 0, 1) := by decide +kernel
theorem dX5_foreseeKey_26 : decode cX5_foreseeKey 26 = .ok (.sipush 264, 3) := by decide +kernel
theorem dX5_foreseeKey_29 : decode cX5_foreseeKey 29 = .ok (.putfield 32, 3) := by decide +kernel
theorem dX5_foreseeKey_32 : decode cX5_foreseeKey 32 = .ok (.return_, 1) := by decide +kernel
set_option maxRecDepth 20000 in
theorem ggX5_foreseeBlock_X8_pixelIn : GoodIn wsX5_foreseeBlock wsX8_pixelIn := goodIn_r _ [6] (by decide +kernel) (by decide +kernel)
set_option maxRecDepth 20000 in
theorem gX5_foreseeBlock_X8_pixelIn_n61 : GoodIn wsX5_foreseeBlock (wsX8_pixelIn) := ggX5_foreseeBlock_X8_pixelIn
set_option maxRecDepth 20000 in
theorem ggX5_foreseeBlock_X8_downOf : GoodIn wsX5_foreseeBlock wsX8_downOf := goodIn_r _ [8] (by decide +kernel) (by decide +kernel)
set_option maxRecDepth 20000 in
theorem gX5_foreseeBlock_X8_downOf_n68 : GoodIn wsX5_foreseeBlock (wsX8_downOf) := ggX5_foreseeBlock_X8_downOf
set_option maxRecDepth 20000 in
theorem ggX5_foreseeBlock_X8_rightOf : GoodIn wsX5_foreseeBlock wsX8_rightOf := goodIn_r _ [10] (by decide +kernel) (by decide +kernel)
set_option maxRecDepth 20000 in
theorem gX5_foreseeBlock_X8_rightOf_n72 : GoodIn wsX5_foreseeBlock (wsX8_rightOf) := ggX5_foreseeBlock_X8_rightOf
set_option maxRecDepth 20000 in
theorem ggX5_foreseeBlock_X4_movedValueAt : GoodIn wsX5_foreseeBlock wsX4_movedValueAt := goodIn_r _ [14, 15, 38] (by decide +kernel) (by decide +kernel)
set_option maxRecDepth 20000 in
theorem gX5_foreseeBlock_X4_movedValueAt_n75 : GoodIn wsX5_foreseeBlock (wsX4_movedValueAt) := ggX5_foreseeBlock_X4_movedValueAt
set_option maxRecDepth 20000 in
theorem ggX5_foreseeBlock_X4_put : GoodIn wsX5_foreseeBlock wsX4_put := goodIn_r _ [18, 15, 38] (by decide +kernel) (by decide +kernel)
set_option maxRecDepth 20000 in
theorem gX5_foreseeBlock_X4_put_n79 : GoodIn wsX5_foreseeBlock (wsX4_put) := ggX5_foreseeBlock_X4_put
set_option maxRecDepth 20000 in
theorem ggX5_foreseeBlock_X4_valueAt : GoodIn wsX5_foreseeBlock wsX4_valueAt := goodIn_r _ [21, 15, 38] (by decide +kernel) (by decide +kernel)
set_option maxRecDepth 20000 in
theorem gX5_foreseeBlock_X4_valueAt_n85 : GoodIn wsX5_foreseeBlock (wsX4_valueAt) := ggX5_foreseeBlock_X4_valueAt
theorem dX5_foreseeBlock_0 : decode cX5_foreseeBlock 0 = .ok (.iload_n 2, 1) := by decide +kernel
theorem dX5_foreseeBlock_1 : decode cX5_foreseeBlock 1 = .ok (.ifCond .lt 8, 3) := by decide +kernel
theorem dX5_foreseeBlock_4 : decode cX5_foreseeBlock 4 = .ok (.iload_n 2, 1) := by decide +kernel
theorem dX5_foreseeBlock_5 : decode cX5_foreseeBlock 5 = .ok (.iconst 4, 1) := by decide +kernel
theorem dX5_foreseeBlock_6 : decode cX5_foreseeBlock 6 = .ok (.if_icmp .lt 4, 3) := by decide +kernel
theorem dX5_foreseeBlock_9 : decode cX5_foreseeBlock 9 = .ok (.return_, 1) := by decide +kernel
theorem dX5_foreseeBlock_10 : decode cX5_foreseeBlock 10 = .ok (.aload_n 0, 1) := by decide +kernel
theorem dX5_foreseeBlock_11 : decode cX5_foreseeBlock 11 = .ok (.getfield 9, 3) := by decide +kernel
theorem dX5_foreseeBlock_14 : decode cX5_foreseeBlock 14 = .ok (.iload_n 2, 1) := by decide +kernel
theorem dX5_foreseeBlock_15 : decode cX5_foreseeBlock 15 = .ok (.iload_n 3, 1) := by decide +kernel
theorem dX5_foreseeBlock_16 : decode cX5_foreseeBlock 16 = .ok (.iastore, 1) := by decide +kernel
theorem dX5_foreseeBlock_17 : decode cX5_foreseeBlock 17 = .ok (.iconst 0, 1) := by decide +kernel
theorem dX5_foreseeBlock_18 : decode cX5_foreseeBlock 18 = .ok (.istore 4, 2) := by decide +kernel
theorem dX5_foreseeBlock_20 : decode cX5_foreseeBlock 20 = .ok (.iload 4, 2) := by decide +kernel
theorem dX5_foreseeBlock_22 : decode cX5_foreseeBlock 22 = .ok (.bipush 16, 2) := by decide +kernel
theorem dX5_foreseeBlock_24 : decode cX5_foreseeBlock 24 = .ok (.if_icmp .ge 67, 3) := by decide +kernel
theorem dX5_foreseeBlock_27 : decode cX5_foreseeBlock 27 = .ok (.iload_n 2, 1) := by decide +kernel
theorem dX5_foreseeBlock_28 : decode cX5_foreseeBlock 28 = .ok (.iload 4, 2) := by decide +kernel
theorem dX5_foreseeBlock_30 : decode cX5_foreseeBlock 30 = .ok (.invokestatic 61, 3) := by decide +kernel
theorem dX5_foreseeBlock_33 : decode cX5_foreseeBlock 33 = .ok (.istore 5, 2) := by decide +kernel
theorem dX5_foreseeBlock_35 : decode cX5_foreseeBlock 35 = .ok (.aload_n 1, 1) := by decide +kernel
theorem dX5_foreseeBlock_36 : decode cX5_foreseeBlock 36 = .ok (.getfield 65, 3) := by decide +kernel
theorem dX5_foreseeBlock_39 : decode cX5_foreseeBlock 39 = .ok (.iload 5, 2) := by decide +kernel
theorem dX5_foreseeBlock_41 : decode cX5_foreseeBlock 41 = .ok (.iload_n 3, 1) := by decide +kernel
theorem dX5_foreseeBlock_42 : decode cX5_foreseeBlock 42 = .ok (.invokestatic 68, 3) := by decide +kernel
theorem dX5_foreseeBlock_45 : decode cX5_foreseeBlock 45 = .ok (.iload_n 3, 1) := by decide +kernel
theorem dX5_foreseeBlock_46 : decode cX5_foreseeBlock 46 = .ok (.invokestatic 72, 3) := by decide +kernel
theorem dX5_foreseeBlock_49 : decode cX5_foreseeBlock 49 = .ok (.invokevirtual 75, 3) := by decide +kernel
theorem dX5_foreseeBlock_52 : decode cX5_foreseeBlock 52 = .ok (.istore 6, 2) := by decide +kernel
theorem dX5_foreseeBlock_54 : decode cX5_foreseeBlock 54 = .ok (.aload_n 0, 1) := by decide +kernel
theorem dX5_foreseeBlock_55 : decode cX5_foreseeBlock 55 = .ok (.getfield 21, 3) := by decide +kernel
theorem dX5_foreseeBlock_58 : decode cX5_foreseeBlock 58 = .ok (.iload 5, 2) := by decide +kernel
theorem dX5_foreseeBlock_60 : decode cX5_foreseeBlock 60 = .ok (.iload 6, 2) := by decide +kernel
theorem dX5_foreseeBlock_62 : decode cX5_foreseeBlock 62 = .ok (.invokevirtual 79, 3) := by decide +kernel
theorem dX5_foreseeBlock_65 : decode cX5_foreseeBlock 65 = .ok (.pop, 1) := by decide +kernel
theorem dX5_foreseeBlock_66 : decode cX5_foreseeBlock 66 = .ok (.aload_n 0, 1) := by decide +kernel
theorem dX5_foreseeBlock_67 : decode cX5_foreseeBlock 67 = .ok (.getfield 25, 3) := by decide +kernel
theorem dX5_foreseeBlock_70 : decode cX5_foreseeBlock 70 = .ok (.iload 5, 2) := by decide +kernel
theorem dX5_foreseeBlock_72 : decode cX5_foreseeBlock 72 = .ok (.aload_n 1, 1) := by decide +kernel
theorem dX5_foreseeBlock_73 : decode cX5_foreseeBlock 73 = .ok (.getfield 82, 3) := by decide +kernel
theorem dX5_foreseeBlock_76 : decode cX5_foreseeBlock 76 = .ok (.iload 5, 2) := by decide +kernel
theorem dX5_foreseeBlock_78 : decode cX5_foreseeBlock 78 = .ok (.invokevirtual 85, 3) := by decide +kernel
theorem dX5_foreseeBlock_81 : decode cX5_foreseeBlock 81 = .ok (.iload 6, 2) := by decide +kernel
theorem dX5_foreseeBlock_83 : decode cX5_foreseeBlock 83 = .ok (.isub, 1) := by decide +kernel
theorem dX5_foreseeBlock_84 : decode cX5_foreseeBlock 84 = .ok (.iastore, 1) := by decide +kernel
theorem dX5_foreseeBlock_85 : decode cX5_foreseeBlock 85 = .ok (.iinc 4 1, 3) := by decide +kernel
theorem dX5_foreseeBlock_88 : decode cX5_foreseeBlock 88 = .ok (.goto (-68), 3) := by decide +kernel
theorem dX5_foreseeBlock_91 : decode cX5_foreseeBlock 91 = .ok (.return_, 1) := by decide +kernel
set_option maxRecDepth 20000 in
theorem ggX5_weighPicture_X5_weighBlock : GoodIn wsX5_weighPicture wsX5_weighBlock := goodIn_r _ [7, 8, 9, 10, 11, 12, 13, 14, 15, 6, 16, 17, 18, 19, 20, 21, 22, 23, 24, 25, 26] (by decide +kernel) (by decide +kernel)
set_option maxRecDepth 20000 in
theorem gX5_weighPicture_X5_weighBlock : GoodIn wsX5_weighPicture (wsV RX5 88 RX5 yX5_weighBlock wsX5_weighBlock) := goodIn_app (goodIn_of _ (by decide +kernel)) ggX5_weighPicture_X5_weighBlock
theorem dX5_weighPicture_0 : decode cX5_weighPicture 0 = .ok (.aload_n 0, 1) := by decide +kernel
theorem dX5_weighPicture_1 : decode cX5_weighPicture 1 = .ok (.iload_n 1, 1) := by decide +kernel
theorem dX5_weighPicture_2 : decode cX5_weighPicture 2 = .ok (.putfield 28, 3) := by decide +kernel
theorem dX5_weighPicture_5 : decode cX5_weighPicture 5 = .ok (.aload_n 0, 1) := by decide +kernel
theorem dX5_weighPicture_6 : decode cX5_weighPicture 6 = .ok (.iconst 0, 1) := by decide +kernel
theorem dX5_weighPicture_7 : decode cX5_weighPicture 7 = .ok (.putfield 32, 3) := by decide +kernel
theorem dX5_weighPicture_10 : decode cX5_weighPicture 10 = .ok (.iconst 0, 1) := by decide +kernel
theorem dX5_weighPicture_11 : decode cX5_weighPicture 11 = .ok (.istore_n 2, 1) := by decide +kernel
theorem dX5_weighPicture_12 : decode cX5_weighPicture 12 = .ok (.iload_n 2, 1) := by decide +kernel
theorem dX5_weighPicture_13 : decode cX5_weighPicture 13 = .ok (.iconst 4, 1) := by decide +kernel
theorem dX5_weighPicture_14 : decode cX5_weighPicture 14 = .ok (.if_icmp .ge 24, 3) := by decide +kernel
theorem dX5_weighPicture_17 : decode cX5_weighPicture 17 = .ok (.aload_n 0, 1) := by decide +kernel
theorem dX5_weighPicture_18 : decode cX5_weighPicture 18 = .ok (.dup, 1) := by decide +kernel
theorem dX5_weighPicture_19 : decode cX5_weighPicture 19 = .ok (.getfield 32, 3) := by decide +kernel
theorem dX5_weighPicture_22 : decode cX5_weighPicture 22 = .ok (.aload_n 0, 1) := by decide +kernel
theorem dX5_weighPicture_23 : decode cX5_weighPicture 23 = .ok (.iload_n 2, 1) := by decide +kernel
theorem dX5_weighPicture_24 : decode cX5_weighPicture 24 = .ok (.iload_n 1, 1) := by decide +kernel
theorem dX5_weighPicture_25 : decode cX5_weighPicture 25 = .ok (.invokevirtual 88, 3) := by decide +kernel
theorem dX5_weighPicture_28 : decode cX5_weighPicture 28 = .ok (.iadd, 1) := by decide +kernel
theorem dX5_weighPicture_29 : decode cX5_weighPicture 29 = .ok (.putfield 32, 3) := by decide +kernel
theorem dX5_weighPicture_32 : decode cX5_weighPicture 32 = .ok (.iinc 2 1, 3) := by decide +kernel
theorem dX5_weighPicture_35 : decode cX5_weighPicture 35 = .ok (.goto (-23), 3) := by decide +kernel
theorem dX5_weighPicture_38 : decode cX5_weighPicture 38 = .ok (.return_, 1) := by decide +kernel
set_option maxRecDepth 20000 in
theorem ggX5_weighBlock_X8_pixelIn : GoodIn wsX5_weighBlock wsX8_pixelIn := goodIn_r _ [5] (by decide +kernel) (by decide +kernel)
set_option maxRecDepth 20000 in
theorem gX5_weighBlock_X8_pixelIn_n61 : GoodIn wsX5_weighBlock (wsX8_pixelIn) := ggX5_weighBlock_X8_pixelIn
set_option maxRecDepth 20000 in
theorem ggX5_weighBlock_X5_levelAt : GoodIn wsX5_weighBlock wsX5_levelAt := goodIn_r _ [10, 11, 15, 16, 17, 18, 19, 20] (by decide +kernel) (by decide +kernel)
set_option maxRecDepth 20000 in
theorem gX5_weighBlock_X5_levelAt : GoodIn wsX5_weighBlock (wsV RX5 91 RX5 yX5_levelAt wsX5_levelAt) := goodIn_app (goodIn_of _ (by decide +kernel)) ggX5_weighBlock_X5_levelAt
set_option maxRecDepth 20000 in
theorem ggX5_weighBlock_X5_bitsOfLevel : GoodIn wsX5_weighBlock wsX5_bitsOfLevel := goodIn_r _ [14] (by decide +kernel) (by decide +kernel)
set_option maxRecDepth 20000 in
theorem gX5_weighBlock_X5_bitsOfLevel : GoodIn wsX5_weighBlock (va_wsS RX5 94 yX5_bitsOfLevel wsX5_bitsOfLevel) := goodIn_app (goodIn_of _ (by decide +kernel)) ggX5_weighBlock_X5_bitsOfLevel
theorem dX5_weighBlock_0 : decode cX5_weighBlock 0 = .ok (.iload_n 1, 1) := by decide +kernel
theorem dX5_weighBlock_1 : decode cX5_weighBlock 1 = .ok (.ifCond .lt 8, 3) := by decide +kernel
theorem dX5_weighBlock_4 : decode cX5_weighBlock 4 = .ok (.iload_n 1, 1) := by decide +kernel
theorem dX5_weighBlock_5 : decode cX5_weighBlock 5 = .ok (.iconst 4, 1) := by decide +kernel
theorem dX5_weighBlock_6 : decode cX5_weighBlock 6 = .ok (.if_icmp .lt 5, 3) := by decide +kernel
theorem dX5_weighBlock_9 : decode cX5_weighBlock 9 = .ok (.iconst 0, 1) := by decide +kernel
theorem dX5_weighBlock_10 : decode cX5_weighBlock 10 = .ok (.ireturn, 1) := by decide +kernel
theorem dX5_weighBlock_11 : decode cX5_weighBlock 11 = .ok (.iconst 0, 1) := by decide +kernel
theorem dX5_weighBlock_12 : decode cX5_weighBlock 12 = .ok (.istore_n 3, 1) := by decide +kernel
theorem dX5_weighBlock_13 : decode cX5_weighBlock 13 = .ok (.iconst 0, 1) := by decide +kernel
theorem dX5_weighBlock_14 : decode cX5_weighBlock 14 = .ok (.istore 4, 2) := by decide +kernel
theorem dX5_weighBlock_16 : decode cX5_weighBlock 16 = .ok (.iload 4, 2) := by decide +kernel
theorem dX5_weighBlock_18 : decode cX5_weighBlock 18 = .ok (.bipush 16, 2) := by decide +kernel
theorem dX5_weighBlock_20 : decode cX5_weighBlock 20 = .ok (.if_icmp .ge 26, 3) := by decide +kernel
theorem dX5_weighBlock_23 : decode cX5_weighBlock 23 = .ok (.iload_n 3, 1) := by decide +kernel
theorem dX5_weighBlock_24 : decode cX5_weighBlock 24 = .ok (.aload_n 0, 1) := by decide +kernel
theorem dX5_weighBlock_25 : decode cX5_weighBlock 25 = .ok (.iload_n 1, 1) := by decide +kernel
theorem dX5_weighBlock_26 : decode cX5_weighBlock 26 = .ok (.iload 4, 2) := by decide +kernel
theorem dX5_weighBlock_28 : decode cX5_weighBlock 28 = .ok (.invokestatic 61, 3) := by decide +kernel
theorem dX5_weighBlock_31 : decode cX5_weighBlock 31 = .ok (.iload_n 2, 1) := by decide +kernel
theorem dX5_weighBlock_32 : decode cX5_weighBlock 32 = .ok (.invokevirtual 91, 3) := by decide +kernel
theorem dX5_weighBlock_35 : decode cX5_weighBlock 35 = .ok (.invokestatic 94, 3) := by decide +kernel
theorem dX5_weighBlock_38 : decode cX5_weighBlock 38 = .ok (.iadd, 1) := by decide +kernel
theorem dX5_weighBlock_39 : decode cX5_weighBlock 39 = .ok (.istore_n 3, 1) := by decide +kernel
theorem dX5_weighBlock_40 : decode cX5_weighBlock 40 = .ok (.iinc 4 1, 3) := by decide +kernel
theorem dX5_weighBlock_43 : decode cX5_weighBlock 43 = .ok (.goto (-27), 3) := by decide +kernel
theorem dX5_weighBlock_46 : decode cX5_weighBlock 46 = .ok (.aload_n 0, 1) := by decide +kernel
theorem dX5_weighBlock_47 : decode cX5_weighBlock 47 = .ok (.getfield 9, 3) := by decide +kernel
theorem dX5_weighBlock_50 : decode cX5_weighBlock 50 = .ok (.iload_n 1, 1) := by decide +kernel
theorem dX5_weighBlock_51 : decode cX5_weighBlock 51 = .ok (.iaload, 1) := by decide +kernel
theorem dX5_weighBlock_52 : decode cX5_weighBlock 52 = .ok (.bipush 12, 2) := by decide +kernel
theorem dX5_weighBlock_54 : decode cX5_weighBlock 54 = .ok (.if_icmp .ne 18, 3) := by decide +kernel
theorem dX5_weighBlock_57 : decode cX5_weighBlock 57 = .ok (.iload_n 3, 1) := by decide +kernel
theorem dX5_weighBlock_58 : decode cX5_weighBlock 58 = .ok (.bipush 16, 2) := by decide +kernel
theorem dX5_weighBlock_60 : decode cX5_weighBlock 60 = .ok (.if_icmp .ne 12, 3) := by decide +kernel
theorem dX5_weighBlock_63 : decode cX5_weighBlock 63 = .ok (.aload_n 0, 1) := by decide +kernel
theorem dX5_weighBlock_64 : decode cX5_weighBlock 64 = .ok (.getfield 15, 3) := by decide +kernel
theorem dX5_weighBlock_67 : decode cX5_weighBlock 67 = .ok (.iload_n 1, 1) := by decide +kernel
theorem dX5_weighBlock_68 : decode cX5_weighBlock 68 = .ok (.iconst 1, 1) := by decide +kernel
theorem dX5_weighBlock_69 : decode cX5_weighBlock 69 = .ok (.iastore, 1) := by decide +kernel
theorem dX5_weighBlock_70 : decode cX5_weighBlock 70 = .ok (.iconst 1, 1) := by decide +kernel
theorem dX5_weighBlock_71 : decode cX5_weighBlock 71 = .ok (.ireturn, 1) := by decide +kernel
theorem dX5_weighBlock_72 : decode cX5_weighBlock 72 = .ok (.bipush 6, 2) := by decide +kernel
theorem dX5_weighBlock_74 : decode cX5_weighBlock 74 = .ok (.iload_n 3, 1) := by decide +kernel
theorem dX5_weighBlock_75 : decode cX5_weighBlock 75 = .ok (.iadd, 1) := by decide +kernel
theorem dX5_weighBlock_76 : decode cX5_weighBlock 76 = .ok (.bipush 66, 2) := by decide +kernel
theorem dX5_weighBlock_78 : decode cX5_weighBlock 78 = .ok (.if_icmp .gt 15, 3) := by decide +kernel
theorem dX5_weighBlock_81 : decode cX5_weighBlock 81 = .ok (.aload_n 0, 1) := by decide +kernel
theorem dX5_weighBlock_82 : decode cX5_weighBlock 82 = .ok (.getfield 15, 3) := by decide +kernel
theorem dX5_weighBlock_85 : decode cX5_weighBlock 85 = .ok (.iload_n 1, 1) := by decide +kernel
theorem dX5_weighBlock_86 : decode cX5_weighBlock 86 = .ok (.iconst 2, 1) := by decide +kernel
theorem dX5_weighBlock_87 : decode cX5_weighBlock 87 = .ok (.iastore, 1) := by decide +kernel
theorem dX5_weighBlock_88 : decode cX5_weighBlock 88 = .ok (.bipush 6, 2) := by decide +kernel
theorem dX5_weighBlock_90 : decode cX5_weighBlock 90 = .ok (.iload_n 3, 1) := by decide +kernel
theorem dX5_weighBlock_91 : decode cX5_weighBlock 91 = .ok (.iadd, 1) := by decide +kernel
theorem dX5_weighBlock_92 : decode cX5_weighBlock 92 = .ok (.ireturn, 1) := by decide +kernel
theorem dX5_weighBlock_93 : decode cX5_weighBlock 93 = .ok (.aload_n 0, 1) := by decide +kernel
theorem dX5_weighBlock_94 : decode cX5_weighBlock 94 = .ok (.getfield 15, 3) := by decide +kernel
theorem dX5_weighBlock_97 : decode cX5_weighBlock 97 = .ok (.iload_n 1, 1) := by decide +kernel
theorem dX5_weighBlock_98 : decode cX5_weighBlock 98 = .ok (.iconst 0, 1) := by decide +kernel
theorem dX5_weighBlock_99 : decode cX5_weighBlock 99 = .ok (.iastore, 1) := by decide +kernel
theorem dX5_weighBlock_100 : decode cX5_weighBlock 100 = .ok (.bipush 66, 2) := by decide +kernel
theorem dX5_weighBlock_102 : decode cX5_weighBlock 102 = .ok (.ireturn, 1) := by decide +kernel
theorem dX5_bitsOfLevel_0 : decode cX5_bitsOfLevel 0 = .ok (.iload_n 0, 1) := by decide +kernel
theorem dX5_bitsOfLevel_1 : decode cX5_bitsOfLevel 1 = .ok (.ifCond .ne 7, 3) := by decide +kernel
theorem dX5_bitsOfLevel_4 : decode cX5_bitsOfLevel 4 = .ok (.iconst 1, 1) := by decide +kernel
theorem dX5_bitsOfLevel_5 : decode cX5_bitsOfLevel 5 = .ok (.goto 4, 3) := by decide +kernel
theorem dX5_bitsOfLevel_8 : decode cX5_bitsOfLevel 8 = .ok (.iconst 2, 1) := by decide +kernel
theorem dX5_bitsOfLevel_9 : decode cX5_bitsOfLevel 9 = .ok (.istore_n 1, 1) := by decide +kernel
theorem dX5_bitsOfLevel_10 : decode cX5_bitsOfLevel 10 = .ok (.iload_n 0, 1) := by decide +kernel
theorem dX5_bitsOfLevel_11 : decode cX5_bitsOfLevel 11 = .ok (.ifCond .ge 9, 3) := by decide +kernel
theorem dX5_bitsOfLevel_14 : decode cX5_bitsOfLevel 14 = .ok (.iconst 1, 1) := by decide +kernel
theorem dX5_bitsOfLevel_15 : decode cX5_bitsOfLevel 15 = .ok (.iload_n 0, 1) := by decide +kernel
theorem dX5_bitsOfLevel_16 : decode cX5_bitsOfLevel 16 = .ok (.isub, 1) := by decide +kernel
theorem dX5_bitsOfLevel_17 : decode cX5_bitsOfLevel 17 = .ok (.goto 6, 3) := by decide +kernel
theorem dX5_bitsOfLevel_20 : decode cX5_bitsOfLevel 20 = .ok (.iconst 1, 1) := by decide +kernel
theorem dX5_bitsOfLevel_21 : decode cX5_bitsOfLevel 21 = .ok (.iload_n 0, 1) := by decide +kernel
theorem dX5_bitsOfLevel_22 : decode cX5_bitsOfLevel 22 = .ok (.iadd, 1) := by decide +kernel
theorem dX5_bitsOfLevel_23 : decode cX5_bitsOfLevel 23 = .ok (.istore_n 2, 1) := by decide +kernel
theorem dX5_bitsOfLevel_24 : decode cX5_bitsOfLevel 24 = .ok (.iload_n 2, 1) := by decide +kernel
theorem dX5_bitsOfLevel_25 : decode cX5_bitsOfLevel 25 = .ok (.iconst 1, 1) := by decide +kernel
theorem dX5_bitsOfLevel_26 : decode cX5_bitsOfLevel 26 = .ok (.if_icmp .le 13, 3) := by decide +kernel
theorem dX5_bitsOfLevel_29 : decode cX5_bitsOfLevel 29 = .ok (.iinc 1 2, 3) := by decide +kernel
theorem dX5_bitsOfLevel_32 : decode cX5_bitsOfLevel 32 = .ok (.iload_n 2, 1) := by decide +kernel
theorem dX5_bitsOfLevel_33 : decode cX5_bitsOfLevel 33 = .ok (.iconst 2, 1) := by decide +kernel
theorem dX5_bitsOfLevel_34 : decode cX5_bitsOfLevel 34 = .ok (.idiv, 1) := by decide +kernel
theorem dX5_bitsOfLevel_35 : decode cX5_bitsOfLevel 35 = .ok (.istore_n 2, 1) := by decide +kernel
theorem dX5_bitsOfLevel_36 : decode cX5_bitsOfLevel 36 = .ok (.goto (-12), 3) := by decide +kernel
theorem dX5_bitsOfLevel_39 : decode cX5_bitsOfLevel 39 = .ok (.iload_n 1, 1) := by decide +kernel
theorem dX5_bitsOfLevel_40 : decode cX5_bitsOfLevel 40 = .ok (.ireturn, 1) := by decide +kernel
theorem dX5_levelAt_0 : decode cX5_levelAt 0 = .ok (.iload_n 1, 1) := by decide +kernel
theorem dX5_levelAt_1 : decode cX5_levelAt 1 = .ok (.ifCond .lt 14, 3) := by decide +kernel
theorem dX5_levelAt_4 : decode cX5_levelAt 4 = .ok (.iload_n 1, 1) := by decide +kernel
theorem dX5_levelAt_5 : decode cX5_levelAt 5 = .ok (.bipush 64, 2) := by decide +kernel
theorem dX5_levelAt_7 : decode cX5_levelAt 7 = .ok (.if_icmp .ge 8, 3) := by decide +kernel
theorem dX5_levelAt_10 : decode cX5_levelAt 10 = .ok (.iload_n 2, 1) := by decide +kernel
theorem dX5_levelAt_11 : decode cX5_levelAt 11 = .ok (.iconst 1, 1) := by decide +kernel
theorem dX5_levelAt_12 : decode cX5_levelAt 12 = .ok (.if_icmp .ge 7, 3) := by decide +kernel
theorem dX5_levelAt_15 : decode cX5_levelAt 15 = .ok (.iconst 0, 1) := by decide +kernel
theorem dX5_levelAt_16 : decode cX5_levelAt 16 = .ok (.goto 11, 3) := by decide +kernel
theorem dX5_levelAt_19 : decode cX5_levelAt 19 = .ok (.aload_n 0, 1) := by decide +kernel
theorem dX5_levelAt_20 : decode cX5_levelAt 20 = .ok (.getfield 25, 3) := by decide +kernel
theorem dX5_levelAt_23 : decode cX5_levelAt 23 = .ok (.iload_n 1, 1) := by decide +kernel
theorem dX5_levelAt_24 : decode cX5_levelAt 24 = .ok (.iaload, 1) := by decide +kernel
theorem dX5_levelAt_25 : decode cX5_levelAt 25 = .ok (.iload_n 2, 1) := by decide +kernel
theorem dX5_levelAt_26 : decode cX5_levelAt 26 = .ok (.idiv, 1) := by decide +kernel
theorem dX5_levelAt_27 : decode cX5_levelAt 27 = .ok (.ireturn, 1) := by decide +kernel
set_option maxRecDepth 20000 in
theorem ggX5_additionAt_X5_levelAt : GoodIn wsX5_additionAt wsX5_levelAt := goodIn_r _ [6, 7, 8, 9, 10, 11, 12, 13] (by decide +kernel) (by decide +kernel)
set_option maxRecDepth 20000 in
theorem gX5_additionAt_X5_levelAt : GoodIn wsX5_additionAt (wsV RX5 91 RX5 yX5_levelAt wsX5_levelAt) := goodIn_app (goodIn_of _ (by decide +kernel)) ggX5_additionAt_X5_levelAt
theorem dX5_additionAt_0 : decode cX5_additionAt 0 = .ok (.aload_n 0, 1) := by decide +kernel
theorem dX5_additionAt_1 : decode cX5_additionAt 1 = .ok (.getfield 28, 3) := by decide +kernel
theorem dX5_additionAt_4 : decode cX5_additionAt 4 = .ok (.aload_n 0, 1) := by decide +kernel
theorem dX5_additionAt_5 : decode cX5_additionAt 5 = .ok (.iload_n 1, 1) := by decide +kernel
theorem dX5_additionAt_6 : decode cX5_additionAt 6 = .ok (.aload_n 0, 1) := by decide +kernel
theorem dX5_additionAt_7 : decode cX5_additionAt 7 = .ok (.getfield 28, 3) := by decide +kernel
theorem dX5_additionAt_10 : decode cX5_additionAt 10 = .ok (.invokevirtual 91, 3) := by decide +kernel
theorem dX5_additionAt_13 : decode cX5_additionAt 13 = .ok (.imul, 1) := by decide +kernel
theorem dX5_additionAt_14 : decode cX5_additionAt 14 = .ok (.ireturn, 1) := by decide +kernel
set_option maxRecDepth 20000 in
theorem ggX6_init_X7_init : GoodIn wsX6_init wsX7_init := goodIn_r _ [10, 11, 2, 3, 12, 13, 14, 15, 16, 17, 18, 19, 20, 21, 22, 23, 24, 25, 26, 27, 28, 29, 42, 30, 31, 32, 33, 34, 35, 36, 37, 38, 39] (by decide +kernel) (by decide +kernel)
set_option maxRecDepth 20000 in
theorem gX6_init_X7_init_n9 : GoodIn wsX6_init (wsX7_init) := ggX6_init_X7_init
theorem dX6_init_0 : decode cX6_init 0 = .ok (.aload_n 0, 1) := by decide +kernel
theorem dX6_init_1 : decode cX6_init 1 = .ok (.invokespecial 1, 3) := by decide +kernel
theorem dX6_init_4 : decode cX6_init 4 = .ok (.aload_n 0, 1) := by decide +kernel
theorem dX6_init_5 : decode cX6_init 5 = .ok (.new 7, 3) := by decide +kernel
theorem dX6_init_8 : decode cX6_init 8 = .ok (.dup, 1) := by decide +kernel
theorem dX6_init_9 : decode cX6_init 9 = .ok (.invokespecial 9, 3) := by decide +kernel
theorem dX6_init_12 : decode cX6_init 12 = .ok (.putfield 10, 3) := by decide +kernel
theorem dX6_init_15 : decode cX6_init 15 = .ok (.aload_n 0, 1) := by decide +kernel
theorem dX6_init_16 : decode cX6_init 16 = .ok (.iconst 0, 1) := by decide +kernel
theorem dX6_init_17 : decode cX6_init 17 = .ok (.putfield 16, 3) := by decide +kernel
theorem dX6_init_20 : decode cX6_init 20 = .ok (.return_, 1) := by decide +kernel
set_option maxRecDepth 20000 in
theorem ggX7_init_X4_init : GoodIn wsX7_init wsX4_init := goodIn_r _ [19, 20, 2, 3, 10, 21, 22] (by decide +kernel) (by decide +kernel)
set_option maxRecDepth 20000 in
theorem gX7_init_X4_init_n11 : GoodIn wsX7_init (wsX4_init) := ggX7_init_X4_init
theorem dX7_init_0 : decode cX7_init 0 = .ok (.aload_n 0, 1) := by decide +kernel
theorem dX7_init_1 : decode cX7_init 1 = .ok (.invokespecial 3, 3) := by decide +kernel
theorem dX7_init_4 : decode cX7_init 4 = .ok (.aload_n 0, 1) := by decide +kernel
theorem dX7_init_5 : decode cX7_init 5 = .ok (.new 9, 3) := by decide +kernel
theorem dX7_init_8 : decode cX7_init 8 = .ok (.dup, 1) := by decide +kernel
theorem dX7_init_9 : decode cX7_init 9 = .ok (.invokespecial 11, 3) := by decide +kernel
theorem dX7_init_12 : decode cX7_init 12 = .ok (.putfield 12, 3) := by decide +kernel
theorem dX7_init_15 : decode cX7_init 15 = .ok (.aload_n 0, 1) := by decide +kernel
theorem dX7_init_16 : decode cX7_init 16 = .ok (.new 9, 3) := by decide +kernel
theorem dX7_init_19 : decode cX7_init 19 = .ok (.dup, 1) := by decide +kernel
theorem dX7_init_20 : decode cX7_init 20 = .ok (.invokespecial 11, 3) := by decide +kernel
theorem dX7_init_23 : decode cX7_init 23 = .ok (.putfield 18, 3) := by decide +kernel
theorem dX7_init_26 : decode cX7_init 26 = .ok (.aload_n 0, 1) := by decide +kernel
theorem dX7_init_27 : decode cX7_init 27 = .ok (.new 9, 3) := by decide +kernel
theorem dX7_init_30 : decode cX7_init 30 = .ok (.dup, 1) := by decide +kernel
theorem dX7_init_31 : decode cX7_init 31 = .ok (.invokespecial 11, 3) := by decide +kernel
theorem dX7_init_34 : decode cX7_init 34 = .ok (.putfield 21, 3) := by decide +kernel
theorem dX7_init_37 : decode cX7_init 37 = .ok (.aload_n 0, 1) := by decide +kernel
theorem dX7_init_38 : decode cX7_init 38 = .ok (.iconst 4, 1) := by decide +kernel
theorem dX7_init_39 : decode cX7_init 39 = .ok (.newarray .int, 2) := by decide +kernel
theorem dX7_init_41 : decode cX7_init 41 = .ok (.putfield 24, 3) := by decide +kernel
theorem dX7_init_44 : decode cX7_init 44 = .ok (.aload_n 0, 1) := by decide +kernel
theorem dX7_init_45 : decode cX7_init 45 = .ok (.iconst 4, 1) := by decide +kernel
theorem dX7_init_46 : decode cX7_init 46 = .ok (.newarray .int, 2) := by decide +kernel
theorem dX7_init_48 : decode cX7_init 48 = .ok (.putfield 28, 3) := by decide +kernel
theorem dX7_init_51 : decode cX7_init 51 = .ok (.aload_n 0, 1) := by decide +kernel
theorem dX7_init_52 : decode cX7_init 52 = .ok (.bipush 120, 2) := by decide +kernel
theorem dX7_init_54 : decode cX7_init 54 = .ok (.putfield 31, 3) := by decide +kernel
theorem dX7_init_57 : decode cX7_init 57 = .ok (.aload_n 0, 1) := by decide +kernel
theorem dX7_init_58 : decode cX7_init 58 = .ok (.bipush 8, 2) := by decide +kernel
theorem dX7_init_60 : decode cX7_init 60 = .ok (.putfield 35, 3) := by decide +kernel
theorem dX7_init_63 : decode cX7_init 63 = .ok (.aload_n 0, 1) := by decide +kernel
theorem dX7_init_64 : decode cX7_init 64 = .ok (.iconst 0, 1) := by decide +kernel
theorem dX7_init_65 : decode cX7_init 65 = .ok (.putfield 38, 3) := by decide +kernel
theorem dX7_init_68 : decode cX7_init 68 = .ok (.aload_n 0, 1) := by decide +kernel
theorem dX7_init_69 : decode cX7_init 69 = .ok (.iconst 0, 1) := by decide +kernel
theorem dX7_init_70 : decode cX7_init 70 = .ok (.putfield 41, 3) := by decide +kernel
theorem dX7_init_73 : decode cX7_init 73 = .ok (.aload_n 0, 1) := by decide +kernel
theorem dX7_init_74 : decode cX7_init 74 = .ok (.iconst 0, 1) := by decide +kernel
theorem dX7_init_75 : decode cX7_init 75 = .ok (.putfield 44, 3) := by decide +kernel
theorem dX7_init_78 : decode cX7_init 78 = .ok (.return_, 1) := by decide +kernel
theorem dX7_isKeyDue_0 : decode cX7_isKeyDue 0 = .ok (.aload_n 0, 1) := by decide +kernel
theorem dX7_isKeyDue_1 : decode cX7_isKeyDue 1 = .ok (.getfield 35, 3) := by decide +kernel
theorem dX7_isKeyDue_4 : decode cX7_isKeyDue 4 = .ok (.ifCond .le 19, 3) := by decide +kernel
theorem dX7_isKeyDue_7 : decode cX7_isKeyDue 7 = .ok (.aload_n 0, 1) := by decide +kernel
theorem dX7_isKeyDue_8 : decode cX7_isKeyDue 8 = .ok (.getfield 38, 3) := by decide +kernel
theorem dX7_isKeyDue_11 : decode cX7_isKeyDue 11 = .ok (.aload_n 0, 1) := by decide +kernel
theorem dX7_isKeyDue_12 : decode cX7_isKeyDue 12 = .ok (.getfield 35, 3) := by decide +kernel
theorem dX7_isKeyDue_15 : decode cX7_isKeyDue 15 = .ok (.irem, 1) := by decide +kernel
theorem dX7_isKeyDue_16 : decode cX7_isKeyDue 16 = .ok (.ifCond .ne 7, 3) := by decide +kernel
theorem dX7_isKeyDue_19 : decode cX7_isKeyDue 19 = .ok (.iconst 1, 1) := by decide +kernel
theorem dX7_isKeyDue_20 : decode cX7_isKeyDue 20 = .ok (.goto 4, 3) := by decide +kernel
theorem dX7_isKeyDue_23 : decode cX7_isKeyDue 23 = .ok (.iconst 0, 1) := by decide +kernel
theorem dX7_isKeyDue_24 : decode cX7_isKeyDue 24 = .ok (.ireturn, 1) := by decide +kernel
set_option maxRecDepth 20000 in
theorem ggX7_copyFrom_X4_copyFrom : GoodIn wsX7_copyFrom wsX4_copyFrom := goodIn_r _ [18, 19, 20, 6, 7, 8, 31] (by decide +kernel) (by decide +kernel)
set_option maxRecDepth 20000 in
theorem gX7_copyFrom_X4_copyFrom_n47 : GoodIn wsX7_copyFrom (wsX4_copyFrom) := ggX7_copyFrom_X4_copyFrom
theorem dX7_copyFrom_0 : decode cX7_copyFrom 0 = .ok (.aload_n 0, 1) := by decide +kernel
theorem dX7_copyFrom_1 : decode cX7_copyFrom 1 = .ok (.getfield 12, 3) := by decide +kernel
theorem dX7_copyFrom_4 : decode cX7_copyFrom 4 = .ok (.aload_n 1, 1) := by decide +kernel
theorem dX7_copyFrom_5 : decode cX7_copyFrom 5 = .ok (.getfield 12, 3) := by decide +kernel
theorem dX7_copyFrom_8 : decode cX7_copyFrom 8 = .ok (.invokevirtual 47, 3) := by decide +kernel
theorem dX7_copyFrom_11 : decode cX7_copyFrom 11 = .ok (.aload_n 0, 1) := by decide +kernel
theorem dX7_copyFrom_12 : decode cX7_copyFrom 12 = .ok (.getfield 18, 3) := by decide +kernel
theorem dX7_copyFrom_15 : decode cX7_copyFrom 15 = .ok (.aload_n 1, 1) := by decide +kernel
theorem dX7_copyFrom_16 : decode cX7_copyFrom 16 = .ok (.getfield 18, 3) := by decide +kernel
theorem dX7_copyFrom_19 : decode cX7_copyFrom 19 = .ok (.invokevirtual 47, 3) := by decide +kernel
theorem dX7_copyFrom_22 : decode cX7_copyFrom 22 = .ok (.aload_n 0, 1) := by decide +kernel
theorem dX7_copyFrom_23 : decode cX7_copyFrom 23 = .ok (.getfield 21, 3) := by decide +kernel
theorem dX7_copyFrom_26 : decode cX7_copyFrom 26 = .ok (.aload_n 1, 1) := by decide +kernel
theorem dX7_copyFrom_27 : decode cX7_copyFrom 27 = .ok (.getfield 21, 3) := by decide +kernel
theorem dX7_copyFrom_30 : decode cX7_copyFrom 30 = .ok (.invokevirtual 47, 3) := by decide +kernel
theorem dX7_copyFrom_33 : decode cX7_copyFrom 33 = .ok (.aload_n 1, 1) := by decide +kernel
theorem dX7_copyFrom_34 : decode cX7_copyFrom 34 = .ok (.getfield 24, 3) := by decide +kernel
theorem dX7_copyFrom_37 : decode cX7_copyFrom 37 = .ok (.iconst 0, 1) := by decide +kernel
theorem dX7_copyFrom_38 : decode cX7_copyFrom 38 = .ok (.aload_n 0, 1) := by decide +kernel
theorem dX7_copyFrom_39 : decode cX7_copyFrom 39 = .ok (.getfield 24, 3) := by decide +kernel
theorem dX7_copyFrom_42 : decode cX7_copyFrom 42 = .ok (.iconst 0, 1) := by decide +kernel
theorem dX7_copyFrom_43 : decode cX7_copyFrom 43 = .ok (.iconst 4, 1) := by decide +kernel
theorem dX7_copyFrom_44 : decode cX7_copyFrom 44 = .ok (.invokestatic 51, 3) := by decide +kernel
theorem dX7_copyFrom_47 : decode cX7_copyFrom 47 = .ok (.aload_n 1, 1) := by decide +kernel
theorem dX7_copyFrom_48 : decode cX7_copyFrom 48 = .ok (.getfield 28, 3) := by decide +kernel
theorem dX7_copyFrom_51 : decode cX7_copyFrom 51 = .ok (.iconst 0, 1) := by decide +kernel
theorem dX7_copyFrom_52 : decode cX7_copyFrom 52 = .ok (.aload_n 0, 1) := by decide +kernel
theorem dX7_copyFrom_53 : decode cX7_copyFrom 53 = .ok (.getfield 28, 3) := by decide +kernel
theorem dX7_copyFrom_56 : decode cX7_copyFrom 56 = .ok (.iconst 0, 1) := by decide +kernel
theorem dX7_copyFrom_57 : decode cX7_copyFrom 57 = .ok (.iconst 4, 1) := by decide +kernel
theorem dX7_copyFrom_58 : decode cX7_copyFrom 58 = .ok (.invokestatic 51, 3) := by decide +kernel
theorem dX7_copyFrom_61 : decode cX7_copyFrom 61 = .ok (.aload_n 0, 1) := by decide +kernel
theorem dX7_copyFrom_62 : decode cX7_copyFrom 62 = .ok (.aload_n 1, 1) := by decide +kernel
theorem dX7_copyFrom_63 : decode cX7_copyFrom 63 = .ok (.getfield 31, 3) := by decide +kernel
theorem dX7_copyFrom_66 : decode cX7_copyFrom 66 = .ok (.putfield 31, 3) := by decide +kernel
theorem dX7_copyFrom_69 : decode cX7_copyFrom 69 = .ok (.aload_n 0, 1) := by decide +kernel
theorem dX7_copyFrom_70 : decode cX7_copyFrom 70 = .ok (.aload_n 1, 1) := by decide +kernel
theorem dX7_copyFrom_71 : decode cX7_copyFrom 71 = .ok (.getfield 35, 3) := by decide +kernel
theorem dX7_copyFrom_74 : decode cX7_copyFrom 74 = .ok (.putfield 35, 3) := by decide +kernel
theorem dX7_copyFrom_77 : decode cX7_copyFrom 77 = .ok (.aload_n 0, 1) := by decide +kernel
theorem dX7_copyFrom_78 : decode cX7_copyFrom 78 = .ok (.aload_n 1, 1) := by decide +kernel
theorem dX7_copyFrom_79 : decode cX7_copyFrom 79 = .ok (.getfield 38, 3) := by decide +kernel
theorem dX7_copyFrom_82 : decode cX7_copyFrom 82 = .ok (.putfield 38, 3) := by decide +kernel
theorem dX7_copyFrom_85 : decode cX7_copyFrom 85 = .ok (.aload_n 0, 1) := by decide +kernel
theorem dX7_copyFrom_86 : decode cX7_copyFrom 86 = .ok (.aload_n 1, 1) := by decide +kernel
theorem dX7_copyFrom_87 : decode cX7_copyFrom 87 = .ok (.getfield 41, 3) := by decide +kernel
theorem dX7_copyFrom_90 : decode cX7_copyFrom 90 = .ok (.putfield 41, 3) := by decide +kernel
theorem dX7_copyFrom_93 : decode cX7_copyFrom 93 = .ok (.aload_n 0, 1) := by decide +kernel
theorem dX7_copyFrom_94 : decode cX7_copyFrom 94 = .ok (.aload_n 1, 1) := by decide +kernel
theorem dX7_copyFrom_95 : decode cX7_copyFrom 95 = .ok (.getfield 44, 3) := by decide +kernel
theorem dX7_copyFrom_98 : decode cX7_copyFrom 98 = .ok (.putfield 44, 3) := by decide +kernel
theorem dX7_copyFrom_101 : decode cX7_copyFrom 101 = .ok (.return_, 1) := by decide +kernel
set_option maxRecDepth 20000 in
theorem ggX8_init_X7_init : GoodIn wsX8_init wsX7_init := goodIn_r _ [34, 35, 2, 3, 36, 17, 18, 37, 38, 39, 40, 41, 42, 43, 44, 45, 46, 47, 48, 49, 50, 51, 113, 87, 88, 89, 90, 91, 92, 93, 94, 95, 96] (by decide +kernel) (by decide +kernel)
set_option maxRecDepth 20000 in
theorem gX8_init_X7_init_n11 : GoodIn wsX8_init (wsX7_init) := ggX8_init_X7_init
set_option maxRecDepth 20000 in
theorem ggX8_init_X5_init : GoodIn wsX8_init wsX5_init := goodIn_r _ [53, 54, 2, 3, 40, 55, 56, 57, 17, 18, 58, 59, 60, 61, 48, 49, 50, 51, 105, 106, 107, 108, 109, 110, 113] (by decide +kernel) (by decide +kernel)
set_option maxRecDepth 20000 in
theorem gX8_init_X5_init_n18 : GoodIn wsX8_init (wsX5_init) := ggX8_init_X5_init
set_option maxRecDepth 20000 in
theorem ggX8_init_X0_init : GoodIn wsX8_init wsX0_init := goodIn_r _ [63, 64, 2, 3, 65, 66, 67, 111, 112] (by decide +kernel) (by decide +kernel)
set_option maxRecDepth 20000 in
theorem gX8_init_X0_init_n25 : GoodIn wsX8_init (wsX0_init) := ggX8_init_X0_init
set_option maxRecDepth 20000 in
theorem ggX8_init_X4_init : GoodIn wsX8_init wsX4_init := goodIn_r _ [49, 50, 2, 3, 40, 51, 113] (by decide +kernel) (by decide +kernel)
set_option maxRecDepth 20000 in
theorem gX8_init_X4_init_n32 : GoodIn wsX8_init (wsX4_init) := ggX8_init_X4_init
set_option maxRecDepth 20000 in
theorem ggX8_init_X1_init : GoodIn wsX8_init wsX1_init := goodIn_r _ [69, 70, 2, 3, 71, 72, 73, 114, 115] (by decide +kernel) (by decide +kernel)
set_option maxRecDepth 20000 in
theorem gX8_init_X1_init_n39 : GoodIn wsX8_init (wsX1_init) := ggX8_init_X1_init
set_option maxRecDepth 20000 in
theorem ggX8_init_X2_init : GoodIn wsX8_init wsX2_init := goodIn_r _ [75, 76, 2, 3, 77, 78, 79, 80, 5, 6, 33, 34, 35, 36, 17, 18, 37, 38, 39, 40, 41, 42, 43, 44, 45, 46, 47, 48, 49, 50, 51, 116, 117, 118, 87, 88, 89, 90, 91, 92, 93, 94, 95, 96, 113] (by decide +kernel) (by decide +kernel)
set_option maxRecDepth 20000 in
theorem gX8_init_X2_init_n46 : GoodIn wsX8_init (wsX2_init) := ggX8_init_X2_init
set_option maxRecDepth 20000 in
theorem ggX8_init_X6_init : GoodIn wsX8_init wsX6_init := goodIn_r _ [82, 83, 2, 3, 84, 5, 6, 85, 86, 33, 34, 35, 36, 17, 18, 37, 38, 39, 40, 41, 42, 43, 44, 45, 46, 47, 48, 49, 50, 51, 87, 88, 89, 90, 91, 92, 93, 94, 95, 96, 119, 120, 113] (by decide +kernel) (by decide +kernel)
set_option maxRecDepth 20000 in
theorem gX8_init_X6_init_n53 : GoodIn wsX8_init (wsX6_init) := ggX8_init_X6_init
theorem dX8_init_0 : decode cX8_init 0 = .ok (.aload_n 0, 1) := by decide +kernel
theorem dX8_init_1 : decode cX8_init 1 = .ok (.invokespecial 3, 3) := by decide +kernel
theorem dX8_init_4 : decode cX8_init 4 = .ok (.aload_n 0, 1) := by decide +kernel
theorem dX8_init_5 : decode cX8_init 5 = .ok (.new 9, 3) := by decide +kernel
theorem dX8_init_8 : decode cX8_init 8 = .ok (.dup, 1) := by decide +kernel
theorem dX8_init_9 : decode cX8_init 9 = .ok (.invokespecial 11, 3) := by decide +kernel
theorem dX8_init_12 : decode cX8_init 12 = .ok (.putfield 12, 3) := by decide +kernel
theorem dX8_init_15 : decode cX8_init 15 = .ok (.aload_n 0, 1) := by decide +kernel
theorem dX8_init_16 : decode cX8_init 16 = .ok (.new 16, 3) := by decide +kernel
theorem dX8_init_19 : decode cX8_init 19 = .ok (.dup, 1) := by decide +kernel
theorem dX8_init_20 : decode cX8_init 20 = .ok (.invokespecial 18, 3) := by decide +kernel
theorem dX8_init_23 : decode cX8_init 23 = .ok (.putfield 19, 3) := by decide +kernel
theorem dX8_init_26 : decode cX8_init 26 = .ok (.aload_n 0, 1) := by decide +kernel
theorem dX8_init_27 : decode cX8_init 27 = .ok (.new 23, 3) := by decide +kernel
theorem dX8_init_30 : decode cX8_init 30 = .ok (.dup, 1) := by decide +kernel
theorem dX8_init_31 : decode cX8_init 31 = .ok (.invokespecial 25, 3) := by decide +kernel
theorem dX8_init_34 : decode cX8_init 34 = .ok (.putfield 26, 3) := by decide +kernel
theorem dX8_init_37 : decode cX8_init 37 = .ok (.aload_n 0, 1) := by decide +kernel
theorem dX8_init_38 : decode cX8_init 38 = .ok (.new 30, 3) := by decide +kernel
theorem dX8_init_41 : decode cX8_init 41 = .ok (.dup, 1) := by decide +kernel
theorem dX8_init_42 : decode cX8_init 42 = .ok (.invokespecial 32, 3) := by decide +kernel
theorem dX8_init_45 : decode cX8_init 45 = .ok (.putfield 33, 3) := by decide +kernel
theorem dX8_init_48 : decode cX8_init 48 = .ok (.aload_n 0, 1) := by decide +kernel
theorem dX8_init_49 : decode cX8_init 49 = .ok (.new 37, 3) := by decide +kernel
theorem dX8_init_52 : decode cX8_init 52 = .ok (.dup, 1) := by decide +kernel
theorem dX8_init_53 : decode cX8_init 53 = .ok (.invokespecial 39, 3) := by decide +kernel
theorem dX8_init_56 : decode cX8_init 56 = .ok (.putfield 40, 3) := by decide +kernel
theorem dX8_init_59 : decode cX8_init 59 = .ok (.aload_n 0, 1) := by decide +kernel
theorem dX8_init_60 : decode cX8_init 60 = .ok (.new 44, 3) := by decide +kernel
theorem dX8_init_63 : decode cX8_init 63 = .ok (.dup, 1) := by decide +kernel
theorem dX8_init_64 : decode cX8_init 64 = .ok (.invokespecial 46, 3) := by decide +kernel
theorem dX8_init_67 : decode cX8_init 67 = .ok (.putfield 47, 3) := by decide +kernel
theorem dX8_init_70 : decode cX8_init 70 = .ok (.aload_n 0, 1) := by decide +kernel
theorem dX8_init_71 : decode cX8_init 71 = .ok (.new 51, 3) := by decide +kernel
theorem dX8_init_74 : decode cX8_init 74 = .ok (.dup, 1) := by decide +kernel
theorem dX8_init_75 : decode cX8_init 75 = .ok (.invokespecial 53, 3) := by decide +kernel
theorem dX8_init_78 : decode cX8_init 78 = .ok (.putfield 54, 3) := by decide +kernel
theorem dX8_init_81 : decode cX8_init 81 = .ok (.aload_n 0, 1) := by decide +kernel
theorem dX8_init_82 : decode cX8_init 82 = .ok (.new 51, 3) := by decide +kernel
theorem dX8_init_85 : decode cX8_init 85 = .ok (.dup, 1) := by decide +kernel
theorem dX8_init_86 : decode cX8_init 86 = .ok (.invokespecial 53, 3) := by decide +kernel
theorem dX8_init_89 : decode cX8_init 89 = .ok (.putfield 58, 3) := by decide +kernel
theorem dX8_init_92 : decode cX8_init 92 = .ok (.return_, 1) := by decide +kernel
set_option maxRecDepth 20000 in
theorem ggX8_draw_X8_requirePixel : GoodIn wsX8_draw wsX8_requirePixel := goodIn_ca (goodIn_r _ [6, 7, 8] (by decide +kernel) (by decide +kernel)) (goodIn_sub (fun _ h => List.mem_cons_of_mem _ (List.mem_append_left _ (List.mem_append_right _ h))) (by decide +kernel))
set_option maxRecDepth 20000 in
theorem gX8_draw_X8_requirePixel : GoodIn wsX8_draw (va_wsS RX8 61 yX8_requirePixel wsX8_requirePixel) := goodIn_app (goodIn_of _ (by decide +kernel)) ggX8_draw_X8_requirePixel
set_option maxRecDepth 20000 in
theorem ggX8_draw_X8_requireWithin : GoodIn wsX8_draw wsX8_requireWithin := goodIn_ca (goodIn_r _ [11, 12, 13] (by decide +kernel) (by decide +kernel)) (goodIn_sub (fun _ h => List.mem_cons_of_mem _ (List.mem_append_right _ h)) (by decide +kernel))
set_option maxRecDepth 20000 in
theorem gX8_draw_X8_requireWithin : GoodIn wsX8_draw (va_wsS RX8 65 yX8_requireWithin wsX8_requireWithin) := goodIn_app (goodIn_of _ (by decide +kernel)) ggX8_draw_X8_requireWithin
set_option maxRecDepth 20000 in
theorem ggX8_draw_X2_record : GoodIn wsX8_draw wsX2_record := goodIn_r _ [17, 18, 19, 20, 21, 22, 23, 24, 25, 26, 15, 27, 28, 29, 30, 31, 32, 33, 34, 35, 36, 37, 38, 39, 40, 41, 42, 43, 44, 45, 46, 47, 48, 49, 50, 51, 52, 74, 75, 76, 64, 65, 66, 67, 68, 69, 70, 71, 72, 73, 77] (by decide +kernel) (by decide +kernel)
set_option maxRecDepth 20000 in
theorem gX8_draw_X2_record_n69 : GoodIn wsX8_draw (wsX2_record) := ggX8_draw_X2_record
set_option maxRecDepth 20000 in
theorem ggX8_draw_X4_put : GoodIn wsX8_draw wsX4_put := goodIn_r _ [55, 51, 77] (by decide +kernel) (by decide +kernel)
set_option maxRecDepth 20000 in
theorem gX8_draw_X4_put_n76 : GoodIn wsX8_draw (wsX4_put) := ggX8_draw_X4_put
theorem dX8_draw_0 : decode cX8_draw 0 = .ok (.iload_n 1, 1) := by decide +kernel
theorem dX8_draw_1 : decode cX8_draw 1 = .ok (.invokestatic 61, 3) := by decide +kernel
theorem dX8_draw_4 : decode cX8_draw 4 = .ok (.iload_n 2, 1) := by decide +kernel
theorem dX8_draw_5 : decode cX8_draw 5 = .ok (.iconst 0, 1) := by decide +kernel
theorem dX8_draw_6 : decode cX8_draw 6 = .ok (.bipush 15, 2) := by decide +kernel
theorem dX8_draw_8 : decode cX8_draw 8 = .ok (.invokestatic 65, 3) := by decide +kernel
theorem dX8_draw_11 : decode cX8_draw 11 = .ok (.aload_n 0, 1) := by decide +kernel
theorem dX8_draw_12 : decode cX8_draw 12 = .ok (.getfield 47, 3) := by decide +kernel
theorem dX8_draw_15 : decode cX8_draw 15 = .ok (.aload_n 0, 1) := by decide +kernel
theorem dX8_draw_16 : decode cX8_draw 16 = .ok (.getfield 12, 3) := by decide +kernel
theorem dX8_draw_19 : decode cX8_draw 19 = .ok (.invokevirtual 69, 3) := by decide +kernel
theorem dX8_draw_22 : decode cX8_draw 22 = .ok (.aload_n 0, 1) := by decide +kernel
theorem dX8_draw_23 : decode cX8_draw 23 = .ok (.getfield 12, 3) := by decide +kernel
theorem dX8_draw_26 : decode cX8_draw 26 = .ok (.getfield 73, 3) := by decide +kernel
theorem dX8_draw_29 : decode cX8_draw 29 = .ok (.iload_n 1, 1) := by decide +kernel
theorem dX8_draw_30 : decode cX8_draw 30 = .ok (.iload_n 2, 1) := by decide +kernel
theorem dX8_draw_31 : decode cX8_draw 31 = .ok (.invokevirtual 76, 3) := by decide +kernel
theorem dX8_draw_34 : decode cX8_draw 34 = .ok (.ireturn, 1) := by decide +kernel
set_option maxRecDepth 20000 in
theorem ggX8_fill_X8_requirePixel : GoodIn wsX8_fill wsX8_requirePixel := goodIn_ca (goodIn_r _ [6, 7, 8] (by decide +kernel) (by decide +kernel)) (goodIn_sub (fun _ h => List.mem_cons_of_mem _ (List.mem_append_left _ (List.mem_append_right _ h))) (by decide +kernel))
set_option maxRecDepth 20000 in
theorem gX8_fill_X8_requirePixel : GoodIn wsX8_fill (va_wsS RX8 61 yX8_requirePixel wsX8_requirePixel) := goodIn_app (goodIn_of _ (by decide +kernel)) ggX8_fill_X8_requirePixel
set_option maxRecDepth 20000 in
theorem ggX8_fill_X8_requireWithin : GoodIn wsX8_fill wsX8_requireWithin := goodIn_ca (goodIn_r _ [11, 12, 13] (by decide +kernel) (by decide +kernel)) (goodIn_sub (fun _ h => List.mem_cons_of_mem _ (List.mem_append_right _ h)) (by decide +kernel))
set_option maxRecDepth 20000 in
theorem gX8_fill_X8_requireWithin : GoodIn wsX8_fill (va_wsS RX8 65 yX8_requireWithin wsX8_requireWithin) := goodIn_app (goodIn_of _ (by decide +kernel)) ggX8_fill_X8_requireWithin
set_option maxRecDepth 20000 in
theorem ggX8_fill_X2_record : GoodIn wsX8_fill wsX2_record := goodIn_r _ [17, 18, 19, 20, 21, 22, 23, 24, 25, 26, 15, 27, 28, 29, 30, 31, 32, 33, 34, 35, 36, 37, 38, 39, 40, 41, 42, 43, 44, 45, 46, 47, 48, 49, 50, 51, 52, 78, 79, 80, 68, 69, 70, 71, 72, 73, 74, 75, 76, 77, 81] (by decide +kernel) (by decide +kernel)
set_option maxRecDepth 20000 in
theorem gX8_fill_X2_record_n69 : GoodIn wsX8_fill (wsX2_record) := ggX8_fill_X2_record
set_option maxRecDepth 20000 in
theorem ggX8_fill_X4_putRectangle : GoodIn wsX8_fill wsX4_putRectangle := goodIn_r _ [55, 56, 57, 58, 48, 59, 51, 81] (by decide +kernel) (by decide +kernel)
set_option maxRecDepth 20000 in
theorem gX8_fill_X4_putRectangle_n80 : GoodIn wsX8_fill (wsX4_putRectangle) := ggX8_fill_X4_putRectangle
theorem dX8_fill_0 : decode cX8_fill 0 = .ok (.iload_n 1, 1) := by decide +kernel
theorem dX8_fill_1 : decode cX8_fill 1 = .ok (.invokestatic 61, 3) := by decide +kernel
theorem dX8_fill_4 : decode cX8_fill 4 = .ok (.iload_n 2, 1) := by decide +kernel
theorem dX8_fill_5 : decode cX8_fill 5 = .ok (.iconst 1, 1) := by decide +kernel
theorem dX8_fill_6 : decode cX8_fill 6 = .ok (.bipush 8, 2) := by decide +kernel
theorem dX8_fill_8 : decode cX8_fill 8 = .ok (.invokestatic 65, 3) := by decide +kernel
theorem dX8_fill_11 : decode cX8_fill 11 = .ok (.iload_n 3, 1) := by decide +kernel
theorem dX8_fill_12 : decode cX8_fill 12 = .ok (.iconst 1, 1) := by decide +kernel
theorem dX8_fill_13 : decode cX8_fill 13 = .ok (.bipush 8, 2) := by decide +kernel
theorem dX8_fill_15 : decode cX8_fill 15 = .ok (.invokestatic 65, 3) := by decide +kernel
theorem dX8_fill_18 : decode cX8_fill 18 = .ok (.iload 4, 2) := by decide +kernel
theorem dX8_fill_20 : decode cX8_fill 20 = .ok (.iconst 0, 1) := by decide +kernel
theorem dX8_fill_21 : decode cX8_fill 21 = .ok (.bipush 15, 2) := by decide +kernel
theorem dX8_fill_23 : decode cX8_fill 23 = .ok (.invokestatic 65, 3) := by decide +kernel
theorem dX8_fill_26 : decode cX8_fill 26 = .ok (.aload_n 0, 1) := by decide +kernel
theorem dX8_fill_27 : decode cX8_fill 27 = .ok (.getfield 47, 3) := by decide +kernel
theorem dX8_fill_30 : decode cX8_fill 30 = .ok (.aload_n 0, 1) := by decide +kernel
theorem dX8_fill_31 : decode cX8_fill 31 = .ok (.getfield 12, 3) := by decide +kernel
theorem dX8_fill_34 : decode cX8_fill 34 = .ok (.invokevirtual 69, 3) := by decide +kernel
theorem dX8_fill_37 : decode cX8_fill 37 = .ok (.aload_n 0, 1) := by decide +kernel
theorem dX8_fill_38 : decode cX8_fill 38 = .ok (.getfield 12, 3) := by decide +kernel
theorem dX8_fill_41 : decode cX8_fill 41 = .ok (.getfield 73, 3) := by decide +kernel
theorem dX8_fill_44 : decode cX8_fill 44 = .ok (.iload_n 1, 1) := by decide +kernel
theorem dX8_fill_45 : decode cX8_fill 45 = .ok (.iload_n 2, 1) := by decide +kernel
theorem dX8_fill_46 : decode cX8_fill 46 = .ok (.iload_n 3, 1) := by decide +kernel
theorem dX8_fill_47 : decode cX8_fill 47 = .ok (.iload 4, 2) := by decide +kernel
theorem dX8_fill_49 : decode cX8_fill 49 = .ok (.invokevirtual 80, 3) := by decide +kernel
theorem dX8_fill_52 : decode cX8_fill 52 = .ok (.ireturn, 1) := by decide +kernel
set_option maxRecDepth 20000 in
theorem ggX8_scroll_X8_requireWithin : GoodIn wsX8_scroll wsX8_requireWithin := goodIn_ca (goodIn_r _ [6, 7, 8] (by decide +kernel) (by decide +kernel)) (goodIn_sub (fun _ h => List.mem_cons_of_mem _ (List.mem_append_right _ h)) (by decide +kernel))
set_option maxRecDepth 20000 in
theorem gX8_scroll_X8_requireWithin : GoodIn wsX8_scroll (va_wsS RX8 65 yX8_requireWithin wsX8_requireWithin) := goodIn_app (goodIn_of _ (by decide +kernel)) ggX8_scroll_X8_requireWithin
set_option maxRecDepth 20000 in
theorem ggX8_scroll_X2_record : GoodIn wsX8_scroll wsX2_record := goodIn_r _ [12, 13, 14, 15, 16, 17, 18, 19, 20, 21, 10, 22, 23, 24, 25, 26, 27, 28, 29, 30, 31, 32, 33, 34, 35, 36, 37, 38, 39, 40, 41, 42, 43, 44, 45, 46, 47, 72, 73, 74, 75, 76, 77, 78, 79, 80, 81, 82, 83, 84, 85] (by decide +kernel) (by decide +kernel)
set_option maxRecDepth 20000 in
theorem gX8_scroll_X2_record_n69 : GoodIn wsX8_scroll (wsX2_record) := ggX8_scroll_X2_record
set_option maxRecDepth 20000 in
theorem ggX8_scroll_X8_scrollDrawn : GoodIn wsX8_scroll wsX8_scrollDrawn := goodIn_r _ [51, 52, 2, 42, 43, 44, 45, 46, 47, 33, 34, 35, 53, 54, 55, 56, 57, 58, 59, 60, 61, 62, 63, 64, 65, 66, 67, 68, 69, 70, 71, 75, 76, 77, 78, 79, 80, 81, 82, 83, 84, 85] (by decide +kernel) (by decide +kernel)
set_option maxRecDepth 20000 in
theorem gX8_scroll_X8_scrollDrawn : GoodIn wsX8_scroll (wsV RX8 84 RX8 yX8_scrollDrawn wsX8_scrollDrawn) := goodIn_app (goodIn_of _ (by decide +kernel)) ggX8_scroll_X8_scrollDrawn
theorem dX8_scroll_0 : decode cX8_scroll 0 = .ok (.iload_n 1, 1) := by decide +kernel
theorem dX8_scroll_1 : decode cX8_scroll 1 = .ok (.bipush (-2), 2) := by decide +kernel
theorem dX8_scroll_3 : decode cX8_scroll 3 = .ok (.iconst 2, 1) := by decide +kernel
theorem dX8_scroll_4 : decode cX8_scroll 4 = .ok (.invokestatic 65, 3) := by decide +kernel
theorem dX8_scroll_7 : decode cX8_scroll 7 = .ok (.iload_n 2, 1) := by decide +kernel
theorem dX8_scroll_8 : decode cX8_scroll 8 = .ok (.bipush (-2), 2) := by decide +kernel
theorem dX8_scroll_10 : decode cX8_scroll 10 = .ok (.iconst 2, 1) := by decide +kernel
theorem dX8_scroll_11 : decode cX8_scroll 11 = .ok (.invokestatic 65, 3) := by decide +kernel
theorem dX8_scroll_14 : decode cX8_scroll 14 = .ok (.aload_n 0, 1) := by decide +kernel
theorem dX8_scroll_15 : decode cX8_scroll 15 = .ok (.getfield 47, 3) := by decide +kernel
theorem dX8_scroll_18 : decode cX8_scroll 18 = .ok (.aload_n 0, 1) := by decide +kernel
theorem dX8_scroll_19 : decode cX8_scroll 19 = .ok (.getfield 12, 3) := by decide +kernel
theorem dX8_scroll_22 : decode cX8_scroll 22 = .ok (.invokevirtual 69, 3) := by decide +kernel
theorem dX8_scroll_25 : decode cX8_scroll 25 = .ok (.aload_n 0, 1) := by decide +kernel
theorem dX8_scroll_26 : decode cX8_scroll 26 = .ok (.iload_n 1, 1) := by decide +kernel
theorem dX8_scroll_27 : decode cX8_scroll 27 = .ok (.iload_n 2, 1) := by decide +kernel
theorem dX8_scroll_28 : decode cX8_scroll 28 = .ok (.invokevirtual 84, 3) := by decide +kernel
theorem dX8_scroll_31 : decode cX8_scroll 31 = .ok (.ireturn, 1) := by decide +kernel
set_option maxRecDepth 20000 in
theorem ggX8_send_X8_maySend : GoodIn wsX8_send wsX8_maySend := goodIn_r _ [9, 4, 146, 147, 148, 149, 150, 151, 152, 153, 154, 155, 156, 157, 158, 159, 160, 161, 162, 163] (by decide +kernel) (by decide +kernel)
set_option maxRecDepth 20000 in
theorem gX8_send_X8_maySend : GoodIn wsX8_send (wsV RX8 87 RX8 yX8_maySend wsX8_maySend) := goodIn_app (goodIn_of _ (by decide +kernel)) ggX8_send_X8_maySend
set_option maxRecDepth 20000 in
theorem ggX8_send_X2_record : GoodIn wsX8_send wsX2_record := goodIn_r _ [13, 14, 15, 16, 17, 18, 19, 20, 21, 22, 11, 23, 24, 25, 26, 27, 28, 29, 30, 31, 32, 33, 34, 35, 36, 37, 38, 39, 40, 41, 42, 43, 44, 45, 46, 47, 48, 164, 165, 166, 154, 155, 156, 157, 158, 159, 160, 161, 162, 163, 167] (by decide +kernel) (by decide +kernel)
set_option maxRecDepth 20000 in
theorem gX8_send_X2_record_n69 : GoodIn wsX8_send (wsX2_record) := ggX8_send_X2_record
set_option maxRecDepth 20000 in
theorem ggX8_send_X8_sendDrawn : GoodIn wsX8_send wsX8_sendDrawn := goodIn_r _ [52, 53, 4, 54, 55, 56, 57, 58, 59, 26, 60, 61, 39, 40, 62, 63, 64, 65, 66, 67, 68, 69, 70, 71, 72, 73, 74, 75, 18, 76, 77, 8, 78, 79, 80, 81, 82, 83, 44, 84, 85, 47, 86, 87, 88, 89, 90, 91, 92, 93, 94, 95, 96, 97, 98, 99, 100, 101, 102, 103, 104, 105, 106, 107, 108, 109, 110, 111, 112, 113, 114, 115, 116, 117, 118, 119, 120, 121, 43, 45, 46, 48, 34, 35, 36, 122, 123, 124, 125, 126, 17, 19, 127, 128, 129, 130, 131, 132, 133, 134, 135, 136, 137, 138, 139, 140, 141, 142, 143, 144, 145, 146, 147, 148, 149, 150, 151, 152, 153, 154, 155, 156, 157, 158, 159, 160, 161, 162, 163, 168, 169, 170, 171, 172, 173, 167] (by decide +kernel) (by decide +kernel)
set_option maxRecDepth 20000 in
theorem gX8_send_X8_sendDrawn : GoodIn wsX8_send (wsV RX8 98 RX8 yX8_sendDrawn wsX8_sendDrawn) := goodIn_app (goodIn_of _ (by decide +kernel)) ggX8_send_X8_sendDrawn
theorem dX8_send_0 : decode cX8_send 0 = .ok (.aload_n 0, 1) := by decide +kernel
theorem dX8_send_1 : decode cX8_send 1 = .ok (.invokevirtual 87, 3) := by decide +kernel
theorem dX8_send_4 : decode cX8_send 4 = .ok (.ifCond .ne 13, 3) := by decide +kernel
theorem dX8_send_7 : decode cX8_send 7 = .ok (.new 91, 3) := by decide +kernel
theorem dX8_send_10 : decode cX8_send 10 = .ok (.dup, 1) := by decide +kernel
theorem dX8_send_11 : decode cX8_send 11 = .ok (.ldc 93, 2) := by decide +kernel
theorem dX8_send_13 : decode cX8_send 13 = .ok (.invokespecial 95, 3) := by decide +kernel
theorem dX8_send_16 : decode cX8_send 16 = .ok (.athrow, 1) := by decide +kernel
theorem dX8_send_17 : decode cX8_send 17 = .ok (.aload_n 0, 1) := by decide +kernel
theorem dX8_send_18 : decode cX8_send 18 = .ok (.getfield 47, 3) := by decide +kernel
theorem dX8_send_21 : decode cX8_send 21 = .ok (.aload_n 0, 1) := by decide +kernel
theorem dX8_send_22 : decode cX8_send 22 = .ok (.getfield 12, 3) := by decide +kernel
theorem dX8_send_25 : decode cX8_send 25 = .ok (.invokevirtual 69, 3) := by decide +kernel
theorem dX8_send_28 : decode cX8_send 28 = .ok (.aload_n 0, 1) := by decide +kernel
theorem dX8_send_29 : decode cX8_send 29 = .ok (.iload_n 1, 1) := by decide +kernel
theorem dX8_send_30 : decode cX8_send 30 = .ok (.invokevirtual 98, 3) := by decide +kernel
theorem dX8_send_33 : decode cX8_send 33 = .ok (.ireturn, 1) := by decide +kernel
set_option maxRecDepth 20000 in
theorem ggX8_setBudget_X8_requireWithin : GoodIn wsX8_setBudget wsX8_requireWithin := goodIn_ca (goodIn_r _ [6, 7, 8] (by decide +kernel) (by decide +kernel)) (goodIn_sub (fun _ h => List.mem_cons_of_mem _ (List.mem_append_right _ h)) (by decide +kernel))
set_option maxRecDepth 20000 in
theorem gX8_setBudget_X8_requireWithin : GoodIn wsX8_setBudget (va_wsS RX8 65 yX8_requireWithin wsX8_requireWithin) := goodIn_app (goodIn_of _ (by decide +kernel)) ggX8_setBudget_X8_requireWithin
set_option maxRecDepth 20000 in
theorem ggX8_setBudget_X2_record : GoodIn wsX8_setBudget wsX2_record := goodIn_r _ [12, 13, 14, 15, 16, 17, 18, 19, 20, 21, 10, 22, 23, 24, 25, 26, 27, 28, 29, 30, 31, 32, 33, 34, 35, 36, 37, 38, 39, 40, 41, 42, 43, 44, 45, 46, 47, 66, 67, 68, 56, 57, 58, 59, 60, 61, 62, 63, 64, 65, 69] (by decide +kernel) (by decide +kernel)
set_option maxRecDepth 20000 in
theorem gX8_setBudget_X2_record_n69 : GoodIn wsX8_setBudget (wsX2_record) := ggX8_setBudget_X2_record
theorem dX8_setBudget_0 : decode cX8_setBudget 0 = .ok (.iload_n 1, 1) := by decide +kernel
theorem dX8_setBudget_1 : decode cX8_setBudget 1 = .ok (.iconst 4, 1) := by decide +kernel
theorem dX8_setBudget_2 : decode cX8_setBudget 2 = .ok (.sipush 300, 3) := by decide +kernel
theorem dX8_setBudget_5 : decode cX8_setBudget 5 = .ok (.invokestatic 65, 3) := by decide +kernel
theorem dX8_setBudget_8 : decode cX8_setBudget 8 = .ok (.aload_n 0, 1) := by decide +kernel
theorem dX8_setBudget_9 : decode cX8_setBudget 9 = .ok (.getfield 47, 3) := by decide +kernel
theorem dX8_setBudget_12 : decode cX8_setBudget 12 = .ok (.aload_n 0, 1) := by decide +kernel
theorem dX8_setBudget_13 : decode cX8_setBudget 13 = .ok (.getfield 12, 3) := by decide +kernel
theorem dX8_setBudget_16 : decode cX8_setBudget 16 = .ok (.invokevirtual 69, 3) := by decide +kernel
theorem dX8_setBudget_19 : decode cX8_setBudget 19 = .ok (.aload_n 0, 1) := by decide +kernel
theorem dX8_setBudget_20 : decode cX8_setBudget 20 = .ok (.getfield 12, 3) := by decide +kernel
theorem dX8_setBudget_23 : decode cX8_setBudget 23 = .ok (.getfield 102, 3) := by decide +kernel
theorem dX8_setBudget_26 : decode cX8_setBudget 26 = .ok (.istore_n 2, 1) := by decide +kernel
theorem dX8_setBudget_27 : decode cX8_setBudget 27 = .ok (.aload_n 0, 1) := by decide +kernel
theorem dX8_setBudget_28 : decode cX8_setBudget 28 = .ok (.getfield 12, 3) := by decide +kernel
theorem dX8_setBudget_31 : decode cX8_setBudget 31 = .ok (.iload_n 1, 1) := by decide +kernel
theorem dX8_setBudget_32 : decode cX8_setBudget 32 = .ok (.putfield 102, 3) := by decide +kernel
theorem dX8_setBudget_35 : decode cX8_setBudget 35 = .ok (.iload_n 2, 1) := by decide +kernel
theorem dX8_setBudget_36 : decode cX8_setBudget 36 = .ok (.ireturn, 1) := by decide +kernel
set_option maxRecDepth 20000 in
theorem ggX8_setKeyDistance_X8_requireWithin : GoodIn wsX8_setKeyDistance wsX8_requireWithin := goodIn_ca (goodIn_r _ [6, 7, 8] (by decide +kernel) (by decide +kernel)) (goodIn_sub (fun _ h => List.mem_cons_of_mem _ (List.mem_append_right _ h)) (by decide +kernel))
set_option maxRecDepth 20000 in
theorem gX8_setKeyDistance_X8_requireWithin : GoodIn wsX8_setKeyDistance (va_wsS RX8 65 yX8_requireWithin wsX8_requireWithin) := goodIn_app (goodIn_of _ (by decide +kernel)) ggX8_setKeyDistance_X8_requireWithin
set_option maxRecDepth 20000 in
theorem ggX8_setKeyDistance_X2_record : GoodIn wsX8_setKeyDistance wsX2_record := goodIn_r _ [12, 13, 14, 15, 16, 17, 18, 19, 20, 21, 10, 22, 23, 24, 25, 26, 27, 28, 29, 30, 31, 32, 33, 34, 35, 36, 37, 38, 39, 40, 41, 42, 43, 44, 45, 46, 47, 66, 67, 68, 56, 57, 58, 59, 60, 61, 62, 63, 64, 65, 69] (by decide +kernel) (by decide +kernel)
set_option maxRecDepth 20000 in
theorem gX8_setKeyDistance_X2_record_n69 : GoodIn wsX8_setKeyDistance (wsX2_record) := ggX8_setKeyDistance_X2_record
theorem dX8_setKeyDistance_0 : decode cX8_setKeyDistance 0 = .ok (.iload_n 1, 1) := by decide +kernel
theorem dX8_setKeyDistance_1 : decode cX8_setKeyDistance 1 = .ok (.iconst 1, 1) := by decide +kernel
theorem dX8_setKeyDistance_2 : decode cX8_setKeyDistance 2 = .ok (.bipush 20, 2) := by decide +kernel
theorem dX8_setKeyDistance_4 : decode cX8_setKeyDistance 4 = .ok (.invokestatic 65, 3) := by decide +kernel
theorem dX8_setKeyDistance_7 : decode cX8_setKeyDistance 7 = .ok (.aload_n 0, 1) := by decide +kernel
theorem dX8_setKeyDistance_8 : decode cX8_setKeyDistance 8 = .ok (.getfield 47, 3) := by decide +kernel
theorem dX8_setKeyDistance_11 : decode cX8_setKeyDistance 11 = .ok (.aload_n 0, 1) := by decide +kernel
theorem dX8_setKeyDistance_12 : decode cX8_setKeyDistance 12 = .ok (.getfield 12, 3) := by decide +kernel
theorem dX8_setKeyDistance_15 : decode cX8_setKeyDistance 15 = .ok (.invokevirtual 69, 3) := by decide +kernel
theorem dX8_setKeyDistance_18 : decode cX8_setKeyDistance 18 = .ok (.aload_n 0, 1) := by decide +kernel
theorem dX8_setKeyDistance_19 : decode cX8_setKeyDistance 19 = .ok (.getfield 12, 3) := by decide +kernel
theorem dX8_setKeyDistance_22 : decode cX8_setKeyDistance 22 = .ok (.getfield 106, 3) := by decide +kernel
theorem dX8_setKeyDistance_25 : decode cX8_setKeyDistance 25 = .ok (.istore_n 2, 1) := by decide +kernel
theorem dX8_setKeyDistance_26 : decode cX8_setKeyDistance 26 = .ok (.aload_n 0, 1) := by decide +kernel
theorem dX8_setKeyDistance_27 : decode cX8_setKeyDistance 27 = .ok (.getfield 12, 3) := by decide +kernel
theorem dX8_setKeyDistance_30 : decode cX8_setKeyDistance 30 = .ok (.iload_n 1, 1) := by decide +kernel
theorem dX8_setKeyDistance_31 : decode cX8_setKeyDistance 31 = .ok (.putfield 106, 3) := by decide +kernel
theorem dX8_setKeyDistance_34 : decode cX8_setKeyDistance 34 = .ok (.iload_n 2, 1) := by decide +kernel
theorem dX8_setKeyDistance_35 : decode cX8_setKeyDistance 35 = .ok (.ireturn, 1) := by decide +kernel
set_option maxRecDepth 20000 in
theorem ggX8_drawnAt_X8_requirePixel : GoodIn wsX8_drawnAt wsX8_requirePixel := goodIn_ca (goodIn_r _ [5, 6, 7] (by decide +kernel) (by decide +kernel)) (goodIn_sub (fun _ h => List.mem_cons_of_mem _ (List.mem_append_right _ h)) (by decide +kernel))
set_option maxRecDepth 20000 in
theorem gX8_drawnAt_X8_requirePixel : GoodIn wsX8_drawnAt (va_wsS RX8 61 yX8_requirePixel wsX8_requirePixel) := goodIn_app (goodIn_of _ (by decide +kernel)) ggX8_drawnAt_X8_requirePixel
set_option maxRecDepth 20000 in
theorem ggX8_drawnAt_X4_valueAt : GoodIn wsX8_drawnAt wsX4_valueAt := goodIn_r _ [11, 12, 31] (by decide +kernel) (by decide +kernel)
set_option maxRecDepth 20000 in
theorem gX8_drawnAt_X4_valueAt_n109 : GoodIn wsX8_drawnAt (wsX4_valueAt) := ggX8_drawnAt_X4_valueAt
theorem dX8_drawnAt_0 : decode cX8_drawnAt 0 = .ok (.iload_n 1, 1) := by decide +kernel
theorem dX8_drawnAt_1 : decode cX8_drawnAt 1 = .ok (.invokestatic 61, 3) := by decide +kernel
theorem dX8_drawnAt_4 : decode cX8_drawnAt 4 = .ok (.aload_n 0, 1) := by decide +kernel
theorem dX8_drawnAt_5 : decode cX8_drawnAt 5 = .ok (.getfield 12, 3) := by decide +kernel
theorem dX8_drawnAt_8 : decode cX8_drawnAt 8 = .ok (.getfield 73, 3) := by decide +kernel
theorem dX8_drawnAt_11 : decode cX8_drawnAt 11 = .ok (.iload_n 1, 1) := by decide +kernel
theorem dX8_drawnAt_12 : decode cX8_drawnAt 12 = .ok (.invokevirtual 109, 3) := by decide +kernel
theorem dX8_drawnAt_15 : decode cX8_drawnAt 15 = .ok (.ireturn, 1) := by decide +kernel
set_option maxRecDepth 20000 in
theorem ggX8_sentAt_X8_requirePixel : GoodIn wsX8_sentAt wsX8_requirePixel := goodIn_ca (goodIn_r _ [5, 6, 7] (by decide +kernel) (by decide +kernel)) (goodIn_sub (fun _ h => List.mem_cons_of_mem _ (List.mem_append_right _ h)) (by decide +kernel))
set_option maxRecDepth 20000 in
theorem gX8_sentAt_X8_requirePixel : GoodIn wsX8_sentAt (va_wsS RX8 61 yX8_requirePixel wsX8_requirePixel) := goodIn_app (goodIn_of _ (by decide +kernel)) ggX8_sentAt_X8_requirePixel
set_option maxRecDepth 20000 in
theorem ggX8_sentAt_X4_valueAt : GoodIn wsX8_sentAt wsX4_valueAt := goodIn_r _ [11, 12, 31] (by decide +kernel) (by decide +kernel)
set_option maxRecDepth 20000 in
theorem gX8_sentAt_X4_valueAt_n109 : GoodIn wsX8_sentAt (wsX4_valueAt) := ggX8_sentAt_X4_valueAt
theorem dX8_sentAt_0 : decode cX8_sentAt 0 = .ok (.iload_n 1, 1) := by decide +kernel
theorem dX8_sentAt_1 : decode cX8_sentAt 1 = .ok (.invokestatic 61, 3) := by decide +kernel
theorem dX8_sentAt_4 : decode cX8_sentAt 4 = .ok (.aload_n 0, 1) := by decide +kernel
theorem dX8_sentAt_5 : decode cX8_sentAt 5 = .ok (.getfield 12, 3) := by decide +kernel
theorem dX8_sentAt_8 : decode cX8_sentAt 8 = .ok (.getfield 113, 3) := by decide +kernel
theorem dX8_sentAt_11 : decode cX8_sentAt 11 = .ok (.iload_n 1, 1) := by decide +kernel
theorem dX8_sentAt_12 : decode cX8_sentAt 12 = .ok (.invokevirtual 109, 3) := by decide +kernel
theorem dX8_sentAt_15 : decode cX8_sentAt 15 = .ok (.ireturn, 1) := by decide +kernel
set_option maxRecDepth 20000 in
theorem ggX8_receivedAt_X8_requirePixel : GoodIn wsX8_receivedAt wsX8_requirePixel := goodIn_ca (goodIn_r _ [5, 6, 7] (by decide +kernel) (by decide +kernel)) (goodIn_sub (fun _ h => List.mem_cons_of_mem _ (List.mem_append_right _ h)) (by decide +kernel))
set_option maxRecDepth 20000 in
theorem gX8_receivedAt_X8_requirePixel : GoodIn wsX8_receivedAt (va_wsS RX8 61 yX8_requirePixel wsX8_requirePixel) := goodIn_app (goodIn_of _ (by decide +kernel)) ggX8_receivedAt_X8_requirePixel
set_option maxRecDepth 20000 in
theorem ggX8_receivedAt_X4_valueAt : GoodIn wsX8_receivedAt wsX4_valueAt := goodIn_r _ [11, 12, 31] (by decide +kernel) (by decide +kernel)
set_option maxRecDepth 20000 in
theorem gX8_receivedAt_X4_valueAt_n109 : GoodIn wsX8_receivedAt (wsX4_valueAt) := ggX8_receivedAt_X4_valueAt
theorem dX8_receivedAt_0 : decode cX8_receivedAt 0 = .ok (.iload_n 1, 1) := by decide +kernel
theorem dX8_receivedAt_1 : decode cX8_receivedAt 1 = .ok (.invokestatic 61, 3) := by decide +kernel
theorem dX8_receivedAt_4 : decode cX8_receivedAt 4 = .ok (.aload_n 0, 1) := by decide +kernel
theorem dX8_receivedAt_5 : decode cX8_receivedAt 5 = .ok (.getfield 12, 3) := by decide +kernel
theorem dX8_receivedAt_8 : decode cX8_receivedAt 8 = .ok (.getfield 116, 3) := by decide +kernel
theorem dX8_receivedAt_11 : decode cX8_receivedAt 11 = .ok (.iload_n 1, 1) := by decide +kernel
theorem dX8_receivedAt_12 : decode cX8_receivedAt 12 = .ok (.invokevirtual 109, 3) := by decide +kernel
theorem dX8_receivedAt_15 : decode cX8_receivedAt 15 = .ok (.ireturn, 1) := by decide +kernel
set_option maxRecDepth 20000 in
theorem ggX8_error_X4_valueAt : GoodIn wsX8_error wsX4_valueAt := goodIn_r _ [5, 6, 25] (by decide +kernel) (by decide +kernel)
set_option maxRecDepth 20000 in
theorem gX8_error_X4_valueAt_n109 : GoodIn wsX8_error (wsX4_valueAt) := ggX8_error_X4_valueAt
theorem dX8_error_0 : decode cX8_error 0 = .ok (.iconst 0, 1) := by decide +kernel
theorem dX8_error_1 : decode cX8_error 1 = .ok (.istore_n 1, 1) := by decide +kernel
theorem dX8_error_2 : decode cX8_error 2 = .ok (.iconst 0, 1) := by decide +kernel
theorem dX8_error_3 : decode cX8_error 3 = .ok (.istore_n 2, 1) := by decide +kernel
theorem dX8_error_4 : decode cX8_error 4 = .ok (.iload_n 2, 1) := by decide +kernel
theorem dX8_error_5 : decode cX8_error 5 = .ok (.bipush 64, 2) := by decide +kernel
theorem dX8_error_7 : decode cX8_error 7 = .ok (.if_icmp .ge 39, 3) := by decide +kernel
theorem dX8_error_10 : decode cX8_error 10 = .ok (.aload_n 0, 1) := by decide +kernel
theorem dX8_error_11 : decode cX8_error 11 = .ok (.getfield 12, 3) := by decide +kernel
theorem dX8_error_14 : decode cX8_error 14 = .ok (.getfield 73, 3) := by decide +kernel
theorem dX8_error_17 : decode cX8_error 17 = .ok (.iload_n 2, 1) := by decide +kernel
theorem dX8_error_18 : decode cX8_error 18 = .ok (.invokevirtual 109, 3) := by decide +kernel
theorem dX8_error_21 : decode cX8_error 21 = .ok (.aload_n 0, 1) := by decide +kernel
theorem dX8_error_22 : decode cX8_error 22 = .ok (.getfield 12, 3) := by decide +kernel
theorem dX8_error_25 : decode cX8_error 25 = .ok (.getfield 113, 3) := by decide +kernel
theorem dX8_error_28 : decode cX8_error 28 = .ok (.iload_n 2, 1) := by decide +kernel
theorem dX8_error_29 : decode cX8_error 29 = .ok (.invokevirtual 109, 3) := by decide +kernel
theorem dX8_error_32 : decode cX8_error 32 = .ok (.isub, 1) := by decide +kernel
theorem dX8_error_33 : decode cX8_error 33 = .ok (.istore_n 3, 1) := by decide +kernel
theorem dX8_error_34 : decode cX8_error 34 = .ok (.iload_n 1, 1) := by decide +kernel
theorem dX8_error_35 : decode cX8_error 35 = .ok (.iload_n 3, 1) := by decide +kernel
theorem dX8_error_36 : decode cX8_error 36 = .ok (.iload_n 3, 1) := by decide +kernel
theorem dX8_error_37 : decode cX8_error 37 = .ok (.imul, 1) := by decide +kernel
theorem dX8_error_38 : decode cX8_error 38 = .ok (.iadd, 1) := by decide +kernel
