theorem dX8_receiveBlock_98 : decode cX8_receiveBlock 98 = .ok (.getfield 12, 3) := by decide +kernel
theorem dX8_receiveBlock_101 : decode cX8_receiveBlock 101 = .ok (.getfield 116, 3) := by decide +kernel
theorem dX8_receiveBlock_104 : decode cX8_receiveBlock 104 = .ok (.iload 5, 2) := by decide +kernel
theorem dX8_receiveBlock_106 : decode cX8_receiveBlock 106 = .ok (.iconst 0, 1) := by decide +kernel
theorem dX8_receiveBlock_107 : decode cX8_receiveBlock 107 = .ok (.iload 6, 2) := by decide +kernel
theorem dX8_receiveBlock_109 : decode cX8_receiveBlock 109 = .ok (.bipush 15, 2) := by decide +kernel
theorem dX8_receiveBlock_111 : decode cX8_receiveBlock 111 = .ok (.invokestatic 290, 3) := by decide +kernel
theorem dX8_receiveBlock_114 : decode cX8_receiveBlock 114 = .ok (.invokestatic 293, 3) := by decide +kernel
theorem dX8_receiveBlock_117 : decode cX8_receiveBlock 117 = .ok (.invokevirtual 76, 3) := by decide +kernel
theorem dX8_receiveBlock_120 : decode cX8_receiveBlock 120 = .ok (.pop, 1) := by decide +kernel
theorem dX8_receiveBlock_121 : decode cX8_receiveBlock 121 = .ok (.iinc 4 1, 3) := by decide +kernel
theorem dX8_receiveBlock_124 : decode cX8_receiveBlock 124 = .ok (.goto (-103), 3) := by decide +kernel
theorem dX8_receiveBlock_127 : decode cX8_receiveBlock 127 = .ok (.return_, 1) := by decide +kernel
set_option maxRecDepth 20000 in
theorem ggX8_execute_X1_signAt : GoodIn wsX8_execute wsX1_signAt := goodIn_r _ [5, 6, 7, 158, 159] (by decide +kernel) (by decide +kernel)
set_option maxRecDepth 20000 in
theorem gX8_execute_X1_signAt_n296 : GoodIn wsX8_execute (wsX1_signAt) := ggX8_execute_X1_signAt
set_option maxRecDepth 20000 in
theorem ggX8_execute_X8_drawByCommand : GoodIn wsX8_execute wsX8_drawByCommand := goodIn_r _ [12, 1, 13, 14, 3, 15, 16, 17, 18, 19, 20, 6, 21, 2, 4, 5, 7, 22, 23, 24, 25, 26, 27, 28, 29, 150, 151, 152, 153, 154, 155, 156, 157, 160, 161, 162, 163, 164, 165, 166, 167, 168, 169, 158, 159, 170] (by decide +kernel) (by decide +kernel)
set_option maxRecDepth 20000 in
theorem gX8_execute_X8_drawByCommand : GoodIn wsX8_execute (wsV RX8 300 RX8 yX8_drawByCommand wsX8_drawByCommand) := goodIn_app (goodIn_of _ (by decide +kernel)) ggX8_execute_X8_drawByCommand
set_option maxRecDepth 20000 in
theorem ggX8_execute_X8_scrollDrawn : GoodIn wsX8_execute wsX8_scrollDrawn := goodIn_r _ [33, 34, 13, 35, 26, 36, 37, 29, 38, 39, 40, 41, 42, 43, 44, 45, 46, 47, 48, 49, 25, 27, 28, 150, 151, 152, 153, 154, 155, 156, 157, 160, 161, 162, 163, 164, 165, 166, 167, 168, 169, 170] (by decide +kernel) (by decide +kernel)
set_option maxRecDepth 20000 in
theorem gX8_execute_X8_scrollDrawn : GoodIn wsX8_execute (wsV RX8 84 RX8 yX8_scrollDrawn wsX8_scrollDrawn) := goodIn_app (goodIn_of _ (by decide +kernel)) ggX8_execute_X8_scrollDrawn
set_option maxRecDepth 20000 in
theorem ggX8_execute_X8_maySend : GoodIn wsX8_execute wsX8_maySend := goodIn_r _ [53, 13, 150, 151, 152, 153, 154, 155, 156, 157, 160, 161, 162, 163, 164, 165, 166, 167, 168, 169] (by decide +kernel) (by decide +kernel)
set_option maxRecDepth 20000 in
theorem gX8_execute_X8_maySend : GoodIn wsX8_execute (wsV RX8 87 RX8 yX8_maySend wsX8_maySend) := goodIn_app (goodIn_of _ (by decide +kernel)) ggX8_execute_X8_maySend
set_option maxRecDepth 20000 in
theorem ggX8_execute_X8_sendDrawn : GoodIn wsX8_execute wsX8_sendDrawn := goodIn_r _ [57, 58, 13, 59, 60, 61, 62, 63, 64, 65, 66, 67, 68, 69, 70, 71, 72, 73, 74, 75, 76, 77, 78, 79, 80, 81, 82, 83, 84, 85, 86, 11, 87, 88, 89, 90, 91, 92, 26, 93, 94, 29, 46, 47, 48, 95, 96, 97, 98, 99, 100, 101, 102, 103, 104, 25, 27, 28, 105, 106, 107, 108, 109, 110, 111, 112, 113, 114, 115, 116, 117, 118, 119, 120, 121, 122, 123, 34, 35, 36, 37, 38, 39, 40, 41, 124, 125, 126, 127, 128, 129, 130, 131, 132, 133, 134, 135, 136, 137, 138, 139, 140, 141, 142, 143, 144, 145, 146, 147, 148, 149, 150, 151, 152, 153, 154, 155, 156, 157, 160, 161, 162, 163, 164, 165, 166, 167, 168, 169, 171, 172, 173, 174, 175, 176, 170] (by decide +kernel) (by decide +kernel)
set_option maxRecDepth 20000 in
theorem gX8_execute_X8_sendDrawn : GoodIn wsX8_execute (wsV RX8 98 RX8 yX8_sendDrawn wsX8_sendDrawn) := goodIn_app (goodIn_of _ (by decide +kernel)) ggX8_execute_X8_sendDrawn
theorem dX8_execute_0 : decode cX8_execute 0 = .ok (.aload_n 0, 1) := by decide +kernel
theorem dX8_execute_1 : decode cX8_execute 1 = .ok (.getfield 40, 3) := by decide +kernel
theorem dX8_execute_4 : decode cX8_execute 4 = .ok (.iload_n 1, 1) := by decide +kernel
theorem dX8_execute_5 : decode cX8_execute 5 = .ok (.invokevirtual 296, 3) := by decide +kernel
theorem dX8_execute_8 : decode cX8_execute 8 = .ok (.istore_n 2, 1) := by decide +kernel
theorem dX8_execute_9 : decode cX8_execute 9 = .ok (.iload_n 2, 1) := by decide +kernel
theorem dX8_execute_10 : decode cX8_execute 10 = .ok (.lookupswitch 92 #[(100, 65), (108, 74), (112, 50), (114, 83), (117, 56)], 50) := by decide +kernel
theorem dX8_execute_60 : decode cX8_execute 60 = .ok (.aload_n 0, 1) := by decide +kernel
theorem dX8_execute_61 : decode cX8_execute 61 = .ok (.iload_n 1, 1) := by decide +kernel
theorem dX8_execute_62 : decode cX8_execute 62 = .ok (.invokevirtual 300, 3) := by decide +kernel
theorem dX8_execute_65 : decode cX8_execute 65 = .ok (.ireturn, 1) := by decide +kernel
theorem dX8_execute_66 : decode cX8_execute 66 = .ok (.aload_n 0, 1) := by decide +kernel
theorem dX8_execute_67 : decode cX8_execute 67 = .ok (.iconst 1, 1) := by decide +kernel
theorem dX8_execute_68 : decode cX8_execute 68 = .ok (.iconst 0, 1) := by decide +kernel
theorem dX8_execute_69 : decode cX8_execute 69 = .ok (.invokevirtual 84, 3) := by decide +kernel
theorem dX8_execute_72 : decode cX8_execute 72 = .ok (.pop, 1) := by decide +kernel
theorem dX8_execute_73 : decode cX8_execute 73 = .ok (.iconst 1, 1) := by decide +kernel
theorem dX8_execute_74 : decode cX8_execute 74 = .ok (.ireturn, 1) := by decide +kernel
theorem dX8_execute_75 : decode cX8_execute 75 = .ok (.aload_n 0, 1) := by decide +kernel
theorem dX8_execute_76 : decode cX8_execute 76 = .ok (.iconst (-1), 1) := by decide +kernel
theorem dX8_execute_77 : decode cX8_execute 77 = .ok (.iconst 0, 1) := by decide +kernel
theorem dX8_execute_78 : decode cX8_execute 78 = .ok (.invokevirtual 84, 3) := by decide +kernel
theorem dX8_execute_81 : decode cX8_execute 81 = .ok (.pop, 1) := by decide +kernel
theorem dX8_execute_82 : decode cX8_execute 82 = .ok (.iconst 1, 1) := by decide +kernel
theorem dX8_execute_83 : decode cX8_execute 83 = .ok (.ireturn, 1) := by decide +kernel
theorem dX8_execute_84 : decode cX8_execute 84 = .ok (.aload_n 0, 1) := by decide +kernel
theorem dX8_execute_85 : decode cX8_execute 85 = .ok (.iconst 0, 1) := by decide +kernel
theorem dX8_execute_86 : decode cX8_execute 86 = .ok (.iconst 1, 1) := by decide +kernel
theorem dX8_execute_87 : decode cX8_execute 87 = .ok (.invokevirtual 84, 3) := by decide +kernel
theorem dX8_execute_90 : decode cX8_execute 90 = .ok (.pop, 1) := by decide +kernel
theorem dX8_execute_91 : decode cX8_execute 91 = .ok (.iconst 1, 1) := by decide +kernel
theorem dX8_execute_92 : decode cX8_execute 92 = .ok (.ireturn, 1) := by decide +kernel
theorem dX8_execute_93 : decode cX8_execute 93 = .ok (.aload_n 0, 1) := by decide +kernel
theorem dX8_execute_94 : decode cX8_execute 94 = .ok (.iconst 0, 1) := by decide +kernel
theorem dX8_execute_95 : decode cX8_execute 95 = .ok (.iconst (-1), 1) := by decide +kernel
theorem dX8_execute_96 : decode cX8_execute 96 = .ok (.invokevirtual 84, 3) := by decide +kernel
theorem dX8_execute_99 : decode cX8_execute 99 = .ok (.pop, 1) := by decide +kernel
theorem dX8_execute_100 : decode cX8_execute 100 = .ok (.iconst 1, 1) := by decide +kernel
theorem dX8_execute_101 : decode cX8_execute 101 = .ok (.ireturn, 1) := by decide +kernel
theorem dX8_execute_102 : decode cX8_execute 102 = .ok (.aload_n 0, 1) := by decide +kernel
theorem dX8_execute_103 : decode cX8_execute 103 = .ok (.invokevirtual 87, 3) := by decide +kernel
theorem dX8_execute_106 : decode cX8_execute 106 = .ok (.ifCond .ne 5, 3) := by decide +kernel
theorem dX8_execute_109 : decode cX8_execute 109 = .ok (.iconst 0, 1) := by decide +kernel
theorem dX8_execute_110 : decode cX8_execute 110 = .ok (.ireturn, 1) := by decide +kernel
theorem dX8_execute_111 : decode cX8_execute 111 = .ok (.aload_n 0, 1) := by decide +kernel
theorem dX8_execute_112 : decode cX8_execute 112 = .ok (.iload_n 2, 1) := by decide +kernel
theorem dX8_execute_113 : decode cX8_execute 113 = .ok (.bipush 120, 2) := by decide +kernel
theorem dX8_execute_115 : decode cX8_execute 115 = .ok (.if_icmp .ne 7, 3) := by decide +kernel
theorem dX8_execute_118 : decode cX8_execute 118 = .ok (.iconst 1, 1) := by decide +kernel
theorem dX8_execute_119 : decode cX8_execute 119 = .ok (.goto 4, 3) := by decide +kernel
theorem dX8_execute_122 : decode cX8_execute 122 = .ok (.iconst 0, 1) := by decide +kernel
theorem dX8_execute_123 : decode cX8_execute 123 = .ok (.invokevirtual 98, 3) := by decide +kernel
theorem dX8_execute_126 : decode cX8_execute 126 = .ok (.pop, 1) := by decide +kernel
theorem dX8_execute_127 : decode cX8_execute 127 = .ok (.iconst 1, 1) := by decide +kernel
theorem dX8_execute_128 : decode cX8_execute 128 = .ok (.ireturn, 1) := by decide +kernel
set_option maxRecDepth 20000 in
theorem ggX8_drawByCommand_X1_numberFrom : GoodIn wsX8_drawByCommand wsX1_numberFrom := goodIn_r _ [6, 7, 8, 9, 4, 10, 11, 12, 13, 14, 15, 16, 17, 18, 19, 43, 44] (by decide +kernel) (by decide +kernel)
set_option maxRecDepth 20000 in
theorem gX8_drawByCommand_X1_numberFrom_n303 : GoodIn wsX8_drawByCommand (wsX1_numberFrom) := ggX8_drawByCommand_X1_numberFrom
set_option maxRecDepth 20000 in
theorem ggX8_drawByCommand_X1_afterNumber : GoodIn wsX8_drawByCommand wsX1_afterNumber := goodIn_r _ [10, 11, 12, 13, 14, 4, 15, 16, 17, 18, 19, 43, 44] (by decide +kernel) (by decide +kernel)
set_option maxRecDepth 20000 in
theorem gX8_drawByCommand_X1_afterNumber_n306 : GoodIn wsX8_drawByCommand (wsX1_afterNumber) := ggX8_drawByCommand_X1_afterNumber
set_option maxRecDepth 20000 in
theorem ggX8_drawByCommand_X4_put : GoodIn wsX8_drawByCommand wsX4_put := goodIn_r _ [23, 24, 45] (by decide +kernel) (by decide +kernel)
set_option maxRecDepth 20000 in
theorem gX8_drawByCommand_X4_put_n76 : GoodIn wsX8_drawByCommand (wsX4_put) := ggX8_drawByCommand_X4_put
theorem dX8_drawByCommand_0 : decode cX8_drawByCommand 0 = .ok (.aload_n 0, 1) := by decide +kernel
theorem dX8_drawByCommand_1 : decode cX8_drawByCommand 1 = .ok (.getfield 40, 3) := by decide +kernel
theorem dX8_drawByCommand_4 : decode cX8_drawByCommand 4 = .ok (.iload_n 1, 1) := by decide +kernel
theorem dX8_drawByCommand_5 : decode cX8_drawByCommand 5 = .ok (.iconst 1, 1) := by decide +kernel
theorem dX8_drawByCommand_6 : decode cX8_drawByCommand 6 = .ok (.iadd, 1) := by decide +kernel
theorem dX8_drawByCommand_7 : decode cX8_drawByCommand 7 = .ok (.invokevirtual 303, 3) := by decide +kernel
theorem dX8_drawByCommand_10 : decode cX8_drawByCommand 10 = .ok (.istore_n 2, 1) := by decide +kernel
theorem dX8_drawByCommand_11 : decode cX8_drawByCommand 11 = .ok (.aload_n 0, 1) := by decide +kernel
theorem dX8_drawByCommand_12 : decode cX8_drawByCommand 12 = .ok (.getfield 40, 3) := by decide +kernel
theorem dX8_drawByCommand_15 : decode cX8_drawByCommand 15 = .ok (.aload_n 0, 1) := by decide +kernel
theorem dX8_drawByCommand_16 : decode cX8_drawByCommand 16 = .ok (.getfield 40, 3) := by decide +kernel
theorem dX8_drawByCommand_19 : decode cX8_drawByCommand 19 = .ok (.iload_n 1, 1) := by decide +kernel
theorem dX8_drawByCommand_20 : decode cX8_drawByCommand 20 = .ok (.iconst 1, 1) := by decide +kernel
theorem dX8_drawByCommand_21 : decode cX8_drawByCommand 21 = .ok (.iadd, 1) := by decide +kernel
theorem dX8_drawByCommand_22 : decode cX8_drawByCommand 22 = .ok (.invokevirtual 306, 3) := by decide +kernel
theorem dX8_drawByCommand_25 : decode cX8_drawByCommand 25 = .ok (.iconst 1, 1) := by decide +kernel
theorem dX8_drawByCommand_26 : decode cX8_drawByCommand 26 = .ok (.iadd, 1) := by decide +kernel
theorem dX8_drawByCommand_27 : decode cX8_drawByCommand 27 = .ok (.invokevirtual 303, 3) := by decide +kernel
theorem dX8_drawByCommand_30 : decode cX8_drawByCommand 30 = .ok (.istore_n 3, 1) := by decide +kernel
theorem dX8_drawByCommand_31 : decode cX8_drawByCommand 31 = .ok (.iload_n 2, 1) := by decide +kernel
theorem dX8_drawByCommand_32 : decode cX8_drawByCommand 32 = .ok (.bipush 64, 2) := by decide +kernel
theorem dX8_drawByCommand_34 : decode cX8_drawByCommand 34 = .ok (.if_icmp .ge 9, 3) := by decide +kernel
theorem dX8_drawByCommand_37 : decode cX8_drawByCommand 37 = .ok (.iload_n 3, 1) := by decide +kernel
theorem dX8_drawByCommand_38 : decode cX8_drawByCommand 38 = .ok (.bipush 15, 2) := by decide +kernel
theorem dX8_drawByCommand_40 : decode cX8_drawByCommand 40 = .ok (.if_icmp .le 5, 3) := by decide +kernel
theorem dX8_drawByCommand_43 : decode cX8_drawByCommand 43 = .ok (.iconst 0, 1) := by decide +kernel
theorem dX8_drawByCommand_44 : decode cX8_drawByCommand 44 = .ok (.ireturn, 1) := by decide +kernel
theorem dX8_drawByCommand_45 : decode cX8_drawByCommand 45 = .ok (.aload_n 0, 1) := by decide +kernel
theorem dX8_drawByCommand_46 : decode cX8_drawByCommand 46 = .ok (.getfield 12, 3) := by decide +kernel
theorem dX8_drawByCommand_49 : decode cX8_drawByCommand 49 = .ok (.getfield 73, 3) := by decide +kernel
theorem dX8_drawByCommand_52 : decode cX8_drawByCommand 52 = .ok (.iload_n 2, 1) := by decide +kernel
theorem dX8_drawByCommand_53 : decode cX8_drawByCommand 53 = .ok (.iload_n 3, 1) := by decide +kernel
theorem dX8_drawByCommand_54 : decode cX8_drawByCommand 54 = .ok (.invokevirtual 76, 3) := by decide +kernel
theorem dX8_drawByCommand_57 : decode cX8_drawByCommand 57 = .ok (.pop, 1) := by decide +kernel
theorem dX8_drawByCommand_58 : decode cX8_drawByCommand 58 = .ok (.iconst 1, 1) := by decide +kernel
theorem dX8_drawByCommand_59 : decode cX8_drawByCommand 59 = .ok (.ireturn, 1) := by decide +kernel
theorem dX8_pixelIn_0 : decode cX8_pixelIn 0 = .ok (.iconst 4, 1) := by decide +kernel
theorem dX8_pixelIn_1 : decode cX8_pixelIn 1 = .ok (.iload_n 0, 1) := by decide +kernel
theorem dX8_pixelIn_2 : decode cX8_pixelIn 2 = .ok (.iconst 2, 1) := by decide +kernel
theorem dX8_pixelIn_3 : decode cX8_pixelIn 3 = .ok (.idiv, 1) := by decide +kernel
theorem dX8_pixelIn_4 : decode cX8_pixelIn 4 = .ok (.imul, 1) := by decide +kernel
theorem dX8_pixelIn_5 : decode cX8_pixelIn 5 = .ok (.iload_n 1, 1) := by decide +kernel
theorem dX8_pixelIn_6 : decode cX8_pixelIn 6 = .ok (.iconst 4, 1) := by decide +kernel
theorem dX8_pixelIn_7 : decode cX8_pixelIn 7 = .ok (.idiv, 1) := by decide +kernel
theorem dX8_pixelIn_8 : decode cX8_pixelIn 8 = .ok (.iadd, 1) := by decide +kernel
theorem dX8_pixelIn_9 : decode cX8_pixelIn 9 = .ok (.istore_n 2, 1) := by decide +kernel
theorem dX8_pixelIn_10 : decode cX8_pixelIn 10 = .ok (.iconst 4, 1) := by decide +kernel
theorem dX8_pixelIn_11 : decode cX8_pixelIn 11 = .ok (.iload_n 0, 1) := by decide +kernel
theorem dX8_pixelIn_12 : decode cX8_pixelIn 12 = .ok (.iconst 2, 1) := by decide +kernel
theorem dX8_pixelIn_13 : decode cX8_pixelIn 13 = .ok (.irem, 1) := by decide +kernel
theorem dX8_pixelIn_14 : decode cX8_pixelIn 14 = .ok (.imul, 1) := by decide +kernel
theorem dX8_pixelIn_15 : decode cX8_pixelIn 15 = .ok (.iload_n 1, 1) := by decide +kernel
theorem dX8_pixelIn_16 : decode cX8_pixelIn 16 = .ok (.iconst 4, 1) := by decide +kernel
theorem dX8_pixelIn_17 : decode cX8_pixelIn 17 = .ok (.irem, 1) := by decide +kernel
theorem dX8_pixelIn_18 : decode cX8_pixelIn 18 = .ok (.iadd, 1) := by decide +kernel
theorem dX8_pixelIn_19 : decode cX8_pixelIn 19 = .ok (.istore_n 3, 1) := by decide +kernel
theorem dX8_pixelIn_20 : decode cX8_pixelIn 20 = .ok (.bipush 8, 2) := by decide +kernel
theorem dX8_pixelIn_22 : decode cX8_pixelIn 22 = .ok (.iload_n 2, 1) := by decide +kernel
theorem dX8_pixelIn_23 : decode cX8_pixelIn 23 = .ok (.imul, 1) := by decide +kernel
theorem dX8_pixelIn_24 : decode cX8_pixelIn 24 = .ok (.iload_n 3, 1) := by decide +kernel
theorem dX8_pixelIn_25 : decode cX8_pixelIn 25 = .ok (.iadd, 1) := by decide +kernel
theorem dX8_pixelIn_26 : decode cX8_pixelIn 26 = .ok (.ireturn, 1) := by decide +kernel
theorem dX8_downOf_0 : decode cX8_downOf 0 = .ok (.iload_n 0, 1) := by decide +kernel
theorem dX8_downOf_1 : decode cX8_downOf 1 = .ok (.iconst 5, 1) := by decide +kernel
theorem dX8_downOf_2 : decode cX8_downOf 2 = .ok (.idiv, 1) := by decide +kernel
theorem dX8_downOf_3 : decode cX8_downOf 3 = .ok (.iconst 2, 1) := by decide +kernel
theorem dX8_downOf_4 : decode cX8_downOf 4 = .ok (.isub, 1) := by decide +kernel
theorem dX8_downOf_5 : decode cX8_downOf 5 = .ok (.ireturn, 1) := by decide +kernel
theorem dX8_rightOf_0 : decode cX8_rightOf 0 = .ok (.iload_n 0, 1) := by decide +kernel
theorem dX8_rightOf_1 : decode cX8_rightOf 1 = .ok (.iconst 5, 1) := by decide +kernel
theorem dX8_rightOf_2 : decode cX8_rightOf 2 = .ok (.irem, 1) := by decide +kernel
theorem dX8_rightOf_3 : decode cX8_rightOf 3 = .ok (.iconst 2, 1) := by decide +kernel
theorem dX8_rightOf_4 : decode cX8_rightOf 4 = .ok (.isub, 1) := by decide +kernel
theorem dX8_rightOf_5 : decode cX8_rightOf 5 = .ok (.ireturn, 1) := by decide +kernel
theorem dX9_init_0 : decode cX9_init 0 = .ok (.aload_n 0, 1) := by decide +kernel
theorem dX9_init_1 : decode cX9_init 1 = .ok (.invokespecial 1, 3) := by decide +kernel
theorem dX9_init_4 : decode cX9_init 4 = .ok (.aload_n 0, 1) := by decide +kernel
theorem dX9_init_5 : decode cX9_init 5 = .ok (.sipush 205, 3) := by decide +kernel
theorem dX9_init_8 : decode cX9_init 8 = .ok (.newarray .int, 2) := by decide +kernel
theorem dX9_init_10 : decode cX9_init 10 = .ok (.putfield 7, 3) := by decide +kernel
theorem dX9_init_13 : decode cX9_init 13 = .ok (.aload_n 0, 1) := by decide +kernel
theorem dX9_init_14 : decode cX9_init 14 = .ok (.sipush 1230, 3) := by decide +kernel
theorem dX9_init_17 : decode cX9_init 17 = .ok (.newarray .int, 2) := by decide +kernel
theorem dX9_init_19 : decode cX9_init 19 = .ok (.putfield 13, 3) := by decide +kernel
theorem dX9_init_22 : decode cX9_init 22 = .ok (.aload_n 0, 1) := by decide +kernel
theorem dX9_init_23 : decode cX9_init 23 = .ok (.sipush 410, 3) := by decide +kernel
theorem dX9_init_26 : decode cX9_init 26 = .ok (.newarray .int, 2) := by decide +kernel
theorem dX9_init_28 : decode cX9_init 28 = .ok (.putfield 16, 3) := by decide +kernel
theorem dX9_init_31 : decode cX9_init 31 = .ok (.aload_n 0, 1) := by decide +kernel
theorem dX9_init_32 : decode cX9_init 32 = .ok (.bipush 80, 2) := by decide +kernel
theorem dX9_init_34 : decode cX9_init 34 = .ok (.newarray .int, 2) := by decide +kernel
theorem dX9_init_36 : decode cX9_init 36 = .ok (.putfield 19, 3) := by decide +kernel
theorem dX9_init_39 : decode cX9_init 39 = .ok (.aload_n 0, 1) := by decide +kernel
theorem dX9_init_40 : decode cX9_init 40 = .ok (.sipush 128, 3) := by decide +kernel
theorem dX9_init_43 : decode cX9_init 43 = .ok (.newarray .int, 2) := by decide +kernel
theorem dX9_init_45 : decode cX9_init 45 = .ok (.putfield 22, 3) := by decide +kernel
theorem dX9_init_48 : decode cX9_init 48 = .ok (.aload_n 0, 1) := by decide +kernel
theorem dX9_init_49 : decode cX9_init 49 = .ok (.getfield 7, 3) := by decide +kernel
theorem dX9_init_52 : decode cX9_init 52 = .ok (.sipush 192, 3) := by decide +kernel
theorem dX9_init_55 : decode cX9_init 55 = .ok (.bipush 120, 2) := by decide +kernel
theorem dX9_init_57 : decode cX9_init 57 = .ok (.iastore, 1) := by decide +kernel
theorem dX9_init_58 : decode cX9_init 58 = .ok (.aload_n 0, 1) := by decide +kernel
theorem dX9_init_59 : decode cX9_init 59 = .ok (.getfield 7, 3) := by decide +kernel
theorem dX9_init_62 : decode cX9_init 62 = .ok (.sipush 193, 3) := by decide +kernel
theorem dX9_init_65 : decode cX9_init 65 = .ok (.bipush 8, 2) := by decide +kernel
theorem dX9_init_67 : decode cX9_init 67 = .ok (.iastore, 1) := by decide +kernel
theorem dX9_init_68 : decode cX9_init 68 = .ok (.return_, 1) := by decide +kernel
theorem dX9_thrown_0 : decode cX9_thrown 0 = .ok (.aload_n 0, 1) := by decide +kernel
theorem dX9_thrown_1 : decode cX9_thrown 1 = .ok (.getfield 25, 3) := by decide +kernel
theorem dX9_thrown_4 : decode cX9_thrown 4 = .ok (.ireturn, 1) := by decide +kernel
theorem dX9_in_0 : decode cX9_in 0 = .ok (.iload_n 0, 1) := by decide +kernel
theorem dX9_in_1 : decode cX9_in 1 = .ok (.iload_n 1, 1) := by decide +kernel
theorem dX9_in_2 : decode cX9_in 2 = .ok (.if_icmp .lt 12, 3) := by decide +kernel
theorem dX9_in_5 : decode cX9_in 5 = .ok (.iload_n 0, 1) := by decide +kernel
theorem dX9_in_6 : decode cX9_in 6 = .ok (.iload_n 2, 1) := by decide +kernel
theorem dX9_in_7 : decode cX9_in 7 = .ok (.if_icmp .gt 7, 3) := by decide +kernel
theorem dX9_in_10 : decode cX9_in 10 = .ok (.iconst 1, 1) := by decide +kernel
theorem dX9_in_11 : decode cX9_in 11 = .ok (.goto 4, 3) := by decide +kernel
theorem dX9_in_14 : decode cX9_in 14 = .ok (.iconst 0, 1) := by decide +kernel
theorem dX9_in_15 : decode cX9_in 15 = .ok (.ireturn, 1) := by decide +kernel
theorem dX9_holds_0 : decode cX9_holds 0 = .ok (.aload_n 0, 1) := by decide +kernel
theorem dX9_holds_1 : decode cX9_holds 1 = .ok (.iload_n 1, 1) := by decide +kernel
theorem dX9_holds_2 : decode cX9_holds 2 = .ok (.putfield 25, 3) := by decide +kernel
theorem dX9_holds_5 : decode cX9_holds 5 = .ok (.iload_n 1, 1) := by decide +kernel
theorem dX9_holds_6 : decode cX9_holds 6 = .ok (.ifCond .ne 7, 3) := by decide +kernel
theorem dX9_holds_9 : decode cX9_holds 9 = .ok (.iconst 1, 1) := by decide +kernel
theorem dX9_holds_10 : decode cX9_holds 10 = .ok (.goto 4, 3) := by decide +kernel
theorem dX9_holds_13 : decode cX9_holds 13 = .ok (.iconst 0, 1) := by decide +kernel
theorem dX9_holds_14 : decode cX9_holds 14 = .ok (.ireturn, 1) := by decide +kernel
set_option maxRecDepth 20000 in
theorem ggX9_isPixel_X9_in : GoodIn wsX9_isPixel wsX9_in := goodIn_r _ [4] (by decide +kernel) (by decide +kernel)
set_option maxRecDepth 20000 in
theorem gX9_isPixel_X9_in : GoodIn wsX9_isPixel (va_wsS RX9 29 yX9_in wsX9_in) := goodIn_app (goodIn_of _ (by decide +kernel)) ggX9_isPixel_X9_in
theorem dX9_isPixel_0 : decode cX9_isPixel 0 = .ok (.iload_n 0, 1) := by decide +kernel
theorem dX9_isPixel_1 : decode cX9_isPixel 1 = .ok (.iconst 0, 1) := by decide +kernel
theorem dX9_isPixel_2 : decode cX9_isPixel 2 = .ok (.bipush 63, 2) := by decide +kernel
theorem dX9_isPixel_4 : decode cX9_isPixel 4 = .ok (.invokestatic 29, 3) := by decide +kernel
theorem dX9_isPixel_7 : decode cX9_isPixel 7 = .ok (.ireturn, 1) := by decide +kernel
set_option maxRecDepth 20000 in
theorem ggX9_isBlock_X9_in : GoodIn wsX9_isBlock wsX9_in := goodIn_r _ [4] (by decide +kernel) (by decide +kernel)
set_option maxRecDepth 20000 in
theorem gX9_isBlock_X9_in : GoodIn wsX9_isBlock (va_wsS RX9 29 yX9_in wsX9_in) := goodIn_app (goodIn_of _ (by decide +kernel)) ggX9_isBlock_X9_in
theorem dX9_isBlock_0 : decode cX9_isBlock 0 = .ok (.iload_n 0, 1) := by decide +kernel
theorem dX9_isBlock_1 : decode cX9_isBlock 1 = .ok (.iconst 0, 1) := by decide +kernel
theorem dX9_isBlock_2 : decode cX9_isBlock 2 = .ok (.iconst 3, 1) := by decide +kernel
theorem dX9_isBlock_3 : decode cX9_isBlock 3 = .ok (.invokestatic 29, 3) := by decide +kernel
theorem dX9_isBlock_6 : decode cX9_isBlock 6 = .ok (.ireturn, 1) := by decide +kernel
theorem dX9_record_0 : decode cX9_record 0 = .ok (.aload_n 0, 1) := by decide +kernel
theorem dX9_record_1 : decode cX9_record 1 = .ok (.getfield 33, 3) := by decide +kernel
theorem dX9_record_4 : decode cX9_record 4 = .ok (.bipush 6, 2) := by decide +kernel
theorem dX9_record_6 : decode cX9_record 6 = .ok (.if_icmp .ne 44, 3) := by decide +kernel
theorem dX9_record_9 : decode cX9_record 9 = .ok (.iconst 0, 1) := by decide +kernel
theorem dX9_record_10 : decode cX9_record 10 = .ok (.istore_n 1, 1) := by decide +kernel
theorem dX9_record_11 : decode cX9_record 11 = .ok (.iload_n 1, 1) := by decide +kernel
theorem dX9_record_12 : decode cX9_record 12 = .ok (.sipush 1025, 3) := by decide +kernel
theorem dX9_record_15 : decode cX9_record 15 = .ok (.if_icmp .ge 25, 3) := by decide +kernel
theorem dX9_record_18 : decode cX9_record 18 = .ok (.aload_n 0, 1) := by decide +kernel
theorem dX9_record_19 : decode cX9_record 19 = .ok (.getfield 13, 3) := by decide +kernel
theorem dX9_record_22 : decode cX9_record 22 = .ok (.iload_n 1, 1) := by decide +kernel
theorem dX9_record_23 : decode cX9_record 23 = .ok (.aload_n 0, 1) := by decide +kernel
theorem dX9_record_24 : decode cX9_record 24 = .ok (.getfield 13, 3) := by decide +kernel
theorem dX9_record_27 : decode cX9_record 27 = .ok (.iload_n 1, 1) := by decide +kernel
theorem dX9_record_28 : decode cX9_record 28 = .ok (.sipush 205, 3) := by decide +kernel
theorem dX9_record_31 : decode cX9_record 31 = .ok (.iadd, 1) := by decide +kernel
theorem dX9_record_32 : decode cX9_record 32 = .ok (.iaload, 1) := by decide +kernel
theorem dX9_record_33 : decode cX9_record 33 = .ok (.iastore, 1) := by decide +kernel
theorem dX9_record_34 : decode cX9_record 34 = .ok (.iinc 1 1, 3) := by decide +kernel
theorem dX9_record_37 : decode cX9_record 37 = .ok (.goto (-26), 3) := by decide +kernel
theorem dX9_record_40 : decode cX9_record 40 = .ok (.aload_n 0, 1) := by decide +kernel
theorem dX9_record_41 : decode cX9_record 41 = .ok (.dup, 1) := by decide +kernel
theorem dX9_record_42 : decode cX9_record 42 = .ok (.getfield 33, 3) := by decide +kernel
theorem dX9_record_45 : decode cX9_record 45 = .ok (.iconst 1, 1) := by decide +kernel
theorem dX9_record_46 : decode cX9_record 46 = .ok (.isub, 1) := by decide +kernel
theorem dX9_record_47 : decode cX9_record 47 = .ok (.putfield 33, 3) := by decide +kernel
theorem dX9_record_50 : decode cX9_record 50 = .ok (.iconst 0, 1) := by decide +kernel
theorem dX9_record_51 : decode cX9_record 51 = .ok (.istore_n 1, 1) := by decide +kernel
theorem dX9_record_52 : decode cX9_record 52 = .ok (.iload_n 1, 1) := by decide +kernel
theorem dX9_record_53 : decode cX9_record 53 = .ok (.sipush 205, 3) := by decide +kernel
theorem dX9_record_56 : decode cX9_record 56 = .ok (.if_icmp .ge 30, 3) := by decide +kernel
theorem dX9_record_59 : decode cX9_record 59 = .ok (.aload_n 0, 1) := by decide +kernel
theorem dX9_record_60 : decode cX9_record 60 = .ok (.getfield 13, 3) := by decide +kernel
theorem dX9_record_63 : decode cX9_record 63 = .ok (.sipush 205, 3) := by decide +kernel
theorem dX9_record_66 : decode cX9_record 66 = .ok (.aload_n 0, 1) := by decide +kernel
theorem dX9_record_67 : decode cX9_record 67 = .ok (.getfield 33, 3) := by decide +kernel
theorem dX9_record_70 : decode cX9_record 70 = .ok (.imul, 1) := by decide +kernel
theorem dX9_record_71 : decode cX9_record 71 = .ok (.iload_n 1, 1) := by decide +kernel
theorem dX9_record_72 : decode cX9_record 72 = .ok (.iadd, 1) := by decide +kernel
theorem dX9_record_73 : decode cX9_record 73 = .ok (.aload_n 0, 1) := by decide +kernel
theorem dX9_record_74 : decode cX9_record 74 = .ok (.getfield 7, 3) := by decide +kernel
theorem dX9_record_77 : decode cX9_record 77 = .ok (.iload_n 1, 1) := by decide +kernel
theorem dX9_record_78 : decode cX9_record 78 = .ok (.iaload, 1) := by decide +kernel
theorem dX9_record_79 : decode cX9_record 79 = .ok (.iastore, 1) := by decide +kernel
theorem dX9_record_80 : decode cX9_record 80 = .ok (.iinc 1 1, 3) := by decide +kernel
theorem dX9_record_83 : decode cX9_record 83 = .ok (.goto (-31), 3) := by decide +kernel
theorem dX9_record_86 : decode cX9_record 86 = .ok (.aload_n 0, 1) := by decide +kernel
theorem dX9_record_87 : decode cX9_record 87 = .ok (.dup, 1) := by decide +kernel
theorem dX9_record_88 : decode cX9_record 88 = .ok (.getfield 33, 3) := by decide +kernel
theorem dX9_record_91 : decode cX9_record 91 = .ok (.iconst 1, 1) := by decide +kernel
theorem dX9_record_92 : decode cX9_record 92 = .ok (.iadd, 1) := by decide +kernel
theorem dX9_record_93 : decode cX9_record 93 = .ok (.putfield 33, 3) := by decide +kernel
theorem dX9_record_96 : decode cX9_record 96 = .ok (.return_, 1) := by decide +kernel
theorem dX9_abs_0 : decode cX9_abs 0 = .ok (.iload_n 0, 1) := by decide +kernel
theorem dX9_abs_1 : decode cX9_abs 1 = .ok (.ifCond .ge 8, 3) := by decide +kernel
theorem dX9_abs_4 : decode cX9_abs 4 = .ok (.iload_n 0, 1) := by decide +kernel
theorem dX9_abs_5 : decode cX9_abs 5 = .ok (.ineg, 1) := by decide +kernel
theorem dX9_abs_6 : decode cX9_abs 6 = .ok (.goto 4, 3) := by decide +kernel
theorem dX9_abs_9 : decode cX9_abs 9 = .ok (.iload_n 0, 1) := by decide +kernel
theorem dX9_abs_10 : decode cX9_abs 10 = .ok (.ireturn, 1) := by decide +kernel
theorem dX9_edge_0 : decode cX9_edge 0 = .ok (.iload_n 0, 1) := by decide +kernel
theorem dX9_edge_1 : decode cX9_edge 1 = .ok (.ifCond .ge 7, 3) := by decide +kernel
theorem dX9_edge_4 : decode cX9_edge 4 = .ok (.iconst 0, 1) := by decide +kernel
theorem dX9_edge_5 : decode cX9_edge 5 = .ok (.goto 15, 3) := by decide +kernel
theorem dX9_edge_8 : decode cX9_edge 8 = .ok (.iload_n 0, 1) := by decide +kernel
theorem dX9_edge_9 : decode cX9_edge 9 = .ok (.bipush 7, 2) := by decide +kernel
theorem dX9_edge_11 : decode cX9_edge 11 = .ok (.if_icmp .le 8, 3) := by decide +kernel
theorem dX9_edge_14 : decode cX9_edge 14 = .ok (.bipush 7, 2) := by decide +kernel
theorem dX9_edge_16 : decode cX9_edge 16 = .ok (.goto 4, 3) := by decide +kernel
theorem dX9_edge_19 : decode cX9_edge 19 = .ok (.iload_n 0, 1) := by decide +kernel
theorem dX9_edge_20 : decode cX9_edge 20 = .ok (.ireturn, 1) := by decide +kernel
theorem dX9_pixel_0 : decode cX9_pixel 0 = .ok (.bipush 8, 2) := by decide +kernel
theorem dX9_pixel_2 : decode cX9_pixel 2 = .ok (.iconst 4, 1) := by decide +kernel
theorem dX9_pixel_3 : decode cX9_pixel 3 = .ok (.iload_n 0, 1) := by decide +kernel
theorem dX9_pixel_4 : decode cX9_pixel 4 = .ok (.iconst 2, 1) := by decide +kernel
theorem dX9_pixel_5 : decode cX9_pixel 5 = .ok (.idiv, 1) := by decide +kernel
theorem dX9_pixel_6 : decode cX9_pixel 6 = .ok (.imul, 1) := by decide +kernel
theorem dX9_pixel_7 : decode cX9_pixel 7 = .ok (.iload_n 1, 1) := by decide +kernel
theorem dX9_pixel_8 : decode cX9_pixel 8 = .ok (.iconst 4, 1) := by decide +kernel
theorem dX9_pixel_9 : decode cX9_pixel 9 = .ok (.idiv, 1) := by decide +kernel
theorem dX9_pixel_10 : decode cX9_pixel 10 = .ok (.iadd, 1) := by decide +kernel
theorem dX9_pixel_11 : decode cX9_pixel 11 = .ok (.imul, 1) := by decide +kernel
theorem dX9_pixel_12 : decode cX9_pixel 12 = .ok (.iconst 4, 1) := by decide +kernel
theorem dX9_pixel_13 : decode cX9_pixel 13 = .ok (.iload_n 0, 1) := by decide +kernel
theorem dX9_pixel_14 : decode cX9_pixel 14 = .ok (.iconst 2, 1) := by decide +kernel
theorem dX9_pixel_15 : decode cX9_pixel 15 = .ok (.irem, 1) := by decide +kernel
theorem dX9_pixel_16 : decode cX9_pixel 16 = .ok (.imul, 1) := by decide +kernel
theorem dX9_pixel_17 : decode cX9_pixel 17 = .ok (.iadd, 1) := by decide +kernel
theorem dX9_pixel_18 : decode cX9_pixel 18 = .ok (.iload_n 1, 1) := by decide +kernel
theorem dX9_pixel_19 : decode cX9_pixel 19 = .ok (.iconst 4, 1) := by decide +kernel
theorem dX9_pixel_20 : decode cX9_pixel 20 = .ok (.irem, 1) := by decide +kernel
theorem dX9_pixel_21 : decode cX9_pixel 21 = .ok (.iadd, 1) := by decide +kernel
theorem dX9_pixel_22 : decode cX9_pixel 22 = .ok (.ireturn, 1) := by decide +kernel
set_option maxRecDepth 20000 in
theorem ggX9_from_X9_edge : GoodIn wsX9_from wsX9_edge := goodIn_r _ [4] (by decide +kernel) (by decide +kernel)
set_option maxRecDepth 20000 in
theorem gX9_from_X9_edge : GoodIn wsX9_from (va_wsS RX9 36 yX9_edge wsX9_edge) := goodIn_app (goodIn_of _ (by decide +kernel)) ggX9_from_X9_edge
theorem dX9_from_0 : decode cX9_from 0 = .ok (.bipush 8, 2) := by decide +kernel
theorem dX9_from_2 : decode cX9_from 2 = .ok (.iload_n 0, 1) := by decide +kernel
theorem dX9_from_3 : decode cX9_from 3 = .ok (.bipush 8, 2) := by decide +kernel
theorem dX9_from_5 : decode cX9_from 5 = .ok (.idiv, 1) := by decide +kernel
theorem dX9_from_6 : decode cX9_from 6 = .ok (.iload_n 1, 1) := by decide +kernel
theorem dX9_from_7 : decode cX9_from 7 = .ok (.iadd, 1) := by decide +kernel
theorem dX9_from_8 : decode cX9_from 8 = .ok (.invokestatic 36, 3) := by decide +kernel
theorem dX9_from_11 : decode cX9_from 11 = .ok (.imul, 1) := by decide +kernel
theorem dX9_from_12 : decode cX9_from 12 = .ok (.iload_n 0, 1) := by decide +kernel
theorem dX9_from_13 : decode cX9_from 13 = .ok (.bipush 8, 2) := by decide +kernel
theorem dX9_from_15 : decode cX9_from 15 = .ok (.irem, 1) := by decide +kernel
theorem dX9_from_16 : decode cX9_from 16 = .ok (.iload_n 2, 1) := by decide +kernel
theorem dX9_from_17 : decode cX9_from 17 = .ok (.iadd, 1) := by decide +kernel
theorem dX9_from_18 : decode cX9_from 18 = .ok (.invokestatic 36, 3) := by decide +kernel
theorem dX9_from_21 : decode cX9_from 21 = .ok (.iadd, 1) := by decide +kernel
theorem dX9_from_22 : decode cX9_from 22 = .ok (.ireturn, 1) := by decide +kernel
set_option maxRecDepth 20000 in
theorem ggX9_predicted_X9_from : GoodIn wsX9_predicted wsX9_from := goodIn_r _ [5, 6, 7, 4, 8] (by decide +kernel) (by decide +kernel)
set_option maxRecDepth 20000 in
theorem gX9_predicted_X9_from : GoodIn wsX9_predicted (va_wsS RX9 40 yX9_from wsX9_from) := goodIn_app (goodIn_of _ (by decide +kernel)) ggX9_predicted_X9_from
theorem dX9_predicted_0 : decode cX9_predicted 0 = .ok (.aload_n 0, 1) := by decide +kernel
theorem dX9_predicted_1 : decode cX9_predicted 1 = .ok (.getfield 7, 3) := by decide +kernel
theorem dX9_predicted_4 : decode cX9_predicted 4 = .ok (.iload_n 1, 1) := by decide +kernel
theorem dX9_predicted_5 : decode cX9_predicted 5 = .ok (.iload_n 2, 1) := by decide +kernel
theorem dX9_predicted_6 : decode cX9_predicted 6 = .ok (.iload_n 3, 1) := by decide +kernel
theorem dX9_predicted_7 : decode cX9_predicted 7 = .ok (.iconst 5, 1) := by decide +kernel
theorem dX9_predicted_8 : decode cX9_predicted 8 = .ok (.idiv, 1) := by decide +kernel
theorem dX9_predicted_9 : decode cX9_predicted 9 = .ok (.iconst 2, 1) := by decide +kernel
theorem dX9_predicted_10 : decode cX9_predicted 10 = .ok (.isub, 1) := by decide +kernel
theorem dX9_predicted_11 : decode cX9_predicted 11 = .ok (.iload_n 3, 1) := by decide +kernel
theorem dX9_predicted_12 : decode cX9_predicted 12 = .ok (.iconst 5, 1) := by decide +kernel
theorem dX9_predicted_13 : decode cX9_predicted 13 = .ok (.irem, 1) := by decide +kernel
theorem dX9_predicted_14 : decode cX9_predicted 14 = .ok (.iconst 2, 1) := by decide +kernel
theorem dX9_predicted_15 : decode cX9_predicted 15 = .ok (.isub, 1) := by decide +kernel
theorem dX9_predicted_16 : decode cX9_predicted 16 = .ok (.invokestatic 40, 3) := by decide +kernel
theorem dX9_predicted_19 : decode cX9_predicted 19 = .ok (.iadd, 1) := by decide +kernel
theorem dX9_predicted_20 : decode cX9_predicted 20 = .ok (.iaload, 1) := by decide +kernel
theorem dX9_predicted_21 : decode cX9_predicted 21 = .ok (.ireturn, 1) := by decide +kernel
set_option maxRecDepth 20000 in
theorem ggX9_far_X9_pixel : GoodIn wsX9_far wsX9_pixel := goodIn_r _ [5] (by decide +kernel) (by decide +kernel)
set_option maxRecDepth 20000 in
theorem gX9_far_X9_pixel : GoodIn wsX9_far (va_wsS RX9 44 yX9_pixel wsX9_pixel) := goodIn_app (goodIn_of _ (by decide +kernel)) ggX9_far_X9_pixel
set_option maxRecDepth 20000 in
theorem ggX9_far_X9_predicted : GoodIn wsX9_far wsX9_predicted := goodIn_r _ [9, 1, 10, 11, 4, 12, 13, 14, 15, 19, 20, 21, 22, 23, 24, 25, 26, 27, 28, 29, 30, 31, 32, 33] (by decide +kernel) (by decide +kernel)
set_option maxRecDepth 20000 in
theorem gX9_far_X9_predicted : GoodIn wsX9_far (wsV RX9 48 RX9 yX9_predicted wsX9_predicted) := goodIn_app (goodIn_of _ (by decide +kernel)) ggX9_far_X9_predicted
set_option maxRecDepth 20000 in
theorem ggX9_far_X9_abs : GoodIn wsX9_far wsX9_abs := goodIn_r _ [18] (by decide +kernel) (by decide +kernel)
set_option maxRecDepth 20000 in
theorem gX9_far_X9_abs : GoodIn wsX9_far (va_wsS RX9 51 yX9_abs wsX9_abs) := goodIn_app (goodIn_of _ (by decide +kernel)) ggX9_far_X9_abs
theorem dX9_far_0 : decode cX9_far 0 = .ok (.iconst 0, 1) := by decide +kernel
theorem dX9_far_1 : decode cX9_far 1 = .ok (.istore_n 3, 1) := by decide +kernel
theorem dX9_far_2 : decode cX9_far 2 = .ok (.iconst 0, 1) := by decide +kernel
theorem dX9_far_3 : decode cX9_far 3 = .ok (.istore 4, 2) := by decide +kernel
theorem dX9_far_5 : decode cX9_far 5 = .ok (.iload 4, 2) := by decide +kernel
theorem dX9_far_7 : decode cX9_far 7 = .ok (.bipush 16, 2) := by decide +kernel
theorem dX9_far_9 : decode cX9_far 9 = .ok (.if_icmp .ge 42, 3) := by decide +kernel
theorem dX9_far_12 : decode cX9_far 12 = .ok (.iload_n 1, 1) := by decide +kernel
theorem dX9_far_13 : decode cX9_far 13 = .ok (.iload 4, 2) := by decide +kernel
theorem dX9_far_15 : decode cX9_far 15 = .ok (.invokestatic 44, 3) := by decide +kernel
theorem dX9_far_18 : decode cX9_far 18 = .ok (.istore 5, 2) := by decide +kernel
theorem dX9_far_20 : decode cX9_far 20 = .ok (.iload_n 3, 1) := by decide +kernel
theorem dX9_far_21 : decode cX9_far 21 = .ok (.aload_n 0, 1) := by decide +kernel
theorem dX9_far_22 : decode cX9_far 22 = .ok (.getfield 7, 3) := by decide +kernel
theorem dX9_far_25 : decode cX9_far 25 = .ok (.iconst 0, 1) := by decide +kernel
theorem dX9_far_26 : decode cX9_far 26 = .ok (.iload 5, 2) := by decide +kernel
theorem dX9_far_28 : decode cX9_far 28 = .ok (.iadd, 1) := by decide +kernel
theorem dX9_far_29 : decode cX9_far 29 = .ok (.iaload, 1) := by decide +kernel
theorem dX9_far_30 : decode cX9_far 30 = .ok (.aload_n 0, 1) := by decide +kernel
theorem dX9_far_31 : decode cX9_far 31 = .ok (.bipush 64, 2) := by decide +kernel
theorem dX9_far_33 : decode cX9_far 33 = .ok (.iload 5, 2) := by decide +kernel
theorem dX9_far_35 : decode cX9_far 35 = .ok (.iload_n 2, 1) := by decide +kernel
theorem dX9_far_36 : decode cX9_far 36 = .ok (.invokevirtual 48, 3) := by decide +kernel
theorem dX9_far_39 : decode cX9_far 39 = .ok (.isub, 1) := by decide +kernel
theorem dX9_far_40 : decode cX9_far 40 = .ok (.invokestatic 51, 3) := by decide +kernel
theorem dX9_far_43 : decode cX9_far 43 = .ok (.iadd, 1) := by decide +kernel
theorem dX9_far_44 : decode cX9_far 44 = .ok (.istore_n 3, 1) := by decide +kernel
theorem dX9_far_45 : decode cX9_far 45 = .ok (.iinc 4 1, 3) := by decide +kernel
theorem dX9_far_48 : decode cX9_far 48 = .ok (.goto (-43), 3) := by decide +kernel
theorem dX9_far_51 : decode cX9_far 51 = .ok (.iload_n 3, 1) := by decide +kernel
theorem dX9_far_52 : decode cX9_far 52 = .ok (.ireturn, 1) := by decide +kernel
set_option maxRecDepth 20000 in
theorem ggX9_steps_X9_abs : GoodIn wsX9_steps wsX9_abs := goodIn_r _ [4] (by decide +kernel) (by decide +kernel)
set_option maxRecDepth 20000 in
theorem gX9_steps_X9_abs : GoodIn wsX9_steps (va_wsS RX9 51 yX9_abs wsX9_abs) := goodIn_app (goodIn_of _ (by decide +kernel)) ggX9_steps_X9_abs
theorem dX9_steps_0 : decode cX9_steps 0 = .ok (.iload_n 0, 1) := by decide +kernel
theorem dX9_steps_1 : decode cX9_steps 1 = .ok (.iconst 5, 1) := by decide +kernel
theorem dX9_steps_2 : decode cX9_steps 2 = .ok (.idiv, 1) := by decide +kernel
theorem dX9_steps_3 : decode cX9_steps 3 = .ok (.iconst 2, 1) := by decide +kernel
theorem dX9_steps_4 : decode cX9_steps 4 = .ok (.isub, 1) := by decide +kernel
theorem dX9_steps_5 : decode cX9_steps 5 = .ok (.invokestatic 51, 3) := by decide +kernel
theorem dX9_steps_8 : decode cX9_steps 8 = .ok (.iload_n 0, 1) := by decide +kernel
theorem dX9_steps_9 : decode cX9_steps 9 = .ok (.iconst 5, 1) := by decide +kernel
theorem dX9_steps_10 : decode cX9_steps 10 = .ok (.irem, 1) := by decide +kernel
theorem dX9_steps_11 : decode cX9_steps 11 = .ok (.iconst 2, 1) := by decide +kernel
theorem dX9_steps_12 : decode cX9_steps 12 = .ok (.isub, 1) := by decide +kernel
theorem dX9_steps_13 : decode cX9_steps 13 = .ok (.invokestatic 51, 3) := by decide +kernel
theorem dX9_steps_16 : decode cX9_steps 16 = .ok (.iadd, 1) := by decide +kernel
theorem dX9_steps_17 : decode cX9_steps 17 = .ok (.ireturn, 1) := by decide +kernel
set_option maxRecDepth 20000 in
theorem ggX9_best_X9_far : GoodIn wsX9_best wsX9_far := goodIn_r _ [5, 6, 7, 8, 4, 9, 10, 11, 12, 13, 14, 15, 16, 17, 18, 19, 20, 21, 22, 26, 27, 28, 29, 30, 31, 32, 33, 34, 35, 36, 37, 38, 39, 40] (by decide +kernel) (by decide +kernel)
set_option maxRecDepth 20000 in
theorem gX9_best_X9_far : GoodIn wsX9_best (wsV RX9 54 RX9 yX9_far wsX9_far) := goodIn_app (goodIn_of _ (by decide +kernel)) ggX9_best_X9_far
set_option maxRecDepth 20000 in
theorem ggX9_best_X9_steps : GoodIn wsX9_best wsX9_steps := goodIn_r _ [25, 20, 21, 4, 22] (by decide +kernel) (by decide +kernel)
set_option maxRecDepth 20000 in
theorem gX9_best_X9_steps : GoodIn wsX9_best (va_wsS RX9 57 yX9_steps wsX9_steps) := goodIn_app (goodIn_of _ (by decide +kernel)) ggX9_best_X9_steps
theorem dX9_best_0 : decode cX9_best 0 = .ok (.iconst 0, 1) := by decide +kernel
theorem dX9_best_1 : decode cX9_best 1 = .ok (.istore_n 2, 1) := by decide +kernel
theorem dX9_best_2 : decode cX9_best 2 = .ok (.iconst 1, 1) := by decide +kernel
theorem dX9_best_3 : decode cX9_best 3 = .ok (.istore_n 3, 1) := by decide +kernel
theorem dX9_best_4 : decode cX9_best 4 = .ok (.iload_n 3, 1) := by decide +kernel
theorem dX9_best_5 : decode cX9_best 5 = .ok (.bipush 25, 2) := by decide +kernel
theorem dX9_best_7 : decode cX9_best 7 = .ok (.if_icmp .ge 51, 3) := by decide +kernel
theorem dX9_best_10 : decode cX9_best 10 = .ok (.aload_n 0, 1) := by decide +kernel
theorem dX9_best_11 : decode cX9_best 11 = .ok (.iload_n 1, 1) := by decide +kernel
theorem dX9_best_12 : decode cX9_best 12 = .ok (.iload_n 3, 1) := by decide +kernel
theorem dX9_best_13 : decode cX9_best 13 = .ok (.invokevirtual 54, 3) := by decide +kernel
theorem dX9_best_16 : decode cX9_best 16 = .ok (.aload_n 0, 1) := by decide +kernel
theorem dX9_best_17 : decode cX9_best 17 = .ok (.iload_n 1, 1) := by decide +kernel
theorem dX9_best_18 : decode cX9_best 18 = .ok (.iload_n 2, 1) := by decide +kernel
theorem dX9_best_19 : decode cX9_best 19 = .ok (.invokevirtual 54, 3) := by decide +kernel
theorem dX9_best_22 : decode cX9_best 22 = .ok (.isub, 1) := by decide +kernel
theorem dX9_best_23 : decode cX9_best 23 = .ok (.istore 4, 2) := by decide +kernel
theorem dX9_best_25 : decode cX9_best 25 = .ok (.iload 4, 2) := by decide +kernel
theorem dX9_best_27 : decode cX9_best 27 = .ok (.ifCond .lt 19, 3) := by decide +kernel
theorem dX9_best_30 : decode cX9_best 30 = .ok (.iload 4, 2) := by decide +kernel
theorem dX9_best_32 : decode cX9_best 32 = .ok (.ifCond .ne 18, 3) := by decide +kernel
theorem dX9_best_35 : decode cX9_best 35 = .ok (.iload_n 3, 1) := by decide +kernel
theorem dX9_best_36 : decode cX9_best 36 = .ok (.invokestatic 57, 3) := by decide +kernel
theorem dX9_best_39 : decode cX9_best 39 = .ok (.iload_n 2, 1) := by decide +kernel
theorem dX9_best_40 : decode cX9_best 40 = .ok (.invokestatic 57, 3) := by decide +kernel
theorem dX9_best_43 : decode cX9_best 43 = .ok (.if_icmp .ge 7, 3) := by decide +kernel
theorem dX9_best_46 : decode cX9_best 46 = .ok (.iload_n 3, 1) := by decide +kernel
theorem dX9_best_47 : decode cX9_best 47 = .ok (.goto 4, 3) := by decide +kernel
theorem dX9_best_50 : decode cX9_best 50 = .ok (.iload_n 2, 1) := by decide +kernel
theorem dX9_best_51 : decode cX9_best 51 = .ok (.istore_n 2, 1) := by decide +kernel
theorem dX9_best_52 : decode cX9_best 52 = .ok (.iinc 3 1, 3) := by decide +kernel
theorem dX9_best_55 : decode cX9_best 55 = .ok (.goto (-51), 3) := by decide +kernel
theorem dX9_best_58 : decode cX9_best 58 = .ok (.iload_n 2, 1) := by decide +kernel
theorem dX9_best_59 : decode cX9_best 59 = .ok (.ireturn, 1) := by decide +kernel
set_option maxRecDepth 20000 in
theorem ggX9_level_X9_predicted : GoodIn wsX9_level wsX9_predicted := goodIn_r _ [6, 1, 7, 8, 5, 9, 10, 11, 12, 13, 14, 15, 16, 17, 18, 19, 20, 21, 22, 23, 24, 25, 26, 27] (by decide +kernel) (by decide +kernel)
set_option maxRecDepth 20000 in
theorem gX9_level_X9_predicted : GoodIn wsX9_level (wsV RX9 48 RX9 yX9_predicted wsX9_predicted) := goodIn_app (goodIn_of _ (by decide +kernel)) ggX9_level_X9_predicted
theorem dX9_level_0 : decode cX9_level 0 = .ok (.aload_n 0, 1) := by decide +kernel
theorem dX9_level_1 : decode cX9_level 1 = .ok (.getfield 7, 3) := by decide +kernel
theorem dX9_level_4 : decode cX9_level 4 = .ok (.iconst 0, 1) := by decide +kernel
theorem dX9_level_5 : decode cX9_level 5 = .ok (.iload_n 1, 1) := by decide +kernel
theorem dX9_level_6 : decode cX9_level 6 = .ok (.iadd, 1) := by decide +kernel
theorem dX9_level_7 : decode cX9_level 7 = .ok (.iaload, 1) := by decide +kernel
theorem dX9_level_8 : decode cX9_level 8 = .ok (.aload_n 0, 1) := by decide +kernel
theorem dX9_level_9 : decode cX9_level 9 = .ok (.bipush 64, 2) := by decide +kernel
theorem dX9_level_11 : decode cX9_level 11 = .ok (.iload_n 1, 1) := by decide +kernel
theorem dX9_level_12 : decode cX9_level 12 = .ok (.iload_n 2, 1) := by decide +kernel
theorem dX9_level_13 : decode cX9_level 13 = .ok (.invokevirtual 48, 3) := by decide +kernel
theorem dX9_level_16 : decode cX9_level 16 = .ok (.isub, 1) := by decide +kernel
theorem dX9_level_17 : decode cX9_level 17 = .ok (.iload_n 3, 1) := by decide +kernel
theorem dX9_level_18 : decode cX9_level 18 = .ok (.idiv, 1) := by decide +kernel
theorem dX9_level_19 : decode cX9_level 19 = .ok (.ireturn, 1) := by decide +kernel
set_option maxRecDepth 20000 in
theorem ggX9_bitsOf_X9_abs : GoodIn wsX9_bitsOf wsX9_abs := goodIn_r _ [4] (by decide +kernel) (by decide +kernel)
set_option maxRecDepth 20000 in
theorem gX9_bitsOf_X9_abs : GoodIn wsX9_bitsOf (va_wsS RX9 51 yX9_abs wsX9_abs) := goodIn_app (goodIn_of _ (by decide +kernel)) ggX9_bitsOf_X9_abs
theorem dX9_bitsOf_0 : decode cX9_bitsOf 0 = .ok (.iload_n 0, 1) := by decide +kernel
theorem dX9_bitsOf_1 : decode cX9_bitsOf 1 = .ok (.ifCond .ne 7, 3) := by decide +kernel
theorem dX9_bitsOf_4 : decode cX9_bitsOf 4 = .ok (.iconst 1, 1) := by decide +kernel
theorem dX9_bitsOf_5 : decode cX9_bitsOf 5 = .ok (.goto 4, 3) := by decide +kernel
theorem dX9_bitsOf_8 : decode cX9_bitsOf 8 = .ok (.iconst 2, 1) := by decide +kernel
theorem dX9_bitsOf_9 : decode cX9_bitsOf 9 = .ok (.istore_n 1, 1) := by decide +kernel
theorem dX9_bitsOf_10 : decode cX9_bitsOf 10 = .ok (.iload_n 0, 1) := by decide +kernel
theorem dX9_bitsOf_11 : decode cX9_bitsOf 11 = .ok (.invokestatic 51, 3) := by decide +kernel
theorem dX9_bitsOf_14 : decode cX9_bitsOf 14 = .ok (.iconst 1, 1) := by decide +kernel
theorem dX9_bitsOf_15 : decode cX9_bitsOf 15 = .ok (.iadd, 1) := by decide +kernel
theorem dX9_bitsOf_16 : decode cX9_bitsOf 16 = .ok (.istore_n 2, 1) := by decide +kernel
theorem dX9_bitsOf_17 : decode cX9_bitsOf 17 = .ok (.iload_n 2, 1) := by decide +kernel
theorem dX9_bitsOf_18 : decode cX9_bitsOf 18 = .ok (.iconst 1, 1) := by decide +kernel
theorem dX9_bitsOf_19 : decode cX9_bitsOf 19 = .ok (.if_icmp .le 13, 3) := by decide +kernel
theorem dX9_bitsOf_22 : decode cX9_bitsOf 22 = .ok (.iinc 1 2, 3) := by decide +kernel
theorem dX9_bitsOf_25 : decode cX9_bitsOf 25 = .ok (.iload_n 2, 1) := by decide +kernel
theorem dX9_bitsOf_26 : decode cX9_bitsOf 26 = .ok (.iconst 2, 1) := by decide +kernel
theorem dX9_bitsOf_27 : decode cX9_bitsOf 27 = .ok (.idiv, 1) := by decide +kernel
theorem dX9_bitsOf_28 : decode cX9_bitsOf 28 = .ok (.istore_n 2, 1) := by decide +kernel
theorem dX9_bitsOf_29 : decode cX9_bitsOf 29 = .ok (.goto (-12), 3) := by decide +kernel
theorem dX9_bitsOf_32 : decode cX9_bitsOf 32 = .ok (.iload_n 1, 1) := by decide +kernel
theorem dX9_bitsOf_33 : decode cX9_bitsOf 33 = .ok (.ireturn, 1) := by decide +kernel
set_option maxRecDepth 20000 in
theorem ggX9_movedBits_X9_pixel : GoodIn wsX9_movedBits wsX9_pixel := goodIn_r _ [4] (by decide +kernel) (by decide +kernel)
set_option maxRecDepth 20000 in
theorem gX9_movedBits_X9_pixel : GoodIn wsX9_movedBits (va_wsS RX9 44 yX9_pixel wsX9_pixel) := goodIn_app (goodIn_of _ (by decide +kernel)) ggX9_movedBits_X9_pixel
set_option maxRecDepth 20000 in
theorem ggX9_movedBits_X9_level : GoodIn wsX9_movedBits wsX9_level := goodIn_r _ [8, 9, 10, 11, 12, 3, 13, 14, 15, 16, 17, 18, 19, 26, 27, 28, 29, 30, 31, 32, 33, 34, 35, 36, 37, 38, 39, 40] (by decide +kernel) (by decide +kernel)
set_option maxRecDepth 20000 in
theorem gX9_movedBits_X9_level : GoodIn wsX9_movedBits (wsV RX9 60 RX9 yX9_level wsX9_level) := goodIn_app (goodIn_of _ (by decide +kernel)) ggX9_movedBits_X9_level
set_option maxRecDepth 20000 in
theorem ggX9_movedBits_X9_bitsOf : GoodIn wsX9_movedBits wsX9_bitsOf := goodIn_r _ [22, 23, 24, 3, 25] (by decide +kernel) (by decide +kernel)
set_option maxRecDepth 20000 in
theorem gX9_movedBits_X9_bitsOf : GoodIn wsX9_movedBits (va_wsS RX9 63 yX9_bitsOf wsX9_bitsOf) := goodIn_app (goodIn_of _ (by decide +kernel)) ggX9_movedBits_X9_bitsOf
theorem dX9_movedBits_0 : decode cX9_movedBits 0 = .ok (.bipush 6, 2) := by decide +kernel
theorem dX9_movedBits_2 : decode cX9_movedBits 2 = .ok (.istore 4, 2) := by decide +kernel
theorem dX9_movedBits_4 : decode cX9_movedBits 4 = .ok (.iconst 0, 1) := by decide +kernel
theorem dX9_movedBits_5 : decode cX9_movedBits 5 = .ok (.istore 5, 2) := by decide +kernel
theorem dX9_movedBits_7 : decode cX9_movedBits 7 = .ok (.iload 5, 2) := by decide +kernel
theorem dX9_movedBits_9 : decode cX9_movedBits 9 = .ok (.bipush 16, 2) := by decide +kernel
theorem dX9_movedBits_11 : decode cX9_movedBits 11 = .ok (.if_icmp .ge 29, 3) := by decide +kernel
theorem dX9_movedBits_14 : decode cX9_movedBits 14 = .ok (.iload 4, 2) := by decide +kernel
theorem dX9_movedBits_16 : decode cX9_movedBits 16 = .ok (.aload_n 0, 1) := by decide +kernel
theorem dX9_movedBits_17 : decode cX9_movedBits 17 = .ok (.iload_n 1, 1) := by decide +kernel
theorem dX9_movedBits_18 : decode cX9_movedBits 18 = .ok (.iload 5, 2) := by decide +kernel
theorem dX9_movedBits_20 : decode cX9_movedBits 20 = .ok (.invokestatic 44, 3) := by decide +kernel
theorem dX9_movedBits_23 : decode cX9_movedBits 23 = .ok (.iload_n 2, 1) := by decide +kernel
theorem dX9_movedBits_24 : decode cX9_movedBits 24 = .ok (.iload_n 3, 1) := by decide +kernel
theorem dX9_movedBits_25 : decode cX9_movedBits 25 = .ok (.invokevirtual 60, 3) := by decide +kernel
theorem dX9_movedBits_28 : decode cX9_movedBits 28 = .ok (.invokestatic 63, 3) := by decide +kernel
theorem dX9_movedBits_31 : decode cX9_movedBits 31 = .ok (.iadd, 1) := by decide +kernel
theorem dX9_movedBits_32 : decode cX9_movedBits 32 = .ok (.istore 4, 2) := by decide +kernel
theorem dX9_movedBits_34 : decode cX9_movedBits 34 = .ok (.iinc 5 1, 3) := by decide +kernel
theorem dX9_movedBits_37 : decode cX9_movedBits 37 = .ok (.goto (-30), 3) := by decide +kernel
theorem dX9_movedBits_40 : decode cX9_movedBits 40 = .ok (.iload 4, 2) := by decide +kernel
theorem dX9_movedBits_42 : decode cX9_movedBits 42 = .ok (.ireturn, 1) := by decide +kernel
set_option maxRecDepth 20000 in
theorem ggX9_kind_X9_best : GoodIn wsX9_kind wsX9_best := goodIn_r _ [5, 6, 7, 8, 4, 9, 10, 11, 12, 13, 14, 15, 16, 17, 18, 19, 20, 21, 22, 23, 24, 25, 26, 27, 28, 29, 41, 42, 43, 44, 45, 46, 47, 48, 49, 50, 51, 52, 53, 54, 55] (by decide +kernel) (by decide +kernel)
set_option maxRecDepth 20000 in
theorem gX9_kind_X9_best : GoodIn wsX9_kind (wsV RX9 66 RX9 yX9_best wsX9_best) := goodIn_app (goodIn_of _ (by decide +kernel)) ggX9_kind_X9_best
set_option maxRecDepth 20000 in
theorem ggX9_kind_X9_pixel : GoodIn wsX9_kind wsX9_pixel := goodIn_r _ [13] (by decide +kernel) (by decide +kernel)
set_option maxRecDepth 20000 in
theorem gX9_kind_X9_pixel : GoodIn wsX9_kind (va_wsS RX9 44 yX9_pixel wsX9_pixel) := goodIn_app (goodIn_of _ (by decide +kernel)) ggX9_kind_X9_pixel
set_option maxRecDepth 20000 in
theorem ggX9_kind_X9_level : GoodIn wsX9_kind wsX9_level := goodIn_r _ [33, 10, 14, 15, 16, 4, 17, 18, 19, 20, 21, 22, 23, 41, 42, 43, 44, 45, 46, 47, 48, 49, 50, 51, 52, 53, 54, 55] (by decide +kernel) (by decide +kernel)
set_option maxRecDepth 20000 in
theorem gX9_kind_X9_level : GoodIn wsX9_kind (wsV RX9 60 RX9 yX9_level wsX9_level) := goodIn_app (goodIn_of _ (by decide +kernel)) ggX9_kind_X9_level
set_option maxRecDepth 20000 in
theorem ggX9_kind_X9_movedBits : GoodIn wsX9_kind wsX9_movedBits := goodIn_r _ [37, 11, 12, 4, 13, 30, 31, 32, 33, 10, 14, 15, 16, 17, 18, 19, 20, 21, 22, 23, 38, 39, 40, 24, 25, 26, 41, 42, 43, 44, 45, 46, 47, 48, 49, 50, 51, 52, 53, 54, 55] (by decide +kernel) (by decide +kernel)
set_option maxRecDepth 20000 in
theorem gX9_kind_X9_movedBits : GoodIn wsX9_kind (wsV RX9 69 RX9 yX9_movedBits wsX9_movedBits) := goodIn_app (goodIn_of _ (by decide +kernel)) ggX9_kind_X9_movedBits
theorem dX9_kind_0 : decode cX9_kind 0 = .ok (.aload_n 0, 1) := by decide +kernel
theorem dX9_kind_1 : decode cX9_kind 1 = .ok (.iload_n 1, 1) := by decide +kernel
theorem dX9_kind_2 : decode cX9_kind 2 = .ok (.invokevirtual 66, 3) := by decide +kernel
theorem dX9_kind_5 : decode cX9_kind 5 = .ok (.istore_n 3, 1) := by decide +kernel
theorem dX9_kind_6 : decode cX9_kind 6 = .ok (.iload_n 3, 1) := by decide +kernel
theorem dX9_kind_7 : decode cX9_kind 7 = .ok (.bipush 12, 2) := by decide +kernel
theorem dX9_kind_9 : decode cX9_kind 9 = .ok (.if_icmp .ne 7, 3) := by decide +kernel
theorem dX9_kind_12 : decode cX9_kind 12 = .ok (.iconst 1, 1) := by decide +kernel
theorem dX9_kind_13 : decode cX9_kind 13 = .ok (.goto 4, 3) := by decide +kernel
theorem dX9_kind_16 : decode cX9_kind 16 = .ok (.iconst 0, 1) := by decide +kernel
theorem dX9_kind_17 : decode cX9_kind 17 = .ok (.istore 4, 2) := by decide +kernel
theorem dX9_kind_19 : decode cX9_kind 19 = .ok (.iconst 0, 1) := by decide +kernel
theorem dX9_kind_20 : decode cX9_kind 20 = .ok (.istore 5, 2) := by decide +kernel
theorem dX9_kind_22 : decode cX9_kind 22 = .ok (.iload 5, 2) := by decide +kernel
theorem dX9_kind_24 : decode cX9_kind 24 = .ok (.bipush 16, 2) := by decide +kernel
theorem dX9_kind_26 : decode cX9_kind 26 = .ok (.if_icmp .ge 36, 3) := by decide +kernel
theorem dX9_kind_29 : decode cX9_kind 29 = .ok (.iload 4, 2) := by decide +kernel
theorem dX9_kind_31 : decode cX9_kind 31 = .ok (.ifCond .eq 31, 3) := by decide +kernel
theorem dX9_kind_34 : decode cX9_kind 34 = .ok (.aload_n 0, 1) := by decide +kernel
theorem dX9_kind_35 : decode cX9_kind 35 = .ok (.iload_n 1, 1) := by decide +kernel
theorem dX9_kind_36 : decode cX9_kind 36 = .ok (.iload 5, 2) := by decide +kernel
theorem dX9_kind_38 : decode cX9_kind 38 = .ok (.invokestatic 44, 3) := by decide +kernel
theorem dX9_kind_41 : decode cX9_kind 41 = .ok (.iload_n 3, 1) := by decide +kernel
theorem dX9_kind_42 : decode cX9_kind 42 = .ok (.iload_n 2, 1) := by decide +kernel
theorem dX9_kind_43 : decode cX9_kind 43 = .ok (.invokevirtual 60, 3) := by decide +kernel
theorem dX9_kind_46 : decode cX9_kind 46 = .ok (.ifCond .ne 7, 3) := by decide +kernel
theorem dX9_kind_49 : decode cX9_kind 49 = .ok (.iconst 1, 1) := by decide +kernel
theorem dX9_kind_50 : decode cX9_kind 50 = .ok (.goto 4, 3) := by decide +kernel
theorem dX9_kind_53 : decode cX9_kind 53 = .ok (.iconst 0, 1) := by decide +kernel
theorem dX9_kind_54 : decode cX9_kind 54 = .ok (.istore 4, 2) := by decide +kernel
theorem dX9_kind_56 : decode cX9_kind 56 = .ok (.iinc 5 1, 3) := by decide +kernel
theorem dX9_kind_59 : decode cX9_kind 59 = .ok (.goto (-37), 3) := by decide +kernel
theorem dX9_kind_62 : decode cX9_kind 62 = .ok (.iload 4, 2) := by decide +kernel
theorem dX9_kind_64 : decode cX9_kind 64 = .ok (.ifCond .eq 7, 3) := by decide +kernel
theorem dX9_kind_67 : decode cX9_kind 67 = .ok (.iconst 1, 1) := by decide +kernel
theorem dX9_kind_68 : decode cX9_kind 68 = .ok (.goto 20, 3) := by decide +kernel
theorem dX9_kind_71 : decode cX9_kind 71 = .ok (.aload_n 0, 1) := by decide +kernel
theorem dX9_kind_72 : decode cX9_kind 72 = .ok (.iload_n 1, 1) := by decide +kernel
theorem dX9_kind_73 : decode cX9_kind 73 = .ok (.iload_n 3, 1) := by decide +kernel
theorem dX9_kind_74 : decode cX9_kind 74 = .ok (.iload_n 2, 1) := by decide +kernel
theorem dX9_kind_75 : decode cX9_kind 75 = .ok (.invokevirtual 69, 3) := by decide +kernel
theorem dX9_kind_78 : decode cX9_kind 78 = .ok (.bipush 66, 2) := by decide +kernel
theorem dX9_kind_80 : decode cX9_kind 80 = .ok (.if_icmp .gt 7, 3) := by decide +kernel
theorem dX9_kind_83 : decode cX9_kind 83 = .ok (.iconst 2, 1) := by decide +kernel
theorem dX9_kind_84 : decode cX9_kind 84 = .ok (.goto 4, 3) := by decide +kernel
theorem dX9_kind_87 : decode cX9_kind 87 = .ok (.iconst 0, 1) := by decide +kernel
theorem dX9_kind_88 : decode cX9_kind 88 = .ok (.ireturn, 1) := by decide +kernel
set_option maxRecDepth 20000 in
theorem ggX9_bits_X9_kind : GoodIn wsX9_bits wsX9_kind := goodIn_r _ [5, 6, 7, 8, 4, 9, 10, 11, 12, 13, 14, 15, 16, 17, 18, 19, 20, 21, 22, 23, 24, 25, 26, 27, 28, 29, 30, 31, 32, 33, 34, 35, 36, 37, 38, 39, 40, 41, 42, 43, 44, 45, 46, 47, 48, 49, 50, 51, 52, 53, 54, 55, 56, 57, 58, 59] (by decide +kernel) (by decide +kernel)
set_option maxRecDepth 20000 in
theorem gX9_bits_X9_kind : GoodIn wsX9_bits (wsV RX9 72 RX9 yX9_kind wsX9_kind) := goodIn_app (goodIn_of _ (by decide +kernel)) ggX9_bits_X9_kind
set_option maxRecDepth 20000 in
theorem ggX9_bits_X9_best : GoodIn wsX9_bits wsX9_best := goodIn_r _ [9, 10, 11, 12, 4, 13, 14, 15, 16, 17, 18, 19, 20, 21, 22, 23, 24, 25, 26, 27, 28, 29, 30, 31, 32, 33, 45, 46, 47, 48, 49, 50, 51, 52, 53, 54, 55, 56, 57, 58, 59] (by decide +kernel) (by decide +kernel)
set_option maxRecDepth 20000 in
theorem gX9_bits_X9_best : GoodIn wsX9_bits (wsV RX9 66 RX9 yX9_best wsX9_best) := goodIn_app (goodIn_of _ (by decide +kernel)) ggX9_bits_X9_best
set_option maxRecDepth 20000 in
theorem ggX9_bits_X9_movedBits : GoodIn wsX9_bits wsX9_movedBits := goodIn_r _ [41, 15, 16, 4, 17, 34, 35, 36, 37, 14, 18, 19, 20, 21, 22, 23, 24, 25, 26, 27, 42, 43, 44, 28, 29, 30, 45, 46, 47, 48, 49, 50, 51, 52, 53, 54, 55, 56, 57, 58, 59] (by decide +kernel) (by decide +kernel)
set_option maxRecDepth 20000 in
theorem gX9_bits_X9_movedBits : GoodIn wsX9_bits (wsV RX9 69 RX9 yX9_movedBits wsX9_movedBits) := goodIn_app (goodIn_of _ (by decide +kernel)) ggX9_bits_X9_movedBits
theorem dX9_bits_0 : decode cX9_bits 0 = .ok (.aload_n 0, 1) := by decide +kernel
theorem dX9_bits_1 : decode cX9_bits 1 = .ok (.iload_n 1, 1) := by decide +kernel
theorem dX9_bits_2 : decode cX9_bits 2 = .ok (.iload_n 2, 1) := by decide +kernel
theorem dX9_bits_3 : decode cX9_bits 3 = .ok (.invokevirtual 72, 3) := by decide +kernel
theorem dX9_bits_6 : decode cX9_bits 6 = .ok (.istore_n 3, 1) := by decide +kernel
theorem dX9_bits_7 : decode cX9_bits 7 = .ok (.iload_n 3, 1) := by decide +kernel
theorem dX9_bits_8 : decode cX9_bits 8 = .ok (.iconst 1, 1) := by decide +kernel
theorem dX9_bits_9 : decode cX9_bits 9 = .ok (.if_icmp .ne 7, 3) := by decide +kernel
theorem dX9_bits_12 : decode cX9_bits 12 = .ok (.iconst 1, 1) := by decide +kernel
theorem dX9_bits_13 : decode cX9_bits 13 = .ok (.goto 23, 3) := by decide +kernel
theorem dX9_bits_16 : decode cX9_bits 16 = .ok (.iload_n 3, 1) := by decide +kernel
theorem dX9_bits_17 : decode cX9_bits 17 = .ok (.ifCond .ne 8, 3) := by decide +kernel
theorem dX9_bits_20 : decode cX9_bits 20 = .ok (.bipush 66, 2) := by decide +kernel
theorem dX9_bits_22 : decode cX9_bits 22 = .ok (.goto 14, 3) := by decide +kernel
theorem dX9_bits_25 : decode cX9_bits 25 = .ok (.aload_n 0, 1) := by decide +kernel
theorem dX9_bits_26 : decode cX9_bits 26 = .ok (.iload_n 1, 1) := by decide +kernel
theorem dX9_bits_27 : decode cX9_bits 27 = .ok (.aload_n 0, 1) := by decide +kernel
theorem dX9_bits_28 : decode cX9_bits 28 = .ok (.iload_n 1, 1) := by decide +kernel
theorem dX9_bits_29 : decode cX9_bits 29 = .ok (.invokevirtual 66, 3) := by decide +kernel
theorem dX9_bits_32 : decode cX9_bits 32 = .ok (.iload_n 2, 1) := by decide +kernel
theorem dX9_bits_33 : decode cX9_bits 33 = .ok (.invokevirtual 69, 3) := by decide +kernel
theorem dX9_bits_36 : decode cX9_bits 36 = .ok (.ireturn, 1) := by decide +kernel
theorem dX9_isKey_0 : decode cX9_isKey 0 = .ok (.aload_n 0, 1) := by decide +kernel
theorem dX9_isKey_1 : decode cX9_isKey 1 = .ok (.getfield 7, 3) := by decide +kernel
theorem dX9_isKey_4 : decode cX9_isKey 4 = .ok (.sipush 194, 3) := by decide +kernel
theorem dX9_isKey_7 : decode cX9_isKey 7 = .ok (.iaload, 1) := by decide +kernel
theorem dX9_isKey_8 : decode cX9_isKey 8 = .ok (.aload_n 0, 1) := by decide +kernel
theorem dX9_isKey_9 : decode cX9_isKey 9 = .ok (.getfield 7, 3) := by decide +kernel
theorem dX9_isKey_12 : decode cX9_isKey 12 = .ok (.sipush 193, 3) := by decide +kernel
theorem dX9_isKey_15 : decode cX9_isKey 15 = .ok (.iaload, 1) := by decide +kernel
theorem dX9_isKey_16 : decode cX9_isKey 16 = .ok (.irem, 1) := by decide +kernel
theorem dX9_isKey_17 : decode cX9_isKey 17 = .ok (.ifCond .ne 7, 3) := by decide +kernel
theorem dX9_isKey_20 : decode cX9_isKey 20 = .ok (.iconst 1, 1) := by decide +kernel
theorem dX9_isKey_21 : decode cX9_isKey 21 = .ok (.goto 4, 3) := by decide +kernel
theorem dX9_isKey_24 : decode cX9_isKey 24 = .ok (.iconst 0, 1) := by decide +kernel
theorem dX9_isKey_25 : decode cX9_isKey 25 = .ok (.ireturn, 1) := by decide +kernel
set_option maxRecDepth 20000 in
theorem ggX9_allBits_X9_bits : GoodIn wsX9_allBits wsX9_bits := goodIn_r _ [5, 6, 7, 8, 4, 9, 10, 11, 12, 13, 14, 15, 16, 17, 18, 19, 20, 21, 22, 23, 24, 25, 26, 27, 28, 29, 30, 31, 32, 33, 34, 35, 36, 37, 38, 39, 40, 41, 42, 43, 44, 45, 46, 47, 48, 49, 50, 51, 52, 53, 54, 55, 56, 57, 58, 59, 60, 61, 62, 63] (by decide +kernel) (by decide +kernel)
set_option maxRecDepth 20000 in
theorem gX9_allBits_X9_bits : GoodIn wsX9_allBits (wsV RX9 75 RX9 yX9_bits wsX9_bits) := goodIn_app (goodIn_of _ (by decide +kernel)) ggX9_allBits_X9_bits
theorem dX9_allBits_0 : decode cX9_allBits 0 = .ok (.iconst 0, 1) := by decide +kernel
theorem dX9_allBits_1 : decode cX9_allBits 1 = .ok (.istore_n 2, 1) := by decide +kernel
theorem dX9_allBits_2 : decode cX9_allBits 2 = .ok (.iconst 0, 1) := by decide +kernel
theorem dX9_allBits_3 : decode cX9_allBits 3 = .ok (.istore_n 3, 1) := by decide +kernel
theorem dX9_allBits_4 : decode cX9_allBits 4 = .ok (.iload_n 3, 1) := by decide +kernel
theorem dX9_allBits_5 : decode cX9_allBits 5 = .ok (.iconst 4, 1) := by decide +kernel
theorem dX9_allBits_6 : decode cX9_allBits 6 = .ok (.if_icmp .ge 18, 3) := by decide +kernel
theorem dX9_allBits_9 : decode cX9_allBits 9 = .ok (.iload_n 2, 1) := by decide +kernel
theorem dX9_allBits_10 : decode cX9_allBits 10 = .ok (.aload_n 0, 1) := by decide +kernel
theorem dX9_allBits_11 : decode cX9_allBits 11 = .ok (.iload_n 3, 1) := by decide +kernel
theorem dX9_allBits_12 : decode cX9_allBits 12 = .ok (.iload_n 1, 1) := by decide +kernel
theorem dX9_allBits_13 : decode cX9_allBits 13 = .ok (.invokevirtual 75, 3) := by decide +kernel
theorem dX9_allBits_16 : decode cX9_allBits 16 = .ok (.iadd, 1) := by decide +kernel
theorem dX9_allBits_17 : decode cX9_allBits 17 = .ok (.istore_n 2, 1) := by decide +kernel
theorem dX9_allBits_18 : decode cX9_allBits 18 = .ok (.iinc 3 1, 3) := by decide +kernel
theorem dX9_allBits_21 : decode cX9_allBits 21 = .ok (.goto (-17), 3) := by decide +kernel
theorem dX9_allBits_24 : decode cX9_allBits 24 = .ok (.iload_n 2, 1) := by decide +kernel
theorem dX9_allBits_25 : decode cX9_allBits 25 = .ok (.ireturn, 1) := by decide +kernel
set_option maxRecDepth 20000 in
theorem ggX9_coarseness_X9_allBits : GoodIn wsX9_coarseness wsX9_allBits := goodIn_r _ [6, 7, 8, 9, 5, 10, 11, 12, 13, 14, 15, 16, 17, 18, 19, 20, 21, 22, 1, 23, 24, 25, 26, 27, 28, 29, 30, 31, 32, 33, 34, 35, 36, 37, 38, 39, 40, 41, 42, 43, 44, 45, 46, 47, 48, 49, 50, 51, 52, 53, 54, 55, 56, 57, 58, 59, 60, 61, 62, 63, 64, 65, 66, 67] (by decide +kernel) (by decide +kernel)
set_option maxRecDepth 20000 in
theorem gX9_coarseness_X9_allBits : GoodIn wsX9_coarseness (wsV RX9 78 RX9 yX9_allBits wsX9_allBits) := goodIn_app (goodIn_of _ (by decide +kernel)) ggX9_coarseness_X9_allBits
theorem dX9_coarseness_0 : decode cX9_coarseness 0 = .ok (.iconst 1, 1) := by decide +kernel
theorem dX9_coarseness_1 : decode cX9_coarseness 1 = .ok (.istore_n 1, 1) := by decide +kernel
theorem dX9_coarseness_2 : decode cX9_coarseness 2 = .ok (.iload_n 1, 1) := by decide +kernel
theorem dX9_coarseness_3 : decode cX9_coarseness 3 = .ok (.bipush 8, 2) := by decide +kernel
theorem dX9_coarseness_5 : decode cX9_coarseness 5 = .ok (.if_icmp .ge 25, 3) := by decide +kernel
theorem dX9_coarseness_8 : decode cX9_coarseness 8 = .ok (.aload_n 0, 1) := by decide +kernel
theorem dX9_coarseness_9 : decode cX9_coarseness 9 = .ok (.iload_n 1, 1) := by decide +kernel
theorem dX9_coarseness_10 : decode cX9_coarseness 10 = .ok (.invokevirtual 78, 3) := by decide +kernel
theorem dX9_coarseness_13 : decode cX9_coarseness 13 = .ok (.aload_n 0, 1) := by decide +kernel
theorem dX9_coarseness_14 : decode cX9_coarseness 14 = .ok (.getfield 7, 3) := by decide +kernel
theorem dX9_coarseness_17 : decode cX9_coarseness 17 = .ok (.sipush 192, 3) := by decide +kernel
theorem dX9_coarseness_20 : decode cX9_coarseness 20 = .ok (.iaload, 1) := by decide +kernel
theorem dX9_coarseness_21 : decode cX9_coarseness 21 = .ok (.if_icmp .le 9, 3) := by decide +kernel
theorem dX9_coarseness_24 : decode cX9_coarseness 24 = .ok (.iinc 1 1, 3) := by decide +kernel
theorem dX9_coarseness_27 : decode cX9_coarseness 27 = .ok (.goto (-25), 3) := by decide +kernel
theorem dX9_coarseness_30 : decode cX9_coarseness 30 = .ok (.iload_n 1, 1) := by decide +kernel
theorem dX9_coarseness_31 : decode cX9_coarseness 31 = .ok (.ireturn, 1) := by decide +kernel
theorem dX9_draws_0 : decode cX9_draws 0 = .ok (.aload_n 0, 1) := by decide +kernel
theorem dX9_draws_1 : decode cX9_draws 1 = .ok (.getfield 7, 3) := by decide +kernel
theorem dX9_draws_4 : decode cX9_draws 4 = .ok (.iconst 0, 1) := by decide +kernel
theorem dX9_draws_5 : decode cX9_draws 5 = .ok (.iload_n 1, 1) := by decide +kernel
theorem dX9_draws_6 : decode cX9_draws 6 = .ok (.iadd, 1) := by decide +kernel
theorem dX9_draws_7 : decode cX9_draws 7 = .ok (.iaload, 1) := by decide +kernel
theorem dX9_draws_8 : decode cX9_draws 8 = .ok (.istore_n 3, 1) := by decide +kernel
theorem dX9_draws_9 : decode cX9_draws 9 = .ok (.aload_n 0, 1) := by decide +kernel
theorem dX9_draws_10 : decode cX9_draws 10 = .ok (.getfield 7, 3) := by decide +kernel
theorem dX9_draws_13 : decode cX9_draws 13 = .ok (.iconst 0, 1) := by decide +kernel
theorem dX9_draws_14 : decode cX9_draws 14 = .ok (.iload_n 1, 1) := by decide +kernel
theorem dX9_draws_15 : decode cX9_draws 15 = .ok (.iadd, 1) := by decide +kernel
theorem dX9_draws_16 : decode cX9_draws 16 = .ok (.iload_n 2, 1) := by decide +kernel
theorem dX9_draws_17 : decode cX9_draws 17 = .ok (.iastore, 1) := by decide +kernel
theorem dX9_draws_18 : decode cX9_draws 18 = .ok (.iload_n 3, 1) := by decide +kernel
theorem dX9_draws_19 : decode cX9_draws 19 = .ok (.ireturn, 1) := by decide +kernel
set_option maxRecDepth 20000 in
theorem ggX9_scrolls_X9_from : GoodIn wsX9_scrolls wsX9_from := goodIn_r _ [6, 7, 8, 5, 9] (by decide +kernel) (by decide +kernel)
set_option maxRecDepth 20000 in
theorem gX9_scrolls_X9_from : GoodIn wsX9_scrolls (va_wsS RX9 40 yX9_from wsX9_from) := goodIn_app (goodIn_of _ (by decide +kernel)) ggX9_scrolls_X9_from
theorem dX9_scrolls_0 : decode cX9_scrolls 0 = .ok (.iconst 0, 1) := by decide +kernel
theorem dX9_scrolls_1 : decode cX9_scrolls 1 = .ok (.istore_n 3, 1) := by decide +kernel
theorem dX9_scrolls_2 : decode cX9_scrolls 2 = .ok (.iconst 0, 1) := by decide +kernel
theorem dX9_scrolls_3 : decode cX9_scrolls 3 = .ok (.istore 4, 2) := by decide +kernel
theorem dX9_scrolls_5 : decode cX9_scrolls 5 = .ok (.iload 4, 2) := by decide +kernel
theorem dX9_scrolls_7 : decode cX9_scrolls 7 = .ok (.bipush 64, 2) := by decide +kernel
theorem dX9_scrolls_9 : decode cX9_scrolls 9 = .ok (.if_icmp .ge 30, 3) := by decide +kernel
theorem dX9_scrolls_12 : decode cX9_scrolls 12 = .ok (.aload_n 0, 1) := by decide +kernel
theorem dX9_scrolls_13 : decode cX9_scrolls 13 = .ok (.getfield 22, 3) := by decide +kernel
theorem dX9_scrolls_16 : decode cX9_scrolls 16 = .ok (.iload 4, 2) := by decide +kernel
theorem dX9_scrolls_18 : decode cX9_scrolls 18 = .ok (.aload_n 0, 1) := by decide +kernel
theorem dX9_scrolls_19 : decode cX9_scrolls 19 = .ok (.getfield 7, 3) := by decide +kernel
theorem dX9_scrolls_22 : decode cX9_scrolls 22 = .ok (.iconst 0, 1) := by decide +kernel
theorem dX9_scrolls_23 : decode cX9_scrolls 23 = .ok (.iload 4, 2) := by decide +kernel
theorem dX9_scrolls_25 : decode cX9_scrolls 25 = .ok (.iload_n 1, 1) := by decide +kernel
theorem dX9_scrolls_26 : decode cX9_scrolls 26 = .ok (.iload_n 2, 1) := by decide +kernel
theorem dX9_scrolls_27 : decode cX9_scrolls 27 = .ok (.invokestatic 40, 3) := by decide +kernel
theorem dX9_scrolls_30 : decode cX9_scrolls 30 = .ok (.iadd, 1) := by decide +kernel
theorem dX9_scrolls_31 : decode cX9_scrolls 31 = .ok (.iaload, 1) := by decide +kernel
theorem dX9_scrolls_32 : decode cX9_scrolls 32 = .ok (.iastore, 1) := by decide +kernel
theorem dX9_scrolls_33 : decode cX9_scrolls 33 = .ok (.iinc 4 1, 3) := by decide +kernel
theorem dX9_scrolls_36 : decode cX9_scrolls 36 = .ok (.goto (-31), 3) := by decide +kernel
theorem dX9_scrolls_39 : decode cX9_scrolls 39 = .ok (.iconst 0, 1) := by decide +kernel
theorem dX9_scrolls_40 : decode cX9_scrolls 40 = .ok (.istore 4, 2) := by decide +kernel
theorem dX9_scrolls_42 : decode cX9_scrolls 42 = .ok (.iload 4, 2) := by decide +kernel
theorem dX9_scrolls_44 : decode cX9_scrolls 44 = .ok (.bipush 64, 2) := by decide +kernel
theorem dX9_scrolls_46 : decode cX9_scrolls 46 = .ok (.if_icmp .ge 52, 3) := by decide +kernel
theorem dX9_scrolls_49 : decode cX9_scrolls 49 = .ok (.iload_n 3, 1) := by decide +kernel
theorem dX9_scrolls_50 : decode cX9_scrolls 50 = .ok (.aload_n 0, 1) := by decide +kernel
theorem dX9_scrolls_51 : decode cX9_scrolls 51 = .ok (.getfield 7, 3) := by decide +kernel
theorem dX9_scrolls_54 : decode cX9_scrolls 54 = .ok (.iconst 0, 1) := by decide +kernel
theorem dX9_scrolls_55 : decode cX9_scrolls 55 = .ok (.iload 4, 2) := by decide +kernel
theorem dX9_scrolls_57 : decode cX9_scrolls 57 = .ok (.iadd, 1) := by decide +kernel
theorem dX9_scrolls_58 : decode cX9_scrolls 58 = .ok (.iaload, 1) := by decide +kernel
theorem dX9_scrolls_59 : decode cX9_scrolls 59 = .ok (.aload_n 0, 1) := by decide +kernel
theorem dX9_scrolls_60 : decode cX9_scrolls 60 = .ok (.getfield 22, 3) := by decide +kernel
theorem dX9_scrolls_63 : decode cX9_scrolls 63 = .ok (.iload 4, 2) := by decide +kernel
theorem dX9_scrolls_65 : decode cX9_scrolls 65 = .ok (.iaload, 1) := by decide +kernel
theorem dX9_scrolls_66 : decode cX9_scrolls 66 = .ok (.if_icmp .eq 7, 3) := by decide +kernel
theorem dX9_scrolls_69 : decode cX9_scrolls 69 = .ok (.iconst 1, 1) := by decide +kernel
theorem dX9_scrolls_70 : decode cX9_scrolls 70 = .ok (.goto 4, 3) := by decide +kernel
theorem dX9_scrolls_73 : decode cX9_scrolls 73 = .ok (.iconst 0, 1) := by decide +kernel
theorem dX9_scrolls_74 : decode cX9_scrolls 74 = .ok (.iadd, 1) := by decide +kernel
theorem dX9_scrolls_75 : decode cX9_scrolls 75 = .ok (.istore_n 3, 1) := by decide +kernel
theorem dX9_scrolls_76 : decode cX9_scrolls 76 = .ok (.aload_n 0, 1) := by decide +kernel
theorem dX9_scrolls_77 : decode cX9_scrolls 77 = .ok (.getfield 7, 3) := by decide +kernel
theorem dX9_scrolls_80 : decode cX9_scrolls 80 = .ok (.iconst 0, 1) := by decide +kernel
theorem dX9_scrolls_81 : decode cX9_scrolls 81 = .ok (.iload 4, 2) := by decide +kernel
theorem dX9_scrolls_83 : decode cX9_scrolls 83 = .ok (.iadd, 1) := by decide +kernel
theorem dX9_scrolls_84 : decode cX9_scrolls 84 = .ok (.aload_n 0, 1) := by decide +kernel
theorem dX9_scrolls_85 : decode cX9_scrolls 85 = .ok (.getfield 22, 3) := by decide +kernel
theorem dX9_scrolls_88 : decode cX9_scrolls 88 = .ok (.iload 4, 2) := by decide +kernel
theorem dX9_scrolls_90 : decode cX9_scrolls 90 = .ok (.iaload, 1) := by decide +kernel
theorem dX9_scrolls_91 : decode cX9_scrolls 91 = .ok (.iastore, 1) := by decide +kernel
theorem dX9_scrolls_92 : decode cX9_scrolls 92 = .ok (.iinc 4 1, 3) := by decide +kernel
theorem dX9_scrolls_95 : decode cX9_scrolls 95 = .ok (.goto (-53), 3) := by decide +kernel
theorem dX9_scrolls_98 : decode cX9_scrolls 98 = .ok (.iload_n 3, 1) := by decide +kernel
theorem dX9_scrolls_99 : decode cX9_scrolls 99 = .ok (.ireturn, 1) := by decide +kernel
set_option maxRecDepth 20000 in
theorem ggX9_sends_X9_isKey : GoodIn wsX9_sends wsX9_isKey := goodIn_r _ [7, 2, 62, 63, 64, 65, 66, 67, 68, 69, 70, 71, 72, 73, 74, 75, 76] (by decide +kernel) (by decide +kernel)
set_option maxRecDepth 20000 in
theorem gX9_sends_X9_isKey : GoodIn wsX9_sends (wsV RX9 81 RX9 yX9_isKey wsX9_isKey) := goodIn_app (goodIn_of _ (by decide +kernel)) ggX9_sends_X9_isKey
set_option maxRecDepth 20000 in
theorem ggX9_sends_X9_coarseness : GoodIn wsX9_sends wsX9_coarseness := goodIn_r _ [11, 2, 12, 13, 14, 6, 15, 16, 17, 18, 19, 20, 21, 22, 23, 24, 25, 26, 27, 28, 29, 30, 31, 32, 33, 34, 35, 36, 37, 38, 39, 40, 41, 42, 43, 44, 45, 46, 47, 48, 49, 50, 51, 52, 53, 54, 55, 56, 57, 58, 59, 60, 61, 62, 63, 64, 65, 66, 67, 68, 69, 70, 71, 72, 73, 74, 75, 76] (by decide +kernel) (by decide +kernel)
set_option maxRecDepth 20000 in
theorem gX9_sends_X9_coarseness : GoodIn wsX9_sends (wsV RX9 85 RX9 yX9_coarseness wsX9_coarseness) := goodIn_app (goodIn_of _ (by decide +kernel)) ggX9_sends_X9_coarseness
set_option maxRecDepth 20000 in
theorem ggX9_sends_X9_kind : GoodIn wsX9_sends wsX9_kind := goodIn_r _ [23, 24, 25, 26, 6, 27, 28, 29, 30, 31, 2, 32, 33, 34, 35, 36, 37, 38, 39, 40, 41, 42, 43, 44, 45, 46, 47, 48, 49, 50, 51, 52, 53, 54, 55, 56, 57, 58, 59, 60, 61, 62, 63, 64, 65, 66, 67, 68, 69, 70, 71, 72, 73, 74, 75, 76] (by decide +kernel) (by decide +kernel)
set_option maxRecDepth 20000 in
theorem gX9_sends_X9_kind : GoodIn wsX9_sends (wsV RX9 72 RX9 yX9_kind wsX9_kind) := goodIn_app (goodIn_of _ (by decide +kernel)) ggX9_sends_X9_kind
set_option maxRecDepth 20000 in
theorem ggX9_sends_X9_best : GoodIn wsX9_sends wsX9_best := goodIn_r _ [27, 28, 29, 30, 6, 31, 2, 32, 33, 34, 35, 36, 37, 38, 39, 40, 41, 42, 43, 44, 45, 46, 47, 48, 49, 50, 62, 63, 64, 65, 66, 67, 68, 69, 70, 71, 72, 73, 74, 75, 76] (by decide +kernel) (by decide +kernel)
set_option maxRecDepth 20000 in
theorem gX9_sends_X9_best : GoodIn wsX9_sends (wsV RX9 66 RX9 yX9_best wsX9_best) := goodIn_app (goodIn_of _ (by decide +kernel)) ggX9_sends_X9_best
set_option maxRecDepth 20000 in
theorem ggX9_sends_X9_bits : GoodIn wsX9_sends wsX9_bits := goodIn_r _ [19, 20, 21, 22, 6, 23, 24, 25, 26, 27, 28, 29, 30, 31, 2, 32, 33, 34, 35, 36, 37, 38, 39, 40, 41, 42, 43, 44, 45, 46, 47, 48, 49, 50, 51, 52, 53, 54, 55, 56, 57, 58, 59, 60, 61, 62, 63, 64, 65, 66, 67, 68, 69, 70, 71, 72, 73, 74, 75, 76] (by decide +kernel) (by decide +kernel)
set_option maxRecDepth 20000 in
theorem gX9_sends_X9_bits : GoodIn wsX9_sends (wsV RX9 75 RX9 yX9_bits wsX9_bits) := goodIn_app (goodIn_of _ (by decide +kernel)) ggX9_sends_X9_bits
set_option maxRecDepth 20000 in
theorem ggX9_sends_X9_pixel : GoodIn wsX9_sends wsX9_pixel := goodIn_r _ [34] (by decide +kernel) (by decide +kernel)
set_option maxRecDepth 20000 in
theorem gX9_sends_X9_pixel : GoodIn wsX9_sends (va_wsS RX9 44 yX9_pixel wsX9_pixel) := goodIn_app (goodIn_of _ (by decide +kernel)) ggX9_sends_X9_pixel
set_option maxRecDepth 20000 in
theorem ggX9_sends_X9_level : GoodIn wsX9_sends wsX9_level := goodIn_r _ [54, 2, 35, 36, 37, 6, 38, 39, 40, 41, 42, 43, 44, 62, 63, 64, 65, 66, 67, 68, 69, 70, 71, 72, 73, 74, 75, 76] (by decide +kernel) (by decide +kernel)
set_option maxRecDepth 20000 in
theorem gX9_sends_X9_level : GoodIn wsX9_sends (wsV RX9 60 RX9 yX9_level wsX9_level) := goodIn_app (goodIn_of _ (by decide +kernel)) ggX9_sends_X9_level
set_option maxRecDepth 20000 in
theorem ggX9_sends_X9_predicted : GoodIn wsX9_sends wsX9_predicted := goodIn_r _ [38, 2, 39, 40, 6, 41, 42, 43, 44, 62, 63, 64, 65, 66, 67, 68, 69, 70, 71, 72, 73, 74, 75, 76] (by decide +kernel) (by decide +kernel)
set_option maxRecDepth 20000 in
theorem gX9_sends_X9_predicted : GoodIn wsX9_sends (wsV RX9 48 RX9 yX9_predicted wsX9_predicted) := goodIn_app (goodIn_of _ (by decide +kernel)) ggX9_sends_X9_predicted
theorem dX9_sends_0 : decode cX9_sends 0 = .ok (.aload_n 0, 1) := by decide +kernel
theorem dX9_sends_1 : decode cX9_sends 1 = .ok (.invokevirtual 81, 3) := by decide +kernel
theorem dX9_sends_4 : decode cX9_sends 4 = .ok (.istore_n 2, 1) := by decide +kernel
theorem dX9_sends_5 : decode cX9_sends 5 = .ok (.iload_n 2, 1) := by decide +kernel
theorem dX9_sends_6 : decode cX9_sends 6 = .ok (.ifCond .eq 7, 3) := by decide +kernel
theorem dX9_sends_9 : decode cX9_sends 9 = .ok (.iconst 1, 1) := by decide +kernel
theorem dX9_sends_10 : decode cX9_sends 10 = .ok (.goto 7, 3) := by decide +kernel
theorem dX9_sends_13 : decode cX9_sends 13 = .ok (.aload_n 0, 1) := by decide +kernel
theorem dX9_sends_14 : decode cX9_sends 14 = .ok (.invokevirtual 85, 3) := by decide +kernel
theorem dX9_sends_17 : decode cX9_sends 17 = .ok (.istore_n 3, 1) := by decide +kernel
theorem dX9_sends_18 : decode cX9_sends 18 = .ok (.iconst 0, 1) := by decide +kernel
theorem dX9_sends_19 : decode cX9_sends 19 = .ok (.istore 4, 2) := by decide +kernel
theorem dX9_sends_21 : decode cX9_sends 21 = .ok (.iconst 0, 1) := by decide +kernel
theorem dX9_sends_22 : decode cX9_sends 22 = .ok (.istore 5, 2) := by decide +kernel
theorem dX9_sends_24 : decode cX9_sends 24 = .ok (.iload 5, 2) := by decide +kernel
theorem dX9_sends_26 : decode cX9_sends 26 = .ok (.iconst 4, 1) := by decide +kernel
theorem dX9_sends_27 : decode cX9_sends 27 = .ok (.if_icmp .ge 243, 3) := by decide +kernel
theorem dX9_sends_30 : decode cX9_sends 30 = .ok (.iload_n 2, 1) := by decide +kernel
theorem dX9_sends_31 : decode cX9_sends 31 = .ok (.ifCond .eq 7, 3) := by decide +kernel
theorem dX9_sends_34 : decode cX9_sends 34 = .ok (.iconst 0, 1) := by decide +kernel
theorem dX9_sends_35 : decode cX9_sends 35 = .ok (.goto 10, 3) := by decide +kernel
theorem dX9_sends_38 : decode cX9_sends 38 = .ok (.aload_n 0, 1) := by decide +kernel
theorem dX9_sends_39 : decode cX9_sends 39 = .ok (.iload 5, 2) := by decide +kernel
theorem dX9_sends_41 : decode cX9_sends 41 = .ok (.iload_n 3, 1) := by decide +kernel
theorem dX9_sends_42 : decode cX9_sends 42 = .ok (.invokevirtual 72, 3) := by decide +kernel
theorem dX9_sends_45 : decode cX9_sends 45 = .ok (.istore 6, 2) := by decide +kernel
theorem dX9_sends_47 : decode cX9_sends 47 = .ok (.aload_n 0, 1) := by decide +kernel
theorem dX9_sends_48 : decode cX9_sends 48 = .ok (.iload 5, 2) := by decide +kernel
theorem dX9_sends_50 : decode cX9_sends 50 = .ok (.invokevirtual 66, 3) := by decide +kernel
theorem dX9_sends_53 : decode cX9_sends 53 = .ok (.istore 7, 2) := by decide +kernel
theorem dX9_sends_55 : decode cX9_sends 55 = .ok (.iload 4, 2) := by decide +kernel
theorem dX9_sends_57 : decode cX9_sends 57 = .ok (.iload_n 2, 1) := by decide +kernel
theorem dX9_sends_58 : decode cX9_sends 58 = .ok (.ifCond .eq 8, 3) := by decide +kernel
theorem dX9_sends_61 : decode cX9_sends 61 = .ok (.bipush 66, 2) := by decide +kernel
theorem dX9_sends_63 : decode cX9_sends 63 = .ok (.goto 10, 3) := by decide +kernel
theorem dX9_sends_66 : decode cX9_sends 66 = .ok (.aload_n 0, 1) := by decide +kernel
theorem dX9_sends_67 : decode cX9_sends 67 = .ok (.iload 5, 2) := by decide +kernel
theorem dX9_sends_69 : decode cX9_sends 69 = .ok (.iload_n 3, 1) := by decide +kernel
theorem dX9_sends_70 : decode cX9_sends 70 = .ok (.invokevirtual 75, 3) := by decide +kernel
theorem dX9_sends_73 : decode cX9_sends 73 = .ok (.iadd, 1) := by decide +kernel
theorem dX9_sends_74 : decode cX9_sends 74 = .ok (.istore 4, 2) := by decide +kernel
theorem dX9_sends_76 : decode cX9_sends 76 = .ok (.iconst 0, 1) := by decide +kernel
theorem dX9_sends_77 : decode cX9_sends 77 = .ok (.istore 8, 2) := by decide +kernel
theorem dX9_sends_79 : decode cX9_sends 79 = .ok (.iload 8, 2) := by decide +kernel
theorem dX9_sends_81 : decode cX9_sends 81 = .ok (.bipush 16, 2) := by decide +kernel
theorem dX9_sends_83 : decode cX9_sends 83 = .ok (.if_icmp .ge 144, 3) := by decide +kernel
theorem dX9_sends_86 : decode cX9_sends 86 = .ok (.iload 5, 2) := by decide +kernel
theorem dX9_sends_88 : decode cX9_sends 88 = .ok (.iload 8, 2) := by decide +kernel
theorem dX9_sends_90 : decode cX9_sends 90 = .ok (.invokestatic 44, 3) := by decide +kernel
theorem dX9_sends_93 : decode cX9_sends 93 = .ok (.istore 9, 2) := by decide +kernel
theorem dX9_sends_95 : decode cX9_sends 95 = .ok (.iload 6, 2) := by decide +kernel
theorem dX9_sends_97 : decode cX9_sends 97 = .ok (.iconst 2, 1) := by decide +kernel
theorem dX9_sends_98 : decode cX9_sends 98 = .ok (.if_icmp .ne 17, 3) := by decide +kernel
theorem dX9_sends_101 : decode cX9_sends 101 = .ok (.iload_n 3, 1) := by decide +kernel
theorem dX9_sends_102 : decode cX9_sends 102 = .ok (.aload_n 0, 1) := by decide +kernel
theorem dX9_sends_103 : decode cX9_sends 103 = .ok (.iload 9, 2) := by decide +kernel
theorem dX9_sends_105 : decode cX9_sends 105 = .ok (.iload 7, 2) := by decide +kernel
theorem dX9_sends_107 : decode cX9_sends 107 = .ok (.iload_n 3, 1) := by decide +kernel
theorem dX9_sends_108 : decode cX9_sends 108 = .ok (.invokevirtual 60, 3) := by decide +kernel
theorem dX9_sends_111 : decode cX9_sends 111 = .ok (.imul, 1) := by decide +kernel
theorem dX9_sends_112 : decode cX9_sends 112 = .ok (.goto 4, 3) := by decide +kernel
theorem dX9_sends_115 : decode cX9_sends 115 = .ok (.iconst 0, 1) := by decide +kernel
theorem dX9_sends_116 : decode cX9_sends 116 = .ok (.istore 10, 2) := by decide +kernel
theorem dX9_sends_118 : decode cX9_sends 118 = .ok (.aload_n 0, 1) := by decide +kernel
theorem dX9_sends_119 : decode cX9_sends 119 = .ok (.sipush 128, 3) := by decide +kernel
theorem dX9_sends_122 : decode cX9_sends 122 = .ok (.iload 9, 2) := by decide +kernel
theorem dX9_sends_124 : decode cX9_sends 124 = .ok (.iload 7, 2) := by decide +kernel
theorem dX9_sends_126 : decode cX9_sends 126 = .ok (.invokevirtual 48, 3) := by decide +kernel
theorem dX9_sends_129 : decode cX9_sends 129 = .ok (.iload 10, 2) := by decide +kernel
theorem dX9_sends_131 : decode cX9_sends 131 = .ok (.iadd, 1) := by decide +kernel
theorem dX9_sends_132 : decode cX9_sends 132 = .ok (.istore 11, 2) := by decide +kernel
theorem dX9_sends_134 : decode cX9_sends 134 = .ok (.aload_n 0, 1) := by decide +kernel
theorem dX9_sends_135 : decode cX9_sends 135 = .ok (.getfield 22, 3) := by decide +kernel
theorem dX9_sends_138 : decode cX9_sends 138 = .ok (.iload 9, 2) := by decide +kernel
theorem dX9_sends_140 : decode cX9_sends 140 = .ok (.iload 6, 2) := by decide +kernel
theorem dX9_sends_142 : decode cX9_sends 142 = .ok (.ifCond .ne 15, 3) := by decide +kernel
theorem dX9_sends_145 : decode cX9_sends 145 = .ok (.aload_n 0, 1) := by decide +kernel
theorem dX9_sends_146 : decode cX9_sends 146 = .ok (.getfield 7, 3) := by decide +kernel
theorem dX9_sends_149 : decode cX9_sends 149 = .ok (.iconst 0, 1) := by decide +kernel
theorem dX9_sends_150 : decode cX9_sends 150 = .ok (.iload 9, 2) := by decide +kernel
theorem dX9_sends_152 : decode cX9_sends 152 = .ok (.iadd, 1) := by decide +kernel
theorem dX9_sends_153 : decode cX9_sends 153 = .ok (.iaload, 1) := by decide +kernel
theorem dX9_sends_154 : decode cX9_sends 154 = .ok (.goto 16, 3) := by decide +kernel
theorem dX9_sends_157 : decode cX9_sends 157 = .ok (.aload_n 0, 1) := by decide +kernel
theorem dX9_sends_158 : decode cX9_sends 158 = .ok (.bipush 64, 2) := by decide +kernel
theorem dX9_sends_160 : decode cX9_sends 160 = .ok (.iload 9, 2) := by decide +kernel
theorem dX9_sends_162 : decode cX9_sends 162 = .ok (.iload 7, 2) := by decide +kernel
theorem dX9_sends_164 : decode cX9_sends 164 = .ok (.invokevirtual 48, 3) := by decide +kernel
theorem dX9_sends_167 : decode cX9_sends 167 = .ok (.iload 10, 2) := by decide +kernel
theorem dX9_sends_169 : decode cX9_sends 169 = .ok (.iadd, 1) := by decide +kernel
theorem dX9_sends_170 : decode cX9_sends 170 = .ok (.iastore, 1) := by decide +kernel
theorem dX9_sends_171 : decode cX9_sends 171 = .ok (.aload_n 0, 1) := by decide +kernel
theorem dX9_sends_172 : decode cX9_sends 172 = .ok (.getfield 22, 3) := by decide +kernel
theorem dX9_sends_175 : decode cX9_sends 175 = .ok (.bipush 64, 2) := by decide +kernel
theorem dX9_sends_177 : decode cX9_sends 177 = .ok (.iload 9, 2) := by decide +kernel
theorem dX9_sends_179 : decode cX9_sends 179 = .ok (.iadd, 1) := by decide +kernel
theorem dX9_sends_180 : decode cX9_sends 180 = .ok (.iload 6, 2) := by decide +kernel
theorem dX9_sends_182 : decode cX9_sends 182 = .ok (.ifCond .ne 15, 3) := by decide +kernel
theorem dX9_sends_185 : decode cX9_sends 185 = .ok (.aload_n 0, 1) := by decide +kernel
theorem dX9_sends_186 : decode cX9_sends 186 = .ok (.getfield 7, 3) := by decide +kernel
theorem dX9_sends_189 : decode cX9_sends 189 = .ok (.iconst 0, 1) := by decide +kernel
theorem dX9_sends_190 : decode cX9_sends 190 = .ok (.iload 9, 2) := by decide +kernel
theorem dX9_sends_192 : decode cX9_sends 192 = .ok (.iadd, 1) := by decide +kernel
theorem dX9_sends_193 : decode cX9_sends 193 = .ok (.iaload, 1) := by decide +kernel
theorem dX9_sends_194 : decode cX9_sends 194 = .ok (.goto 26, 3) := by decide +kernel
theorem dX9_sends_197 : decode cX9_sends 197 = .ok (.iload 11, 2) := by decide +kernel
theorem dX9_sends_199 : decode cX9_sends 199 = .ok (.ifCond .ge 7, 3) := by decide +kernel
theorem dX9_sends_202 : decode cX9_sends 202 = .ok (.iconst 0, 1) := by decide +kernel
theorem dX9_sends_203 : decode cX9_sends 203 = .ok (.goto 17, 3) := by decide +kernel
theorem dX9_sends_206 : decode cX9_sends 206 = .ok (.iload 11, 2) := by decide +kernel
theorem dX9_sends_208 : decode cX9_sends 208 = .ok (.bipush 15, 2) := by decide +kernel
theorem dX9_sends_210 : decode cX9_sends 210 = .ok (.if_icmp .le 8, 3) := by decide +kernel
theorem dX9_sends_213 : decode cX9_sends 213 = .ok (.bipush 15, 2) := by decide +kernel
theorem dX9_sends_215 : decode cX9_sends 215 = .ok (.goto 5, 3) := by decide +kernel
theorem dX9_sends_218 : decode cX9_sends 218 = .ok (.iload 11, 2) := by decide +kernel
theorem dX9_sends_220 : decode cX9_sends 220 = .ok (.iastore, 1) := by decide +kernel
theorem dX9_sends_221 : decode cX9_sends 221 = .ok (.iinc 8 1, 3) := by decide +kernel
theorem dX9_sends_224 : decode cX9_sends 224 = .ok (.goto (-145), 3) := by decide +kernel
theorem dX9_sends_227 : decode cX9_sends 227 = .ok (.aload_n 0, 1) := by decide +kernel
theorem dX9_sends_228 : decode cX9_sends 228 = .ok (.getfield 7, 3) := by decide +kernel
theorem dX9_sends_231 : decode cX9_sends 231 = .ok (.sipush 197, 3) := by decide +kernel
theorem dX9_sends_234 : decode cX9_sends 234 = .ok (.iload 5, 2) := by decide +kernel
theorem dX9_sends_236 : decode cX9_sends 236 = .ok (.iadd, 1) := by decide +kernel
theorem dX9_sends_237 : decode cX9_sends 237 = .ok (.iload 6, 2) := by decide +kernel
theorem dX9_sends_239 : decode cX9_sends 239 = .ok (.iconst 1, 1) := by decide +kernel
theorem dX9_sends_240 : decode cX9_sends 240 = .ok (.iadd, 1) := by decide +kernel
theorem dX9_sends_241 : decode cX9_sends 241 = .ok (.iastore, 1) := by decide +kernel
theorem dX9_sends_242 : decode cX9_sends 242 = .ok (.aload_n 0, 1) := by decide +kernel
theorem dX9_sends_243 : decode cX9_sends 243 = .ok (.getfield 7, 3) := by decide +kernel
theorem dX9_sends_246 : decode cX9_sends 246 = .ok (.sipush 201, 3) := by decide +kernel
theorem dX9_sends_249 : decode cX9_sends 249 = .ok (.iload 5, 2) := by decide +kernel
theorem dX9_sends_251 : decode cX9_sends 251 = .ok (.iadd, 1) := by decide +kernel
theorem dX9_sends_252 : decode cX9_sends 252 = .ok (.iload 6, 2) := by decide +kernel
theorem dX9_sends_254 : decode cX9_sends 254 = .ok (.ifCond .ne 7, 3) := by decide +kernel
theorem dX9_sends_257 : decode cX9_sends 257 = .ok (.iconst (-1), 1) := by decide +kernel
theorem dX9_sends_258 : decode cX9_sends 258 = .ok (.goto 5, 3) := by decide +kernel
theorem dX9_sends_261 : decode cX9_sends 261 = .ok (.iload 7, 2) := by decide +kernel
theorem dX9_sends_263 : decode cX9_sends 263 = .ok (.iastore, 1) := by decide +kernel
theorem dX9_sends_264 : decode cX9_sends 264 = .ok (.iinc 5 1, 3) := by decide +kernel
theorem dX9_sends_267 : decode cX9_sends 267 = .ok (.goto (-243), 3) := by decide +kernel
theorem dX9_sends_270 : decode cX9_sends 270 = .ok (.iconst 0, 1) := by decide +kernel
theorem dX9_sends_271 : decode cX9_sends 271 = .ok (.istore 5, 2) := by decide +kernel
theorem dX9_sends_273 : decode cX9_sends 273 = .ok (.iload 5, 2) := by decide +kernel
theorem dX9_sends_275 : decode cX9_sends 275 = .ok (.bipush 64, 2) := by decide +kernel
theorem dX9_sends_277 : decode cX9_sends 277 = .ok (.if_icmp .ge 65, 3) := by decide +kernel
theorem dX9_sends_280 : decode cX9_sends 280 = .ok (.aload_n 0, 1) := by decide +kernel
theorem dX9_sends_281 : decode cX9_sends 281 = .ok (.getfield 7, 3) := by decide +kernel
theorem dX9_sends_284 : decode cX9_sends 284 = .ok (.bipush 64, 2) := by decide +kernel
theorem dX9_sends_286 : decode cX9_sends 286 = .ok (.iload 5, 2) := by decide +kernel
theorem dX9_sends_288 : decode cX9_sends 288 = .ok (.iadd, 1) := by decide +kernel
theorem dX9_sends_289 : decode cX9_sends 289 = .ok (.aload_n 0, 1) := by decide +kernel
theorem dX9_sends_290 : decode cX9_sends 290 = .ok (.getfield 22, 3) := by decide +kernel
theorem dX9_sends_293 : decode cX9_sends 293 = .ok (.iload 5, 2) := by decide +kernel
theorem dX9_sends_295 : decode cX9_sends 295 = .ok (.iaload, 1) := by decide +kernel
theorem dX9_sends_296 : decode cX9_sends 296 = .ok (.iastore, 1) := by decide +kernel
theorem dX9_sends_297 : decode cX9_sends 297 = .ok (.aload_n 0, 1) := by decide +kernel
theorem dX9_sends_298 : decode cX9_sends 298 = .ok (.getfield 7, 3) := by decide +kernel
theorem dX9_sends_301 : decode cX9_sends 301 = .ok (.sipush 128, 3) := by decide +kernel
theorem dX9_sends_304 : decode cX9_sends 304 = .ok (.iload 5, 2) := by decide +kernel
theorem dX9_sends_306 : decode cX9_sends 306 = .ok (.iadd, 1) := by decide +kernel
theorem dX9_sends_307 : decode cX9_sends 307 = .ok (.iload_n 1, 1) := by decide +kernel
theorem dX9_sends_308 : decode cX9_sends 308 = .ok (.ifCond .eq 17, 3) := by decide +kernel
theorem dX9_sends_311 : decode cX9_sends 311 = .ok (.aload_n 0, 1) := by decide +kernel
theorem dX9_sends_312 : decode cX9_sends 312 = .ok (.getfield 7, 3) := by decide +kernel
theorem dX9_sends_315 : decode cX9_sends 315 = .ok (.sipush 128, 3) := by decide +kernel
theorem dX9_sends_318 : decode cX9_sends 318 = .ok (.iload 5, 2) := by decide +kernel
theorem dX9_sends_320 : decode cX9_sends 320 = .ok (.iadd, 1) := by decide +kernel
theorem dX9_sends_321 : decode cX9_sends 321 = .ok (.iaload, 1) := by decide +kernel
theorem dX9_sends_322 : decode cX9_sends 322 = .ok (.goto 13, 3) := by decide +kernel
theorem dX9_sends_325 : decode cX9_sends 325 = .ok (.aload_n 0, 1) := by decide +kernel
theorem dX9_sends_326 : decode cX9_sends 326 = .ok (.getfield 22, 3) := by decide +kernel
theorem dX9_sends_329 : decode cX9_sends 329 = .ok (.bipush 64, 2) := by decide +kernel
theorem dX9_sends_331 : decode cX9_sends 331 = .ok (.iload 5, 2) := by decide +kernel
theorem dX9_sends_333 : decode cX9_sends 333 = .ok (.iadd, 1) := by decide +kernel
theorem dX9_sends_334 : decode cX9_sends 334 = .ok (.iaload, 1) := by decide +kernel
theorem dX9_sends_335 : decode cX9_sends 335 = .ok (.iastore, 1) := by decide +kernel
theorem dX9_sends_336 : decode cX9_sends 336 = .ok (.iinc 5 1, 3) := by decide +kernel
theorem dX9_sends_339 : decode cX9_sends 339 = .ok (.goto (-66), 3) := by decide +kernel
theorem dX9_sends_342 : decode cX9_sends 342 = .ok (.aload_n 0, 1) := by decide +kernel
theorem dX9_sends_343 : decode cX9_sends 343 = .ok (.getfield 7, 3) := by decide +kernel
theorem dX9_sends_346 : decode cX9_sends 346 = .ok (.sipush 194, 3) := by decide +kernel
theorem dX9_sends_349 : decode cX9_sends 349 = .ok (.dup2, 1) := by decide +kernel
theorem dX9_sends_350 : decode cX9_sends 350 = .ok (.iaload, 1) := by decide +kernel
theorem dX9_sends_351 : decode cX9_sends 351 = .ok (.iconst 1, 1) := by decide +kernel
theorem dX9_sends_352 : decode cX9_sends 352 = .ok (.iadd, 1) := by decide +kernel
theorem dX9_sends_353 : decode cX9_sends 353 = .ok (.iastore, 1) := by decide +kernel
theorem dX9_sends_354 : decode cX9_sends 354 = .ok (.aload_n 0, 1) := by decide +kernel
theorem dX9_sends_355 : decode cX9_sends 355 = .ok (.getfield 7, 3) := by decide +kernel
theorem dX9_sends_358 : decode cX9_sends 358 = .ok (.sipush 195, 3) := by decide +kernel
theorem dX9_sends_361 : decode cX9_sends 361 = .ok (.dup2, 1) := by decide +kernel
theorem dX9_sends_362 : decode cX9_sends 362 = .ok (.iaload, 1) := by decide +kernel
theorem dX9_sends_363 : decode cX9_sends 363 = .ok (.iload_n 1, 1) := by decide +kernel
theorem dX9_sends_364 : decode cX9_sends 364 = .ok (.ifCond .eq 7, 3) := by decide +kernel
theorem dX9_sends_367 : decode cX9_sends 367 = .ok (.iconst 1, 1) := by decide +kernel
theorem dX9_sends_368 : decode cX9_sends 368 = .ok (.goto 4, 3) := by decide +kernel
theorem dX9_sends_371 : decode cX9_sends 371 = .ok (.iconst 0, 1) := by decide +kernel
theorem dX9_sends_372 : decode cX9_sends 372 = .ok (.iadd, 1) := by decide +kernel
theorem dX9_sends_373 : decode cX9_sends 373 = .ok (.iastore, 1) := by decide +kernel
theorem dX9_sends_374 : decode cX9_sends 374 = .ok (.aload_n 0, 1) := by decide +kernel
theorem dX9_sends_375 : decode cX9_sends 375 = .ok (.getfield 7, 3) := by decide +kernel
theorem dX9_sends_378 : decode cX9_sends 378 = .ok (.sipush 196, 3) := by decide +kernel
theorem dX9_sends_381 : decode cX9_sends 381 = .ok (.dup2, 1) := by decide +kernel
theorem dX9_sends_382 : decode cX9_sends 382 = .ok (.iaload, 1) := by decide +kernel
theorem dX9_sends_383 : decode cX9_sends 383 = .ok (.iload 4, 2) := by decide +kernel
theorem dX9_sends_385 : decode cX9_sends 385 = .ok (.iadd, 1) := by decide +kernel
theorem dX9_sends_386 : decode cX9_sends 386 = .ok (.iastore, 1) := by decide +kernel
theorem dX9_sends_387 : decode cX9_sends 387 = .ok (.iload 4, 2) := by decide +kernel
theorem dX9_sends_389 : decode cX9_sends 389 = .ok (.ireturn, 1) := by decide +kernel
set_option maxRecDepth 20000 in
theorem ggX9_draw_X9_isPixel : GoodIn wsX9_draw wsX9_isPixel := goodIn_r _ [4, 5, 6, 3, 7] (by decide +kernel) (by decide +kernel)
set_option maxRecDepth 20000 in
theorem gX9_draw_X9_isPixel : GoodIn wsX9_draw (va_wsS RX9 89 yX9_isPixel wsX9_isPixel) := goodIn_app (goodIn_of _ (by decide +kernel)) ggX9_draw_X9_isPixel
set_option maxRecDepth 20000 in
theorem ggX9_draw_X9_in : GoodIn wsX9_draw wsX9_in := goodIn_r _ [7] (by decide +kernel) (by decide +kernel)
set_option maxRecDepth 20000 in
theorem gX9_draw_X9_in : GoodIn wsX9_draw (va_wsS RX9 29 yX9_in wsX9_in) := goodIn_app (goodIn_of _ (by decide +kernel)) ggX9_draw_X9_in
set_option maxRecDepth 20000 in
theorem ggX9_draw_X9_holds : GoodIn wsX9_draw wsX9_holds := goodIn_r _ [11, 12, 24, 25, 26, 27, 28, 29, 30, 31, 32, 33, 34, 35, 36, 37, 38] (by decide +kernel) (by decide +kernel)
set_option maxRecDepth 20000 in
theorem gX9_draw_X9_holds : GoodIn wsX9_draw (wsV RX9 93 RX9 yX9_holds wsX9_holds) := goodIn_app (goodIn_of _ (by decide +kernel)) ggX9_draw_X9_holds
set_option maxRecDepth 20000 in
theorem ggX9_draw_X9_record : GoodIn wsX9_draw wsX9_record := goodIn_r _ [16, 17, 18, 19, 24, 25, 26, 27, 28, 29, 30, 31, 32, 33, 34, 35, 36, 37, 38] (by decide +kernel) (by decide +kernel)
set_option maxRecDepth 20000 in
theorem gX9_draw_X9_record : GoodIn wsX9_draw (wsV RX9 96 RX9 yX9_record wsX9_record) := goodIn_app (goodIn_of _ (by decide +kernel)) ggX9_draw_X9_record
set_option maxRecDepth 20000 in
theorem ggX9_draw_X9_draws : GoodIn wsX9_draw wsX9_draws := goodIn_r _ [23, 19, 24, 25, 26, 27, 28, 29, 30, 31, 32, 33, 34, 35, 36, 37, 38] (by decide +kernel) (by decide +kernel)
set_option maxRecDepth 20000 in
theorem gX9_draw_X9_draws : GoodIn wsX9_draw (wsV RX9 99 RX9 yX9_draws wsX9_draws) := goodIn_app (goodIn_of _ (by decide +kernel)) ggX9_draw_X9_draws
theorem dX9_draw_0 : decode cX9_draw 0 = .ok (.aload_n 0, 1) := by decide +kernel
theorem dX9_draw_1 : decode cX9_draw 1 = .ok (.iload_n 1, 1) := by decide +kernel
theorem dX9_draw_2 : decode cX9_draw 2 = .ok (.invokestatic 89, 3) := by decide +kernel
theorem dX9_draw_5 : decode cX9_draw 5 = .ok (.ifCond .ne 7, 3) := by decide +kernel
theorem dX9_draw_8 : decode cX9_draw 8 = .ok (.iconst 1, 1) := by decide +kernel
theorem dX9_draw_9 : decode cX9_draw 9 = .ok (.goto 18, 3) := by decide +kernel
theorem dX9_draw_12 : decode cX9_draw 12 = .ok (.iload_n 2, 1) := by decide +kernel
theorem dX9_draw_13 : decode cX9_draw 13 = .ok (.iconst 0, 1) := by decide +kernel
theorem dX9_draw_14 : decode cX9_draw 14 = .ok (.bipush 15, 2) := by decide +kernel
theorem dX9_draw_16 : decode cX9_draw 16 = .ok (.invokestatic 29, 3) := by decide +kernel
theorem dX9_draw_19 : decode cX9_draw 19 = .ok (.ifCond .eq 7, 3) := by decide +kernel
theorem dX9_draw_22 : decode cX9_draw 22 = .ok (.iconst 0, 1) := by decide +kernel
theorem dX9_draw_23 : decode cX9_draw 23 = .ok (.goto 4, 3) := by decide +kernel
theorem dX9_draw_26 : decode cX9_draw 26 = .ok (.iconst 2, 1) := by decide +kernel
theorem dX9_draw_27 : decode cX9_draw 27 = .ok (.invokevirtual 93, 3) := by decide +kernel
theorem dX9_draw_30 : decode cX9_draw 30 = .ok (.ifCond .ne 5, 3) := by decide +kernel
theorem dX9_draw_33 : decode cX9_draw 33 = .ok (.iconst 0, 1) := by decide +kernel
theorem dX9_draw_34 : decode cX9_draw 34 = .ok (.ireturn, 1) := by decide +kernel
theorem dX9_draw_35 : decode cX9_draw 35 = .ok (.aload_n 0, 1) := by decide +kernel
theorem dX9_draw_36 : decode cX9_draw 36 = .ok (.invokevirtual 96, 3) := by decide +kernel
theorem dX9_draw_39 : decode cX9_draw 39 = .ok (.aload_n 0, 1) := by decide +kernel
theorem dX9_draw_40 : decode cX9_draw 40 = .ok (.iload_n 1, 1) := by decide +kernel
theorem dX9_draw_41 : decode cX9_draw 41 = .ok (.iload_n 2, 1) := by decide +kernel
theorem dX9_draw_42 : decode cX9_draw 42 = .ok (.invokevirtual 99, 3) := by decide +kernel
theorem dX9_draw_45 : decode cX9_draw 45 = .ok (.ireturn, 1) := by decide +kernel
set_option maxRecDepth 20000 in
theorem ggX9_fill_X9_isPixel : GoodIn wsX9_fill wsX9_isPixel := goodIn_r _ [4, 5, 6, 3, 7] (by decide +kernel) (by decide +kernel)
set_option maxRecDepth 20000 in
theorem gX9_fill_X9_isPixel : GoodIn wsX9_fill (va_wsS RX9 89 yX9_isPixel wsX9_isPixel) := goodIn_app (goodIn_of _ (by decide +kernel)) ggX9_fill_X9_isPixel
set_option maxRecDepth 20000 in
theorem ggX9_fill_X9_in : GoodIn wsX9_fill wsX9_in := goodIn_r _ [7] (by decide +kernel) (by decide +kernel)
set_option maxRecDepth 20000 in
theorem gX9_fill_X9_in : GoodIn wsX9_fill (va_wsS RX9 29 yX9_in wsX9_in) := goodIn_app (goodIn_of _ (by decide +kernel)) ggX9_fill_X9_in
set_option maxRecDepth 20000 in
theorem ggX9_fill_X9_holds : GoodIn wsX9_fill wsX9_holds := goodIn_r _ [11, 12, 24, 25, 26, 27, 28, 29, 30, 31, 32, 33, 34, 35, 36, 37, 38] (by decide +kernel) (by decide +kernel)
set_option maxRecDepth 20000 in
theorem gX9_fill_X9_holds : GoodIn wsX9_fill (wsV RX9 93 RX9 yX9_holds wsX9_holds) := goodIn_app (goodIn_of _ (by decide +kernel)) ggX9_fill_X9_holds
set_option maxRecDepth 20000 in
theorem ggX9_fill_X9_record : GoodIn wsX9_fill wsX9_record := goodIn_r _ [16, 17, 18, 19, 24, 25, 26, 27, 28, 29, 30, 31, 32, 33, 34, 35, 36, 37, 38] (by decide +kernel) (by decide +kernel)
set_option maxRecDepth 20000 in
theorem gX9_fill_X9_record : GoodIn wsX9_fill (wsV RX9 96 RX9 yX9_record wsX9_record) := goodIn_app (goodIn_of _ (by decide +kernel)) ggX9_fill_X9_record
set_option maxRecDepth 20000 in
theorem ggX9_fill_X9_draws : GoodIn wsX9_fill wsX9_draws := goodIn_r _ [23, 19, 24, 25, 26, 27, 28, 29, 30, 31, 32, 33, 34, 35, 36, 37, 38] (by decide +kernel) (by decide +kernel)
set_option maxRecDepth 20000 in
theorem gX9_fill_X9_draws : GoodIn wsX9_fill (wsV RX9 99 RX9 yX9_draws wsX9_draws) := goodIn_app (goodIn_of _ (by decide +kernel)) ggX9_fill_X9_draws
theorem dX9_fill_0 : decode cX9_fill 0 = .ok (.aload_n 0, 1) := by decide +kernel
theorem dX9_fill_1 : decode cX9_fill 1 = .ok (.iload_n 1, 1) := by decide +kernel
theorem dX9_fill_2 : decode cX9_fill 2 = .ok (.invokestatic 89, 3) := by decide +kernel
theorem dX9_fill_5 : decode cX9_fill 5 = .ok (.ifCond .ne 7, 3) := by decide +kernel
theorem dX9_fill_8 : decode cX9_fill 8 = .ok (.iconst 1, 1) := by decide +kernel
theorem dX9_fill_9 : decode cX9_fill 9 = .ok (.goto 39, 3) := by decide +kernel
theorem dX9_fill_12 : decode cX9_fill 12 = .ok (.iload_n 2, 1) := by decide +kernel
theorem dX9_fill_13 : decode cX9_fill 13 = .ok (.iconst 1, 1) := by decide +kernel
theorem dX9_fill_14 : decode cX9_fill 14 = .ok (.bipush 8, 2) := by decide +kernel
theorem dX9_fill_16 : decode cX9_fill 16 = .ok (.invokestatic 29, 3) := by decide +kernel
theorem dX9_fill_19 : decode cX9_fill 19 = .ok (.ifCond .eq 28, 3) := by decide +kernel
theorem dX9_fill_22 : decode cX9_fill 22 = .ok (.iload_n 3, 1) := by decide +kernel
theorem dX9_fill_23 : decode cX9_fill 23 = .ok (.iconst 1, 1) := by decide +kernel
theorem dX9_fill_24 : decode cX9_fill 24 = .ok (.bipush 8, 2) := by decide +kernel
theorem dX9_fill_26 : decode cX9_fill 26 = .ok (.invokestatic 29, 3) := by decide +kernel
theorem dX9_fill_29 : decode cX9_fill 29 = .ok (.ifCond .eq 18, 3) := by decide +kernel
theorem dX9_fill_32 : decode cX9_fill 32 = .ok (.iload 4, 2) := by decide +kernel
theorem dX9_fill_34 : decode cX9_fill 34 = .ok (.iconst 0, 1) := by decide +kernel
theorem dX9_fill_35 : decode cX9_fill 35 = .ok (.bipush 15, 2) := by decide +kernel
theorem dX9_fill_37 : decode cX9_fill 37 = .ok (.invokestatic 29, 3) := by decide +kernel
theorem dX9_fill_40 : decode cX9_fill 40 = .ok (.ifCond .eq 7, 3) := by decide +kernel
theorem dX9_fill_43 : decode cX9_fill 43 = .ok (.iconst 0, 1) := by decide +kernel
theorem dX9_fill_44 : decode cX9_fill 44 = .ok (.goto 4, 3) := by decide +kernel
theorem dX9_fill_47 : decode cX9_fill 47 = .ok (.iconst 2, 1) := by decide +kernel
theorem dX9_fill_48 : decode cX9_fill 48 = .ok (.invokevirtual 93, 3) := by decide +kernel
theorem dX9_fill_51 : decode cX9_fill 51 = .ok (.ifCond .ne 5, 3) := by decide +kernel
theorem dX9_fill_54 : decode cX9_fill 54 = .ok (.iconst 0, 1) := by decide +kernel
theorem dX9_fill_55 : decode cX9_fill 55 = .ok (.ireturn, 1) := by decide +kernel
theorem dX9_fill_56 : decode cX9_fill 56 = .ok (.aload_n 0, 1) := by decide +kernel
theorem dX9_fill_57 : decode cX9_fill 57 = .ok (.invokevirtual 96, 3) := by decide +kernel
theorem dX9_fill_60 : decode cX9_fill 60 = .ok (.iconst 0, 1) := by decide +kernel
theorem dX9_fill_61 : decode cX9_fill 61 = .ok (.istore 5, 2) := by decide +kernel
theorem dX9_fill_63 : decode cX9_fill 63 = .ok (.iload_n 1, 1) := by decide +kernel
theorem dX9_fill_64 : decode cX9_fill 64 = .ok (.bipush 8, 2) := by decide +kernel
theorem dX9_fill_66 : decode cX9_fill 66 = .ok (.idiv, 1) := by decide +kernel
theorem dX9_fill_67 : decode cX9_fill 67 = .ok (.istore 6, 2) := by decide +kernel
theorem dX9_fill_69 : decode cX9_fill 69 = .ok (.iload 6, 2) := by decide +kernel
theorem dX9_fill_71 : decode cX9_fill 71 = .ok (.iload_n 1, 1) := by decide +kernel
theorem dX9_fill_72 : decode cX9_fill 72 = .ok (.bipush 8, 2) := by decide +kernel
theorem dX9_fill_74 : decode cX9_fill 74 = .ok (.idiv, 1) := by decide +kernel
theorem dX9_fill_75 : decode cX9_fill 75 = .ok (.iload_n 2, 1) := by decide +kernel
theorem dX9_fill_76 : decode cX9_fill 76 = .ok (.iadd, 1) := by decide +kernel
theorem dX9_fill_77 : decode cX9_fill 77 = .ok (.if_icmp .ge 75, 3) := by decide +kernel
theorem dX9_fill_80 : decode cX9_fill 80 = .ok (.iload 6, 2) := by decide +kernel
theorem dX9_fill_82 : decode cX9_fill 82 = .ok (.bipush 8, 2) := by decide +kernel
theorem dX9_fill_84 : decode cX9_fill 84 = .ok (.if_icmp .ge 68, 3) := by decide +kernel
theorem dX9_fill_87 : decode cX9_fill 87 = .ok (.iload_n 1, 1) := by decide +kernel
theorem dX9_fill_88 : decode cX9_fill 88 = .ok (.bipush 8, 2) := by decide +kernel
theorem dX9_fill_90 : decode cX9_fill 90 = .ok (.irem, 1) := by decide +kernel
theorem dX9_fill_91 : decode cX9_fill 91 = .ok (.istore 7, 2) := by decide +kernel
theorem dX9_fill_93 : decode cX9_fill 93 = .ok (.iload 7, 2) := by decide +kernel
theorem dX9_fill_95 : decode cX9_fill 95 = .ok (.iload_n 1, 1) := by decide +kernel
theorem dX9_fill_96 : decode cX9_fill 96 = .ok (.bipush 8, 2) := by decide +kernel
theorem dX9_fill_98 : decode cX9_fill 98 = .ok (.irem, 1) := by decide +kernel
theorem dX9_fill_99 : decode cX9_fill 99 = .ok (.iload_n 3, 1) := by decide +kernel
theorem dX9_fill_100 : decode cX9_fill 100 = .ok (.iadd, 1) := by decide +kernel
theorem dX9_fill_101 : decode cX9_fill 101 = .ok (.if_icmp .ge 45, 3) := by decide +kernel
theorem dX9_fill_104 : decode cX9_fill 104 = .ok (.iload 7, 2) := by decide +kernel
theorem dX9_fill_106 : decode cX9_fill 106 = .ok (.bipush 8, 2) := by decide +kernel
theorem dX9_fill_108 : decode cX9_fill 108 = .ok (.if_icmp .ge 38, 3) := by decide +kernel
theorem dX9_fill_111 : decode cX9_fill 111 = .ok (.iload 5, 2) := by decide +kernel
theorem dX9_fill_113 : decode cX9_fill 113 = .ok (.aload_n 0, 1) := by decide +kernel
theorem dX9_fill_114 : decode cX9_fill 114 = .ok (.bipush 8, 2) := by decide +kernel
theorem dX9_fill_116 : decode cX9_fill 116 = .ok (.iload 6, 2) := by decide +kernel
theorem dX9_fill_118 : decode cX9_fill 118 = .ok (.imul, 1) := by decide +kernel
theorem dX9_fill_119 : decode cX9_fill 119 = .ok (.iload 7, 2) := by decide +kernel
theorem dX9_fill_121 : decode cX9_fill 121 = .ok (.iadd, 1) := by decide +kernel
theorem dX9_fill_122 : decode cX9_fill 122 = .ok (.iload 4, 2) := by decide +kernel
theorem dX9_fill_124 : decode cX9_fill 124 = .ok (.invokevirtual 99, 3) := by decide +kernel
theorem dX9_fill_127 : decode cX9_fill 127 = .ok (.iload 4, 2) := by decide +kernel
theorem dX9_fill_129 : decode cX9_fill 129 = .ok (.if_icmp .eq 7, 3) := by decide +kernel
theorem dX9_fill_132 : decode cX9_fill 132 = .ok (.iconst 1, 1) := by decide +kernel
theorem dX9_fill_133 : decode cX9_fill 133 = .ok (.goto 4, 3) := by decide +kernel
theorem dX9_fill_136 : decode cX9_fill 136 = .ok (.iconst 0, 1) := by decide +kernel
theorem dX9_fill_137 : decode cX9_fill 137 = .ok (.iadd, 1) := by decide +kernel
theorem dX9_fill_138 : decode cX9_fill 138 = .ok (.istore 5, 2) := by decide +kernel
theorem dX9_fill_140 : decode cX9_fill 140 = .ok (.iinc 7 1, 3) := by decide +kernel
theorem dX9_fill_143 : decode cX9_fill 143 = .ok (.goto (-50), 3) := by decide +kernel
theorem dX9_fill_146 : decode cX9_fill 146 = .ok (.iinc 6 1, 3) := by decide +kernel
theorem dX9_fill_149 : decode cX9_fill 149 = .ok (.goto (-80), 3) := by decide +kernel
theorem dX9_fill_152 : decode cX9_fill 152 = .ok (.iload 5, 2) := by decide +kernel
theorem dX9_fill_154 : decode cX9_fill 154 = .ok (.ireturn, 1) := by decide +kernel
set_option maxRecDepth 20000 in
theorem ggX9_scroll_X9_in : GoodIn wsX9_scroll wsX9_in := goodIn_r _ [4] (by decide +kernel) (by decide +kernel)
set_option maxRecDepth 20000 in
theorem gX9_scroll_X9_in : GoodIn wsX9_scroll (va_wsS RX9 29 yX9_in wsX9_in) := goodIn_app (goodIn_of _ (by decide +kernel)) ggX9_scroll_X9_in
set_option maxRecDepth 20000 in
theorem ggX9_scroll_X9_holds : GoodIn wsX9_scroll wsX9_holds := goodIn_r _ [8, 9, 28, 29, 30, 31, 32, 33, 34, 35, 36, 37, 38, 39, 40, 41, 42] (by decide +kernel) (by decide +kernel)
set_option maxRecDepth 20000 in
theorem gX9_scroll_X9_holds : GoodIn wsX9_scroll (wsV RX9 93 RX9 yX9_holds wsX9_holds) := goodIn_app (goodIn_of _ (by decide +kernel)) ggX9_scroll_X9_holds
set_option maxRecDepth 20000 in
theorem ggX9_scroll_X9_record : GoodIn wsX9_scroll wsX9_record := goodIn_r _ [13, 14, 15, 16, 28, 29, 30, 31, 32, 33, 34, 35, 36, 37, 38, 39, 40, 41, 42] (by decide +kernel) (by decide +kernel)
set_option maxRecDepth 20000 in
theorem gX9_scroll_X9_record : GoodIn wsX9_scroll (wsV RX9 96 RX9 yX9_record wsX9_record) := goodIn_app (goodIn_of _ (by decide +kernel)) ggX9_scroll_X9_record
set_option maxRecDepth 20000 in
theorem ggX9_scroll_X9_scrolls : GoodIn wsX9_scroll wsX9_scrolls := goodIn_r _ [20, 21, 16, 22, 23, 3, 24, 25, 26, 27, 28, 29, 30, 31, 32, 33, 34, 35, 36, 37, 38, 39, 40, 41, 42] (by decide +kernel) (by decide +kernel)
set_option maxRecDepth 20000 in
theorem gX9_scroll_X9_scrolls : GoodIn wsX9_scroll (wsV RX9 102 RX9 yX9_scrolls wsX9_scrolls) := goodIn_app (goodIn_of _ (by decide +kernel)) ggX9_scroll_X9_scrolls
theorem dX9_scroll_0 : decode cX9_scroll 0 = .ok (.aload_n 0, 1) := by decide +kernel
theorem dX9_scroll_1 : decode cX9_scroll 1 = .ok (.iload_n 1, 1) := by decide +kernel
theorem dX9_scroll_2 : decode cX9_scroll 2 = .ok (.bipush (-2), 2) := by decide +kernel
theorem dX9_scroll_4 : decode cX9_scroll 4 = .ok (.iconst 2, 1) := by decide +kernel
theorem dX9_scroll_5 : decode cX9_scroll 5 = .ok (.invokestatic 29, 3) := by decide +kernel
theorem dX9_scroll_8 : decode cX9_scroll 8 = .ok (.ifCond .eq 17, 3) := by decide +kernel
theorem dX9_scroll_11 : decode cX9_scroll 11 = .ok (.iload_n 2, 1) := by decide +kernel
theorem dX9_scroll_12 : decode cX9_scroll 12 = .ok (.bipush (-2), 2) := by decide +kernel
theorem dX9_scroll_14 : decode cX9_scroll 14 = .ok (.iconst 2, 1) := by decide +kernel
theorem dX9_scroll_15 : decode cX9_scroll 15 = .ok (.invokestatic 29, 3) := by decide +kernel
theorem dX9_scroll_18 : decode cX9_scroll 18 = .ok (.ifCond .eq 7, 3) := by decide +kernel
theorem dX9_scroll_21 : decode cX9_scroll 21 = .ok (.iconst 0, 1) := by decide +kernel
theorem dX9_scroll_22 : decode cX9_scroll 22 = .ok (.goto 4, 3) := by decide +kernel
theorem dX9_scroll_25 : decode cX9_scroll 25 = .ok (.iconst 1, 1) := by decide +kernel
theorem dX9_scroll_26 : decode cX9_scroll 26 = .ok (.invokevirtual 93, 3) := by decide +kernel
theorem dX9_scroll_29 : decode cX9_scroll 29 = .ok (.ifCond .ne 5, 3) := by decide +kernel
theorem dX9_scroll_32 : decode cX9_scroll 32 = .ok (.iconst 0, 1) := by decide +kernel
theorem dX9_scroll_33 : decode cX9_scroll 33 = .ok (.ireturn, 1) := by decide +kernel
theorem dX9_scroll_34 : decode cX9_scroll 34 = .ok (.aload_n 0, 1) := by decide +kernel
theorem dX9_scroll_35 : decode cX9_scroll 35 = .ok (.invokevirtual 96, 3) := by decide +kernel
theorem dX9_scroll_38 : decode cX9_scroll 38 = .ok (.aload_n 0, 1) := by decide +kernel
theorem dX9_scroll_39 : decode cX9_scroll 39 = .ok (.iload_n 1, 1) := by decide +kernel
theorem dX9_scroll_40 : decode cX9_scroll 40 = .ok (.iload_n 2, 1) := by decide +kernel
theorem dX9_scroll_41 : decode cX9_scroll 41 = .ok (.invokevirtual 102, 3) := by decide +kernel
theorem dX9_scroll_44 : decode cX9_scroll 44 = .ok (.ireturn, 1) := by decide +kernel
set_option maxRecDepth 20000 in
theorem ggX9_send_X9_holds : GoodIn wsX9_send wsX9_holds := goodIn_r _ [6, 7, 77, 78, 79, 80, 81, 82, 83, 84, 85, 86, 87, 88, 89, 90, 91] (by decide +kernel) (by decide +kernel)
set_option maxRecDepth 20000 in
theorem gX9_send_X9_holds : GoodIn wsX9_send (wsV RX9 93 RX9 yX9_holds wsX9_holds) := goodIn_app (goodIn_of _ (by decide +kernel)) ggX9_send_X9_holds
set_option maxRecDepth 20000 in
theorem ggX9_send_X9_record : GoodIn wsX9_send wsX9_record := goodIn_r _ [11, 12, 13, 1, 77, 78, 79, 80, 81, 82, 83, 84, 85, 86, 87, 88, 89, 90, 91] (by decide +kernel) (by decide +kernel)
set_option maxRecDepth 20000 in
theorem gX9_send_X9_record : GoodIn wsX9_send (wsV RX9 96 RX9 yX9_record wsX9_record) := goodIn_app (goodIn_of _ (by decide +kernel)) ggX9_send_X9_record
set_option maxRecDepth 20000 in
theorem ggX9_send_X9_sends : GoodIn wsX9_send wsX9_sends := goodIn_r _ [17, 18, 1, 19, 20, 21, 5, 22, 23, 24, 25, 26, 27, 28, 29, 30, 31, 32, 33, 34, 35, 36, 37, 38, 39, 40, 41, 42, 43, 44, 45, 46, 47, 48, 49, 50, 51, 52, 53, 54, 55, 56, 57, 58, 59, 60, 61, 62, 63, 64, 65, 66, 67, 68, 69, 70, 71, 72, 73, 74, 75, 76, 77, 78, 79, 80, 81, 82, 83, 84, 85, 86, 87, 88, 89, 90, 91] (by decide +kernel) (by decide +kernel)
set_option maxRecDepth 20000 in
theorem gX9_send_X9_sends : GoodIn wsX9_send (wsV RX9 105 RX9 yX9_sends wsX9_sends) := goodIn_app (goodIn_of _ (by decide +kernel)) ggX9_send_X9_sends
theorem dX9_send_0 : decode cX9_send 0 = .ok (.aload_n 0, 1) := by decide +kernel
theorem dX9_send_1 : decode cX9_send 1 = .ok (.aload_n 0, 1) := by decide +kernel
theorem dX9_send_2 : decode cX9_send 2 = .ok (.getfield 7, 3) := by decide +kernel
theorem dX9_send_5 : decode cX9_send 5 = .ok (.sipush 194, 3) := by decide +kernel
theorem dX9_send_8 : decode cX9_send 8 = .ok (.iaload, 1) := by decide +kernel
theorem dX9_send_9 : decode cX9_send 9 = .ok (.sipush 999, 3) := by decide +kernel
theorem dX9_send_12 : decode cX9_send 12 = .ok (.if_icmp .ge 7, 3) := by decide +kernel
theorem dX9_send_15 : decode cX9_send 15 = .ok (.iconst 0, 1) := by decide +kernel
theorem dX9_send_16 : decode cX9_send 16 = .ok (.goto 4, 3) := by decide +kernel
theorem dX9_send_19 : decode cX9_send 19 = .ok (.iconst 1, 1) := by decide +kernel
theorem dX9_send_20 : decode cX9_send 20 = .ok (.invokevirtual 93, 3) := by decide +kernel
theorem dX9_send_23 : decode cX9_send 23 = .ok (.ifCond .ne 5, 3) := by decide +kernel
theorem dX9_send_26 : decode cX9_send 26 = .ok (.iconst 0, 1) := by decide +kernel
theorem dX9_send_27 : decode cX9_send 27 = .ok (.ireturn, 1) := by decide +kernel
theorem dX9_send_28 : decode cX9_send 28 = .ok (.aload_n 0, 1) := by decide +kernel
theorem dX9_send_29 : decode cX9_send 29 = .ok (.invokevirtual 96, 3) := by decide +kernel
theorem dX9_send_32 : decode cX9_send 32 = .ok (.aload_n 0, 1) := by decide +kernel
theorem dX9_send_33 : decode cX9_send 33 = .ok (.iload_n 1, 1) := by decide +kernel
theorem dX9_send_34 : decode cX9_send 34 = .ok (.invokevirtual 105, 3) := by decide +kernel
theorem dX9_send_37 : decode cX9_send 37 = .ok (.ireturn, 1) := by decide +kernel
set_option maxRecDepth 20000 in
theorem ggX9_setBudget_X9_in : GoodIn wsX9_setBudget wsX9_in := goodIn_r _ [5] (by decide +kernel) (by decide +kernel)
set_option maxRecDepth 20000 in
theorem gX9_setBudget_X9_in : GoodIn wsX9_setBudget (va_wsS RX9 29 yX9_in wsX9_in) := goodIn_app (goodIn_of _ (by decide +kernel)) ggX9_setBudget_X9_in
set_option maxRecDepth 20000 in
theorem ggX9_setBudget_X9_holds : GoodIn wsX9_setBudget wsX9_holds := goodIn_r _ [9, 10, 17, 18, 19, 20, 21, 22, 23, 24, 25, 26, 27, 28, 29, 30, 31] (by decide +kernel) (by decide +kernel)
set_option maxRecDepth 20000 in
theorem gX9_setBudget_X9_holds : GoodIn wsX9_setBudget (wsV RX9 93 RX9 yX9_holds wsX9_holds) := goodIn_app (goodIn_of _ (by decide +kernel)) ggX9_setBudget_X9_holds
set_option maxRecDepth 20000 in
theorem ggX9_setBudget_X9_record : GoodIn wsX9_setBudget wsX9_record := goodIn_r _ [14, 15, 16, 1, 17, 18, 19, 20, 21, 22, 23, 24, 25, 26, 27, 28, 29, 30, 31] (by decide +kernel) (by decide +kernel)
set_option maxRecDepth 20000 in
theorem gX9_setBudget_X9_record : GoodIn wsX9_setBudget (wsV RX9 96 RX9 yX9_record wsX9_record) := goodIn_app (goodIn_of _ (by decide +kernel)) ggX9_setBudget_X9_record
theorem dX9_setBudget_0 : decode cX9_setBudget 0 = .ok (.aload_n 0, 1) := by decide +kernel
theorem dX9_setBudget_1 : decode cX9_setBudget 1 = .ok (.iload_n 1, 1) := by decide +kernel
theorem dX9_setBudget_2 : decode cX9_setBudget 2 = .ok (.iconst 4, 1) := by decide +kernel
theorem dX9_setBudget_3 : decode cX9_setBudget 3 = .ok (.sipush 300, 3) := by decide +kernel
theorem dX9_setBudget_6 : decode cX9_setBudget 6 = .ok (.invokestatic 29, 3) := by decide +kernel
theorem dX9_setBudget_9 : decode cX9_setBudget 9 = .ok (.ifCond .eq 7, 3) := by decide +kernel
theorem dX9_setBudget_12 : decode cX9_setBudget 12 = .ok (.iconst 0, 1) := by decide +kernel
theorem dX9_setBudget_13 : decode cX9_setBudget 13 = .ok (.goto 4, 3) := by decide +kernel
theorem dX9_setBudget_16 : decode cX9_setBudget 16 = .ok (.iconst 1, 1) := by decide +kernel
theorem dX9_setBudget_17 : decode cX9_setBudget 17 = .ok (.invokevirtual 93, 3) := by decide +kernel
theorem dX9_setBudget_20 : decode cX9_setBudget 20 = .ok (.ifCond .ne 5, 3) := by decide +kernel
theorem dX9_setBudget_23 : decode cX9_setBudget 23 = .ok (.iconst 0, 1) := by decide +kernel
theorem dX9_setBudget_24 : decode cX9_setBudget 24 = .ok (.ireturn, 1) := by decide +kernel
theorem dX9_setBudget_25 : decode cX9_setBudget 25 = .ok (.aload_n 0, 1) := by decide +kernel
theorem dX9_setBudget_26 : decode cX9_setBudget 26 = .ok (.invokevirtual 96, 3) := by decide +kernel
theorem dX9_setBudget_29 : decode cX9_setBudget 29 = .ok (.aload_n 0, 1) := by decide +kernel
theorem dX9_setBudget_30 : decode cX9_setBudget 30 = .ok (.getfield 7, 3) := by decide +kernel
theorem dX9_setBudget_33 : decode cX9_setBudget 33 = .ok (.sipush 192, 3) := by decide +kernel
theorem dX9_setBudget_36 : decode cX9_setBudget 36 = .ok (.iaload, 1) := by decide +kernel
theorem dX9_setBudget_37 : decode cX9_setBudget 37 = .ok (.istore_n 2, 1) := by decide +kernel
theorem dX9_setBudget_38 : decode cX9_setBudget 38 = .ok (.aload_n 0, 1) := by decide +kernel
theorem dX9_setBudget_39 : decode cX9_setBudget 39 = .ok (.getfield 7, 3) := by decide +kernel
theorem dX9_setBudget_42 : decode cX9_setBudget 42 = .ok (.sipush 192, 3) := by decide +kernel
theorem dX9_setBudget_45 : decode cX9_setBudget 45 = .ok (.iload_n 1, 1) := by decide +kernel
theorem dX9_setBudget_46 : decode cX9_setBudget 46 = .ok (.iastore, 1) := by decide +kernel
theorem dX9_setBudget_47 : decode cX9_setBudget 47 = .ok (.iload_n 2, 1) := by decide +kernel
theorem dX9_setBudget_48 : decode cX9_setBudget 48 = .ok (.ireturn, 1) := by decide +kernel
set_option maxRecDepth 20000 in
theorem ggX9_setKeyDistance_X9_in : GoodIn wsX9_setKeyDistance wsX9_in := goodIn_r _ [5] (by decide +kernel) (by decide +kernel)
set_option maxRecDepth 20000 in
theorem gX9_setKeyDistance_X9_in : GoodIn wsX9_setKeyDistance (va_wsS RX9 29 yX9_in wsX9_in) := goodIn_app (goodIn_of _ (by decide +kernel)) ggX9_setKeyDistance_X9_in
set_option maxRecDepth 20000 in
theorem ggX9_setKeyDistance_X9_holds : GoodIn wsX9_setKeyDistance wsX9_holds := goodIn_r _ [9, 10, 17, 18, 19, 20, 21, 22, 23, 24, 25, 26, 27, 28, 29, 30, 31] (by decide +kernel) (by decide +kernel)
set_option maxRecDepth 20000 in
theorem gX9_setKeyDistance_X9_holds : GoodIn wsX9_setKeyDistance (wsV RX9 93 RX9 yX9_holds wsX9_holds) := goodIn_app (goodIn_of _ (by decide +kernel)) ggX9_setKeyDistance_X9_holds
set_option maxRecDepth 20000 in
theorem ggX9_setKeyDistance_X9_record : GoodIn wsX9_setKeyDistance wsX9_record := goodIn_r _ [14, 15, 16, 1, 17, 18, 19, 20, 21, 22, 23, 24, 25, 26, 27, 28, 29, 30, 31] (by decide +kernel) (by decide +kernel)
set_option maxRecDepth 20000 in
theorem gX9_setKeyDistance_X9_record : GoodIn wsX9_setKeyDistance (wsV RX9 96 RX9 yX9_record wsX9_record) := goodIn_app (goodIn_of _ (by decide +kernel)) ggX9_setKeyDistance_X9_record
theorem dX9_setKeyDistance_0 : decode cX9_setKeyDistance 0 = .ok (.aload_n 0, 1) := by decide +kernel
theorem dX9_setKeyDistance_1 : decode cX9_setKeyDistance 1 = .ok (.iload_n 1, 1) := by decide +kernel
theorem dX9_setKeyDistance_2 : decode cX9_setKeyDistance 2 = .ok (.iconst 1, 1) := by decide +kernel
theorem dX9_setKeyDistance_3 : decode cX9_setKeyDistance 3 = .ok (.bipush 20, 2) := by decide +kernel
theorem dX9_setKeyDistance_5 : decode cX9_setKeyDistance 5 = .ok (.invokestatic 29, 3) := by decide +kernel
theorem dX9_setKeyDistance_8 : decode cX9_setKeyDistance 8 = .ok (.ifCond .eq 7, 3) := by decide +kernel
theorem dX9_setKeyDistance_11 : decode cX9_setKeyDistance 11 = .ok (.iconst 0, 1) := by decide +kernel
theorem dX9_setKeyDistance_12 : decode cX9_setKeyDistance 12 = .ok (.goto 4, 3) := by decide +kernel
theorem dX9_setKeyDistance_15 : decode cX9_setKeyDistance 15 = .ok (.iconst 1, 1) := by decide +kernel
theorem dX9_setKeyDistance_16 : decode cX9_setKeyDistance 16 = .ok (.invokevirtual 93, 3) := by decide +kernel
theorem dX9_setKeyDistance_19 : decode cX9_setKeyDistance 19 = .ok (.ifCond .ne 5, 3) := by decide +kernel
theorem dX9_setKeyDistance_22 : decode cX9_setKeyDistance 22 = .ok (.iconst 0, 1) := by decide +kernel
theorem dX9_setKeyDistance_23 : decode cX9_setKeyDistance 23 = .ok (.ireturn, 1) := by decide +kernel
theorem dX9_setKeyDistance_24 : decode cX9_setKeyDistance 24 = .ok (.aload_n 0, 1) := by decide +kernel
theorem dX9_setKeyDistance_25 : decode cX9_setKeyDistance 25 = .ok (.invokevirtual 96, 3) := by decide +kernel
theorem dX9_setKeyDistance_28 : decode cX9_setKeyDistance 28 = .ok (.aload_n 0, 1) := by decide +kernel
theorem dX9_setKeyDistance_29 : decode cX9_setKeyDistance 29 = .ok (.getfield 7, 3) := by decide +kernel
theorem dX9_setKeyDistance_32 : decode cX9_setKeyDistance 32 = .ok (.sipush 193, 3) := by decide +kernel
theorem dX9_setKeyDistance_35 : decode cX9_setKeyDistance 35 = .ok (.iaload, 1) := by decide +kernel
theorem dX9_setKeyDistance_36 : decode cX9_setKeyDistance 36 = .ok (.istore_n 2, 1) := by decide +kernel
theorem dX9_setKeyDistance_37 : decode cX9_setKeyDistance 37 = .ok (.aload_n 0, 1) := by decide +kernel
theorem dX9_setKeyDistance_38 : decode cX9_setKeyDistance 38 = .ok (.getfield 7, 3) := by decide +kernel
theorem dX9_setKeyDistance_41 : decode cX9_setKeyDistance 41 = .ok (.sipush 193, 3) := by decide +kernel
theorem dX9_setKeyDistance_44 : decode cX9_setKeyDistance 44 = .ok (.iload_n 1, 1) := by decide +kernel
theorem dX9_setKeyDistance_45 : decode cX9_setKeyDistance 45 = .ok (.iastore, 1) := by decide +kernel
theorem dX9_setKeyDistance_46 : decode cX9_setKeyDistance 46 = .ok (.iload_n 2, 1) := by decide +kernel
theorem dX9_setKeyDistance_47 : decode cX9_setKeyDistance 47 = .ok (.ireturn, 1) := by decide +kernel
set_option maxRecDepth 20000 in
theorem ggX9_drawnAt_X9_isPixel : GoodIn wsX9_drawnAt wsX9_isPixel := goodIn_r _ [5, 6, 7, 4, 8] (by decide +kernel) (by decide +kernel)
set_option maxRecDepth 20000 in
theorem gX9_drawnAt_X9_isPixel : GoodIn wsX9_drawnAt (va_wsS RX9 89 yX9_isPixel wsX9_isPixel) := goodIn_app (goodIn_of _ (by decide +kernel)) ggX9_drawnAt_X9_isPixel
set_option maxRecDepth 20000 in
theorem ggX9_drawnAt_X9_holds : GoodIn wsX9_drawnAt wsX9_holds := goodIn_r _ [12, 13, 14, 15, 16, 17, 18, 19, 20, 21, 22, 23, 24, 25, 26, 27, 28] (by decide +kernel) (by decide +kernel)
set_option maxRecDepth 20000 in
theorem gX9_drawnAt_X9_holds : GoodIn wsX9_drawnAt (wsV RX9 93 RX9 yX9_holds wsX9_holds) := goodIn_app (goodIn_of _ (by decide +kernel)) ggX9_drawnAt_X9_holds
theorem dX9_drawnAt_0 : decode cX9_drawnAt 0 = .ok (.aload_n 0, 1) := by decide +kernel
theorem dX9_drawnAt_1 : decode cX9_drawnAt 1 = .ok (.iload_n 1, 1) := by decide +kernel
theorem dX9_drawnAt_2 : decode cX9_drawnAt 2 = .ok (.invokestatic 89, 3) := by decide +kernel
theorem dX9_drawnAt_5 : decode cX9_drawnAt 5 = .ok (.ifCond .eq 7, 3) := by decide +kernel
theorem dX9_drawnAt_8 : decode cX9_drawnAt 8 = .ok (.iconst 0, 1) := by decide +kernel
theorem dX9_drawnAt_9 : decode cX9_drawnAt 9 = .ok (.goto 4, 3) := by decide +kernel
theorem dX9_drawnAt_12 : decode cX9_drawnAt 12 = .ok (.iconst 1, 1) := by decide +kernel
theorem dX9_drawnAt_13 : decode cX9_drawnAt 13 = .ok (.invokevirtual 93, 3) := by decide +kernel
theorem dX9_drawnAt_16 : decode cX9_drawnAt 16 = .ok (.ifCond .eq 14, 3) := by decide +kernel
theorem dX9_drawnAt_19 : decode cX9_drawnAt 19 = .ok (.aload_n 0, 1) := by decide +kernel
theorem dX9_drawnAt_20 : decode cX9_drawnAt 20 = .ok (.getfield 7, 3) := by decide +kernel
theorem dX9_drawnAt_23 : decode cX9_drawnAt 23 = .ok (.iconst 0, 1) := by decide +kernel
theorem dX9_drawnAt_24 : decode cX9_drawnAt 24 = .ok (.iload_n 1, 1) := by decide +kernel
theorem dX9_drawnAt_25 : decode cX9_drawnAt 25 = .ok (.iadd, 1) := by decide +kernel
theorem dX9_drawnAt_26 : decode cX9_drawnAt 26 = .ok (.iaload, 1) := by decide +kernel
theorem dX9_drawnAt_27 : decode cX9_drawnAt 27 = .ok (.goto 4, 3) := by decide +kernel
theorem dX9_drawnAt_30 : decode cX9_drawnAt 30 = .ok (.iconst 0, 1) := by decide +kernel
theorem dX9_drawnAt_31 : decode cX9_drawnAt 31 = .ok (.ireturn, 1) := by decide +kernel
set_option maxRecDepth 20000 in
theorem ggX9_sentAt_X9_isPixel : GoodIn wsX9_sentAt wsX9_isPixel := goodIn_r _ [5, 6, 7, 4, 8] (by decide +kernel) (by decide +kernel)
set_option maxRecDepth 20000 in
theorem gX9_sentAt_X9_isPixel : GoodIn wsX9_sentAt (va_wsS RX9 89 yX9_isPixel wsX9_isPixel) := goodIn_app (goodIn_of _ (by decide +kernel)) ggX9_sentAt_X9_isPixel
set_option maxRecDepth 20000 in
theorem ggX9_sentAt_X9_holds : GoodIn wsX9_sentAt wsX9_holds := goodIn_r _ [12, 13, 14, 15, 16, 17, 18, 19, 20, 21, 22, 23, 24, 25, 26, 27, 28] (by decide +kernel) (by decide +kernel)
set_option maxRecDepth 20000 in
theorem gX9_sentAt_X9_holds : GoodIn wsX9_sentAt (wsV RX9 93 RX9 yX9_holds wsX9_holds) := goodIn_app (goodIn_of _ (by decide +kernel)) ggX9_sentAt_X9_holds
theorem dX9_sentAt_0 : decode cX9_sentAt 0 = .ok (.aload_n 0, 1) := by decide +kernel
theorem dX9_sentAt_1 : decode cX9_sentAt 1 = .ok (.iload_n 1, 1) := by decide +kernel
theorem dX9_sentAt_2 : decode cX9_sentAt 2 = .ok (.invokestatic 89, 3) := by decide +kernel
theorem dX9_sentAt_5 : decode cX9_sentAt 5 = .ok (.ifCond .eq 7, 3) := by decide +kernel
theorem dX9_sentAt_8 : decode cX9_sentAt 8 = .ok (.iconst 0, 1) := by decide +kernel
theorem dX9_sentAt_9 : decode cX9_sentAt 9 = .ok (.goto 4, 3) := by decide +kernel
theorem dX9_sentAt_12 : decode cX9_sentAt 12 = .ok (.iconst 1, 1) := by decide +kernel
theorem dX9_sentAt_13 : decode cX9_sentAt 13 = .ok (.invokevirtual 93, 3) := by decide +kernel
theorem dX9_sentAt_16 : decode cX9_sentAt 16 = .ok (.ifCond .eq 15, 3) := by decide +kernel
theorem dX9_sentAt_19 : decode cX9_sentAt 19 = .ok (.aload_n 0, 1) := by decide +kernel
theorem dX9_sentAt_20 : decode cX9_sentAt 20 = .ok (.getfield 7, 3) := by decide +kernel
theorem dX9_sentAt_23 : decode cX9_sentAt 23 = .ok (.bipush 64, 2) := by decide +kernel
theorem dX9_sentAt_25 : decode cX9_sentAt 25 = .ok (.iload_n 1, 1) := by decide +kernel
theorem dX9_sentAt_26 : decode cX9_sentAt 26 = .ok (.iadd, 1) := by decide +kernel
theorem dX9_sentAt_27 : decode cX9_sentAt 27 = .ok (.iaload, 1) := by decide +kernel
theorem dX9_sentAt_28 : decode cX9_sentAt 28 = .ok (.goto 4, 3) := by decide +kernel
theorem dX9_sentAt_31 : decode cX9_sentAt 31 = .ok (.iconst 0, 1) := by decide +kernel
theorem dX9_sentAt_32 : decode cX9_sentAt 32 = .ok (.ireturn, 1) := by decide +kernel
set_option maxRecDepth 20000 in
theorem ggX9_receivedAt_X9_isPixel : GoodIn wsX9_receivedAt wsX9_isPixel := goodIn_r _ [5, 6, 7, 4, 8] (by decide +kernel) (by decide +kernel)
set_option maxRecDepth 20000 in
theorem gX9_receivedAt_X9_isPixel : GoodIn wsX9_receivedAt (va_wsS RX9 89 yX9_isPixel wsX9_isPixel) := goodIn_app (goodIn_of _ (by decide +kernel)) ggX9_receivedAt_X9_isPixel
set_option maxRecDepth 20000 in
theorem ggX9_receivedAt_X9_holds : GoodIn wsX9_receivedAt wsX9_holds := goodIn_r _ [12, 13, 14, 15, 16, 17, 18, 19, 20, 21, 22, 23, 24, 25, 26, 27, 28] (by decide +kernel) (by decide +kernel)
set_option maxRecDepth 20000 in
theorem gX9_receivedAt_X9_holds : GoodIn wsX9_receivedAt (wsV RX9 93 RX9 yX9_holds wsX9_holds) := goodIn_app (goodIn_of _ (by decide +kernel)) ggX9_receivedAt_X9_holds
theorem dX9_receivedAt_0 : decode cX9_receivedAt 0 = .ok (.aload_n 0, 1) := by decide +kernel
theorem dX9_receivedAt_1 : decode cX9_receivedAt 1 = .ok (.iload_n 1, 1) := by decide +kernel
theorem dX9_receivedAt_2 : decode cX9_receivedAt 2 = .ok (.invokestatic 89, 3) := by decide +kernel
theorem dX9_receivedAt_5 : decode cX9_receivedAt 5 = .ok (.ifCond .eq 7, 3) := by decide +kernel
theorem dX9_receivedAt_8 : decode cX9_receivedAt 8 = .ok (.iconst 0, 1) := by decide +kernel
