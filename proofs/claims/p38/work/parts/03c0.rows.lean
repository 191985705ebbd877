set_option maxRecDepth 20000 in
theorem ggX0_writeBlock_X5_moveOf : GoodIn wsX0_writeBlock wsX5_moveOf := goodIn_r _ [5, 6, 43, 44, 45, 46, 47, 48] (by decide +kernel) (by decide +kernel)
set_option maxRecDepth 20000 in
theorem gX0_writeBlock_X5_moveOf_n19 : GoodIn wsX0_writeBlock (wsX5_moveOf) := ggX0_writeBlock_X5_moveOf
set_option maxRecDepth 20000 in
theorem ggX0_writeBlock_X0_writeNumber : GoodIn wsX0_writeBlock wsX0_writeNumber := goodIn_r _ [11, 12, 13, 14, 10, 15, 1, 16, 41, 42] (by decide +kernel) (by decide +kernel)
set_option maxRecDepth 20000 in
theorem gX0_writeBlock_X0_writeNumber : GoodIn wsX0_writeBlock (wsV RX0 25 RX0 yX0_writeNumber wsX0_writeNumber) := goodIn_app (goodIn_of _ (by decide +kernel)) ggX0_writeBlock_X0_writeNumber
set_option maxRecDepth 20000 in
theorem ggX0_writeBlock_X8_pixelIn : GoodIn wsX0_writeBlock wsX8_pixelIn := goodIn_r _ [19] (by decide +kernel) (by decide +kernel)
set_option maxRecDepth 20000 in
theorem gX0_writeBlock_X8_pixelIn_n29 : GoodIn wsX0_writeBlock (wsX8_pixelIn) := ggX0_writeBlock_X8_pixelIn
set_option maxRecDepth 20000 in
theorem ggX0_writeBlock_X5_levelAt : GoodIn wsX0_writeBlock wsX5_levelAt := goodIn_r _ [22, 23, 43, 44, 45, 46, 47, 48] (by decide +kernel) (by decide +kernel)
set_option maxRecDepth 20000 in
theorem gX0_writeBlock_X5_levelAt_n33 : GoodIn wsX0_writeBlock (wsX5_levelAt) := ggX0_writeBlock_X5_levelAt
set_option maxRecDepth 20000 in
theorem ggX0_writeBlock_X0_writeLevel : GoodIn wsX0_writeBlock wsX0_writeLevel := goodIn_r _ [27, 28, 29, 30, 31, 7, 8, 9, 10, 11, 12, 13, 14, 15, 1, 16, 41, 42] (by decide +kernel) (by decide +kernel)
set_option maxRecDepth 20000 in
theorem gX0_writeBlock_X0_writeLevel : GoodIn wsX0_writeBlock (wsV RX0 36 RX0 yX0_writeLevel wsX0_writeLevel) := goodIn_app (goodIn_of _ (by decide +kernel)) ggX0_writeBlock_X0_writeLevel
set_option maxRecDepth 20000 in
theorem ggX0_writeBlock_X0_writeRaw : GoodIn wsX0_writeBlock wsX0_writeRaw := goodIn_r _ [35, 7, 8, 9, 10, 11, 12, 13, 14, 15, 1, 16, 17, 18, 19, 36, 37, 38, 39, 40, 41, 42, 49] (by decide +kernel) (by decide +kernel)
set_option maxRecDepth 20000 in
theorem gX0_writeBlock_X0_writeRaw : GoodIn wsX0_writeBlock (wsV RX0 40 RX0 yX0_writeRaw wsX0_writeRaw) := goodIn_app (goodIn_of _ (by decide +kernel)) ggX0_writeBlock_X0_writeRaw
theorem dX0_writeBlock_0 : decode cX0_writeBlock 0 = .ok (.aload_n 1, 1) := by decide +kernel
theorem dX0_writeBlock_1 : decode cX0_writeBlock 1 = .ok (.iload_n 3, 1) := by decide +kernel
theorem dX0_writeBlock_2 : decode cX0_writeBlock 2 = .ok (.invokevirtual 19, 3) := by decide +kernel
theorem dX0_writeBlock_5 : decode cX0_writeBlock 5 = .ok (.bipush 12, 2) := by decide +kernel
theorem dX0_writeBlock_7 : decode cX0_writeBlock 7 = .ok (.if_icmp .ne 7, 3) := by decide +kernel
theorem dX0_writeBlock_10 : decode cX0_writeBlock 10 = .ok (.iconst 1, 1) := by decide +kernel
theorem dX0_writeBlock_11 : decode cX0_writeBlock 11 = .ok (.goto 4, 3) := by decide +kernel
theorem dX0_writeBlock_14 : decode cX0_writeBlock 14 = .ok (.iconst 0, 1) := by decide +kernel
theorem dX0_writeBlock_15 : decode cX0_writeBlock 15 = .ok (.istore 5, 2) := by decide +kernel
theorem dX0_writeBlock_17 : decode cX0_writeBlock 17 = .ok (.aload_n 0, 1) := by decide +kernel
theorem dX0_writeBlock_18 : decode cX0_writeBlock 18 = .ok (.iconst 0, 1) := by decide +kernel
theorem dX0_writeBlock_19 : decode cX0_writeBlock 19 = .ok (.putfield 15, 3) := by decide +kernel
theorem dX0_writeBlock_22 : decode cX0_writeBlock 22 = .ok (.aload_n 0, 1) := by decide +kernel
theorem dX0_writeBlock_23 : decode cX0_writeBlock 23 = .ok (.aload_n 1, 1) := by decide +kernel
theorem dX0_writeBlock_24 : decode cX0_writeBlock 24 = .ok (.iload_n 3, 1) := by decide +kernel
theorem dX0_writeBlock_25 : decode cX0_writeBlock 25 = .ok (.invokevirtual 19, 3) := by decide +kernel
theorem dX0_writeBlock_28 : decode cX0_writeBlock 28 = .ok (.bipush 6, 2) := by decide +kernel
theorem dX0_writeBlock_30 : decode cX0_writeBlock 30 = .ok (.invokevirtual 25, 3) := by decide +kernel
theorem dX0_writeBlock_33 : decode cX0_writeBlock 33 = .ok (.iconst 0, 1) := by decide +kernel
theorem dX0_writeBlock_34 : decode cX0_writeBlock 34 = .ok (.istore 6, 2) := by decide +kernel
theorem dX0_writeBlock_36 : decode cX0_writeBlock 36 = .ok (.iload 6, 2) := by decide +kernel
theorem dX0_writeBlock_38 : decode cX0_writeBlock 38 = .ok (.bipush 16, 2) := by decide +kernel
theorem dX0_writeBlock_40 : decode cX0_writeBlock 40 = .ok (.if_icmp .ge 46, 3) := by decide +kernel
theorem dX0_writeBlock_43 : decode cX0_writeBlock 43 = .ok (.aload_n 1, 1) := by decide +kernel
theorem dX0_writeBlock_44 : decode cX0_writeBlock 44 = .ok (.iload_n 3, 1) := by decide +kernel
theorem dX0_writeBlock_45 : decode cX0_writeBlock 45 = .ok (.iload 6, 2) := by decide +kernel
theorem dX0_writeBlock_47 : decode cX0_writeBlock 47 = .ok (.invokestatic 29, 3) := by decide +kernel
theorem dX0_writeBlock_50 : decode cX0_writeBlock 50 = .ok (.iload 4, 2) := by decide +kernel
theorem dX0_writeBlock_52 : decode cX0_writeBlock 52 = .ok (.invokevirtual 33, 3) := by decide +kernel
theorem dX0_writeBlock_55 : decode cX0_writeBlock 55 = .ok (.istore 7, 2) := by decide +kernel
theorem dX0_writeBlock_57 : decode cX0_writeBlock 57 = .ok (.aload_n 0, 1) := by decide +kernel
theorem dX0_writeBlock_58 : decode cX0_writeBlock 58 = .ok (.iload 7, 2) := by decide +kernel
theorem dX0_writeBlock_60 : decode cX0_writeBlock 60 = .ok (.invokevirtual 36, 3) := by decide +kernel
theorem dX0_writeBlock_63 : decode cX0_writeBlock 63 = .ok (.iload 5, 2) := by decide +kernel
theorem dX0_writeBlock_65 : decode cX0_writeBlock 65 = .ok (.ifCond .eq 12, 3) := by decide +kernel
theorem dX0_writeBlock_68 : decode cX0_writeBlock 68 = .ok (.iload 7, 2) := by decide +kernel
theorem dX0_writeBlock_70 : decode cX0_writeBlock 70 = .ok (.ifCond .ne 7, 3) := by decide +kernel
theorem dX0_writeBlock_73 : decode cX0_writeBlock 73 = .ok (.iconst 1, 1) := by decide +kernel
theorem dX0_writeBlock_74 : decode cX0_writeBlock 74 = .ok (.goto 4, 3) := by decide +kernel
theorem dX0_writeBlock_77 : decode cX0_writeBlock 77 = .ok (.iconst 0, 1) := by decide +kernel
theorem dX0_writeBlock_78 : decode cX0_writeBlock 78 = .ok (.istore 5, 2) := by decide +kernel
theorem dX0_writeBlock_80 : decode cX0_writeBlock 80 = .ok (.iinc 6 1, 3) := by decide +kernel
theorem dX0_writeBlock_83 : decode cX0_writeBlock 83 = .ok (.goto (-47), 3) := by decide +kernel
theorem dX0_writeBlock_86 : decode cX0_writeBlock 86 = .ok (.iload 5, 2) := by decide +kernel
theorem dX0_writeBlock_88 : decode cX0_writeBlock 88 = .ok (.ifCond .eq 17, 3) := by decide +kernel
theorem dX0_writeBlock_91 : decode cX0_writeBlock 91 = .ok (.aload_n 0, 1) := by decide +kernel
theorem dX0_writeBlock_92 : decode cX0_writeBlock 92 = .ok (.iconst 0, 1) := by decide +kernel
theorem dX0_writeBlock_93 : decode cX0_writeBlock 93 = .ok (.putfield 15, 3) := by decide +kernel
theorem dX0_writeBlock_96 : decode cX0_writeBlock 96 = .ok (.aload_n 0, 1) := by decide +kernel
theorem dX0_writeBlock_97 : decode cX0_writeBlock 97 = .ok (.iconst 1, 1) := by decide +kernel
theorem dX0_writeBlock_98 : decode cX0_writeBlock 98 = .ok (.iconst 1, 1) := by decide +kernel
theorem dX0_writeBlock_99 : decode cX0_writeBlock 99 = .ok (.invokevirtual 25, 3) := by decide +kernel
theorem dX0_writeBlock_102 : decode cX0_writeBlock 102 = .ok (.goto 23, 3) := by decide +kernel
theorem dX0_writeBlock_105 : decode cX0_writeBlock 105 = .ok (.aload_n 0, 1) := by decide +kernel
theorem dX0_writeBlock_106 : decode cX0_writeBlock 106 = .ok (.getfield 15, 3) := by decide +kernel
theorem dX0_writeBlock_109 : decode cX0_writeBlock 109 = .ok (.bipush 66, 2) := by decide +kernel
theorem dX0_writeBlock_111 : decode cX0_writeBlock 111 = .ok (.if_icmp .le 14, 3) := by decide +kernel
theorem dX0_writeBlock_114 : decode cX0_writeBlock 114 = .ok (.aload_n 0, 1) := by decide +kernel
theorem dX0_writeBlock_115 : decode cX0_writeBlock 115 = .ok (.iconst 0, 1) := by decide +kernel
theorem dX0_writeBlock_116 : decode cX0_writeBlock 116 = .ok (.putfield 15, 3) := by decide +kernel
theorem dX0_writeBlock_119 : decode cX0_writeBlock 119 = .ok (.aload_n 0, 1) := by decide +kernel
theorem dX0_writeBlock_120 : decode cX0_writeBlock 120 = .ok (.aload_n 2, 1) := by decide +kernel
theorem dX0_writeBlock_121 : decode cX0_writeBlock 121 = .ok (.iload_n 3, 1) := by decide +kernel
theorem dX0_writeBlock_122 : decode cX0_writeBlock 122 = .ok (.invokevirtual 40, 3) := by decide +kernel
theorem dX0_writeBlock_125 : decode cX0_writeBlock 125 = .ok (.aload_n 0, 1) := by decide +kernel
theorem dX0_writeBlock_126 : decode cX0_writeBlock 126 = .ok (.getfield 15, 3) := by decide +kernel
theorem dX0_writeBlock_129 : decode cX0_writeBlock 129 = .ok (.ireturn, 1) := by decide +kernel
set_option maxRecDepth 20000 in
theorem ggX0_writeRaw_X0_writeNumber : GoodIn wsX0_writeRaw wsX0_writeNumber := goodIn_r _ [5, 6, 7, 8, 4, 9, 10, 11, 20, 21] (by decide +kernel) (by decide +kernel)
set_option maxRecDepth 20000 in
theorem gX0_writeRaw_X0_writeNumber : GoodIn wsX0_writeRaw (wsV RX0 25 RX0 yX0_writeNumber wsX0_writeNumber) := goodIn_app (goodIn_of _ (by decide +kernel)) ggX0_writeRaw_X0_writeNumber
set_option maxRecDepth 20000 in
theorem ggX0_writeRaw_X8_pixelIn : GoodIn wsX0_writeRaw wsX8_pixelIn := goodIn_r _ [14] (by decide +kernel) (by decide +kernel)
set_option maxRecDepth 20000 in
theorem gX0_writeRaw_X8_pixelIn_n29 : GoodIn wsX0_writeRaw (wsX8_pixelIn) := ggX0_writeRaw_X8_pixelIn
set_option maxRecDepth 20000 in
theorem ggX0_writeRaw_X4_valueAt : GoodIn wsX0_writeRaw wsX4_valueAt := goodIn_r _ [18, 19, 22] (by decide +kernel) (by decide +kernel)
set_option maxRecDepth 20000 in
theorem gX0_writeRaw_X4_valueAt_n44 : GoodIn wsX0_writeRaw (wsX4_valueAt) := ggX0_writeRaw_X4_valueAt
theorem dX0_writeRaw_0 : decode cX0_writeRaw 0 = .ok (.aload_n 0, 1) := by decide +kernel
theorem dX0_writeRaw_1 : decode cX0_writeRaw 1 = .ok (.iconst 0, 1) := by decide +kernel
theorem dX0_writeRaw_2 : decode cX0_writeRaw 2 = .ok (.iconst 2, 1) := by decide +kernel
theorem dX0_writeRaw_3 : decode cX0_writeRaw 3 = .ok (.invokevirtual 25, 3) := by decide +kernel
theorem dX0_writeRaw_6 : decode cX0_writeRaw 6 = .ok (.iconst 0, 1) := by decide +kernel
theorem dX0_writeRaw_7 : decode cX0_writeRaw 7 = .ok (.istore_n 3, 1) := by decide +kernel
theorem dX0_writeRaw_8 : decode cX0_writeRaw 8 = .ok (.iload_n 3, 1) := by decide +kernel
theorem dX0_writeRaw_9 : decode cX0_writeRaw 9 = .ok (.bipush 16, 2) := by decide +kernel
theorem dX0_writeRaw_11 : decode cX0_writeRaw 11 = .ok (.if_icmp .ge 23, 3) := by decide +kernel
theorem dX0_writeRaw_14 : decode cX0_writeRaw 14 = .ok (.aload_n 0, 1) := by decide +kernel
theorem dX0_writeRaw_15 : decode cX0_writeRaw 15 = .ok (.aload_n 1, 1) := by decide +kernel
theorem dX0_writeRaw_16 : decode cX0_writeRaw 16 = .ok (.iload_n 2, 1) := by decide +kernel
theorem dX0_writeRaw_17 : decode cX0_writeRaw 17 = .ok (.iload_n 3, 1) := by decide +kernel
theorem dX0_writeRaw_18 : decode cX0_writeRaw 18 = .ok (.invokestatic 29, 3) := by decide +kernel
theorem dX0_writeRaw_21 : decode cX0_writeRaw 21 = .ok (.invokevirtual 44, 3) := by decide +kernel
theorem dX0_writeRaw_24 : decode cX0_writeRaw 24 = .ok (.iconst 4, 1) := by decide +kernel
theorem dX0_writeRaw_25 : decode cX0_writeRaw 25 = .ok (.invokevirtual 25, 3) := by decide +kernel
theorem dX0_writeRaw_28 : decode cX0_writeRaw 28 = .ok (.iinc 3 1, 3) := by decide +kernel
theorem dX0_writeRaw_31 : decode cX0_writeRaw 31 = .ok (.goto (-23), 3) := by decide +kernel
theorem dX0_writeRaw_34 : decode cX0_writeRaw 34 = .ok (.return_, 1) := by decide +kernel
set_option maxRecDepth 20000 in
theorem ggX0_writeLevel_X0_writeNumber : GoodIn wsX0_writeLevel wsX0_writeNumber := goodIn_r _ [9, 10, 11, 12, 8, 13, 14, 15, 16, 17] (by decide +kernel) (by decide +kernel)
set_option maxRecDepth 20000 in
theorem gX0_writeLevel_X0_writeNumber : GoodIn wsX0_writeLevel (wsV RX0 25 RX0 yX0_writeNumber wsX0_writeNumber) := goodIn_app (goodIn_of _ (by decide +kernel)) ggX0_writeLevel_X0_writeNumber
set_option maxRecDepth 20000 in
theorem ggX0_writeLevel_X0_writeBit : GoodIn wsX0_writeLevel wsX0_writeBit := goodIn_r _ [13, 14, 15, 16, 17] (by decide +kernel) (by decide +kernel)
set_option maxRecDepth 20000 in
theorem gX0_writeLevel_X0_writeBit : GoodIn wsX0_writeLevel (wsV RX0 54 RX0 yX0_writeBit wsX0_writeBit) := goodIn_app (goodIn_of _ (by decide +kernel)) ggX0_writeLevel_X0_writeBit
theorem dX0_writeLevel_0 : decode cX0_writeLevel 0 = .ok (.iload_n 1, 1) := by decide +kernel
theorem dX0_writeLevel_1 : decode cX0_writeLevel 1 = .ok (.invokestatic 49, 3) := by decide +kernel
theorem dX0_writeLevel_4 : decode cX0_writeLevel 4 = .ok (.iconst 1, 1) := by decide +kernel
theorem dX0_writeLevel_5 : decode cX0_writeLevel 5 = .ok (.iadd, 1) := by decide +kernel
theorem dX0_writeLevel_6 : decode cX0_writeLevel 6 = .ok (.istore_n 2, 1) := by decide +kernel
theorem dX0_writeLevel_7 : decode cX0_writeLevel 7 = .ok (.iconst 0, 1) := by decide +kernel
theorem dX0_writeLevel_8 : decode cX0_writeLevel 8 = .ok (.istore_n 3, 1) := by decide +kernel
theorem dX0_writeLevel_9 : decode cX0_writeLevel 9 = .ok (.iload_n 2, 1) := by decide +kernel
theorem dX0_writeLevel_10 : decode cX0_writeLevel 10 = .ok (.istore 4, 2) := by decide +kernel
theorem dX0_writeLevel_12 : decode cX0_writeLevel 12 = .ok (.iload 4, 2) := by decide +kernel
theorem dX0_writeLevel_14 : decode cX0_writeLevel 14 = .ok (.iconst 1, 1) := by decide +kernel
theorem dX0_writeLevel_15 : decode cX0_writeLevel 15 = .ok (.if_icmp .le 15, 3) := by decide +kernel
theorem dX0_writeLevel_18 : decode cX0_writeLevel 18 = .ok (.iinc 3 1, 3) := by decide +kernel
theorem dX0_writeLevel_21 : decode cX0_writeLevel 21 = .ok (.iload 4, 2) := by decide +kernel
theorem dX0_writeLevel_23 : decode cX0_writeLevel 23 = .ok (.iconst 2, 1) := by decide +kernel
theorem dX0_writeLevel_24 : decode cX0_writeLevel 24 = .ok (.idiv, 1) := by decide +kernel
theorem dX0_writeLevel_25 : decode cX0_writeLevel 25 = .ok (.istore 4, 2) := by decide +kernel
theorem dX0_writeLevel_27 : decode cX0_writeLevel 27 = .ok (.goto (-15), 3) := by decide +kernel
theorem dX0_writeLevel_30 : decode cX0_writeLevel 30 = .ok (.aload_n 0, 1) := by decide +kernel
theorem dX0_writeLevel_31 : decode cX0_writeLevel 31 = .ok (.iconst 0, 1) := by decide +kernel
theorem dX0_writeLevel_32 : decode cX0_writeLevel 32 = .ok (.iload_n 3, 1) := by decide +kernel
theorem dX0_writeLevel_33 : decode cX0_writeLevel 33 = .ok (.invokevirtual 25, 3) := by decide +kernel
theorem dX0_writeLevel_36 : decode cX0_writeLevel 36 = .ok (.aload_n 0, 1) := by decide +kernel
theorem dX0_writeLevel_37 : decode cX0_writeLevel 37 = .ok (.iload_n 2, 1) := by decide +kernel
theorem dX0_writeLevel_38 : decode cX0_writeLevel 38 = .ok (.iload_n 3, 1) := by decide +kernel
theorem dX0_writeLevel_39 : decode cX0_writeLevel 39 = .ok (.iconst 1, 1) := by decide +kernel
theorem dX0_writeLevel_40 : decode cX0_writeLevel 40 = .ok (.iadd, 1) := by decide +kernel
theorem dX0_writeLevel_41 : decode cX0_writeLevel 41 = .ok (.invokevirtual 25, 3) := by decide +kernel
theorem dX0_writeLevel_44 : decode cX0_writeLevel 44 = .ok (.iload_n 1, 1) := by decide +kernel
theorem dX0_writeLevel_45 : decode cX0_writeLevel 45 = .ok (.ifCond .eq 16, 3) := by decide +kernel
theorem dX0_writeLevel_48 : decode cX0_writeLevel 48 = .ok (.aload_n 0, 1) := by decide +kernel
theorem dX0_writeLevel_49 : decode cX0_writeLevel 49 = .ok (.iload_n 1, 1) := by decide +kernel
theorem dX0_writeLevel_50 : decode cX0_writeLevel 50 = .ok (.ifCond .ge 7, 3) := by decide +kernel
theorem dX0_writeLevel_53 : decode cX0_writeLevel 53 = .ok (.iconst 1, 1) := by decide +kernel
theorem dX0_writeLevel_54 : decode cX0_writeLevel 54 = .ok (.goto 4, 3) := by decide +kernel
theorem dX0_writeLevel_57 : decode cX0_writeLevel 57 = .ok (.iconst 0, 1) := by decide +kernel
theorem dX0_writeLevel_58 : decode cX0_writeLevel 58 = .ok (.invokevirtual 54, 3) := by decide +kernel
theorem dX0_writeLevel_61 : decode cX0_writeLevel 61 = .ok (.return_, 1) := by decide +kernel
set_option maxRecDepth 20000 in
theorem ggX0_writeNumber_X0_writeBit : GoodIn wsX0_writeNumber wsX0_writeBit := goodIn_r _ [5, 6, 7, 8, 9] (by decide +kernel) (by decide +kernel)
set_option maxRecDepth 20000 in
theorem gX0_writeNumber_X0_writeBit : GoodIn wsX0_writeNumber (wsV RX0 54 RX0 yX0_writeBit wsX0_writeBit) := goodIn_app (goodIn_of _ (by decide +kernel)) ggX0_writeNumber_X0_writeBit
theorem dX0_writeNumber_0 : decode cX0_writeNumber 0 = .ok (.iload_n 2, 1) := by decide +kernel
theorem dX0_writeNumber_1 : decode cX0_writeNumber 1 = .ok (.iconst 1, 1) := by decide +kernel
theorem dX0_writeNumber_2 : decode cX0_writeNumber 2 = .ok (.isub, 1) := by decide +kernel
theorem dX0_writeNumber_3 : decode cX0_writeNumber 3 = .ok (.istore_n 3, 1) := by decide +kernel
theorem dX0_writeNumber_4 : decode cX0_writeNumber 4 = .ok (.iload_n 3, 1) := by decide +kernel
theorem dX0_writeNumber_5 : decode cX0_writeNumber 5 = .ok (.ifCond .lt 27, 3) := by decide +kernel
theorem dX0_writeNumber_8 : decode cX0_writeNumber 8 = .ok (.aload_n 0, 1) := by decide +kernel
theorem dX0_writeNumber_9 : decode cX0_writeNumber 9 = .ok (.iload_n 1, 1) := by decide +kernel
theorem dX0_writeNumber_10 : decode cX0_writeNumber 10 = .ok (.iload_n 3, 1) := by decide +kernel
theorem dX0_writeNumber_11 : decode cX0_writeNumber 11 = .ok (.ishr, 1) := by decide +kernel
theorem dX0_writeNumber_12 : decode cX0_writeNumber 12 = .ok (.iconst 1, 1) := by decide +kernel
theorem dX0_writeNumber_13 : decode cX0_writeNumber 13 = .ok (.iand, 1) := by decide +kernel
theorem dX0_writeNumber_14 : decode cX0_writeNumber 14 = .ok (.iconst 1, 1) := by decide +kernel
theorem dX0_writeNumber_15 : decode cX0_writeNumber 15 = .ok (.if_icmp .ne 7, 3) := by decide +kernel
theorem dX0_writeNumber_18 : decode cX0_writeNumber 18 = .ok (.iconst 1, 1) := by decide +kernel
theorem dX0_writeNumber_19 : decode cX0_writeNumber 19 = .ok (.goto 4, 3) := by decide +kernel
theorem dX0_writeNumber_22 : decode cX0_writeNumber 22 = .ok (.iconst 0, 1) := by decide +kernel
theorem dX0_writeNumber_23 : decode cX0_writeNumber 23 = .ok (.invokevirtual 54, 3) := by decide +kernel
theorem dX0_writeNumber_26 : decode cX0_writeNumber 26 = .ok (.iinc 3 (-1), 3) := by decide +kernel
theorem dX0_writeNumber_29 : decode cX0_writeNumber 29 = .ok (.goto (-25), 3) := by decide +kernel
theorem dX0_writeNumber_32 : decode cX0_writeNumber 32 = .ok (.return_, 1) := by decide +kernel
theorem dX0_writeBit_0 : decode cX0_writeBit 0 = .ok (.aload_n 0, 1) := by decide +kernel
theorem dX0_writeBit_1 : decode cX0_writeBit 1 = .ok (.getfield 15, 3) := by decide +kernel
theorem dX0_writeBit_4 : decode cX0_writeBit 4 = .ok (.aload_n 0, 1) := by decide +kernel
theorem dX0_writeBit_5 : decode cX0_writeBit 5 = .ok (.getfield 9, 3) := by decide +kernel
theorem dX0_writeBit_8 : decode cX0_writeBit 8 = .ok (.arraylength, 1) := by decide +kernel
theorem dX0_writeBit_9 : decode cX0_writeBit 9 = .ok (.if_icmp .ge 23, 3) := by decide +kernel
theorem dX0_writeBit_12 : decode cX0_writeBit 12 = .ok (.aload_n 0, 1) := by decide +kernel
theorem dX0_writeBit_13 : decode cX0_writeBit 13 = .ok (.getfield 9, 3) := by decide +kernel
theorem dX0_writeBit_16 : decode cX0_writeBit 16 = .ok (.aload_n 0, 1) := by decide +kernel
theorem dX0_writeBit_17 : decode cX0_writeBit 17 = .ok (.getfield 15, 3) := by decide +kernel
theorem dX0_writeBit_20 : decode cX0_writeBit 20 = .ok (.iload_n 1, 1) := by decide +kernel
theorem dX0_writeBit_21 : decode cX0_writeBit 21 = .ok (.bastore, 1) := by decide +kernel
theorem dX0_writeBit_22 : decode cX0_writeBit 22 = .ok (.aload_n 0, 1) := by decide +kernel
theorem dX0_writeBit_23 : decode cX0_writeBit 23 = .ok (.dup, 1) := by decide +kernel
theorem dX0_writeBit_24 : decode cX0_writeBit 24 = .ok (.getfield 15, 3) := by decide +kernel
theorem dX0_writeBit_27 : decode cX0_writeBit 27 = .ok (.iconst 1, 1) := by decide +kernel
theorem dX0_writeBit_28 : decode cX0_writeBit 28 = .ok (.iadd, 1) := by decide +kernel
theorem dX0_writeBit_29 : decode cX0_writeBit 29 = .ok (.putfield 15, 3) := by decide +kernel
theorem dX0_writeBit_32 : decode cX0_writeBit 32 = .ok (.return_, 1) := by decide +kernel
theorem dX1_init_0 : decode cX1_init 0 = .ok (.aload_n 0, 1) := by decide +kernel
theorem dX1_init_1 : decode cX1_init 1 = .ok (.invokespecial 3, 3) := by decide +kernel
theorem dX1_init_4 : decode cX1_init 4 = .ok (.aload_n 0, 1) := by decide +kernel
theorem dX1_init_5 : decode cX1_init 5 = .ok (.bipush 80, 2) := by decide +kernel
theorem dX1_init_7 : decode cX1_init 7 = .ok (.newarray .char, 2) := by decide +kernel
theorem dX1_init_9 : decode cX1_init 9 = .ok (.putfield 9, 3) := by decide +kernel
theorem dX1_init_12 : decode cX1_init 12 = .ok (.aload_n 0, 1) := by decide +kernel
theorem dX1_init_13 : decode cX1_init 13 = .ok (.iconst 0, 1) := by decide +kernel
theorem dX1_init_14 : decode cX1_init 14 = .ok (.putfield 15, 3) := by decide +kernel
theorem dX1_init_17 : decode cX1_init 17 = .ok (.return_, 1) := by decide +kernel
set_option maxRecDepth 20000 in
theorem ggX2_init_X7_init : GoodIn wsX2_init wsX7_init := goodIn_r _ [11, 12, 2, 3, 13, 14, 15, 16, 17, 18, 19, 20, 21, 22, 23, 24, 25, 26, 27, 28, 29, 30, 44, 34, 35, 36, 37, 38, 39, 40, 41, 42, 43] (by decide +kernel) (by decide +kernel)
set_option maxRecDepth 20000 in
theorem gX2_init_X7_init_n24 : GoodIn wsX2_init (wsX7_init) := ggX2_init_X7_init
theorem dX2_init_0 : decode cX2_init 0 = .ok (.aload_n 0, 1) := by decide +kernel
theorem dX2_init_1 : decode cX2_init 1 = .ok (.invokespecial 3, 3) := by decide +kernel
theorem dX2_init_4 : decode cX2_init 4 = .ok (.aload_n 0, 1) := by decide +kernel
theorem dX2_init_5 : decode cX2_init 5 = .ok (.bipush 6, 2) := by decide +kernel
theorem dX2_init_7 : decode cX2_init 7 = .ok (.anewarray 9, 3) := by decide +kernel
theorem dX2_init_10 : decode cX2_init 10 = .ok (.putfield 11, 3) := by decide +kernel
theorem dX2_init_13 : decode cX2_init 13 = .ok (.aload_n 0, 1) := by decide +kernel
theorem dX2_init_14 : decode cX2_init 14 = .ok (.iconst 0, 1) := by decide +kernel
theorem dX2_init_15 : decode cX2_init 15 = .ok (.putfield 17, 3) := by decide +kernel
theorem dX2_init_18 : decode cX2_init 18 = .ok (.aload_n 0, 1) := by decide +kernel
theorem dX2_init_19 : decode cX2_init 19 = .ok (.iconst 0, 1) := by decide +kernel
theorem dX2_init_20 : decode cX2_init 20 = .ok (.putfield 21, 3) := by decide +kernel
theorem dX2_init_23 : decode cX2_init 23 = .ok (.iconst 0, 1) := by decide +kernel
theorem dX2_init_24 : decode cX2_init 24 = .ok (.istore_n 1, 1) := by decide +kernel
theorem dX2_init_25 : decode cX2_init 25 = .ok (.iload_n 1, 1) := by decide +kernel
theorem dX2_init_26 : decode cX2_init 26 = .ok (.bipush 6, 2) := by decide +kernel
theorem dX2_init_28 : decode cX2_init 28 = .ok (.if_icmp .ge 22, 3) := by decide +kernel
theorem dX2_init_31 : decode cX2_init 31 = .ok (.aload_n 0, 1) := by decide +kernel
theorem dX2_init_32 : decode cX2_init 32 = .ok (.getfield 11, 3) := by decide +kernel
theorem dX2_init_35 : decode cX2_init 35 = .ok (.iload_n 1, 1) := by decide +kernel
theorem dX2_init_36 : decode cX2_init 36 = .ok (.new 9, 3) := by decide +kernel
theorem dX2_init_39 : decode cX2_init 39 = .ok (.dup, 1) := by decide +kernel
theorem dX2_init_40 : decode cX2_init 40 = .ok (.invokespecial 24, 3) := by decide +kernel
theorem dX2_init_43 : decode cX2_init 43 = .ok (.aastore, 1) := by decide +kernel
theorem dX2_init_44 : decode cX2_init 44 = .ok (.iinc 1 1, 3) := by decide +kernel
theorem dX2_init_47 : decode cX2_init 47 = .ok (.goto (-22), 3) := by decide +kernel
theorem dX2_init_50 : decode cX2_init 50 = .ok (.return_, 1) := by decide +kernel
theorem dX2_placeAt_0 : decode cX2_placeAt 0 = .ok (.iload_n 1, 1) := by decide +kernel
theorem dX2_placeAt_1 : decode cX2_placeAt 1 = .ok (.ifCond .lt 9, 3) := by decide +kernel
theorem dX2_placeAt_4 : decode cX2_placeAt 4 = .ok (.iload_n 1, 1) := by decide +kernel
theorem dX2_placeAt_5 : decode cX2_placeAt 5 = .ok (.bipush 6, 2) := by decide +kernel
theorem dX2_placeAt_7 : decode cX2_placeAt 7 = .ok (.if_icmp .lt 7, 3) := by decide +kernel
theorem dX2_placeAt_10 : decode cX2_placeAt 10 = .ok (.aconst_null, 1) := by decide +kernel
theorem dX2_placeAt_11 : decode cX2_placeAt 11 = .ok (.goto 9, 3) := by decide +kernel
theorem dX2_placeAt_14 : decode cX2_placeAt 14 = .ok (.aload_n 0, 1) := by decide +kernel
theorem dX2_placeAt_15 : decode cX2_placeAt 15 = .ok (.getfield 11, 3) := by decide +kernel
theorem dX2_placeAt_18 : decode cX2_placeAt 18 = .ok (.iload_n 1, 1) := by decide +kernel
theorem dX2_placeAt_19 : decode cX2_placeAt 19 = .ok (.aaload, 1) := by decide +kernel
theorem dX2_placeAt_20 : decode cX2_placeAt 20 = .ok (.areturn, 1) := by decide +kernel
set_option maxRecDepth 20000 in
theorem ggX2_record_X2_placeAt : GoodIn wsX2_record wsX2_placeAt := goodIn_r _ [11, 12, 37, 38, 39] (by decide +kernel) (by decide +kernel)
set_option maxRecDepth 20000 in
theorem gX2_record_X2_placeAt : GoodIn wsX2_record (wsV RX2 25 RX2 yX2_placeAt wsX2_placeAt) := goodIn_app (goodIn_of _ (by decide +kernel)) ggX2_record_X2_placeAt
set_option maxRecDepth 20000 in
theorem ggX2_record_X7_copyFrom : GoodIn wsX2_record wsX7_copyFrom := goodIn_r _ [16, 17, 18, 19, 20, 21, 22, 23, 24, 25, 26, 27, 28, 29, 30, 31, 32, 33, 34, 35, 36, 40, 41, 42, 43, 44, 45, 46, 47, 48, 49, 50] (by decide +kernel) (by decide +kernel)
set_option maxRecDepth 20000 in
theorem gX2_record_X7_copyFrom_n29 : GoodIn wsX2_record (wsX7_copyFrom) := ggX2_record_X7_copyFrom
theorem dX2_record_0 : decode cX2_record 0 = .ok (.aload_n 0, 1) := by decide +kernel
theorem dX2_record_1 : decode cX2_record 1 = .ok (.aload_n 0, 1) := by decide +kernel
theorem dX2_record_2 : decode cX2_record 2 = .ok (.getfield 17, 3) := by decide +kernel
theorem dX2_record_5 : decode cX2_record 5 = .ok (.invokevirtual 25, 3) := by decide +kernel
theorem dX2_record_8 : decode cX2_record 8 = .ok (.astore_n 2, 1) := by decide +kernel
theorem dX2_record_9 : decode cX2_record 9 = .ok (.aload_n 2, 1) := by decide +kernel
theorem dX2_record_10 : decode cX2_record 10 = .ok (.ifnull 8, 3) := by decide +kernel
theorem dX2_record_13 : decode cX2_record 13 = .ok (.aload_n 2, 1) := by decide +kernel
theorem dX2_record_14 : decode cX2_record 14 = .ok (.aload_n 1, 1) := by decide +kernel
theorem dX2_record_15 : decode cX2_record 15 = .ok (.invokevirtual 29, 3) := by decide +kernel
theorem dX2_record_18 : decode cX2_record 18 = .ok (.aload_n 0, 1) := by decide +kernel
theorem dX2_record_19 : decode cX2_record 19 = .ok (.aload_n 0, 1) := by decide +kernel
theorem dX2_record_20 : decode cX2_record 20 = .ok (.getfield 17, 3) := by decide +kernel
theorem dX2_record_23 : decode cX2_record 23 = .ok (.iconst 1, 1) := by decide +kernel
theorem dX2_record_24 : decode cX2_record 24 = .ok (.iadd, 1) := by decide +kernel
theorem dX2_record_25 : decode cX2_record 25 = .ok (.bipush 6, 2) := by decide +kernel
theorem dX2_record_27 : decode cX2_record 27 = .ok (.irem, 1) := by decide +kernel
theorem dX2_record_28 : decode cX2_record 28 = .ok (.putfield 17, 3) := by decide +kernel
theorem dX2_record_31 : decode cX2_record 31 = .ok (.aload_n 0, 1) := by decide +kernel
theorem dX2_record_32 : decode cX2_record 32 = .ok (.aload_n 0, 1) := by decide +kernel
theorem dX2_record_33 : decode cX2_record 33 = .ok (.getfield 21, 3) := by decide +kernel
theorem dX2_record_36 : decode cX2_record 36 = .ok (.iconst 1, 1) := by decide +kernel
theorem dX2_record_37 : decode cX2_record 37 = .ok (.iadd, 1) := by decide +kernel
theorem dX2_record_38 : decode cX2_record 38 = .ok (.bipush 6, 2) := by decide +kernel
theorem dX2_record_40 : decode cX2_record 40 = .ok (.invokestatic 33, 3) := by decide +kernel
theorem dX2_record_43 : decode cX2_record 43 = .ok (.putfield 21, 3) := by decide +kernel
theorem dX2_record_46 : decode cX2_record 46 = .ok (.return_, 1) := by decide +kernel
set_option maxRecDepth 20000 in
theorem ggX2_takeBack_X2_placeAt : GoodIn wsX2_takeBack wsX2_placeAt := goodIn_r _ [7, 8, 33, 34, 35] (by decide +kernel) (by decide +kernel)
set_option maxRecDepth 20000 in
theorem gX2_takeBack_X2_placeAt : GoodIn wsX2_takeBack (wsV RX2 25 RX2 yX2_placeAt wsX2_placeAt) := goodIn_app (goodIn_of _ (by decide +kernel)) ggX2_takeBack_X2_placeAt
set_option maxRecDepth 20000 in
theorem ggX2_takeBack_X7_copyFrom : GoodIn wsX2_takeBack wsX7_copyFrom := goodIn_r _ [12, 13, 14, 15, 16, 17, 18, 19, 20, 21, 22, 23, 24, 25, 26, 27, 28, 29, 30, 31, 32, 36, 37, 38, 39, 40, 41, 42, 43, 44, 45, 46] (by decide +kernel) (by decide +kernel)
set_option maxRecDepth 20000 in
theorem gX2_takeBack_X7_copyFrom_n29 : GoodIn wsX2_takeBack (wsX7_copyFrom) := ggX2_takeBack_X7_copyFrom
theorem dX2_takeBack_0 : decode cX2_takeBack 0 = .ok (.aload_n 0, 1) := by decide +kernel
theorem dX2_takeBack_1 : decode cX2_takeBack 1 = .ok (.aload_n 0, 1) := by decide +kernel
theorem dX2_takeBack_2 : decode cX2_takeBack 2 = .ok (.getfield 17, 3) := by decide +kernel
theorem dX2_takeBack_5 : decode cX2_takeBack 5 = .ok (.bipush 6, 2) := by decide +kernel
theorem dX2_takeBack_7 : decode cX2_takeBack 7 = .ok (.iadd, 1) := by decide +kernel
theorem dX2_takeBack_8 : decode cX2_takeBack 8 = .ok (.iconst 1, 1) := by decide +kernel
theorem dX2_takeBack_9 : decode cX2_takeBack 9 = .ok (.isub, 1) := by decide +kernel
theorem dX2_takeBack_10 : decode cX2_takeBack 10 = .ok (.bipush 6, 2) := by decide +kernel
theorem dX2_takeBack_12 : decode cX2_takeBack 12 = .ok (.irem, 1) := by decide +kernel
theorem dX2_takeBack_13 : decode cX2_takeBack 13 = .ok (.putfield 17, 3) := by decide +kernel
theorem dX2_takeBack_16 : decode cX2_takeBack 16 = .ok (.aload_n 0, 1) := by decide +kernel
theorem dX2_takeBack_17 : decode cX2_takeBack 17 = .ok (.dup, 1) := by decide +kernel
theorem dX2_takeBack_18 : decode cX2_takeBack 18 = .ok (.getfield 21, 3) := by decide +kernel
theorem dX2_takeBack_21 : decode cX2_takeBack 21 = .ok (.iconst 1, 1) := by decide +kernel
theorem dX2_takeBack_22 : decode cX2_takeBack 22 = .ok (.isub, 1) := by decide +kernel
theorem dX2_takeBack_23 : decode cX2_takeBack 23 = .ok (.putfield 21, 3) := by decide +kernel
theorem dX2_takeBack_26 : decode cX2_takeBack 26 = .ok (.aload_n 0, 1) := by decide +kernel
theorem dX2_takeBack_27 : decode cX2_takeBack 27 = .ok (.aload_n 0, 1) := by decide +kernel
theorem dX2_takeBack_28 : decode cX2_takeBack 28 = .ok (.getfield 17, 3) := by decide +kernel
theorem dX2_takeBack_31 : decode cX2_takeBack 31 = .ok (.invokevirtual 25, 3) := by decide +kernel
theorem dX2_takeBack_34 : decode cX2_takeBack 34 = .ok (.astore_n 2, 1) := by decide +kernel
theorem dX2_takeBack_35 : decode cX2_takeBack 35 = .ok (.aload_n 2, 1) := by decide +kernel
theorem dX2_takeBack_36 : decode cX2_takeBack 36 = .ok (.ifnull 8, 3) := by decide +kernel
theorem dX2_takeBack_39 : decode cX2_takeBack 39 = .ok (.aload_n 1, 1) := by decide +kernel
theorem dX2_takeBack_40 : decode cX2_takeBack 40 = .ok (.aload_n 2, 1) := by decide +kernel
theorem dX2_takeBack_41 : decode cX2_takeBack 41 = .ok (.invokevirtual 29, 3) := by decide +kernel
theorem dX2_takeBack_44 : decode cX2_takeBack 44 = .ok (.return_, 1) := by decide +kernel
set_option maxRecDepth 20000 in
theorem ggX3_distanceBy_X8_downOf : GoodIn wsX3_distanceBy wsX8_downOf := goodIn_r _ [7] (by decide +kernel) (by decide +kernel)
set_option maxRecDepth 20000 in
theorem gX3_distanceBy_X8_downOf_n9 : GoodIn wsX3_distanceBy (wsX8_downOf) := ggX3_distanceBy_X8_downOf
set_option maxRecDepth 20000 in
theorem ggX3_distanceBy_X8_rightOf : GoodIn wsX3_distanceBy wsX8_rightOf := goodIn_r _ [9] (by decide +kernel) (by decide +kernel)
set_option maxRecDepth 20000 in
theorem gX3_distanceBy_X8_rightOf_n13 : GoodIn wsX3_distanceBy (wsX8_rightOf) := ggX3_distanceBy_X8_rightOf
set_option maxRecDepth 20000 in
theorem ggX3_distanceBy_X8_pixelIn : GoodIn wsX3_distanceBy wsX8_pixelIn := goodIn_r _ [11] (by decide +kernel) (by decide +kernel)
set_option maxRecDepth 20000 in
theorem gX3_distanceBy_X8_pixelIn_n16 : GoodIn wsX3_distanceBy (wsX8_pixelIn) := ggX3_distanceBy_X8_pixelIn
set_option maxRecDepth 20000 in
theorem ggX3_distanceBy_X4_valueAt : GoodIn wsX3_distanceBy wsX4_valueAt := goodIn_r _ [15, 16, 30] (by decide +kernel) (by decide +kernel)
set_option maxRecDepth 20000 in
theorem gX3_distanceBy_X4_valueAt_n26 : GoodIn wsX3_distanceBy (wsX4_valueAt) := ggX3_distanceBy_X4_valueAt
set_option maxRecDepth 20000 in
theorem ggX3_distanceBy_X4_movedValueAt : GoodIn wsX3_distanceBy wsX4_movedValueAt := goodIn_r _ [19, 16, 30] (by decide +kernel) (by decide +kernel)
set_option maxRecDepth 20000 in
theorem gX3_distanceBy_X4_movedValueAt_n34 : GoodIn wsX3_distanceBy (wsX4_movedValueAt) := ggX3_distanceBy_X4_movedValueAt
theorem dX3_distanceBy_0 : decode cX3_distanceBy 0 = .ok (.iload_n 2, 1) := by decide +kernel
theorem dX3_distanceBy_1 : decode cX3_distanceBy 1 = .ok (.invokestatic 9, 3) := by decide +kernel
theorem dX3_distanceBy_4 : decode cX3_distanceBy 4 = .ok (.istore_n 3, 1) := by decide +kernel
theorem dX3_distanceBy_5 : decode cX3_distanceBy 5 = .ok (.iload_n 2, 1) := by decide +kernel
theorem dX3_distanceBy_6 : decode cX3_distanceBy 6 = .ok (.invokestatic 13, 3) := by decide +kernel
theorem dX3_distanceBy_9 : decode cX3_distanceBy 9 = .ok (.istore 4, 2) := by decide +kernel
theorem dX3_distanceBy_11 : decode cX3_distanceBy 11 = .ok (.iconst 0, 1) := by decide +kernel
theorem dX3_distanceBy_12 : decode cX3_distanceBy 12 = .ok (.istore 5, 2) := by decide +kernel
theorem dX3_distanceBy_14 : decode cX3_distanceBy 14 = .ok (.iconst 0, 1) := by decide +kernel
theorem dX3_distanceBy_15 : decode cX3_distanceBy 15 = .ok (.istore 6, 2) := by decide +kernel
theorem dX3_distanceBy_17 : decode cX3_distanceBy 17 = .ok (.iload 6, 2) := by decide +kernel
theorem dX3_distanceBy_19 : decode cX3_distanceBy 19 = .ok (.bipush 16, 2) := by decide +kernel
theorem dX3_distanceBy_21 : decode cX3_distanceBy 21 = .ok (.if_icmp .ge 47, 3) := by decide +kernel
theorem dX3_distanceBy_24 : decode cX3_distanceBy 24 = .ok (.iload_n 1, 1) := by decide +kernel
theorem dX3_distanceBy_25 : decode cX3_distanceBy 25 = .ok (.iload 6, 2) := by decide +kernel
theorem dX3_distanceBy_27 : decode cX3_distanceBy 27 = .ok (.invokestatic 16, 3) := by decide +kernel
theorem dX3_distanceBy_30 : decode cX3_distanceBy 30 = .ok (.istore 7, 2) := by decide +kernel
theorem dX3_distanceBy_32 : decode cX3_distanceBy 32 = .ok (.iload 5, 2) := by decide +kernel
theorem dX3_distanceBy_34 : decode cX3_distanceBy 34 = .ok (.aload_n 0, 1) := by decide +kernel
theorem dX3_distanceBy_35 : decode cX3_distanceBy 35 = .ok (.getfield 20, 3) := by decide +kernel
theorem dX3_distanceBy_38 : decode cX3_distanceBy 38 = .ok (.iload 7, 2) := by decide +kernel
theorem dX3_distanceBy_40 : decode cX3_distanceBy 40 = .ok (.invokevirtual 26, 3) := by decide +kernel
theorem dX3_distanceBy_43 : decode cX3_distanceBy 43 = .ok (.aload_n 0, 1) := by decide +kernel
theorem dX3_distanceBy_44 : decode cX3_distanceBy 44 = .ok (.getfield 31, 3) := by decide +kernel
theorem dX3_distanceBy_47 : decode cX3_distanceBy 47 = .ok (.iload 7, 2) := by decide +kernel
theorem dX3_distanceBy_49 : decode cX3_distanceBy 49 = .ok (.iload_n 3, 1) := by decide +kernel
theorem dX3_distanceBy_50 : decode cX3_distanceBy 50 = .ok (.iload 4, 2) := by decide +kernel
theorem dX3_distanceBy_52 : decode cX3_distanceBy 52 = .ok (.invokevirtual 34, 3) := by decide +kernel
theorem dX3_distanceBy_55 : decode cX3_distanceBy 55 = .ok (.isub, 1) := by decide +kernel
theorem dX3_distanceBy_56 : decode cX3_distanceBy 56 = .ok (.invokestatic 38, 3) := by decide +kernel
theorem dX3_distanceBy_59 : decode cX3_distanceBy 59 = .ok (.iadd, 1) := by decide +kernel
theorem dX3_distanceBy_60 : decode cX3_distanceBy 60 = .ok (.istore 5, 2) := by decide +kernel
theorem dX3_distanceBy_62 : decode cX3_distanceBy 62 = .ok (.iinc 6 1, 3) := by decide +kernel
theorem dX3_distanceBy_65 : decode cX3_distanceBy 65 = .ok (.goto (-48), 3) := by decide +kernel
theorem dX3_distanceBy_68 : decode cX3_distanceBy 68 = .ok (.iload 5, 2) := by decide +kernel
theorem dX3_distanceBy_70 : decode cX3_distanceBy 70 = .ok (.ireturn, 1) := by decide +kernel
set_option maxRecDepth 20000 in
theorem ggX3_bestByLooking_X3_distanceBy : GoodIn wsX3_bestByLooking wsX3_distanceBy := goodIn_r _ [4, 5, 6, 7, 8, 9, 10, 11, 12, 13, 14, 15, 16, 17, 18, 19, 20, 21, 22, 23, 27, 28, 29, 30, 31, 32, 33, 34, 35, 36, 37] (by decide +kernel) (by decide +kernel)
set_option maxRecDepth 20000 in
theorem gX3_bestByLooking_X3_distanceBy : GoodIn wsX3_bestByLooking (va_wsS RX3 43 yX3_distanceBy wsX3_distanceBy) := goodIn_app (goodIn_of _ (by decide +kernel)) ggX3_bestByLooking_X3_distanceBy
set_option maxRecDepth 20000 in
theorem ggX3_bestByLooking_X3_lengthOf : GoodIn wsX3_bestByLooking wsX3_lengthOf := goodIn_r _ [26, 5, 6, 7, 8, 9, 10, 11, 12, 13] (by decide +kernel) (by decide +kernel)
set_option maxRecDepth 20000 in
theorem gX3_bestByLooking_X3_lengthOf : GoodIn wsX3_bestByLooking (va_wsS RX3 49 yX3_lengthOf wsX3_lengthOf) := goodIn_app (goodIn_of _ (by decide +kernel)) ggX3_bestByLooking_X3_lengthOf
theorem dX3_bestByLooking_0 : decode cX3_bestByLooking 0 = .ok (.iconst 0, 1) := by decide +kernel
theorem dX3_bestByLooking_1 : decode cX3_bestByLooking 1 = .ok (.istore_n 2, 1) := by decide +kernel
theorem dX3_bestByLooking_2 : decode cX3_bestByLooking 2 = .ok (.aload_n 0, 1) := by decide +kernel
theorem dX3_bestByLooking_3 : decode cX3_bestByLooking 3 = .ok (.iload_n 1, 1) := by decide +kernel
theorem dX3_bestByLooking_4 : decode cX3_bestByLooking 4 = .ok (.iconst 0, 1) := by decide +kernel
theorem dX3_bestByLooking_5 : decode cX3_bestByLooking 5 = .ok (.invokestatic 43, 3) := by decide +kernel
theorem dX3_bestByLooking_8 : decode cX3_bestByLooking 8 = .ok (.istore_n 3, 1) := by decide +kernel
theorem dX3_bestByLooking_9 : decode cX3_bestByLooking 9 = .ok (.iconst 1, 1) := by decide +kernel
theorem dX3_bestByLooking_10 : decode cX3_bestByLooking 10 = .ok (.istore 4, 2) := by decide +kernel
theorem dX3_bestByLooking_12 : decode cX3_bestByLooking 12 = .ok (.iload 4, 2) := by decide +kernel
theorem dX3_bestByLooking_14 : decode cX3_bestByLooking 14 = .ok (.bipush 25, 2) := by decide +kernel
theorem dX3_bestByLooking_16 : decode cX3_bestByLooking 16 = .ok (.if_icmp .ge 48, 3) := by decide +kernel
theorem dX3_bestByLooking_19 : decode cX3_bestByLooking 19 = .ok (.aload_n 0, 1) := by decide +kernel
theorem dX3_bestByLooking_20 : decode cX3_bestByLooking 20 = .ok (.iload_n 1, 1) := by decide +kernel
theorem dX3_bestByLooking_21 : decode cX3_bestByLooking 21 = .ok (.iload 4, 2) := by decide +kernel
theorem dX3_bestByLooking_23 : decode cX3_bestByLooking 23 = .ok (.invokestatic 43, 3) := by decide +kernel
theorem dX3_bestByLooking_26 : decode cX3_bestByLooking 26 = .ok (.istore 5, 2) := by decide +kernel
theorem dX3_bestByLooking_28 : decode cX3_bestByLooking 28 = .ok (.iload 5, 2) := by decide +kernel
theorem dX3_bestByLooking_30 : decode cX3_bestByLooking 30 = .ok (.iload_n 3, 1) := by decide +kernel
theorem dX3_bestByLooking_31 : decode cX3_bestByLooking 31 = .ok (.if_icmp .lt 21, 3) := by decide +kernel
theorem dX3_bestByLooking_34 : decode cX3_bestByLooking 34 = .ok (.iload 5, 2) := by decide +kernel
theorem dX3_bestByLooking_36 : decode cX3_bestByLooking 36 = .ok (.iload_n 3, 1) := by decide +kernel
theorem dX3_bestByLooking_37 : decode cX3_bestByLooking 37 = .ok (.if_icmp .ne 21, 3) := by decide +kernel
theorem dX3_bestByLooking_40 : decode cX3_bestByLooking 40 = .ok (.iload 4, 2) := by decide +kernel
theorem dX3_bestByLooking_42 : decode cX3_bestByLooking 42 = .ok (.invokestatic 49, 3) := by decide +kernel
theorem dX3_bestByLooking_45 : decode cX3_bestByLooking 45 = .ok (.iload_n 2, 1) := by decide +kernel
theorem dX3_bestByLooking_46 : decode cX3_bestByLooking 46 = .ok (.invokestatic 49, 3) := by decide +kernel
theorem dX3_bestByLooking_49 : decode cX3_bestByLooking 49 = .ok (.if_icmp .ge 9, 3) := by decide +kernel
theorem dX3_bestByLooking_52 : decode cX3_bestByLooking 52 = .ok (.iload 4, 2) := by decide +kernel
theorem dX3_bestByLooking_54 : decode cX3_bestByLooking 54 = .ok (.istore_n 2, 1) := by decide +kernel
theorem dX3_bestByLooking_55 : decode cX3_bestByLooking 55 = .ok (.iload 5, 2) := by decide +kernel
theorem dX3_bestByLooking_57 : decode cX3_bestByLooking 57 = .ok (.istore_n 3, 1) := by decide +kernel
theorem dX3_bestByLooking_58 : decode cX3_bestByLooking 58 = .ok (.iinc 4 1, 3) := by decide +kernel
theorem dX3_bestByLooking_61 : decode cX3_bestByLooking 61 = .ok (.goto (-49), 3) := by decide +kernel
theorem dX3_bestByLooking_64 : decode cX3_bestByLooking 64 = .ok (.iload_n 2, 1) := by decide +kernel
theorem dX3_bestByLooking_65 : decode cX3_bestByLooking 65 = .ok (.ireturn, 1) := by decide +kernel
set_option maxRecDepth 20000 in
theorem ggX3_lengthOf_X8_downOf : GoodIn wsX3_lengthOf wsX8_downOf := goodIn_r _ [7] (by decide +kernel) (by decide +kernel)
set_option maxRecDepth 20000 in
theorem gX3_lengthOf_X8_downOf_n9 : GoodIn wsX3_lengthOf (wsX8_downOf) := ggX3_lengthOf_X8_downOf
set_option maxRecDepth 20000 in
theorem ggX3_lengthOf_X8_rightOf : GoodIn wsX3_lengthOf wsX8_rightOf := goodIn_r _ [9] (by decide +kernel) (by decide +kernel)
set_option maxRecDepth 20000 in
theorem gX3_lengthOf_X8_rightOf_n13 : GoodIn wsX3_lengthOf (wsX8_rightOf) := ggX3_lengthOf_X8_rightOf
theorem dX3_lengthOf_0 : decode cX3_lengthOf 0 = .ok (.iload_n 0, 1) := by decide +kernel
theorem dX3_lengthOf_1 : decode cX3_lengthOf 1 = .ok (.invokestatic 9, 3) := by decide +kernel
theorem dX3_lengthOf_4 : decode cX3_lengthOf 4 = .ok (.invokestatic 38, 3) := by decide +kernel
theorem dX3_lengthOf_7 : decode cX3_lengthOf 7 = .ok (.iload_n 0, 1) := by decide +kernel
theorem dX3_lengthOf_8 : decode cX3_lengthOf 8 = .ok (.invokestatic 13, 3) := by decide +kernel
theorem dX3_lengthOf_11 : decode cX3_lengthOf 11 = .ok (.invokestatic 38, 3) := by decide +kernel
theorem dX3_lengthOf_14 : decode cX3_lengthOf 14 = .ok (.iadd, 1) := by decide +kernel
theorem dX3_lengthOf_15 : decode cX3_lengthOf 15 = .ok (.ireturn, 1) := by decide +kernel
set_option maxRecDepth 20000 in
theorem ggX3_bestByStopping_X3_distanceUpTo : GoodIn wsX3_bestByStopping wsX3_distanceUpTo := goodIn_r _ [5, 6, 7, 8, 9, 10, 11, 12, 13, 14, 15, 16, 17, 18, 19, 20, 21, 22, 23, 24, 25, 26, 27, 28, 29, 30, 31, 32, 33, 34, 35] (by decide +kernel) (by decide +kernel)
set_option maxRecDepth 20000 in
theorem gX3_bestByStopping_X3_distanceUpTo : GoodIn wsX3_bestByStopping (va_wsS RX3 56 yX3_distanceUpTo wsX3_distanceUpTo) := goodIn_app (goodIn_of _ (by decide +kernel)) ggX3_bestByStopping_X3_distanceUpTo
theorem dX3_bestByStopping_0 : decode cX3_bestByStopping 0 = .ok (.bipush 12, 2) := by decide +kernel
theorem dX3_bestByStopping_2 : decode cX3_bestByStopping 2 = .ok (.istore_n 2, 1) := by decide +kernel
theorem dX3_bestByStopping_3 : decode cX3_bestByStopping 3 = .ok (.sipush 241, 3) := by decide +kernel
theorem dX3_bestByStopping_6 : decode cX3_bestByStopping 6 = .ok (.istore_n 3, 1) := by decide +kernel
theorem dX3_bestByStopping_7 : decode cX3_bestByStopping 7 = .ok (.getstatic 52, 3) := by decide +kernel
theorem dX3_bestByStopping_10 : decode cX3_bestByStopping 10 = .ok (.astore 4, 2) := by decide +kernel
theorem dX3_bestByStopping_12 : decode cX3_bestByStopping 12 = .ok (.aload 4, 2) := by decide +kernel
theorem dX3_bestByStopping_14 : decode cX3_bestByStopping 14 = .ok (.arraylength, 1) := by decide +kernel
theorem dX3_bestByStopping_15 : decode cX3_bestByStopping 15 = .ok (.istore 5, 2) := by decide +kernel
theorem dX3_bestByStopping_17 : decode cX3_bestByStopping 17 = .ok (.iconst 0, 1) := by decide +kernel
theorem dX3_bestByStopping_18 : decode cX3_bestByStopping 18 = .ok (.istore 6, 2) := by decide +kernel
theorem dX3_bestByStopping_20 : decode cX3_bestByStopping 20 = .ok (.iload 6, 2) := by decide +kernel
theorem dX3_bestByStopping_22 : decode cX3_bestByStopping 22 = .ok (.iload 5, 2) := by decide +kernel
theorem dX3_bestByStopping_24 : decode cX3_bestByStopping 24 = .ok (.if_icmp .ge 38, 3) := by decide +kernel
theorem dX3_bestByStopping_27 : decode cX3_bestByStopping 27 = .ok (.aload 4, 2) := by decide +kernel
theorem dX3_bestByStopping_29 : decode cX3_bestByStopping 29 = .ok (.iload 6, 2) := by decide +kernel
theorem dX3_bestByStopping_31 : decode cX3_bestByStopping 31 = .ok (.iaload, 1) := by decide +kernel
theorem dX3_bestByStopping_32 : decode cX3_bestByStopping 32 = .ok (.istore 7, 2) := by decide +kernel
theorem dX3_bestByStopping_34 : decode cX3_bestByStopping 34 = .ok (.iload_n 3, 1) := by decide +kernel
theorem dX3_bestByStopping_35 : decode cX3_bestByStopping 35 = .ok (.aload_n 0, 1) := by decide +kernel
theorem dX3_bestByStopping_36 : decode cX3_bestByStopping 36 = .ok (.iload_n 1, 1) := by decide +kernel
theorem dX3_bestByStopping_37 : decode cX3_bestByStopping 37 = .ok (.iload 7, 2) := by decide +kernel
theorem dX3_bestByStopping_39 : decode cX3_bestByStopping 39 = .ok (.invokestatic 56, 3) := by decide +kernel
theorem dX3_bestByStopping_42 : decode cX3_bestByStopping 42 = .ok (.istore 8, 2) := by decide +kernel
theorem dX3_bestByStopping_44 : decode cX3_bestByStopping 44 = .ok (.iload 8, 2) := by decide +kernel
theorem dX3_bestByStopping_46 : decode cX3_bestByStopping 46 = .ok (.iload_n 3, 1) := by decide +kernel
theorem dX3_bestByStopping_47 : decode cX3_bestByStopping 47 = .ok (.if_icmp .ge 9, 3) := by decide +kernel
theorem dX3_bestByStopping_50 : decode cX3_bestByStopping 50 = .ok (.iload 7, 2) := by decide +kernel
theorem dX3_bestByStopping_52 : decode cX3_bestByStopping 52 = .ok (.istore_n 2, 1) := by decide +kernel
theorem dX3_bestByStopping_53 : decode cX3_bestByStopping 53 = .ok (.iload 8, 2) := by decide +kernel
theorem dX3_bestByStopping_55 : decode cX3_bestByStopping 55 = .ok (.istore_n 3, 1) := by decide +kernel
theorem dX3_bestByStopping_56 : decode cX3_bestByStopping 56 = .ok (.iinc 6 1, 3) := by decide +kernel
theorem dX3_bestByStopping_59 : decode cX3_bestByStopping 59 = .ok (.goto (-39), 3) := by decide +kernel
theorem dX3_bestByStopping_62 : decode cX3_bestByStopping 62 = .ok (.iload_n 2, 1) := by decide +kernel
theorem dX3_bestByStopping_63 : decode cX3_bestByStopping 63 = .ok (.ireturn, 1) := by decide +kernel
set_option maxRecDepth 20000 in
theorem ggX3_distanceUpTo_X8_pixelIn : GoodIn wsX3_distanceUpTo wsX8_pixelIn := goodIn_r _ [7] (by decide +kernel) (by decide +kernel)
set_option maxRecDepth 20000 in
theorem gX3_distanceUpTo_X8_pixelIn_n16 : GoodIn wsX3_distanceUpTo (wsX8_pixelIn) := ggX3_distanceUpTo_X8_pixelIn
set_option maxRecDepth 20000 in
theorem ggX3_distanceUpTo_X8_downOf : GoodIn wsX3_distanceUpTo wsX8_downOf := goodIn_r _ [9] (by decide +kernel) (by decide +kernel)
set_option maxRecDepth 20000 in
theorem gX3_distanceUpTo_X8_downOf_n9 : GoodIn wsX3_distanceUpTo (wsX8_downOf) := ggX3_distanceUpTo_X8_downOf
set_option maxRecDepth 20000 in
theorem ggX3_distanceUpTo_X8_rightOf : GoodIn wsX3_distanceUpTo wsX8_rightOf := goodIn_r _ [11] (by decide +kernel) (by decide +kernel)
set_option maxRecDepth 20000 in
theorem gX3_distanceUpTo_X8_rightOf_n13 : GoodIn wsX3_distanceUpTo (wsX8_rightOf) := ggX3_distanceUpTo_X8_rightOf
set_option maxRecDepth 20000 in
theorem ggX3_distanceUpTo_X4_movedValueAt : GoodIn wsX3_distanceUpTo wsX4_movedValueAt := goodIn_r _ [15, 16, 30] (by decide +kernel) (by decide +kernel)
set_option maxRecDepth 20000 in
theorem gX3_distanceUpTo_X4_movedValueAt_n34 : GoodIn wsX3_distanceUpTo (wsX4_movedValueAt) := ggX3_distanceUpTo_X4_movedValueAt
set_option maxRecDepth 20000 in
theorem ggX3_distanceUpTo_X4_valueAt : GoodIn wsX3_distanceUpTo wsX4_valueAt := goodIn_r _ [19, 16, 30] (by decide +kernel) (by decide +kernel)
set_option maxRecDepth 20000 in
theorem gX3_distanceUpTo_X4_valueAt_n26 : GoodIn wsX3_distanceUpTo (wsX4_valueAt) := ggX3_distanceUpTo_X4_valueAt
theorem dX3_distanceUpTo_0 : decode cX3_distanceUpTo 0 = .ok (.iconst 0, 1) := by decide +kernel
theorem dX3_distanceUpTo_1 : decode cX3_distanceUpTo 1 = .ok (.istore 4, 2) := by decide +kernel
theorem dX3_distanceUpTo_3 : decode cX3_distanceUpTo 3 = .ok (.iconst 0, 1) := by decide +kernel
theorem dX3_distanceUpTo_4 : decode cX3_distanceUpTo 4 = .ok (.istore 5, 2) := by decide +kernel
theorem dX3_distanceUpTo_6 : decode cX3_distanceUpTo 6 = .ok (.iload 5, 2) := by decide +kernel
theorem dX3_distanceUpTo_8 : decode cX3_distanceUpTo 8 = .ok (.bipush 16, 2) := by decide +kernel
theorem dX3_distanceUpTo_10 : decode cX3_distanceUpTo 10 = .ok (.if_icmp .ge 62, 3) := by decide +kernel
theorem dX3_distanceUpTo_13 : decode cX3_distanceUpTo 13 = .ok (.iload 4, 2) := by decide +kernel
theorem dX3_distanceUpTo_15 : decode cX3_distanceUpTo 15 = .ok (.iload_n 0, 1) := by decide +kernel
theorem dX3_distanceUpTo_16 : decode cX3_distanceUpTo 16 = .ok (.if_icmp .ge 56, 3) := by decide +kernel
theorem dX3_distanceUpTo_19 : decode cX3_distanceUpTo 19 = .ok (.iload_n 2, 1) := by decide +kernel
theorem dX3_distanceUpTo_20 : decode cX3_distanceUpTo 20 = .ok (.iload 5, 2) := by decide +kernel
theorem dX3_distanceUpTo_22 : decode cX3_distanceUpTo 22 = .ok (.invokestatic 16, 3) := by decide +kernel
theorem dX3_distanceUpTo_25 : decode cX3_distanceUpTo 25 = .ok (.istore 6, 2) := by decide +kernel
theorem dX3_distanceUpTo_27 : decode cX3_distanceUpTo 27 = .ok (.aload_n 1, 1) := by decide +kernel
theorem dX3_distanceUpTo_28 : decode cX3_distanceUpTo 28 = .ok (.getfield 31, 3) := by decide +kernel
theorem dX3_distanceUpTo_31 : decode cX3_distanceUpTo 31 = .ok (.iload 6, 2) := by decide +kernel
theorem dX3_distanceUpTo_33 : decode cX3_distanceUpTo 33 = .ok (.iload_n 3, 1) := by decide +kernel
theorem dX3_distanceUpTo_34 : decode cX3_distanceUpTo 34 = .ok (.invokestatic 9, 3) := by decide +kernel
theorem dX3_distanceUpTo_37 : decode cX3_distanceUpTo 37 = .ok (.iload_n 3, 1) := by decide +kernel
theorem dX3_distanceUpTo_38 : decode cX3_distanceUpTo 38 = .ok (.invokestatic 13, 3) := by decide +kernel
theorem dX3_distanceUpTo_41 : decode cX3_distanceUpTo 41 = .ok (.invokevirtual 34, 3) := by decide +kernel
theorem dX3_distanceUpTo_44 : decode cX3_distanceUpTo 44 = .ok (.istore 7, 2) := by decide +kernel
theorem dX3_distanceUpTo_46 : decode cX3_distanceUpTo 46 = .ok (.iload 4, 2) := by decide +kernel
theorem dX3_distanceUpTo_48 : decode cX3_distanceUpTo 48 = .ok (.aload_n 1, 1) := by decide +kernel
theorem dX3_distanceUpTo_49 : decode cX3_distanceUpTo 49 = .ok (.getfield 20, 3) := by decide +kernel
theorem dX3_distanceUpTo_52 : decode cX3_distanceUpTo 52 = .ok (.iload 6, 2) := by decide +kernel
theorem dX3_distanceUpTo_54 : decode cX3_distanceUpTo 54 = .ok (.invokevirtual 26, 3) := by decide +kernel
theorem dX3_distanceUpTo_57 : decode cX3_distanceUpTo 57 = .ok (.iload 7, 2) := by decide +kernel
theorem dX3_distanceUpTo_59 : decode cX3_distanceUpTo 59 = .ok (.isub, 1) := by decide +kernel
theorem dX3_distanceUpTo_60 : decode cX3_distanceUpTo 60 = .ok (.invokestatic 38, 3) := by decide +kernel
theorem dX3_distanceUpTo_63 : decode cX3_distanceUpTo 63 = .ok (.iadd, 1) := by decide +kernel
theorem dX3_distanceUpTo_64 : decode cX3_distanceUpTo 64 = .ok (.istore 4, 2) := by decide +kernel
theorem dX3_distanceUpTo_66 : decode cX3_distanceUpTo 66 = .ok (.iinc 5 1, 3) := by decide +kernel
theorem dX3_distanceUpTo_69 : decode cX3_distanceUpTo 69 = .ok (.goto (-63), 3) := by decide +kernel
theorem dX3_distanceUpTo_72 : decode cX3_distanceUpTo 72 = .ok (.iload 4, 2) := by decide +kernel
theorem dX3_distanceUpTo_74 : decode cX3_distanceUpTo 74 = .ok (.ireturn, 1) := by decide +kernel
set_option maxRecDepth 20000 in
theorem ggX3_countBest_X3_distanceBy : GoodIn wsX3_countBest wsX3_distanceBy := goodIn_r _ [4, 5, 6, 7, 8, 9, 10, 11, 12, 13, 14, 15, 16, 17, 18, 19, 20, 21, 22, 23, 24, 25, 26, 27, 28, 29, 30, 31, 32, 33, 34] (by decide +kernel) (by decide +kernel)
set_option maxRecDepth 20000 in
theorem gX3_countBest_X3_distanceBy : GoodIn wsX3_countBest (va_wsS RX3 43 yX3_distanceBy wsX3_distanceBy) := goodIn_app (goodIn_of _ (by decide +kernel)) ggX3_countBest_X3_distanceBy
theorem dX3_countBest_0 : decode cX3_countBest 0 = .ok (.iconst 0, 1) := by decide +kernel
theorem dX3_countBest_1 : decode cX3_countBest 1 = .ok (.istore_n 2, 1) := by decide +kernel
theorem dX3_countBest_2 : decode cX3_countBest 2 = .ok (.sipush 241, 3) := by decide +kernel
theorem dX3_countBest_5 : decode cX3_countBest 5 = .ok (.istore_n 3, 1) := by decide +kernel
theorem dX3_countBest_6 : decode cX3_countBest 6 = .ok (.iconst 0, 1) := by decide +kernel
theorem dX3_countBest_7 : decode cX3_countBest 7 = .ok (.istore 4, 2) := by decide +kernel
theorem dX3_countBest_9 : decode cX3_countBest 9 = .ok (.iload 4, 2) := by decide +kernel
theorem dX3_countBest_11 : decode cX3_countBest 11 = .ok (.bipush 25, 2) := by decide +kernel
theorem dX3_countBest_13 : decode cX3_countBest 13 = .ok (.if_icmp .ge 41, 3) := by decide +kernel
theorem dX3_countBest_16 : decode cX3_countBest 16 = .ok (.aload_n 0, 1) := by decide +kernel
theorem dX3_countBest_17 : decode cX3_countBest 17 = .ok (.iload_n 1, 1) := by decide +kernel
theorem dX3_countBest_18 : decode cX3_countBest 18 = .ok (.iload 4, 2) := by decide +kernel
theorem dX3_countBest_20 : decode cX3_countBest 20 = .ok (.invokestatic 43, 3) := by decide +kernel
theorem dX3_countBest_23 : decode cX3_countBest 23 = .ok (.istore 5, 2) := by decide +kernel
theorem dX3_countBest_25 : decode cX3_countBest 25 = .ok (.iload 5, 2) := by decide +kernel
theorem dX3_countBest_27 : decode cX3_countBest 27 = .ok (.iload_n 3, 1) := by decide +kernel
theorem dX3_countBest_28 : decode cX3_countBest 28 = .ok (.if_icmp .ge 11, 3) := by decide +kernel
theorem dX3_countBest_31 : decode cX3_countBest 31 = .ok (.iload 5, 2) := by decide +kernel
theorem dX3_countBest_33 : decode cX3_countBest 33 = .ok (.istore_n 3, 1) := by decide +kernel
theorem dX3_countBest_34 : decode cX3_countBest 34 = .ok (.iconst 1, 1) := by decide +kernel
theorem dX3_countBest_35 : decode cX3_countBest 35 = .ok (.istore_n 2, 1) := by decide +kernel
theorem dX3_countBest_36 : decode cX3_countBest 36 = .ok (.goto 12, 3) := by decide +kernel
theorem dX3_countBest_39 : decode cX3_countBest 39 = .ok (.iload 5, 2) := by decide +kernel
theorem dX3_countBest_41 : decode cX3_countBest 41 = .ok (.iload_n 3, 1) := by decide +kernel
theorem dX3_countBest_42 : decode cX3_countBest 42 = .ok (.if_icmp .ne 6, 3) := by decide +kernel
theorem dX3_countBest_45 : decode cX3_countBest 45 = .ok (.iinc 2 1, 3) := by decide +kernel
theorem dX3_countBest_48 : decode cX3_countBest 48 = .ok (.iinc 4 1, 3) := by decide +kernel
theorem dX3_countBest_51 : decode cX3_countBest 51 = .ok (.goto (-42), 3) := by decide +kernel
theorem dX3_countBest_54 : decode cX3_countBest 54 = .ok (.iload_n 2, 1) := by decide +kernel
theorem dX3_countBest_55 : decode cX3_countBest 55 = .ok (.ireturn, 1) := by decide +kernel
theorem dX4_init_0 : decode cX4_init 0 = .ok (.aload_n 0, 1) := by decide +kernel
theorem dX4_init_1 : decode cX4_init 1 = .ok (.invokespecial 3, 3) := by decide +kernel
theorem dX4_init_4 : decode cX4_init 4 = .ok (.aload_n 0, 1) := by decide +kernel
theorem dX4_init_5 : decode cX4_init 5 = .ok (.bipush 64, 2) := by decide +kernel
theorem dX4_init_7 : decode cX4_init 7 = .ok (.newarray .int, 2) := by decide +kernel
theorem dX4_init_9 : decode cX4_init 9 = .ok (.putfield 9, 3) := by decide +kernel
theorem dX4_init_12 : decode cX4_init 12 = .ok (.return_, 1) := by decide +kernel
theorem dX4_valueAt_0 : decode cX4_valueAt 0 = .ok (.iload_n 1, 1) := by decide +kernel
theorem dX4_valueAt_1 : decode cX4_valueAt 1 = .ok (.ifCond .lt 9, 3) := by decide +kernel
theorem dX4_valueAt_4 : decode cX4_valueAt 4 = .ok (.iload_n 1, 1) := by decide +kernel
theorem dX4_valueAt_5 : decode cX4_valueAt 5 = .ok (.bipush 64, 2) := by decide +kernel
theorem dX4_valueAt_7 : decode cX4_valueAt 7 = .ok (.if_icmp .lt 7, 3) := by decide +kernel
theorem dX4_valueAt_10 : decode cX4_valueAt 10 = .ok (.iconst 0, 1) := by decide +kernel
theorem dX4_valueAt_11 : decode cX4_valueAt 11 = .ok (.goto 9, 3) := by decide +kernel
theorem dX4_valueAt_14 : decode cX4_valueAt 14 = .ok (.aload_n 0, 1) := by decide +kernel
theorem dX4_valueAt_15 : decode cX4_valueAt 15 = .ok (.getfield 9, 3) := by decide +kernel
theorem dX4_valueAt_18 : decode cX4_valueAt 18 = .ok (.iload_n 1, 1) := by decide +kernel
theorem dX4_valueAt_19 : decode cX4_valueAt 19 = .ok (.iaload, 1) := by decide +kernel
theorem dX4_valueAt_20 : decode cX4_valueAt 20 = .ok (.ireturn, 1) := by decide +kernel
theorem dX4_movedValueAt_0 : decode cX4_movedValueAt 0 = .ok (.iload_n 1, 1) := by decide +kernel
theorem dX4_movedValueAt_1 : decode cX4_movedValueAt 1 = .ok (.bipush 8, 2) := by decide +kernel
theorem dX4_movedValueAt_3 : decode cX4_movedValueAt 3 = .ok (.idiv, 1) := by decide +kernel
theorem dX4_movedValueAt_4 : decode cX4_movedValueAt 4 = .ok (.iload_n 2, 1) := by decide +kernel
theorem dX4_movedValueAt_5 : decode cX4_movedValueAt 5 = .ok (.iadd, 1) := by decide +kernel
theorem dX4_movedValueAt_6 : decode cX4_movedValueAt 6 = .ok (.istore 4, 2) := by decide +kernel
theorem dX4_movedValueAt_8 : decode cX4_movedValueAt 8 = .ok (.iload_n 1, 1) := by decide +kernel
theorem dX4_movedValueAt_9 : decode cX4_movedValueAt 9 = .ok (.bipush 8, 2) := by decide +kernel
theorem dX4_movedValueAt_11 : decode cX4_movedValueAt 11 = .ok (.irem, 1) := by decide +kernel
theorem dX4_movedValueAt_12 : decode cX4_movedValueAt 12 = .ok (.iload_n 3, 1) := by decide +kernel
theorem dX4_movedValueAt_13 : decode cX4_movedValueAt 13 = .ok (.iadd, 1) := by decide +kernel
theorem dX4_movedValueAt_14 : decode cX4_movedValueAt 14 = .ok (.istore 5, 2) := by decide +kernel
theorem dX4_movedValueAt_16 : decode cX4_movedValueAt 16 = .ok (.iload 4, 2) := by decide +kernel
theorem dX4_movedValueAt_18 : decode cX4_movedValueAt 18 = .ok (.ifCond .ge 7, 3) := by decide +kernel
theorem dX4_movedValueAt_21 : decode cX4_movedValueAt 21 = .ok (.iconst 0, 1) := by decide +kernel
theorem dX4_movedValueAt_22 : decode cX4_movedValueAt 22 = .ok (.goto 17, 3) := by decide +kernel
theorem dX4_movedValueAt_25 : decode cX4_movedValueAt 25 = .ok (.iload 4, 2) := by decide +kernel
theorem dX4_movedValueAt_27 : decode cX4_movedValueAt 27 = .ok (.bipush 8, 2) := by decide +kernel
theorem dX4_movedValueAt_29 : decode cX4_movedValueAt 29 = .ok (.if_icmp .lt 8, 3) := by decide +kernel
theorem dX4_movedValueAt_32 : decode cX4_movedValueAt 32 = .ok (.bipush 7, 2) := by decide +kernel
theorem dX4_movedValueAt_34 : decode cX4_movedValueAt 34 = .ok (.goto 5, 3) := by decide +kernel
theorem dX4_movedValueAt_37 : decode cX4_movedValueAt 37 = .ok (.iload 4, 2) := by decide +kernel
theorem dX4_movedValueAt_39 : decode cX4_movedValueAt 39 = .ok (.istore 4, 2) := by decide +kernel
theorem dX4_movedValueAt_41 : decode cX4_movedValueAt 41 = .ok (.iload 5, 2) := by decide +kernel
theorem dX4_movedValueAt_43 : decode cX4_movedValueAt 43 = .ok (.ifCond .ge 7, 3) := by decide +kernel
theorem dX4_movedValueAt_46 : decode cX4_movedValueAt 46 = .ok (.iconst 0, 1) := by decide +kernel
theorem dX4_movedValueAt_47 : decode cX4_movedValueAt 47 = .ok (.goto 17, 3) := by decide +kernel
theorem dX4_movedValueAt_50 : decode cX4_movedValueAt 50 = .ok (.iload 5, 2) := by decide +kernel
theorem dX4_movedValueAt_52 : decode cX4_movedValueAt 52 = .ok (.bipush 8, 2) := by decide +kernel
theorem dX4_movedValueAt_54 : decode cX4_movedValueAt 54 = .ok (.if_icmp .lt 8, 3) := by decide +kernel
theorem dX4_movedValueAt_57 : decode cX4_movedValueAt 57 = .ok (.bipush 7, 2) := by decide +kernel
theorem dX4_movedValueAt_59 : decode cX4_movedValueAt 59 = .ok (.goto 5, 3) := by decide +kernel
theorem dX4_movedValueAt_62 : decode cX4_movedValueAt 62 = .ok (.iload 5, 2) := by decide +kernel
theorem dX4_movedValueAt_64 : decode cX4_movedValueAt 64 = .ok (.istore 5, 2) := by decide +kernel
theorem dX4_movedValueAt_66 : decode cX4_movedValueAt 66 = .ok (.aload_n 0, 1) := by decide +kernel
theorem dX4_movedValueAt_67 : decode cX4_movedValueAt 67 = .ok (.getfield 9, 3) := by decide +kernel
theorem dX4_movedValueAt_70 : decode cX4_movedValueAt 70 = .ok (.bipush 8, 2) := by decide +kernel
theorem dX4_movedValueAt_72 : decode cX4_movedValueAt 72 = .ok (.iload 4, 2) := by decide +kernel
theorem dX4_movedValueAt_74 : decode cX4_movedValueAt 74 = .ok (.imul, 1) := by decide +kernel
theorem dX4_movedValueAt_75 : decode cX4_movedValueAt 75 = .ok (.iload 5, 2) := by decide +kernel
theorem dX4_movedValueAt_77 : decode cX4_movedValueAt 77 = .ok (.iadd, 1) := by decide +kernel
theorem dX4_movedValueAt_78 : decode cX4_movedValueAt 78 = .ok (.iaload, 1) := by decide +kernel
theorem dX4_movedValueAt_79 : decode cX4_movedValueAt 79 = .ok (.ireturn, 1) := by decide +kernel
theorem dX4_put_0 : decode cX4_put 0 = .ok (.iload_n 1, 1) := by decide +kernel
theorem dX4_put_1 : decode cX4_put 1 = .ok (.ifCond .lt 9, 3) := by decide +kernel
theorem dX4_put_4 : decode cX4_put 4 = .ok (.iload_n 1, 1) := by decide +kernel
theorem dX4_put_5 : decode cX4_put 5 = .ok (.bipush 64, 2) := by decide +kernel
theorem dX4_put_7 : decode cX4_put 7 = .ok (.if_icmp .lt 5, 3) := by decide +kernel
theorem dX4_put_10 : decode cX4_put 10 = .ok (.iload_n 2, 1) := by decide +kernel
theorem dX4_put_11 : decode cX4_put 11 = .ok (.ireturn, 1) := by decide +kernel
theorem dX4_put_12 : decode cX4_put 12 = .ok (.aload_n 0, 1) := by decide +kernel
theorem dX4_put_13 : decode cX4_put 13 = .ok (.getfield 9, 3) := by decide +kernel
theorem dX4_put_16 : decode cX4_put 16 = .ok (.iload_n 1, 1) := by decide +kernel
theorem dX4_put_17 : decode cX4_put 17 = .ok (.iaload, 1) := by decide +kernel
theorem dX4_put_18 : decode cX4_put 18 = .ok (.istore_n 3, 1) := by decide +kernel
theorem dX4_put_19 : decode cX4_put 19 = .ok (.aload_n 0, 1) := by decide +kernel
theorem dX4_put_20 : decode cX4_put 20 = .ok (.getfield 9, 3) := by decide +kernel
theorem dX4_put_23 : decode cX4_put 23 = .ok (.iload_n 1, 1) := by decide +kernel
theorem dX4_put_24 : decode cX4_put 24 = .ok (.iload_n 2, 1) := by decide +kernel
theorem dX4_put_25 : decode cX4_put 25 = .ok (.iastore, 1) := by decide +kernel
theorem dX4_put_26 : decode cX4_put 26 = .ok (.iload_n 3, 1) := by decide +kernel
theorem dX4_put_27 : decode cX4_put 27 = .ok (.ireturn, 1) := by decide +kernel
set_option maxRecDepth 20000 in
theorem ggX4_putRectangle_X4_put : GoodIn wsX4_putRectangle wsX4_put := goodIn_r _ [5, 6, 7] (by decide +kernel) (by decide +kernel)
set_option maxRecDepth 20000 in
theorem gX4_putRectangle_X4_put : GoodIn wsX4_putRectangle (wsV RX4 15 RX4 yX4_put wsX4_put) := goodIn_app (goodIn_of _ (by decide +kernel)) ggX4_putRectangle_X4_put
theorem dX4_putRectangle_0 : decode cX4_putRectangle 0 = .ok (.iload_n 1, 1) := by decide +kernel
theorem dX4_putRectangle_1 : decode cX4_putRectangle 1 = .ok (.bipush 8, 2) := by decide +kernel
theorem dX4_putRectangle_3 : decode cX4_putRectangle 3 = .ok (.idiv, 1) := by decide +kernel
theorem dX4_putRectangle_4 : decode cX4_putRectangle 4 = .ok (.istore 5, 2) := by decide +kernel
theorem dX4_putRectangle_6 : decode cX4_putRectangle 6 = .ok (.iload_n 1, 1) := by decide +kernel
theorem dX4_putRectangle_7 : decode cX4_putRectangle 7 = .ok (.bipush 8, 2) := by decide +kernel
theorem dX4_putRectangle_9 : decode cX4_putRectangle 9 = .ok (.irem, 1) := by decide +kernel
theorem dX4_putRectangle_10 : decode cX4_putRectangle 10 = .ok (.istore 6, 2) := by decide +kernel
theorem dX4_putRectangle_12 : decode cX4_putRectangle 12 = .ok (.iconst 0, 1) := by decide +kernel
theorem dX4_putRectangle_13 : decode cX4_putRectangle 13 = .ok (.istore 7, 2) := by decide +kernel
theorem dX4_putRectangle_15 : decode cX4_putRectangle 15 = .ok (.iload 5, 2) := by decide +kernel
theorem dX4_putRectangle_17 : decode cX4_putRectangle 17 = .ok (.istore 8, 2) := by decide +kernel
theorem dX4_putRectangle_19 : decode cX4_putRectangle 19 = .ok (.iload 8, 2) := by decide +kernel
theorem dX4_putRectangle_21 : decode cX4_putRectangle 21 = .ok (.iload 5, 2) := by decide +kernel
theorem dX4_putRectangle_23 : decode cX4_putRectangle 23 = .ok (.iload_n 2, 1) := by decide +kernel
theorem dX4_putRectangle_24 : decode cX4_putRectangle 24 = .ok (.iadd, 1) := by decide +kernel
theorem dX4_putRectangle_25 : decode cX4_putRectangle 25 = .ok (.if_icmp .ge 71, 3) := by decide +kernel
theorem dX4_putRectangle_28 : decode cX4_putRectangle 28 = .ok (.iload 8, 2) := by decide +kernel
theorem dX4_putRectangle_30 : decode cX4_putRectangle 30 = .ok (.bipush 8, 2) := by decide +kernel
theorem dX4_putRectangle_32 : decode cX4_putRectangle 32 = .ok (.if_icmp .ge 64, 3) := by decide +kernel
theorem dX4_putRectangle_35 : decode cX4_putRectangle 35 = .ok (.iload 6, 2) := by decide +kernel
theorem dX4_putRectangle_37 : decode cX4_putRectangle 37 = .ok (.istore 9, 2) := by decide +kernel
theorem dX4_putRectangle_39 : decode cX4_putRectangle 39 = .ok (.iload 9, 2) := by decide +kernel
theorem dX4_putRectangle_41 : decode cX4_putRectangle 41 = .ok (.iload 6, 2) := by decide +kernel
theorem dX4_putRectangle_43 : decode cX4_putRectangle 43 = .ok (.iload_n 3, 1) := by decide +kernel
theorem dX4_putRectangle_44 : decode cX4_putRectangle 44 = .ok (.iadd, 1) := by decide +kernel
theorem dX4_putRectangle_45 : decode cX4_putRectangle 45 = .ok (.if_icmp .ge 45, 3) := by decide +kernel
theorem dX4_putRectangle_48 : decode cX4_putRectangle 48 = .ok (.iload 9, 2) := by decide +kernel
theorem dX4_putRectangle_50 : decode cX4_putRectangle 50 = .ok (.bipush 8, 2) := by decide +kernel
theorem dX4_putRectangle_52 : decode cX4_putRectangle 52 = .ok (.if_icmp .ge 38, 3) := by decide +kernel
theorem dX4_putRectangle_55 : decode cX4_putRectangle 55 = .ok (.iload 7, 2) := by decide +kernel
theorem dX4_putRectangle_57 : decode cX4_putRectangle 57 = .ok (.aload_n 0, 1) := by decide +kernel
theorem dX4_putRectangle_58 : decode cX4_putRectangle 58 = .ok (.bipush 8, 2) := by decide +kernel
theorem dX4_putRectangle_60 : decode cX4_putRectangle 60 = .ok (.iload 8, 2) := by decide +kernel
theorem dX4_putRectangle_62 : decode cX4_putRectangle 62 = .ok (.imul, 1) := by decide +kernel
theorem dX4_putRectangle_63 : decode cX4_putRectangle 63 = .ok (.iload 9, 2) := by decide +kernel
theorem dX4_putRectangle_65 : decode cX4_putRectangle 65 = .ok (.iadd, 1) := by decide +kernel
theorem dX4_putRectangle_66 : decode cX4_putRectangle 66 = .ok (.iload 4, 2) := by decide +kernel
theorem dX4_putRectangle_68 : decode cX4_putRectangle 68 = .ok (.invokevirtual 15, 3) := by decide +kernel
theorem dX4_putRectangle_71 : decode cX4_putRectangle 71 = .ok (.iload 4, 2) := by decide +kernel
theorem dX4_putRectangle_73 : decode cX4_putRectangle 73 = .ok (.if_icmp .ne 7, 3) := by decide +kernel
theorem dX4_putRectangle_76 : decode cX4_putRectangle 76 = .ok (.iconst 0, 1) := by decide +kernel
theorem dX4_putRectangle_77 : decode cX4_putRectangle 77 = .ok (.goto 4, 3) := by decide +kernel
theorem dX4_putRectangle_80 : decode cX4_putRectangle 80 = .ok (.iconst 1, 1) := by decide +kernel
theorem dX4_putRectangle_81 : decode cX4_putRectangle 81 = .ok (.iadd, 1) := by decide +kernel
theorem dX4_putRectangle_82 : decode cX4_putRectangle 82 = .ok (.istore 7, 2) := by decide +kernel
theorem dX4_putRectangle_84 : decode cX4_putRectangle 84 = .ok (.iinc 9 1, 3) := by decide +kernel
theorem dX4_putRectangle_87 : decode cX4_putRectangle 87 = .ok (.goto (-48), 3) := by decide +kernel
theorem dX4_putRectangle_90 : decode cX4_putRectangle 90 = .ok (.iinc 8 1, 3) := by decide +kernel
theorem dX4_putRectangle_93 : decode cX4_putRectangle 93 = .ok (.goto (-74), 3) := by decide +kernel
theorem dX4_putRectangle_96 : decode cX4_putRectangle 96 = .ok (.iload 7, 2) := by decide +kernel
theorem dX4_putRectangle_98 : decode cX4_putRectangle 98 = .ok (.ireturn, 1) := by decide +kernel
set_option maxRecDepth 20000 in
theorem ggX4_takeMoved_X4_movedValueAt : GoodIn wsX4_takeMoved wsX4_movedValueAt := goodIn_r _ [5, 6, 11] (by decide +kernel) (by decide +kernel)
set_option maxRecDepth 20000 in
theorem gX4_takeMoved_X4_movedValueAt : GoodIn wsX4_takeMoved (wsV RX4 19 RX4 yX4_movedValueAt wsX4_movedValueAt) := goodIn_app (goodIn_of _ (by decide +kernel)) ggX4_takeMoved_X4_movedValueAt
set_option maxRecDepth 20000 in
theorem ggX4_takeMoved_X4_put : GoodIn wsX4_takeMoved wsX4_put := goodIn_r _ [10, 6, 11] (by decide +kernel) (by decide +kernel)
set_option maxRecDepth 20000 in
theorem gX4_takeMoved_X4_put : GoodIn wsX4_takeMoved (wsV RX4 15 RX4 yX4_put wsX4_put) := goodIn_app (goodIn_of _ (by decide +kernel)) ggX4_takeMoved_X4_put
theorem dX4_takeMoved_0 : decode cX4_takeMoved 0 = .ok (.iconst 0, 1) := by decide +kernel
theorem dX4_takeMoved_1 : decode cX4_takeMoved 1 = .ok (.istore 4, 2) := by decide +kernel
theorem dX4_takeMoved_3 : decode cX4_takeMoved 3 = .ok (.iconst 0, 1) := by decide +kernel
theorem dX4_takeMoved_4 : decode cX4_takeMoved 4 = .ok (.istore 5, 2) := by decide +kernel
theorem dX4_takeMoved_6 : decode cX4_takeMoved 6 = .ok (.iload 5, 2) := by decide +kernel
theorem dX4_takeMoved_8 : decode cX4_takeMoved 8 = .ok (.bipush 64, 2) := by decide +kernel
theorem dX4_takeMoved_10 : decode cX4_takeMoved 10 = .ok (.if_icmp .ge 42, 3) := by decide +kernel
theorem dX4_takeMoved_13 : decode cX4_takeMoved 13 = .ok (.aload_n 1, 1) := by decide +kernel
theorem dX4_takeMoved_14 : decode cX4_takeMoved 14 = .ok (.iload 5, 2) := by decide +kernel
theorem dX4_takeMoved_16 : decode cX4_takeMoved 16 = .ok (.iload_n 2, 1) := by decide +kernel
theorem dX4_takeMoved_17 : decode cX4_takeMoved 17 = .ok (.iload_n 3, 1) := by decide +kernel
theorem dX4_takeMoved_18 : decode cX4_takeMoved 18 = .ok (.invokevirtual 19, 3) := by decide +kernel
theorem dX4_takeMoved_21 : decode cX4_takeMoved 21 = .ok (.istore 6, 2) := by decide +kernel
theorem dX4_takeMoved_23 : decode cX4_takeMoved 23 = .ok (.iload 4, 2) := by decide +kernel
theorem dX4_takeMoved_25 : decode cX4_takeMoved 25 = .ok (.aload_n 0, 1) := by decide +kernel
theorem dX4_takeMoved_26 : decode cX4_takeMoved 26 = .ok (.iload 5, 2) := by decide +kernel
theorem dX4_takeMoved_28 : decode cX4_takeMoved 28 = .ok (.iload 6, 2) := by decide +kernel
theorem dX4_takeMoved_30 : decode cX4_takeMoved 30 = .ok (.invokevirtual 15, 3) := by decide +kernel
theorem dX4_takeMoved_33 : decode cX4_takeMoved 33 = .ok (.iload 6, 2) := by decide +kernel
theorem dX4_takeMoved_35 : decode cX4_takeMoved 35 = .ok (.if_icmp .ne 7, 3) := by decide +kernel
theorem dX4_takeMoved_38 : decode cX4_takeMoved 38 = .ok (.iconst 0, 1) := by decide +kernel
theorem dX4_takeMoved_39 : decode cX4_takeMoved 39 = .ok (.goto 4, 3) := by decide +kernel
theorem dX4_takeMoved_42 : decode cX4_takeMoved 42 = .ok (.iconst 1, 1) := by decide +kernel
theorem dX4_takeMoved_43 : decode cX4_takeMoved 43 = .ok (.iadd, 1) := by decide +kernel
theorem dX4_takeMoved_44 : decode cX4_takeMoved 44 = .ok (.istore 4, 2) := by decide +kernel
theorem dX4_takeMoved_46 : decode cX4_takeMoved 46 = .ok (.iinc 5 1, 3) := by decide +kernel
theorem dX4_takeMoved_49 : decode cX4_takeMoved 49 = .ok (.goto (-43), 3) := by decide +kernel
theorem dX4_takeMoved_52 : decode cX4_takeMoved 52 = .ok (.iload 4, 2) := by decide +kernel
theorem dX4_takeMoved_54 : decode cX4_takeMoved 54 = .ok (.ireturn, 1) := by decide +kernel
theorem dX4_copyFrom_0 : decode cX4_copyFrom 0 = .ok (.aload_n 1, 1) := by decide +kernel
theorem dX4_copyFrom_1 : decode cX4_copyFrom 1 = .ok (.getfield 9, 3) := by decide +kernel
theorem dX4_copyFrom_4 : decode cX4_copyFrom 4 = .ok (.iconst 0, 1) := by decide +kernel
theorem dX4_copyFrom_5 : decode cX4_copyFrom 5 = .ok (.aload_n 0, 1) := by decide +kernel
theorem dX4_copyFrom_6 : decode cX4_copyFrom 6 = .ok (.getfield 9, 3) := by decide +kernel
theorem dX4_copyFrom_9 : decode cX4_copyFrom 9 = .ok (.iconst 0, 1) := by decide +kernel
theorem dX4_copyFrom_10 : decode cX4_copyFrom 10 = .ok (.bipush 64, 2) := by decide +kernel
theorem dX4_copyFrom_12 : decode cX4_copyFrom 12 = .ok (.invokestatic 23, 3) := by decide +kernel
theorem dX4_copyFrom_15 : decode cX4_copyFrom 15 = .ok (.return_, 1) := by decide +kernel
set_option maxRecDepth 20000 in
theorem ggX5_init_X4_init : GoodIn wsX5_init wsX4_init := goodIn_r _ [15, 16, 2, 3, 4, 17, 24] (by decide +kernel) (by decide +kernel)
set_option maxRecDepth 20000 in
theorem gX5_init_X4_init_n20 : GoodIn wsX5_init (wsX4_init) := ggX5_init_X4_init
theorem dX5_init_0 : decode cX5_init 0 = .ok (.aload_n 0, 1) := by decide +kernel
theorem dX5_init_1 : decode cX5_init 1 = .ok (.invokespecial 3, 3) := by decide +kernel
theorem dX5_init_4 : decode cX5_init 4 = .ok (.aload_n 0, 1) := by decide +kernel
theorem dX5_init_5 : decode cX5_init 5 = .ok (.iconst 4, 1) := by decide +kernel
theorem dX5_init_6 : decode cX5_init 6 = .ok (.newarray .int, 2) := by decide +kernel
theorem dX5_init_8 : decode cX5_init 8 = .ok (.putfield 9, 3) := by decide +kernel
theorem dX5_init_11 : decode cX5_init 11 = .ok (.aload_n 0, 1) := by decide +kernel
theorem dX5_init_12 : decode cX5_init 12 = .ok (.iconst 4, 1) := by decide +kernel
theorem dX5_init_13 : decode cX5_init 13 = .ok (.newarray .int, 2) := by decide +kernel
theorem dX5_init_15 : decode cX5_init 15 = .ok (.putfield 15, 3) := by decide +kernel
theorem dX5_init_18 : decode cX5_init 18 = .ok (.aload_n 0, 1) := by decide +kernel
theorem dX5_init_19 : decode cX5_init 19 = .ok (.new 18, 3) := by decide +kernel
theorem dX5_init_22 : decode cX5_init 22 = .ok (.dup, 1) := by decide +kernel
theorem dX5_init_23 : decode cX5_init 23 = .ok (.invokespecial 20, 3) := by decide +kernel
theorem dX5_init_26 : decode cX5_init 26 = .ok (.putfield 21, 3) := by decide +kernel
theorem dX5_init_29 : decode cX5_init 29 = .ok (.aload_n 0, 1) := by decide +kernel
theorem dX5_init_30 : decode cX5_init 30 = .ok (.bipush 64, 2) := by decide +kernel
theorem dX5_init_32 : decode cX5_init 32 = .ok (.newarray .int, 2) := by decide +kernel
theorem dX5_init_34 : decode cX5_init 34 = .ok (.putfield 25, 3) := by decide +kernel
theorem dX5_init_37 : decode cX5_init 37 = .ok (.aload_n 0, 1) := by decide +kernel
theorem dX5_init_38 : decode cX5_init 38 = .ok (.iconst (-1), 1) := by decide +kernel
theorem dX5_init_39 : decode cX5_init 39 = .ok (.putfield 28, 3) := by decide +kernel
theorem dX5_init_42 : decode cX5_init 42 = .ok (.aload_n 0, 1) := by decide +kernel
theorem dX5_init_43 : decode cX5_init 43 = .ok (.iconst 0, 1) := by decide +kernel
theorem dX5_init_44 : decode cX5_init 44 = .ok (.putfield 32, 3) := by decide +kernel
theorem dX5_init_47 : decode cX5_init 47 = .ok (.return_, 1) := by decide +kernel
theorem dX5_moveOf_0 : decode cX5_moveOf 0 = .ok (.iload_n 1, 1) := by decide +kernel
theorem dX5_moveOf_1 : decode cX5_moveOf 1 = .ok (.ifCond .lt 8, 3) := by decide +kernel
theorem dX5_moveOf_4 : decode cX5_moveOf 4 = .ok (.iload_n 1, 1) := by decide +kernel
theorem dX5_moveOf_5 : decode cX5_moveOf 5 = .ok (.iconst 4, 1) := by decide +kernel
theorem dX5_moveOf_6 : decode cX5_moveOf 6 = .ok (.if_icmp .lt 8, 3) := by decide +kernel
theorem dX5_moveOf_9 : decode cX5_moveOf 9 = .ok (.bipush 12, 2) := by decide +kernel
theorem dX5_moveOf_11 : decode cX5_moveOf 11 = .ok (.goto 9, 3) := by decide +kernel
theorem dX5_moveOf_14 : decode cX5_moveOf 14 = .ok (.aload_n 0, 1) := by decide +kernel
theorem dX5_moveOf_15 : decode cX5_moveOf 15 = .ok (.getfield 9, 3) := by decide +kernel
theorem dX5_moveOf_18 : decode cX5_moveOf 18 = .ok (.iload_n 1, 1) := by decide +kernel
theorem dX5_moveOf_19 : decode cX5_moveOf 19 = .ok (.iaload, 1) := by decide +kernel
