set_option maxRecDepth 20000 in
theorem ggX0_writeBlock_X5_moveOf : GoodIn wsX0_writeBlock wsX5_moveOf := goodIn_r _ [5, 6, 43, 44, 45, 46, 47, 48] (by decide +kernel) (by decide +kernel)
set_option maxRecDepth 20000 in
theorem gX0_writeBlock_X5_moveOf_n19 : GoodIn wsX0_writeBlock (wsX5_moveOf) := ggX0_writeBlock_X5_moveOf
set_option maxRecDepth 20000 in
theorem ggX0_writeBlock_X0_writeNumber : GoodIn wsX0_writeBlock wsX0_writeNumber := goodIn_r _ [11, 12, 13, 14, 10, 15, 1, 16, 41, 42] (by decide +kernel) (by decide +kernel)
set_option maxRecDepth 20000 in
theorem gX0_writeBlock_X0_writeNumber : GoodIn wsX0_writeBlock (wsV RX0 25 RX0 yX0_writeNumber wsX0_writeNumber) := goodIn_app (goodIn_of _ (by decide +kernel)) ggX0_writeBlock_X0_writeNumber
set_option maxRecDepth 20000 in
theorem ggX0_writeBlock_X8_pixelIn : GoodIn wsX0_writeBlock wsX8_pixelIn := goodIn_r _ [19] (by decide +kernel) (by decide +kernel)
set_option maxRecDepth 20000 in
theorem gX0_writeBlock_X8_pixelIn_n29 : GoodIn wsX0_writeBlock (wsX8_pixelIn) := ggX0_writeBlock_X8_pixelIn
set_option maxRecDepth 20000 in
theorem ggX0_writeBlock_X5_levelAt : GoodIn wsX0_writeBlock wsX5_levelAt := goodIn_r _ [22, 23, 43, 44, 45, 46, 47, 48] (by decide +kernel) (by decide +kernel)
set_option maxRecDepth 20000 in
theorem gX0_writeBlock_X5_levelAt_n33 : GoodIn wsX0_writeBlock (wsX5_levelAt) := ggX0_writeBlock_X5_levelAt
set_option maxRecDepth 20000 in
theorem ggX0_writeBlock_X0_writeLevel : GoodIn wsX0_writeBlock wsX0_writeLevel := goodIn_r _ [27, 28, 29, 30, 31, 7, 8, 9, 10, 11, 12, 13, 14, 15, 1, 16, 41, 42] (by decide +kernel) (by decide +kernel)
set_option maxRecDepth 20000 in
theorem gX0_writeBlock_X0_writeLevel : GoodIn wsX0_writeBlock (wsV RX0 36 RX0 yX0_writeLevel wsX0_writeLevel) := goodIn_app (goodIn_of _ (by decide +kernel)) ggX0_writeBlock_X0_writeLevel
set_option maxRecDepth 20000 in
theorem ggX0_writeBlock_X0_writeRaw : GoodIn wsX0_writeBlock wsX0_writeRaw := goodIn_r _ [35, 7, 8, 9, 10, 11, 12, 13, 14, 15, 1, 16, 17, 18, 19, 36, 37, 38, 39, 40, 41, 42, 49] (by decide +kernel) (by decide +kernel)
set_option maxRecDepth 20000 in
theorem gX0_writeBlock_X0_writeRaw : GoodIn wsX0_writeBlock (wsV RX0 40 RX0 yX0_writeRaw wsX0_writeRaw) := goodIn_app (goodIn_of _ (by decide +kernel)) ggX0_writeBlock_X0_writeRaw
theorem dX0_writeBlock_0 : decode cX0_writeBlock 0 = .ok (.aload_n 1, 1) := by decide +kernel
theorem dX0_writeBlock_1 : decode cX0_writeBlock 1 = .ok (.iload_n 3, 1) := by decide +kernel
theorem dX0_writeBlock_2 : decode cX0_writeBlock 2 = .ok (.invokevirtual 19, 3) := by decide +kernel
theorem dX0_writeBlock_5 : decode cX0_writeBlock 5 = .ok (.bipush 12, 2) := by decide +kernel
theorem dX0_writeBlock_7 : decode cX0_writeBlock 7 = .ok (.if_icmp .ne 7, 3) := by decide +kernel
theorem dX0_writeBlock_10 : decode cX0_writeBlock 10 = .ok (.iconst 1, 1) := by decide +kernel
theorem dX0_writeBlock_11 : decode cX0_writeBlock 11 = .ok (.goto 4, 3) := by decide +kernel
theorem dX0_writeBlock_14 : decode cX0_writeBlock 14 = .ok (.iconst 0, 1) := by decide +kernel
theorem dX0_writeBlock_15 : decode cX0_writeBlock 15 = .ok (.istore 5, 2) := by decide +kernel
theorem dX0_writeBlock_17 : decode cX0_writeBlock 17 = .ok (.aload_n 0, 1) := by decide +kernel
theorem dX0_writeBlock_18 : decode cX0_writeBlock 18 = .ok (.iconst 0, 1) := by decide +kernel
theorem dX0_writeBlock_19 : decode cX0_writeBlock 19 = .ok (.putfield 15, 3) := by decide +kernel
theorem dX0_writeBlock_22 : decode cX0_writeBlock 22 = .ok (.aload_n 0, 1) := by decide +kernel
theorem dX0_writeBlock_23 : decode cX0_writeBlock 23 = .ok (.aload_n 1, 1) := by decide +kernel
theorem dX0_writeBlock_24 : decode cX0_writeBlock 24 = .ok (.iload_n 3, 1) := by decide +kernel
theorem dX0_writeBlock_25 : decode cX0_writeBlock 25 = .ok (.invokevirtual 19, 3) := by decide +kernel
theorem dX0_writeBlock_28 : decode cX0_writeBlock 28 = .ok (.bipush 6, 2) := by decide +kernel
theorem dX0_writeBlock_30 : decode cX0_writeBlock 30 = .ok (.invokevirtual 25, 3) := by decide +kernel
theorem dX0_writeBlock_33 : decode cX0_writeBlock 33 = .ok (.iconst 0, 1) := by decide +kernel
theorem dX0_writeBlock_34 : decode cX0_writeBlock 34 = .ok (.istore 6, 2) := by decide +kernel
theorem dX0_writeBlock_36 : decode cX0_writeBlock 36 = .ok (.iload 6, 2) := by decide +kernel
theorem dX0_writeBlock_38 : decode cX0_writeBlock 38 = .ok (.bipush 16, 2) := by decide +kernel
theorem dX0_writeBlock_40 : decode cX0_writeBlock 40 = .ok (.if_icmp .ge 46, 3) := by decide +kernel
theorem dX0_writeBlock_43 : decode cX0_writeBlock 43 = .ok (.aload_n 1, 1) := by decide +kernel
theorem dX0_writeBlock_44 : decode cX0_writeBlock 44 = .ok (.iload_n 3, 1) := by decide +kernel
theorem dX0_writeBlock_45 : decode cX0_writeBlock 45 = .ok (.iload 6, 2) := by decide +kernel
theorem dX0_writeBlock_47 : decode cX0_writeBlock 47 = .ok (.invokestatic 29, 3) := by decide +kernel
theorem dX0_writeBlock_50 : decode cX0_writeBlock 50 = .ok (.iload 4, 2) := by decide +kernel
theorem dX0_writeBlock_52 : decode cX0_writeBlock 52 = .ok (.invokevirtual 33, 3) := by decide +kernel
theorem dX0_writeBlock_55 : decode cX0_writeBlock 55 = .ok (.istore 7, 2) := by decide +kernel
theorem dX0_writeBlock_57 : decode cX0_writeBlock 57 = .ok (.aload_n 0, 1) := by decide +kernel
theorem dX0_writeBlock_58 : decode cX0_writeBlock 58 = .ok (.iload 7, 2) := by decide +kernel
theorem dX0_writeBlock_60 : decode cX0_writeBlock 60 = .ok (.invokevirtual 36, 3) := by decide +kernel
theorem dX0_writeBlock_63 : decode cX0_writeBlock 63 = .ok (.iload 5, 2) := by decide +kernel
theorem dX0_writeBlock_65 : decode cX0_writeBlock 65 = .ok (.ifCond .eq 12, 3) := by decide +kernel
theorem dX0_writeBlock_68 : decode cX0_writeBlock 68 = .ok (.iload 7, 2) := by decide +kernel
theorem dX0_writeBlock_70 : decode cX0_writeBlock 70 = .ok (.ifCond .ne 7, 3) := by decide +kernel
theorem dX0_writeBlock_73 : decode cX0_writeBlock 73 = .ok (.iconst 1, 1) := by decide +kernel
theorem dX0_writeBlock_74 : decode cX0_writeBlock 74 = .ok (.goto 4, 3) := by decide +kernel
theorem dX0_writeBlock_77 : decode cX0_writeBlock 77 = .ok (.iconst 0, 1) := by decide +kernel
theorem dX0_writeBlock_78 : decode cX0_writeBlock 78 = .ok (.istore 5, 2) := by decide +kernel
theorem dX0_writeBlock_80 : decode cX0_writeBlock 80 = .ok (.iinc 6 1, 3) := by decide +kernel
theorem dX0_writeBlock_83 : decode cX0_writeBlock 83 = .ok (.goto (-47), 3) := by decide +kernel
theorem dX0_writeBlock_86 : decode cX0_writeBlock 86 = .ok (.iload 5, 2) := by decide +kernel
theorem dX0_writeBlock_88 : decode cX0_writeBlock 88 = .ok (.ifCond .eq 17, 3) := by decide +kernel
theorem dX0_writeBlock_91 : decode cX0_writeBlock 91 = .ok (.aload_n 0, 1) := by decide +kernel
theorem dX0_writeBlock_92 : decode cX0_writeBlock 92 = .ok (.iconst 0, 1) := by decide +kernel
theorem dX0_writeBlock_93 : decode cX0_writeBlock 93 = .ok (.putfield 15, 3) := by decide +kernel
theorem dX0_writeBlock_96 : decode cX0_writeBlock 96 = .ok (.aload_n 0, 1) := by decide +kernel
theorem dX0_writeBlock_97 : decode cX0_writeBlock 97 = .ok (.iconst 1, 1) := by decide +kernel
theorem dX0_writeBlock_98 : decode cX0_writeBlock 98 = .ok (.iconst 1, 1) := by decide +kernel
theorem dX0_writeBlock_99 : decode cX0_writeBlock 99 = .ok (.invokevirtual 25, 3) := by decide +kernel
theorem dX0_writeBlock_102 : decode cX0_writeBlock 102 = .ok (.goto 23, 3) := by decide +kernel
theorem dX0_writeBlock_105 : decode cX0_writeBlock 105 = .ok (.aload_n 0, 1) := by decide +kernel
theorem dX0_writeBlock_106 : decode cX0_writeBlock 106 = .ok (.getfield 15, 3) := by decide +kernel
theorem dX0_writeBlock_109 : decode cX0_writeBlock 109 = .ok (.bipush 66, 2) := by decide +kernel
theorem dX0_writeBlock_111 : decode cX0_writeBlock 111 = .ok (.if_icmp .le 14, 3) := by decide +kernel
theorem dX0_writeBlock_114 : decode cX0_writeBlock 114 = .ok (.aload_n 0, 1) := by decide +kernel
theorem dX0_writeBlock_115 : decode cX0_writeBlock 115 = .ok (.iconst 0, 1) := by decide +kernel
theorem dX0_writeBlock_116 : decode cX0_writeBlock 116 = .ok (.putfield 15, 3) := by decide +kernel
theorem dX0_writeBlock_119 : decode cX0_writeBlock 119 = .ok (.aload_n 0, 1) := by decide +kernel
theorem dX0_writeBlock_120 : decode cX0_writeBlock 120 = .ok (.aload_n 2, 1) := by decide +kernel
theorem dX0_writeBlock_121 : decode cX0_writeBlock 121 = .ok (.iload_n 3, 1) := by decide +kernel
theorem dX0_writeBlock_122 : decode cX0_writeBlock 122 = .ok (.invokevirtual 40, 3) := by decide +kernel
theorem dX0_writeBlock_125 : decode cX0_writeBlock 125 = .ok (.aload_n 0, 1) := by decide +kernel
theorem dX0_writeBlock_126 : decode cX0_writeBlock 126 = .ok (.getfield 15, 3) := by decide +kernel
theorem dX0_writeBlock_129 : decode cX0_writeBlock 129 = .ok (.ireturn, 1) := by decide +kernel
set_option maxRecDepth 20000 in
theorem ggX0_writeRaw_X0_writeNumber : GoodIn wsX0_writeRaw wsX0_writeNumber := goodIn_r _ [5, 6, 7, 8, 4, 9, 10, 11, 20, 21] (by decide +kernel) (by decide +kernel)
set_option maxRecDepth 20000 in
theorem gX0_writeRaw_X0_writeNumber : GoodIn wsX0_writeRaw (wsV RX0 25 RX0 yX0_writeNumber wsX0_writeNumber) := goodIn_app (goodIn_of _ (by decide +kernel)) ggX0_writeRaw_X0_writeNumber
set_option maxRecDepth 20000 in
theorem ggX0_writeRaw_X8_pixelIn : GoodIn wsX0_writeRaw wsX8_pixelIn := goodIn_r _ [14] (by decide +kernel) (by decide +kernel)
set_option maxRecDepth 20000 in
theorem gX0_writeRaw_X8_pixelIn_n29 : GoodIn wsX0_writeRaw (wsX8_pixelIn) := ggX0_writeRaw_X8_pixelIn
set_option maxRecDepth 20000 in
theorem ggX0_writeRaw_X4_valueAt : GoodIn wsX0_writeRaw wsX4_valueAt := goodIn_r _ [18, 19, 22] (by decide +kernel) (by decide +kernel)
set_option maxRecDepth 20000 in
theorem gX0_writeRaw_X4_valueAt_n44 : GoodIn wsX0_writeRaw (wsX4_valueAt) := ggX0_writeRaw_X4_valueAt
theorem dX0_writeRaw_0 : decode cX0_writeRaw 0 = .ok (.aload_n 0, 1) := by decide +kernel
theorem dX0_writeRaw_1 : decode cX0_writeRaw 1 = .ok (.iconst 0, 1) := by decide +kernel
theorem dX0_writeRaw_2 : decode cX0_writeRaw 2 = .ok (.iconst 2, 1) := by decide +kernel
theorem dX0_writeRaw_3 : decode cX0_writeRaw 3 = .ok (.invokevirtual 25, 3) := by decide +kernel
theorem dX0_writeRaw_6 : decode cX0_writeRaw 6 = .ok (.iconst 0, 1) := by decide +kernel
theorem dX0_writeRaw_7 : decode cX0_writeRaw 7 = .ok (.istore_n 3, 1) := by decide +kernel
theorem dX0_writeRaw_8 : decode cX0_writeRaw 8 = .ok (.iload_n 3, 1) := by decide +kernel
theorem dX0_writeRaw_9 : decode cX0_writeRaw 9 = .ok (.bipush 16, 2) := by decide +kernel
theorem dX0_writeRaw_11 : decode cX0_writeRaw 11 = .ok (.if_icmp .ge 23, 3) := by decide +kernel
theorem dX0_writeRaw_14 : decode cX0_writeRaw 14 = .ok (.aload_n 0, 1) := by decide +kernel
theorem dX0_writeRaw_15 : decode cX0_writeRaw 15 = .ok (.aload_n 1, 1) := by decide +kernel
theorem dX0_writeRaw_16 : decode cX0_writeRaw 16 = .ok (.iload_n 2, 1) := by decide +kernel
theorem dX0_writeRaw_17 : decode cX0_writeRaw 17 = .ok (.iload_n 3, 1) := by decide +kernel
theorem dX0_writeRaw_18 : decode cX0_writeRaw 18 = .ok (.invokestatic 29, 3) := by decide +kernel
theorem dX0_writeRaw_21 : decode cX0_writeRaw 21 = .ok (.invokevirtual 44, 3) := by decide +kernel
theorem dX0_writeRaw_24 : decode cX0_writeRaw 24 = .ok (.iconst 4, 1) := by decide +kernel
theorem dX0_writeRaw_25 : decode cX0_writeRaw 25 = .ok (.invokevirtual 25, 3) := by decide +kernel
theorem dX0_writeRaw_28 : decode cX0_writeRaw 28 = .ok (.iinc 3 1, 3) := by decide +kernel
theorem dX0_writeRaw_31 : decode cX0_writeRaw 31 = .ok (.goto (-23), 3) := by decide +kernel
theorem dX0_writeRaw_34 : decode cX0_writeRaw 34 = .ok (.return_, 1) := by decide +kernel
set_option maxRecDepth 20000 in
theorem ggX0_writeLevel_X0_writeNumber : GoodIn wsX0_writeLevel wsX0_writeNumber := goodIn_r _ [9, 10, 11, 12, 8, 13, 14, 15, 16, 17] (by decide +kernel) (by decide +kernel)
set_option maxRecDepth 20000 in
theorem gX0_writeLevel_X0_writeNumber : GoodIn wsX0_writeLevel (wsV RX0 25 RX0 yX0_writeNumber wsX0_writeNumber) := goodIn_app (goodIn_of _ (by decide +kernel)) ggX0_writeLevel_X0_writeNumber
set_option maxRecDepth 20000 in
theorem ggX0_writeLevel_X0_writeBit : GoodIn wsX0_writeLevel wsX0_writeBit := goodIn_r _ [13, 14, 15, 16, 17] (by decide +kernel) (by decide +kernel)
set_option maxRecDepth 20000 in
theorem gX0_writeLevel_X0_writeBit : GoodIn wsX0_writeLevel (wsV RX0 54 RX0 yX0_writeBit wsX0_writeBit) := goodIn_app (goodIn_of _ (by decide +kernel)) ggX0_writeLevel_X0_writeBit
theorem dX0_writeLevel_0 : decode cX0_writeLevel 0 = .ok (.iload_n 1, 1) := by decide +kernel
theorem dX0_writeLevel_1 : decode cX0_writeLevel 1 = .ok (.invokestatic 49, 3) := by decide +kernel
theorem dX0_writeLevel_4 : decode cX0_writeLevel 4 = .ok (.iconst 1, 1) := by decide +kernel
theorem dX0_writeLevel_5 : decode cX0_writeLevel 5 = .ok (.iadd, 1) := by decide +kernel
theorem dX0_writeLevel_6 : decode cX0_writeLevel 6 = .ok (.istore_n 2, 1) := by decide +kernel
theorem dX0_writeLevel_7 : decode cX0_writeLevel 7 = .ok (.iconst 0, 1) := by decide +kernel
theorem dX0_writeLevel_8 : decode cX0_writeLevel 8 = .ok (.istore_n 3, 1) := by decide +kernel
theorem dX0_writeLevel_9 : decode cX0_writeLevel 9 = .ok (.iload_n 2, 1) := by decide +kernel
theorem dX0_writeLevel_10 : decode cX0_writeLevel 10 = .ok (.istore 4, 2) := by decide +kernel
theorem dX0_writeLevel_12 : decode cX0_writeLevel 12 = .ok (.iload 4, 2) := by decide +kernel
theorem dX0_writeLevel_14 : decode cX0_writeLevel 14 = .ok (.iconst 1, 1) := by decide +kernel
theorem dX0_writeLevel_15 : decode cX0_writeLevel 15 = .ok (.if_icmp .le 15, 3) := by decide +kernel
theorem dX0_writeLevel_18 : decode cX0_writeLevel 18 = .ok (.iinc 3 1, 3) := by decide +kernel
theorem dX0_writeLevel_21 : decode cX0_writeLevel 21 = .ok (.iload 4, 2) := by decide +kernel
theorem dX0_writeLevel_23 : decode cX0_writeLevel 23 = .ok (.iconst 2, 1) := by decide +kernel
theorem dX0_writeLevel_24 : decode cX0_writeLevel 24 = .ok (.idiv, 1) := by decide +kernel
theorem dX0_writeLevel_25 : decode cX0_writeLevel 25 = .ok (.istore 4, 2) := by decide +kernel
theorem dX0_writeLevel_27 : decode cX0_writeLevel 27 = .ok (.goto (-15), 3) := by decide +kernel
theorem dX0_writeLevel_30 : decode cX0_writeLevel 30 = .ok (.aload_n 0, 1) := by decide +kernel
theorem dX0_writeLevel_31 : decode cX0_writeLevel 31 = .ok (.iconst 0, 1) := by decide +kernel
theorem dX0_writeLevel_32 : decode cX0_writeLevel 32 = .ok (.iload_n 3, 1) := by decide +kernel
theorem dX0_writeLevel_33 : decode cX0_writeLevel 33 = .ok (.invokevirtual 25, 3) := by decide +kernel
theorem dX0_writeLevel_36 : decode cX0_writeLevel 36 = .ok (.aload_n 0, 1) := by decide +kernel
theorem dX0_writeLevel_37 : decode cX0_writeLevel 37 = .ok (.iload_n 2, 1) := by decide +kernel
theorem dX0_writeLevel_38 : decode cX0_writeLevel 38 = .ok (.iload_n 3, 1) := by decide +kernel
theorem dX0_writeLevel_39 : decode cX0_writeLevel 39 = .ok (.iconst 1, 1) := by decide +kernel
theorem dX0_writeLevel_40 : decode cX0_writeLevel 40 = .ok (.iadd, 1) := by decide +kernel
theorem dX0_writeLevel_41 : decode cX0_writeLevel 41 = .ok (.invokevirtual 25, 3) := by decide +kernel
theorem dX0_writeLevel_44 : decode cX0_writeLevel 44 = .ok (.iload_n 1, 1) := by decide +kernel
theorem dX0_writeLevel_45 : decode cX0_writeLevel 45 = .ok (.ifCond .eq 16, 3) := by decide +kernel
theorem dX0_writeLevel_48 : decode cX0_writeLevel 48 = .ok (.aload_n 0, 1) := by decide +kernel
theorem dX0_writeLevel_49 : decode cX0_writeLevel 49 = .ok (.iload_n 1, 1) := by decide +kernel
theorem dX0_writeLevel_50 : decode cX0_writeLevel 50 = .ok (.ifCond .ge 7, 3) := by decide +kernel
theorem dX0_writeLevel_53 : decode cX0_writeLevel 53 = .ok (.iconst 1, 1) := by decide +kernel
theorem dX0_writeLevel_54 : decode cX0_writeLevel 54 = .ok (.goto 4, 3) := by decide +kernel
theorem dX0_writeLevel_57 : decode cX0_writeLevel 57 = .ok (.iconst 0, 1) := by decide +kernel
theorem dX0_writeLevel_58 : decode cX0_writeLevel 58 = .ok (.invokevirtual 54, 3) := by decide +kernel
theorem dX0_writeLevel_61 : decode cX0_writeLevel 61 = .ok (.return_, 1) := by decide +kernel
set_option maxRecDepth 20000 in
theorem ggX0_writeNumber_X0_writeBit : GoodIn wsX0_writeNumber wsX0_writeBit := goodIn_r _ [5, 6, 7, 8, 9] (by decide +kernel) (by decide +kernel)
set_option maxRecDepth 20000 in
theorem gX0_writeNumber_X0_writeBit : GoodIn wsX0_writeNumber (wsV RX0 54 RX0 yX0_writeBit wsX0_writeBit) := goodIn_app (goodIn_of _ (by decide +kernel)) ggX0_writeNumber_X0_writeBit
theorem dX0_writeNumber_0 : decode cX0_writeNumber 0 = .ok (.iload_n 2, 1) := by decide +kernel
theorem dX0_writeNumber_1 : decode cX0_writeNumber 1 = .ok (.iconst 1, 1) := by decide +kernel
theorem dX0_writeNumber_2 : decode cX0_writeNumber 2 = .ok (.isub, 1) := by decide +kernel
theorem dX0_writeNumber_3 : decode cX0_writeNumber 3 = .ok (.istore_n 3, 1) := by decide +kernel
theorem dX0_writeNumber_4 : decode cX0_writeNumber 4 = .ok (.iload_n 3, 1) := by decide +kernel
theorem dX0_writeNumber_5 : decode cX0_writeNumber 5 = .ok (.ifCond .lt 27, 3) := by decide +kernel
theorem dX0_writeNumber_8 : decode cX0_writeNumber 8 = .ok (.aload_n 0, 1) := by decide +kernel
theorem dX0_writeNumber_9 : decode cX0_writeNumber 9 = .ok (.iload_n 1, 1) := by decide +kernel
theorem dX0_writeNumber_10 : decode cX0_writeNumber 10 = .ok (.iload_n 3, 1) := by decide +kernel
theorem dX0_writeNumber_11 : decode cX0_writeNumber 11 = .ok (.ishr, 1) := by decide +kernel
theorem dX0_writeNumber_12 : decode cX0_writeNumber 12 = .ok (.iconst 1, 1) := by decide +kernel
theorem dX0_writeNumber_13 : decode cX0_writeNumber 13 = .ok (.iand, 1) := by decide +kernel
theorem dX0_writeNumber_14 : decode cX0_writeNumber 14 = .ok (.iconst 1, 1) := by decide +kernel
theorem dX0_writeNumber_15 : decode cX0_writeNumber 15 = .ok (.if_icmp .ne 7, 3) := by decide +kernel
theorem dX0_writeNumber_18 : decode cX0_writeNumber 18 = .ok (.iconst 1, 1) := by decide +kernel
theorem dX0_writeNumber_19 : decode cX0_writeNumber 19 = .ok (.goto 4, 3) := by decide +kernel
theorem dX0_writeNumber_22 : decode cX0_writeNumber 22 = .ok (.iconst 0, 1) := by decide +kernel
theorem dX0_writeNumber_23 : decode cX0_writeNumber 23 = .ok (.invokevirtual 54, 3) := by decide +kernel
theorem dX0_writeNumber_26 : decode cX0_writeNumber 26 = .ok (.iinc 3 (-1), 3) := by decide +kernel
theorem dX0_writeNumber_29 : decode cX0_writeNumber 29 = .ok (.goto (-25), 3) := by decide +kernel
theorem dX0_writeNumber_32 : decode cX0_writeNumber 32 = .ok (.return_, 1) := by decide +kernel
theorem dX0_writeBit_0 : decode cX0_writeBit 0 = .ok (.aload_n 0, 1) := by decide +kernel
theorem dX0_writeBit_1 : decode cX0_writeBit 1 = .ok (.getfield 15, 3) := by decide +kernel
theorem dX0_writeBit_4 : decode cX0_writeBit 4 = .ok (.aload_n 0, 1) := by decide +kernel
theorem dX0_writeBit_5 : decode cX0_writeBit 5 = .ok (.getfield 9, 3) := by decide +kernel
theorem dX0_writeBit_8 : decode cX0_writeBit 8 = .ok (.arraylength, 1) := by decide +kernel
theorem dX0_writeBit_9 : decode cX0_writeBit 9 = .ok (.if_icmp .ge 23, 3) := by decide +kernel
theorem dX0_writeBit_12 : decode cX0_writeBit 12 = .ok (.aload_n 0, 1) := by decide +kernel
theorem dX0_writeBit_13 : decode cX0_writeBit 13 = .ok (.getfield 9, 3) := by decide +kernel
theorem dX0_writeBit_16 : decode cX0_writeBit 16 = .ok (.aload_n 0, 1) := by decide +kernel
theorem dX0_writeBit_17 : decode cX0_writeBit 17 = .ok (.getfield 15, 3) := by decide +kernel
theorem dX0_writeBit_20 : decode cX0_writeBit 20 = .ok (.iload_n 1, 1) := by decide +kernel
theorem dX0_writeBit_21 : decode cX0_writeBit 21 = .ok (.bastore, 1) := by decide +kernel
theorem dX0_writeBit_22 : decode cX0_writeBit 22 = .ok (.aload_n 0, 1) := by decide +kernel
theorem dX0_writeBit_23 : decode cX0_writeBit 23 = .ok (.dup, 1) := by decide +kernel
theorem dX0_writeBit_24 : decode cX0_writeBit 24 = .ok (.getfield 15, 3) := by decide +kernel
theorem dX0_writeBit_27 : decode cX0_writeBit 27 = .ok (.iconst 1, 1) := by decide +kernel
theorem dX0_writeBit_28 : decode cX0_writeBit 28 = .ok (.iadd, 1) := by decide +kernel
theorem dX0_writeBit_29 : decode cX0_writeBit 29 = .ok (.putfield 15, 3) := by decide +kernel
theorem dX0_writeBit_32 : decode cX0_writeBit 32 = .ok (.return_, 1) := by decide +kernel
theorem dX1_init_0 : decode cX1_init 0 = .ok (.aload_n 0, 1) := by decide +kernel
theorem dX1_init_1 : decode cX1_init 1 = .ok (.invokespecial 3, 3) := by decide +kernel
theorem dX1_init_4 : decode cX1_init 4 = .ok (.aload_n 0, 1) := by decide +kernel
theorem dX1_init_5 : decode cX1_init 5 = .ok (.bipush 80, 2) := by decide +kernel
theorem dX1_init_7 : decode cX1_init 7 = .ok (.newarray .char, 2) := by decide +kernel
theorem dX1_init_9 : decode cX1_init 9 = .ok (.putfield 9, 3) := by decide +kernel
theorem dX1_init_12 : decode cX1_init 12 = .ok (.aload_n 0, 1) := by decide +kernel
theorem dX1_init_13 : decode cX1_init 13 = .ok (.iconst 0, 1) := by decide +kernel
theorem dX1_init_14 : decode cX1_init 14 = .ok (.putfield 15, 3) := by decide +kernel
theorem dX1_init_17 : decode cX1_init 17 = .ok (.return_, 1) := by decide +kernel
theorem dX1_countSigns_0 : decode cX1_countSigns 0 = .ok (.lload_n 0, 1) := by decide +kernel
theorem dX1_countSigns_1 : decode cX1_countSigns 1 = .ok (.lstore_n 2, 1) := by decide +kernel
theorem dX1_countSigns_2 : decode cX1_countSigns 2 = .ok (.iconst 0, 1) := by decide +kernel
theorem dX1_countSigns_3 : decode cX1_countSigns 3 = .ok (.istore 4, 2) := by decide +kernel
theorem dX1_countSigns_5 : decode cX1_countSigns 5 = .ok (.iload 4, 2) := by decide +kernel
theorem dX1_countSigns_7 : decode cX1_countSigns 7 = .ok (.bipush 8, 2) := by decide +kernel
theorem dX1_countSigns_9 : decode cX1_countSigns 9 = .ok (.if_icmp .ge 50, 3) := by decide +kernel
theorem dX1_countSigns_12 : decode cX1_countSigns 12 = .ok (.lload_n 2, 1) := by decide +kernel
theorem dX1_countSigns_13 : decode cX1_countSigns 13 = .ok (.ldc2_w 19, 3) := by decide +kernel
theorem dX1_countSigns_16 : decode cX1_countSigns 16 = .ok (.land, 1) := by decide +kernel
theorem dX1_countSigns_17 : decode cX1_countSigns 17 = .ok (.lconst 0, 1) := by decide +kernel
theorem dX1_countSigns_18 : decode cX1_countSigns 18 = .ok (.lcmp, 1) := by decide +kernel
theorem dX1_countSigns_19 : decode cX1_countSigns 19 = .ok (.ifCond .eq 40, 3) := by decide +kernel
theorem dX1_countSigns_22 : decode cX1_countSigns 22 = .ok (.lload_n 2, 1) := by decide +kernel
theorem dX1_countSigns_23 : decode cX1_countSigns 23 = .ok (.ldc2_w 19, 3) := by decide +kernel
theorem dX1_countSigns_26 : decode cX1_countSigns 26 = .ok (.land, 1) := by decide +kernel
theorem dX1_countSigns_27 : decode cX1_countSigns 27 = .ok (.ldc2_w 21, 3) := by decide +kernel
theorem dX1_countSigns_30 : decode cX1_countSigns 30 = .ok (.lcmp, 1) := by decide +kernel
theorem dX1_countSigns_31 : decode cX1_countSigns 31 = .ok (.ifCond .lt 15, 3) := by decide +kernel
theorem dX1_countSigns_34 : decode cX1_countSigns 34 = .ok (.lload_n 2, 1) := by decide +kernel
theorem dX1_countSigns_35 : decode cX1_countSigns 35 = .ok (.ldc2_w 19, 3) := by decide +kernel
theorem dX1_countSigns_38 : decode cX1_countSigns 38 = .ok (.land, 1) := by decide +kernel
theorem dX1_countSigns_39 : decode cX1_countSigns 39 = .ok (.ldc2_w 23, 3) := by decide +kernel
theorem dX1_countSigns_42 : decode cX1_countSigns 42 = .ok (.lcmp, 1) := by decide +kernel
theorem dX1_countSigns_43 : decode cX1_countSigns 43 = .ok (.ifCond .le 5, 3) := by decide +kernel
theorem dX1_countSigns_46 : decode cX1_countSigns 46 = .ok (.iconst 0, 1) := by decide +kernel
theorem dX1_countSigns_47 : decode cX1_countSigns 47 = .ok (.ireturn, 1) := by decide +kernel
theorem dX1_countSigns_48 : decode cX1_countSigns 48 = .ok (.lload_n 2, 1) := by decide +kernel
theorem dX1_countSigns_49 : decode cX1_countSigns 49 = .ok (.bipush 8, 2) := by decide +kernel
theorem dX1_countSigns_51 : decode cX1_countSigns 51 = .ok (.lushr, 1) := by decide +kernel
theorem dX1_countSigns_52 : decode cX1_countSigns 52 = .ok (.lstore_n 2, 1) := by decide +kernel
theorem dX1_countSigns_53 : decode cX1_countSigns 53 = .ok (.iinc 4 1, 3) := by decide +kernel
theorem dX1_countSigns_56 : decode cX1_countSigns 56 = .ok (.goto (-51), 3) := by decide +kernel
theorem dX1_countSigns_59 : decode cX1_countSigns 59 = .ok (.lload_n 2, 1) := by decide +kernel
theorem dX1_countSigns_60 : decode cX1_countSigns 60 = .ok (.lconst 0, 1) := by decide +kernel
theorem dX1_countSigns_61 : decode cX1_countSigns 61 = .ok (.lcmp, 1) := by decide +kernel
theorem dX1_countSigns_62 : decode cX1_countSigns 62 = .ok (.ifCond .ne 8, 3) := by decide +kernel
theorem dX1_countSigns_65 : decode cX1_countSigns 65 = .ok (.iload 4, 2) := by decide +kernel
theorem dX1_countSigns_67 : decode cX1_countSigns 67 = .ok (.goto 4, 3) := by decide +kernel
theorem dX1_countSigns_70 : decode cX1_countSigns 70 = .ok (.iconst 0, 1) := by decide +kernel
theorem dX1_countSigns_71 : decode cX1_countSigns 71 = .ok (.ireturn, 1) := by decide +kernel
theorem dX1_add_0 : decode cX1_add 0 = .ok (.iload_n 3, 1) := by decide +kernel
theorem dX1_add_1 : decode cX1_add 1 = .ok (.iconst 1, 1) := by decide +kernel
theorem dX1_add_2 : decode cX1_add 2 = .ok (.isub, 1) := by decide +kernel
theorem dX1_add_3 : decode cX1_add 3 = .ok (.istore 4, 2) := by decide +kernel
theorem dX1_add_5 : decode cX1_add 5 = .ok (.iload 4, 2) := by decide +kernel
theorem dX1_add_7 : decode cX1_add 7 = .ok (.ifCond .lt 50, 3) := by decide +kernel
theorem dX1_add_10 : decode cX1_add 10 = .ok (.aload_n 0, 1) := by decide +kernel
theorem dX1_add_11 : decode cX1_add 11 = .ok (.getfield 15, 3) := by decide +kernel
theorem dX1_add_14 : decode cX1_add 14 = .ok (.bipush 80, 2) := by decide +kernel
theorem dX1_add_16 : decode cX1_add 16 = .ok (.if_icmp .ge 35, 3) := by decide +kernel
theorem dX1_add_19 : decode cX1_add 19 = .ok (.aload_n 0, 1) := by decide +kernel
theorem dX1_add_20 : decode cX1_add 20 = .ok (.getfield 9, 3) := by decide +kernel
theorem dX1_add_23 : decode cX1_add 23 = .ok (.aload_n 0, 1) := by decide +kernel
theorem dX1_add_24 : decode cX1_add 24 = .ok (.getfield 15, 3) := by decide +kernel
theorem dX1_add_27 : decode cX1_add 27 = .ok (.lload_n 1, 1) := by decide +kernel
theorem dX1_add_28 : decode cX1_add 28 = .ok (.bipush 8, 2) := by decide +kernel
theorem dX1_add_30 : decode cX1_add 30 = .ok (.iload 4, 2) := by decide +kernel
theorem dX1_add_32 : decode cX1_add 32 = .ok (.imul, 1) := by decide +kernel
theorem dX1_add_33 : decode cX1_add 33 = .ok (.lushr, 1) := by decide +kernel
theorem dX1_add_34 : decode cX1_add 34 = .ok (.ldc2_w 19, 3) := by decide +kernel
theorem dX1_add_37 : decode cX1_add 37 = .ok (.land, 1) := by decide +kernel
theorem dX1_add_38 : decode cX1_add 38 = .ok (.l2i, 1) := by decide +kernel
theorem dX1_add_39 : decode cX1_add 39 = .ok (.i2c, 1) := by decide +kernel
theorem dX1_add_40 : decode cX1_add 40 = .ok (.castore, 1) := by decide +kernel
theorem dX1_add_41 : decode cX1_add 41 = .ok (.aload_n 0, 1) := by decide +kernel
theorem dX1_add_42 : decode cX1_add 42 = .ok (.dup, 1) := by decide +kernel
theorem dX1_add_43 : decode cX1_add 43 = .ok (.getfield 15, 3) := by decide +kernel
theorem dX1_add_46 : decode cX1_add 46 = .ok (.iconst 1, 1) := by decide +kernel
theorem dX1_add_47 : decode cX1_add 47 = .ok (.iadd, 1) := by decide +kernel
theorem dX1_add_48 : decode cX1_add 48 = .ok (.putfield 15, 3) := by decide +kernel
theorem dX1_add_51 : decode cX1_add 51 = .ok (.iinc 4 (-1), 3) := by decide +kernel
theorem dX1_add_54 : decode cX1_add 54 = .ok (.goto (-49), 3) := by decide +kernel
theorem dX1_add_57 : decode cX1_add 57 = .ok (.return_, 1) := by decide +kernel
theorem dX1_signAt_0 : decode cX1_signAt 0 = .ok (.iload_n 1, 1) := by decide +kernel
theorem dX1_signAt_1 : decode cX1_signAt 1 = .ok (.ifCond .lt 17, 3) := by decide +kernel
theorem dX1_signAt_4 : decode cX1_signAt 4 = .ok (.iload_n 1, 1) := by decide +kernel
theorem dX1_signAt_5 : decode cX1_signAt 5 = .ok (.aload_n 0, 1) := by decide +kernel
theorem dX1_signAt_6 : decode cX1_signAt 6 = .ok (.getfield 15, 3) := by decide +kernel
theorem dX1_signAt_9 : decode cX1_signAt 9 = .ok (.if_icmp .ge 9, 3) := by decide +kernel
theorem dX1_signAt_12 : decode cX1_signAt 12 = .ok (.iload_n 1, 1) := by decide +kernel
theorem dX1_signAt_13 : decode cX1_signAt 13 = .ok (.bipush 80, 2) := by decide +kernel
theorem dX1_signAt_15 : decode cX1_signAt 15 = .ok (.if_icmp .lt 8, 3) := by decide +kernel
theorem dX1_signAt_18 : decode cX1_signAt 18 = .ok (.bipush 59, 2) := by decide +kernel
theorem dX1_signAt_20 : decode cX1_signAt 20 = .ok (.goto 9, 3) := by decide +kernel
theorem dX1_signAt_23 : decode cX1_signAt 23 = .ok (.aload_n 0, 1) := by decide +kernel
theorem dX1_signAt_24 : decode cX1_signAt 24 = .ok (.getfield 9, 3) := by decide +kernel
theorem dX1_signAt_27 : decode cX1_signAt 27 = .ok (.iload_n 1, 1) := by decide +kernel
theorem dX1_signAt_28 : decode cX1_signAt 28 = .ok (.caload, 1) := by decide +kernel
theorem dX1_signAt_29 : decode cX1_signAt 29 = .ok (.ireturn, 1) := by decide +kernel
set_option maxRecDepth 20000 in
theorem ggX1_firstError_X1_signAt : GoodIn wsX1_firstError wsX1_signAt := goodIn_r _ [6, 1, 7, 17, 18] (by decide +kernel) (by decide +kernel)
set_option maxRecDepth 20000 in
theorem gX1_firstError_X1_signAt : GoodIn wsX1_firstError (wsV RX1 25 RX1 yX1_signAt wsX1_signAt) := goodIn_app (goodIn_of _ (by decide +kernel)) ggX1_firstError_X1_signAt
set_option maxRecDepth 20000 in
theorem ggX1_firstError_X1_dueAfter : GoodIn wsX1_firstError wsX1_dueAfter := goodIn_r _ [10, 11, 12, 5, 13, 14, 15, 16] (by decide +kernel) (by decide +kernel)
set_option maxRecDepth 20000 in
theorem gX1_firstError_X1_dueAfter : GoodIn wsX1_firstError (va_wsS RX1 29 yX1_dueAfter wsX1_dueAfter) := goodIn_app (goodIn_of _ (by decide +kernel)) ggX1_firstError_X1_dueAfter
theorem dX1_firstError_0 : decode cX1_firstError 0 = .ok (.iconst 0, 1) := by decide +kernel
theorem dX1_firstError_1 : decode cX1_firstError 1 = .ok (.istore_n 1, 1) := by decide +kernel
theorem dX1_firstError_2 : decode cX1_firstError 2 = .ok (.iconst 0, 1) := by decide +kernel
theorem dX1_firstError_3 : decode cX1_firstError 3 = .ok (.istore_n 2, 1) := by decide +kernel
theorem dX1_firstError_4 : decode cX1_firstError 4 = .ok (.iload_n 2, 1) := by decide +kernel
theorem dX1_firstError_5 : decode cX1_firstError 5 = .ok (.aload_n 0, 1) := by decide +kernel
theorem dX1_firstError_6 : decode cX1_firstError 6 = .ok (.getfield 15, 3) := by decide +kernel
theorem dX1_firstError_9 : decode cX1_firstError 9 = .ok (.if_icmp .ge 26, 3) := by decide +kernel
theorem dX1_firstError_12 : decode cX1_firstError 12 = .ok (.iload_n 1, 1) := by decide +kernel
theorem dX1_firstError_13 : decode cX1_firstError 13 = .ok (.aload_n 0, 1) := by decide +kernel
theorem dX1_firstError_14 : decode cX1_firstError 14 = .ok (.iload_n 2, 1) := by decide +kernel
theorem dX1_firstError_15 : decode cX1_firstError 15 = .ok (.invokevirtual 25, 3) := by decide +kernel
theorem dX1_firstError_18 : decode cX1_firstError 18 = .ok (.invokestatic 29, 3) := by decide +kernel
theorem dX1_firstError_21 : decode cX1_firstError 21 = .ok (.istore_n 1, 1) := by decide +kernel
theorem dX1_firstError_22 : decode cX1_firstError 22 = .ok (.iload_n 1, 1) := by decide +kernel
theorem dX1_firstError_23 : decode cX1_firstError 23 = .ok (.iconst (-1), 1) := by decide +kernel
theorem dX1_firstError_24 : decode cX1_firstError 24 = .ok (.if_icmp .ne 5, 3) := by decide +kernel
theorem dX1_firstError_27 : decode cX1_firstError 27 = .ok (.iload_n 2, 1) := by decide +kernel
theorem dX1_firstError_28 : decode cX1_firstError 28 = .ok (.ireturn, 1) := by decide +kernel
theorem dX1_firstError_29 : decode cX1_firstError 29 = .ok (.iinc 2 1, 3) := by decide +kernel
theorem dX1_firstError_32 : decode cX1_firstError 32 = .ok (.goto (-28), 3) := by decide +kernel
theorem dX1_firstError_35 : decode cX1_firstError 35 = .ok (.iload_n 1, 1) := by decide +kernel
theorem dX1_firstError_36 : decode cX1_firstError 36 = .ok (.iconst 5, 1) := by decide +kernel
theorem dX1_firstError_37 : decode cX1_firstError 37 = .ok (.if_icmp .eq 9, 3) := by decide +kernel
theorem dX1_firstError_40 : decode cX1_firstError 40 = .ok (.iload_n 1, 1) := by decide +kernel
theorem dX1_firstError_41 : decode cX1_firstError 41 = .ok (.bipush 6, 2) := by decide +kernel
theorem dX1_firstError_43 : decode cX1_firstError 43 = .ok (.if_icmp .ne 7, 3) := by decide +kernel
theorem dX1_firstError_46 : decode cX1_firstError 46 = .ok (.iconst (-1), 1) := by decide +kernel
theorem dX1_firstError_47 : decode cX1_firstError 47 = .ok (.goto 7, 3) := by decide +kernel
theorem dX1_firstError_50 : decode cX1_firstError 50 = .ok (.aload_n 0, 1) := by decide +kernel
theorem dX1_firstError_51 : decode cX1_firstError 51 = .ok (.getfield 15, 3) := by decide +kernel
theorem dX1_firstError_54 : decode cX1_firstError 54 = .ok (.ireturn, 1) := by decide +kernel
set_option maxRecDepth 20000 in
theorem ggX1_dueAfter_X1_isShortCommand : GoodIn wsX1_dueAfter wsX1_isShortCommand := goodIn_r _ [4] (by decide +kernel) (by decide +kernel)
set_option maxRecDepth 20000 in
theorem gX1_dueAfter_X1_isShortCommand : GoodIn wsX1_dueAfter (va_wsS RX1 33 yX1_isShortCommand wsX1_isShortCommand) := goodIn_app (goodIn_of _ (by decide +kernel)) ggX1_dueAfter_X1_isShortCommand
set_option maxRecDepth 20000 in
theorem ggX1_dueAfter_X1_isDigit : GoodIn wsX1_dueAfter wsX1_isDigit := goodIn_r _ [7] (by decide +kernel) (by decide +kernel)
set_option maxRecDepth 20000 in
theorem gX1_dueAfter_X1_isDigit : GoodIn wsX1_dueAfter (va_wsS RX1 37 yX1_isDigit wsX1_isDigit) := goodIn_app (goodIn_of _ (by decide +kernel)) ggX1_dueAfter_X1_isDigit
theorem dX1_dueAfter_0 : decode cX1_dueAfter 0 = .ok (.iload_n 0, 1) := by decide +kernel
theorem dX1_dueAfter_1 : decode cX1_dueAfter 1 = .ok (.tableswitch 169 0 5 #[39, 63, 86, 109, 121, 145], 39) := by decide +kernel
theorem dX1_dueAfter_40 : decode cX1_dueAfter 40 = .ok (.iload_n 1, 1) := by decide +kernel
theorem dX1_dueAfter_41 : decode cX1_dueAfter 41 = .ok (.bipush 112, 2) := by decide +kernel
theorem dX1_dueAfter_43 : decode cX1_dueAfter 43 = .ok (.if_icmp .ne 7, 3) := by decide +kernel
theorem dX1_dueAfter_46 : decode cX1_dueAfter 46 = .ok (.iconst 1, 1) := by decide +kernel
theorem dX1_dueAfter_47 : decode cX1_dueAfter 47 = .ok (.goto 16, 3) := by decide +kernel
theorem dX1_dueAfter_50 : decode cX1_dueAfter 50 = .ok (.iload_n 1, 1) := by decide +kernel
theorem dX1_dueAfter_51 : decode cX1_dueAfter 51 = .ok (.invokestatic 33, 3) := by decide +kernel
theorem dX1_dueAfter_54 : decode cX1_dueAfter 54 = .ok (.ifCond .eq 8, 3) := by decide +kernel
theorem dX1_dueAfter_57 : decode cX1_dueAfter 57 = .ok (.bipush 6, 2) := by decide +kernel
theorem dX1_dueAfter_59 : decode cX1_dueAfter 59 = .ok (.goto 4, 3) := by decide +kernel
theorem dX1_dueAfter_62 : decode cX1_dueAfter 62 = .ok (.iconst (-1), 1) := by decide +kernel
theorem dX1_dueAfter_63 : decode cX1_dueAfter 63 = .ok (.ireturn, 1) := by decide +kernel
theorem dX1_dueAfter_64 : decode cX1_dueAfter 64 = .ok (.iload_n 1, 1) := by decide +kernel
theorem dX1_dueAfter_65 : decode cX1_dueAfter 65 = .ok (.bipush 48, 2) := by decide +kernel
theorem dX1_dueAfter_67 : decode cX1_dueAfter 67 = .ok (.if_icmp .ne 7, 3) := by decide +kernel
theorem dX1_dueAfter_70 : decode cX1_dueAfter 70 = .ok (.iconst 3, 1) := by decide +kernel
theorem dX1_dueAfter_71 : decode cX1_dueAfter 71 = .ok (.goto 15, 3) := by decide +kernel
theorem dX1_dueAfter_74 : decode cX1_dueAfter 74 = .ok (.iload_n 1, 1) := by decide +kernel
theorem dX1_dueAfter_75 : decode cX1_dueAfter 75 = .ok (.invokestatic 37, 3) := by decide +kernel
theorem dX1_dueAfter_78 : decode cX1_dueAfter 78 = .ok (.ifCond .eq 7, 3) := by decide +kernel
theorem dX1_dueAfter_81 : decode cX1_dueAfter 81 = .ok (.iconst 2, 1) := by decide +kernel
theorem dX1_dueAfter_82 : decode cX1_dueAfter 82 = .ok (.goto 4, 3) := by decide +kernel
theorem dX1_dueAfter_85 : decode cX1_dueAfter 85 = .ok (.iconst (-1), 1) := by decide +kernel
theorem dX1_dueAfter_86 : decode cX1_dueAfter 86 = .ok (.ireturn, 1) := by decide +kernel
theorem dX1_dueAfter_87 : decode cX1_dueAfter 87 = .ok (.iload_n 1, 1) := by decide +kernel
theorem dX1_dueAfter_88 : decode cX1_dueAfter 88 = .ok (.invokestatic 37, 3) := by decide +kernel
theorem dX1_dueAfter_91 : decode cX1_dueAfter 91 = .ok (.ifCond .eq 7, 3) := by decide +kernel
theorem dX1_dueAfter_94 : decode cX1_dueAfter 94 = .ok (.iconst 3, 1) := by decide +kernel
theorem dX1_dueAfter_95 : decode cX1_dueAfter 95 = .ok (.goto 14, 3) := by decide +kernel
theorem dX1_dueAfter_98 : decode cX1_dueAfter 98 = .ok (.iload_n 1, 1) := by decide +kernel
theorem dX1_dueAfter_99 : decode cX1_dueAfter 99 = .ok (.bipush 61, 2) := by decide +kernel
theorem dX1_dueAfter_101 : decode cX1_dueAfter 101 = .ok (.if_icmp .ne 7, 3) := by decide +kernel
theorem dX1_dueAfter_104 : decode cX1_dueAfter 104 = .ok (.iconst 4, 1) := by decide +kernel
theorem dX1_dueAfter_105 : decode cX1_dueAfter 105 = .ok (.goto 4, 3) := by decide +kernel
theorem dX1_dueAfter_108 : decode cX1_dueAfter 108 = .ok (.iconst (-1), 1) := by decide +kernel
theorem dX1_dueAfter_109 : decode cX1_dueAfter 109 = .ok (.ireturn, 1) := by decide +kernel
theorem dX1_dueAfter_110 : decode cX1_dueAfter 110 = .ok (.iload_n 1, 1) := by decide +kernel
theorem dX1_dueAfter_111 : decode cX1_dueAfter 111 = .ok (.bipush 61, 2) := by decide +kernel
theorem dX1_dueAfter_113 : decode cX1_dueAfter 113 = .ok (.if_icmp .ne 7, 3) := by decide +kernel
theorem dX1_dueAfter_116 : decode cX1_dueAfter 116 = .ok (.iconst 4, 1) := by decide +kernel
theorem dX1_dueAfter_117 : decode cX1_dueAfter 117 = .ok (.goto 4, 3) := by decide +kernel
theorem dX1_dueAfter_120 : decode cX1_dueAfter 120 = .ok (.iconst (-1), 1) := by decide +kernel
theorem dX1_dueAfter_121 : decode cX1_dueAfter 121 = .ok (.ireturn, 1) := by decide +kernel
theorem dX1_dueAfter_122 : decode cX1_dueAfter 122 = .ok (.iload_n 1, 1) := by decide +kernel
theorem dX1_dueAfter_123 : decode cX1_dueAfter 123 = .ok (.bipush 48, 2) := by decide +kernel
theorem dX1_dueAfter_125 : decode cX1_dueAfter 125 = .ok (.if_icmp .ne 8, 3) := by decide +kernel
theorem dX1_dueAfter_128 : decode cX1_dueAfter 128 = .ok (.bipush 6, 2) := by decide +kernel
theorem dX1_dueAfter_130 : decode cX1_dueAfter 130 = .ok (.goto 15, 3) := by decide +kernel
theorem dX1_dueAfter_133 : decode cX1_dueAfter 133 = .ok (.iload_n 1, 1) := by decide +kernel
theorem dX1_dueAfter_134 : decode cX1_dueAfter 134 = .ok (.invokestatic 37, 3) := by decide +kernel
theorem dX1_dueAfter_137 : decode cX1_dueAfter 137 = .ok (.ifCond .eq 7, 3) := by decide +kernel
theorem dX1_dueAfter_140 : decode cX1_dueAfter 140 = .ok (.iconst 5, 1) := by decide +kernel
theorem dX1_dueAfter_141 : decode cX1_dueAfter 141 = .ok (.goto 4, 3) := by decide +kernel
theorem dX1_dueAfter_144 : decode cX1_dueAfter 144 = .ok (.iconst (-1), 1) := by decide +kernel
theorem dX1_dueAfter_145 : decode cX1_dueAfter 145 = .ok (.ireturn, 1) := by decide +kernel
theorem dX1_dueAfter_146 : decode cX1_dueAfter 146 = .ok (.iload_n 1, 1) := by decide +kernel
theorem dX1_dueAfter_147 : decode cX1_dueAfter 147 = .ok (.invokestatic 37, 3) := by decide +kernel
theorem dX1_dueAfter_150 : decode cX1_dueAfter 150 = .ok (.ifCond .eq 8, 3) := by decide +kernel
theorem dX1_dueAfter_153 : decode cX1_dueAfter 153 = .ok (.bipush 6, 2) := by decide +kernel
theorem dX1_dueAfter_155 : decode cX1_dueAfter 155 = .ok (.goto 14, 3) := by decide +kernel
theorem dX1_dueAfter_158 : decode cX1_dueAfter 158 = .ok (.iload_n 1, 1) := by decide +kernel
theorem dX1_dueAfter_159 : decode cX1_dueAfter 159 = .ok (.bipush 59, 2) := by decide +kernel
theorem dX1_dueAfter_161 : decode cX1_dueAfter 161 = .ok (.if_icmp .ne 7, 3) := by decide +kernel
theorem dX1_dueAfter_164 : decode cX1_dueAfter 164 = .ok (.iconst 0, 1) := by decide +kernel
theorem dX1_dueAfter_165 : decode cX1_dueAfter 165 = .ok (.goto 4, 3) := by decide +kernel
theorem dX1_dueAfter_168 : decode cX1_dueAfter 168 = .ok (.iconst (-1), 1) := by decide +kernel
theorem dX1_dueAfter_169 : decode cX1_dueAfter 169 = .ok (.ireturn, 1) := by decide +kernel
theorem dX1_dueAfter_170 : decode cX1_dueAfter 170 = .ok (.iload_n 1, 1) := by decide +kernel
theorem dX1_dueAfter_171 : decode cX1_dueAfter 171 = .ok (.bipush 59, 2) := by decide +kernel
theorem dX1_dueAfter_173 : decode cX1_dueAfter 173 = .ok (.if_icmp .ne 7, 3) := by decide +kernel
theorem dX1_dueAfter_176 : decode cX1_dueAfter 176 = .ok (.iconst 0, 1) := by decide +kernel
theorem dX1_dueAfter_177 : decode cX1_dueAfter 177 = .ok (.goto 4, 3) := by decide +kernel
theorem dX1_dueAfter_180 : decode cX1_dueAfter 180 = .ok (.iconst (-1), 1) := by decide +kernel
theorem dX1_dueAfter_181 : decode cX1_dueAfter 181 = .ok (.ireturn, 1) := by decide +kernel
theorem dX1_isShortCommand_0 : decode cX1_isShortCommand 0 = .ok (.iload_n 0, 1) := by decide +kernel
theorem dX1_isShortCommand_1 : decode cX1_isShortCommand 1 = .ok (.bipush 117, 2) := by decide +kernel
theorem dX1_isShortCommand_3 : decode cX1_isShortCommand 3 = .ok (.if_icmp .eq 33, 3) := by decide +kernel
theorem dX1_isShortCommand_6 : decode cX1_isShortCommand 6 = .ok (.iload_n 0, 1) := by decide +kernel
theorem dX1_isShortCommand_7 : decode cX1_isShortCommand 7 = .ok (.bipush 100, 2) := by decide +kernel
theorem dX1_isShortCommand_9 : decode cX1_isShortCommand 9 = .ok (.if_icmp .eq 27, 3) := by decide +kernel
theorem dX1_isShortCommand_12 : decode cX1_isShortCommand 12 = .ok (.iload_n 0, 1) := by decide +kernel
theorem dX1_isShortCommand_13 : decode cX1_isShortCommand 13 = .ok (.bipush 108, 2) := by decide +kernel
theorem dX1_isShortCommand_15 : decode cX1_isShortCommand 15 = .ok (.if_icmp .eq 21, 3) := by decide +kernel
theorem dX1_isShortCommand_18 : decode cX1_isShortCommand 18 = .ok (.iload_n 0, 1) := by decide +kernel
theorem dX1_isShortCommand_19 : decode cX1_isShortCommand 19 = .ok (.bipush 114, 2) := by decide +kernel
theorem dX1_isShortCommand_21 : decode cX1_isShortCommand 21 = .ok (.if_icmp .eq 15, 3) := by decide +kernel
theorem dX1_isShortCommand_24 : decode cX1_isShortCommand 24 = .ok (.iload_n 0, 1) := by decide +kernel
theorem dX1_isShortCommand_25 : decode cX1_isShortCommand 25 = .ok (.bipush 115, 2) := by decide +kernel
theorem dX1_isShortCommand_27 : decode cX1_isShortCommand 27 = .ok (.if_icmp .eq 9, 3) := by decide +kernel
theorem dX1_isShortCommand_30 : decode cX1_isShortCommand 30 = .ok (.iload_n 0, 1) := by decide +kernel
theorem dX1_isShortCommand_31 : decode cX1_isShortCommand 31 = .ok (.bipush 120, 2) := by decide +kernel
theorem dX1_isShortCommand_33 : decode cX1_isShortCommand 33 = .ok (.if_icmp .ne 7, 3) := by decide +kernel
theorem dX1_isShortCommand_36 : decode cX1_isShortCommand 36 = .ok (.iconst 1, 1) := by decide +kernel
theorem dX1_isShortCommand_37 : decode cX1_isShortCommand 37 = .ok (.goto 4, 3) := by decide +kernel
theorem dX1_isShortCommand_40 : decode cX1_isShortCommand 40 = .ok (.iconst 0, 1) := by decide +kernel
theorem dX1_isShortCommand_41 : decode cX1_isShortCommand 41 = .ok (.ireturn, 1) := by decide +kernel
theorem dX1_isDigit_0 : decode cX1_isDigit 0 = .ok (.iload_n 0, 1) := by decide +kernel
theorem dX1_isDigit_1 : decode cX1_isDigit 1 = .ok (.bipush 48, 2) := by decide +kernel
theorem dX1_isDigit_3 : decode cX1_isDigit 3 = .ok (.if_icmp .lt 13, 3) := by decide +kernel
theorem dX1_isDigit_6 : decode cX1_isDigit 6 = .ok (.iload_n 0, 1) := by decide +kernel
theorem dX1_isDigit_7 : decode cX1_isDigit 7 = .ok (.bipush 57, 2) := by decide +kernel
theorem dX1_isDigit_9 : decode cX1_isDigit 9 = .ok (.if_icmp .gt 7, 3) := by decide +kernel
theorem dX1_isDigit_12 : decode cX1_isDigit 12 = .ok (.iconst 1, 1) := by decide +kernel
theorem dX1_isDigit_13 : decode cX1_isDigit 13 = .ok (.goto 4, 3) := by decide +kernel
theorem dX1_isDigit_16 : decode cX1_isDigit 16 = .ok (.iconst 0, 1) := by decide +kernel
theorem dX1_isDigit_17 : decode cX1_isDigit 17 = .ok (.ireturn, 1) := by decide +kernel
set_option maxRecDepth 20000 in
theorem ggX1_startsCommand_X1_signAt : GoodIn wsX1_startsCommand wsX1_signAt := goodIn_r _ [5, 6, 7, 8, 9] (by decide +kernel) (by decide +kernel)
set_option maxRecDepth 20000 in
theorem gX1_startsCommand_X1_signAt : GoodIn wsX1_startsCommand (wsV RX1 25 RX1 yX1_signAt wsX1_signAt) := goodIn_app (goodIn_of _ (by decide +kernel)) ggX1_startsCommand_X1_signAt
theorem dX1_startsCommand_0 : decode cX1_startsCommand 0 = .ok (.iload_n 1, 1) := by decide +kernel
theorem dX1_startsCommand_1 : decode cX1_startsCommand 1 = .ok (.ifCond .eq 15, 3) := by decide +kernel
theorem dX1_startsCommand_4 : decode cX1_startsCommand 4 = .ok (.aload_n 0, 1) := by decide +kernel
theorem dX1_startsCommand_5 : decode cX1_startsCommand 5 = .ok (.iload_n 1, 1) := by decide +kernel
theorem dX1_startsCommand_6 : decode cX1_startsCommand 6 = .ok (.iconst 1, 1) := by decide +kernel
theorem dX1_startsCommand_7 : decode cX1_startsCommand 7 = .ok (.isub, 1) := by decide +kernel
theorem dX1_startsCommand_8 : decode cX1_startsCommand 8 = .ok (.invokevirtual 25, 3) := by decide +kernel
theorem dX1_startsCommand_11 : decode cX1_startsCommand 11 = .ok (.bipush 59, 2) := by decide +kernel
theorem dX1_startsCommand_13 : decode cX1_startsCommand 13 = .ok (.if_icmp .ne 7, 3) := by decide +kernel
theorem dX1_startsCommand_16 : decode cX1_startsCommand 16 = .ok (.iconst 1, 1) := by decide +kernel
theorem dX1_startsCommand_17 : decode cX1_startsCommand 17 = .ok (.goto 4, 3) := by decide +kernel
theorem dX1_startsCommand_20 : decode cX1_startsCommand 20 = .ok (.iconst 0, 1) := by decide +kernel
theorem dX1_startsCommand_21 : decode cX1_startsCommand 21 = .ok (.ireturn, 1) := by decide +kernel
set_option maxRecDepth 20000 in
theorem ggX1_afterNumber_X1_signAt : GoodIn wsX1_afterNumber wsX1_signAt := goodIn_r _ [6, 1, 7, 11, 12] (by decide +kernel) (by decide +kernel)
set_option maxRecDepth 20000 in
theorem gX1_afterNumber_X1_signAt : GoodIn wsX1_afterNumber (wsV RX1 25 RX1 yX1_signAt wsX1_signAt) := goodIn_app (goodIn_of _ (by decide +kernel)) ggX1_afterNumber_X1_signAt
set_option maxRecDepth 20000 in
theorem ggX1_afterNumber_X1_isDigit : GoodIn wsX1_afterNumber wsX1_isDigit := goodIn_r _ [10] (by decide +kernel) (by decide +kernel)
set_option maxRecDepth 20000 in
theorem gX1_afterNumber_X1_isDigit : GoodIn wsX1_afterNumber (va_wsS RX1 37 yX1_isDigit wsX1_isDigit) := goodIn_app (goodIn_of _ (by decide +kernel)) ggX1_afterNumber_X1_isDigit
theorem dX1_afterNumber_0 : decode cX1_afterNumber 0 = .ok (.iload_n 1, 1) := by decide +kernel
theorem dX1_afterNumber_1 : decode cX1_afterNumber 1 = .ok (.istore_n 2, 1) := by decide +kernel
theorem dX1_afterNumber_2 : decode cX1_afterNumber 2 = .ok (.iload_n 2, 1) := by decide +kernel
theorem dX1_afterNumber_3 : decode cX1_afterNumber 3 = .ok (.aload_n 0, 1) := by decide +kernel
theorem dX1_afterNumber_4 : decode cX1_afterNumber 4 = .ok (.getfield 15, 3) := by decide +kernel
theorem dX1_afterNumber_7 : decode cX1_afterNumber 7 = .ok (.if_icmp .ge 20, 3) := by decide +kernel
theorem dX1_afterNumber_10 : decode cX1_afterNumber 10 = .ok (.aload_n 0, 1) := by decide +kernel
theorem dX1_afterNumber_11 : decode cX1_afterNumber 11 = .ok (.iload_n 2, 1) := by decide +kernel
theorem dX1_afterNumber_12 : decode cX1_afterNumber 12 = .ok (.invokevirtual 25, 3) := by decide +kernel
theorem dX1_afterNumber_15 : decode cX1_afterNumber 15 = .ok (.invokestatic 37, 3) := by decide +kernel
theorem dX1_afterNumber_18 : decode cX1_afterNumber 18 = .ok (.ifCond .eq 9, 3) := by decide +kernel
theorem dX1_afterNumber_21 : decode cX1_afterNumber 21 = .ok (.iinc 2 1, 3) := by decide +kernel
theorem dX1_afterNumber_24 : decode cX1_afterNumber 24 = .ok (.goto (-22), 3) := by decide +kernel
theorem dX1_afterNumber_27 : decode cX1_afterNumber 27 = .ok (.iload_n 2, 1) := by decide +kernel
theorem dX1_afterNumber_28 : decode cX1_afterNumber 28 = .ok (.ireturn, 1) := by decide +kernel
set_option maxRecDepth 20000 in
theorem ggX1_numberFrom_X1_afterNumber : GoodIn wsX1_numberFrom wsX1_afterNumber := goodIn_r _ [5, 6, 7, 8, 9, 4, 10, 11, 12, 13, 14, 15, 16] (by decide +kernel) (by decide +kernel)
set_option maxRecDepth 20000 in
theorem gX1_numberFrom_X1_afterNumber : GoodIn wsX1_numberFrom (wsV RX1 40 RX1 yX1_afterNumber wsX1_afterNumber) := goodIn_app (goodIn_of _ (by decide +kernel)) ggX1_numberFrom_X1_afterNumber
set_option maxRecDepth 20000 in
theorem ggX1_numberFrom_X1_signAt : GoodIn wsX1_numberFrom wsX1_signAt := goodIn_r _ [10, 6, 11, 15, 16] (by decide +kernel) (by decide +kernel)
set_option maxRecDepth 20000 in
theorem gX1_numberFrom_X1_signAt : GoodIn wsX1_numberFrom (wsV RX1 25 RX1 yX1_signAt wsX1_signAt) := goodIn_app (goodIn_of _ (by decide +kernel)) ggX1_numberFrom_X1_signAt
theorem dX1_numberFrom_0 : decode cX1_numberFrom 0 = .ok (.aload_n 0, 1) := by decide +kernel
theorem dX1_numberFrom_1 : decode cX1_numberFrom 1 = .ok (.iload_n 1, 1) := by decide +kernel
theorem dX1_numberFrom_2 : decode cX1_numberFrom 2 = .ok (.invokevirtual 40, 3) := by decide +kernel
theorem dX1_numberFrom_5 : decode cX1_numberFrom 5 = .ok (.istore_n 2, 1) := by decide +kernel
theorem dX1_numberFrom_6 : decode cX1_numberFrom 6 = .ok (.iconst 0, 1) := by decide +kernel
theorem dX1_numberFrom_7 : decode cX1_numberFrom 7 = .ok (.istore_n 3, 1) := by decide +kernel
theorem dX1_numberFrom_8 : decode cX1_numberFrom 8 = .ok (.iload_n 1, 1) := by decide +kernel
theorem dX1_numberFrom_9 : decode cX1_numberFrom 9 = .ok (.istore 4, 2) := by decide +kernel
theorem dX1_numberFrom_11 : decode cX1_numberFrom 11 = .ok (.iload 4, 2) := by decide +kernel
theorem dX1_numberFrom_13 : decode cX1_numberFrom 13 = .ok (.iload_n 2, 1) := by decide +kernel
theorem dX1_numberFrom_14 : decode cX1_numberFrom 14 = .ok (.if_icmp .ge 24, 3) := by decide +kernel
theorem dX1_numberFrom_17 : decode cX1_numberFrom 17 = .ok (.bipush 10, 2) := by decide +kernel
theorem dX1_numberFrom_19 : decode cX1_numberFrom 19 = .ok (.iload_n 3, 1) := by decide +kernel
theorem dX1_numberFrom_20 : decode cX1_numberFrom 20 = .ok (.imul, 1) := by decide +kernel
theorem dX1_numberFrom_21 : decode cX1_numberFrom 21 = .ok (.aload_n 0, 1) := by decide +kernel
theorem dX1_numberFrom_22 : decode cX1_numberFrom 22 = .ok (.iload 4, 2) := by decide +kernel
theorem dX1_numberFrom_24 : decode cX1_numberFrom 24 = .ok (.invokevirtual 25, 3) := by decide +kernel
theorem dX1_numberFrom_27 : decode cX1_numberFrom 27 = .ok (.bipush 48, 2) := by decide +kernel
theorem dX1_numberFrom_29 : decode cX1_numberFrom 29 = .ok (.isub, 1) := by decide +kernel
theorem dX1_numberFrom_30 : decode cX1_numberFrom 30 = .ok (.iadd, 1) := by decide +kernel
theorem dX1_numberFrom_31 : decode cX1_numberFrom 31 = .ok (.istore_n 3, 1) := by decide +kernel
theorem dX1_numberFrom_32 : decode cX1_numberFrom 32 = .ok (.iinc 4 1, 3) := by decide +kernel
theorem dX1_numberFrom_35 : decode cX1_numberFrom 35 = .ok (.goto (-24), 3) := by decide +kernel
theorem dX1_numberFrom_38 : decode cX1_numberFrom 38 = .ok (.iload_n 3, 1) := by decide +kernel
theorem dX1_numberFrom_39 : decode cX1_numberFrom 39 = .ok (.ireturn, 1) := by decide +kernel
set_option maxRecDepth 20000 in
theorem ggX2_init_X7_init : GoodIn wsX2_init wsX7_init := goodIn_r _ [11, 12, 2, 3, 13, 14, 15, 16, 17, 18, 19, 20, 21, 22, 23, 24, 25, 26, 27, 28, 29, 30, 44, 34, 35, 36, 37, 38, 39, 40, 41, 42, 43] (by decide +kernel) (by decide +kernel)
set_option maxRecDepth 20000 in
theorem gX2_init_X7_init_n24 : GoodIn wsX2_init (wsX7_init) := ggX2_init_X7_init
theorem dX2_init_0 : decode cX2_init 0 = .ok (.aload_n 0, 1) := by decide +kernel
theorem dX2_init_1 : decode cX2_init 1 = .ok (.invokespecial 3, 3) := by decide +kernel
theorem dX2_init_4 : decode cX2_init 4 = .ok (.aload_n 0, 1) := by decide +kernel
theorem dX2_init_5 : decode cX2_init 5 = .ok (.bipush 6, 2) := by decide +kernel
theorem dX2_init_7 : decode cX2_init 7 = .ok (.anewarray 9, 3) := by decide +kernel
theorem dX2_init_10 : decode cX2_init 10 = .ok (.putfield 11, 3) := by decide +kernel
theorem dX2_init_13 : decode cX2_init 13 = .ok (.aload_n 0, 1) := by decide +kernel
theorem dX2_init_14 : decode cX2_init 14 = .ok (.iconst 0, 1) := by decide +kernel
theorem dX2_init_15 : decode cX2_init 15 = .ok (.putfield 17, 3) := by decide +kernel
theorem dX2_init_18 : decode cX2_init 18 = .ok (.aload_n 0, 1) := by decide +kernel
theorem dX2_init_19 : decode cX2_init 19 = .ok (.iconst 0, 1) := by decide +kernel
theorem dX2_init_20 : decode cX2_init 20 = .ok (.putfield 21, 3) := by decide +kernel
theorem dX2_init_23 : decode cX2_init 23 = .ok (.iconst 0, 1) := by decide +kernel
theorem dX2_init_24 : decode cX2_init 24 = .ok (.istore_n 1, 1) := by decide +kernel
theorem dX2_init_25 : decode cX2_init 25 = .ok (.iload_n 1, 1) := by decide +kernel
theorem dX2_init_26 : decode cX2_init 26 = .ok (.bipush 6, 2) := by decide +kernel
theorem dX2_init_28 : decode cX2_init 28 = .ok (.if_icmp .ge 22, 3) := by decide +kernel
theorem dX2_init_31 : decode cX2_init 31 = .ok (.aload_n 0, 1) := by decide +kernel
theorem dX2_init_32 : decode cX2_init 32 = .ok (.getfield 11, 3) := by decide +kernel
theorem dX2_init_35 : decode cX2_init 35 = .ok (.iload_n 1, 1) := by decide +kernel
theorem dX2_init_36 : decode cX2_init 36 = .ok (.new 9, 3) := by decide +kernel
theorem dX2_init_39 : decode cX2_init 39 = .ok (.dup, 1) := by decide +kernel
theorem dX2_init_40 : decode cX2_init 40 = .ok (.invokespecial 24, 3) := by decide +kernel
theorem dX2_init_43 : decode cX2_init 43 = .ok (.aastore, 1) := by decide +kernel
theorem dX2_init_44 : decode cX2_init 44 = .ok (.iinc 1 1, 3) := by decide +kernel
theorem dX2_init_47 : decode cX2_init 47 = .ok (.goto (-22), 3) := by decide +kernel
theorem dX2_init_50 : decode cX2_init 50 = .ok (.return_, 1) := by decide +kernel
theorem dX2_placeAt_0 : decode cX2_placeAt 0 = .ok (.iload_n 1, 1) := by decide +kernel
theorem dX2_placeAt_1 : decode cX2_placeAt 1 = .ok (.ifCond .lt 9, 3) := by decide +kernel
theorem dX2_placeAt_4 : decode cX2_placeAt 4 = .ok (.iload_n 1, 1) := by decide +kernel
theorem dX2_placeAt_5 : decode cX2_placeAt 5 = .ok (.bipush 6, 2) := by decide +kernel
theorem dX2_placeAt_7 : decode cX2_placeAt 7 = .ok (.if_icmp .lt 7, 3) := by decide +kernel
theorem dX2_placeAt_10 : decode cX2_placeAt 10 = .ok (.aconst_null, 1) := by decide +kernel
theorem dX2_placeAt_11 : decode cX2_placeAt 11 = .ok (.goto 9, 3) := by decide +kernel
theorem dX2_placeAt_14 : decode cX2_placeAt 14 = .ok (.aload_n 0, 1) := by decide +kernel
theorem dX2_placeAt_15 : decode cX2_placeAt 15 = .ok (.getfield 11, 3) := by decide +kernel
theorem dX2_placeAt_18 : decode cX2_placeAt 18 = .ok (.iload_n 1, 1) := by decide +kernel
theorem dX2_placeAt_19 : decode cX2_placeAt 19 = .ok (.aaload, 1) := by decide +kernel
theorem dX2_placeAt_20 : decode cX2_placeAt 20 = .ok (.areturn, 1) := by decide +kernel
set_option maxRecDepth 20000 in
theorem ggX2_record_X2_placeAt : GoodIn wsX2_record wsX2_placeAt := goodIn_r _ [11, 12, 37, 38, 39] (by decide +kernel) (by decide +kernel)
set_option maxRecDepth 20000 in
theorem gX2_record_X2_placeAt : GoodIn wsX2_record (wsV RX2 25 RX2 yX2_placeAt wsX2_placeAt) := goodIn_app (goodIn_of _ (by decide +kernel)) ggX2_record_X2_placeAt
set_option maxRecDepth 20000 in
theorem ggX2_record_X7_copyFrom : GoodIn wsX2_record wsX7_copyFrom := goodIn_r _ [16, 17, 18, 19, 20, 21, 22, 23, 24, 25, 26, 27, 28, 29, 30, 31, 32, 33, 34, 35, 36, 40, 41, 42, 43, 44, 45, 46, 47, 48, 49, 50] (by decide +kernel) (by decide +kernel)
set_option maxRecDepth 20000 in
theorem gX2_record_X7_copyFrom_n29 : GoodIn wsX2_record (wsX7_copyFrom) := ggX2_record_X7_copyFrom
theorem dX2_record_0 : decode cX2_record 0 = .ok (.aload_n 0, 1) := by decide +kernel
theorem dX2_record_1 : decode cX2_record 1 = .ok (.aload_n 0, 1) := by decide +kernel
theorem dX2_record_2 : decode cX2_record 2 = .ok (.getfield 17, 3) := by decide +kernel
theorem dX2_record_5 : decode cX2_record 5 = .ok (.invokevirtual 25, 3) := by decide +kernel
theorem dX2_record_8 : decode cX2_record 8 = .ok (.astore_n 2, 1) := by decide +kernel
theorem dX2_record_9 : decode cX2_record 9 = .ok (.aload_n 2, 1) := by decide +kernel
theorem dX2_record_10 : decode cX2_record 10 = .ok (.ifnull 8, 3) := by decide +kernel
theorem dX2_record_13 : decode cX2_record 13 = .ok (.aload_n 2, 1) := by decide +kernel
theorem dX2_record_14 : decode cX2_record 14 = .ok (.aload_n 1, 1) := by decide +kernel
theorem dX2_record_15 : decode cX2_record 15 = .ok (.invokevirtual 29, 3) := by decide +kernel
theorem dX2_record_18 : decode cX2_record 18 = .ok (.aload_n 0, 1) := by decide +kernel
theorem dX2_record_19 : decode cX2_record 19 = .ok (.aload_n 0, 1) := by decide +kernel
theorem dX2_record_20 : decode cX2_record 20 = .ok (.getfield 17, 3) := by decide +kernel
theorem dX2_record_23 : decode cX2_record 23 = .ok (.iconst 1, 1) := by decide +kernel
theorem dX2_record_24 : decode cX2_record 24 = .ok (.iadd, 1) := by decide +kernel
theorem dX2_record_25 : decode cX2_record 25 = .ok (.bipush 6, 2) := by decide +kernel
theorem dX2_record_27 : decode cX2_record 27 = .ok (.irem, 1) := by decide +kernel
theorem dX2_record_28 : decode cX2_record 28 = .ok (.putfield 17, 3) := by decide +kernel
theorem dX2_record_31 : decode cX2_record 31 = .ok (.aload_n 0, 1) := by decide +kernel
theorem dX2_record_32 : decode cX2_record 32 = .ok (.aload_n 0, 1) := by decide +kernel
theorem dX2_record_33 : decode cX2_record 33 = .ok (.getfield 21, 3) := by decide +kernel
theorem dX2_record_36 : decode cX2_record 36 = .ok (.iconst 1, 1) := by decide +kernel
theorem dX2_record_37 : decode cX2_record 37 = .ok (.iadd, 1) := by decide +kernel
theorem dX2_record_38 : decode cX2_record 38 = .ok (.bipush 6, 2) := by decide +kernel
theorem dX2_record_40 : decode cX2_record 40 = .ok (.invokestatic 33, 3) := by decide +kernel
theorem dX2_record_43 : decode cX2_record 43 = .ok (.putfield 21, 3) := by decide +kernel
theorem dX2_record_46 : decode cX2_record 46 = .ok (.return_, 1) := by decide +kernel
set_option maxRecDepth 20000 in
theorem ggX2_takeBack_X2_placeAt : GoodIn wsX2_takeBack wsX2_placeAt := goodIn_r _ [7, 8, 33, 34, 35] (by decide +kernel) (by decide +kernel)
set_option maxRecDepth 20000 in
theorem gX2_takeBack_X2_placeAt : GoodIn wsX2_takeBack (wsV RX2 25 RX2 yX2_placeAt wsX2_placeAt) := goodIn_app (goodIn_of _ (by decide +kernel)) ggX2_takeBack_X2_placeAt
set_option maxRecDepth 20000 in
theorem ggX2_takeBack_X7_copyFrom : GoodIn wsX2_takeBack wsX7_copyFrom := goodIn_r _ [12, 13, 14, 15, 16, 17, 18, 19, 20, 21, 22, 23, 24, 25, 26, 27, 28, 29, 30, 31, 32, 36, 37, 38, 39, 40, 41, 42, 43, 44, 45, 46] (by decide +kernel) (by decide +kernel)
set_option maxRecDepth 20000 in
theorem gX2_takeBack_X7_copyFrom_n29 : GoodIn wsX2_takeBack (wsX7_copyFrom) := ggX2_takeBack_X7_copyFrom
theorem dX2_takeBack_0 : decode cX2_takeBack 0 = .ok (.aload_n 0, 1) := by decide +kernel
theorem dX2_takeBack_1 : decode cX2_takeBack 1 = .ok (.aload_n 0, 1) := by decide +kernel
theorem dX2_takeBack_2 : decode cX2_takeBack 2 = .ok (.getfield 17, 3) := by decide +kernel
theorem dX2_takeBack_5 : decode cX2_takeBack 5 = .ok (.bipush 6, 2) := by decide +kernel
theorem dX2_takeBack_7 : decode cX2_takeBack 7 = .ok (.iadd, 1) := by decide +kernel
theorem dX2_takeBack_8 : decode cX2_takeBack 8 = .ok (.iconst 1, 1) := by decide +kernel
theorem dX2_takeBack_9 : decode cX2_takeBack 9 = .ok (.isub, 1) := by decide +kernel
theorem dX2_takeBack_10 : decode cX2_takeBack 10 = .ok (.bipush 6, 2) := by decide +kernel
theorem dX2_takeBack_12 : decode cX2_takeBack 12 = .ok (.irem, 1) := by decide +kernel
theorem dX2_takeBack_13 : decode cX2_takeBack 13 = .ok (.putfield 17, 3) := by decide +kernel
theorem dX2_takeBack_16 : decode cX2_takeBack 16 = .ok (.aload_n 0, 1) := by decide +kernel
theorem dX2_takeBack_17 : decode cX2_takeBack 17 = .ok (.dup, 1) := by decide +kernel
theorem dX2_takeBack_18 : decode cX2_takeBack 18 = .ok (.getfield 21, 3) := by decide +kernel
theorem dX2_takeBack_21 : decode cX2_takeBack 21 = .ok (.iconst 1, 1) := by decide +kernel
theorem dX2_takeBack_22 : decode cX2_takeBack 22 = .ok (.isub, 1) := by decide +kernel
theorem dX2_takeBack_23 : decode cX2_takeBack 23 = .ok (.putfield 21, 3) := by decide +kernel
theorem dX2_takeBack_26 : decode cX2_takeBack 26 = .ok (.aload_n 0, 1) := by decide +kernel
theorem dX2_takeBack_27 : decode cX2_takeBack 27 = .ok (.aload_n 0, 1) := by decide +kernel
theorem dX2_takeBack_28 : decode cX2_takeBack 28 = .ok (.getfield 17, 3) := by decide +kernel
theorem dX2_takeBack_31 : decode cX2_takeBack 31 = .ok (.invokevirtual 25, 3) := by decide +kernel
theorem dX2_takeBack_34 : decode cX2_takeBack 34 = .ok (.astore_n 2, 1) := by decide +kernel
theorem dX2_takeBack_35 : decode cX2_takeBack 35 = .ok (.aload_n 2, 1) := by decide +kernel
theorem dX2_takeBack_36 : decode cX2_takeBack 36 = .ok (.ifnull 8, 3) := by decide +kernel
theorem dX2_takeBack_39 : decode cX2_takeBack 39 = .ok (.aload_n 1, 1) := by decide +kernel
theorem dX2_takeBack_40 : decode cX2_takeBack 40 = .ok (.aload_n 2, 1) := by decide +kernel
theorem dX2_takeBack_41 : decode cX2_takeBack 41 = .ok (.invokevirtual 29, 3) := by decide +kernel
theorem dX2_takeBack_44 : decode cX2_takeBack 44 = .ok (.return_, 1) := by decide +kernel
set_option maxRecDepth 20000 in
theorem ggX3_distanceBy_X8_downOf : GoodIn wsX3_distanceBy wsX8_downOf := goodIn_r _ [7] (by decide +kernel) (by decide +kernel)
set_option maxRecDepth 20000 in
theorem gX3_distanceBy_X8_downOf_n9 : GoodIn wsX3_distanceBy (wsX8_downOf) := ggX3_distanceBy_X8_downOf
set_option maxRecDepth 20000 in
theorem ggX3_distanceBy_X8_rightOf : GoodIn wsX3_distanceBy wsX8_rightOf := goodIn_r _ [9] (by decide +kernel) (by decide +kernel)
set_option maxRecDepth 20000 in
theorem gX3_distanceBy_X8_rightOf_n13 : GoodIn wsX3_distanceBy (wsX8_rightOf) := ggX3_distanceBy_X8_rightOf
set_option maxRecDepth 20000 in
theorem ggX3_distanceBy_X8_pixelIn : GoodIn wsX3_distanceBy wsX8_pixelIn := goodIn_r _ [11] (by decide +kernel) (by decide +kernel)
set_option maxRecDepth 20000 in
theorem gX3_distanceBy_X8_pixelIn_n16 : GoodIn wsX3_distanceBy (wsX8_pixelIn) := ggX3_distanceBy_X8_pixelIn
set_option maxRecDepth 20000 in
theorem ggX3_distanceBy_X4_valueAt : GoodIn wsX3_distanceBy wsX4_valueAt := goodIn_r _ [15, 16, 30] (by decide +kernel) (by decide +kernel)
set_option maxRecDepth 20000 in
theorem gX3_distanceBy_X4_valueAt_n26 : GoodIn wsX3_distanceBy (wsX4_valueAt) := ggX3_distanceBy_X4_valueAt
set_option maxRecDepth 20000 in
theorem ggX3_distanceBy_X4_movedValueAt : GoodIn wsX3_distanceBy wsX4_movedValueAt := goodIn_r _ [19, 16, 30] (by decide +kernel) (by decide +kernel)
set_option maxRecDepth 20000 in
theorem gX3_distanceBy_X4_movedValueAt_n34 : GoodIn wsX3_distanceBy (wsX4_movedValueAt) := ggX3_distanceBy_X4_movedValueAt
theorem dX3_distanceBy_0 : decode cX3_distanceBy 0 = .ok (.iload_n 2, 1) := by decide +kernel
theorem dX3_distanceBy_1 : decode cX3_distanceBy 1 = .ok (.invokestatic 9, 3) := by decide +kernel
theorem dX3_distanceBy_4 : decode cX3_distanceBy 4 = .ok (.istore_n 3, 1) := by decide +kernel
theorem dX3_distanceBy_5 : decode cX3_distanceBy 5 = .ok (.iload_n 2, 1) := by decide +kernel
theorem dX3_distanceBy_6 : decode cX3_distanceBy 6 = .ok (.invokestatic 13, 3) := by decide +kernel
theorem dX3_distanceBy_9 : decode cX3_distanceBy 9 = .ok (.istore 4, 2) := by decide +kernel
theorem dX3_distanceBy_11 : decode cX3_distanceBy 11 = .ok (.iconst 0, 1) := by decide +kernel
theorem dX3_distanceBy_12 : decode cX3_distanceBy 12 = .ok (.istore 5, 2) := by decide +kernel
theorem dX3_distanceBy_14 : decode cX3_distanceBy 14 = .ok (.iconst 0, 1) := by decide +kernel
theorem dX3_distanceBy_15 : decode cX3_distanceBy 15 = .ok (.istore 6, 2) := by decide +kernel
theorem dX3_distanceBy_17 : decode cX3_distanceBy 17 = .ok (.iload 6, 2) := by decide +kernel
theorem dX3_distanceBy_19 : decode cX3_distanceBy 19 = .ok (.bipush 16, 2) := by decide +kernel
theorem dX3_distanceBy_21 : decode cX3_distanceBy 21 = .ok (.if_icmp .ge 47, 3) := by decide +kernel
theorem dX3_distanceBy_24 : decode cX3_distanceBy 24 = .ok (.iload_n 1, 1) := by decide +kernel
theorem dX3_distanceBy_25 : decode cX3_distanceBy 25 = .ok (.iload 6, 2) := by decide +kernel
theorem dX3_distanceBy_27 : decode cX3_distanceBy 27 = .ok (.invokestatic 16, 3) := by decide +kernel
theorem dX3_distanceBy_30 : decode cX3_distanceBy 30 = .ok (.istore 7, 2) := by decide +kernel
theorem dX3_distanceBy_32 : decode cX3_distanceBy 32 = .ok (.iload 5, 2) := by decide +kernel
theorem dX3_distanceBy_34 : decode cX3_distanceBy 34 = .ok (.aload_n 0, 1) := by decide +kernel
theorem dX3_distanceBy_35 : decode cX3_distanceBy 35 = .ok (.getfield 20, 3) := by decide +kernel
theorem dX3_distanceBy_38 : decode cX3_distanceBy 38 = .ok (.iload 7, 2) := by decide +kernel
theorem dX3_distanceBy_40 : decode cX3_distanceBy 40 = .ok (.invokevirtual 26, 3) := by decide +kernel
theorem dX3_distanceBy_43 : decode cX3_distanceBy 43 = .ok (.aload_n 0, 1) := by decide +kernel
theorem dX3_distanceBy_44 : decode cX3_distanceBy 44 = .ok (.getfield 31, 3) := by decide +kernel
theorem dX3_distanceBy_47 : decode cX3_distanceBy 47 = .ok (.iload 7, 2) := by decide +kernel
theorem dX3_distanceBy_49 : decode cX3_distanceBy 49 = .ok (.iload_n 3, 1) := by decide +kernel
theorem dX3_distanceBy_50 : decode cX3_distanceBy 50 = .ok (.iload 4, 2) := by decide +kernel
theorem dX3_distanceBy_52 : decode cX3_distanceBy 52 = .ok (.invokevirtual 34, 3) := by decide +kernel
theorem dX3_distanceBy_55 : decode cX3_distanceBy 55 = .ok (.isub, 1) := by decide +kernel
theorem dX3_distanceBy_56 : decode cX3_distanceBy 56 = .ok (.invokestatic 38, 3) := by decide +kernel
theorem dX3_distanceBy_59 : decode cX3_distanceBy 59 = .ok (.iadd, 1) := by decide +kernel
theorem dX3_distanceBy_60 : decode cX3_distanceBy 60 = .ok (.istore 5, 2) := by decide +kernel
theorem dX3_distanceBy_62 : decode cX3_distanceBy 62 = .ok (.iinc 6 1, 3) := by decide +kernel
theorem dX3_distanceBy_65 : decode cX3_distanceBy 65 = .ok (.goto (-48), 3) := by decide +kernel
theorem dX3_distanceBy_68 : decode cX3_distanceBy 68 = .ok (.iload 5, 2) := by decide +kernel
theorem dX3_distanceBy_70 : decode cX3_distanceBy 70 = .ok (.ireturn, 1) := by decide +kernel
set_option maxRecDepth 20000 in
theorem ggX3_bestByLooking_X3_distanceBy : GoodIn wsX3_bestByLooking wsX3_distanceBy := goodIn_r _ [4, 5, 6, 7, 8, 9, 10, 11, 12, 13, 14, 15, 16, 17, 18, 19, 20, 21, 22, 23, 27, 28, 29, 30, 31, 32, 33, 34, 35, 36, 37] (by decide +kernel) (by decide +kernel)
set_option maxRecDepth 20000 in
theorem gX3_bestByLooking_X3_distanceBy : GoodIn wsX3_bestByLooking (va_wsS RX3 43 yX3_distanceBy wsX3_distanceBy) := goodIn_app (goodIn_of _ (by decide +kernel)) ggX3_bestByLooking_X3_distanceBy
set_option maxRecDepth 20000 in
theorem ggX3_bestByLooking_X3_lengthOf : GoodIn wsX3_bestByLooking wsX3_lengthOf := goodIn_r _ [26, 5, 6, 7, 8, 9, 10, 11, 12, 13] (by decide +kernel) (by decide +kernel)
set_option maxRecDepth 20000 in
theorem gX3_bestByLooking_X3_lengthOf : GoodIn wsX3_bestByLooking (va_wsS RX3 49 yX3_lengthOf wsX3_lengthOf) := goodIn_app (goodIn_of _ (by decide +kernel)) ggX3_bestByLooking_X3_lengthOf
theorem dX3_bestByLooking_0 : decode cX3_bestByLooking 0 = .ok (.iconst 0, 1) := by decide +kernel
theorem dX3_bestByLooking_1 : decode cX3_bestByLooking 1 = .ok (.istore_n 2, 1) := by decide +kernel
theorem dX3_bestByLooking_2 : decode cX3_bestByLooking 2 = .ok (.aload_n 0, 1) := by decide +kernel
theorem dX3_bestByLooking_3 : decode cX3_bestByLooking 3 = .ok (.iload_n 1, 1) := by decide +kernel
theorem dX3_bestByLooking_4 : decode cX3_bestByLooking 4 = .ok (.iconst 0, 1) := by decide +kernel
theorem dX3_bestByLooking_5 : decode cX3_bestByLooking 5 = .ok (.invokestatic 43, 3) := by decide +kernel
theorem dX3_bestByLooking_8 : decode cX3_bestByLooking 8 = .ok (.istore_n 3, 1) := by decide +kernel
theorem dX3_bestByLooking_9 : decode cX3_bestByLooking 9 = .ok (.iconst 1, 1) := by decide +kernel
theorem dX3_bestByLooking_10 : decode cX3_bestByLooking 10 = .ok (.istore 4, 2) := by decide +kernel
theorem dX3_bestByLooking_12 : decode cX3_bestByLooking 12 = .ok (.iload 4, 2) := by decide +kernel
theorem dX3_bestByLooking_14 : decode cX3_bestByLooking 14 = .ok (.bipush 25, 2) := by decide +kernel
theorem dX3_bestByLooking_16 : decode cX3_bestByLooking 16 = .ok (.if_icmp .ge 48, 3) := by decide +kernel
theorem dX3_bestByLooking_19 : decode cX3_bestByLooking 19 = .ok (.aload_n 0, 1) := by decide +kernel
theorem dX3_bestByLooking_20 : decode cX3_bestByLooking 20 = .ok (.iload_n 1, 1) := by decide +kernel
theorem dX3_bestByLooking_21 : decode cX3_bestByLooking 21 = .ok (.iload 4, 2) := by decide +kernel
theorem dX3_bestByLooking_23 : decode cX3_bestByLooking 23 = .ok (.invokestatic 43, 3) := by decide +kernel
theorem dX3_bestByLooking_26 : decode cX3_bestByLooking 26 = .ok (.istore 5, 2) := by decide +kernel
theorem dX3_bestByLooking_28 : decode cX3_bestByLooking 28 = .ok (.iload 5, 2) := by decide +kernel
theorem dX3_bestByLooking_30 : decode cX3_bestByLooking 30 = .ok (.iload_n 3, 1) := by decide +kernel
theorem dX3_bestByLooking_31 : decode cX3_bestByLooking 31 = .ok (.if_icmp .lt 21, 3) := by decide +kernel
theorem dX3_bestByLooking_34 : decode cX3_bestByLooking 34 = .ok (.iload 5, 2) := by decide +kernel
theorem dX3_bestByLooking_36 : decode cX3_bestByLooking 36 = .ok (.iload_n 3, 1) := by decide +kernel
theorem dX3_bestByLooking_37 : decode cX3_bestByLooking 37 = .ok (.if_icmp .ne 21, 3) := by decide +kernel
theorem dX3_bestByLooking_40 : decode cX3_bestByLooking 40 = .ok (.iload 4, 2) := by decide +kernel
theorem dX3_bestByLooking_42 : decode cX3_bestByLooking 42 = .ok (.invokestatic 49, 3) := by decide +kernel
theorem dX3_bestByLooking_45 : decode cX3_bestByLooking 45 = .ok (.iload_n 2, 1) := by decide +kernel
theorem dX3_bestByLooking_46 : decode cX3_bestByLooking 46 = .ok (.invokestatic 49, 3) := by decide +kernel
theorem dX3_bestByLooking_49 : decode cX3_bestByLooking 49 = .ok (.if_icmp .ge 9, 3) := by decide +kernel
theorem dX3_bestByLooking_52 : decode cX3_bestByLooking 52 = .ok (.iload 4, 2) := by decide +kernel
theorem dX3_bestByLooking_54 : decode cX3_bestByLooking 54 = .ok (.istore_n 2, 1) := by decide +kernel
theorem dX3_bestByLooking_55 : decode cX3_bestByLooking 55 = .ok (.iload 5, 2) := by decide +kernel
theorem dX3_bestByLooking_57 : decode cX3_bestByLooking 57 = .ok (.istore_n 3, 1) := by decide +kernel
theorem dX3_bestByLooking_58 : decode cX3_bestByLooking 58 = .ok (.iinc 4 1, 3) := by decide +kernel
theorem dX3_bestByLooking_61 : decode cX3_bestByLooking 61 = .ok (.goto (-49), 3) := by decide +kernel
theorem dX3_bestByLooking_64 : decode cX3_bestByLooking 64 = .ok (.iload_n 2, 1) := by decide +kernel
theorem dX3_bestByLooking_65 : decode cX3_bestByLooking 65 = .ok (.ireturn, 1) := by decide +kernel
set_option maxRecDepth 20000 in
theorem ggX3_lengthOf_X8_downOf : GoodIn wsX3_lengthOf wsX8_downOf := goodIn_r _ [7] (by decide +kernel) (by decide +kernel)
set_option maxRecDepth 20000 in
theorem gX3_lengthOf_X8_downOf_n9 : GoodIn wsX3_lengthOf (wsX8_downOf) := ggX3_lengthOf_X8_downOf
set_option maxRecDepth 20000 in
theorem ggX3_lengthOf_X8_rightOf : GoodIn wsX3_lengthOf wsX8_rightOf := goodIn_r _ [9] (by decide +kernel) (by decide +kernel)
set_option maxRecDepth 20000 in
theorem gX3_lengthOf_X8_rightOf_n13 : GoodIn wsX3_lengthOf (wsX8_rightOf) := ggX3_lengthOf_X8_rightOf
theorem dX3_lengthOf_0 : decode cX3_lengthOf 0 = .ok (.iload_n 0, 1) := by decide +kernel
theorem dX3_lengthOf_1 : decode cX3_lengthOf 1 = .ok (.invokestatic 9, 3) := by decide +kernel
theorem dX3_lengthOf_4 : decode cX3_lengthOf 4 = .ok (.invokestatic 38, 3) := by decide +kernel
theorem dX3_lengthOf_7 : decode cX3_lengthOf 7 = .ok (.iload_n 0, 1) := by decide +kernel
theorem dX3_lengthOf_8 : decode cX3_lengthOf 8 = .ok (.invokestatic 13, 3) := by decide +kernel
theorem dX3_lengthOf_11 : decode cX3_lengthOf 11 = .ok (.invokestatic 38, 3) := by decide +kernel
theorem dX3_lengthOf_14 : decode cX3_lengthOf 14 = .ok (.iadd, 1) := by decide +kernel
theorem dX3_lengthOf_15 : decode cX3_lengthOf 15 = .ok (.ireturn, 1) := by decide +kernel
set_option maxRecDepth 20000 in
theorem ggX3_bestByStopping_X3_distanceUpTo : GoodIn wsX3_bestByStopping wsX3_distanceUpTo := goodIn_r _ [5, 6, 7, 8, 9, 10, 11, 12, 13, 14, 15, 16, 17, 18, 19, 20, 21, 22, 23, 24, 25, 26, 27, 28, 29, 30, 31, 32, 33, 34, 35] (by decide +kernel) (by decide +kernel)
set_option maxRecDepth 20000 in
theorem gX3_bestByStopping_X3_distanceUpTo : GoodIn wsX3_bestByStopping (va_wsS RX3 56 yX3_distanceUpTo wsX3_distanceUpTo) := goodIn_app (goodIn_of _ (by decide +kernel)) ggX3_bestByStopping_X3_distanceUpTo
theorem dX3_bestByStopping_0 : decode cX3_bestByStopping 0 = .ok (.bipush 12, 2) := by decide +kernel
theorem dX3_bestByStopping_2 : decode cX3_bestByStopping 2 = .ok (.istore_n 2, 1) := by decide +kernel
theorem dX3_bestByStopping_3 : decode cX3_bestByStopping 3 = .ok (.sipush 241, 3) := by decide +kernel
theorem dX3_bestByStopping_6 : decode cX3_bestByStopping 6 = .ok (.istore_n 3, 1) := by decide +kernel
theorem dX3_bestByStopping_7 : decode cX3_bestByStopping 7 = .ok (.getstatic 52, 3) := by decide +kernel
theorem dX3_bestByStopping_10 : decode cX3_bestByStopping 10 = .ok (.astore 4, 2) := by decide +kernel
theorem dX3_bestByStopping_12 : decode cX3_bestByStopping 12 = .ok (.aload 4, 2) := by decide +kernel
theorem dX3_bestByStopping_14 : decode cX3_bestByStopping 14 = .ok (.arraylength, 1) := by decide +kernel
theorem dX3_bestByStopping_15 : decode cX3_bestByStopping 15 = .ok (.istore 5, 2) := by decide +kernel
theorem dX3_bestByStopping_17 : decode cX3_bestByStopping 17 = .ok (.iconst 0, 1) := by decide +kernel
theorem dX3_bestByStopping_18 : decode cX3_bestByStopping 18 = .ok (.istore 6, 2) := by decide +kernel
theorem dX3_bestByStopping_20 : decode cX3_bestByStopping 20 = .ok (.iload 6, 2) := by decide +kernel
theorem dX3_bestByStopping_22 : decode cX3_bestByStopping 22 = .ok (.iload 5, 2) := by decide +kernel
theorem dX3_bestByStopping_24 : decode cX3_bestByStopping 24 = .ok (.if_icmp .ge 38, 3) := by decide +kernel
theorem dX3_bestByStopping_27 : decode cX3_bestByStopping 27 = .ok (.aload 4, 2) := by decide +kernel
theorem dX3_bestByStopping_29 : decode cX3_bestByStopping 29 = .ok (.iload 6, 2) := by decide +kernel
theorem dX3_bestByStopping_31 : decode cX3_bestByStopping 31 = .ok (.iaload, 1) := by decide +kernel
theorem dX3_bestByStopping_32 : decode cX3_bestByStopping 32 = .ok (.istore 7, 2) := by decide +kernel
theorem dX3_bestByStopping_34 : decode cX3_bestByStopping 34 = .ok (.iload_n 3, 1) := by decide +kernel
theorem dX3_bestByStopping_35 : decode cX3_bestByStopping 35 = .ok (.aload_n 0, 1) := by decide +kernel
theorem dX3_bestByStopping_36 : decode cX3_bestByStopping 36 = .ok (.iload_n 1, 1) := by decide +kernel
theorem dX3_bestByStopping_37 : decode cX3_bestByStopping 37 = .ok (.iload 7, 2) := by decide +kernel
theorem dX3_bestByStopping_39 : decode cX3_bestByStopping 39 = .ok (.invokestatic 56, 3) := by decide +kernel
theorem dX3_bestByStopping_42 : decode cX3_bestByStopping 42 = .ok (.istore 8, 2) := by decide +kernel
theorem dX3_bestByStopping_44 : decode cX3_bestByStopping 44 = .ok (.iload 8, 2) := by decide +kernel
theorem dX3_bestByStopping_46 : decode cX3_bestByStopping 46 = .ok (.iload_n 3, 1) := by decide +kernel
theorem dX3_bestByStopping_47 : decode cX3_bestByStopping 47 = .ok (.if_icmp .ge 9, 3) := by decide +kernel
theorem dX3_bestByStopping_50 : decode cX3_bestByStopping 50 = .ok (.iload 7, 2) := by decide +kernel
theorem dX3_bestByStopping_52 : decode cX3_bestByStopping 52 = .ok (.istore_n 2, 1) := by decide +kernel
theorem dX3_bestByStopping_53 : decode cX3_bestByStopping 53 = .ok (.iload 8, 2) := by decide +kernel
theorem dX3_bestByStopping_55 : decode cX3_bestByStopping 55 = .ok (.istore_n 3, 1) := by decide +kernel
theorem dX3_bestByStopping_56 : decode cX3_bestByStopping 56 = .ok (.iinc 6 1, 3) := by decide +kernel
theorem dX3_bestByStopping_59 : decode cX3_bestByStopping 59 = .ok (.goto (-39), 3) := by decide +kernel
theorem dX3_bestByStopping_62 : decode cX3_bestByStopping 62 = .ok (.iload_n 2, 1) := by decide +kernel
theorem dX3_bestByStopping_63 : decode cX3_bestByStopping 63 = .ok (.ireturn, 1) := by decide +kernel
set_option maxRecDepth 20000 in
theorem ggX3_distanceUpTo_X8_pixelIn : GoodIn wsX3_distanceUpTo wsX8_pixelIn := goodIn_r _ [7] (by decide +kernel) (by decide +kernel)
set_option maxRecDepth 20000 in
theorem gX3_distanceUpTo_X8_pixelIn_n16 : GoodIn wsX3_distanceUpTo (wsX8_pixelIn) := ggX3_distanceUpTo_X8_pixelIn
set_option maxRecDepth 20000 in
theorem ggX3_distanceUpTo_X8_downOf : GoodIn wsX3_distanceUpTo wsX8_downOf := goodIn_r _ [9] (by decide +kernel) (by decide +kernel)
set_option maxRecDepth 20000 in
theorem gX3_distanceUpTo_X8_downOf_n9 : GoodIn wsX3_distanceUpTo (wsX8_downOf) := ggX3_distanceUpTo_X8_downOf
set_option maxRecDepth 20000 in
theorem ggX3_distanceUpTo_X8_rightOf : GoodIn wsX3_distanceUpTo wsX8_rightOf := goodIn_r _ [11] (by decide +kernel) (by decide +kernel)
set_option maxRecDepth 20000 in
theorem gX3_distanceUpTo_X8_rightOf_n13 : GoodIn wsX3_distanceUpTo (wsX8_rightOf) := ggX3_distanceUpTo_X8_rightOf
set_option maxRecDepth 20000 in
theorem ggX3_distanceUpTo_X4_movedValueAt : GoodIn wsX3_distanceUpTo wsX4_movedValueAt := goodIn_r _ [15, 16, 30] (by decide +kernel) (by decide +kernel)
set_option maxRecDepth 20000 in
theorem gX3_distanceUpTo_X4_movedValueAt_n34 : GoodIn wsX3_distanceUpTo (wsX4_movedValueAt) := ggX3_distanceUpTo_X4_movedValueAt
set_option maxRecDepth 20000 in
theorem ggX3_distanceUpTo_X4_valueAt : GoodIn wsX3_distanceUpTo wsX4_valueAt := goodIn_r _ [19, 16, 30] (by decide +kernel) (by decide +kernel)
set_option maxRecDepth 20000 in
theorem gX3_distanceUpTo_X4_valueAt_n26 : GoodIn wsX3_distanceUpTo (wsX4_valueAt) := ggX3_distanceUpTo_X4_valueAt
theorem dX3_distanceUpTo_0 : decode cX3_distanceUpTo 0 = .ok (.iconst 0, 1) := by decide +kernel
theorem dX3_distanceUpTo_1 : decode cX3_distanceUpTo 1 = .ok (.istore 4, 2) := by decide +kernel
theorem dX3_distanceUpTo_3 : decode cX3_distanceUpTo 3 = .ok (.iconst 0, 1) := by decide +kernel
theorem dX3_distanceUpTo_4 : decode cX3_distanceUpTo 4 = .ok (.istore 5, 2) := by decide +kernel
theorem dX3_distanceUpTo_6 : decode cX3_distanceUpTo 6 = .ok (.iload 5, 2) := by decide +kernel
theorem dX3_distanceUpTo_8 : decode cX3_distanceUpTo 8 = .ok (.bipush 16, 2) := by decide +kernel
theorem dX3_distanceUpTo_10 : decode cX3_distanceUpTo 10 = .ok (.if_icmp .ge 62, 3) := by decide +kernel
theorem dX3_distanceUpTo_13 : decode cX3_distanceUpTo 13 = .ok (.iload 4, 2) := by decide +kernel
theorem dX3_distanceUpTo_15 : decode cX3_distanceUpTo 15 = .ok (.iload_n 0, 1) := by decide +kernel
theorem dX3_distanceUpTo_16 : decode cX3_distanceUpTo 16 = .ok (.if_icmp .ge 56, 3) := by decide +kernel
theorem dX3_distanceUpTo_19 : decode cX3_distanceUpTo 19 = .ok (.iload_n 2, 1) := by decide +kernel
theorem dX3_distanceUpTo_20 : decode cX3_distanceUpTo 20 = .ok (.iload 5, 2) := by decide +kernel
theorem dX3_distanceUpTo_22 : decode cX3_distanceUpTo 22 = .ok (.invokestatic 16, 3) := by decide +kernel
theorem dX3_distanceUpTo_25 : decode cX3_distanceUpTo 25 = .ok (.istore 6, 2) := by decide +kernel
theorem dX3_distanceUpTo_27 : decode cX3_distanceUpTo 27 = .ok (.aload_n 1, 1) := by decide +kernel
theorem dX3_distanceUpTo_28 : decode cX3_distanceUpTo 28 = .ok (.getfield 31, 3) := by decide +kernel
theorem dX3_distanceUpTo_31 : decode cX3_distanceUpTo 31 = .ok (.iload 6, 2) := by decide +kernel
theorem dX3_distanceUpTo_33 : decode cX3_distanceUpTo 33 = .ok (.iload_n 3, 1) := by decide +kernel
theorem dX3_distanceUpTo_34 : decode cX3_distanceUpTo 34 = .ok (.invokestatic 9, 3) := by decide +kernel
theorem dX3_distanceUpTo_37 : decode cX3_distanceUpTo 37 = .ok (.iload_n 3, 1) := by decide +kernel
theorem dX3_distanceUpTo_38 : decode cX3_distanceUpTo 38 = .ok (.invokestatic 13, 3) := by decide +kernel
theorem dX3_distanceUpTo_41 : decode cX3_distanceUpTo 41 = .ok (.invokevirtual 34, 3) := by decide +kernel
theorem dX3_distanceUpTo_44 : decode cX3_distanceUpTo 44 = .ok (.istore 7, 2) := by decide +kernel
theorem dX3_distanceUpTo_46 : decode cX3_distanceUpTo 46 = .ok (.iload 4, 2) := by decide +kernel
theorem dX3_distanceUpTo_48 : decode cX3_distanceUpTo 48 = .ok (.aload_n 1, 1) := by decide +kernel
theorem dX3_distanceUpTo_49 : decode cX3_distanceUpTo 49 = .ok (.getfield 20, 3) := by decide +kernel
theorem dX3_distanceUpTo_52 : decode cX3_distanceUpTo 52 = .ok (.iload 6, 2) := by decide +kernel
theorem dX3_distanceUpTo_54 : decode cX3_distanceUpTo 54 = .ok (.invokevirtual 26, 3) := by decide +kernel
theorem dX3_distanceUpTo_57 : decode cX3_distanceUpTo 57 = .ok (.iload 7, 2) := by decide +kernel
theorem dX3_distanceUpTo_59 : decode cX3_distanceUpTo 59 = .ok (.isub, 1) := by decide +kernel
theorem dX3_distanceUpTo_60 : decode cX3_distanceUpTo 60 = .ok (.invokestatic 38, 3) := by decide +kernel
theorem dX3_distanceUpTo_63 : decode cX3_distanceUpTo 63 = .ok (.iadd, 1) := by decide +kernel
theorem dX3_distanceUpTo_64 : decode cX3_distanceUpTo 64 = .ok (.istore 4, 2) := by decide +kernel
theorem dX3_distanceUpTo_66 : decode cX3_distanceUpTo 66 = .ok (.iinc 5 1, 3) := by decide +kernel
theorem dX3_distanceUpTo_69 : decode cX3_distanceUpTo 69 = .ok (.goto (-63), 3) := by decide +kernel
theorem dX3_distanceUpTo_72 : decode cX3_distanceUpTo 72 = .ok (.iload 4, 2) := by decide +kernel
theorem dX3_distanceUpTo_74 : decode cX3_distanceUpTo 74 = .ok (.ireturn, 1) := by decide +kernel
set_option maxRecDepth 20000 in
theorem ggX3_countBest_X3_distanceBy : GoodIn wsX3_countBest wsX3_distanceBy := goodIn_r _ [4, 5, 6, 7, 8, 9, 10, 11, 12, 13, 14, 15, 16, 17, 18, 19, 20, 21, 22, 23, 24, 25, 26, 27, 28, 29, 30, 31, 32, 33, 34] (by decide +kernel) (by decide +kernel)
set_option maxRecDepth 20000 in
theorem gX3_countBest_X3_distanceBy : GoodIn wsX3_countBest (va_wsS RX3 43 yX3_distanceBy wsX3_distanceBy) := goodIn_app (goodIn_of _ (by decide +kernel)) ggX3_countBest_X3_distanceBy
theorem dX3_countBest_0 : decode cX3_countBest 0 = .ok (.iconst 0, 1) := by decide +kernel
theorem dX3_countBest_1 : decode cX3_countBest 1 = .ok (.istore_n 2, 1) := by decide +kernel
theorem dX3_countBest_2 : decode cX3_countBest 2 = .ok (.sipush 241, 3) := by decide +kernel
theorem dX3_countBest_5 : decode cX3_countBest 5 = .ok (.istore_n 3, 1) := by decide +kernel
theorem dX3_countBest_6 : decode cX3_countBest 6 = .ok (.iconst 0, 1) := by decide +kernel
theorem dX3_countBest_7 : decode cX3_countBest 7 = .ok (.istore 4, 2) := by decide +kernel
theorem dX3_countBest_9 : decode cX3_countBest 9 = .ok (.iload 4, 2) := by decide +kernel
theorem dX3_countBest_11 : decode cX3_countBest 11 = .ok (.bipush 25, 2) := by decide +kernel
theorem dX3_countBest_13 : decode cX3_countBest 13 = .ok (.if_icmp .ge 41, 3) := by decide +kernel
theorem dX3_countBest_16 : decode cX3_countBest 16 = .ok (.aload_n 0, 1) := by decide +kernel
theorem dX3_countBest_17 : decode cX3_countBest 17 = .ok (.iload_n 1, 1) := by decide +kernel
theorem dX3_countBest_18 : decode cX3_countBest 18 = .ok (.iload 4, 2) := by decide +kernel
theorem dX3_countBest_20 : decode cX3_countBest 20 = .ok (.invokestatic 43, 3) := by decide +kernel
theorem dX3_countBest_23 : decode cX3_countBest 23 = .ok (.istore 5, 2) := by decide +kernel
theorem dX3_countBest_25 : decode cX3_countBest 25 = .ok (.iload 5, 2) := by decide +kernel
theorem dX3_countBest_27 : decode cX3_countBest 27 = .ok (.iload_n 3, 1) := by decide +kernel
theorem dX3_countBest_28 : decode cX3_countBest 28 = .ok (.if_icmp .ge 11, 3) := by decide +kernel
theorem dX3_countBest_31 : decode cX3_countBest 31 = .ok (.iload 5, 2) := by decide +kernel
theorem dX3_countBest_33 : decode cX3_countBest 33 = .ok (.istore_n 3, 1) := by decide +kernel
theorem dX3_countBest_34 : decode cX3_countBest 34 = .ok (.iconst 1, 1) := by decide +kernel
theorem dX3_countBest_35 : decode cX3_countBest 35 = .ok (.istore_n 2, 1) := by decide +kernel
theorem dX3_countBest_36 : decode cX3_countBest 36 = .ok (.goto 12, 3) := by decide +kernel
theorem dX3_countBest_39 : decode cX3_countBest 39 = .ok (.iload 5, 2) := by decide +kernel
theorem dX3_countBest_41 : decode cX3_countBest 41 = .ok (.iload_n 3, 1) := by decide +kernel
theorem dX3_countBest_42 : decode cX3_countBest 42 = .ok (.if_icmp .ne 6, 3) := by decide +kernel
theorem dX3_countBest_45 : decode cX3_countBest 45 = .ok (.iinc 2 1, 3) := by decide +kernel
theorem dX3_countBest_48 : decode cX3_countBest 48 = .ok (.iinc 4 1, 3) := by decide +kernel
theorem dX3_countBest_51 : decode cX3_countBest 51 = .ok (.goto (-42), 3) := by decide +kernel
theorem dX3_countBest_54 : decode cX3_countBest 54 = .ok (.iload_n 2, 1) := by decide +kernel
theorem dX3_countBest_55 : decode cX3_countBest 55 = .ok (.ireturn, 1) := by decide +kernel
theorem dX4_init_0 : decode cX4_init 0 = .ok (.aload_n 0, 1) := by decide +kernel
theorem dX4_init_1 : decode cX4_init 1 = .ok (.invokespecial 3, 3) := by decide +kernel
theorem dX4_init_4 : decode cX4_init 4 = .ok (.aload_n 0, 1) := by decide +kernel
theorem dX4_init_5 : decode cX4_init 5 = .ok (.bipush 64, 2) := by decide +kernel
theorem dX4_init_7 : decode cX4_init 7 = .ok (.newarray .int, 2) := by decide +kernel
theorem dX4_init_9 : decode cX4_init 9 = .ok (.putfield 9, 3) := by decide +kernel
theorem dX4_init_12 : decode cX4_init 12 = .ok (.return_, 1) := by decide +kernel
theorem dX4_valueAt_0 : decode cX4_valueAt 0 = .ok (.iload_n 1, 1) := by decide +kernel
theorem dX4_valueAt_1 : decode cX4_valueAt 1 = .ok (.ifCond .lt 9, 3) := by decide +kernel
theorem dX4_valueAt_4 : decode cX4_valueAt 4 = .ok (.iload_n 1, 1) := by decide +kernel
theorem dX4_valueAt_5 : decode cX4_valueAt 5 = .ok (.bipush 64, 2) := by decide +kernel
theorem dX4_valueAt_7 : decode cX4_valueAt 7 = .ok (.if_icmp .lt 7, 3) := by decide +kernel
theorem dX4_valueAt_10 : decode cX4_valueAt 10 = .ok (.iconst 0, 1) := by decide +kernel
theorem dX4_valueAt_11 : decode cX4_valueAt 11 = .ok (.goto 9, 3) := by decide +kernel
theorem dX4_valueAt_14 : decode cX4_valueAt 14 = .ok (.aload_n 0, 1) := by decide +kernel
theorem dX4_valueAt_15 : decode cX4_valueAt 15 = .ok (.getfield 9, 3) := by decide +kernel
theorem dX4_valueAt_18 : decode cX4_valueAt 18 = .ok (.iload_n 1, 1) := by decide +kernel
theorem dX4_valueAt_19 : decode cX4_valueAt 19 = .ok (.iaload, 1) := by decide +kernel
theorem dX4_valueAt_20 : decode cX4_valueAt 20 = .ok (.ireturn, 1) := by decide +kernel
theorem dX4_movedValueAt_0 : decode cX4_movedValueAt 0 = .ok (.iload_n 1, 1) := by decide +kernel
theorem dX4_movedValueAt_1 : decode cX4_movedValueAt 1 = .ok (.bipush 8, 2) := by decide +kernel
theorem dX4_movedValueAt_3 : decode cX4_movedValueAt 3 = .ok (.idiv, 1) := by decide +kernel
theorem dX4_movedValueAt_4 : decode cX4_movedValueAt 4 = .ok (.iload_n 2, 1) := by decide +kernel
theorem dX4_movedValueAt_5 : decode cX4_movedValueAt 5 = .ok (.iadd, 1) := by decide +kernel
theorem dX4_movedValueAt_6 : decode cX4_movedValueAt 6 = .ok (.istore 4, 2) := by decide +kernel
theorem dX4_movedValueAt_8 : decode cX4_movedValueAt 8 = .ok (.iload_n 1, 1) := by decide +kernel
theorem dX4_movedValueAt_9 : decode cX4_movedValueAt 9 = .ok (.bipush 8, 2) := by decide +kernel
theorem dX4_movedValueAt_11 : decode cX4_movedValueAt 11 = .ok (.irem, 1) := by decide +kernel
theorem dX4_movedValueAt_12 : decode cX4_movedValueAt 12 = .ok (.iload_n 3, 1) := by decide +kernel
theorem dX4_movedValueAt_13 : decode cX4_movedValueAt 13 = .ok (.iadd, 1) := by decide +kernel
theorem dX4_movedValueAt_14 : decode cX4_movedValueAt 14 = .ok (.istore 5, 2) := by decide +kernel
theorem dX4_movedValueAt_16 : decode cX4_movedValueAt 16 = .ok (.iload 4, 2) := by decide +kernel
theorem dX4_movedValueAt_18 : decode cX4_movedValueAt 18 = .ok (.ifCond .ge 7, 3) := by decide +kernel
theorem dX4_movedValueAt_21 : decode cX4_movedValueAt 21 = .ok (.iconst 0, 1) := by decide +kernel
theorem dX4_movedValueAt_22 : decode cX4_movedValueAt 22 = .ok (.goto 17, 3) := by decide +kernel
theorem dX4_movedValueAt_25 : decode cX4_movedValueAt 25 = .ok (.iload 4, 2) := by decide +kernel
theorem dX4_movedValueAt_27 : decode cX4_movedValueAt 27 = .ok (.bipush 8, 2) := by decide +kernel
theorem dX4_movedValueAt_29 : decode cX4_movedValueAt 29 = .ok (.if_icmp .lt 8, 3) := by decide +kernel
theorem dX4_movedValueAt_32 : decode cX4_movedValueAt 32 = .ok (.bipush 7, 2) := by decide +kernel
theorem dX4_movedValueAt_34 : decode cX4_movedValueAt 34 = .ok (.goto 5, 3) := by decide +kernel
theorem dX4_movedValueAt_37 : decode cX4_movedValueAt 37 = .ok (.iload 4, 2) := by decide +kernel
theorem dX4_movedValueAt_39 : decode cX4_movedValueAt 39 = .ok (.istore 4, 2) := by decide +kernel
theorem dX4_movedValueAt_41 : decode cX4_movedValueAt 41 = .ok (.iload 5, 2) := by decide +kernel
theorem dX4_movedValueAt_43 : decode cX4_movedValueAt 43 = .ok (.ifCond .ge 7, 3) := by decide +kernel
theorem dX4_movedValueAt_46 : decode cX4_movedValueAt 46 = .ok (.iconst 0, 1) := by decide +kernel
theorem dX4_movedValueAt_47 : decode cX4_movedValueAt 47 = .ok (.goto 17, 3) := by decide +kernel
theorem dX4_movedValueAt_50 : decode cX4_movedValueAt 50 = .ok (.iload 5, 2) := by decide +kernel
theorem dX4_movedValueAt_52 : decode cX4_movedValueAt 52 = .ok (.bipush 8, 2) := by decide +kernel
theorem dX4_movedValueAt_54 : decode cX4_movedValueAt 54 = .ok (.if_icmp .lt 8, 3) := by decide +kernel
theorem dX4_movedValueAt_57 : decode cX4_movedValueAt 57 = .ok (.bipush 7, 2) := by decide +kernel
theorem dX4_movedValueAt_59 : decode cX4_movedValueAt 59 = .ok (.goto 5, 3) := by decide +kernel
theorem dX4_movedValueAt_62 : decode cX4_movedValueAt 62 = .ok (.iload 5, 2) := by decide +kernel
theorem dX4_movedValueAt_64 : decode cX4_movedValueAt 64 = .ok (.istore 5, 2) := by decide +kernel
theorem dX4_movedValueAt_66 : decode cX4_movedValueAt 66 = .ok (.aload_n 0, 1) := by decide +kernel
theorem dX4_movedValueAt_67 : decode cX4_movedValueAt 67 = .ok (.getfield 9, 3) := by decide +kernel
theorem dX4_movedValueAt_70 : decode cX4_movedValueAt 70 = .ok (.bipush 8, 2) := by decide +kernel
theorem dX4_movedValueAt_72 : decode cX4_movedValueAt 72 = .ok (.iload 4, 2) := by decide +kernel
theorem dX4_movedValueAt_74 : decode cX4_movedValueAt 74 = .ok (.imul, 1) := by decide +kernel
theorem dX4_movedValueAt_75 : decode cX4_movedValueAt 75 = .ok (.iload 5, 2) := by decide +kernel
theorem dX4_movedValueAt_77 : decode cX4_movedValueAt 77 = .ok (.iadd, 1) := by decide +kernel
theorem dX4_movedValueAt_78 : decode cX4_movedValueAt 78 = .ok (.iaload, 1) := by decide +kernel
theorem dX4_movedValueAt_79 : decode cX4_movedValueAt 79 = .ok (.ireturn, 1) := by decide +kernel
theorem dX4_put_0 : decode cX4_put 0 = .ok (.iload_n 1, 1) := by decide +kernel
theorem dX4_put_1 : decode cX4_put 1 = .ok (.ifCond .lt 9, 3) := by decide +kernel
theorem dX4_put_4 : decode cX4_put 4 = .ok (.iload_n 1, 1) := by decide +kernel
theorem dX4_put_5 : decode cX4_put 5 = .ok (.bipush 64, 2) := by decide +kernel
theorem dX4_put_7 : decode cX4_put 7 = .ok (.if_icmp .lt 5, 3) := by decide +kernel
theorem dX4_put_10 : decode cX4_put 10 = .ok (.iload_n 2, 1) := by decide +kernel
theorem dX4_put_11 : decode cX4_put 11 = .ok (.ireturn, 1) := by decide +kernel
theorem dX4_put_12 : decode cX4_put 12 = .ok (.aload_n 0, 1) := by decide +kernel
theorem dX4_put_13 : decode cX4_put 13 = .ok (.getfield 9, 3) := by decide +kernel
theorem dX4_put_16 : decode cX4_put 16 = .ok (.iload_n 1, 1) := by decide +kernel
theorem dX4_put_17 : decode cX4_put 17 = .ok (.iaload, 1) := by decide +kernel
theorem dX4_put_18 : decode cX4_put 18 = .ok (.istore_n 3, 1) := by decide +kernel
theorem dX4_put_19 : decode cX4_put 19 = .ok (.aload_n 0, 1) := by decide +kernel
theorem dX4_put_20 : decode cX4_put 20 = .ok (.getfield 9, 3) := by decide +kernel
theorem dX4_put_23 : decode cX4_put 23 = .ok (.iload_n 1, 1) := by decide +kernel
theorem dX4_put_24 : decode cX4_put 24 = .ok (.iload_n 2, 1) := by decide +kernel
theorem dX4_put_25 : decode cX4_put 25 = .ok (.iastore, 1) := by decide +kernel
theorem dX4_put_26 : decode cX4_put 26 = .ok (.iload_n 3, 1) := by decide +kernel
theorem dX4_put_27 : decode cX4_put 27 = .ok (.ireturn, 1) := by decide +kernel
set_option maxRecDepth 20000 in
theorem ggX4_putRectangle_X4_put : GoodIn wsX4_putRectangle wsX4_put := goodIn_r _ [5, 6, 7] (by decide +kernel) (by decide +kernel)
set_option maxRecDepth 20000 in
theorem gX4_putRectangle_X4_put : GoodIn wsX4_putRectangle (wsV RX4 15 RX4 yX4_put wsX4_put) := goodIn_app (goodIn_of _ (by decide +kernel)) ggX4_putRectangle_X4_put
theorem dX4_putRectangle_0 : decode cX4_putRectangle 0 = .ok (.iload_n 1, 1) := by decide +kernel
theorem dX4_putRectangle_1 : decode cX4_putRectangle 1 = .ok (.bipush 8, 2) := by decide +kernel
theorem dX4_putRectangle_3 : decode cX4_putRectangle 3 = .ok (.idiv, 1) := by decide +kernel
theorem dX4_putRectangle_4 : decode cX4_putRectangle 4 = .ok (.istore 5, 2) := by decide +kernel
theorem dX4_putRectangle_6 : decode cX4_putRectangle 6 = .ok (.iload_n 1, 1) := by decide +kernel
theorem dX4_putRectangle_7 : decode cX4_putRectangle 7 = .ok (.bipush 8, 2) := by decide +kernel
theorem dX4_putRectangle_9 : decode cX4_putRectangle 9 = .ok (.irem, 1) := by decide +kernel
theorem dX4_putRectangle_10 : decode cX4_putRectangle 10 = .ok (.istore 6, 2) := by decide +kernel
theorem dX4_putRectangle_12 : decode cX4_putRectangle 12 = .ok (.iconst 0, 1) := by decide +kernel
theorem dX4_putRectangle_13 : decode cX4_putRectangle 13 = .ok (.istore 7, 2) := by decide +kernel
theorem dX4_putRectangle_15 : decode cX4_putRectangle 15 = .ok (.iload 5, 2) := by decide +kernel
theorem dX4_putRectangle_17 : decode cX4_putRectangle 17 = .ok (.istore 8, 2) := by decide +kernel
theorem dX4_putRectangle_19 : decode cX4_putRectangle 19 = .ok (.iload 8, 2) := by decide +kernel
theorem dX4_putRectangle_21 : decode cX4_putRectangle 21 = .ok (.iload 5, 2) := by decide +kernel
theorem dX4_putRectangle_23 : decode cX4_putRectangle 23 = .ok (.iload_n 2, 1) := by decide +kernel
theorem dX4_putRectangle_24 : decode cX4_putRectangle 24 = .ok (.iadd, 1) := by decide +kernel
theorem dX4_putRectangle_25 : decode cX4_putRectangle 25 = .ok (.if_icmp .ge 71, 3) := by decide +kernel
theorem dX4_putRectangle_28 : decode cX4_putRectangle 28 = .ok (.iload 8, 2) := by decide +kernel
theorem dX4_putRectangle_30 : decode cX4_putRectangle 30 = .ok (.bipush 8, 2) := by decide +kernel
theorem dX4_putRectangle_32 : decode cX4_putRectangle 32 = .ok (.if_icmp .ge 64, 3) := by decide +kernel
theorem dX4_putRectangle_35 : decode cX4_putRectangle 35 = .ok (.iload 6, 2) := by decide +kernel
theorem dX4_putRectangle_37 : decode cX4_putRectangle 37 = .ok (.istore 9, 2) := by decide +kernel
theorem dX4_putRectangle_39 : decode cX4_putRectangle 39 = .ok (.iload 9, 2) := by decide +kernel
theorem dX4_putRectangle_41 : decode cX4_putRectangle 41 = .ok (.iload 6, 2) := by decide +kernel
theorem dX4_putRectangle_43 : decode cX4_putRectangle 43 = .ok (.iload_n 3, 1) := by decide +kernel
theorem dX4_putRectangle_44 : decode cX4_putRectangle 44 = .ok (.iadd, 1) := by decide +kernel
theorem dX4_putRectangle_45 : decode cX4_putRectangle 45 = .ok (.if_icmp .ge 45, 3) := by decide +kernel
theorem dX4_putRectangle_48 : decode cX4_putRectangle 48 = .ok (.iload 9, 2) := by decide +kernel
theorem dX4_putRectangle_50 : decode cX4_putRectangle 50 = .ok (.bipush 8, 2) := by decide +kernel
theorem dX4_putRectangle_52 : decode cX4_putRectangle 52 = .ok (.if_icmp .ge 38, 3) := by decide +kernel
theorem dX4_putRectangle_55 : decode cX4_putRectangle 55 = .ok (.iload 7, 2) := by decide +kernel
theorem dX4_putRectangle_57 : decode cX4_putRectangle 57 = .ok (.aload_n 0, 1) := by decide +kernel
theorem dX4_putRectangle_58 : decode cX4_putRectangle 58 = .ok (.bipush 8, 2) := by decide +kernel
theorem dX4_putRectangle_60 : decode cX4_putRectangle 60 = .ok (.iload 8, 2) := by decide +kernel
theorem dX4_putRectangle_62 : decode cX4_putRectangle 62 = .ok (.imul, 1) := by decide +kernel
theorem dX4_putRectangle_63 : decode cX4_putRectangle 63 = .ok (.iload 9, 2) := by decide +kernel
theorem dX4_putRectangle_65 : decode cX4_putRectangle 65 = .ok (.iadd, 1) := by decide +kernel
theorem dX4_putRectangle_66 : decode cX4_putRectangle 66 = .ok (.iload 4, 2) := by decide +kernel
theorem dX4_putRectangle_68 : decode cX4_putRectangle 68 = .ok (.invokevirtual 15, 3) := by decide +kernel
theorem dX4_putRectangle_71 : decode cX4_putRectangle 71 = .ok (.iload 4, 2) := by decide +kernel
theorem dX4_putRectangle_73 : decode cX4_putRectangle 73 = .ok (.if_icmp .ne 7, 3) := by decide +kernel
theorem dX4_putRectangle_76 : decode cX4_putRectangle 76 = .ok (.iconst 0, 1) := by decide +kernel
theorem dX4_putRectangle_77 : decode cX4_putRectangle 77 = .ok (.goto 4, 3) := by decide +kernel
theorem dX4_putRectangle_80 : decode cX4_putRectangle 80 = .ok (.iconst 1, 1) := by decide +kernel
theorem dX4_putRectangle_81 : decode cX4_putRectangle 81 = .ok (.iadd, 1) := by decide +kernel
theorem dX4_putRectangle_82 : decode cX4_putRectangle 82 = .ok (.istore 7, 2) := by decide +kernel
theorem dX4_putRectangle_84 : decode cX4_putRectangle 84 = .ok (.iinc 9 1, 3) := by decide +kernel
theorem dX4_putRectangle_87 : decode cX4_putRectangle 87 = .ok (.goto (-48), 3) := by decide +kernel
theorem dX4_putRectangle_90 : decode cX4_putRectangle 90 = .ok (.iinc 8 1, 3) := by decide +kernel
theorem dX4_putRectangle_93 : decode cX4_putRectangle 93 = .ok (.goto (-74), 3) := by decide +kernel
theorem dX4_putRectangle_96 : decode cX4_putRectangle 96 = .ok (.iload 7, 2) := by decide +kernel
theorem dX4_putRectangle_98 : decode cX4_putRectangle 98 = .ok (.ireturn, 1) := by decide +kernel
set_option maxRecDepth 20000 in
theorem ggX4_takeMoved_X4_movedValueAt : GoodIn wsX4_takeMoved wsX4_movedValueAt := goodIn_r _ [5, 6, 11] (by decide +kernel) (by decide +kernel)
set_option maxRecDepth 20000 in
theorem gX4_takeMoved_X4_movedValueAt : GoodIn wsX4_takeMoved (wsV RX4 19 RX4 yX4_movedValueAt wsX4_movedValueAt) := goodIn_app (goodIn_of _ (by decide +kernel)) ggX4_takeMoved_X4_movedValueAt
set_option maxRecDepth 20000 in
theorem ggX4_takeMoved_X4_put : GoodIn wsX4_takeMoved wsX4_put := goodIn_r _ [10, 6, 11] (by decide +kernel) (by decide +kernel)
set_option maxRecDepth 20000 in
theorem gX4_takeMoved_X4_put : GoodIn wsX4_takeMoved (wsV RX4 15 RX4 yX4_put wsX4_put) := goodIn_app (goodIn_of _ (by decide +kernel)) ggX4_takeMoved_X4_put
theorem dX4_takeMoved_0 : decode cX4_takeMoved 0 = .ok (.iconst 0, 1) := by decide +kernel
theorem dX4_takeMoved_1 : decode cX4_takeMoved 1 = .ok (.istore 4, 2) := by decide +kernel
theorem dX4_takeMoved_3 : decode cX4_takeMoved 3 = .ok (.iconst 0, 1) := by decide +kernel
theorem dX4_takeMoved_4 : decode cX4_takeMoved 4 = .ok (.istore 5, 2) := by decide +kernel
theorem dX4_takeMoved_6 : decode cX4_takeMoved 6 = .ok (.iload 5, 2) := by decide +kernel
theorem dX4_takeMoved_8 : decode cX4_takeMoved 8 = .ok (.bipush 64, 2) := by decide +kernel
theorem dX4_takeMoved_10 : decode cX4_takeMoved 10 = .ok (.if_icmp .ge 42, 3) := by decide +kernel
theorem dX4_takeMoved_13 : decode cX4_takeMoved 13 = .ok (.aload_n 1, 1) := by decide +kernel
theorem dX4_takeMoved_14 : decode cX4_takeMoved 14 = .ok (.iload 5, 2) := by decide +kernel
theorem dX4_takeMoved_16 : decode cX4_takeMoved 16 = .ok (.iload_n 2, 1) := by decide +kernel
theorem dX4_takeMoved_17 : decode cX4_takeMoved 17 = .ok (.iload_n 3, 1) := by decide +kernel
theorem dX4_takeMoved_18 : decode cX4_takeMoved 18 = .ok (.invokevirtual 19, 3) := by decide +kernel
theorem dX4_takeMoved_21 : decode cX4_takeMoved 21 = .ok (.istore 6, 2) := by decide +kernel
theorem dX4_takeMoved_23 : decode cX4_takeMoved 23 = .ok (.iload 4, 2) := by decide +kernel
theorem dX4_takeMoved_25 : decode cX4_takeMoved 25 = .ok (.aload_n 0, 1) := by decide +kernel
theorem dX4_takeMoved_26 : decode cX4_takeMoved 26 = .ok (.iload 5, 2) := by decide +kernel
theorem dX4_takeMoved_28 : decode cX4_takeMoved 28 = .ok (.iload 6, 2) := by decide +kernel
theorem dX4_takeMoved_30 : decode cX4_takeMoved 30 = .ok (.invokevirtual 15, 3) := by decide +kernel
theorem dX4_takeMoved_33 : decode cX4_takeMoved 33 = .ok (.iload 6, 2) := by decide +kernel
theorem dX4_takeMoved_35 : decode cX4_takeMoved 35 = .ok (.if_icmp .ne 7, 3) := by decide +kernel
theorem dX4_takeMoved_38 : decode cX4_takeMoved 38 = .ok (.iconst 0, 1) := by decide +kernel
theorem dX4_takeMoved_39 : decode cX4_takeMoved 39 = .ok (.goto 4, 3) := by decide +kernel
theorem dX4_takeMoved_42 : decode cX4_takeMoved 42 = .ok (.iconst 1, 1) := by decide +kernel
theorem dX4_takeMoved_43 : decode cX4_takeMoved 43 = .ok (.iadd, 1) := by decide +kernel
theorem dX4_takeMoved_44 : decode cX4_takeMoved 44 = .ok (.istore 4, 2) := by decide +kernel
theorem dX4_takeMoved_46 : decode cX4_takeMoved 46 = .ok (.iinc 5 1, 3) := by decide +kernel
theorem dX4_takeMoved_49 : decode cX4_takeMoved 49 = .ok (.goto (-43), 3) := by decide +kernel
theorem dX4_takeMoved_52 : decode cX4_takeMoved 52 = .ok (.iload 4, 2) := by decide +kernel
theorem dX4_takeMoved_54 : decode cX4_takeMoved 54 = .ok (.ireturn, 1) := by decide +kernel
theorem dX4_copyFrom_0 : decode cX4_copyFrom 0 = .ok (.aload_n 1, 1) := by decide +kernel
theorem dX4_copyFrom_1 : decode cX4_copyFrom 1 = .ok (.getfield 9, 3) := by decide +kernel
theorem dX4_copyFrom_4 : decode cX4_copyFrom 4 = .ok (.iconst 0, 1) := by decide +kernel
theorem dX4_copyFrom_5 : decode cX4_copyFrom 5 = .ok (.aload_n 0, 1) := by decide +kernel
theorem dX4_copyFrom_6 : decode cX4_copyFrom 6 = .ok (.getfield 9, 3) := by decide +kernel
theorem dX4_copyFrom_9 : decode cX4_copyFrom 9 = .ok (.iconst 0, 1) := by decide +kernel
theorem dX4_copyFrom_10 : decode cX4_copyFrom 10 = .ok (.bipush 64, 2) := by decide +kernel
theorem dX4_copyFrom_12 : decode cX4_copyFrom 12 = .ok (.invokestatic 23, 3) := by decide +kernel
theorem dX4_copyFrom_15 : decode cX4_copyFrom 15 = .ok (.return_, 1) := by decide +kernel
set_option maxRecDepth 20000 in
theorem ggX5_init_X4_init : GoodIn wsX5_init wsX4_init := goodIn_r _ [15, 16, 2, 3, 4, 17, 24] (by decide +kernel) (by decide +kernel)
set_option maxRecDepth 20000 in
theorem gX5_init_X4_init_n20 : GoodIn wsX5_init (wsX4_init) := ggX5_init_X4_init
theorem dX5_init_0 : decode cX5_init 0 = .ok (.aload_n 0, 1) := by decide +kernel
theorem dX5_init_1 : decode cX5_init 1 = .ok (.invokespecial 3, 3) := by decide +kernel
theorem dX5_init_4 : decode cX5_init 4 = .ok (.aload_n 0, 1) := by decide +kernel
theorem dX5_init_5 : decode cX5_init 5 = .ok (.iconst 4, 1) := by decide +kernel
theorem dX5_init_6 : decode cX5_init 6 = .ok (.newarray .int, 2) := by decide +kernel
theorem dX5_init_8 : decode cX5_init 8 = .ok (.putfield 9, 3) := by decide +kernel
theorem dX5_init_11 : decode cX5_init 11 = .ok (.aload_n 0, 1) := by decide +kernel
theorem dX5_init_12 : decode cX5_init 12 = .ok (.iconst 4, 1) := by decide +kernel
theorem dX5_init_13 : decode cX5_init 13 = .ok (.newarray .int, 2) := by decide +kernel
theorem dX5_init_15 : decode cX5_init 15 = .ok (.putfield 15, 3) := by decide +kernel
theorem dX5_init_18 : decode cX5_init 18 = .ok (.aload_n 0, 1) := by decide +kernel
theorem dX5_init_19 : decode cX5_init 19 = .ok (.new 18, 3) := by decide +kernel
theorem dX5_init_22 : decode cX5_init 22 = .ok (.dup, 1) := by decide +kernel
theorem dX5_init_23 : decode cX5_init 23 = .ok (.invokespecial 20, 3) := by decide +kernel
theorem dX5_init_26 : decode cX5_init 26 = .ok (.putfield 21, 3) := by decide +kernel
theorem dX5_init_29 : decode cX5_init 29 = .ok (.aload_n 0, 1) := by decide +kernel
theorem dX5_init_30 : decode cX5_init 30 = .ok (.bipush 64, 2) := by decide +kernel
theorem dX5_init_32 : decode cX5_init 32 = .ok (.newarray .int, 2) := by decide +kernel
theorem dX5_init_34 : decode cX5_init 34 = .ok (.putfield 25, 3) := by decide +kernel
theorem dX5_init_37 : decode cX5_init 37 = .ok (.aload_n 0, 1) := by decide +kernel
theorem dX5_init_38 : decode cX5_init 38 = .ok (.iconst (-1), 1) := by decide +kernel
theorem dX5_init_39 : decode cX5_init 39 = .ok (.putfield 28, 3) := by decide +kernel
theorem dX5_init_42 : decode cX5_init 42 = .ok (.aload_n 0, 1) := by decide +kernel
theorem dX5_init_43 : decode cX5_init 43 = .ok (.iconst 0, 1) := by decide +kernel
theorem dX5_init_44 : decode cX5_init 44 = .ok (.putfield 32, 3) := by decide +kernel
theorem dX5_init_47 : decode cX5_init 47 = .ok (.return_, 1) := by decide +kernel
theorem dX5_moveOf_0 : decode cX5_moveOf 0 = .ok (.iload_n 1, 1) := by decide +kernel
theorem dX5_moveOf_1 : decode cX5_moveOf 1 = .ok (.ifCond .lt 8, 3) := by decide +kernel
theorem dX5_moveOf_4 : decode cX5_moveOf 4 = .ok (.iload_n 1, 1) := by decide +kernel
theorem dX5_moveOf_5 : decode cX5_moveOf 5 = .ok (.iconst 4, 1) := by decide +kernel
theorem dX5_moveOf_6 : decode cX5_moveOf 6 = .ok (.if_icmp .lt 8, 3) := by decide +kernel
theorem dX5_moveOf_9 : decode cX5_moveOf 9 = .ok (.bipush 12, 2) := by decide +kernel
theorem dX5_moveOf_11 : decode cX5_moveOf 11 = .ok (.goto 9, 3) := by decide +kernel
theorem dX5_moveOf_14 : decode cX5_moveOf 14 = .ok (.aload_n 0, 1) := by decide +kernel
theorem dX5_moveOf_15 : decode cX5_moveOf 15 = .ok (.getfield 9, 3) := by decide +kernel
theorem dX5_moveOf_18 : decode cX5_moveOf 18 = .ok (.iload_n 1, 1) := by decide +kernel
theorem dX5_moveOf_19 : decode cX5_moveOf 19 = .ok (.iaload, 1) := by decide +kernel
theorem dX5_moveOf_20 : decode cX5_moveOf 20 = .ok (.ireturn, 1) := by decide +kernel
theorem dX5_kindOf_0 : decode cX5_kindOf 0 = .ok (.iload_n 1, 1) := by decide +kernel
theorem dX5_kindOf_1 : decode cX5_kindOf 1 = .ok (.ifCond .lt 8, 3) := by decide +kernel
theorem dX5_kindOf_4 : decode cX5_kindOf 4 = .ok (.iload_n 1, 1) := by decide +kernel
theorem dX5_kindOf_5 : decode cX5_kindOf 5 = .ok (.iconst 4, 1) := by decide +kernel
theorem dX5_kindOf_6 : decode cX5_kindOf 6 = .ok (.if_icmp .lt 7, 3) := by decide +kernel
theorem dX5_kindOf_9 : decode cX5_kindOf 9 = .ok (.iconst 0, 1) := by decide +kernel
theorem dX5_kindOf_10 : decode cX5_kindOf 10 = .ok (.goto 9, 3) := by decide +kernel
theorem dX5_kindOf_13 : decode cX5_kindOf 13 = .ok (.aload_n 0, 1) := by decide +kernel
theorem dX5_kindOf_14 : decode cX5_kindOf 14 = .ok (.getfield 15, 3) := by decide +kernel
theorem dX5_kindOf_17 : decode cX5_kindOf 17 = .ok (.iload_n 1, 1) := by decide +kernel
theorem dX5_kindOf_18 : decode cX5_kindOf 18 = .ok (.iaload, 1) := by decide +kernel
theorem dX5_kindOf_19 : decode cX5_kindOf 19 = .ok (.ireturn, 1) := by decide +kernel
set_option maxRecDepth 20000 in
theorem ggX5_foreseePicture_X7_isKeyDue : GoodIn wsX5_foreseePicture wsX7_isKeyDue := goodIn_r _ [5, 6, 7, 74, 75, 76, 77, 78, 79, 80, 81, 82, 83] (by decide +kernel) (by decide +kernel)
set_option maxRecDepth 20000 in
theorem gX5_foreseePicture_X7_isKeyDue_n35 : GoodIn wsX5_foreseePicture (wsX7_isKeyDue) := ggX5_foreseePicture_X7_isKeyDue
set_option maxRecDepth 20000 in
theorem ggX5_foreseePicture_X5_foreseeKey : GoodIn wsX5_foreseePicture wsX5_foreseeKey := goodIn_r _ [12, 13, 14, 1, 68, 69, 70, 71, 72, 73] (by decide +kernel) (by decide +kernel)
set_option maxRecDepth 20000 in
theorem gX5_foreseePicture_X5_foreseeKey : GoodIn wsX5_foreseePicture (wsV RX5 41 RX5 yX5_foreseeKey wsX5_foreseeKey) := goodIn_app (goodIn_of _ (by decide +kernel)) ggX5_foreseePicture_X5_foreseeKey
set_option maxRecDepth 20000 in
theorem ggX5_foreseePicture_X3_bestByLooking : GoodIn wsX5_foreseePicture wsX3_bestByLooking := goodIn_r _ [17, 18, 19, 16, 20, 21, 22, 23, 24, 25, 26, 27, 28, 29, 30, 31, 32, 33, 34, 35, 36, 37, 38, 39, 40, 41, 42, 74, 75, 76, 77, 78, 79, 80, 81, 82, 83, 84] (by decide +kernel) (by decide +kernel)
set_option maxRecDepth 20000 in
theorem gX5_foreseePicture_X3_bestByLooking_n44 : GoodIn wsX5_foreseePicture (wsX3_bestByLooking) := ggX5_foreseePicture_X3_bestByLooking
set_option maxRecDepth 20000 in
theorem ggX5_foreseePicture_X5_foreseeBlock : GoodIn wsX5_foreseePicture wsX5_foreseeBlock := goodIn_r _ [46, 47, 48, 49, 30, 26, 31, 25, 27, 28, 29, 37, 33, 38, 39, 36, 50, 51, 52, 32, 34, 35, 68, 69, 70, 71, 72, 73, 74, 75, 76, 77, 78, 79, 80, 81, 82, 83, 84] (by decide +kernel) (by decide +kernel)
set_option maxRecDepth 20000 in
theorem gX5_foreseePicture_X5_foreseeBlock : GoodIn wsX5_foreseePicture (wsV RX5 50 RX5 yX5_foreseeBlock wsX5_foreseeBlock) := goodIn_app (goodIn_of _ (by decide +kernel)) ggX5_foreseePicture_X5_foreseeBlock
set_option maxRecDepth 20000 in
theorem ggX5_foreseePicture_X5_weighPicture : GoodIn wsX5_foreseePicture wsX5_weighPicture := goodIn_r _ [56, 14, 1, 57, 58, 59, 11, 60, 47, 13, 30, 26, 31, 61, 62, 63, 64, 49, 65, 66, 67, 68, 69, 70, 71, 72, 73] (by decide +kernel) (by decide +kernel)
set_option maxRecDepth 20000 in
theorem gX5_foreseePicture_X5_weighPicture : GoodIn wsX5_foreseePicture (wsV RX5 54 RX5 yX5_weighPicture wsX5_weighPicture) := goodIn_app (goodIn_of _ (by decide +kernel)) ggX5_foreseePicture_X5_weighPicture
theorem dX5_foreseePicture_0 : decode cX5_foreseePicture 0 = .ok (.aload_n 1, 1) := by decide +kernel
theorem dX5_foreseePicture_1 : decode cX5_foreseePicture 1 = .ok (.invokevirtual 35, 3) := by decide +kernel
theorem dX5_foreseePicture_4 : decode cX5_foreseePicture 4 = .ok (.ifCond .eq 8, 3) := by decide +kernel
theorem dX5_foreseePicture_7 : decode cX5_foreseePicture 7 = .ok (.aload_n 0, 1) := by decide +kernel
theorem dX5_foreseePicture_8 : decode cX5_foreseePicture 8 = .ok (.invokevirtual 41, 3) := by decide +kernel
theorem dX5_foreseePicture_11 : decode cX5_foreseePicture 11 = .ok (.return_, 1) := by decide +kernel
theorem dX5_foreseePicture_12 : decode cX5_foreseePicture 12 = .ok (.iconst 0, 1) := by decide +kernel
theorem dX5_foreseePicture_13 : decode cX5_foreseePicture 13 = .ok (.istore_n 2, 1) := by decide +kernel
theorem dX5_foreseePicture_14 : decode cX5_foreseePicture 14 = .ok (.iload_n 2, 1) := by decide +kernel
theorem dX5_foreseePicture_15 : decode cX5_foreseePicture 15 = .ok (.iconst 4, 1) := by decide +kernel
theorem dX5_foreseePicture_16 : decode cX5_foreseePicture 16 = .ok (.if_icmp .ge 20, 3) := by decide +kernel
theorem dX5_foreseePicture_19 : decode cX5_foreseePicture 19 = .ok (.aload_n 0, 1) := by decide +kernel
theorem dX5_foreseePicture_20 : decode cX5_foreseePicture 20 = .ok (.aload_n 1, 1) := by decide +kernel
theorem dX5_foreseePicture_21 : decode cX5_foreseePicture 21 = .ok (.iload_n 2, 1) := by decide +kernel
theorem dX5_foreseePicture_22 : decode cX5_foreseePicture 22 = .ok (.aload_n 1, 1) := by decide +kernel
theorem dX5_foreseePicture_23 : decode cX5_foreseePicture 23 = .ok (.iload_n 2, 1) := by decide +kernel
theorem dX5_foreseePicture_24 : decode cX5_foreseePicture 24 = .ok (.invokestatic 44, 3) := by decide +kernel
theorem dX5_foreseePicture_27 : decode cX5_foreseePicture 27 = .ok (.invokevirtual 50, 3) := by decide +kernel
theorem dX5_foreseePicture_30 : decode cX5_foreseePicture 30 = .ok (.iinc 2 1, 3) := by decide +kernel
theorem dX5_foreseePicture_33 : decode cX5_foreseePicture 33 = .ok (.goto (-19), 3) := by decide +kernel
theorem dX5_foreseePicture_36 : decode cX5_foreseePicture 36 = .ok (.aload_n 0, 1) := by decide +kernel
theorem dX5_foreseePicture_37 : decode cX5_foreseePicture 37 = .ok (.iconst 1, 1) := by decide +kernel
theorem dX5_foreseePicture_38 : decode cX5_foreseePicture 38 = .ok (.invokevirtual 54, 3) := by decide +kernel
theorem dX5_foreseePicture_41 : decode cX5_foreseePicture 41 = .ok (.iconst 2, 1) := by decide +kernel
theorem dX5_foreseePicture_42 : decode cX5_foreseePicture 42 = .ok (.istore_n 2, 1) := by decide +kernel
theorem dX5_foreseePicture_43 : decode cX5_foreseePicture 43 = .ok (.iload_n 2, 1) := by decide +kernel
theorem dX5_foreseePicture_44 : decode cX5_foreseePicture 44 = .ok (.bipush 8, 2) := by decide +kernel
theorem dX5_foreseePicture_46 : decode cX5_foreseePicture 46 = .ok (.if_icmp .gt 25, 3) := by decide +kernel
theorem dX5_foreseePicture_49 : decode cX5_foreseePicture 49 = .ok (.aload_n 0, 1) := by decide +kernel
theorem dX5_foreseePicture_50 : decode cX5_foreseePicture 50 = .ok (.getfield 32, 3) := by decide +kernel
theorem dX5_foreseePicture_53 : decode cX5_foreseePicture 53 = .ok (.aload_n 1, 1) := by decide +kernel
theorem dX5_foreseePicture_54 : decode cX5_foreseePicture 54 = .ok (.getfield 58, 3) := by decide +kernel
theorem dX5_foreseePicture_57 : decode cX5_foreseePicture 57 = .ok (.if_icmp .le 14, 3) := by decide +kernel
theorem dX5_foreseePicture_60 : decode cX5_foreseePicture 60 = .ok (.aload_n 0, 1) := by decide +kernel
theorem dX5_foreseePicture_61 : decode cX5_foreseePicture 61 = .ok (.iload_n 2, 1) := by decide +kernel
theorem dX5_foreseePicture_62 : decode cX5_foreseePicture 62 = .ok (.invokevirtual 54, 3) := by decide +kernel
theorem dX5_foreseePicture_65 : decode cX5_foreseePicture 65 = .ok (.iinc 2 1, 3) := by decide +kernel
theorem dX5_foreseePicture_68 : decode cX5_foreseePicture 68 = .ok (.goto (-25), 3) := by decide +kernel
theorem dX5_foreseePicture_71 : decode cX5_foreseePicture 71 = .ok (.return_, 1) := by decide +kernel
theorem dX5_foreseeKey_0 : decode cX5_foreseeKey 0 = .ok (.iconst 0, 1) := by decide +kernel
theorem dX5_foreseeKey_1 : decode cX5_foreseeKey 1 = .ok (.istore_n 1, 1) := by decide +kernel
theorem dX5_foreseeKey_2 : decode cX5_foreseeKey 2 = .ok (.iload_n 1, 1) := by decide +kernel
theorem dX5_foreseeKey_3 : decode cX5_foreseeKey 3 = .ok (.iconst 4, 1) := by decide +kernel
theorem dX5_foreseeKey_4 : decode cX5_foreseeKey 4 = .ok (.if_icmp .ge 16, 3) := by decide +kernel
theorem dX5_foreseeKey_7 : decode cX5_foreseeKey 7 = .ok (.aload_n 0, 1) := by decide +kernel
theorem dX5_foreseeKey_8 : decode cX5_foreseeKey 8 = .ok (.getfield 15, 3) := by decide +kernel
theorem dX5_foreseeKey_11 : decode cX5_foreseeKey 11 = .ok (.iload_n 1, 1) := by decide +kernel
theorem dX5_foreseeKey_12 : decode cX5_foreseeKey 12 = .ok (.iconst 0, 1) := by decide +kernel
theorem dX5_foreseeKey_13 : decode cX5_foreseeKey 13 = .ok (.iastore, 1) := by decide +kernel
theorem dX5_foreseeKey_14 : decode cX5_foreseeKey 14 = .ok (.iinc 1 1, 3) := by decide +kernel
theorem dX5_foreseeKey_17 : decode cX5_foreseeKey 17 = .ok (.goto (-15), 3) := by decide +kernel
theorem dX5_foreseeKey_20 : decode cX5_foreseeKey 20 = .ok (.aload_n 0, 1) := by decide +kernel
theorem dX5_foreseeKey_21 : decode cX5_foreseeKey 21 = .ok (.iconst (-1), 1) := by decide +kernel
theorem dX5_foreseeKey_22 : decode cX5_foreseeKey 22 = .ok (.putfield 28, 3) := by decide +kernel
theorem dX5_foreseeKey_25 : decode cX5_foreseeKey 25 = .ok (.aload_n 0, 1) := by decide +kernel
theorem dX5_foreseeKey_26 : decode cX5_foreseeKey 26 = .ok (.sipush 264, 3) := by decide +kernel
theorem dX5_foreseeKey_29 : decode cX5_foreseeKey 29 = .ok (.putfield 32, 3) := by decide +kernel
theorem dX5_foreseeKey_32 : decode cX5_foreseeKey 32 = .ok (.return_, 1) := by decide +kernel
set_option maxRecDepth 20000 in
theorem ggX5_foreseeBlock_X8_pixelIn : GoodIn wsX5_foreseeBlock wsX8_pixelIn := goodIn_r _ [6] (by decide +kernel) (by decide +kernel)
set_option maxRecDepth 20000 in
theorem gX5_foreseeBlock_X8_pixelIn_n61 : GoodIn wsX5_foreseeBlock (wsX8_pixelIn) := ggX5_foreseeBlock_X8_pixelIn
set_option maxRecDepth 20000 in
theorem ggX5_foreseeBlock_X8_downOf : GoodIn wsX5_foreseeBlock wsX8_downOf := goodIn_r _ [8] (by decide +kernel) (by decide +kernel)
set_option maxRecDepth 20000 in
theorem gX5_foreseeBlock_X8_downOf_n68 : GoodIn wsX5_foreseeBlock (wsX8_downOf) := ggX5_foreseeBlock_X8_downOf
set_option maxRecDepth 20000 in
theorem ggX5_foreseeBlock_X8_rightOf : GoodIn wsX5_foreseeBlock wsX8_rightOf := goodIn_r _ [10] (by decide +kernel) (by decide +kernel)
set_option maxRecDepth 20000 in
theorem gX5_foreseeBlock_X8_rightOf_n72 : GoodIn wsX5_foreseeBlock (wsX8_rightOf) := ggX5_foreseeBlock_X8_rightOf
set_option maxRecDepth 20000 in
theorem ggX5_foreseeBlock_X4_movedValueAt : GoodIn wsX5_foreseeBlock wsX4_movedValueAt := goodIn_r _ [14, 15, 38] (by decide +kernel) (by decide +kernel)
set_option maxRecDepth 20000 in
theorem gX5_foreseeBlock_X4_movedValueAt_n75 : GoodIn wsX5_foreseeBlock (wsX4_movedValueAt) := ggX5_foreseeBlock_X4_movedValueAt
set_option maxRecDepth 20000 in
theorem ggX5_foreseeBlock_X4_put : GoodIn wsX5_foreseeBlock wsX4_put := goodIn_r _ [18, 15, 38] (by decide +kernel) (by decide +kernel)
set_option maxRecDepth 20000 in
theorem gX5_foreseeBlock_X4_put_n79 : GoodIn wsX5_foreseeBlock (wsX4_put) := ggX5_foreseeBlock_X4_put
set_option maxRecDepth 20000 in
theorem ggX5_foreseeBlock_X4_valueAt : GoodIn wsX5_foreseeBlock wsX4_valueAt := goodIn_r _ [21, 15, 38] (by decide +kernel) (by decide +kernel)
set_option maxRecDepth 20000 in
theorem gX5_foreseeBlock_X4_valueAt_n85 : GoodIn wsX5_foreseeBlock (wsX4_valueAt) := ggX5_foreseeBlock_X4_valueAt
theorem dX5_foreseeBlock_0 : decode cX5_foreseeBlock 0 = .ok (.iload_n 2, 1) := by decide +kernel
theorem dX5_foreseeBlock_1 : decode cX5_foreseeBlock 1 = .ok (.ifCond .lt 8, 3) := by decide +kernel
theorem dX5_foreseeBlock_4 : decode cX5_foreseeBlock 4 = .ok (.iload_n 2, 1) := by decide +kernel
theorem dX5_foreseeBlock_5 : decode cX5_foreseeBlock 5 = .ok (.iconst 4, 1) := by decide +kernel
theorem dX5_foreseeBlock_6 : decode cX5_foreseeBlock 6 = .ok (.if_icmp .lt 4, 3) := by decide +kernel
theorem dX5_foreseeBlock_9 : decode cX5_foreseeBlock 9 = .ok (.return_, 1) := by decide +kernel
theorem dX5_foreseeBlock_10 : decode cX5_foreseeBlock 10 = .ok (.aload_n 0, 1) := by decide +kernel
theorem dX5_foreseeBlock_11 : decode cX5_foreseeBlock 11 = .ok (.getfield 9, 3) := by decide +kernel
theorem dX5_foreseeBlock_14 : decode cX5_foreseeBlock 14 = .ok (.iload_n 2, 1) := by decide +kernel
theorem dX5_foreseeBlock_15 : decode cX5_foreseeBlock 15 = .ok (.iload_n 3, 1) := by decide +kernel
theorem dX5_foreseeBlock_16 : decode cX5_foreseeBlock 16 = .ok (.iastore, 1) := by decide +kernel
theorem dX5_foreseeBlock_17 : decode cX5_foreseeBlock 17 = .ok (.iconst 0, 1) := by decide +kernel
theorem dX5_foreseeBlock_18 : decode cX5_foreseeBlock 18 = .ok (.istore 4, 2) := by decide +kernel
theorem dX5_foreseeBlock_20 : decode cX5_foreseeBlock 20 = .ok (.iload 4, 2) := by decide +kernel
theorem dX5_foreseeBlock_22 : decode cX5_foreseeBlock 22 = .ok (.bipush 16, 2) := by decide +kernel
theorem dX5_foreseeBlock_24 : decode cX5_foreseeBlock 24 = .ok (.if_icmp .ge 67, 3) := by decide +kernel
theorem dX5_foreseeBlock_27 : decode cX5_foreseeBlock 27 = .ok (.iload_n 2, 1) := by decide +kernel
theorem dX5_foreseeBlock_28 : decode cX5_foreseeBlock 28 = .ok (.iload 4, 2) := by decide +kernel
theorem dX5_foreseeBlock_30 : decode cX5_foreseeBlock 30 = .ok (.invokestatic 61, 3) := by decide +kernel
theorem dX5_foreseeBlock_33 : decode cX5_foreseeBlock 33 = .ok (.istore 5, 2) := by decide +kernel
theorem dX5_foreseeBlock_35 : decode cX5_foreseeBlock 35 = .ok (.aload_n 1, 1) := by decide +kernel
theorem dX5_foreseeBlock_36 : decode cX5_foreseeBlock 36 = .ok (.getfield 65, 3) := by decide +kernel
theorem dX5_foreseeBlock_39 : decode cX5_foreseeBlock 39 = .ok (.iload 5, 2) := by decide +kernel
theorem dX5_foreseeBlock_41 : decode cX5_foreseeBlock 41 = .ok (.iload_n 3, 1) := by decide +kernel
theorem dX5_foreseeBlock_42 : decode cX5_foreseeBlock 42 = .ok (.invokestatic 68, 3) := by decide +kernel
theorem dX5_foreseeBlock_45 : decode cX5_foreseeBlock 45 = .ok (.iload_n 3, 1) := by decide +kernel
theorem dX5_foreseeBlock_46 : decode cX5_foreseeBlock 46 = .ok (.invokestatic 72, 3) := by decide +kernel
theorem dX5_foreseeBlock_49 : decode cX5_foreseeBlock 49 = .ok (.invokevirtual 75, 3) := by decide +kernel
theorem dX5_foreseeBlock_52 : decode cX5_foreseeBlock 52 = .ok (.istore 6, 2) := by decide +kernel
theorem dX5_foreseeBlock_54 : decode cX5_foreseeBlock 54 = .ok (.aload_n 0, 1) := by decide +kernel
theorem dX5_foreseeBlock_55 : decode cX5_foreseeBlock 55 = .ok (.getfield 21, 3) := by decide +kernel
theorem dX5_foreseeBlock_58 : decode cX5_foreseeBlock 58 = .ok (.iload 5, 2) := by decide +kernel
theorem dX5_foreseeBlock_60 : decode cX5_foreseeBlock 60 = .ok (.iload 6, 2) := by decide +kernel
theorem dX5_foreseeBlock_62 : decode cX5_foreseeBlock 62 = .ok (.invokevirtual 79, 3) := by decide +kernel
theorem dX5_foreseeBlock_65 : decode cX5_foreseeBlock 65 = .ok (.pop, 1) := by decide +kernel
theorem dX5_foreseeBlock_66 : decode cX5_foreseeBlock 66 = .ok (.aload_n 0, 1) := by decide +kernel
theorem dX5_foreseeBlock_67 : decode cX5_foreseeBlock 67 = .ok (.getfield 25, 3) := by decide +kernel
theorem dX5_foreseeBlock_70 : decode cX5_foreseeBlock 70 = .ok (.iload 5, 2) := by decide +kernel
theorem dX5_foreseeBlock_72 : decode cX5_foreseeBlock 72 = .ok (.aload_n 1, 1) := by decide +kernel
theorem dX5_foreseeBlock_73 : decode cX5_foreseeBlock 73 = .ok (.getfield 82, 3) := by decide +kernel
theorem dX5_foreseeBlock_76 : decode cX5_foreseeBlock 76 = .ok (.iload 5, 2) := by decide +kernel
theorem dX5_foreseeBlock_78 : decode cX5_foreseeBlock 78 = .ok (.invokevirtual 85, 3) := by decide +kernel
theorem dX5_foreseeBlock_81 : decode cX5_foreseeBlock 81 = .ok (.iload 6, 2) := by decide +kernel
theorem dX5_foreseeBlock_83 : decode cX5_foreseeBlock 83 = .ok (.isub, 1) := by decide +kernel
theorem dX5_foreseeBlock_84 : decode cX5_foreseeBlock 84 = .ok (.iastore, 1) := by decide +kernel
theorem dX5_foreseeBlock_85 : decode cX5_foreseeBlock 85 = .ok (.iinc 4 1, 3) := by decide +kernel
theorem dX5_foreseeBlock_88 : decode cX5_foreseeBlock 88 = .ok (.goto (-68), 3) := by decide +kernel
theorem dX5_foreseeBlock_91 : decode cX5_foreseeBlock 91 = .ok (.return_, 1) := by decide +kernel
set_option maxRecDepth 20000 in
theorem ggX5_weighPicture_X5_weighBlock : GoodIn wsX5_weighPicture wsX5_weighBlock := goodIn_r _ [7, 8, 9, 10, 11, 12, 13, 14, 15, 6, 16, 17, 18, 19, 20, 21, 22, 23, 24, 25, 26] (by decide +kernel) (by decide +kernel)
set_option maxRecDepth 20000 in
theorem gX5_weighPicture_X5_weighBlock : GoodIn wsX5_weighPicture (wsV RX5 88 RX5 yX5_weighBlock wsX5_weighBlock) := goodIn_app (goodIn_of _ (by decide +kernel)) ggX5_weighPicture_X5_weighBlock
theorem dX5_weighPicture_0 : decode cX5_weighPicture 0 = .ok (.aload_n 0, 1) := by decide +kernel
theorem dX5_weighPicture_1 : decode cX5_weighPicture 1 = .ok (.iload_n 1, 1) := by decide +kernel
theorem dX5_weighPicture_2 : decode cX5_weighPicture 2 = .ok (.putfield 28, 3) := by decide +kernel
theorem dX5_weighPicture_5 : decode cX5_weighPicture 5 = .ok (.aload_n 0, 1) := by decide +kernel
theorem dX5_weighPicture_6 : decode cX5_weighPicture 6 = .ok (.iconst 0, 1) := by decide +kernel
theorem dX5_weighPicture_7 : decode cX5_weighPicture 7 = .ok (.putfield 32, 3) := by decide +kernel
theorem dX5_weighPicture_10 : decode cX5_weighPicture 10 = .ok (.iconst 0, 1) := by decide +kernel
theorem dX5_weighPicture_11 : decode cX5_weighPicture 11 = .ok (.istore_n 2, 1) := by decide +kernel
theorem dX5_weighPicture_12 : decode cX5_weighPicture 12 = .ok (.iload_n 2, 1) := by decide +kernel
theorem dX5_weighPicture_13 : decode cX5_weighPicture 13 = .ok (.iconst 4, 1) := by decide +kernel
theorem dX5_weighPicture_14 : decode cX5_weighPicture 14 = .ok (.if_icmp .ge 24, 3) := by decide +kernel
theorem dX5_weighPicture_17 : decode cX5_weighPicture 17 = .ok (.aload_n 0, 1) := by decide +kernel
theorem dX5_weighPicture_18 : decode cX5_weighPicture 18 = .ok (.dup, 1) := by decide +kernel
theorem dX5_weighPicture_19 : decode cX5_weighPicture 19 = .ok (.getfield 32, 3) := by decide +kernel
theorem dX5_weighPicture_22 : decode cX5_weighPicture 22 = .ok (.aload_n 0, 1) := by decide +kernel
theorem dX5_weighPicture_23 : decode cX5_weighPicture 23 = .ok (.iload_n 2, 1) := by decide +kernel
theorem dX5_weighPicture_24 : decode cX5_weighPicture 24 = .ok (.iload_n 1, 1) := by decide +kernel
theorem dX5_weighPicture_25 : decode cX5_weighPicture 25 = .ok (.invokevirtual 88, 3) := by decide +kernel
theorem dX5_weighPicture_28 : decode cX5_weighPicture 28 = .ok (.iadd, 1) := by decide +kernel
theorem dX5_weighPicture_29 : decode cX5_weighPicture 29 = .ok (.putfield 32, 3) := by decide +kernel
theorem dX5_weighPicture_32 : decode cX5_weighPicture 32 = .ok (.iinc 2 1, 3) := by decide +kernel
theorem dX5_weighPicture_35 : decode cX5_weighPicture 35 = .ok (.goto (-23), 3) := by decide +kernel
theorem dX5_weighPicture_38 : decode cX5_weighPicture 38 = .ok (.return_, 1) := by decide +kernel
set_option maxRecDepth 20000 in
theorem ggX5_weighBlock_X8_pixelIn : GoodIn wsX5_weighBlock wsX8_pixelIn := goodIn_r _ [5] (by decide +kernel) (by decide +kernel)
set_option maxRecDepth 20000 in
theorem gX5_weighBlock_X8_pixelIn_n61 : GoodIn wsX5_weighBlock (wsX8_pixelIn) := ggX5_weighBlock_X8_pixelIn
set_option maxRecDepth 20000 in
theorem ggX5_weighBlock_X5_levelAt : GoodIn wsX5_weighBlock wsX5_levelAt := goodIn_r _ [10, 11, 15, 16, 17, 18, 19, 20] (by decide +kernel) (by decide +kernel)
set_option maxRecDepth 20000 in
theorem gX5_weighBlock_X5_levelAt : GoodIn wsX5_weighBlock (wsV RX5 91 RX5 yX5_levelAt wsX5_levelAt) := goodIn_app (goodIn_of _ (by decide +kernel)) ggX5_weighBlock_X5_levelAt
set_option maxRecDepth 20000 in
theorem ggX5_weighBlock_X5_bitsOfLevel : GoodIn wsX5_weighBlock wsX5_bitsOfLevel := goodIn_r _ [14] (by decide +kernel) (by decide +kernel)
set_option maxRecDepth 20000 in
theorem gX5_weighBlock_X5_bitsOfLevel : GoodIn wsX5_weighBlock (va_wsS RX5 94 yX5_bitsOfLevel wsX5_bitsOfLevel) := goodIn_app (goodIn_of _ (by decide +kernel)) ggX5_weighBlock_X5_bitsOfLevel
theorem dX5_weighBlock_0 : decode cX5_weighBlock 0 = .ok (.iload_n 1, 1) := by decide +kernel
theorem dX5_weighBlock_1 : decode cX5_weighBlock 1 = .ok (.ifCond .lt 8, 3) := by decide +kernel
theorem dX5_weighBlock_4 : decode cX5_weighBlock 4 = .ok (.iload_n 1, 1) := by decide +kernel
theorem dX5_weighBlock_5 : decode cX5_weighBlock 5 = .ok (.iconst 4, 1) := by decide +kernel
theorem dX5_weighBlock_6 : decode cX5_weighBlock 6 = .ok (.if_icmp .lt 5, 3) := by decide +kernel
theorem dX5_weighBlock_9 : decode cX5_weighBlock 9 = .ok (.iconst 0, 1) := by decide +kernel
theorem dX5_weighBlock_10 : decode cX5_weighBlock 10 = .ok (.ireturn, 1) := by decide +kernel
theorem dX5_weighBlock_11 : decode cX5_weighBlock 11 = .ok (.iconst 0, 1) := by decide +kernel
theorem dX5_weighBlock_12 : decode cX5_weighBlock 12 = .ok (.istore_n 3, 1) := by decide +kernel
theorem dX5_weighBlock_13 : decode cX5_weighBlock 13 = .ok (.iconst 0, 1) := by decide +kernel
theorem dX5_weighBlock_14 : decode cX5_weighBlock 14 = .ok (.istore 4, 2) := by decide +kernel
theorem dX5_weighBlock_16 : decode cX5_weighBlock 16 = .ok (.iload 4, 2) := by decide +kernel
theorem dX5_weighBlock_18 : decode cX5_weighBlock 18 = .ok (.bipush 16, 2) := by decide +kernel
theorem dX5_weighBlock_20 : decode cX5_weighBlock 20 = .ok (.if_icmp .ge 26, 3) := by decide +kernel
theorem dX5_weighBlock_23 : decode cX5_weighBlock 23 = .ok (.iload_n 3, 1) := by decide +kernel
theorem dX5_weighBlock_24 : decode cX5_weighBlock 24 = .ok (.aload_n 0, 1) := by decide +kernel
theorem dX5_weighBlock_25 : decode cX5_weighBlock 25 = .ok (.iload_n 1, 1) := by decide +kernel
theorem dX5_weighBlock_26 : decode cX5_weighBlock 26 = .ok (.iload 4, 2) := by decide +kernel
theorem dX5_weighBlock_28 : decode cX5_weighBlock 28 = .ok (.invokestatic 61, 3) := by decide +kernel
theorem dX5_weighBlock_31 : decode cX5_weighBlock 31 = .ok (.iload_n 2, 1) := by decide +kernel
theorem dX5_weighBlock_32 : decode cX5_weighBlock 32 = .ok (.invokevirtual 91, 3) := by decide +kernel
theorem dX5_weighBlock_35 : decode cX5_weighBlock 35 = .ok (.invokestatic 94, 3) := by decide +kernel
theorem dX5_weighBlock_38 : decode cX5_weighBlock 38 = .ok (.iadd, 1) := by decide +kernel
theorem dX5_weighBlock_39 : decode cX5_weighBlock 39 = .ok (.istore_n 3, 1) := by decide +kernel
theorem dX5_weighBlock_40 : decode cX5_weighBlock 40 = .ok (.iinc 4 1, 3) := by decide +kernel
theorem dX5_weighBlock_43 : decode cX5_weighBlock 43 = .ok (.goto (-27), 3) := by decide +kernel
theorem dX5_weighBlock_46 : decode cX5_weighBlock 46 = .ok (.aload_n 0, 1) := by decide +kernel
theorem dX5_weighBlock_47 : decode cX5_weighBlock 47 = .ok (.getfield 9, 3) := by decide +kernel
theorem dX5_weighBlock_50 : decode cX5_weighBlock 50 = .ok (.iload_n 1, 1) := by decide +kernel
theorem dX5_weighBlock_51 : decode cX5_weighBlock 51 = .ok (.iaload, 1) := by decide +kernel
theorem dX5_weighBlock_52 : decode cX5_weighBlock 52 = .ok (.bipush 12, 2) := by decide +kernel
theorem dX5_weighBlock_54 : decode cX5_weighBlock 54 = .ok (.if_icmp .ne 18, 3) := by decide +kernel
theorem dX5_weighBlock_57 : decode cX5_weighBlock 57 = .ok (.iload_n 3, 1) := by decide +kernel
theorem dX5_weighBlock_58 : decode cX5_weighBlock 58 = .ok (.bipush 16, 2) := by decide +kernel
theorem dX5_weighBlock_60 : decode cX5_weighBlock 60 = .ok (.if_icmp .ne 12, 3) := by decide +kernel
theorem dX5_weighBlock_63 : decode cX5_weighBlock 63 = .ok (.aload_n 0, 1) := by decide +kernel
theorem dX5_weighBlock_64 : decode cX5_weighBlock 64 = .ok (.getfield 15, 3) := by decide +kernel
theorem dX5_weighBlock_67 : decode cX5_weighBlock 67 = .ok (.iload_n 1, 1) := by decide +kernel
theorem dX5_weighBlock_68 : decode cX5_weighBlock 68 = .ok (.iconst 1, 1) := by decide +kernel
theorem dX5_weighBlock_69 : decode cX5_weighBlock 69 = .ok (.iastore, 1) := by decide +kernel
theorem dX5_weighBlock_70 : decode cX5_weighBlock 70 = .ok (.iconst 1, 1) := by decide +kernel
theorem dX5_weighBlock_71 : decode cX5_weighBlock 71 = .ok (.ireturn, 1) := by decide +kernel
theorem dX5_weighBlock_72 : decode cX5_weighBlock 72 = .ok (.bipush 6, 2) := by decide +kernel
theorem dX5_weighBlock_74 : decode cX5_weighBlock 74 = .ok (.iload_n 3, 1) := by decide +kernel
theorem dX5_weighBlock_75 : decode cX5_weighBlock 75 = .ok (.iadd, 1) := by decide +kernel
theorem dX5_weighBlock_76 : decode cX5_weighBlock 76 = .ok (.bipush 66, 2) := by decide +kernel
theorem dX5_weighBlock_78 : decode cX5_weighBlock 78 = .ok (.if_icmp .gt 15, 3) := by decide +kernel
theorem dX5_weighBlock_81 : decode cX5_weighBlock 81 = .ok (.aload_n 0, 1) := by decide +kernel
theorem dX5_weighBlock_82 : decode cX5_weighBlock 82 = .ok (.getfield 15, 3) := by decide +kernel
theorem dX5_weighBlock_85 : decode cX5_weighBlock 85 = .ok (.iload_n 1, 1) := by decide +kernel
theorem dX5_weighBlock_86 : decode cX5_weighBlock 86 = .ok (.iconst 2, 1) := by decide +kernel
theorem dX5_weighBlock_87 : decode cX5_weighBlock 87 = .ok (.iastore, 1) := by decide +kernel
theorem dX5_weighBlock_88 : decode cX5_weighBlock 88 = .ok (.bipush 6, 2) := by decide +kernel
theorem dX5_weighBlock_90 : decode cX5_weighBlock 90 = .ok (.iload_n 3, 1) := by decide +kernel
theorem dX5_weighBlock_91 : decode cX5_weighBlock 91 = .ok (.iadd, 1) := by decide +kernel
theorem dX5_weighBlock_92 : decode cX5_weighBlock 92 = .ok (.ireturn, 1) := by decide +kernel
theorem dX5_weighBlock_93 : decode cX5_weighBlock 93 = .ok (.aload_n 0, 1) := by decide +kernel
theorem dX5_weighBlock_94 : decode cX5_weighBlock 94 = .ok (.getfield 15, 3) := by decide +kernel
theorem dX5_weighBlock_97 : decode cX5_weighBlock 97 = .ok (.iload_n 1, 1) := by decide +kernel
theorem dX5_weighBlock_98 : decode cX5_weighBlock 98 = .ok (.iconst 0, 1) := by decide +kernel
theorem dX5_weighBlock_99 : decode cX5_weighBlock 99 = .ok (.iastore, 1) := by decide +kernel
theorem dX5_weighBlock_100 : decode cX5_weighBlock 100 = .ok (.bipush 66, 2) := by decide +kernel
theorem dX5_weighBlock_102 : decode cX5_weighBlock 102 = .ok (.ireturn, 1) := by decide +kernel
theorem dX5_bitsOfLevel_0 : decode cX5_bitsOfLevel 0 = .ok (.iload_n 0, 1) := by decide +kernel
theorem dX5_bitsOfLevel_1 : decode cX5_bitsOfLevel 1 = .ok (.ifCond .ne 7, 3) := by decide +kernel
theorem dX5_bitsOfLevel_4 : decode cX5_bitsOfLevel 4 = .ok (.iconst 1, 1) := by decide +kernel
theorem dX5_bitsOfLevel_5 : decode cX5_bitsOfLevel 5 = .ok (.goto 4, 3) := by decide +kernel
theorem dX5_bitsOfLevel_8 : decode cX5_bitsOfLevel 8 = .ok (.iconst 2, 1) := by decide +kernel
theorem dX5_bitsOfLevel_9 : decode cX5_bitsOfLevel 9 = .ok (.istore_n 1, 1) := by decide +kernel
theorem dX5_bitsOfLevel_10 : decode cX5_bitsOfLevel 10 = .ok (.iload_n 0, 1) := by decide +kernel
theorem dX5_bitsOfLevel_11 : decode cX5_bitsOfLevel 11 = .ok (.ifCond .ge 9, 3) := by decide +kernel
theorem dX5_bitsOfLevel_14 : decode cX5_bitsOfLevel 14 = .ok (.iconst 1, 1) := by decide +kernel
theorem dX5_bitsOfLevel_15 : decode cX5_bitsOfLevel 15 = .ok (.iload_n 0, 1) := by decide +kernel
theorem dX5_bitsOfLevel_16 : decode cX5_bitsOfLevel 16 = .ok (.isub, 1) := by decide +kernel
theorem dX5_bitsOfLevel_17 : decode cX5_bitsOfLevel 17 = .ok (.goto 6, 3) := by decide +kernel
theorem dX5_bitsOfLevel_20 : decode cX5_bitsOfLevel 20 = .ok (.iconst 1, 1) := by decide +kernel
theorem dX5_bitsOfLevel_21 : decode cX5_bitsOfLevel 21 = .ok (.iload_n 0, 1) := by decide +kernel
theorem dX5_bitsOfLevel_22 : decode cX5_bitsOfLevel 22 = .ok (.iadd, 1) := by decide +kernel
theorem dX5_bitsOfLevel_23 : decode cX5_bitsOfLevel 23 = .ok (.istore_n 2, 1) := by decide +kernel
theorem dX5_bitsOfLevel_24 : decode cX5_bitsOfLevel 24 = .ok (.iload_n 2, 1) := by decide +kernel
theorem dX5_bitsOfLevel_25 : decode cX5_bitsOfLevel 25 = .ok (.iconst 1, 1) := by decide +kernel
theorem dX5_bitsOfLevel_26 : decode cX5_bitsOfLevel 26 = .ok (.if_icmp .le 13, 3) := by decide +kernel
theorem dX5_bitsOfLevel_29 : decode cX5_bitsOfLevel 29 = .ok (.iinc 1 2, 3) := by decide +kernel
theorem dX5_bitsOfLevel_32 : decode cX5_bitsOfLevel 32 = .ok (.iload_n 2, 1) := by decide +kernel
theorem dX5_bitsOfLevel_33 : decode cX5_bitsOfLevel 33 = .ok (.iconst 2, 1) := by decide +kernel
theorem dX5_bitsOfLevel_34 : decode cX5_bitsOfLevel 34 = .ok (.idiv, 1) := by decide +kernel
theorem dX5_bitsOfLevel_35 : decode cX5_bitsOfLevel 35 = .ok (.istore_n 2, 1) := by decide +kernel
