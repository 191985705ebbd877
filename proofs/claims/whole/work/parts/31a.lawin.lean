theorem in_r {big : List Cond} (ws : List Cond) (ps : List Nat) (hp : ws = ps.filterMap (fun i => big[i]?)) : ∀ w ∈ ws, w ∈ big := by
  intro w hw
  rw [hp] at hw
  obtain ⟨i, -, hi⟩ := List.mem_filterMap.mp hw
  exact List.mem_of_getElem? hi
set_option maxRecDepth 100000 in
theorem in_wsL_law0_r1 : ∀ w ∈ wsL_law0_r1, w ∈ lw_tbl := in_r _ [79, 80, 61, 846, 847, 69, 1157, 1156, 81, 82, 83, 84, 85, 86, 87, 88, 62, 248, 150, 151, 64, 249, 180, 181] (by decide +kernel)
set_option maxRecDepth 100000 in
theorem in_wsL_law0_r2 : ∀ w ∈ wsL_law0_r2, w ∈ lw_tbl := in_r _ [65, 250, 194, 94, 63, 251, 196, 197, 66, 252, 211, 212, 67, 253, 231, 232, 68, 254, 255, 90, 91, 92, 93, 104] (by decide +kernel)
set_option maxRecDepth 100000 in
theorem in_wsL_law0_r3 : ∀ w ∈ wsL_law0_r3, w ∈ lw_tbl := in_r _ [108, 112, 103, 114, 116, 118, 121, 123, 125, 127, 96, 97, 98, 99, 153, 154, 155, 158, 159, 156, 160, 162, 163, 165] (by decide +kernel)
set_option maxRecDepth 100000 in
theorem in_wsL_law0_r4 : ∀ w ∈ wsL_law0_r4, w ∈ lw_tbl := in_r _ [183, 184, 185, 193, 186, 187, 199, 200, 201, 210, 202, 203, 214, 215, 216, 217, 220, 221, 222, 234, 235, 236, 237, 239] (by decide +kernel)
set_option maxRecDepth 100000 in
theorem in_wsL_law0_r5 : ∀ w ∈ wsL_law0_r5, w ∈ lw_tbl := in_r _ [241, 848, 849, 850, 851, 853, 854, 856, 858, 860, 410, 411, 60, 412, 413, 414, 415, 416, 417, 418, 419, 420, 421, 422] (by decide +kernel)
set_option maxRecDepth 100000 in
theorem in_wsL_law0_r6 : ∀ w ∈ wsL_law0_r6, w ∈ lw_tbl := in_r _ [73, 490, 491, 492, 493, 74, 511, 13, 512, 525, 526, 76, 527, 515, 14, 516, 524, 523, 522, 75, 519, 15, 520, 521] (by decide +kernel)
set_option maxRecDepth 100000 in
theorem in_wsL_law0_r7 : ∀ w ∈ wsL_law0_r7, w ∈ lw_tbl := in_r _ [343, 6, 344, 902, 903, 904, 905, 906, 907, 908, 909, 910, 911, 912, 914, 39, 915, 852, 916, 918, 40, 919, 855, 920] (by decide +kernel)
set_option maxRecDepth 100000 in
theorem in_wsL_law0_r8 : ∀ w ∈ wsL_law0_r8, w ∈ lw_tbl := in_r _ [922, 41, 923, 898, 899, 900, 901, 529, 530, 531, 532, 533, 534, 535, 538, 16, 539, 540, 924, 925, 926, 927, 541, 542] (by decide +kernel)
set_option maxRecDepth 100000 in
theorem in_wsL_law0_r9 : ∀ w ∈ wsL_law0_r9, w ∈ lw_tbl := in_r _ [543, 544, 545, 546, 547, 548, 550, 17, 551, 555, 18, 556, 557, 327, 4, 328, 928, 929, 930, 931, 932, 934, 42, 935] (by decide +kernel)
set_option maxRecDepth 100000 in
theorem in_wsL_law0_r10 : ∀ w ∈ wsL_law0_r10, w ∈ lw_tbl := in_r _ [936, 937, 938, 939, 940, 941, 558, 559, 560, 561, 562, 563, 564, 565, 570, 77, 566, 568, 19, 569, 586, 588, 20, 589] (by decide +kernel)
set_option maxRecDepth 100000 in
theorem in_wsL_law0_r11 : ∀ w ∈ wsL_law0_r11, w ∈ lw_tbl := in_r _ [302, 2, 303, 294, 1, 295, 305, 307, 3, 308, 310, 78, 311, 312, 313, 314, 329, 286, 287, 316, 317, 319, 320, 322] (by decide +kernel)
set_option maxRecDepth 100000 in
theorem in_wsL_law0_r12 : ∀ w ∈ wsL_law0_r12, w ∈ lw_tbl := in_r _ [323, 279, 0, 280, 330, 331, 332, 333, 335, 5, 336, 346, 348, 7, 349, 350, 352, 8, 353, 354, 356, 9, 357, 358] (by decide +kernel)
set_option maxRecDepth 100000 in
theorem in_wsL_law0_r13 : ∀ w ∈ wsL_law0_r13, w ∈ lw_tbl := in_r _ [359, 360, 590, 592, 21, 593, 594, 596, 22, 597, 614, 615, 616, 617, 600, 23, 601, 604, 24, 605, 606, 607, 608, 612] (by decide +kernel)
set_option maxRecDepth 100000 in
theorem in_wsL_law0_r14 : ∀ w ∈ wsL_law0_r14, w ∈ lw_tbl := in_r _ [25, 613, 618, 620, 26, 621, 942, 943, 944, 945, 946, 948, 43, 949, 950, 952, 44, 953, 954, 956, 45, 957, 958, 960] (by decide +kernel)
set_option maxRecDepth 100000 in
theorem in_wsL_law0_r15 : ∀ w ∈ wsL_law0_r15, w ∈ lw_tbl := in_r _ [46, 961, 962, 964, 47, 965, 966, 968, 48, 969, 970, 972, 49, 973, 974, 976, 50, 977, 978, 979, 980, 981, 983, 51] (by decide +kernel)
set_option maxRecDepth 100000 in
theorem in_wsL_law0_r16 : ∀ w ∈ wsL_law0_r16, w ∈ lw_tbl := in_r _ [984, 985, 986, 987, 988, 989, 990, 991, 993, 52, 994, 995, 997, 53, 998, 999, 1000, 1001, 622, 623, 624, 625, 626, 627] (by decide +kernel)
set_option maxRecDepth 100000 in
theorem in_wsL_law0_r17 : ∀ w ∈ wsL_law0_r17, w ∈ lw_tbl := in_r _ [628, 1002, 1003, 1004, 1005, 629, 630, 631, 632, 633, 634, 635, 1006, 1007, 1008, 1009, 636, 637, 638, 639, 640, 641, 642, 1010] (by decide +kernel)
set_option maxRecDepth 100000 in
theorem in_wsL_law0_r18 : ∀ w ∈ wsL_law0_r18, w ∈ lw_tbl := in_r _ [1011, 1012, 1013, 643, 644, 645, 646, 647, 648, 649, 1014, 1015, 1016, 1017, 650, 651, 652, 653, 654, 655, 656, 1018, 1019, 1020] (by decide +kernel)
set_option maxRecDepth 100000 in
theorem in_wsL_law0_r19 : ∀ w ∈ wsL_law0_r19, w ∈ lw_tbl := in_r _ [1021, 273, 274, 275, 276, 1022, 1023, 1024, 1025, 281, 282, 283, 284, 285, 1026, 1027, 1028, 1029, 657, 658, 659, 660, 661, 662] (by decide +kernel)
set_option maxRecDepth 100000 in
theorem in_wsL_law0_r20 : ∀ w ∈ wsL_law0_r20, w ∈ lw_tbl := in_r _ [663, 664, 665, 666, 1030, 1031, 1032, 1033, 1034, 1035, 1036, 670, 671, 672, 673, 674, 675, 676, 1037, 1038, 1039, 1040, 678, 679] (by decide +kernel)
set_option maxRecDepth 100000 in
theorem in_wsL_law0_r21 : ∀ w ∈ wsL_law0_r21, w ∈ lw_tbl := in_r _ [680, 681, 682, 683, 684, 686, 687, 688, 690, 691, 692, 1041, 1042, 1043, 1044, 1045, 693, 694, 695, 696, 697, 698, 699, 701] (by decide +kernel)
set_option maxRecDepth 100000 in
theorem in_wsL_law0_r22 : ∀ w ∈ wsL_law0_r22, w ∈ lw_tbl := in_r _ [702, 1046, 1047, 1048, 1049, 288, 289, 290, 291, 1050, 1051, 1052, 1053, 703, 704, 705, 706, 707, 708, 709, 1054, 1055, 1056, 1057] (by decide +kernel)
set_option maxRecDepth 100000 in
theorem in_wsL_law0_r23 : ∀ w ∈ wsL_law0_r23, w ∈ lw_tbl := in_r _ [1058, 1060, 54, 1061, 712, 713, 714, 715, 716, 717, 718, 1062, 1063, 1064, 1065, 719, 720, 721, 722, 723, 724, 725, 728, 27] (by decide +kernel)
set_option maxRecDepth 100000 in
theorem in_wsL_law0_r24 : ∀ w ∈ wsL_law0_r24, w ∈ lw_tbl := in_r _ [729, 731, 733, 28, 734, 735, 737, 29, 738, 741, 743, 30, 744, 745, 746, 748, 31, 749, 1066, 1067, 1068, 1069, 1070, 296] (by decide +kernel)
set_option maxRecDepth 100000 in
theorem in_wsL_law0_r25 : ∀ w ∈ wsL_law0_r25, w ∈ lw_tbl := in_r _ [297, 298, 299, 1071, 1072, 1073, 1074, 361, 362, 363, 364, 1075, 1076, 1077, 1078, 365, 366, 367, 368, 1079, 1080, 1081, 1082, 369] (by decide +kernel)
set_option maxRecDepth 100000 in
theorem in_wsL_law0_r26 : ∀ w ∈ wsL_law0_r26, w ∈ lw_tbl := in_r _ [370, 371, 372, 1083, 1084, 1085, 1086, 373, 374, 375, 376, 1087, 1088, 1089, 1090, 751, 752, 753, 754, 755, 756, 757, 1091, 1092] (by decide +kernel)
set_option maxRecDepth 100000 in
theorem in_wsL_law0_r27 : ∀ w ∈ wsL_law0_r27, w ∈ lw_tbl := in_r _ [1093, 1094, 758, 759, 760, 761, 762, 763, 764, 1095, 1096, 1097, 1098, 765, 766, 767, 768, 769, 770, 771, 773, 774, 775, 776] (by decide +kernel)
set_option maxRecDepth 100000 in
theorem in_wsL_law0_r28 : ∀ w ∈ wsL_law0_r28, w ∈ lw_tbl := in_r _ [777, 782, 32, 783, 1099, 1100, 1101, 1102, 1103, 859, 377, 378, 379, 380, 1104, 1105, 1106, 1107, 381, 382, 383, 384, 1108, 1109] (by decide +kernel)
set_option maxRecDepth 100000 in
theorem in_wsL_law0_r29 : ∀ w ∈ wsL_law0_r29, w ∈ lw_tbl := in_r _ [1110, 1111, 385, 386, 387, 388, 391, 10, 392, 393, 395, 11, 396, 397, 398, 399, 400, 401, 402, 403, 404, 405, 1112, 1113] (by decide +kernel)
set_option maxRecDepth 100000 in
theorem in_wsL_law0_r30 : ∀ w ∈ wsL_law0_r30, w ∈ lw_tbl := in_r _ [1114, 1115, 862, 861, 1116, 1118, 55, 1119, 866, 1120, 1122, 56, 1123, 863, 864, 865, 1124, 1126, 57, 1127, 1128, 1130, 58, 1131] (by decide +kernel)
set_option maxRecDepth 100000 in
theorem in_wsL_law0_r31 : ∀ w ∈ wsL_law0_r31, w ∈ lw_tbl := in_r _ [1132, 1134, 59, 1135, 784, 785, 786, 787, 788, 789, 790, 794, 33, 795, 796, 798, 34, 799, 801, 803, 35, 804, 807, 36] (by decide +kernel)
set_option maxRecDepth 100000 in
theorem in_wsL_law0_r32 : ∀ w ∈ wsL_law0_r32, w ∈ lw_tbl := in_r _ [808, 809, 811, 37, 812, 1136, 1137, 1138, 1139, 814, 815, 816, 817, 818, 819, 820, 824, 38, 825, 1140, 1141, 1142, 1143, 406] (by decide +kernel)
set_option maxRecDepth 100000 in
theorem in_wsL_law0_r33 : ∀ w ∈ wsL_law0_r33, w ∈ lw_tbl := in_r _ [407, 408, 409, 1144, 1145, 1146, 1147, 826, 827, 828, 829, 830, 831, 832, 833, 834, 835, 1148, 1149, 1150, 1151, 857, 838, 839] (by decide +kernel)
set_option maxRecDepth 100000 in
theorem in_wsL_law0_r34 : ∀ w ∈ wsL_law0_r34, w ∈ lw_tbl := in_r _ [840, 841, 842, 843, 844, 1152, 1153, 1154, 1155] (by decide +kernel)
theorem in_wsX80 : ∀ w ∈ wsX80, w ∈ lw_tbl := by decide +kernel
theorem in_wsX90 : ∀ w ∈ wsX90, w ∈ lw_tbl := by decide +kernel
theorem in_wsX70 : ∀ w ∈ wsX70, w ∈ lw_tbl := by decide +kernel
theorem in_wsX50 : ∀ w ∈ wsX50, w ∈ lw_tbl := by decide +kernel
theorem in_wsX00 : ∀ w ∈ wsX00, w ∈ lw_tbl := by decide +kernel
theorem in_wsX40 : ∀ w ∈ wsX40, w ∈ lw_tbl := by decide +kernel
theorem in_wsX10 : ∀ w ∈ wsX10, w ∈ lw_tbl := by decide +kernel
theorem in_wsX20 : ∀ w ∈ wsX20, w ∈ lw_tbl := by decide +kernel
theorem in_wsX60 : ∀ w ∈ wsX60, w ∈ lw_tbl := by decide +kernel
theorem wsL_law_in0 : ∀ w ∈ wsL_law0, w ∈ lw_tbl := fun w h => (List.mem_append.mp h).elim (fun h => (List.mem_append.mp h).elim (fun h => (List.mem_append.mp h).elim (fun h => (List.mem_append.mp h).elim (fun h => (List.mem_append.mp h).elim (fun h => (List.mem_append.mp h).elim (fun h => (List.mem_append.mp h).elim (fun h => (List.mem_append.mp h).elim (fun h => (List.mem_append.mp h).elim (fun h => (List.mem_append.mp h).elim (fun h => (List.mem_append.mp h).elim (fun h => in_wsL_law0_r1 w h) (fun h => (List.mem_append.mp h).elim (fun h => in_wsL_law0_r2 w h) (fun h => (List.mem_append.mp h).elim (fun h => in_wsL_law0_r3 w h) (fun h => (List.mem_append.mp h).elim (fun h => in_wsL_law0_r4 w h) (fun h => (List.mem_append.mp h).elim (fun h => in_wsL_law0_r5 w h) (fun h => (List.mem_append.mp h).elim (fun h => in_wsL_law0_r6 w h) (fun h => (List.mem_append.mp h).elim (fun h => in_wsL_law0_r7 w h) (fun h => (List.mem_append.mp h).elim (fun h => in_wsL_law0_r8 w h) (fun h => (List.mem_append.mp h).elim (fun h => in_wsL_law0_r9 w h) (fun h => (List.mem_append.mp h).elim (fun h => in_wsL_law0_r10 w h) (fun h => (List.mem_append.mp h).elim (fun h => in_wsL_law0_r11 w h) (fun h => (List.mem_append.mp h).elim (fun h => in_wsL_law0_r12 w h) (fun h => (List.mem_append.mp h).elim (fun h => in_wsL_law0_r13 w h) (fun h => (List.mem_append.mp h).elim (fun h => in_wsL_law0_r14 w h) (fun h => (List.mem_append.mp h).elim (fun h => in_wsL_law0_r15 w h) (fun h => (List.mem_append.mp h).elim (fun h => in_wsL_law0_r16 w h) (fun h => (List.mem_append.mp h).elim (fun h => in_wsL_law0_r17 w h) (fun h => (List.mem_append.mp h).elim (fun h => in_wsL_law0_r18 w h) (fun h => (List.mem_append.mp h).elim (fun h => in_wsL_law0_r19 w h) (fun h => (List.mem_append.mp h).elim (fun h => in_wsL_law0_r20 w h) (fun h => (List.mem_append.mp h).elim (fun h => in_wsL_law0_r21 w h) (fun h => (List.mem_append.mp h).elim (fun h => in_wsL_law0_r22 w h) (fun h => (List.mem_append.mp h).elim (fun h => in_wsL_law0_r23 w h) (fun h => (List.mem_append.mp h).elim (fun h => in_wsL_law0_r24 w h) (fun h => (List.mem_append.mp h).elim (fun h => in_wsL_law0_r25 w h) (fun h => (List.mem_append.mp h).elim (fun h => in_wsL_law0_r26 w h) (fun h => (List.mem_append.mp h).elim (fun h => in_wsL_law0_r27 w h) (fun h => (List.mem_append.mp h).elim (fun h => in_wsL_law0_r28 w h) (fun h => (List.mem_append.mp h).elim (fun h => in_wsL_law0_r29 w h) (fun h => (List.mem_append.mp h).elim (fun h => in_wsL_law0_r30 w h) (fun h => (List.mem_append.mp h).elim (fun h => in_wsL_law0_r31 w h) (fun h => (List.mem_append.mp h).elim (fun h => in_wsL_law0_r32 w h) (fun h => (List.mem_append.mp h).elim (fun h => in_wsL_law0_r33 w h) (fun h => in_wsL_law0_r34 w h)))))))))))))))))))))))))))))))))) (fun h => in_wsX80 w h)) (fun h => in_wsX90 w h)) (fun h => in_wsX70 w h)) (fun h => in_wsX50 w h)) (fun h => in_wsX00 w h)) (fun h => in_wsX40 w h)) (fun h => in_wsX10 w h)) (fun h => in_wsX20 w h)) (fun h => in_wsX60 w h)) (fun h => absurd h List.not_mem_nil)
theorem wsL_law_x0 : ∀ w ∈ (vx_atS RX8 131 "java/lang/IndexOutOfBoundsException" ["java/lang/RuntimeException", "java/lang/Exception"]).filter goodWord, w ∈ lw_tbl := by decide +kernel
theorem wsL_law_x1 : ∀ w ∈ (vx_atS RX8 198 "java/lang/IllegalArgumentException" ["java/lang/RuntimeException", "java/lang/Exception"]).filter goodWord, w ∈ lw_tbl := by decide +kernel
theorem wsL_law_x2 : ∀ w ∈ (vx_atS RX8 95 "java/lang/IllegalStateException" ["java/lang/RuntimeException", "java/lang/Exception"]).filter goodWord, w ∈ lw_tbl := by decide +kernel
theorem wsL_law_in : ∀ w ∈ wsL_law, w ∈ lw_tbl := fun w h => (List.mem_append.mp h).elim (fun h => (List.mem_append.mp h).elim (fun h => (List.mem_append.mp h).elim (fun h => wsL_law_in0 w h) (fun h => wsL_law_x0 w h)) (fun h => wsL_law_x1 w h)) (fun h => wsL_law_x2 w h)
theorem inlX0 : ∀ w ∈ wsX00, w ∈ wsL_law := fun _ h => List.mem_append_left _ (List.mem_append_left _ (List.mem_append_left _ (List.mem_append_left _ (List.mem_append_left _ (List.mem_append_left _ (List.mem_append_left _ (List.mem_append_left _ (List.mem_append_right _ h))))))))
theorem inX0 : ∀ w ∈ wsX00, w ∈ lw_tbl := fun w h => wsL_law_in w (inlX0 w h)
theorem inlX1 : ∀ w ∈ wsX10, w ∈ wsL_law := fun _ h => List.mem_append_left _ (List.mem_append_left _ (List.mem_append_left _ (List.mem_append_left _ (List.mem_append_left _ (List.mem_append_left _ (List.mem_append_right _ h))))))
theorem inX1 : ∀ w ∈ wsX10, w ∈ lw_tbl := fun w h => wsL_law_in w (inlX1 w h)
theorem inlX2 : ∀ w ∈ wsX20, w ∈ wsL_law := fun _ h => List.mem_append_left _ (List.mem_append_left _ (List.mem_append_left _ (List.mem_append_left _ (List.mem_append_left _ (List.mem_append_right _ h)))))
theorem inX2 : ∀ w ∈ wsX20, w ∈ lw_tbl := fun w h => wsL_law_in w (inlX2 w h)
theorem inX3 : ∀ w ∈ wsX30, w ∈ lw_tbl := by decide +kernel
theorem inlX4 : ∀ w ∈ wsX40, w ∈ wsL_law := fun _ h => List.mem_append_left _ (List.mem_append_left _ (List.mem_append_left _ (List.mem_append_left _ (List.mem_append_left _ (List.mem_append_left _ (List.mem_append_left _ (List.mem_append_right _ h)))))))
theorem inX4 : ∀ w ∈ wsX40, w ∈ lw_tbl := fun w h => wsL_law_in w (inlX4 w h)
theorem inlX5 : ∀ w ∈ wsX50, w ∈ wsL_law := fun _ h => List.mem_append_left _ (List.mem_append_left _ (List.mem_append_left _ (List.mem_append_left _ (List.mem_append_left _ (List.mem_append_left _ (List.mem_append_left _ (List.mem_append_left _ (List.mem_append_left _ (List.mem_append_right _ h)))))))))
theorem inX5 : ∀ w ∈ wsX50, w ∈ lw_tbl := fun w h => wsL_law_in w (inlX5 w h)
theorem inlX6 : ∀ w ∈ wsX60, w ∈ wsL_law := fun _ h => List.mem_append_left _ (List.mem_append_left _ (List.mem_append_left _ (List.mem_append_left _ (List.mem_append_right _ h))))
theorem inX6 : ∀ w ∈ wsX60, w ∈ lw_tbl := fun w h => wsL_law_in w (inlX6 w h)
theorem inlX7 : ∀ w ∈ wsX70, w ∈ wsL_law := fun _ h => List.mem_append_left _ (List.mem_append_left _ (List.mem_append_left _ (List.mem_append_left _ (List.mem_append_left _ (List.mem_append_left _ (List.mem_append_left _ (List.mem_append_left _ (List.mem_append_left _ (List.mem_append_left _ (List.mem_append_right _ h))))))))))
theorem inX7 : ∀ w ∈ wsX70, w ∈ lw_tbl := fun w h => wsL_law_in w (inlX7 w h)
theorem inlX8 : ∀ w ∈ wsX80, w ∈ wsL_law := fun _ h => List.mem_append_left _ (List.mem_append_left _ (List.mem_append_left _ (List.mem_append_left _ (List.mem_append_left _ (List.mem_append_left _ (List.mem_append_left _ (List.mem_append_left _ (List.mem_append_left _ (List.mem_append_left _ (List.mem_append_left _ (List.mem_append_left _ (List.mem_append_right _ h))))))))))))
theorem inX8 : ∀ w ∈ wsX80, w ∈ lw_tbl := fun w h => wsL_law_in w (inlX8 w h)
theorem inlX9 : ∀ w ∈ wsX90, w ∈ wsL_law := fun _ h => List.mem_append_left _ (List.mem_append_left _ (List.mem_append_left _ (List.mem_append_left _ (List.mem_append_left _ (List.mem_append_left _ (List.mem_append_left _ (List.mem_append_left _ (List.mem_append_left _ (List.mem_append_left _ (List.mem_append_left _ (List.mem_append_right _ h)))))))))))
theorem inX9 : ∀ w ∈ wsX90, w ∈ lw_tbl := fun w h => wsL_law_in w (inlX9 w h)
theorem inJ9 : ∀ w ∈ wsJ90, w ∈ lw_tbl := by decide +kernel
theorem inJ0 : ∀ w ∈ wsJ00, w ∈ lw_tbl := by decide +kernel
theorem inJ10 : ∀ w ∈ wsJ100, w ∈ lw_tbl := by decide +kernel

