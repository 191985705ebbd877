set_option maxRecDepth 20000 in
theorem ggL_law_X8_init : GoodIn wsL_law wsX8_init := goodIn_r _ [10, 11, 12, 13, 14, 15, 16, 17, 18, 19, 20, 21, 22, 23, 24, 25, 26, 27, 28, 29, 30, 31, 32, 33, 34, 35, 36, 37, 38, 39, 40, 41, 42, 43, 44, 45, 46, 47, 48, 49, 50, 51, 52, 53, 54, 55, 56, 57, 58, 59, 60, 61, 62, 63, 64, 65, 66, 67, 68, 69, 70, 71, 72, 73, 74, 75, 76, 77, 78, 79, 80, 81, 82, 83, 84, 85, 86, 87, 88, 89, 90, 91, 92, 93, 94, 95, 96, 828, 829, 830, 831, 832, 833, 834, 835, 836, 837, 805, 806, 807, 808, 809, 810, 811, 812, 838, 839, 840, 841, 842, 843, 844, 845, 846, 847, 848, 849, 850, 851, 852, 853] (by decide +kernel) (by decide +kernel)
set_option maxRecDepth 20000 in
theorem gL_law_X8_init : GoodIn wsL_law (wsX8_init) := ggL_law_X8_init
set_option maxRecDepth 20000 in
theorem ggL_law_X9_init : GoodIn wsL_law wsX9_init := goodIn_r _ [99, 100, 12, 13, 50, 101, 102, 103, 104, 105, 813, 814, 815, 816, 817, 818, 819, 820, 821, 822, 823, 824, 825, 826, 827] (by decide +kernel) (by decide +kernel)
set_option maxRecDepth 20000 in
theorem gL_law_X9_init : GoodIn wsL_law (wsX9_init) := ggL_law_X9_init
set_option maxRecDepth 20000 in
theorem ggL_law_L_draw : GoodIn wsL_law wsL_draw := goodIn_ca (goodIn_ca (goodIn_r _ [109, 110, 111, 112, 113, 114, 2, 115, 37, 17, 116, 117, 118, 119, 120, 121, 122, 123, 124, 125, 126, 36, 127, 128, 89, 90, 129, 130, 131, 132, 133, 134, 135, 136, 88, 137, 16, 138, 139, 47, 48, 49, 51, 140, 141, 142, 143, 52, 53, 54, 55, 56, 57, 144, 28, 145, 146, 61, 147, 148, 149, 150, 805, 806, 807, 808, 809, 810, 811, 812, 828, 829, 830, 831, 832, 833, 834, 835, 836, 837, 849, 850, 851, 846] (by decide +kernel) (by decide +kernel)) (goodIn_sub (fun _ h => List.mem_append_left _ (List.mem_append_left _ (List.mem_append_right _ h))) (by decide +kernel))) (goodIn_sub (fun _ h => List.mem_append_left _ (List.mem_append_right _ h)) (by decide +kernel))
set_option maxRecDepth 20000 in
theorem gL_law_L_draw : GoodIn wsL_law (va_wsS RL 94 yL_draw wsL_draw) := goodIn_app (goodIn_of _ (by decide +kernel)) ggL_law_L_draw
set_option maxRecDepth 20000 in
theorem ggL_law_X9_draw : GoodIn wsL_law wsX9_draw := goodIn_r _ [154, 155, 156, 5, 157, 158, 159, 160, 161, 162, 163, 164, 165, 166, 167, 168, 169, 170, 102, 101, 171, 172, 173, 174, 813, 814, 815, 816, 817, 818, 819, 820, 821, 822, 823, 824, 825, 826, 827] (by decide +kernel) (by decide +kernel)
set_option maxRecDepth 20000 in
theorem gL_law_X9_draw : GoodIn wsL_law (wsV RL 99 RX9 yX9_draw wsX9_draw) := goodIn_app (goodIn_of _ (by decide +kernel)) ggL_law_X9_draw
set_option maxRecDepth 20000 in
theorem ggL_law_X9_thrown : GoodIn wsL_law wsX9_thrown := goodIn_r _ [178, 165, 813, 814, 815, 816, 817, 818, 819, 820, 821, 822, 823, 824, 825, 826, 827] (by decide +kernel) (by decide +kernel)
set_option maxRecDepth 20000 in
theorem gL_law_X9_thrown : GoodIn wsL_law (wsV RL 100 RX9 yX9_thrown wsX9_thrown) := goodIn_app (goodIn_of _ (by decide +kernel)) ggL_law_X9_thrown
set_option maxRecDepth 20000 in
theorem ggL_law_L_fill : GoodIn wsL_law wsL_fill := goodIn_ca (goodIn_ca (goodIn_r _ [181, 110, 111, 182, 183, 184, 2, 185, 37, 17, 116, 117, 118, 119, 120, 121, 122, 123, 124, 125, 126, 36, 127, 128, 89, 90, 129, 130, 131, 132, 133, 134, 135, 136, 88, 137, 16, 138, 139, 47, 48, 49, 51, 140, 141, 142, 143, 52, 53, 54, 55, 56, 57, 144, 28, 145, 146, 61, 147, 186, 187, 188, 189, 148, 149, 150, 805, 806, 807, 808, 809, 810, 811, 812, 828, 829, 830, 831, 832, 833, 834, 835, 836, 837, 849, 850, 851, 846] (by decide +kernel) (by decide +kernel)) (goodIn_sub (fun _ h => List.mem_append_left _ (List.mem_append_left _ (List.mem_append_right _ h))) (by decide +kernel))) (goodIn_sub (fun _ h => List.mem_append_left _ (List.mem_append_right _ h)) (by decide +kernel))
set_option maxRecDepth 20000 in
theorem gL_law_L_fill : GoodIn wsL_law (va_wsS RL 103 yL_fill wsL_fill) := goodIn_app (goodIn_of _ (by decide +kernel)) ggL_law_L_fill
set_option maxRecDepth 20000 in
theorem ggL_law_X9_fill : GoodIn wsL_law wsX9_fill := goodIn_r _ [193, 155, 156, 5, 157, 158, 159, 160, 161, 162, 163, 164, 165, 166, 167, 168, 169, 170, 102, 101, 171, 172, 173, 174, 813, 814, 815, 816, 817, 818, 819, 820, 821, 822, 823, 824, 825, 826, 827] (by decide +kernel) (by decide +kernel)
set_option maxRecDepth 20000 in
theorem gL_law_X9_fill : GoodIn wsL_law (wsV RL 106 RX9 yX9_fill wsX9_fill) := goodIn_app (goodIn_of _ (by decide +kernel)) ggL_law_X9_fill
set_option maxRecDepth 20000 in
theorem ggL_law_L_scroll : GoodIn wsL_law wsL_scroll := goodIn_ca (goodIn_r _ [196, 111, 197, 198, 199, 2, 200, 37, 17, 121, 122, 123, 124, 125, 126, 36, 127, 128, 89, 90, 129, 130, 131, 132, 133, 134, 135, 136, 88, 137, 16, 138, 139, 47, 48, 49, 51, 140, 141, 142, 143, 52, 53, 54, 55, 56, 57, 144, 28, 145, 146, 61, 147, 201, 202, 203, 204, 29, 205, 206, 207, 208, 209, 210, 211, 189, 148, 149, 150, 805, 806, 807, 808, 809, 810, 811, 812, 849, 850, 851, 828, 829, 830, 831, 832, 833, 834, 835, 836, 837, 846] (by decide +kernel) (by decide +kernel)) (goodIn_sub (fun _ h => List.mem_append_left _ (List.mem_append_right _ h)) (by decide +kernel))
set_option maxRecDepth 20000 in
theorem gL_law_L_scroll : GoodIn wsL_law (va_wsS RL 107 yL_scroll wsL_scroll) := goodIn_app (goodIn_of _ (by decide +kernel)) ggL_law_L_scroll
set_option maxRecDepth 20000 in
theorem ggL_law_X9_scroll : GoodIn wsL_law wsX9_scroll := goodIn_r _ [215, 158, 159, 5, 160, 161, 162, 163, 164, 165, 166, 167, 168, 169, 170, 102, 101, 216, 217, 218, 219, 105, 220, 221, 222, 223, 224, 225, 813, 814, 815, 816, 817, 818, 819, 820, 821, 822, 823, 824, 825, 826, 827] (by decide +kernel) (by decide +kernel)
set_option maxRecDepth 20000 in
theorem gL_law_X9_scroll : GoodIn wsL_law (wsV RL 109 RX9 yX9_scroll wsX9_scroll) := goodIn_app (goodIn_of _ (by decide +kernel)) ggL_law_X9_scroll
set_option maxRecDepth 20000 in
theorem ggL_law_L_send : GoodIn wsL_law wsL_send := goodIn_ca (goodIn_r _ [228, 229, 230, 231, 232, 2, 233, 234, 235, 37, 17, 236, 237, 238, 239, 126, 36, 127, 128, 89, 90, 129, 130, 131, 132, 133, 134, 135, 136, 88, 137, 16, 138, 139, 47, 48, 49, 51, 140, 141, 142, 143, 52, 53, 54, 55, 56, 57, 144, 28, 145, 146, 61, 147, 240, 241, 242, 243, 21, 244, 20, 245, 246, 71, 247, 248, 249, 250, 251, 252, 253, 66, 70, 254, 255, 256, 257, 258, 259, 260, 261, 262, 263, 264, 265, 266, 267, 268, 269, 270, 271, 209, 210, 211, 272, 273, 274, 275, 276, 277, 278, 65, 68, 69, 148, 149, 150, 279, 280, 281, 282, 283, 284, 285, 286, 287, 288, 289, 290, 291, 292, 293, 294, 295, 296, 297, 29, 298, 299, 300, 301, 302, 303, 304, 305, 306, 307, 308, 309, 310, 311, 312, 313, 314, 315, 316, 317, 318, 319, 320, 321, 805, 806, 807, 808, 809, 810, 811, 812, 828, 829, 830, 831, 832, 833, 834, 835, 836, 837, 849, 850, 851, 846, 838, 839, 840, 841, 842, 843] (by decide +kernel) (by decide +kernel)) (goodIn_sub (fun _ h => List.mem_append_right _ h) (by decide +kernel))
set_option maxRecDepth 20000 in
theorem gL_law_L_send : GoodIn wsL_law (va_wsS RL 110 yL_send wsL_send) := goodIn_app (goodIn_of _ (by decide +kernel)) ggL_law_L_send
set_option maxRecDepth 20000 in
theorem ggL_law_X9_send : GoodIn wsL_law wsX9_send := goodIn_r _ [325, 101, 161, 162, 163, 5, 164, 165, 166, 167, 168, 169, 170, 102, 326, 327, 328, 329, 105, 330, 331, 332, 333, 334, 335, 336, 337, 338, 339, 340, 341, 342, 343, 344, 345, 346, 347, 348, 349, 350, 351, 352, 353, 354, 355, 356, 357, 358, 359, 360, 361, 362, 363, 364, 220, 221, 222, 223, 224, 225, 365, 366, 367, 368, 369, 370, 371, 372, 373, 374, 375, 376, 377, 378, 379, 380, 381, 813, 814, 815, 816, 817, 818, 819, 820, 821, 822, 823, 824, 825, 826, 827] (by decide +kernel) (by decide +kernel)
set_option maxRecDepth 20000 in
theorem gL_law_X9_send : GoodIn wsL_law (wsV RL 113 RX9 yX9_send wsX9_send) := goodIn_app (goodIn_of _ (by decide +kernel)) ggL_law_X9_send
set_option maxRecDepth 20000 in
theorem ggL_law_L_setBudget : GoodIn wsL_law wsL_setBudget := goodIn_ca (goodIn_r _ [384, 111, 385, 386, 387, 2, 388, 37, 17, 121, 122, 123, 124, 125, 126, 36, 127, 128, 89, 90, 129, 130, 131, 132, 133, 134, 135, 136, 88, 137, 16, 138, 139, 47, 48, 49, 51, 140, 141, 142, 143, 52, 53, 54, 55, 56, 57, 144, 28, 145, 146, 61, 147, 805, 806, 807, 808, 809, 810, 811, 812, 828, 829, 830, 831, 832, 833, 834, 835, 836, 837, 849, 850, 851, 846] (by decide +kernel) (by decide +kernel)) (goodIn_sub (fun _ h => List.mem_append_left _ (List.mem_append_right _ h)) (by decide +kernel))
set_option maxRecDepth 20000 in
theorem gL_law_L_setBudget : GoodIn wsL_law (va_wsS RL 114 yL_setBudget wsL_setBudget) := goodIn_app (goodIn_of _ (by decide +kernel)) ggL_law_L_setBudget
set_option maxRecDepth 20000 in
theorem ggL_law_X9_setBudget : GoodIn wsL_law wsX9_setBudget := goodIn_r _ [392, 101, 158, 159, 5, 160, 161, 162, 163, 164, 165, 166, 167, 168, 169, 170, 102, 813, 814, 815, 816, 817, 818, 819, 820, 821, 822, 823, 824, 825, 826, 827] (by decide +kernel) (by decide +kernel)
set_option maxRecDepth 20000 in
theorem gL_law_X9_setBudget : GoodIn wsL_law (wsV RL 117 RX9 yX9_setBudget wsX9_setBudget) := goodIn_app (goodIn_of _ (by decide +kernel)) ggL_law_X9_setBudget
set_option maxRecDepth 20000 in
theorem ggL_law_L_setKeyDistance : GoodIn wsL_law wsL_setKeyDistance := goodIn_ca (goodIn_r _ [395, 111, 396, 397, 398, 2, 399, 37, 17, 121, 122, 123, 124, 125, 126, 36, 127, 128, 89, 90, 129, 130, 131, 132, 133, 134, 135, 136, 88, 137, 16, 138, 139, 47, 48, 49, 51, 140, 141, 142, 143, 52, 53, 54, 55, 56, 57, 144, 28, 145, 146, 61, 147, 805, 806, 807, 808, 809, 810, 811, 812, 828, 829, 830, 831, 832, 833, 834, 835, 836, 837, 849, 850, 851, 846] (by decide +kernel) (by decide +kernel)) (goodIn_sub (fun _ h => List.mem_append_left _ (List.mem_append_right _ h)) (by decide +kernel))
set_option maxRecDepth 20000 in
theorem gL_law_L_setKeyDistance : GoodIn wsL_law (va_wsS RL 118 yL_setKeyDistance wsL_setKeyDistance) := goodIn_app (goodIn_of _ (by decide +kernel)) ggL_law_L_setKeyDistance
set_option maxRecDepth 20000 in
theorem ggL_law_X9_setKeyDistance : GoodIn wsL_law wsX9_setKeyDistance := goodIn_r _ [403, 101, 158, 159, 5, 160, 161, 162, 163, 164, 165, 166, 167, 168, 169, 170, 102, 813, 814, 815, 816, 817, 818, 819, 820, 821, 822, 823, 824, 825, 826, 827] (by decide +kernel) (by decide +kernel)
set_option maxRecDepth 20000 in
theorem gL_law_X9_setKeyDistance : GoodIn wsL_law (wsV RL 120 RX9 yX9_setKeyDistance wsX9_setKeyDistance) := goodIn_app (goodIn_of _ (by decide +kernel)) ggL_law_X9_setKeyDistance
set_option maxRecDepth 20000 in
theorem ggL_law_L_drawnAt : GoodIn wsL_law wsL_drawnAt := goodIn_ca (goodIn_r _ [406, 110, 407, 408, 409, 2, 410, 17, 116, 117, 118, 119, 120, 269, 28, 270, 271, 61, 805, 806, 807, 808, 809, 810, 811, 812, 828, 829, 830, 831, 832, 833, 834, 835, 836, 837, 846] (by decide +kernel) (by decide +kernel)) (goodIn_sub (fun _ h => List.mem_append_left _ (List.mem_append_left _ (List.mem_append_right _ h))) (by decide +kernel))
set_option maxRecDepth 20000 in
theorem gL_law_L_drawnAt : GoodIn wsL_law (va_wsS RL 121 yL_drawnAt wsL_drawnAt) := goodIn_app (goodIn_of _ (by decide +kernel)) ggL_law_L_drawnAt
set_option maxRecDepth 20000 in
theorem ggL_law_X9_drawnAt : GoodIn wsL_law wsX9_drawnAt := goodIn_r _ [414, 101, 155, 156, 5, 157, 158, 159, 160, 161, 162, 163, 164, 165, 813, 814, 815, 816, 817, 818, 819, 820, 821, 822, 823, 824, 825, 826, 827] (by decide +kernel) (by decide +kernel)
set_option maxRecDepth 20000 in
theorem gL_law_X9_drawnAt : GoodIn wsL_law (wsV RL 123 RX9 yX9_drawnAt wsX9_drawnAt) := goodIn_app (goodIn_of _ (by decide +kernel)) ggL_law_X9_drawnAt
set_option maxRecDepth 20000 in
theorem ggL_law_L_sentAt : GoodIn wsL_law wsL_sentAt := goodIn_ca (goodIn_r _ [417, 110, 418, 419, 420, 2, 421, 17, 116, 117, 118, 119, 120, 269, 28, 270, 271, 61, 805, 806, 807, 808, 809, 810, 811, 812, 828, 829, 830, 831, 832, 833, 834, 835, 836, 837, 846] (by decide +kernel) (by decide +kernel)) (goodIn_sub (fun _ h => List.mem_append_left _ (List.mem_append_left _ (List.mem_append_right _ h))) (by decide +kernel))
set_option maxRecDepth 20000 in
theorem gL_law_L_sentAt : GoodIn wsL_law (va_wsS RL 124 yL_sentAt wsL_sentAt) := goodIn_app (goodIn_of _ (by decide +kernel)) ggL_law_L_sentAt
set_option maxRecDepth 20000 in
theorem ggL_law_X9_sentAt : GoodIn wsL_law wsX9_sentAt := goodIn_r _ [425, 101, 155, 156, 5, 157, 158, 159, 160, 161, 162, 163, 164, 165, 813, 814, 815, 816, 817, 818, 819, 820, 821, 822, 823, 824, 825, 826, 827] (by decide +kernel) (by decide +kernel)
set_option maxRecDepth 20000 in
theorem gL_law_X9_sentAt : GoodIn wsL_law (wsV RL 126 RX9 yX9_sentAt wsX9_sentAt) := goodIn_app (goodIn_of _ (by decide +kernel)) ggL_law_X9_sentAt
set_option maxRecDepth 20000 in
theorem ggL_law_L_receivedAt : GoodIn wsL_law wsL_receivedAt := goodIn_ca (goodIn_r _ [428, 110, 429, 430, 431, 2, 432, 17, 116, 117, 118, 119, 120, 269, 28, 270, 271, 61, 805, 806, 807, 808, 809, 810, 811, 812, 828, 829, 830, 831, 832, 833, 834, 835, 836, 837, 846] (by decide +kernel) (by decide +kernel)) (goodIn_sub (fun _ h => List.mem_append_left _ (List.mem_append_left _ (List.mem_append_right _ h))) (by decide +kernel))
set_option maxRecDepth 20000 in
theorem gL_law_L_receivedAt : GoodIn wsL_law (va_wsS RL 127 yL_receivedAt wsL_receivedAt) := goodIn_app (goodIn_of _ (by decide +kernel)) ggL_law_L_receivedAt
set_option maxRecDepth 20000 in
theorem ggL_law_X9_receivedAt : GoodIn wsL_law wsX9_receivedAt := goodIn_r _ [436, 101, 155, 156, 5, 157, 158, 159, 160, 161, 162, 163, 164, 165, 813, 814, 815, 816, 817, 818, 819, 820, 821, 822, 823, 824, 825, 826, 827] (by decide +kernel) (by decide +kernel)
set_option maxRecDepth 20000 in
theorem gL_law_X9_receivedAt : GoodIn wsL_law (wsV RL 129 RX9 yX9_receivedAt wsX9_receivedAt) := goodIn_app (goodIn_of _ (by decide +kernel)) ggL_law_X9_receivedAt
set_option maxRecDepth 20000 in
theorem ggL_law_X8_error : GoodIn wsL_law wsX8_error := goodIn_r _ [440, 17, 269, 28, 270, 271, 61, 805, 806, 807, 808, 809, 810, 811, 812, 828, 829, 830, 831, 832, 833, 834, 835, 836, 837, 846] (by decide +kernel) (by decide +kernel)
set_option maxRecDepth 20000 in
theorem gL_law_X8_error : GoodIn wsL_law (wsV RL 130 RX8 yX8_error wsX8_error) := goodIn_app (goodIn_of _ (by decide +kernel)) ggL_law_X8_error
set_option maxRecDepth 20000 in
theorem ggL_law_X9_error : GoodIn wsL_law wsX9_error := goodIn_r _ [444, 165, 101, 813, 814, 815, 816, 817, 818, 819, 820, 821, 822, 823, 824, 825, 826, 827] (by decide +kernel) (by decide +kernel)
set_option maxRecDepth 20000 in
theorem gL_law_X9_error : GoodIn wsL_law (wsV RL 133 RX9 yX9_error wsX9_error) := goodIn_app (goodIn_of _ (by decide +kernel)) ggL_law_X9_error
set_option maxRecDepth 20000 in
theorem ggL_law_X8_drift : GoodIn wsL_law wsX8_drift := goodIn_r _ [448, 17, 449, 261, 131, 262, 269, 28, 270, 271, 61, 805, 806, 807, 808, 809, 810, 811, 812, 828, 829, 830, 831, 832, 833, 834, 835, 836, 837, 846] (by decide +kernel) (by decide +kernel)
set_option maxRecDepth 20000 in
theorem gL_law_X8_drift : GoodIn wsL_law (wsV RL 134 RX8 yX8_drift wsX8_drift) := goodIn_app (goodIn_of _ (by decide +kernel)) ggL_law_X8_drift
set_option maxRecDepth 20000 in
theorem ggL_law_X9_drift : GoodIn wsL_law wsX9_drift := goodIn_r _ [453, 165, 101, 365, 366, 5, 367, 813, 814, 815, 816, 817, 818, 819, 820, 821, 822, 823, 824, 825, 826, 827] (by decide +kernel) (by decide +kernel)
set_option maxRecDepth 20000 in
theorem gL_law_X9_drift : GoodIn wsL_law (wsV RL 137 RX9 yX9_drift wsX9_drift) := goodIn_app (goodIn_of _ (by decide +kernel)) ggL_law_X9_drift
set_option maxRecDepth 20000 in
theorem ggL_law_L_distance : GoodIn wsL_law wsL_distance := goodIn_ca (goodIn_r _ [456, 110, 457, 458, 459, 2, 460, 119, 120, 17, 461, 462, 463, 258, 255, 259, 260, 261, 131, 262, 263, 264, 265, 266, 267, 268, 269, 28, 270, 271, 61, 209, 210, 211, 805, 806, 807, 808, 809, 810, 811, 812, 828, 829, 830, 831, 832, 833, 834, 835, 836, 837, 846] (by decide +kernel) (by decide +kernel)) (goodIn_sub (fun _ h => List.mem_append_left _ (List.mem_append_left _ (List.mem_append_right _ h))) (by decide +kernel))
set_option maxRecDepth 20000 in
theorem gL_law_L_distance : GoodIn wsL_law (va_wsS RL 138 yL_distance wsL_distance) := goodIn_app (goodIn_of _ (by decide +kernel)) ggL_law_L_distance
set_option maxRecDepth 20000 in
theorem ggL_law_X9_distance : GoodIn wsL_law wsX9_distance := goodIn_r _ [467, 468, 469, 5, 470, 158, 159, 160, 161, 162, 163, 164, 165, 354, 355, 356, 357, 101, 358, 359, 360, 361, 362, 363, 364, 220, 221, 222, 223, 224, 225, 365, 366, 367, 813, 814, 815, 816, 817, 818, 819, 820, 821, 822, 823, 824, 825, 826, 827] (by decide +kernel) (by decide +kernel)
set_option maxRecDepth 20000 in
theorem gL_law_X9_distance : GoodIn wsL_law (wsV RL 140 RX9 yX9_distance wsX9_distance) := goodIn_app (goodIn_of _ (by decide +kernel)) ggL_law_X9_distance
set_option maxRecDepth 20000 in
theorem ggL_law_L_bestMove : GoodIn wsL_law wsL_bestMove := goodIn_ca (goodIn_r _ [473, 110, 474, 475, 476, 2, 477, 17, 461, 462, 463, 119, 120, 254, 255, 256, 257, 258, 259, 260, 261, 131, 262, 263, 264, 265, 266, 267, 268, 269, 28, 270, 271, 61, 209, 210, 211, 272, 273, 274, 805, 806, 807, 808, 809, 810, 811, 812, 828, 829, 830, 831, 832, 833, 834, 835, 836, 837, 846] (by decide +kernel) (by decide +kernel)) (goodIn_sub (fun _ h => List.mem_append_left _ (List.mem_append_left _ (List.mem_append_right _ h))) (by decide +kernel))
set_option maxRecDepth 20000 in
theorem gL_law_L_bestMove : GoodIn wsL_law (va_wsS RL 141 yL_bestMove wsL_bestMove) := goodIn_app (goodIn_of _ (by decide +kernel)) ggL_law_L_bestMove
set_option maxRecDepth 20000 in
theorem ggL_law_X9_bestMove : GoodIn wsL_law wsX9_bestMove := goodIn_r _ [481, 468, 469, 5, 470, 158, 159, 160, 161, 162, 163, 164, 165, 350, 351, 352, 353, 354, 355, 356, 357, 101, 358, 359, 360, 361, 362, 363, 364, 220, 221, 222, 223, 224, 225, 365, 366, 367, 368, 369, 370, 813, 814, 815, 816, 817, 818, 819, 820, 821, 822, 823, 824, 825, 826, 827] (by decide +kernel) (by decide +kernel)
set_option maxRecDepth 20000 in
theorem gL_law_X9_bestMove : GoodIn wsL_law (wsV RL 143 RX9 yX9_bestMove wsX9_bestMove) := goodIn_app (goodIn_of _ (by decide +kernel)) ggL_law_X9_bestMove
set_option maxRecDepth 20000 in
theorem ggL_law_L_bestMoveByStopping : GoodIn wsL_law wsL_bestMoveByStopping := goodIn_ca (goodIn_r _ [484, 110, 485, 486, 487, 2, 488, 17, 461, 462, 463, 119, 120, 489, 255, 490, 491, 492, 493, 494, 260, 261, 131, 262, 267, 268, 263, 264, 265, 266, 209, 28, 210, 211, 61, 269, 270, 271, 805, 806, 807, 808, 809, 810, 811, 812, 828, 829, 830, 831, 832, 833, 834, 835, 836, 837, 846] (by decide +kernel) (by decide +kernel)) (goodIn_sub (fun _ h => List.mem_append_left _ (List.mem_append_left _ (List.mem_append_right _ h))) (by decide +kernel))
set_option maxRecDepth 20000 in
theorem gL_law_L_bestMoveByStopping : GoodIn wsL_law (va_wsS RL 144 yL_bestMoveByStopping wsL_bestMoveByStopping) := goodIn_app (goodIn_of _ (by decide +kernel)) ggL_law_L_bestMoveByStopping
set_option maxRecDepth 20000 in
theorem ggL_law_X9_bestMoveByStopping : GoodIn wsL_law wsX9_bestMoveByStopping := goodIn_r _ [498, 499, 479, 480, 5, 481, 468, 469, 470, 158, 159, 160, 161, 162, 163, 164, 165, 350, 351, 352, 353, 354, 355, 356, 357, 101, 358, 359, 360, 361, 362, 363, 364, 220, 221, 222, 223, 224, 225, 365, 366, 367, 368, 369, 370, 813, 814, 815, 816, 817, 818, 819, 820, 821, 822, 823, 824, 825, 826, 827] (by decide +kernel) (by decide +kernel)
set_option maxRecDepth 20000 in
theorem gL_law_X9_bestMoveByStopping : GoodIn wsL_law (wsV RL 146 RX9 yX9_bestMoveByStopping wsX9_bestMoveByStopping) := goodIn_app (goodIn_of _ (by decide +kernel)) ggL_law_X9_bestMoveByStopping
set_option maxRecDepth 20000 in
theorem ggL_law_L_equalMoves : GoodIn wsL_law wsL_equalMoves := goodIn_ca (goodIn_r _ [502, 110, 503, 504, 505, 2, 506, 17, 461, 462, 463, 119, 120, 507, 255, 508, 257, 258, 259, 260, 261, 131, 262, 263, 264, 265, 266, 267, 268, 269, 28, 270, 271, 61, 209, 210, 211, 805, 806, 807, 808, 809, 810, 811, 812, 828, 829, 830, 831, 832, 833, 834, 835, 836, 837, 846] (by decide +kernel) (by decide +kernel)) (goodIn_sub (fun _ h => List.mem_append_left _ (List.mem_append_left _ (List.mem_append_right _ h))) (by decide +kernel))
set_option maxRecDepth 20000 in
theorem gL_law_L_equalMoves : GoodIn wsL_law (va_wsS RL 147 yL_equalMoves wsL_equalMoves) := goodIn_app (goodIn_of _ (by decide +kernel)) ggL_law_L_equalMoves
set_option maxRecDepth 20000 in
theorem ggL_law_X9_equalMoves : GoodIn wsL_law wsX9_equalMoves := goodIn_r _ [512, 468, 469, 5, 470, 158, 159, 160, 161, 162, 163, 164, 165, 350, 351, 352, 353, 354, 355, 356, 357, 101, 358, 359, 360, 361, 362, 363, 364, 220, 221, 222, 223, 224, 225, 365, 366, 367, 368, 369, 370, 813, 814, 815, 816, 817, 818, 819, 820, 821, 822, 823, 824, 825, 826, 827] (by decide +kernel) (by decide +kernel)
set_option maxRecDepth 20000 in
theorem gL_law_X9_equalMoves : GoodIn wsL_law (wsV RL 149 RX9 yX9_equalMoves wsX9_equalMoves) := goodIn_app (goodIn_of _ (by decide +kernel)) ggL_law_X9_equalMoves
set_option maxRecDepth 20000 in
theorem ggL_law_X8_isKeyNext : GoodIn wsL_law wsX8_isKeyNext := goodIn_r _ [516, 17, 247, 16, 248, 249, 54, 55, 805, 806, 807, 808, 809, 810, 811, 812, 828, 829, 830, 831, 832, 833, 834, 835, 836, 837] (by decide +kernel) (by decide +kernel)
set_option maxRecDepth 20000 in
theorem gL_law_X8_isKeyNext : GoodIn wsL_law (wsV RL 150 RX8 yX8_isKeyNext wsX8_isKeyNext) := goodIn_app (goodIn_of _ (by decide +kernel)) ggL_law_X8_isKeyNext
set_option maxRecDepth 20000 in
theorem ggL_law_X9_isKeyNext : GoodIn wsL_law wsX9_isKeyNext := goodIn_r _ [520, 165, 330, 331, 332, 5, 333, 101, 813, 814, 815, 816, 817, 818, 819, 820, 821, 822, 823, 824, 825, 826, 827] (by decide +kernel) (by decide +kernel)
set_option maxRecDepth 20000 in
theorem gL_law_X9_isKeyNext : GoodIn wsL_law (wsV RL 154 RX9 yX9_isKeyNext wsX9_isKeyNext) := goodIn_app (goodIn_of _ (by decide +kernel)) ggL_law_X9_isKeyNext
set_option maxRecDepth 20000 in
theorem ggL_law_L_kindWith : GoodIn wsL_law wsL_kindWith := goodIn_ca (goodIn_ca (goodIn_r _ [523, 110, 111, 524, 525, 526, 2, 527, 21, 17, 461, 462, 463, 119, 120, 121, 122, 123, 124, 125, 254, 255, 256, 257, 258, 259, 260, 261, 131, 262, 263, 264, 265, 266, 267, 268, 269, 28, 270, 271, 61, 209, 210, 211, 272, 273, 274, 276, 20, 277, 278, 65, 68, 69, 148, 149, 150, 284, 285, 286, 66, 287, 288, 289, 290, 291, 292, 293, 306, 307, 308, 805, 806, 807, 808, 809, 810, 811, 812, 828, 829, 830, 831, 832, 833, 834, 835, 836, 837, 846, 838, 839, 840, 841, 842, 843] (by decide +kernel) (by decide +kernel)) (goodIn_sub (fun _ h => List.mem_append_left _ (List.mem_append_left _ (List.mem_append_right _ h))) (by decide +kernel))) (goodIn_sub (fun _ h => List.mem_append_left _ (List.mem_append_right _ h)) (by decide +kernel))
set_option maxRecDepth 20000 in
theorem gL_law_L_kindWith : GoodIn wsL_law (va_wsS RL 155 yL_kindWith wsL_kindWith) := goodIn_app (goodIn_of _ (by decide +kernel)) ggL_law_L_kindWith
set_option maxRecDepth 20000 in
theorem ggL_law_X9_kindWith : GoodIn wsL_law wsX9_kindWith := goodIn_r _ [531, 532, 533, 534, 5, 535, 468, 469, 470, 158, 159, 160, 161, 162, 163, 164, 165, 346, 347, 348, 349, 350, 351, 352, 353, 354, 355, 356, 357, 101, 358, 359, 360, 361, 362, 363, 364, 220, 221, 222, 223, 224, 225, 365, 366, 367, 368, 369, 370, 371, 372, 373, 374, 375, 376, 377, 378, 379, 380, 381, 813, 814, 815, 816, 817, 818, 819, 820, 821, 822, 823, 824, 825, 826, 827] (by decide +kernel) (by decide +kernel)
set_option maxRecDepth 20000 in
theorem gL_law_X9_kindWith : GoodIn wsL_law (wsV RL 157 RX9 yX9_kindWith wsX9_kindWith) := goodIn_app (goodIn_of _ (by decide +kernel)) ggL_law_X9_kindWith
set_option maxRecDepth 20000 in
theorem ggL_law_L_bitsWith : GoodIn wsL_law wsL_bitsWith := goodIn_ca (goodIn_ca (goodIn_r _ [538, 110, 111, 539, 540, 541, 2, 542, 21, 17, 461, 462, 463, 119, 120, 121, 122, 123, 124, 125, 254, 255, 256, 257, 258, 259, 260, 261, 131, 262, 263, 264, 265, 266, 267, 268, 269, 28, 270, 271, 61, 209, 210, 211, 272, 273, 274, 276, 20, 277, 278, 65, 68, 69, 148, 149, 150, 284, 285, 286, 66, 287, 288, 289, 290, 291, 292, 293, 805, 806, 807, 808, 809, 810, 811, 812, 828, 829, 830, 831, 832, 833, 834, 835, 836, 837, 846, 838, 839, 840, 841, 842, 843] (by decide +kernel) (by decide +kernel)) (goodIn_sub (fun _ h => List.mem_append_left _ (List.mem_append_left _ (List.mem_append_right _ h))) (by decide +kernel))) (goodIn_sub (fun _ h => List.mem_append_left _ (List.mem_append_right _ h)) (by decide +kernel))
set_option maxRecDepth 20000 in
theorem gL_law_L_bitsWith : GoodIn wsL_law (va_wsS RL 158 yL_bitsWith wsL_bitsWith) := goodIn_app (goodIn_of _ (by decide +kernel)) ggL_law_L_bitsWith
set_option maxRecDepth 20000 in
theorem ggL_law_X9_bitsWith : GoodIn wsL_law wsX9_bitsWith := goodIn_r _ [546, 532, 533, 534, 5, 535, 468, 469, 470, 158, 159, 160, 161, 162, 163, 164, 165, 342, 343, 344, 345, 346, 347, 348, 349, 350, 351, 352, 353, 354, 355, 356, 357, 101, 358, 359, 360, 361, 362, 363, 364, 220, 221, 222, 223, 224, 225, 365, 366, 367, 368, 369, 370, 371, 372, 373, 374, 375, 376, 377, 378, 379, 380, 381, 813, 814, 815, 816, 817, 818, 819, 820, 821, 822, 823, 824, 825, 826, 827] (by decide +kernel) (by decide +kernel)
set_option maxRecDepth 20000 in
theorem gL_law_X9_bitsWith : GoodIn wsL_law (wsV RL 160 RX9 yX9_bitsWith wsX9_bitsWith) := goodIn_app (goodIn_of _ (by decide +kernel)) ggL_law_X9_bitsWith
set_option maxRecDepth 20000 in
theorem ggL_law_L_bitsByWriting : GoodIn wsL_law wsL_bitsByWriting := goodIn_ca (goodIn_ca (goodIn_r _ [549, 110, 111, 550, 551, 552, 2, 553, 21, 17, 25, 461, 462, 463, 119, 120, 121, 122, 123, 124, 125, 489, 255, 490, 491, 492, 493, 494, 260, 261, 131, 262, 267, 268, 263, 264, 265, 266, 209, 28, 210, 211, 61, 269, 270, 271, 276, 20, 277, 278, 65, 68, 69, 148, 149, 150, 554, 24, 555, 556, 77, 309, 310, 311, 557, 558, 559, 560, 561, 562, 563, 564, 76, 288, 289, 290, 565, 566, 567, 568, 569, 570, 571, 572, 573, 805, 806, 807, 808, 809, 810, 811, 812, 828, 829, 830, 831, 832, 833, 834, 835, 836, 837, 846, 838, 839, 840, 841, 842, 843, 844, 845] (by decide +kernel) (by decide +kernel)) (goodIn_sub (fun _ h => List.mem_append_left _ (List.mem_append_left _ (List.mem_append_right _ h))) (by decide +kernel))) (goodIn_sub (fun _ h => List.mem_append_left _ (List.mem_append_right _ h)) (by decide +kernel))
set_option maxRecDepth 20000 in
theorem gL_law_L_bitsByWriting : GoodIn wsL_law (va_wsS RL 161 yL_bitsByWriting wsL_bitsByWriting) := goodIn_app (goodIn_of _ (by decide +kernel)) ggL_law_L_bitsByWriting
set_option maxRecDepth 20000 in
theorem ggL_law_X9_bitsByWriting : GoodIn wsL_law wsX9_bitsByWriting := goodIn_r _ [577, 578, 544, 545, 5, 546, 532, 533, 534, 535, 468, 469, 470, 158, 159, 160, 161, 162, 163, 164, 165, 342, 343, 344, 345, 346, 347, 348, 349, 350, 351, 352, 353, 354, 355, 356, 357, 101, 358, 359, 360, 361, 362, 363, 364, 220, 221, 222, 223, 224, 225, 365, 366, 367, 368, 369, 370, 371, 372, 373, 374, 375, 376, 377, 378, 379, 380, 381, 813, 814, 815, 816, 817, 818, 819, 820, 821, 822, 823, 824, 825, 826, 827] (by decide +kernel) (by decide +kernel)
set_option maxRecDepth 20000 in
theorem gL_law_X9_bitsByWriting : GoodIn wsL_law (wsV RL 163 RX9 yX9_bitsByWriting wsX9_bitsByWriting) := goodIn_app (goodIn_of _ (by decide +kernel)) ggL_law_X9_bitsByWriting
set_option maxRecDepth 20000 in
theorem ggL_law_X8_coarsenessNext : GoodIn wsL_law wsX8_coarsenessNext := goodIn_r _ [582, 21, 17, 244, 20, 245, 246, 71, 247, 16, 248, 249, 54, 55, 250, 251, 252, 253, 66, 70, 254, 255, 256, 257, 258, 259, 260, 261, 131, 262, 263, 2, 264, 265, 266, 267, 268, 269, 28, 270, 271, 61, 209, 210, 211, 272, 273, 274, 275, 276, 277, 278, 65, 68, 69, 148, 149, 150, 279, 280, 281, 282, 283, 284, 285, 286, 287, 288, 289, 290, 291, 292, 293, 805, 806, 807, 808, 809, 810, 811, 812, 838, 839, 840, 841, 842, 843, 828, 829, 830, 831, 832, 833, 834, 835, 836, 837, 846] (by decide +kernel) (by decide +kernel)
set_option maxRecDepth 20000 in
theorem gL_law_X8_coarsenessNext : GoodIn wsL_law (wsV RL 164 RX8 yX8_coarsenessNext wsX8_coarsenessNext) := goodIn_app (goodIn_of _ (by decide +kernel)) ggL_law_X8_coarsenessNext
set_option maxRecDepth 20000 in
theorem ggL_law_X9_coarsenessNext : GoodIn wsL_law wsX9_coarsenessNext := goodIn_r _ [586, 165, 330, 331, 332, 5, 333, 101, 334, 335, 336, 337, 338, 339, 340, 341, 342, 343, 344, 345, 346, 347, 348, 349, 350, 351, 352, 353, 354, 355, 356, 357, 358, 359, 360, 361, 362, 363, 364, 220, 221, 222, 223, 224, 225, 365, 366, 367, 368, 369, 370, 371, 372, 373, 374, 375, 376, 377, 378, 379, 380, 381, 813, 814, 815, 816, 817, 818, 819, 820, 821, 822, 823, 824, 825, 826, 827] (by decide +kernel) (by decide +kernel)
set_option maxRecDepth 20000 in
theorem gL_law_X9_coarsenessNext : GoodIn wsL_law (wsV RL 167 RX9 yX9_coarsenessNext wsX9_coarsenessNext) := goodIn_app (goodIn_of _ (by decide +kernel)) ggL_law_X9_coarsenessNext
set_option maxRecDepth 20000 in
theorem ggL_law_X8_bitsNext : GoodIn wsL_law wsX8_bitsNext := goodIn_r _ [590, 21, 17, 244, 20, 245, 246, 71, 247, 16, 248, 249, 54, 55, 250, 251, 252, 253, 66, 70, 254, 255, 256, 257, 258, 259, 260, 261, 131, 262, 263, 2, 264, 265, 266, 267, 268, 269, 28, 270, 271, 61, 209, 210, 211, 272, 273, 274, 275, 276, 277, 278, 65, 68, 69, 148, 149, 150, 279, 280, 281, 282, 283, 284, 285, 286, 287, 288, 289, 290, 291, 292, 293, 805, 806, 807, 808, 809, 810, 811, 812, 838, 839, 840, 841, 842, 843, 828, 829, 830, 831, 832, 833, 834, 835, 836, 837, 846] (by decide +kernel) (by decide +kernel)
set_option maxRecDepth 20000 in
theorem gL_law_X8_bitsNext : GoodIn wsL_law (wsV RL 168 RX8 yX8_bitsNext wsX8_bitsNext) := goodIn_app (goodIn_of _ (by decide +kernel)) ggL_law_X8_bitsNext
set_option maxRecDepth 20000 in
theorem ggL_law_X9_bitsNext : GoodIn wsL_law wsX9_bitsNext := goodIn_r _ [594, 165, 330, 331, 332, 5, 333, 101, 334, 335, 336, 337, 338, 339, 340, 341, 342, 343, 344, 345, 346, 347, 348, 349, 350, 351, 352, 353, 354, 355, 356, 357, 358, 359, 360, 361, 362, 363, 364, 220, 221, 222, 223, 224, 225, 365, 366, 367, 368, 369, 370, 371, 372, 373, 374, 375, 376, 377, 378, 379, 380, 381, 813, 814, 815, 816, 817, 818, 819, 820, 821, 822, 823, 824, 825, 826, 827] (by decide +kernel) (by decide +kernel)
set_option maxRecDepth 20000 in
theorem gL_law_X9_bitsNext : GoodIn wsL_law (wsV RL 171 RX9 yX9_bitsNext wsX9_bitsNext) := goodIn_app (goodIn_of _ (by decide +kernel)) ggL_law_X9_bitsNext
set_option maxRecDepth 20000 in
theorem ggL_law_X8_pictureCount : GoodIn wsL_law wsX8_pictureCount := goodIn_r _ [598, 17, 805, 806, 807, 808, 809, 810, 811, 812, 828, 829, 830, 831, 832, 833, 834, 835, 836, 837] (by decide +kernel) (by decide +kernel)
set_option maxRecDepth 20000 in
theorem gL_law_X8_pictureCount : GoodIn wsL_law (wsV RL 172 RX8 yX8_pictureCount wsX8_pictureCount) := goodIn_app (goodIn_of _ (by decide +kernel)) ggL_law_X8_pictureCount
set_option maxRecDepth 20000 in
theorem ggL_law_X9_pictureCount : GoodIn wsL_law wsX9_pictureCount := goodIn_r _ [602, 165, 101, 813, 814, 815, 816, 817, 818, 819, 820, 821, 822, 823, 824, 825, 826, 827] (by decide +kernel) (by decide +kernel)
set_option maxRecDepth 20000 in
theorem gL_law_X9_pictureCount : GoodIn wsL_law (wsV RL 175 RX9 yX9_pictureCount wsX9_pictureCount) := goodIn_app (goodIn_of _ (by decide +kernel)) ggL_law_X9_pictureCount
set_option maxRecDepth 20000 in
theorem ggL_law_X8_lostCount : GoodIn wsL_law wsX8_lostCount := goodIn_r _ [606, 17, 805, 806, 807, 808, 809, 810, 811, 812, 828, 829, 830, 831, 832, 833, 834, 835, 836, 837] (by decide +kernel) (by decide +kernel)
set_option maxRecDepth 20000 in
theorem gL_law_X8_lostCount : GoodIn wsL_law (wsV RL 176 RX8 yX8_lostCount wsX8_lostCount) := goodIn_app (goodIn_of _ (by decide +kernel)) ggL_law_X8_lostCount
set_option maxRecDepth 20000 in
theorem ggL_law_X9_lostCount : GoodIn wsL_law wsX9_lostCount := goodIn_r _ [610, 165, 101, 813, 814, 815, 816, 817, 818, 819, 820, 821, 822, 823, 824, 825, 826, 827] (by decide +kernel) (by decide +kernel)
set_option maxRecDepth 20000 in
theorem gL_law_X9_lostCount : GoodIn wsL_law (wsV RL 179 RX9 yX9_lostCount wsX9_lostCount) := goodIn_app (goodIn_of _ (by decide +kernel)) ggL_law_X9_lostCount
set_option maxRecDepth 20000 in
theorem ggL_law_X8_bitCount : GoodIn wsL_law wsX8_bitCount := goodIn_r _ [614, 17, 805, 806, 807, 808, 809, 810, 811, 812, 828, 829, 830, 831, 832, 833, 834, 835, 836, 837] (by decide +kernel) (by decide +kernel)
set_option maxRecDepth 20000 in
theorem gL_law_X8_bitCount : GoodIn wsL_law (wsV RL 180 RX8 yX8_bitCount wsX8_bitCount) := goodIn_app (goodIn_of _ (by decide +kernel)) ggL_law_X8_bitCount
set_option maxRecDepth 20000 in
theorem ggL_law_X9_bitCount : GoodIn wsL_law wsX9_bitCount := goodIn_r _ [618, 165, 101, 813, 814, 815, 816, 817, 818, 819, 820, 821, 822, 823, 824, 825, 826, 827] (by decide +kernel) (by decide +kernel)
set_option maxRecDepth 20000 in
theorem gL_law_X9_bitCount : GoodIn wsL_law (wsV RL 183 RX9 yX9_bitCount wsX9_bitCount) := goodIn_app (goodIn_of _ (by decide +kernel)) ggL_law_X9_bitCount
set_option maxRecDepth 20000 in
theorem ggL_law_L_lastKind : GoodIn wsL_law wsL_lastKind := goodIn_ca (goodIn_r _ [621, 110, 622, 623, 624, 2, 625, 17, 461, 462, 463, 119, 120, 805, 806, 807, 808, 809, 810, 811, 812, 828, 829, 830, 831, 832, 833, 834, 835, 836, 837] (by decide +kernel) (by decide +kernel)) (goodIn_sub (fun _ h => List.mem_append_left _ (List.mem_append_left _ (List.mem_append_right _ h))) (by decide +kernel))
set_option maxRecDepth 20000 in
theorem gL_law_L_lastKind : GoodIn wsL_law (va_wsS RL 184 yL_lastKind wsL_lastKind) := goodIn_app (goodIn_of _ (by decide +kernel)) ggL_law_L_lastKind
set_option maxRecDepth 20000 in
theorem ggL_law_X9_lastKind : GoodIn wsL_law wsX9_lastKind := goodIn_r _ [629, 101, 468, 469, 5, 470, 158, 159, 160, 161, 162, 163, 164, 165, 813, 814, 815, 816, 817, 818, 819, 820, 821, 822, 823, 824, 825, 826, 827] (by decide +kernel) (by decide +kernel)
set_option maxRecDepth 20000 in
theorem gL_law_X9_lastKind : GoodIn wsL_law (wsV RL 186 RX9 yX9_lastKind wsX9_lastKind) := goodIn_app (goodIn_of _ (by decide +kernel)) ggL_law_X9_lastKind
set_option maxRecDepth 20000 in
theorem ggL_law_L_lastMove : GoodIn wsL_law wsL_lastMove := goodIn_ca (goodIn_r _ [632, 110, 633, 634, 635, 2, 636, 17, 461, 462, 463, 119, 120, 805, 806, 807, 808, 809, 810, 811, 812, 828, 829, 830, 831, 832, 833, 834, 835, 836, 837] (by decide +kernel) (by decide +kernel)) (goodIn_sub (fun _ h => List.mem_append_left _ (List.mem_append_left _ (List.mem_append_right _ h))) (by decide +kernel))
set_option maxRecDepth 20000 in
theorem gL_law_L_lastMove : GoodIn wsL_law (va_wsS RL 187 yL_lastMove wsL_lastMove) := goodIn_app (goodIn_of _ (by decide +kernel)) ggL_law_L_lastMove
set_option maxRecDepth 20000 in
theorem ggL_law_X9_lastMove : GoodIn wsL_law wsX9_lastMove := goodIn_r _ [640, 101, 468, 469, 5, 470, 158, 159, 160, 161, 162, 163, 164, 165, 813, 814, 815, 816, 817, 818, 819, 820, 821, 822, 823, 824, 825, 826, 827] (by decide +kernel) (by decide +kernel)
set_option maxRecDepth 20000 in
theorem gL_law_X9_lastMove : GoodIn wsL_law (wsV RL 189 RX9 yX9_lastMove wsX9_lastMove) := goodIn_app (goodIn_of _ (by decide +kernel)) ggL_law_X9_lastMove
set_option maxRecDepth 20000 in
theorem ggL_law_L_appendText : GoodIn wsL_law wsL_appendText := goodIn_ca (goodIn_ca (goodIn_r _ [643, 111, 229, 644, 645, 646, 2, 647, 124, 125, 234, 235, 33, 648, 32, 649, 650, 651, 652, 653, 654, 655, 83, 82, 805, 806, 807, 808, 809, 810, 811, 812, 847, 848] (by decide +kernel) (by decide +kernel)) (goodIn_sub (fun _ h => List.mem_append_left _ (List.mem_append_right _ h)) (by decide +kernel))) (goodIn_sub (fun _ h => List.mem_append_right _ h) (by decide +kernel))
set_option maxRecDepth 20000 in
theorem gL_law_L_appendText : GoodIn wsL_law (va_wsS RL 192 yL_appendText wsL_appendText) := goodIn_app (goodIn_of _ (by decide +kernel)) ggL_law_L_appendText
set_option maxRecDepth 20000 in
theorem ggL_law_X9_appendText : GoodIn wsL_law wsX9_appendText := goodIn_r _ [659, 660, 661, 104, 158, 159, 5, 160, 161, 162, 163, 164, 165, 813, 814, 815, 816, 817, 818, 819, 820, 821, 822, 823, 824, 825, 826, 827] (by decide +kernel) (by decide +kernel)
set_option maxRecDepth 20000 in
theorem gL_law_X9_appendText : GoodIn wsL_law (wsV RL 195 RX9 yX9_appendText wsX9_appendText) := goodIn_app (goodIn_of _ (by decide +kernel)) ggL_law_X9_appendText
set_option maxRecDepth 20000 in
theorem ggL_law_X8_clearText : GoodIn wsL_law wsX8_clearText := goodIn_r _ [665, 33, 805, 806, 807, 808, 809, 810, 811, 812, 847, 848] (by decide +kernel) (by decide +kernel)
set_option maxRecDepth 20000 in
theorem gL_law_X8_clearText : GoodIn wsL_law (wsV RL 196 RX8 yX8_clearText wsX8_clearText) := goodIn_app (goodIn_of _ (by decide +kernel)) ggL_law_X8_clearText
set_option maxRecDepth 20000 in
theorem ggL_law_X9_clearText : GoodIn wsL_law wsX9_clearText := goodIn_r _ [669, 165, 661, 813, 814, 815, 816, 817, 818, 819, 820, 821, 822, 823, 824, 825, 826, 827] (by decide +kernel) (by decide +kernel)
set_option maxRecDepth 20000 in
theorem gL_law_X9_clearText : GoodIn wsL_law (wsV RL 199 RX9 yX9_clearText wsX9_clearText) := goodIn_app (goodIn_of _ (by decide +kernel)) ggL_law_X9_clearText
set_option maxRecDepth 20000 in
theorem ggL_law_X8_textLength : GoodIn wsL_law wsX8_textLength := goodIn_r _ [673, 33, 805, 806, 807, 808, 809, 810, 811, 812, 847, 848] (by decide +kernel) (by decide +kernel)
set_option maxRecDepth 20000 in
theorem gL_law_X8_textLength : GoodIn wsL_law (wsV RL 200 RX8 yX8_textLength wsX8_textLength) := goodIn_app (goodIn_of _ (by decide +kernel)) ggL_law_X8_textLength
set_option maxRecDepth 20000 in
theorem ggL_law_X9_textLength : GoodIn wsL_law wsX9_textLength := goodIn_r _ [677, 165, 661, 813, 814, 815, 816, 817, 818, 819, 820, 821, 822, 823, 824, 825, 826, 827] (by decide +kernel) (by decide +kernel)
set_option maxRecDepth 20000 in
theorem gL_law_X9_textLength : GoodIn wsL_law (wsV RL 203 RX9 yX9_textLength wsX9_textLength) := goodIn_app (goodIn_of _ (by decide +kernel)) ggL_law_X9_textLength
set_option maxRecDepth 20000 in
theorem ggL_law_X8_textError : GoodIn wsL_law wsX8_textError := goodIn_r _ [681, 33, 682, 32, 683, 684, 83, 685, 686, 687, 688, 82, 689, 690, 691, 692, 693, 694, 695, 696, 697, 805, 806, 807, 808, 809, 810, 811, 812, 847, 848] (by decide +kernel) (by decide +kernel)
set_option maxRecDepth 20000 in
theorem gL_law_X8_textError : GoodIn wsL_law (wsV RL 204 RX8 yX8_textError wsX8_textError) := goodIn_app (goodIn_of _ (by decide +kernel)) ggL_law_X8_textError
set_option maxRecDepth 20000 in
theorem ggL_law_X9_textError : GoodIn wsL_law wsX9_textError := goodIn_r _ [701, 165, 702, 703, 704, 705, 706, 5, 707, 708, 661, 709, 710, 711, 712, 104, 713, 714, 715, 716, 717, 718, 719, 720, 721, 722, 723, 158, 159, 160, 724, 725, 726, 727, 101, 155, 156, 157, 171, 172, 173, 174, 326, 327, 328, 329, 105, 330, 331, 332, 333, 334, 335, 336, 337, 338, 339, 340, 341, 342, 343, 344, 345, 346, 347, 348, 349, 350, 351, 352, 353, 354, 355, 356, 357, 358, 359, 360, 361, 362, 363, 364, 220, 221, 222, 223, 224, 225, 365, 366, 367, 368, 369, 370, 371, 372, 373, 374, 375, 376, 377, 378, 379, 380, 381, 216, 217, 218, 219, 813, 814, 815, 816, 817, 818, 819, 820, 821, 822, 823, 824, 825, 826, 827] (by decide +kernel) (by decide +kernel)
set_option maxRecDepth 20000 in
theorem gL_law_X9_textError : GoodIn wsL_law (wsV RL 207 RX9 yX9_textError wsX9_textError) := goodIn_app (goodIn_of _ (by decide +kernel)) ggL_law_X9_textError
set_option maxRecDepth 20000 in
theorem ggL_law_L_runText : GoodIn wsL_law wsL_runText := goodIn_ca (goodIn_r _ [730, 229, 731, 732, 733, 2, 734, 234, 235, 33, 37, 17, 682, 32, 683, 684, 83, 685, 686, 687, 688, 82, 689, 690, 691, 692, 693, 694, 695, 696, 697, 126, 36, 127, 128, 89, 90, 129, 130, 131, 132, 133, 134, 135, 136, 88, 137, 16, 138, 139, 47, 48, 49, 51, 140, 141, 142, 143, 52, 53, 54, 55, 56, 57, 144, 28, 145, 146, 61, 147, 735, 736, 737, 738, 739, 740, 741, 742, 743, 744, 745, 746, 747, 748, 749, 750, 751, 752, 148, 149, 150, 201, 202, 203, 204, 29, 205, 206, 207, 208, 209, 210, 211, 189, 236, 237, 238, 239, 240, 241, 242, 243, 21, 244, 20, 245, 246, 71, 247, 248, 249, 250, 251, 252, 253, 66, 70, 254, 255, 256, 257, 258, 259, 260, 261, 262, 263, 264, 265, 266, 267, 268, 269, 270, 271, 272, 273, 274, 275, 276, 277, 278, 65, 68, 69, 279, 280, 281, 282, 283, 284, 285, 286, 287, 288, 289, 290, 291, 292, 293, 294, 295, 296, 297, 298, 299, 300, 301, 302, 303, 304, 305, 306, 307, 308, 309, 310, 311, 312, 313, 314, 315, 316, 317, 318, 319, 320, 321, 805, 806, 807, 808, 809, 810, 811, 812, 847, 848, 849, 850, 851, 828, 829, 830, 831, 832, 833, 834, 835, 836, 837, 846, 838, 839, 840, 841, 842, 843] (by decide +kernel) (by decide +kernel)) (goodIn_sub (fun _ h => List.mem_append_right _ h) (by decide +kernel))
set_option maxRecDepth 20000 in
theorem gL_law_L_runText : GoodIn wsL_law (va_wsS RL 208 yL_runText wsL_runText) := goodIn_app (goodIn_of _ (by decide +kernel)) ggL_law_L_runText
set_option maxRecDepth 20000 in
theorem ggL_law_X9_runText : GoodIn wsL_law wsX9_runText := goodIn_r _ [756, 702, 661, 708, 704, 705, 706, 5, 707, 703, 709, 710, 711, 712, 104, 713, 714, 715, 716, 717, 718, 719, 720, 721, 722, 723, 158, 159, 160, 724, 725, 726, 727, 101, 155, 156, 157, 171, 172, 173, 174, 326, 327, 328, 329, 105, 330, 331, 332, 333, 334, 335, 336, 337, 338, 339, 340, 341, 342, 343, 344, 345, 346, 347, 348, 349, 350, 351, 352, 353, 354, 355, 356, 357, 358, 359, 360, 361, 362, 363, 364, 220, 221, 222, 223, 224, 225, 365, 366, 367, 368, 369, 370, 371, 372, 373, 374, 375, 376, 377, 378, 379, 380, 381, 216, 217, 218, 219, 161, 162, 163, 164, 165, 166, 167, 168, 169, 170, 102, 813, 814, 815, 816, 817, 818, 819, 820, 821, 822, 823, 824, 825, 826, 827] (by decide +kernel) (by decide +kernel)
set_option maxRecDepth 20000 in
theorem gL_law_X9_runText : GoodIn wsL_law (wsV RL 211 RX9 yX9_runText wsX9_runText) := goodIn_app (goodIn_of _ (by decide +kernel)) ggL_law_X9_runText
set_option maxRecDepth 20000 in
theorem ggL_law_L_undo : GoodIn wsL_law wsL_undo := goodIn_ca (goodIn_r _ [759, 229, 760, 761, 762, 2, 763, 234, 235, 37, 17, 764, 36, 765, 766, 89, 90, 133, 134, 135, 136, 88, 137, 16, 138, 139, 47, 48, 49, 51, 140, 141, 142, 143, 52, 53, 54, 55, 56, 57, 144, 28, 145, 146, 61, 147, 805, 806, 807, 808, 809, 810, 811, 812, 849, 850, 851, 828, 829, 830, 831, 832, 833, 834, 835, 836, 837, 846] (by decide +kernel) (by decide +kernel)) (goodIn_sub (fun _ h => List.mem_append_right _ h) (by decide +kernel))
set_option maxRecDepth 20000 in
theorem gL_law_L_undo : GoodIn wsL_law (va_wsS RL 212 yL_undo wsL_undo) := goodIn_app (goodIn_of _ (by decide +kernel)) ggL_law_L_undo
set_option maxRecDepth 20000 in
theorem ggL_law_X9_undo : GoodIn wsL_law wsX9_undo := goodIn_r _ [770, 170, 101, 102, 161, 162, 163, 5, 164, 165, 813, 814, 815, 816, 817, 818, 819, 820, 821, 822, 823, 824, 825, 826, 827] (by decide +kernel) (by decide +kernel)
set_option maxRecDepth 20000 in
theorem gL_law_X9_undo : GoodIn wsL_law (wsV RL 214 RX9 yX9_undo wsX9_undo) := goodIn_app (goodIn_of _ (by decide +kernel)) ggL_law_X9_undo
set_option maxRecDepth 20000 in
theorem ggL_law_X8_undoCount : GoodIn wsL_law wsX8_undoCount := goodIn_r _ [774, 37, 805, 806, 807, 808, 809, 810, 811, 812, 849, 850, 851] (by decide +kernel) (by decide +kernel)
set_option maxRecDepth 20000 in
theorem gL_law_X8_undoCount : GoodIn wsL_law (wsV RL 215 RX8 yX8_undoCount wsX8_undoCount) := goodIn_app (goodIn_of _ (by decide +kernel)) ggL_law_X8_undoCount
set_option maxRecDepth 20000 in
theorem ggL_law_X9_undoCount : GoodIn wsL_law wsX9_undoCount := goodIn_r _ [778, 165, 170, 813, 814, 815, 816, 817, 818, 819, 820, 821, 822, 823, 824, 825, 826, 827] (by decide +kernel) (by decide +kernel)
set_option maxRecDepth 20000 in
theorem gL_law_X9_undoCount : GoodIn wsL_law (wsV RL 218 RX9 yX9_undoCount wsX9_undoCount) := goodIn_app (goodIn_of _ (by decide +kernel)) ggL_law_X9_undoCount
set_option maxRecDepth 20000 in
theorem ggL_law_L_saveState : GoodIn wsL_law wsL_saveState := goodIn_ca (goodIn_r _ [781, 110, 782, 783, 784, 2, 785, 41, 42, 17, 786, 787, 788, 119, 120, 137, 16, 138, 139, 47, 48, 49, 51, 140, 141, 142, 143, 52, 53, 54, 55, 56, 57, 144, 28, 145, 146, 61, 147, 805, 806, 807, 808, 809, 810, 811, 812, 852, 853, 828, 829, 830, 831, 832, 833, 834, 835, 836, 837, 846] (by decide +kernel) (by decide +kernel)) (goodIn_sub (fun _ h => List.mem_append_left _ (List.mem_append_left _ (List.mem_append_right _ h))) (by decide +kernel))
set_option maxRecDepth 20000 in
theorem gL_law_L_saveState : GoodIn wsL_law (va_wsS RL 219 yL_saveState wsL_saveState) := goodIn_app (goodIn_of _ (by decide +kernel)) ggL_law_L_saveState
set_option maxRecDepth 20000 in
theorem ggL_law_X9_saveState : GoodIn wsL_law wsX9_saveState := goodIn_r _ [792, 103, 101, 793, 158, 159, 5, 160, 161, 162, 163, 164, 165, 813, 814, 815, 816, 817, 818, 819, 820, 821, 822, 823, 824, 825, 826, 827] (by decide +kernel) (by decide +kernel)
set_option maxRecDepth 20000 in
theorem gL_law_X9_saveState : GoodIn wsL_law (wsV RL 221 RX9 yX9_saveState wsX9_saveState) := goodIn_app (goodIn_of _ (by decide +kernel)) ggL_law_X9_saveState
set_option maxRecDepth 20000 in
theorem ggL_law_L_loadState : GoodIn wsL_law wsL_loadState := goodIn_ca (goodIn_ca (goodIn_r _ [796, 110, 229, 797, 798, 799, 2, 800, 234, 235, 41, 42, 37, 17, 786, 787, 788, 119, 120, 126, 36, 127, 128, 89, 90, 129, 130, 131, 132, 133, 134, 135, 136, 88, 137, 16, 138, 139, 47, 48, 49, 51, 140, 141, 142, 143, 52, 53, 54, 55, 56, 57, 144, 28, 145, 146, 61, 147, 805, 806, 807, 808, 809, 810, 811, 812, 852, 853, 828, 829, 830, 831, 832, 833, 834, 835, 836, 837, 849, 850, 851, 846] (by decide +kernel) (by decide +kernel)) (goodIn_sub (fun _ h => List.mem_append_right _ h) (by decide +kernel))) (goodIn_sub (fun _ h => List.mem_append_left _ (List.mem_append_left _ (List.mem_append_right _ h))) (by decide +kernel))
set_option maxRecDepth 20000 in
theorem gL_law_L_loadState : GoodIn wsL_law (va_wsS RL 222 yL_loadState wsL_loadState) := goodIn_app (goodIn_of _ (by decide +kernel)) ggL_law_L_loadState
set_option maxRecDepth 20000 in
theorem ggL_law_X9_loadState : GoodIn wsL_law wsX9_loadState := goodIn_r _ [804, 793, 101, 103, 158, 159, 5, 160, 161, 162, 163, 164, 165, 166, 167, 168, 169, 170, 102, 813, 814, 815, 816, 817, 818, 819, 820, 821, 822, 823, 824, 825, 826, 827] (by decide +kernel) (by decide +kernel)
set_option maxRecDepth 20000 in
theorem gL_law_X9_loadState : GoodIn wsL_law (wsV RL 224 RX9 yX9_loadState wsX9_loadState) := goodIn_app (goodIn_of _ (by decide +kernel)) ggL_law_X9_loadState
theorem dL_law_0 : decode cL_law 0 = .ok (.new 8, 3) := by decide +kernel
theorem dL_law_3 : decode cL_law 3 = .ok (.dup, 1) := by decide +kernel
theorem dL_law_4 : decode cL_law 4 = .ok (.invokespecial 90, 3) := by decide +kernel
theorem dL_law_7 : decode cL_law 7 = .ok (.astore_n 1, 1) := by decide +kernel
theorem dL_law_8 : decode cL_law 8 = .ok (.new 91, 3) := by decide +kernel
theorem dL_law_11 : decode cL_law 11 = .ok (.dup, 1) := by decide +kernel
theorem dL_law_12 : decode cL_law 12 = .ok (.invokespecial 93, 3) := by decide +kernel
theorem dL_law_15 : decode cL_law 15 = .ok (.astore_n 2, 1) := by decide +kernel
theorem dL_law_16 : decode cL_law 16 = .ok (.iconst 1, 1) := by decide +kernel
theorem dL_law_17 : decode cL_law 17 = .ok (.newarray .long, 2) := by decide +kernel
theorem dL_law_19 : decode cL_law 19 = .ok (.astore_n 3, 1) := by decide +kernel
theorem dL_law_20 : decode cL_law 20 = .ok (.iconst 0, 1) := by decide +kernel
theorem dL_law_21 : decode cL_law 21 = .ok (.istore 4, 2) := by decide +kernel
theorem dL_law_23 : decode cL_law 23 = .ok (.iload 4, 2) := by decide +kernel
theorem dL_law_25 : decode cL_law 25 = .ok (.aload_n 0, 1) := by decide +kernel
theorem dL_law_26 : decode cL_law 26 = .ok (.arraylength, 1) := by decide +kernel
theorem dL_law_27 : decode cL_law 27 = .ok (.iconst 5, 1) := by decide +kernel
theorem dL_law_28 : decode cL_law 28 = .ok (.isub, 1) := by decide +kernel
theorem dL_law_29 : decode cL_law 29 = .ok (.if_icmp .gt 1745, 3) := by decide +kernel
theorem dL_law_32 : decode cL_law 32 = .ok (.aload_n 0, 1) := by decide +kernel
theorem dL_law_33 : decode cL_law 33 = .ok (.iload 4, 2) := by decide +kernel
theorem dL_law_35 : decode cL_law 35 = .ok (.iaload, 1) := by decide +kernel
theorem dL_law_36 : decode cL_law 36 = .ok (.bipush 63, 2) := by decide +kernel
theorem dL_law_38 : decode cL_law 38 = .ok (.iand, 1) := by decide +kernel
theorem dL_law_39 : decode cL_law 39 = .ok (.tableswitch 1729 0 34 #[153, 221, 313, 381, 453, 509, 565, 621, 677, 733, 746, 759, 827, 883, 939, 995, 1008, 1076, 1144, 1212, 1225, 1238, 1251, 1264, 1277, 1333, 1389, 1477, 1490, 1503, 1516, 1560, 1604, 1617, 1673], 153) := by decide +kernel
theorem dL_law_192 : decode cL_law 192 = .ok (.aload_n 1, 1) := by decide +kernel
theorem dL_law_193 : decode cL_law 193 = .ok (.aload_n 0, 1) := by decide +kernel
theorem dL_law_194 : decode cL_law 194 = .ok (.iload 4, 2) := by decide +kernel
theorem dL_law_196 : decode cL_law 196 = .ok (.iconst 1, 1) := by decide +kernel
theorem dL_law_197 : decode cL_law 197 = .ok (.iadd, 1) := by decide +kernel
theorem dL_law_198 : decode cL_law 198 = .ok (.iaload, 1) := by decide +kernel
theorem dL_law_199 : decode cL_law 199 = .ok (.aload_n 0, 1) := by decide +kernel
theorem dL_law_200 : decode cL_law 200 = .ok (.iload 4, 2) := by decide +kernel
theorem dL_law_202 : decode cL_law 202 = .ok (.iconst 2, 1) := by decide +kernel
theorem dL_law_203 : decode cL_law 203 = .ok (.iadd, 1) := by decide +kernel
theorem dL_law_204 : decode cL_law 204 = .ok (.iaload, 1) := by decide +kernel
theorem dL_law_205 : decode cL_law 205 = .ok (.aload_n 3, 1) := by decide +kernel
theorem dL_law_206 : decode cL_law 206 = .ok (.invokestatic 94, 3) := by decide +kernel
theorem dL_law_209 : decode cL_law 209 = .ok (.istore 5, 2) := by decide +kernel
theorem dL_law_211 : decode cL_law 211 = .ok (.aload_n 2, 1) := by decide +kernel
theorem dL_law_212 : decode cL_law 212 = .ok (.aload_n 0, 1) := by decide +kernel
theorem dL_law_213 : decode cL_law 213 = .ok (.iload 4, 2) := by decide +kernel
theorem dL_law_215 : decode cL_law 215 = .ok (.iconst 1, 1) := by decide +kernel
theorem dL_law_216 : decode cL_law 216 = .ok (.iadd, 1) := by decide +kernel
theorem dL_law_217 : decode cL_law 217 = .ok (.iaload, 1) := by decide +kernel
theorem dL_law_218 : decode cL_law 218 = .ok (.aload_n 0, 1) := by decide +kernel
theorem dL_law_219 : decode cL_law 219 = .ok (.iload 4, 2) := by decide +kernel
theorem dL_law_221 : decode cL_law 221 = .ok (.iconst 2, 1) := by decide +kernel
theorem dL_law_222 : decode cL_law 222 = .ok (.iadd, 1) := by decide +kernel
theorem dL_law_223 : decode cL_law 223 = .ok (.iaload, 1) := by decide +kernel
theorem dL_law_224 : decode cL_law 224 = .ok (.invokevirtual 99, 3) := by decide +kernel
theorem dL_law_227 : decode cL_law 227 = .ok (.istore 6, 2) := by decide +kernel
theorem dL_law_229 : decode cL_law 229 = .ok (.aload_n 2, 1) := by decide +kernel
theorem dL_law_230 : decode cL_law 230 = .ok (.invokevirtual 100, 3) := by decide +kernel
theorem dL_law_233 : decode cL_law 233 = .ok (.iload 5, 2) := by decide +kernel
theorem dL_law_235 : decode cL_law 235 = .ok (.if_icmp .eq 5, 3) := by decide +kernel
theorem dL_law_238 : decode cL_law 238 = .ok (.iconst 0, 1) := by decide +kernel
theorem dL_law_239 : decode cL_law 239 = .ok (.ireturn, 1) := by decide +kernel
theorem dL_law_240 : decode cL_law 240 = .ok (.iload 5, 2) := by decide +kernel
theorem dL_law_242 : decode cL_law 242 = .ok (.ifCond .ne 15, 3) := by decide +kernel
theorem dL_law_245 : decode cL_law 245 = .ok (.aload_n 3, 1) := by decide +kernel
theorem dL_law_246 : decode cL_law 246 = .ok (.iconst 0, 1) := by decide +kernel
theorem dL_law_247 : decode cL_law 247 = .ok (.laload, 1) := by decide +kernel
theorem dL_law_248 : decode cL_law 248 = .ok (.iload 6, 2) := by decide +kernel
theorem dL_law_250 : decode cL_law 250 = .ok (.i2l, 1) := by decide +kernel
theorem dL_law_251 : decode cL_law 251 = .ok (.lcmp, 1) := by decide +kernel
theorem dL_law_252 : decode cL_law 252 = .ok (.ifCond .eq 5, 3) := by decide +kernel
theorem dL_law_255 : decode cL_law 255 = .ok (.iconst 0, 1) := by decide +kernel
theorem dL_law_256 : decode cL_law 256 = .ok (.ireturn, 1) := by decide +kernel
theorem dL_law_257 : decode cL_law 257 = .ok (.goto 1511, 3) := by decide +kernel
theorem dL_law_260 : decode cL_law 260 = .ok (.aload_n 1, 1) := by decide +kernel
theorem dL_law_261 : decode cL_law 261 = .ok (.aload_n 0, 1) := by decide +kernel
theorem dL_law_262 : decode cL_law 262 = .ok (.iload 4, 2) := by decide +kernel
theorem dL_law_264 : decode cL_law 264 = .ok (.iconst 1, 1) := by decide +kernel
theorem dL_law_265 : decode cL_law 265 = .ok (.iadd, 1) := by decide +kernel
theorem dL_law_266 : decode cL_law 266 = .ok (.iaload, 1) := by decide +kernel
theorem dL_law_267 : decode cL_law 267 = .ok (.aload_n 0, 1) := by decide +kernel
theorem dL_law_268 : decode cL_law 268 = .ok (.iload 4, 2) := by decide +kernel
theorem dL_law_270 : decode cL_law 270 = .ok (.iconst 2, 1) := by decide +kernel
theorem dL_law_271 : decode cL_law 271 = .ok (.iadd, 1) := by decide +kernel
theorem dL_law_272 : decode cL_law 272 = .ok (.iaload, 1) := by decide +kernel
theorem dL_law_273 : decode cL_law 273 = .ok (.aload_n 0, 1) := by decide +kernel
theorem dL_law_274 : decode cL_law 274 = .ok (.iload 4, 2) := by decide +kernel
theorem dL_law_276 : decode cL_law 276 = .ok (.iconst 3, 1) := by decide +kernel
theorem dL_law_277 : decode cL_law 277 = .ok (.iadd, 1) := by decide +kernel
theorem dL_law_278 : decode cL_law 278 = .ok (.iaload, 1) := by decide +kernel
theorem dL_law_279 : decode cL_law 279 = .ok (.aload_n 0, 1) := by decide +kernel
theorem dL_law_280 : decode cL_law 280 = .ok (.iload 4, 2) := by decide +kernel
theorem dL_law_282 : decode cL_law 282 = .ok (.iconst 4, 1) := by decide +kernel
theorem dL_law_283 : decode cL_law 283 = .ok (.iadd, 1) := by decide +kernel
theorem dL_law_284 : decode cL_law 284 = .ok (.iaload, 1) := by decide +kernel
theorem dL_law_285 : decode cL_law 285 = .ok (.aload_n 3, 1) := by decide +kernel
theorem dL_law_286 : decode cL_law 286 = .ok (.invokestatic 103, 3) := by decide +kernel
theorem dL_law_289 : decode cL_law 289 = .ok (.istore 5, 2) := by decide +kernel
theorem dL_law_291 : decode cL_law 291 = .ok (.aload_n 2, 1) := by decide +kernel
theorem dL_law_292 : decode cL_law 292 = .ok (.aload_n 0, 1) := by decide +kernel
theorem dL_law_293 : decode cL_law 293 = .ok (.iload 4, 2) := by decide +kernel
theorem dL_law_295 : decode cL_law 295 = .ok (.iconst 1, 1) := by decide +kernel
theorem dL_law_296 : decode cL_law 296 = .ok (.iadd, 1) := by decide +kernel
theorem dL_law_297 : decode cL_law 297 = .ok (.iaload, 1) := by decide +kernel
theorem dL_law_298 : decode cL_law 298 = .ok (.aload_n 0, 1) := by decide +kernel
theorem dL_law_299 : decode cL_law 299 = .ok (.iload 4, 2) := by decide +kernel
theorem dL_law_301 : decode cL_law 301 = .ok (.iconst 2, 1) := by decide +kernel
theorem dL_law_302 : decode cL_law 302 = .ok (.iadd, 1) := by decide +kernel
theorem dL_law_303 : decode cL_law 303 = .ok (.iaload, 1) := by decide +kernel
theorem dL_law_304 : decode cL_law 304 = .ok (.aload_n 0, 1) := by decide +kernel
theorem dL_law_305 : decode cL_law 305 = .ok (.iload 4, 2) := by decide +kernel
theorem dL_law_307 : decode cL_law 307 = .ok (.iconst 3, 1) := by decide +kernel
theorem dL_law_308 : decode cL_law 308 = .ok (.iadd, 1) := by decide +kernel
theorem dL_law_309 : decode cL_law 309 = .ok (.iaload, 1) := by decide +kernel
theorem dL_law_310 : decode cL_law 310 = .ok (.aload_n 0, 1) := by decide +kernel
theorem dL_law_311 : decode cL_law 311 = .ok (.iload 4, 2) := by decide +kernel
theorem dL_law_313 : decode cL_law 313 = .ok (.iconst 4, 1) := by decide +kernel
theorem dL_law_314 : decode cL_law 314 = .ok (.iadd, 1) := by decide +kernel
theorem dL_law_315 : decode cL_law 315 = .ok (.iaload, 1) := by decide +kernel
theorem dL_law_316 : decode cL_law 316 = .ok (.invokevirtual 106, 3) := by decide +kernel
theorem dL_law_319 : decode cL_law 319 = .ok (.istore 6, 2) := by decide +kernel
theorem dL_law_321 : decode cL_law 321 = .ok (.aload_n 2, 1) := by decide +kernel
theorem dL_law_322 : decode cL_law 322 = .ok (.invokevirtual 100, 3) := by decide +kernel
theorem dL_law_325 : decode cL_law 325 = .ok (.iload 5, 2) := by decide +kernel
theorem dL_law_327 : decode cL_law 327 = .ok (.if_icmp .eq 5, 3) := by decide +kernel
theorem dL_law_330 : decode cL_law 330 = .ok (.iconst 0, 1) := by decide +kernel
theorem dL_law_331 : decode cL_law 331 = .ok (.ireturn, 1) := by decide +kernel
theorem dL_law_332 : decode cL_law 332 = .ok (.iload 5, 2) := by decide +kernel
theorem dL_law_334 : decode cL_law 334 = .ok (.ifCond .ne 15, 3) := by decide +kernel
theorem dL_law_337 : decode cL_law 337 = .ok (.aload_n 3, 1) := by decide +kernel
theorem dL_law_338 : decode cL_law 338 = .ok (.iconst 0, 1) := by decide +kernel
theorem dL_law_339 : decode cL_law 339 = .ok (.laload, 1) := by decide +kernel
theorem dL_law_340 : decode cL_law 340 = .ok (.iload 6, 2) := by decide +kernel
theorem dL_law_342 : decode cL_law 342 = .ok (.i2l, 1) := by decide +kernel
theorem dL_law_343 : decode cL_law 343 = .ok (.lcmp, 1) := by decide +kernel
theorem dL_law_344 : decode cL_law 344 = .ok (.ifCond .eq 5, 3) := by decide +kernel
theorem dL_law_347 : decode cL_law 347 = .ok (.iconst 0, 1) := by decide +kernel
theorem dL_law_348 : decode cL_law 348 = .ok (.ireturn, 1) := by decide +kernel
theorem dL_law_349 : decode cL_law 349 = .ok (.goto 1419, 3) := by decide +kernel
theorem dL_law_352 : decode cL_law 352 = .ok (.aload_n 1, 1) := by decide +kernel
theorem dL_law_353 : decode cL_law 353 = .ok (.aload_n 0, 1) := by decide +kernel
theorem dL_law_354 : decode cL_law 354 = .ok (.iload 4, 2) := by decide +kernel
theorem dL_law_356 : decode cL_law 356 = .ok (.iconst 1, 1) := by decide +kernel
theorem dL_law_357 : decode cL_law 357 = .ok (.iadd, 1) := by decide +kernel
theorem dL_law_358 : decode cL_law 358 = .ok (.iaload, 1) := by decide +kernel
theorem dL_law_359 : decode cL_law 359 = .ok (.aload_n 0, 1) := by decide +kernel
theorem dL_law_360 : decode cL_law 360 = .ok (.iload 4, 2) := by decide +kernel
theorem dL_law_362 : decode cL_law 362 = .ok (.iconst 2, 1) := by decide +kernel
theorem dL_law_363 : decode cL_law 363 = .ok (.iadd, 1) := by decide +kernel
theorem dL_law_364 : decode cL_law 364 = .ok (.iaload, 1) := by decide +kernel
theorem dL_law_365 : decode cL_law 365 = .ok (.aload_n 3, 1) := by decide +kernel
theorem dL_law_366 : decode cL_law 366 = .ok (.invokestatic 107, 3) := by decide +kernel
theorem dL_law_369 : decode cL_law 369 = .ok (.istore 5, 2) := by decide +kernel
theorem dL_law_371 : decode cL_law 371 = .ok (.aload_n 2, 1) := by decide +kernel
theorem dL_law_372 : decode cL_law 372 = .ok (.aload_n 0, 1) := by decide +kernel
theorem dL_law_373 : decode cL_law 373 = .ok (.iload 4, 2) := by decide +kernel
theorem dL_law_375 : decode cL_law 375 = .ok (.iconst 1, 1) := by decide +kernel
theorem dL_law_376 : decode cL_law 376 = .ok (.iadd, 1) := by decide +kernel
theorem dL_law_377 : decode cL_law 377 = .ok (.iaload, 1) := by decide +kernel
theorem dL_law_378 : decode cL_law 378 = .ok (.aload_n 0, 1) := by decide +kernel
theorem dL_law_379 : decode cL_law 379 = .ok (.iload 4, 2) := by decide +kernel
theorem dL_law_381 : decode cL_law 381 = .ok (.iconst 2, 1) := by decide +kernel
theorem dL_law_382 : decode cL_law 382 = .ok (.iadd, 1) := by decide +kernel
theorem dL_law_383 : decode cL_law 383 = .ok (.iaload, 1) := by decide +kernel
theorem dL_law_384 : decode cL_law 384 = .ok (.invokevirtual 109, 3) := by decide +kernel
theorem dL_law_387 : decode cL_law 387 = .ok (.istore 6, 2) := by decide +kernel
theorem dL_law_389 : decode cL_law 389 = .ok (.aload_n 2, 1) := by decide +kernel
theorem dL_law_390 : decode cL_law 390 = .ok (.invokevirtual 100, 3) := by decide +kernel
theorem dL_law_393 : decode cL_law 393 = .ok (.iload 5, 2) := by decide +kernel
theorem dL_law_395 : decode cL_law 395 = .ok (.if_icmp .eq 5, 3) := by decide +kernel
theorem dL_law_398 : decode cL_law 398 = .ok (.iconst 0, 1) := by decide +kernel
theorem dL_law_399 : decode cL_law 399 = .ok (.ireturn, 1) := by decide +kernel
theorem dL_law_400 : decode cL_law 400 = .ok (.iload 5, 2) := by decide +kernel
theorem dL_law_402 : decode cL_law 402 = .ok (.ifCond .ne 15, 3) := by decide +kernel
theorem dL_law_405 : decode cL_law 405 = .ok (.aload_n 3, 1) := by decide +kernel
theorem dL_law_406 : decode cL_law 406 = .ok (.iconst 0, 1) := by decide +kernel
theorem dL_law_407 : decode cL_law 407 = .ok (.laload, 1) := by decide +kernel
theorem dL_law_408 : decode cL_law 408 = .ok (.iload 6, 2) := by decide +kernel
theorem dL_law_410 : decode cL_law 410 = .ok (.i2l, 1) := by decide +kernel
theorem dL_law_411 : decode cL_law 411 = .ok (.lcmp, 1) := by decide +kernel
theorem dL_law_412 : decode cL_law 412 = .ok (.ifCond .eq 5, 3) := by decide +kernel
theorem dL_law_415 : decode cL_law 415 = .ok (.iconst 0, 1) := by decide +kernel
theorem dL_law_416 : decode cL_law 416 = .ok (.ireturn, 1) := by decide +kernel
theorem dL_law_417 : decode cL_law 417 = .ok (.goto 1351, 3) := by decide +kernel
theorem dL_law_420 : decode cL_law 420 = .ok (.aload_n 1, 1) := by decide +kernel
theorem dL_law_421 : decode cL_law 421 = .ok (.aload_n 0, 1) := by decide +kernel
theorem dL_law_422 : decode cL_law 422 = .ok (.iload 4, 2) := by decide +kernel
theorem dL_law_424 : decode cL_law 424 = .ok (.iconst 1, 1) := by decide +kernel
theorem dL_law_425 : decode cL_law 425 = .ok (.iadd, 1) := by decide +kernel
theorem dL_law_426 : decode cL_law 426 = .ok (.iaload, 1) := by decide +kernel
theorem dL_law_427 : decode cL_law 427 = .ok (.ifCond .eq 7, 3) := by decide +kernel
theorem dL_law_430 : decode cL_law 430 = .ok (.iconst 1, 1) := by decide +kernel
theorem dL_law_431 : decode cL_law 431 = .ok (.goto 4, 3) := by decide +kernel
theorem dL_law_434 : decode cL_law 434 = .ok (.iconst 0, 1) := by decide +kernel
theorem dL_law_435 : decode cL_law 435 = .ok (.aload_n 3, 1) := by decide +kernel
theorem dL_law_436 : decode cL_law 436 = .ok (.invokestatic 110, 3) := by decide +kernel
theorem dL_law_439 : decode cL_law 439 = .ok (.istore 5, 2) := by decide +kernel
theorem dL_law_441 : decode cL_law 441 = .ok (.aload_n 2, 1) := by decide +kernel
theorem dL_law_442 : decode cL_law 442 = .ok (.aload_n 0, 1) := by decide +kernel
theorem dL_law_443 : decode cL_law 443 = .ok (.iload 4, 2) := by decide +kernel
theorem dL_law_445 : decode cL_law 445 = .ok (.iconst 1, 1) := by decide +kernel
theorem dL_law_446 : decode cL_law 446 = .ok (.iadd, 1) := by decide +kernel
theorem dL_law_447 : decode cL_law 447 = .ok (.iaload, 1) := by decide +kernel
theorem dL_law_448 : decode cL_law 448 = .ok (.ifCond .eq 7, 3) := by decide +kernel
theorem dL_law_451 : decode cL_law 451 = .ok (.iconst 1, 1) := by decide +kernel
theorem dL_law_452 : decode cL_law 452 = .ok (.goto 4, 3) := by decide +kernel
theorem dL_law_455 : decode cL_law 455 = .ok (.iconst 0, 1) := by decide +kernel
theorem dL_law_456 : decode cL_law 456 = .ok (.invokevirtual 113, 3) := by decide +kernel
theorem dL_law_459 : decode cL_law 459 = .ok (.istore 6, 2) := by decide +kernel
theorem dL_law_461 : decode cL_law 461 = .ok (.aload_n 2, 1) := by decide +kernel
theorem dL_law_462 : decode cL_law 462 = .ok (.invokevirtual 100, 3) := by decide +kernel
theorem dL_law_465 : decode cL_law 465 = .ok (.iload 5, 2) := by decide +kernel
theorem dL_law_467 : decode cL_law 467 = .ok (.if_icmp .eq 5, 3) := by decide +kernel
theorem dL_law_470 : decode cL_law 470 = .ok (.iconst 0, 1) := by decide +kernel
theorem dL_law_471 : decode cL_law 471 = .ok (.ireturn, 1) := by decide +kernel
theorem dL_law_472 : decode cL_law 472 = .ok (.iload 5, 2) := by decide +kernel
theorem dL_law_474 : decode cL_law 474 = .ok (.ifCond .ne 15, 3) := by decide +kernel
theorem dL_law_477 : decode cL_law 477 = .ok (.aload_n 3, 1) := by decide +kernel
theorem dL_law_478 : decode cL_law 478 = .ok (.iconst 0, 1) := by decide +kernel
theorem dL_law_479 : decode cL_law 479 = .ok (.laload, 1) := by decide +kernel
theorem dL_law_480 : decode cL_law 480 = .ok (.iload 6, 2) := by decide +kernel
theorem dL_law_482 : decode cL_law 482 = .ok (.i2l, 1) := by decide +kernel
theorem dL_law_483 : decode cL_law 483 = .ok (.lcmp, 1) := by decide +kernel
theorem dL_law_484 : decode cL_law 484 = .ok (.ifCond .eq 5, 3) := by decide +kernel
theorem dL_law_487 : decode cL_law 487 = .ok (.iconst 0, 1) := by decide +kernel
theorem dL_law_488 : decode cL_law 488 = .ok (.ireturn, 1) := by decide +kernel
theorem dL_law_489 : decode cL_law 489 = .ok (.goto 1279, 3) := by decide +kernel
theorem dL_law_492 : decode cL_law 492 = .ok (.aload_n 1, 1) := by decide +kernel
theorem dL_law_493 : decode cL_law 493 = .ok (.aload_n 0, 1) := by decide +kernel
theorem dL_law_494 : decode cL_law 494 = .ok (.iload 4, 2) := by decide +kernel
theorem dL_law_496 : decode cL_law 496 = .ok (.iconst 1, 1) := by decide +kernel
theorem dL_law_497 : decode cL_law 497 = .ok (.iadd, 1) := by decide +kernel
theorem dL_law_498 : decode cL_law 498 = .ok (.iaload, 1) := by decide +kernel
theorem dL_law_499 : decode cL_law 499 = .ok (.aload_n 3, 1) := by decide +kernel
theorem dL_law_500 : decode cL_law 500 = .ok (.invokestatic 114, 3) := by decide +kernel
theorem dL_law_503 : decode cL_law 503 = .ok (.istore 5, 2) := by decide +kernel
theorem dL_law_505 : decode cL_law 505 = .ok (.aload_n 2, 1) := by decide +kernel
theorem dL_law_506 : decode cL_law 506 = .ok (.aload_n 0, 1) := by decide +kernel
theorem dL_law_507 : decode cL_law 507 = .ok (.iload 4, 2) := by decide +kernel
theorem dL_law_509 : decode cL_law 509 = .ok (.iconst 1, 1) := by decide +kernel
theorem dL_law_510 : decode cL_law 510 = .ok (.iadd, 1) := by decide +kernel
theorem dL_law_511 : decode cL_law 511 = .ok (.iaload, 1) := by decide +kernel
theorem dL_law_512 : decode cL_law 512 = .ok (.invokevirtual 117, 3) := by decide +kernel
theorem dL_law_515 : decode cL_law 515 = .ok (.istore 6, 2) := by decide +kernel
theorem dL_law_517 : decode cL_law 517 = .ok (.aload_n 2, 1) := by decide +kernel
theorem dL_law_518 : decode cL_law 518 = .ok (.invokevirtual 100, 3) := by decide +kernel
theorem dL_law_521 : decode cL_law 521 = .ok (.iload 5, 2) := by decide +kernel
theorem dL_law_523 : decode cL_law 523 = .ok (.if_icmp .eq 5, 3) := by decide +kernel
theorem dL_law_526 : decode cL_law 526 = .ok (.iconst 0, 1) := by decide +kernel
theorem dL_law_527 : decode cL_law 527 = .ok (.ireturn, 1) := by decide +kernel
theorem dL_law_528 : decode cL_law 528 = .ok (.iload 5, 2) := by decide +kernel
theorem dL_law_530 : decode cL_law 530 = .ok (.ifCond .ne 15, 3) := by decide +kernel
theorem dL_law_533 : decode cL_law 533 = .ok (.aload_n 3, 1) := by decide +kernel
theorem dL_law_534 : decode cL_law 534 = .ok (.iconst 0, 1) := by decide +kernel
theorem dL_law_535 : decode cL_law 535 = .ok (.laload, 1) := by decide +kernel
theorem dL_law_536 : decode cL_law 536 = .ok (.iload 6, 2) := by decide +kernel
theorem dL_law_538 : decode cL_law 538 = .ok (.i2l, 1) := by decide +kernel
theorem dL_law_539 : decode cL_law 539 = .ok (.lcmp, 1) := by decide +kernel
theorem dL_law_540 : decode cL_law 540 = .ok (.ifCond .eq 5, 3) := by decide +kernel
theorem dL_law_543 : decode cL_law 543 = .ok (.iconst 0, 1) := by decide +kernel
theorem dL_law_544 : decode cL_law 544 = .ok (.ireturn, 1) := by decide +kernel
theorem dL_law_545 : decode cL_law 545 = .ok (.goto 1223, 3) := by decide +kernel
theorem dL_law_548 : decode cL_law 548 = .ok (.aload_n 1, 1) := by decide +kernel
theorem dL_law_549 : decode cL_law 549 = .ok (.aload_n 0, 1) := by decide +kernel
theorem dL_law_550 : decode cL_law 550 = .ok (.iload 4, 2) := by decide +kernel
theorem dL_law_552 : decode cL_law 552 = .ok (.iconst 1, 1) := by decide +kernel
theorem dL_law_553 : decode cL_law 553 = .ok (.iadd, 1) := by decide +kernel
theorem dL_law_554 : decode cL_law 554 = .ok (.iaload, 1) := by decide +kernel
theorem dL_law_555 : decode cL_law 555 = .ok (.aload_n 3, 1) := by decide +kernel
theorem dL_law_556 : decode cL_law 556 = .ok (.invokestatic 118, 3) := by decide +kernel
theorem dL_law_559 : decode cL_law 559 = .ok (.istore 5, 2) := by decide +kernel
theorem dL_law_561 : decode cL_law 561 = .ok (.aload_n 2, 1) := by decide +kernel
theorem dL_law_562 : decode cL_law 562 = .ok (.aload_n 0, 1) := by decide +kernel
theorem dL_law_563 : decode cL_law 563 = .ok (.iload 4, 2) := by decide +kernel
theorem dL_law_565 : decode cL_law 565 = .ok (.iconst 1, 1) := by decide +kernel
theorem dL_law_566 : decode cL_law 566 = .ok (.iadd, 1) := by decide +kernel
theorem dL_law_567 : decode cL_law 567 = .ok (.iaload, 1) := by decide +kernel
theorem dL_law_568 : decode cL_law 568 = .ok (.invokevirtual 120, 3) := by decide +kernel
theorem dL_law_571 : decode cL_law 571 = .ok (.istore 6, 2) := by decide +kernel
theorem dL_law_573 : decode cL_law 573 = .ok (.aload_n 2, 1) := by decide +kernel
theorem dL_law_574 : decode cL_law 574 = .ok (.invokevirtual 100, 3) := by decide +kernel
theorem dL_law_577 : decode cL_law 577 = .ok (.iload 5, 2) := by decide +kernel
theorem dL_law_579 : decode cL_law 579 = .ok (.if_icmp .eq 5, 3) := by decide +kernel
theorem dL_law_582 : decode cL_law 582 = .ok (.iconst 0, 1) := by decide +kernel
theorem dL_law_583 : decode cL_law 583 = .ok (.ireturn, 1) := by decide +kernel
theorem dL_law_584 : decode cL_law 584 = .ok (.iload 5, 2) := by decide +kernel
theorem dL_law_586 : decode cL_law 586 = .ok (.ifCond .ne 15, 3) := by decide +kernel
theorem dL_law_589 : decode cL_law 589 = .ok (.aload_n 3, 1) := by decide +kernel
theorem dL_law_590 : decode cL_law 590 = .ok (.iconst 0, 1) := by decide +kernel
theorem dL_law_591 : decode cL_law 591 = .ok (.laload, 1) := by decide +kernel
theorem dL_law_592 : decode cL_law 592 = .ok (.iload 6, 2) := by decide +kernel
theorem dL_law_594 : decode cL_law 594 = .ok (.i2l, 1) := by decide +kernel
theorem dL_law_595 : decode cL_law 595 = .ok (.lcmp, 1) := by decide +kernel
theorem dL_law_596 : decode cL_law 596 = .ok (.ifCond .eq 5, 3) := by decide +kernel
theorem dL_law_599 : decode cL_law 599 = .ok (.iconst 0, 1) := by decide +kernel
theorem dL_law_600 : decode cL_law 600 = .ok (.ireturn, 1) := by decide +kernel
theorem dL_law_601 : decode cL_law 601 = .ok (.goto 1167, 3) := by decide +kernel
theorem dL_law_604 : decode cL_law 604 = .ok (.aload_n 1, 1) := by decide +kernel
theorem dL_law_605 : decode cL_law 605 = .ok (.aload_n 0, 1) := by decide +kernel
theorem dL_law_606 : decode cL_law 606 = .ok (.iload 4, 2) := by decide +kernel
theorem dL_law_608 : decode cL_law 608 = .ok (.iconst 1, 1) := by decide +kernel
theorem dL_law_609 : decode cL_law 609 = .ok (.iadd, 1) := by decide +kernel
theorem dL_law_610 : decode cL_law 610 = .ok (.iaload, 1) := by decide +kernel
theorem dL_law_611 : decode cL_law 611 = .ok (.aload_n 3, 1) := by decide +kernel
theorem dL_law_612 : decode cL_law 612 = .ok (.invokestatic 121, 3) := by decide +kernel
theorem dL_law_615 : decode cL_law 615 = .ok (.istore 5, 2) := by decide +kernel
theorem dL_law_617 : decode cL_law 617 = .ok (.aload_n 2, 1) := by decide +kernel
theorem dL_law_618 : decode cL_law 618 = .ok (.aload_n 0, 1) := by decide +kernel
theorem dL_law_619 : decode cL_law 619 = .ok (.iload 4, 2) := by decide +kernel
theorem dL_law_621 : decode cL_law 621 = .ok (.iconst 1, 1) := by decide +kernel
theorem dL_law_622 : decode cL_law 622 = .ok (.iadd, 1) := by decide +kernel
theorem dL_law_623 : decode cL_law 623 = .ok (.iaload, 1) := by decide +kernel
theorem dL_law_624 : decode cL_law 624 = .ok (.invokevirtual 123, 3) := by decide +kernel
theorem dL_law_627 : decode cL_law 627 = .ok (.istore 6, 2) := by decide +kernel
theorem dL_law_629 : decode cL_law 629 = .ok (.aload_n 2, 1) := by decide +kernel
theorem dL_law_630 : decode cL_law 630 = .ok (.invokevirtual 100, 3) := by decide +kernel
theorem dL_law_633 : decode cL_law 633 = .ok (.iload 5, 2) := by decide +kernel
theorem dL_law_635 : decode cL_law 635 = .ok (.if_icmp .eq 5, 3) := by decide +kernel
theorem dL_law_638 : decode cL_law 638 = .ok (.iconst 0, 1) := by decide +kernel
theorem dL_law_639 : decode cL_law 639 = .ok (.ireturn, 1) := by decide +kernel
theorem dL_law_640 : decode cL_law 640 = .ok (.iload 5, 2) := by decide +kernel
theorem dL_law_642 : decode cL_law 642 = .ok (.ifCond .ne 15, 3) := by decide +kernel
theorem dL_law_645 : decode cL_law 645 = .ok (.aload_n 3, 1) := by decide +kernel
theorem dL_law_646 : decode cL_law 646 = .ok (.iconst 0, 1) := by decide +kernel
theorem dL_law_647 : decode cL_law 647 = .ok (.laload, 1) := by decide +kernel
theorem dL_law_648 : decode cL_law 648 = .ok (.iload 6, 2) := by decide +kernel
theorem dL_law_650 : decode cL_law 650 = .ok (.i2l, 1) := by decide +kernel
theorem dL_law_651 : decode cL_law 651 = .ok (.lcmp, 1) := by decide +kernel
theorem dL_law_652 : decode cL_law 652 = .ok (.ifCond .eq 5, 3) := by decide +kernel
theorem dL_law_655 : decode cL_law 655 = .ok (.iconst 0, 1) := by decide +kernel
theorem dL_law_656 : decode cL_law 656 = .ok (.ireturn, 1) := by decide +kernel
theorem dL_law_657 : decode cL_law 657 = .ok (.goto 1111, 3) := by decide +kernel
theorem dL_law_660 : decode cL_law 660 = .ok (.aload_n 1, 1) := by decide +kernel
theorem dL_law_661 : decode cL_law 661 = .ok (.aload_n 0, 1) := by decide +kernel
theorem dL_law_662 : decode cL_law 662 = .ok (.iload 4, 2) := by decide +kernel
theorem dL_law_664 : decode cL_law 664 = .ok (.iconst 1, 1) := by decide +kernel
theorem dL_law_665 : decode cL_law 665 = .ok (.iadd, 1) := by decide +kernel
theorem dL_law_666 : decode cL_law 666 = .ok (.iaload, 1) := by decide +kernel
theorem dL_law_667 : decode cL_law 667 = .ok (.aload_n 3, 1) := by decide +kernel
theorem dL_law_668 : decode cL_law 668 = .ok (.invokestatic 124, 3) := by decide +kernel
theorem dL_law_671 : decode cL_law 671 = .ok (.istore 5, 2) := by decide +kernel
theorem dL_law_673 : decode cL_law 673 = .ok (.aload_n 2, 1) := by decide +kernel
theorem dL_law_674 : decode cL_law 674 = .ok (.aload_n 0, 1) := by decide +kernel
theorem dL_law_675 : decode cL_law 675 = .ok (.iload 4, 2) := by decide +kernel
theorem dL_law_677 : decode cL_law 677 = .ok (.iconst 1, 1) := by decide +kernel
theorem dL_law_678 : decode cL_law 678 = .ok (.iadd, 1) := by decide +kernel
theorem dL_law_679 : decode cL_law 679 = .ok (.iaload, 1) := by decide +kernel
theorem dL_law_680 : decode cL_law 680 = .ok (.invokevirtual 126, 3) := by decide +kernel
theorem dL_law_683 : decode cL_law 683 = .ok (.istore 6, 2) := by decide +kernel
theorem dL_law_685 : decode cL_law 685 = .ok (.aload_n 2, 1) := by decide +kernel
theorem dL_law_686 : decode cL_law 686 = .ok (.invokevirtual 100, 3) := by decide +kernel
theorem dL_law_689 : decode cL_law 689 = .ok (.iload 5, 2) := by decide +kernel
theorem dL_law_691 : decode cL_law 691 = .ok (.if_icmp .eq 5, 3) := by decide +kernel
theorem dL_law_694 : decode cL_law 694 = .ok (.iconst 0, 1) := by decide +kernel
theorem dL_law_695 : decode cL_law 695 = .ok (.ireturn, 1) := by decide +kernel
theorem dL_law_696 : decode cL_law 696 = .ok (.iload 5, 2) := by decide +kernel
theorem dL_law_698 : decode cL_law 698 = .ok (.ifCond .ne 15, 3) := by decide +kernel
theorem dL_law_701 : decode cL_law 701 = .ok (.aload_n 3, 1) := by decide +kernel
theorem dL_law_702 : decode cL_law 702 = .ok (.iconst 0, 1) := by decide +kernel
theorem dL_law_703 : decode cL_law 703 = .ok (.laload, 1) := by decide +kernel
theorem dL_law_704 : decode cL_law 704 = .ok (.iload 6, 2) := by decide +kernel
theorem dL_law_706 : decode cL_law 706 = .ok (.i2l, 1) := by decide +kernel
theorem dL_law_707 : decode cL_law 707 = .ok (.lcmp, 1) := by decide +kernel
theorem dL_law_708 : decode cL_law 708 = .ok (.ifCond .eq 5, 3) := by decide +kernel
theorem dL_law_711 : decode cL_law 711 = .ok (.iconst 0, 1) := by decide +kernel
theorem dL_law_712 : decode cL_law 712 = .ok (.ireturn, 1) := by decide +kernel
theorem dL_law_713 : decode cL_law 713 = .ok (.goto 1055, 3) := by decide +kernel
theorem dL_law_716 : decode cL_law 716 = .ok (.aload_n 1, 1) := by decide +kernel
theorem dL_law_717 : decode cL_law 717 = .ok (.aload_n 0, 1) := by decide +kernel
theorem dL_law_718 : decode cL_law 718 = .ok (.iload 4, 2) := by decide +kernel
theorem dL_law_720 : decode cL_law 720 = .ok (.iconst 1, 1) := by decide +kernel
theorem dL_law_721 : decode cL_law 721 = .ok (.iadd, 1) := by decide +kernel
theorem dL_law_722 : decode cL_law 722 = .ok (.iaload, 1) := by decide +kernel
theorem dL_law_723 : decode cL_law 723 = .ok (.aload_n 3, 1) := by decide +kernel
theorem dL_law_724 : decode cL_law 724 = .ok (.invokestatic 127, 3) := by decide +kernel
theorem dL_law_727 : decode cL_law 727 = .ok (.istore 5, 2) := by decide +kernel
theorem dL_law_729 : decode cL_law 729 = .ok (.aload_n 2, 1) := by decide +kernel
theorem dL_law_730 : decode cL_law 730 = .ok (.aload_n 0, 1) := by decide +kernel
theorem dL_law_731 : decode cL_law 731 = .ok (.iload 4, 2) := by decide +kernel
theorem dL_law_733 : decode cL_law 733 = .ok (.iconst 1, 1) := by decide +kernel
theorem dL_law_734 : decode cL_law 734 = .ok (.iadd, 1) := by decide +kernel
theorem dL_law_735 : decode cL_law 735 = .ok (.iaload, 1) := by decide +kernel
theorem dL_law_736 : decode cL_law 736 = .ok (.invokevirtual 129, 3) := by decide +kernel
theorem dL_law_739 : decode cL_law 739 = .ok (.istore 6, 2) := by decide +kernel
theorem dL_law_741 : decode cL_law 741 = .ok (.aload_n 2, 1) := by decide +kernel
theorem dL_law_742 : decode cL_law 742 = .ok (.invokevirtual 100, 3) := by decide +kernel
theorem dL_law_745 : decode cL_law 745 = .ok (.iload 5, 2) := by decide +kernel
theorem dL_law_747 : decode cL_law 747 = .ok (.if_icmp .eq 5, 3) := by decide +kernel
theorem dL_law_750 : decode cL_law 750 = .ok (.iconst 0, 1) := by decide +kernel
theorem dL_law_751 : decode cL_law 751 = .ok (.ireturn, 1) := by decide +kernel
theorem dL_law_752 : decode cL_law 752 = .ok (.iload 5, 2) := by decide +kernel
theorem dL_law_754 : decode cL_law 754 = .ok (.ifCond .ne 15, 3) := by decide +kernel
theorem dL_law_757 : decode cL_law 757 = .ok (.aload_n 3, 1) := by decide +kernel
theorem dL_law_758 : decode cL_law 758 = .ok (.iconst 0, 1) := by decide +kernel
theorem dL_law_759 : decode cL_law 759 = .ok (.laload, 1) := by decide +kernel
theorem dL_law_760 : decode cL_law 760 = .ok (.iload 6, 2) := by decide +kernel
theorem dL_law_762 : decode cL_law 762 = .ok (.i2l, 1) := by decide +kernel
theorem dL_law_763 : decode cL_law 763 = .ok (.lcmp, 1) := by decide +kernel
theorem dL_law_764 : decode cL_law 764 = .ok (.ifCond .eq 5, 3) := by decide +kernel
theorem dL_law_767 : decode cL_law 767 = .ok (.iconst 0, 1) := by decide +kernel
theorem dL_law_768 : decode cL_law 768 = .ok (.ireturn, 1) := by decide +kernel
theorem dL_law_769 : decode cL_law 769 = .ok (.goto 999, 3) := by decide +kernel
theorem dL_law_772 : decode cL_law 772 = .ok (.aload_n 1, 1) := by decide +kernel
theorem dL_law_773 : decode cL_law 773 = .ok (.invokevirtual 130, 3) := by decide +kernel
theorem dL_law_776 : decode cL_law 776 = .ok (.aload_n 2, 1) := by decide +kernel
theorem dL_law_777 : decode cL_law 777 = .ok (.invokevirtual 133, 3) := by decide +kernel
theorem dL_law_780 : decode cL_law 780 = .ok (.if_icmp .eq 988, 3) := by decide +kernel
theorem dL_law_783 : decode cL_law 783 = .ok (.iconst 0, 1) := by decide +kernel
theorem dL_law_784 : decode cL_law 784 = .ok (.ireturn, 1) := by decide +kernel
theorem dL_law_785 : decode cL_law 785 = .ok (.aload_n 1, 1) := by decide +kernel
theorem dL_law_786 : decode cL_law 786 = .ok (.invokevirtual 134, 3) := by decide +kernel
theorem dL_law_789 : decode cL_law 789 = .ok (.aload_n 2, 1) := by decide +kernel
