/-! the words of what the law calls are among the law's -/
set_option maxRecDepth 20000 in
theorem ggL_law_X3_init : GoodIn wsL_law wsX3_init := goodIn_r _ [9, 10, 11, 12, 13, 14, 15, 16, 17, 18, 19, 20, 21, 22, 23, 24, 25, 26, 27, 28, 29, 30, 31, 32, 33, 34, 35, 36, 37, 38, 39, 40, 41, 42, 43, 44, 45, 46, 47, 48, 2, 49, 50, 51, 52, 53, 54, 55, 56, 57, 58, 59, 60, 61, 62, 63, 64, 65, 66, 67, 68, 69, 70, 71, 72, 73, 74, 75, 76, 77, 78, 851, 852, 824, 825, 826, 827, 828, 829, 830, 831, 832, 853, 854, 855, 856, 857, 858, 859, 860, 861, 862] (by decide +kernel) (by decide +kernel)
set_option maxRecDepth 20000 in
theorem gL_law_X3_init : GoodIn wsL_law (wsX3_init) := ggL_law_X3_init
set_option maxRecDepth 20000 in
theorem ggL_law_X4_init : GoodIn wsL_law wsX4_init := goodIn_r _ [81, 82, 11, 12, 28, 83, 84, 85, 86, 87, 88, 89, 90, 91, 92, 93, 94, 95, 5, 96, 97, 98, 99, 100, 101, 102, 103, 104, 105, 106, 107, 108, 109, 110, 833, 834, 835, 836, 837, 838, 839, 840, 841, 842, 843, 844, 845, 846, 847, 848, 849, 850] (by decide +kernel) (by decide +kernel)
set_option maxRecDepth 20000 in
theorem gL_law_X4_init : GoodIn wsL_law (wsX4_init) := ggL_law_X4_init
set_option maxRecDepth 20000 in
theorem ggL_law_L_layOut : GoodIn wsL_law wsL_layOut := goodIn_ca (goodIn_r _ [114, 115, 116, 117, 118, 2, 119, 120, 121, 16, 122, 123, 124, 46, 47, 48, 49, 20, 24, 50, 51, 52, 53, 54, 55, 56, 57, 58, 15, 59, 29, 30, 60, 61, 62, 63, 64, 65, 66, 19, 67, 68, 69, 70, 71, 72, 73, 74, 75, 23, 76, 77, 78, 44, 824, 825, 826, 827, 828, 829, 830, 831, 832, 851, 852, 853, 854, 855, 856, 857, 858, 859, 860, 861, 862] (by decide +kernel) (by decide +kernel)) (goodIn_sub (fun _ h => List.mem_append_left _ (List.mem_append_left _ (List.mem_append_right _ h))) (by decide +kernel))
set_option maxRecDepth 20000 in
theorem gL_law_L_layOut : GoodIn wsL_law (va_wsS RL 78 yL_layOut wsL_layOut) := goodIn_app (goodIn_of _ (by decide +kernel)) ggL_law_L_layOut
set_option maxRecDepth 20000 in
theorem ggL_law_X4_layOut : GoodIn wsL_law wsX4_layOut := goodIn_r _ [128, 129, 97, 130, 131, 5, 132, 133, 134, 135, 136, 137, 138, 139, 140, 141, 142, 93, 94, 95, 96, 83, 84, 98, 99, 100, 101, 102, 103, 86, 87, 104, 105, 106, 107, 108, 109, 110, 833, 834, 835, 836, 837, 838, 839, 840, 841, 842, 843, 844, 845, 846, 847, 848, 849, 850] (by decide +kernel) (by decide +kernel)
set_option maxRecDepth 20000 in
theorem gL_law_X4_layOut : GoodIn wsL_law (wsV RL 83 RX4 yX4_layOut wsX4_layOut) := goodIn_app (goodIn_of _ (by decide +kernel)) ggL_law_X4_layOut
set_option maxRecDepth 20000 in
theorem ggL_law_X4_thrown : GoodIn wsL_law wsX4_thrown := goodIn_r _ [146, 129, 833, 834, 835, 836, 837, 838, 839, 840, 841, 842, 843, 844, 845, 846, 847, 848, 849, 850] (by decide +kernel) (by decide +kernel)
set_option maxRecDepth 20000 in
theorem gL_law_X4_thrown : GoodIn wsL_law (wsV RL 84 RX4 yX4_thrown wsX4_thrown) := goodIn_app (goodIn_of _ (by decide +kernel)) ggL_law_X4_thrown
set_option maxRecDepth 20000 in
theorem ggL_law_L_fill : GoodIn wsL_law wsL_fill := goodIn_ca (goodIn_r _ [149, 150, 151, 152, 153, 2, 154, 155, 156, 157, 158, 159, 160, 16, 161, 162, 163, 15, 164, 29, 165, 166, 167, 168, 50, 53, 52, 51, 20, 24, 169, 170, 171, 172, 173, 174, 175, 176, 177, 178, 179, 180, 181, 182, 183, 184, 30, 185, 186, 187, 188, 64, 65, 66, 19, 67, 68, 189, 190, 191, 192, 193, 194, 195, 196, 197, 198, 199, 200, 201, 202, 203, 204, 205, 23, 206, 43, 207, 208, 209, 210, 44, 211, 212, 213, 214, 77, 215, 57, 58, 59, 60, 61, 62, 63, 216, 217, 218, 219, 220, 221, 222, 223, 224, 225, 226, 227, 228, 229, 230, 231, 232, 233, 78, 824, 825, 826, 827, 828, 829, 830, 831, 832, 851, 852, 853, 854, 855, 856, 857, 858, 859, 860, 861, 862] (by decide +kernel) (by decide +kernel)) (goodIn_sub (fun _ h => List.mem_append_left _ (List.mem_append_right _ h)) (by decide +kernel))
set_option maxRecDepth 20000 in
theorem gL_law_L_fill : GoodIn wsL_law (va_wsS RL 88 yL_fill wsL_fill) := goodIn_app (goodIn_of _ (by decide +kernel)) ggL_law_L_fill
set_option maxRecDepth 20000 in
theorem ggL_law_X4_fill : GoodIn wsL_law wsX4_fill := goodIn_r _ [237, 129, 238, 239, 240, 5, 241, 97, 133, 134, 135, 242, 243, 244, 245, 246, 247, 248, 249, 84, 90, 98, 86, 87, 250, 251, 252, 253, 254, 255, 256, 257, 91, 83, 108, 109, 110, 258, 259, 260, 261, 262, 174, 175, 176, 263, 264, 265, 266, 267, 268, 269, 270, 271, 272, 273, 274, 101, 100, 99, 139, 140, 141, 142, 833, 834, 835, 836, 837, 838, 839, 840, 841, 842, 843, 844, 845, 846, 847, 848, 849, 850] (by decide +kernel) (by decide +kernel)
set_option maxRecDepth 20000 in
theorem gL_law_X4_fill : GoodIn wsL_law (wsV RL 91 RX4 yX4_fill wsX4_fill) := goodIn_app (goodIn_of _ (by decide +kernel)) ggL_law_X4_fill
set_option maxRecDepth 20000 in
theorem ggL_law_L_empty : GoodIn wsL_law wsL_empty := goodIn_ca (goodIn_r _ [277, 150, 278, 279, 280, 2, 281, 155, 156, 157, 158, 159, 160, 16, 161, 162, 163, 15, 164, 29, 165, 166, 167, 168, 50, 53, 52, 51, 20, 24, 169, 170, 171, 172, 173, 174, 175, 176, 177, 178, 179, 180, 181, 182, 183, 184, 30, 185, 186, 187, 188, 64, 65, 66, 19, 67, 68, 189, 190, 191, 192, 193, 194, 195, 196, 197, 198, 199, 200, 201, 202, 203, 204, 205, 23, 206, 43, 207, 208, 209, 210, 44, 211, 212, 213, 214, 77, 215, 57, 58, 59, 60, 61, 62, 63, 216, 217, 218, 219, 220, 221, 222, 223, 224, 225, 226, 227, 228, 229, 230, 231, 232, 233, 78, 824, 825, 826, 827, 828, 829, 830, 831, 832, 851, 852, 853, 854, 855, 856, 857, 858, 859, 860, 861, 862] (by decide +kernel) (by decide +kernel)) (goodIn_sub (fun _ h => List.mem_append_left _ (List.mem_append_right _ h)) (by decide +kernel))
set_option maxRecDepth 20000 in
theorem gL_law_L_empty : GoodIn wsL_law (va_wsS RL 92 yL_empty wsL_empty) := goodIn_app (goodIn_of _ (by decide +kernel)) ggL_law_L_empty
set_option maxRecDepth 20000 in
theorem ggL_law_X4_empty : GoodIn wsL_law wsX4_empty := goodIn_r _ [285, 129, 238, 239, 240, 5, 241, 97, 133, 134, 135, 242, 243, 244, 245, 246, 247, 248, 249, 84, 90, 98, 86, 87, 250, 251, 252, 253, 254, 255, 256, 257, 91, 83, 108, 109, 110, 258, 259, 260, 261, 262, 174, 175, 176, 263, 264, 265, 266, 267, 268, 269, 270, 271, 272, 273, 274, 101, 100, 99, 139, 140, 141, 142, 833, 834, 835, 836, 837, 838, 839, 840, 841, 842, 843, 844, 845, 846, 847, 848, 849, 850] (by decide +kernel) (by decide +kernel)
set_option maxRecDepth 20000 in
theorem gL_law_X4_empty : GoodIn wsL_law (wsV RL 94 RX4 yX4_empty wsX4_empty) := goodIn_app (goodIn_of _ (by decide +kernel)) ggL_law_X4_empty
set_option maxRecDepth 20000 in
theorem ggL_law_L_pour : GoodIn wsL_law wsL_pour := goodIn_ca (goodIn_ca (goodIn_r _ [288, 150, 115, 289, 290, 291, 2, 292, 293, 294, 295, 296, 120, 121, 155, 156, 157, 158, 159, 160, 16, 161, 162, 163, 15, 164, 29, 297, 298, 299, 165, 166, 167, 168, 50, 53, 52, 51, 20, 24, 169, 170, 171, 172, 173, 174, 175, 176, 177, 178, 179, 180, 181, 182, 183, 184, 30, 185, 186, 187, 188, 64, 65, 66, 19, 67, 68, 189, 190, 191, 192, 193, 194, 195, 196, 197, 198, 199, 200, 201, 202, 203, 204, 205, 23, 206, 43, 207, 208, 209, 210, 44, 211, 212, 213, 214, 77, 215, 57, 58, 59, 60, 61, 62, 63, 216, 217, 218, 219, 220, 221, 222, 223, 224, 225, 226, 227, 228, 229, 230, 231, 232, 233, 78, 824, 825, 826, 827, 828, 829, 830, 831, 832, 851, 852, 853, 854, 855, 856, 857, 858, 859, 860, 861, 862] (by decide +kernel) (by decide +kernel)) (goodIn_sub (fun _ h => List.mem_append_left _ (List.mem_append_left _ (List.mem_append_right _ h))) (by decide +kernel))) (goodIn_sub (fun _ h => List.mem_append_left _ (List.mem_append_right _ h)) (by decide +kernel))
set_option maxRecDepth 20000 in
theorem gL_law_L_pour : GoodIn wsL_law (va_wsS RL 95 yL_pour wsL_pour) := goodIn_app (goodIn_of _ (by decide +kernel)) ggL_law_L_pour
set_option maxRecDepth 20000 in
theorem ggL_law_X4_pour : GoodIn wsL_law wsX4_pour := goodIn_r _ [303, 129, 238, 239, 240, 5, 241, 97, 133, 134, 135, 139, 140, 141, 142, 242, 243, 244, 245, 246, 247, 248, 249, 84, 90, 98, 86, 87, 250, 251, 252, 253, 254, 255, 256, 257, 91, 83, 108, 109, 110, 258, 259, 260, 261, 262, 174, 175, 176, 263, 264, 265, 266, 267, 268, 269, 270, 271, 272, 273, 274, 101, 100, 99, 833, 834, 835, 836, 837, 838, 839, 840, 841, 842, 843, 844, 845, 846, 847, 848, 849, 850] (by decide +kernel) (by decide +kernel)
set_option maxRecDepth 20000 in
theorem gL_law_X4_pour : GoodIn wsL_law (wsV RL 98 RX4 yX4_pour wsX4_pour) := goodIn_app (goodIn_of _ (by decide +kernel)) ggL_law_X4_pour
set_option maxRecDepth 20000 in
theorem ggL_law_L_follow : GoodIn wsL_law wsL_follow := goodIn_ca (goodIn_ca (goodIn_r _ [306, 115, 307, 308, 309, 310, 2, 311, 312, 313, 314, 174, 175, 176, 315, 316, 317, 120, 121, 318, 319, 320, 321, 322, 323, 324, 20, 16, 325, 326, 327, 19, 328, 68, 36, 35, 329, 61, 62, 63, 330, 178, 179, 15, 180, 29, 331, 57, 58, 59, 30, 60, 332, 223, 224, 225, 333, 334, 335, 336, 37, 38, 337, 338, 339, 340, 341, 342, 343, 344, 345, 346, 347, 348, 349, 350, 351, 352, 353, 162, 163, 164, 354, 217, 218, 219, 355, 170, 171, 172, 173, 177, 181, 182, 183, 184, 185, 186, 187, 188, 356, 357, 358, 359, 360, 361, 362, 363, 364, 365, 366, 367, 368, 369, 370, 371, 372, 70, 71, 72, 373, 374, 375, 376, 165, 166, 167, 168, 50, 53, 52, 51, 24, 169, 64, 65, 66, 67, 189, 190, 191, 192, 193, 194, 195, 196, 197, 198, 199, 200, 201, 202, 203, 204, 205, 23, 206, 43, 207, 208, 209, 210, 44, 211, 212, 213, 214, 77, 215, 216, 220, 221, 222, 226, 227, 228, 229, 230, 231, 232, 233, 78, 824, 825, 826, 827, 828, 829, 830, 831, 832, 853, 854, 855, 856, 857, 851, 852, 858, 859, 860, 861, 862] (by decide +kernel) (by decide +kernel)) (goodIn_sub (fun _ h => List.mem_append_right _ h) (by decide +kernel))) (goodIn_sub (fun _ h => List.mem_append_left _ (List.mem_append_left _ (List.mem_append_right _ h))) (by decide +kernel))
set_option maxRecDepth 20000 in
theorem gL_law_L_follow : GoodIn wsL_law (va_wsS RL 99 yL_follow wsL_follow) := goodIn_app (goodIn_of _ (by decide +kernel)) ggL_law_L_follow
set_option maxRecDepth 20000 in
theorem ggL_law_X4_follow : GoodIn wsL_law wsX4_follow := goodIn_r _ [380, 129, 136, 137, 5, 138, 133, 134, 135, 139, 140, 141, 142, 250, 251, 252, 253, 84, 381, 382, 383, 384, 385, 89, 88, 386, 387, 388, 389, 390, 391, 392, 393, 394, 395, 396, 397, 97, 254, 255, 256, 257, 91, 83, 90, 108, 109, 110, 258, 259, 260, 261, 262, 174, 175, 176, 398, 399, 400, 401, 402, 403, 404, 405, 406, 407, 408, 409, 410, 411, 412, 413, 414, 415, 416, 417, 242, 243, 244, 245, 246, 247, 248, 249, 98, 86, 87, 263, 264, 265, 266, 267, 268, 269, 270, 271, 272, 273, 274, 101, 100, 99, 833, 834, 835, 836, 837, 838, 839, 840, 841, 842, 843, 844, 845, 846, 847, 848, 849, 850] (by decide +kernel) (by decide +kernel)
set_option maxRecDepth 20000 in
theorem gL_law_X4_follow : GoodIn wsL_law (wsV RL 101 RX4 yX4_follow wsX4_follow) := goodIn_app (goodIn_of _ (by decide +kernel)) ggL_law_X4_follow
set_option maxRecDepth 20000 in
theorem ggL_law_X3_jars : GoodIn wsL_law wsX3_jars := goodIn_r _ [421, 16, 69, 70, 71, 15, 72, 29, 824, 825, 826, 827, 828, 829, 830, 831, 832, 851, 852] (by decide +kernel) (by decide +kernel)
set_option maxRecDepth 20000 in
theorem gL_law_X3_jars : GoodIn wsL_law (wsV RL 102 RX3 yX3_jars wsX3_jars) := goodIn_app (goodIn_of _ (by decide +kernel)) ggL_law_X3_jars
set_option maxRecDepth 20000 in
theorem ggL_law_X4_jars : GoodIn wsL_law wsX4_jars := goodIn_r _ [425, 97, 426, 427, 428, 5, 429, 129, 833, 834, 835, 836, 837, 838, 839, 840, 841, 842, 843, 844, 845, 846, 847, 848, 849, 850] (by decide +kernel) (by decide +kernel)
set_option maxRecDepth 20000 in
theorem gL_law_X4_jars : GoodIn wsL_law (wsV RL 105 RX4 yX4_jars wsX4_jars) := goodIn_app (goodIn_of _ (by decide +kernel)) ggL_law_X4_jars
set_option maxRecDepth 20000 in
theorem ggL_law_L_volumeOf : GoodIn wsL_law wsL_volumeOf := goodIn_ca (goodIn_r _ [432, 150, 433, 434, 435, 2, 436, 16, 155, 156, 157, 158, 159, 160, 161, 162, 163, 15, 164, 29, 437, 178, 179, 180, 824, 825, 826, 827, 828, 829, 830, 831, 832, 851, 852] (by decide +kernel) (by decide +kernel)) (goodIn_sub (fun _ h => List.mem_append_left _ (List.mem_append_right _ h)) (by decide +kernel))
set_option maxRecDepth 20000 in
theorem gL_law_L_volumeOf : GoodIn wsL_law (va_wsS RL 106 yL_volumeOf wsL_volumeOf) := goodIn_app (goodIn_of _ (by decide +kernel)) ggL_law_L_volumeOf
set_option maxRecDepth 20000 in
theorem ggL_law_X4_volumeOf : GoodIn wsL_law wsX4_volumeOf := goodIn_r _ [441, 129, 83, 238, 239, 240, 5, 241, 97, 133, 134, 135, 139, 140, 141, 142, 833, 834, 835, 836, 837, 838, 839, 840, 841, 842, 843, 844, 845, 846, 847, 848, 849, 850] (by decide +kernel) (by decide +kernel)
set_option maxRecDepth 20000 in
theorem gL_law_X4_volumeOf : GoodIn wsL_law (wsV RL 108 RX4 yX4_volumeOf wsX4_volumeOf) := goodIn_app (goodIn_of _ (by decide +kernel)) ggL_law_X4_volumeOf
set_option maxRecDepth 20000 in
theorem ggL_law_L_amountOf : GoodIn wsL_law wsL_amountOf := goodIn_ca (goodIn_r _ [444, 150, 445, 446, 447, 2, 448, 16, 155, 156, 157, 158, 159, 160, 161, 162, 163, 15, 164, 29, 449, 182, 183, 184, 30, 824, 825, 826, 827, 828, 829, 830, 831, 832, 851, 852] (by decide +kernel) (by decide +kernel)) (goodIn_sub (fun _ h => List.mem_append_left _ (List.mem_append_right _ h)) (by decide +kernel))
set_option maxRecDepth 20000 in
theorem gL_law_L_amountOf : GoodIn wsL_law (va_wsS RL 109 yL_amountOf wsL_amountOf) := goodIn_app (goodIn_of _ (by decide +kernel)) ggL_law_L_amountOf
set_option maxRecDepth 20000 in
theorem ggL_law_X4_amountOf : GoodIn wsL_law wsX4_amountOf := goodIn_r _ [453, 129, 84, 238, 239, 240, 5, 241, 97, 133, 134, 135, 139, 140, 141, 142, 833, 834, 835, 836, 837, 838, 839, 840, 841, 842, 843, 844, 845, 846, 847, 848, 849, 850] (by decide +kernel) (by decide +kernel)
set_option maxRecDepth 20000 in
theorem gL_law_X4_amountOf : GoodIn wsL_law (wsV RL 111 RX4 yX4_amountOf wsX4_amountOf) := goodIn_app (goodIn_of _ (by decide +kernel)) ggL_law_X4_amountOf
set_option maxRecDepth 20000 in
theorem ggL_law_L_isEmpty : GoodIn wsL_law wsL_isEmpty := goodIn_ca (goodIn_r _ [456, 150, 457, 458, 459, 2, 460, 16, 155, 156, 157, 158, 159, 160, 161, 162, 163, 15, 164, 29, 461, 194, 195, 196, 181, 182, 183, 184, 30, 824, 825, 826, 827, 828, 829, 830, 831, 832, 851, 852] (by decide +kernel) (by decide +kernel)) (goodIn_sub (fun _ h => List.mem_append_left _ (List.mem_append_right _ h)) (by decide +kernel))
set_option maxRecDepth 20000 in
theorem gL_law_L_isEmpty : GoodIn wsL_law (va_wsS RL 112 yL_isEmpty wsL_isEmpty) := goodIn_app (goodIn_of _ (by decide +kernel)) ggL_law_L_isEmpty
set_option maxRecDepth 20000 in
theorem ggL_law_X4_isEmpty : GoodIn wsL_law wsX4_isEmpty := goodIn_r _ [465, 129, 84, 238, 239, 240, 5, 241, 97, 133, 134, 135, 466, 467, 468, 469, 833, 834, 835, 836, 837, 838, 839, 840, 841, 842, 843, 844, 845, 846, 847, 848, 849, 850] (by decide +kernel) (by decide +kernel)
set_option maxRecDepth 20000 in
theorem gL_law_X4_isEmpty : GoodIn wsL_law (wsV RL 114 RX4 yX4_isEmpty wsX4_isEmpty) := goodIn_app (goodIn_of _ (by decide +kernel)) ggL_law_X4_isEmpty
set_option maxRecDepth 20000 in
theorem ggL_law_L_isFull : GoodIn wsL_law wsL_isFull := goodIn_ca (goodIn_r _ [472, 150, 473, 474, 475, 2, 476, 16, 155, 156, 157, 158, 159, 160, 161, 162, 163, 15, 164, 29, 477, 200, 201, 202, 181, 182, 183, 184, 30, 177, 178, 179, 180, 824, 825, 826, 827, 828, 829, 830, 831, 832, 851, 852] (by decide +kernel) (by decide +kernel)) (goodIn_sub (fun _ h => List.mem_append_left _ (List.mem_append_right _ h)) (by decide +kernel))
set_option maxRecDepth 20000 in
theorem gL_law_L_isFull : GoodIn wsL_law (va_wsS RL 115 yL_isFull wsL_isFull) := goodIn_app (goodIn_of _ (by decide +kernel)) ggL_law_L_isFull
set_option maxRecDepth 20000 in
theorem ggL_law_X4_isFull : GoodIn wsL_law wsX4_isFull := goodIn_r _ [481, 129, 84, 83, 238, 239, 240, 5, 241, 97, 133, 134, 135, 466, 467, 468, 469, 833, 834, 835, 836, 837, 838, 839, 840, 841, 842, 843, 844, 845, 846, 847, 848, 849, 850] (by decide +kernel) (by decide +kernel)
set_option maxRecDepth 20000 in
theorem gL_law_X4_isFull : GoodIn wsL_law (wsV RL 117 RX4 yX4_isFull wsX4_isFull) := goodIn_app (goodIn_of _ (by decide +kernel)) ggL_law_X4_isFull
set_option maxRecDepth 20000 in
theorem ggL_law_X3_heldInAll : GoodIn wsL_law wsX3_heldInAll := goodIn_r _ [485, 16, 449, 182, 183, 15, 184, 30, 824, 825, 826, 827, 828, 829, 830, 831, 832, 851, 852] (by decide +kernel) (by decide +kernel)
set_option maxRecDepth 20000 in
theorem gL_law_X3_heldInAll : GoodIn wsL_law (wsV RL 118 RX3 yX3_heldInAll wsX3_heldInAll) := goodIn_app (goodIn_of _ (by decide +kernel)) ggL_law_X3_heldInAll
set_option maxRecDepth 20000 in
theorem ggL_law_X4_heldInAll : GoodIn wsL_law wsX4_heldInAll := goodIn_r _ [489, 490, 491, 492, 5, 493, 84, 426, 427, 428, 429, 129, 833, 834, 835, 836, 837, 838, 839, 840, 841, 842, 843, 844, 845, 846, 847, 848, 849, 850] (by decide +kernel) (by decide +kernel)
set_option maxRecDepth 20000 in
theorem gL_law_X4_heldInAll : GoodIn wsL_law (wsV RL 121 RX4 yX4_heldInAll wsX4_heldInAll) := goodIn_app (goodIn_of _ (by decide +kernel)) ggL_law_X4_heldInAll
set_option maxRecDepth 20000 in
theorem ggL_law_X3_acts : GoodIn wsL_law wsX3_acts := goodIn_r _ [497, 50, 824, 825, 826, 827, 828, 829, 830, 831, 832] (by decide +kernel) (by decide +kernel)
set_option maxRecDepth 20000 in
theorem gL_law_X3_acts : GoodIn wsL_law (wsV RL 122 RX3 yX3_acts wsX3_acts) := goodIn_app (goodIn_of _ (by decide +kernel)) ggL_law_X3_acts
set_option maxRecDepth 20000 in
theorem ggL_law_X4_acts : GoodIn wsL_law wsX4_acts := goodIn_r _ [501, 98, 426, 427, 428, 5, 429, 129, 833, 834, 835, 836, 837, 838, 839, 840, 841, 842, 843, 844, 845, 846, 847, 848, 849, 850] (by decide +kernel) (by decide +kernel)
set_option maxRecDepth 20000 in
theorem gL_law_X4_acts : GoodIn wsL_law (wsV RL 125 RX4 yX4_acts wsX4_acts) := goodIn_app (goodIn_of _ (by decide +kernel)) ggL_law_X4_acts
set_option maxRecDepth 20000 in
theorem ggL_law_X3_pouredInAll : GoodIn wsL_law wsX3_pouredInAll := goodIn_r _ [505, 51, 824, 825, 826, 827, 828, 829, 830, 831, 832] (by decide +kernel) (by decide +kernel)
set_option maxRecDepth 20000 in
theorem gL_law_X3_pouredInAll : GoodIn wsL_law (wsV RL 126 RX3 yX3_pouredInAll wsX3_pouredInAll) := goodIn_app (goodIn_of _ (by decide +kernel)) ggL_law_X3_pouredInAll
set_option maxRecDepth 20000 in
theorem ggL_law_X4_pouredInAll : GoodIn wsL_law wsX4_pouredInAll := goodIn_r _ [509, 99, 426, 427, 428, 5, 429, 129, 833, 834, 835, 836, 837, 838, 839, 840, 841, 842, 843, 844, 845, 846, 847, 848, 849, 850] (by decide +kernel) (by decide +kernel)
set_option maxRecDepth 20000 in
theorem gL_law_X4_pouredInAll : GoodIn wsL_law (wsV RL 129 RX4 yX4_pouredInAll wsX4_pouredInAll) := goodIn_app (goodIn_of _ (by decide +kernel)) ggL_law_X4_pouredInAll
set_option maxRecDepth 20000 in
theorem ggL_law_X3_spilledInAll : GoodIn wsL_law wsX3_spilledInAll := goodIn_r _ [513, 52, 824, 825, 826, 827, 828, 829, 830, 831, 832] (by decide +kernel) (by decide +kernel)
set_option maxRecDepth 20000 in
theorem gL_law_X3_spilledInAll : GoodIn wsL_law (wsV RL 130 RX3 yX3_spilledInAll wsX3_spilledInAll) := goodIn_app (goodIn_of _ (by decide +kernel)) ggL_law_X3_spilledInAll
set_option maxRecDepth 20000 in
theorem ggL_law_X4_spilledInAll : GoodIn wsL_law wsX4_spilledInAll := goodIn_r _ [517, 100, 426, 427, 428, 5, 429, 129, 833, 834, 835, 836, 837, 838, 839, 840, 841, 842, 843, 844, 845, 846, 847, 848, 849, 850] (by decide +kernel) (by decide +kernel)
set_option maxRecDepth 20000 in
theorem gL_law_X4_spilledInAll : GoodIn wsL_law (wsV RL 133 RX4 yX4_spilledInAll wsX4_spilledInAll) := goodIn_app (goodIn_of _ (by decide +kernel)) ggL_law_X4_spilledInAll
set_option maxRecDepth 20000 in
theorem ggL_law_X3_takenInAll : GoodIn wsL_law wsX3_takenInAll := goodIn_r _ [521, 53, 824, 825, 826, 827, 828, 829, 830, 831, 832] (by decide +kernel) (by decide +kernel)
set_option maxRecDepth 20000 in
theorem gL_law_X3_takenInAll : GoodIn wsL_law (wsV RL 134 RX3 yX3_takenInAll wsX3_takenInAll) := goodIn_app (goodIn_of _ (by decide +kernel)) ggL_law_X3_takenInAll
set_option maxRecDepth 20000 in
theorem ggL_law_X4_takenInAll : GoodIn wsL_law wsX4_takenInAll := goodIn_r _ [525, 101, 426, 427, 428, 5, 429, 129, 833, 834, 835, 836, 837, 838, 839, 840, 841, 842, 843, 844, 845, 846, 847, 848, 849, 850] (by decide +kernel) (by decide +kernel)
set_option maxRecDepth 20000 in
theorem gL_law_X4_takenInAll : GoodIn wsL_law (wsV RL 137 RX4 yX4_takenInAll wsX4_takenInAll) := goodIn_app (goodIn_of _ (by decide +kernel)) ggL_law_X4_takenInAll
set_option maxRecDepth 20000 in
theorem ggL_law_L_isThere : GoodIn wsL_law wsL_isThere := goodIn_ca (goodIn_r _ [528, 115, 529, 530, 531, 2, 532, 16, 315, 316, 317, 120, 121, 533, 369, 370, 15, 371, 372, 70, 71, 72, 29, 181, 182, 183, 184, 30, 824, 825, 826, 827, 828, 829, 830, 831, 832, 851, 852] (by decide +kernel) (by decide +kernel)) (goodIn_sub (fun _ h => List.mem_append_left _ (List.mem_append_left _ (List.mem_append_right _ h))) (by decide +kernel))
set_option maxRecDepth 20000 in
theorem gL_law_L_isThere : GoodIn wsL_law (va_wsS RL 138 yL_isThere wsL_isThere) := goodIn_app (goodIn_of _ (by decide +kernel)) ggL_law_L_isThere
set_option maxRecDepth 20000 in
theorem ggL_law_X4_isThere : GoodIn wsL_law wsX4_isThere := goodIn_r _ [537, 129, 136, 137, 5, 138, 133, 134, 135, 250, 251, 252, 253, 84, 402, 403, 404, 405, 97, 406, 407, 408, 409, 108, 109, 110, 466, 467, 468, 469, 833, 834, 835, 836, 837, 838, 839, 840, 841, 842, 843, 844, 845, 846, 847, 848, 849, 850] (by decide +kernel) (by decide +kernel)
set_option maxRecDepth 20000 in
theorem gL_law_X4_isThere : GoodIn wsL_law (wsV RL 140 RX4 yX4_isThere wsX4_isThere) := goodIn_app (goodIn_of _ (by decide +kernel)) ggL_law_X4_isThere
set_option maxRecDepth 20000 in
theorem ggL_law_L_leastActs : GoodIn wsL_law wsL_leastActs := goodIn_ca (goodIn_r _ [540, 115, 541, 542, 543, 2, 544, 315, 316, 317, 120, 121, 321, 322, 323, 324, 20, 16, 325, 326, 327, 19, 328, 68, 36, 35, 329, 61, 62, 63, 330, 178, 179, 15, 180, 29, 331, 57, 58, 59, 30, 60, 332, 223, 224, 225, 333, 334, 335, 336, 37, 38, 337, 338, 339, 340, 341, 342, 343, 344, 345, 346, 347, 348, 349, 350, 351, 352, 353, 162, 163, 164, 354, 217, 218, 219, 355, 170, 171, 172, 173, 174, 175, 176, 177, 181, 182, 183, 184, 185, 186, 187, 188, 356, 357, 358, 359, 360, 361, 362, 363, 364, 365, 366, 367, 368, 369, 370, 371, 372, 70, 71, 72, 824, 825, 826, 827, 828, 829, 830, 831, 832, 853, 854, 855, 856, 857, 851, 852] (by decide +kernel) (by decide +kernel)) (goodIn_sub (fun _ h => List.mem_append_left _ (List.mem_append_left _ (List.mem_append_right _ h))) (by decide +kernel))
set_option maxRecDepth 20000 in
theorem gL_law_L_leastActs : GoodIn wsL_law (va_wsS RL 141 yL_leastActs wsL_leastActs) := goodIn_app (goodIn_of _ (by decide +kernel)) ggL_law_L_leastActs
set_option maxRecDepth 20000 in
theorem ggL_law_X4_leastActs : GoodIn wsL_law wsX4_leastActs := goodIn_r _ [548, 129, 136, 137, 5, 138, 133, 134, 135, 250, 251, 252, 253, 84, 381, 382, 383, 384, 385, 89, 88, 386, 387, 388, 389, 390, 391, 392, 393, 394, 395, 396, 397, 97, 254, 255, 256, 257, 91, 83, 90, 108, 109, 110, 258, 259, 260, 261, 262, 174, 175, 176, 398, 399, 400, 401, 402, 403, 404, 405, 406, 407, 408, 409, 139, 140, 141, 142, 833, 834, 835, 836, 837, 838, 839, 840, 841, 842, 843, 844, 845, 846, 847, 848, 849, 850] (by decide +kernel) (by decide +kernel)
set_option maxRecDepth 20000 in
theorem gL_law_X4_leastActs : GoodIn wsL_law (wsV RL 143 RX4 yX4_leastActs wsX4_leastActs) := goodIn_app (goodIn_of _ (by decide +kernel)) ggL_law_X4_leastActs
set_option maxRecDepth 20000 in
theorem ggL_law_L_leastActsIn : GoodIn wsL_law wsL_leastActsIn := goodIn_ca (goodIn_ca (goodIn_r _ [551, 150, 115, 552, 553, 554, 2, 555, 155, 156, 157, 158, 159, 160, 16, 161, 162, 163, 15, 164, 29, 315, 316, 317, 120, 121, 321, 322, 323, 324, 20, 325, 326, 327, 19, 328, 68, 36, 35, 329, 61, 62, 63, 330, 178, 179, 180, 331, 57, 58, 59, 30, 60, 332, 223, 224, 225, 333, 334, 335, 336, 37, 38, 337, 338, 339, 340, 341, 342, 343, 344, 345, 346, 347, 348, 349, 350, 351, 352, 353, 354, 217, 218, 219, 355, 170, 171, 172, 173, 174, 175, 176, 177, 181, 182, 183, 184, 185, 186, 187, 188, 356, 357, 358, 359, 556, 557, 558, 559, 560, 824, 825, 826, 827, 828, 829, 830, 831, 832, 851, 852, 853, 854, 855, 856, 857] (by decide +kernel) (by decide +kernel)) (goodIn_sub (fun _ h => List.mem_append_left _ (List.mem_append_right _ h)) (by decide +kernel))) (goodIn_sub (fun _ h => List.mem_append_left _ (List.mem_append_left _ (List.mem_append_right _ h))) (by decide +kernel))
set_option maxRecDepth 20000 in
theorem gL_law_L_leastActsIn : GoodIn wsL_law (va_wsS RL 144 yL_leastActsIn wsL_leastActsIn) := goodIn_app (goodIn_of _ (by decide +kernel)) ggL_law_L_leastActsIn
set_option maxRecDepth 20000 in
theorem ggL_law_X4_leastActsIn : GoodIn wsL_law wsX4_leastActsIn := goodIn_r _ [564, 129, 238, 239, 240, 5, 241, 97, 133, 134, 135, 139, 140, 141, 142, 136, 137, 138, 565, 566, 567, 568, 385, 89, 88, 250, 251, 252, 253, 84, 386, 387, 388, 389, 390, 391, 392, 393, 394, 395, 396, 397, 254, 255, 256, 257, 91, 83, 90, 108, 109, 110, 258, 259, 260, 261, 262, 174, 175, 176, 398, 399, 400, 401, 406, 407, 408, 409, 833, 834, 835, 836, 837, 838, 839, 840, 841, 842, 843, 844, 845, 846, 847, 848, 849, 850] (by decide +kernel) (by decide +kernel)
set_option maxRecDepth 20000 in
theorem gL_law_X4_leastActsIn : GoodIn wsL_law (wsV RL 146 RX4 yX4_leastActsIn wsX4_leastActsIn) := goodIn_app (goodIn_of _ (by decide +kernel)) ggL_law_X4_leastActsIn
set_option maxRecDepth 20000 in
theorem ggL_law_L_nextAct : GoodIn wsL_law wsL_nextAct := goodIn_ca (goodIn_ca (goodIn_r _ [571, 115, 307, 572, 573, 574, 2, 575, 312, 313, 315, 316, 317, 120, 121, 321, 322, 323, 324, 20, 16, 325, 326, 327, 19, 328, 68, 36, 35, 329, 61, 62, 63, 330, 178, 179, 15, 180, 29, 331, 57, 58, 59, 30, 60, 332, 223, 224, 225, 333, 334, 335, 336, 37, 38, 337, 338, 339, 340, 341, 342, 343, 344, 345, 346, 347, 348, 349, 350, 351, 352, 353, 162, 163, 164, 354, 217, 218, 219, 355, 170, 171, 172, 173, 174, 175, 176, 177, 181, 182, 183, 184, 185, 186, 187, 188, 356, 357, 358, 359, 360, 361, 362, 363, 364, 365, 366, 367, 368, 369, 370, 371, 372, 70, 71, 72, 373, 374, 375, 376, 824, 825, 826, 827, 828, 829, 830, 831, 832, 853, 854, 855, 856, 857, 851, 852] (by decide +kernel) (by decide +kernel)) (goodIn_sub (fun _ h => List.mem_append_right _ h) (by decide +kernel))) (goodIn_sub (fun _ h => List.mem_append_left _ (List.mem_append_left _ (List.mem_append_right _ h))) (by decide +kernel))
set_option maxRecDepth 20000 in
theorem gL_law_L_nextAct : GoodIn wsL_law (va_wsS RL 147 yL_nextAct wsL_nextAct) := goodIn_app (goodIn_of _ (by decide +kernel)) ggL_law_L_nextAct
set_option maxRecDepth 20000 in
theorem ggL_law_X4_nextAct : GoodIn wsL_law wsX4_nextAct := goodIn_r _ [579, 129, 136, 137, 5, 138, 133, 134, 135, 139, 140, 141, 142, 250, 251, 252, 253, 84, 381, 382, 383, 384, 385, 89, 88, 386, 387, 388, 389, 390, 391, 392, 393, 394, 395, 396, 397, 97, 254, 255, 256, 257, 91, 83, 90, 108, 109, 110, 258, 259, 260, 261, 262, 174, 175, 176, 398, 399, 400, 401, 402, 403, 404, 405, 406, 407, 408, 409, 414, 415, 416, 417, 833, 834, 835, 836, 837, 838, 839, 840, 841, 842, 843, 844, 845, 846, 847, 848, 849, 850] (by decide +kernel) (by decide +kernel)
set_option maxRecDepth 20000 in
theorem gL_law_X4_nextAct : GoodIn wsL_law (wsV RL 149 RX4 yX4_nextAct wsX4_nextAct) := goodIn_app (goodIn_of _ (by decide +kernel)) ggL_law_X4_nextAct
set_option maxRecDepth 20000 in
theorem ggL_law_X3_amountsToHave : GoodIn wsL_law wsX3_amountsToHave := goodIn_r _ [583, 321, 322, 323, 2, 324, 20, 16, 325, 326, 327, 19, 328, 68, 36, 35, 329, 61, 62, 63, 330, 178, 179, 15, 180, 29, 331, 57, 58, 59, 30, 60, 332, 223, 224, 225, 333, 334, 335, 336, 37, 38, 337, 338, 339, 340, 341, 342, 343, 344, 345, 346, 347, 348, 349, 350, 351, 352, 353, 162, 163, 164, 354, 217, 218, 219, 355, 170, 171, 172, 173, 174, 175, 176, 177, 181, 182, 183, 184, 185, 186, 187, 188, 356, 357, 358, 359, 360, 361, 362, 363, 364, 365, 366, 367, 368, 369, 370, 371, 372, 70, 71, 72, 824, 825, 826, 827, 828, 829, 830, 831, 832, 853, 854, 855, 856, 857, 851, 852] (by decide +kernel) (by decide +kernel)
set_option maxRecDepth 20000 in
theorem gL_law_X3_amountsToHave : GoodIn wsL_law (wsV RL 150 RX3 yX3_amountsToHave wsX3_amountsToHave) := goodIn_app (goodIn_of _ (by decide +kernel)) ggL_law_X3_amountsToHave
set_option maxRecDepth 20000 in
theorem ggL_law_X4_amountsToHave : GoodIn wsL_law wsX4_amountsToHave := goodIn_r _ [587, 588, 589, 590, 5, 591, 250, 251, 252, 253, 84, 381, 382, 383, 384, 385, 89, 88, 386, 387, 388, 389, 390, 391, 392, 393, 394, 395, 396, 397, 97, 254, 255, 256, 257, 91, 83, 90, 108, 109, 110, 258, 259, 260, 261, 262, 174, 175, 176, 398, 399, 400, 401, 402, 403, 404, 405, 406, 407, 408, 409, 426, 427, 428, 429, 129, 833, 834, 835, 836, 837, 838, 839, 840, 841, 842, 843, 844, 845, 846, 847, 848, 849, 850] (by decide +kernel) (by decide +kernel)
set_option maxRecDepth 20000 in
theorem gL_law_X4_amountsToHave : GoodIn wsL_law (wsV RL 153 RX4 yX4_amountsToHave wsX4_amountsToHave) := goodIn_app (goodIn_of _ (by decide +kernel)) ggL_law_X4_amountsToHave
set_option maxRecDepth 20000 in
theorem ggL_law_X3_statesToReach : GoodIn wsL_law wsX3_statesToReach := goodIn_r _ [595, 321, 322, 323, 2, 324, 20, 16, 325, 326, 327, 19, 328, 68, 36, 35, 329, 61, 62, 63, 330, 178, 179, 15, 180, 29, 331, 57, 58, 59, 30, 60, 332, 223, 224, 225, 333, 334, 335, 336, 37, 38, 337, 338, 339, 340, 341, 342, 343, 344, 345, 346, 347, 348, 349, 350, 351, 352, 353, 162, 163, 164, 354, 217, 218, 219, 355, 170, 171, 172, 173, 174, 175, 176, 177, 181, 182, 183, 184, 185, 186, 187, 188, 356, 357, 358, 359, 596, 597, 598, 599, 824, 825, 826, 827, 828, 829, 830, 831, 832, 853, 854, 855, 856, 857, 851, 852] (by decide +kernel) (by decide +kernel)
set_option maxRecDepth 20000 in
theorem gL_law_X3_statesToReach : GoodIn wsL_law (wsV RL 154 RX3 yX3_statesToReach wsX3_statesToReach) := goodIn_app (goodIn_of _ (by decide +kernel)) ggL_law_X3_statesToReach
set_option maxRecDepth 20000 in
theorem ggL_law_X4_statesToReach : GoodIn wsL_law wsX4_statesToReach := goodIn_r _ [603, 604, 605, 606, 5, 607, 385, 250, 251, 252, 253, 84, 386, 387, 388, 389, 88, 89, 390, 391, 392, 393, 394, 395, 396, 397, 97, 254, 255, 256, 257, 91, 83, 90, 108, 109, 110, 258, 259, 260, 261, 262, 174, 175, 176, 398, 399, 400, 401, 426, 427, 428, 429, 129, 833, 834, 835, 836, 837, 838, 839, 840, 841, 842, 843, 844, 845, 846, 847, 848, 849, 850] (by decide +kernel) (by decide +kernel)
set_option maxRecDepth 20000 in
theorem gL_law_X4_statesToReach : GoodIn wsL_law (wsV RL 157 RX4 yX4_statesToReach wsX4_statesToReach) := goodIn_app (goodIn_of _ (by decide +kernel)) ggL_law_X4_statesToReach
set_option maxRecDepth 20000 in
theorem ggL_law_L_statesAway : GoodIn wsL_law wsL_statesAway := goodIn_ca (goodIn_r _ [610, 115, 611, 612, 613, 2, 614, 318, 319, 320, 120, 121, 321, 322, 323, 324, 20, 16, 325, 326, 327, 19, 328, 68, 36, 35, 329, 61, 62, 63, 330, 178, 179, 15, 180, 29, 331, 57, 58, 59, 30, 60, 332, 223, 224, 225, 333, 334, 335, 336, 37, 38, 337, 338, 339, 340, 341, 342, 343, 344, 345, 346, 347, 348, 349, 350, 351, 352, 353, 162, 163, 164, 354, 217, 218, 219, 355, 170, 171, 172, 173, 174, 175, 176, 177, 181, 182, 183, 184, 185, 186, 187, 188, 356, 357, 358, 359, 615, 616, 617, 618, 824, 825, 826, 827, 828, 829, 830, 831, 832, 853, 854, 855, 856, 857, 851, 852] (by decide +kernel) (by decide +kernel)) (goodIn_sub (fun _ h => List.mem_append_left _ (List.mem_append_left _ (List.mem_append_right _ h))) (by decide +kernel))
set_option maxRecDepth 20000 in
theorem gL_law_L_statesAway : GoodIn wsL_law (va_wsS RL 158 yL_statesAway wsL_statesAway) := goodIn_app (goodIn_of _ (by decide +kernel)) ggL_law_L_statesAway
set_option maxRecDepth 20000 in
theorem ggL_law_X4_statesAway : GoodIn wsL_law wsX4_statesAway := goodIn_r _ [622, 129, 133, 134, 5, 135, 623, 624, 625, 626, 385, 88, 89, 250, 251, 252, 253, 84, 386, 387, 388, 389, 390, 391, 392, 393, 394, 395, 396, 397, 97, 254, 255, 256, 257, 91, 83, 90, 108, 109, 110, 258, 259, 260, 261, 262, 174, 175, 176, 398, 399, 400, 401, 139, 140, 141, 142, 833, 834, 835, 836, 837, 838, 839, 840, 841, 842, 843, 844, 845, 846, 847, 848, 849, 850] (by decide +kernel) (by decide +kernel)
set_option maxRecDepth 20000 in
theorem gL_law_X4_statesAway : GoodIn wsL_law (wsV RL 160 RX4 yX4_statesAway wsX4_statesAway) := goodIn_app (goodIn_of _ (by decide +kernel)) ggL_law_X4_statesAway
set_option maxRecDepth 20000 in
theorem ggL_law_X3_farthest : GoodIn wsL_law wsX3_farthest := goodIn_r _ [630, 321, 322, 323, 2, 324, 20, 16, 325, 326, 327, 19, 328, 68, 36, 35, 329, 61, 62, 63, 330, 178, 179, 15, 180, 29, 331, 57, 58, 59, 30, 60, 332, 223, 224, 225, 333, 334, 335, 336, 37, 38, 337, 338, 339, 340, 341, 342, 343, 344, 345, 346, 347, 348, 349, 350, 351, 352, 353, 162, 163, 164, 354, 217, 218, 219, 355, 170, 171, 172, 173, 174, 175, 176, 177, 181, 182, 183, 184, 185, 186, 187, 188, 356, 357, 358, 359, 631, 632, 633, 634, 824, 825, 826, 827, 828, 829, 830, 831, 832, 853, 854, 855, 856, 857, 851, 852] (by decide +kernel) (by decide +kernel)
set_option maxRecDepth 20000 in
theorem gL_law_X3_farthest : GoodIn wsL_law (wsV RL 161 RX3 yX3_farthest wsX3_farthest) := goodIn_app (goodIn_of _ (by decide +kernel)) ggL_law_X3_farthest
set_option maxRecDepth 20000 in
theorem ggL_law_X4_farthest : GoodIn wsL_law wsX4_farthest := goodIn_r _ [638, 639, 640, 641, 5, 642, 88, 89, 385, 250, 251, 252, 253, 84, 386, 387, 388, 389, 390, 391, 392, 393, 394, 395, 396, 397, 97, 254, 255, 256, 257, 91, 83, 90, 108, 109, 110, 258, 259, 260, 261, 262, 174, 175, 176, 398, 399, 400, 401, 426, 427, 428, 429, 129, 833, 834, 835, 836, 837, 838, 839, 840, 841, 842, 843, 844, 845, 846, 847, 848, 849, 850] (by decide +kernel) (by decide +kernel)
set_option maxRecDepth 20000 in
theorem gL_law_X4_farthest : GoodIn wsL_law (wsV RL 164 RX4 yX4_farthest wsX4_farthest) := goodIn_app (goodIn_of _ (by decide +kernel)) ggL_law_X4_farthest
set_option maxRecDepth 20000 in
theorem ggL_law_X3_candidates : GoodIn wsL_law wsX3_candidates := goodIn_r _ [646, 24, 647, 648, 649, 23, 650, 78, 824, 825, 826, 827, 828, 829, 830, 831, 832, 858, 859, 860, 861, 862] (by decide +kernel) (by decide +kernel)
set_option maxRecDepth 20000 in
theorem gL_law_X3_candidates : GoodIn wsL_law (wsV RL 165 RX3 yX3_candidates wsX3_candidates) := goodIn_app (goodIn_of _ (by decide +kernel)) ggL_law_X3_candidates
set_option maxRecDepth 20000 in
theorem ggL_law_X4_candidates : GoodIn wsL_law wsX4_candidates := goodIn_r _ [654, 655, 656, 657, 5, 658, 86, 426, 427, 428, 429, 129, 833, 834, 835, 836, 837, 838, 839, 840, 841, 842, 843, 844, 845, 846, 847, 848, 849, 850] (by decide +kernel) (by decide +kernel)
set_option maxRecDepth 20000 in
theorem gL_law_X4_candidates : GoodIn wsL_law (wsV RL 168 RX4 yX4_candidates wsX4_candidates) := goodIn_app (goodIn_of _ (by decide +kernel)) ggL_law_X4_candidates
set_option maxRecDepth 20000 in
theorem ggL_law_L_mayBe : GoodIn wsL_law wsL_mayBe := goodIn_ca (goodIn_ca (goodIn_r _ [661, 150, 115, 662, 663, 664, 2, 665, 24, 155, 156, 157, 158, 159, 160, 16, 161, 162, 163, 15, 164, 29, 666, 667, 668, 120, 121, 122, 123, 124, 669, 670, 671, 23, 672, 43, 207, 208, 209, 210, 44, 211, 212, 213, 214, 77, 215, 57, 58, 59, 30, 60, 61, 62, 63, 216, 217, 218, 219, 673, 178, 179, 180, 674, 675, 676, 824, 825, 826, 827, 828, 829, 830, 831, 832, 851, 852, 858, 859, 860, 861, 862] (by decide +kernel) (by decide +kernel)) (goodIn_sub (fun _ h => List.mem_append_left _ (List.mem_append_right _ h)) (by decide +kernel))) (goodIn_sub (fun _ h => List.mem_append_left _ (List.mem_append_left _ (List.mem_append_right _ h))) (by decide +kernel))
set_option maxRecDepth 20000 in
theorem gL_law_L_mayBe : GoodIn wsL_law (va_wsS RL 169 yL_mayBe wsL_mayBe) := goodIn_app (goodIn_of _ (by decide +kernel)) ggL_law_L_mayBe
set_option maxRecDepth 20000 in
theorem ggL_law_X4_mayBe : GoodIn wsL_law wsX4_mayBe := goodIn_r _ [680, 129, 238, 239, 240, 5, 241, 97, 133, 134, 135, 466, 467, 468, 469, 130, 131, 132, 681, 682, 683, 684, 86, 108, 109, 110, 833, 834, 835, 836, 837, 838, 839, 840, 841, 842, 843, 844, 845, 846, 847, 848, 849, 850] (by decide +kernel) (by decide +kernel)
set_option maxRecDepth 20000 in
theorem gL_law_X4_mayBe : GoodIn wsL_law (wsV RL 171 RX4 yX4_mayBe wsX4_mayBe) := goodIn_app (goodIn_of _ (by decide +kernel)) ggL_law_X4_mayBe
set_option maxRecDepth 20000 in
theorem ggL_law_L_isKnown : GoodIn wsL_law wsL_isKnown := goodIn_ca (goodIn_r _ [687, 150, 688, 689, 690, 2, 691, 24, 155, 156, 157, 158, 159, 160, 16, 161, 162, 163, 15, 164, 29, 669, 670, 671, 23, 672, 43, 207, 208, 209, 210, 44, 211, 212, 213, 214, 77, 215, 57, 58, 59, 30, 60, 61, 62, 63, 216, 217, 218, 219, 673, 178, 179, 180, 692, 693, 694, 695, 696, 697, 698, 699, 700, 701, 824, 825, 826, 827, 828, 829, 830, 831, 832, 851, 852, 858, 859, 860, 861, 862] (by decide +kernel) (by decide +kernel)) (goodIn_sub (fun _ h => List.mem_append_left _ (List.mem_append_right _ h)) (by decide +kernel))
set_option maxRecDepth 20000 in
theorem gL_law_L_isKnown : GoodIn wsL_law (va_wsS RL 172 yL_isKnown wsL_isKnown) := goodIn_app (goodIn_of _ (by decide +kernel)) ggL_law_L_isKnown
set_option maxRecDepth 20000 in
theorem ggL_law_X4_isKnown : GoodIn wsL_law wsX4_isKnown := goodIn_r _ [705, 129, 238, 239, 240, 5, 241, 97, 133, 134, 135, 706, 707, 708, 709, 681, 682, 683, 684, 86, 108, 109, 110, 466, 467, 468, 469, 833, 834, 835, 836, 837, 838, 839, 840, 841, 842, 843, 844, 845, 846, 847, 848, 849, 850] (by decide +kernel) (by decide +kernel)
set_option maxRecDepth 20000 in
theorem gL_law_X4_isKnown : GoodIn wsL_law (wsV RL 174 RX4 yX4_isKnown wsX4_isKnown) := goodIn_app (goodIn_of _ (by decide +kernel)) ggL_law_X4_isKnown
set_option maxRecDepth 20000 in
theorem ggL_law_L_guess : GoodIn wsL_law wsL_guess := goodIn_ca (goodIn_ca (goodIn_ca (goodIn_r _ [712, 150, 115, 307, 713, 714, 715, 2, 716, 312, 313, 24, 16, 54, 55, 155, 156, 157, 158, 159, 160, 161, 162, 163, 15, 164, 29, 666, 667, 668, 120, 121, 122, 123, 124, 669, 670, 671, 23, 672, 43, 207, 208, 209, 210, 44, 211, 212, 213, 214, 77, 215, 57, 58, 59, 30, 60, 61, 62, 63, 216, 217, 218, 219, 673, 178, 179, 180, 674, 675, 676, 437, 717, 718, 719, 720, 230, 231, 232, 233, 78, 824, 825, 826, 827, 828, 829, 830, 831, 832, 851, 852, 858, 859, 860, 861, 862] (by decide +kernel) (by decide +kernel)) (goodIn_sub (fun _ h => List.mem_append_right _ h) (by decide +kernel))) (goodIn_sub (fun _ h => List.mem_append_left _ (List.mem_append_right _ h)) (by decide +kernel))) (goodIn_sub (fun _ h => List.mem_append_left _ (List.mem_append_left _ (List.mem_append_right _ h))) (by decide +kernel))
set_option maxRecDepth 20000 in
theorem gL_law_L_guess : GoodIn wsL_law (va_wsS RL 175 yL_guess wsL_guess) := goodIn_app (goodIn_of _ (by decide +kernel)) ggL_law_L_guess
set_option maxRecDepth 20000 in
theorem ggL_law_X4_guess : GoodIn wsL_law wsX4_guess := goodIn_r _ [724, 129, 83, 86, 102, 103, 238, 239, 240, 5, 241, 97, 133, 134, 135, 466, 467, 468, 469, 130, 131, 132, 681, 682, 683, 684, 108, 109, 110, 833, 834, 835, 836, 837, 838, 839, 840, 841, 842, 843, 844, 845, 846, 847, 848, 849, 850] (by decide +kernel) (by decide +kernel)
set_option maxRecDepth 20000 in
theorem gL_law_X4_guess : GoodIn wsL_law (wsV RL 177 RX4 yX4_guess wsX4_guess) := goodIn_app (goodIn_of _ (by decide +kernel)) ggL_law_X4_guess
set_option maxRecDepth 20000 in
theorem ggL_law_X3_guesses : GoodIn wsL_law wsX3_guesses := goodIn_r _ [728, 54, 824, 825, 826, 827, 828, 829, 830, 831, 832] (by decide +kernel) (by decide +kernel)
set_option maxRecDepth 20000 in
theorem gL_law_X3_guesses : GoodIn wsL_law (wsV RL 178 RX3 yX3_guesses wsX3_guesses) := goodIn_app (goodIn_of _ (by decide +kernel)) ggL_law_X3_guesses
set_option maxRecDepth 20000 in
theorem ggL_law_X4_guesses : GoodIn wsL_law wsX4_guesses := goodIn_r _ [732, 102, 426, 427, 428, 5, 429, 129, 833, 834, 835, 836, 837, 838, 839, 840, 841, 842, 843, 844, 845, 846, 847, 848, 849, 850] (by decide +kernel) (by decide +kernel)
set_option maxRecDepth 20000 in
theorem gL_law_X4_guesses : GoodIn wsL_law (wsV RL 181 RX4 yX4_guesses wsX4_guesses) := goodIn_app (goodIn_of _ (by decide +kernel)) ggL_law_X4_guesses
set_option maxRecDepth 20000 in
theorem ggL_law_X3_wrongGuesses : GoodIn wsL_law wsX3_wrongGuesses := goodIn_r _ [736, 55, 824, 825, 826, 827, 828, 829, 830, 831, 832] (by decide +kernel) (by decide +kernel)
set_option maxRecDepth 20000 in
theorem gL_law_X3_wrongGuesses : GoodIn wsL_law (wsV RL 182 RX3 yX3_wrongGuesses wsX3_wrongGuesses) := goodIn_app (goodIn_of _ (by decide +kernel)) ggL_law_X3_wrongGuesses
set_option maxRecDepth 20000 in
theorem ggL_law_X4_wrongGuesses : GoodIn wsL_law wsX4_wrongGuesses := goodIn_r _ [740, 103, 426, 427, 428, 5, 429, 129, 833, 834, 835, 836, 837, 838, 839, 840, 841, 842, 843, 844, 845, 846, 847, 848, 849, 850] (by decide +kernel) (by decide +kernel)
set_option maxRecDepth 20000 in
theorem gL_law_X4_wrongGuesses : GoodIn wsL_law (wsV RL 185 RX4 yX4_wrongGuesses wsX4_wrongGuesses) := goodIn_app (goodIn_of _ (by decide +kernel)) ggL_law_X4_wrongGuesses
set_option maxRecDepth 20000 in
theorem ggL_law_L_leftAtMost : GoodIn wsL_law wsL_leftAtMost := goodIn_ca (goodIn_ca (goodIn_r _ [743, 150, 115, 744, 745, 746, 2, 747, 24, 293, 294, 295, 296, 120, 121, 155, 156, 157, 158, 159, 160, 16, 161, 162, 163, 15, 164, 29, 297, 298, 299, 748, 749, 750, 23, 751, 45, 43, 752, 753, 175, 754, 755, 61, 62, 63, 207, 208, 209, 210, 44, 211, 212, 213, 214, 77, 215, 57, 58, 59, 30, 60, 216, 217, 218, 219, 220, 170, 171, 172, 173, 174, 176, 177, 178, 179, 180, 181, 182, 183, 184, 185, 186, 187, 188, 221, 190, 191, 192, 193, 194, 195, 196, 197, 198, 199, 200, 201, 202, 756, 757, 758, 759, 824, 825, 826, 827, 828, 829, 830, 831, 832, 851, 852, 858, 859, 860, 861, 862] (by decide +kernel) (by decide +kernel)) (goodIn_sub (fun _ h => List.mem_append_left _ (List.mem_append_left _ (List.mem_append_right _ h))) (by decide +kernel))) (goodIn_sub (fun _ h => List.mem_append_left _ (List.mem_append_right _ h)) (by decide +kernel))
set_option maxRecDepth 20000 in
theorem gL_law_L_leftAtMost : GoodIn wsL_law (va_wsS RL 186 yL_leftAtMost wsL_leftAtMost) := goodIn_app (goodIn_of _ (by decide +kernel)) ggL_law_L_leftAtMost
set_option maxRecDepth 20000 in
theorem ggL_law_X4_leftAtMost : GoodIn wsL_law wsX4_leftAtMost := goodIn_r _ [763, 129, 238, 239, 240, 5, 241, 97, 133, 134, 135, 139, 140, 141, 142, 764, 765, 766, 767, 92, 86, 768, 753, 175, 754, 267, 268, 269, 270, 91, 90, 87, 108, 109, 110, 258, 259, 260, 261, 262, 174, 176, 263, 264, 265, 266, 833, 834, 835, 836, 837, 838, 839, 840, 841, 842, 843, 844, 845, 846, 847, 848, 849, 850] (by decide +kernel) (by decide +kernel)
set_option maxRecDepth 20000 in
theorem gL_law_X4_leftAtMost : GoodIn wsL_law (wsV RL 188 RX4 yX4_leftAtMost wsX4_leftAtMost) := goodIn_app (goodIn_of _ (by decide +kernel)) ggL_law_X4_leftAtMost
set_option maxRecDepth 20000 in
theorem ggL_law_X3_bestPour : GoodIn wsL_law wsX3_bestPour := goodIn_r _ [772, 24, 16, 647, 648, 649, 23, 650, 78, 773, 350, 351, 15, 352, 353, 162, 163, 164, 29, 748, 749, 750, 751, 45, 43, 752, 753, 175, 754, 755, 61, 62, 63, 207, 208, 209, 210, 44, 211, 212, 213, 214, 77, 215, 57, 58, 59, 30, 60, 216, 217, 218, 219, 220, 170, 171, 172, 173, 174, 176, 177, 178, 179, 180, 181, 182, 183, 184, 185, 186, 187, 188, 221, 190, 191, 192, 193, 194, 195, 196, 197, 2, 198, 199, 200, 201, 202, 756, 757, 758, 759, 824, 825, 826, 827, 828, 829, 830, 831, 832, 858, 859, 860, 861, 862, 851, 852] (by decide +kernel) (by decide +kernel)
set_option maxRecDepth 20000 in
theorem gL_law_X3_bestPour : GoodIn wsL_law (wsV RL 189 RX3 yX3_bestPour wsX3_bestPour) := goodIn_app (goodIn_of _ (by decide +kernel)) ggL_law_X3_bestPour
set_option maxRecDepth 20000 in
theorem ggL_law_X4_bestPour : GoodIn wsL_law wsX4_bestPour := goodIn_r _ [777, 778, 779, 780, 5, 781, 655, 656, 657, 658, 86, 394, 395, 396, 397, 97, 764, 765, 766, 767, 92, 768, 753, 175, 754, 267, 268, 269, 270, 91, 90, 87, 108, 109, 110, 258, 259, 260, 261, 262, 174, 176, 263, 264, 265, 266, 426, 427, 428, 429, 129, 833, 834, 835, 836, 837, 838, 839, 840, 841, 842, 843, 844, 845, 846, 847, 848, 849, 850] (by decide +kernel) (by decide +kernel)
set_option maxRecDepth 20000 in
theorem gL_law_X4_bestPour : GoodIn wsL_law (wsV RL 192 RX4 yX4_bestPour wsX4_bestPour) := goodIn_app (goodIn_of _ (by decide +kernel)) ggL_law_X4_bestPour
set_option maxRecDepth 20000 in
theorem ggL_law_X3_meanAmount : GoodIn wsL_law wsX3_meanAmount := goodIn_r _ [785, 16, 786, 787, 69, 70, 71, 15, 72, 29, 788, 483, 484, 2, 485, 449, 182, 183, 184, 30, 824, 825, 826, 827, 828, 829, 830, 831, 832, 851, 852] (by decide +kernel) (by decide +kernel)
set_option maxRecDepth 20000 in
theorem gL_law_X3_meanAmount : GoodIn wsL_law (wsV RL 193 RX3 yX3_meanAmount wsX3_meanAmount) := goodIn_app (goodIn_of _ (by decide +kernel)) ggL_law_X3_meanAmount
set_option maxRecDepth 20000 in
theorem ggL_law_X4_meanAmount : GoodIn wsL_law wsX4_meanAmount := goodIn_r _ [792, 129, 97, 490, 491, 492, 5, 493, 84, 833, 834, 835, 836, 837, 838, 839, 840, 841, 842, 843, 844, 845, 846, 847, 848, 849, 850] (by decide +kernel) (by decide +kernel)
set_option maxRecDepth 20000 in
theorem gL_law_X4_meanAmount : GoodIn wsL_law (wsV RL 197 RX4 yX4_meanAmount wsX4_meanAmount) := goodIn_app (goodIn_of _ (by decide +kernel)) ggL_law_X4_meanAmount
set_option maxRecDepth 20000 in
theorem ggL_law_X3_digest : GoodIn wsL_law wsX3_digest := goodIn_r _ [796, 797, 798, 16, 799, 419, 420, 2, 421, 69, 70, 71, 15, 72, 29, 788, 483, 484, 485, 449, 182, 183, 184, 30, 800, 495, 496, 497, 50, 801, 503, 504, 505, 51, 802, 511, 512, 513, 52, 803, 519, 520, 521, 53, 804, 644, 645, 646, 24, 647, 648, 649, 23, 650, 78, 805, 726, 727, 728, 54, 806, 734, 735, 736, 55, 807, 581, 582, 583, 321, 322, 323, 324, 20, 325, 326, 327, 19, 328, 68, 36, 35, 329, 61, 62, 63, 330, 178, 179, 180, 331, 57, 58, 59, 60, 332, 223, 224, 225, 333, 334, 335, 336, 37, 38, 337, 338, 339, 340, 341, 342, 343, 344, 345, 346, 347, 348, 349, 350, 351, 352, 353, 162, 163, 164, 354, 217, 218, 219, 355, 170, 171, 172, 173, 174, 175, 176, 177, 181, 185, 186, 187, 188, 356, 357, 358, 359, 360, 361, 362, 363, 364, 365, 366, 367, 368, 369, 370, 371, 372, 808, 593, 594, 595, 596, 597, 598, 599, 809, 628, 629, 630, 631, 632, 633, 634, 810, 811, 812, 813, 669, 670, 671, 672, 43, 207, 208, 209, 210, 44, 211, 212, 213, 214, 77, 215, 216, 673, 437, 461, 194, 195, 196, 814, 197, 198, 477, 200, 201, 202, 692, 693, 694, 695, 696, 697, 698, 699, 700, 701, 674, 675, 676, 824, 825, 826, 827, 828, 829, 830, 831, 832, 851, 852, 858, 859, 860, 861, 862, 853, 854, 855, 856, 857] (by decide +kernel) (by decide +kernel)
set_option maxRecDepth 20000 in
theorem gL_law_X3_digest : GoodIn wsL_law (wsV RL 198 RX3 yX3_digest wsX3_digest) := goodIn_app (goodIn_of _ (by decide +kernel)) ggL_law_X3_digest
set_option maxRecDepth 20000 in
theorem ggL_law_X4_digest : GoodIn wsL_law wsX4_digest := goodIn_r _ [818, 129, 28, 97, 98, 99, 100, 101, 102, 103, 819, 820, 83, 84, 490, 491, 492, 5, 493, 655, 656, 657, 658, 86, 588, 589, 590, 591, 250, 251, 252, 253, 381, 382, 383, 384, 385, 89, 88, 386, 387, 388, 389, 390, 391, 392, 393, 394, 395, 396, 397, 254, 255, 256, 257, 91, 90, 108, 109, 110, 258, 259, 260, 261, 262, 174, 175, 176, 398, 399, 400, 401, 402, 403, 404, 405, 406, 407, 408, 409, 604, 605, 606, 607, 639, 640, 641, 642, 821, 822, 823, 706, 707, 708, 709, 681, 682, 683, 684, 833, 834, 835, 836, 837, 838, 839, 840, 841, 842, 843, 844, 845, 846, 847, 848, 849, 850] (by decide +kernel) (by decide +kernel)
set_option maxRecDepth 20000 in
theorem gL_law_X4_digest : GoodIn wsL_law (wsV RL 202 RX4 yX4_digest wsX4_digest) := goodIn_app (goodIn_of _ (by decide +kernel)) ggL_law_X4_digest
