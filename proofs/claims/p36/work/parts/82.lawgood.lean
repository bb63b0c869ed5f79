/-! the words of what the law calls are among the law's -/
set_option maxRecDepth 20000 in
theorem ggL_law_X3_init : GoodIn wsL_law wsX3_init := goodIn_r _ [6, 7, 8, 9, 10, 11, 12, 13, 14, 15, 16, 17, 18, 19, 20, 21, 22, 23, 24, 25, 26, 27, 28, 29, 30, 31, 32, 33, 34, 35, 36, 37, 38, 39, 40, 41, 42, 43, 44, 45, 2, 46, 47, 48, 49, 50, 51, 52, 53, 54, 55, 56, 57, 58, 59, 60, 61, 62, 63, 64, 65, 66, 67, 68, 69, 70, 71, 72, 73, 74, 75, 554, 555, 541, 542, 543, 544, 545, 546, 547, 548, 549, 556, 557, 558, 559, 560, 561, 562, 563, 564, 565] (by decide +kernel) (by decide +kernel)
set_option maxRecDepth 20000 in
theorem gL_law_X3_init : GoodIn wsL_law (wsX3_init) := ggL_law_X3_init
set_option maxRecDepth 20000 in
theorem ggL_law_L_build : GoodIn wsL_law wsL_build := goodIn_ca (goodIn_r _ [79, 80, 81, 82, 83, 84, 85, 86, 8, 9, 25, 87, 88, 89, 90, 91, 92, 93, 94, 95, 96, 78, 97, 98, 99, 100, 101, 102, 103, 104, 105, 106, 107, 108, 109, 2, 110, 111, 112, 13, 113, 114, 115, 43, 44, 45, 46, 17, 21, 47, 48, 49, 50, 51, 52, 53, 54, 55, 12, 56, 26, 27, 57, 58, 59, 60, 61, 62, 63, 16, 64, 65, 66, 67, 68, 69, 70, 71, 72, 20, 73, 74, 75, 41, 550, 551, 552, 553, 541, 542, 543, 544, 545, 546, 547, 548, 549, 554, 555, 556, 557, 558, 559, 560, 561, 562, 563, 564, 565] (by decide +kernel) (by decide +kernel)) (goodIn_sub (fun _ h => List.mem_append_left _ (List.mem_append_left _ (List.mem_append_right _ h))) (by decide +kernel))
set_option maxRecDepth 20000 in
theorem gL_law_L_build : GoodIn wsL_law (va_wsS RL 59 yL_build wsL_build) := goodIn_app (goodIn_of _ (by decide +kernel)) ggL_law_L_build
set_option maxRecDepth 20000 in
theorem ggL_law_L_cell : GoodIn wsL_law wsL_cell := goodIn_r _ [97, 98] (by decide +kernel) (by decide +kernel)
set_option maxRecDepth 20000 in
theorem gL_law_L_cell : GoodIn wsL_law (va_wsS RL 54 yL_cell wsL_cell) := goodIn_app (goodIn_of _ (by decide +kernel)) ggL_law_L_cell
set_option maxRecDepth 20000 in
theorem ggL_law_L_act : GoodIn wsL_law wsL_act := goodIn_ca (goodIn_ca (goodIn_ca (goodIn_r _ [118, 119, 83, 99, 100, 78, 101, 102, 103, 104, 105, 82, 106, 25, 87, 88, 89, 90, 91, 92, 93, 94, 107, 108, 109, 2, 110, 111, 112, 13, 113, 114, 115, 43, 44, 45, 46, 17, 21, 47, 48, 49, 50, 51, 52, 53, 54, 55, 12, 56, 26, 27, 57, 58, 59, 60, 61, 62, 63, 16, 64, 65, 66, 67, 68, 69, 70, 71, 72, 20, 73, 74, 75, 41, 120, 121, 122, 123, 124, 125, 126, 127, 128, 129, 130, 131, 132, 133, 134, 135, 136, 137, 138, 139, 140, 141, 142, 143, 144, 145, 146, 40, 147, 148, 149, 150, 151, 152, 153, 154, 155, 156, 157, 158, 159, 160, 161, 162, 163, 164, 165, 166, 167, 168, 169, 170, 171, 172, 173, 174, 175, 176, 177, 178, 179, 180, 181, 182, 183, 184, 185, 186, 187, 188, 189, 190, 191, 192, 193, 194, 195, 196, 197, 198, 199, 200, 201, 202, 203, 204, 205, 206, 207, 208, 209, 210, 211, 212, 213, 214, 215, 216, 217, 218, 219, 220, 221, 222, 223, 224, 225, 226, 227, 228, 229, 230, 231, 232, 233, 234, 235, 236, 237, 238, 239, 240, 241, 242, 243, 244, 245, 246, 247, 248, 249, 250, 251, 252, 253, 254, 255, 256, 257, 258, 259, 260, 261, 262, 263, 264, 265, 266, 267, 268, 269, 550, 551, 552, 553, 541, 542, 543, 544, 545, 546, 547, 548, 549, 554, 555, 556, 557, 558, 559, 560, 561, 562, 563, 564, 565] (by decide +kernel) (by decide +kernel)) (goodIn_sub (fun _ h => List.mem_append_left _ (List.mem_append_left _ (List.mem_append_right _ h))) (by decide +kernel))) (goodIn_sub (fun _ h => List.mem_append_left _ (List.mem_append_right _ h)) (by decide +kernel))) (goodIn_sub (fun _ h => List.mem_append_right _ h) (by decide +kernel))
set_option maxRecDepth 20000 in
theorem gL_law_L_act : GoodIn wsL_law (va_wsS RL 63 yL_act wsL_act) := goodIn_app (goodIn_of _ (by decide +kernel)) ggL_law_L_act
set_option maxRecDepth 20000 in
theorem ggL_law_X3_digest : GoodIn wsL_law wsX3_digest := goodIn_r _ [273, 274, 275, 13, 276, 277, 278, 2, 279, 66, 67, 68, 12, 69, 26, 280, 281, 282, 283, 284, 198, 199, 200, 27, 285, 286, 287, 288, 47, 289, 290, 291, 292, 48, 293, 294, 295, 296, 49, 297, 298, 299, 300, 50, 301, 302, 303, 304, 21, 305, 306, 307, 20, 308, 75, 309, 310, 311, 312, 51, 313, 314, 315, 316, 52, 317, 318, 319, 320, 321, 322, 323, 324, 17, 325, 326, 327, 16, 328, 65, 33, 32, 329, 58, 59, 60, 330, 161, 162, 163, 331, 54, 55, 56, 57, 332, 226, 227, 228, 333, 334, 335, 336, 34, 35, 337, 338, 339, 340, 341, 342, 343, 344, 345, 346, 347, 348, 349, 350, 351, 352, 353, 137, 138, 139, 354, 157, 158, 159, 355, 189, 190, 191, 192, 193, 194, 195, 196, 197, 201, 202, 203, 204, 356, 357, 358, 359, 360, 361, 362, 363, 364, 365, 366, 367, 368, 369, 370, 371, 372, 373, 374, 375, 376, 377, 378, 379, 380, 381, 382, 383, 384, 385, 386, 387, 388, 389, 390, 391, 392, 143, 144, 145, 146, 40, 147, 148, 149, 150, 41, 151, 152, 153, 154, 74, 155, 156, 160, 167, 393, 210, 211, 212, 394, 213, 214, 395, 216, 217, 218, 396, 397, 398, 399, 400, 401, 402, 403, 404, 405, 164, 165, 166, 541, 542, 543, 544, 545, 546, 547, 548, 549, 554, 555, 561, 562, 563, 564, 565, 556, 557, 558, 559, 560] (by decide +kernel) (by decide +kernel)
set_option maxRecDepth 20000 in
theorem gL_law_X3_digest : GoodIn wsL_law (wsV RL 67 RX3 yX3_digest wsX3_digest) := goodIn_app (goodIn_of _ (by decide +kernel)) ggL_law_X3_digest
set_option maxRecDepth 20000 in
theorem ggL_law_X3_jars : GoodIn wsL_law wsX3_jars := goodIn_r _ [279, 13, 66, 67, 68, 12, 69, 26, 541, 542, 543, 544, 545, 546, 547, 548, 549, 554, 555] (by decide +kernel) (by decide +kernel)
set_option maxRecDepth 20000 in
theorem gL_law_X3_jars : GoodIn wsL_law (wsV RL 71 RX3 yX3_jars wsX3_jars) := goodIn_app (goodIn_of _ (by decide +kernel)) ggL_law_X3_jars
set_option maxRecDepth 20000 in
theorem ggL_law_X3_volumeOf : GoodIn wsL_law wsX3_volumeOf := goodIn_ca (goodIn_r _ [410, 13, 130, 131, 132, 2, 133, 134, 135, 136, 137, 138, 12, 139, 26, 167, 161, 162, 163, 541, 542, 543, 544, 545, 546, 547, 548, 549, 554, 555] (by decide +kernel) (by decide +kernel)) (goodIn_sub (fun _ h => List.mem_append_right _ h) (by decide +kernel))
set_option maxRecDepth 20000 in
theorem gL_law_X3_volumeOf : GoodIn wsL_law (wsV RL 75 RX3 yX3_volumeOf wsX3_volumeOf) := goodIn_app (goodIn_of _ (by decide +kernel)) ggL_law_X3_volumeOf
set_option maxRecDepth 20000 in
theorem ggL_law_X3_amountOf : GoodIn wsL_law wsX3_amountOf := goodIn_ca (goodIn_r _ [414, 13, 130, 131, 132, 2, 133, 134, 135, 136, 137, 138, 12, 139, 26, 284, 198, 199, 200, 27, 541, 542, 543, 544, 545, 546, 547, 548, 549, 554, 555] (by decide +kernel) (by decide +kernel)) (goodIn_sub (fun _ h => List.mem_append_right _ h) (by decide +kernel))
set_option maxRecDepth 20000 in
theorem gL_law_X3_amountOf : GoodIn wsL_law (wsV RL 78 RX3 yX3_amountOf wsX3_amountOf) := goodIn_app (goodIn_of _ (by decide +kernel)) ggL_law_X3_amountOf
set_option maxRecDepth 20000 in
theorem ggL_law_X3_isEmpty : GoodIn wsL_law wsX3_isEmpty := goodIn_ca (goodIn_r _ [418, 13, 130, 131, 132, 2, 133, 134, 135, 136, 137, 138, 12, 139, 26, 393, 210, 211, 212, 197, 198, 199, 200, 27, 541, 542, 543, 544, 545, 546, 547, 548, 549, 554, 555] (by decide +kernel) (by decide +kernel)) (goodIn_sub (fun _ h => List.mem_append_right _ h) (by decide +kernel))
set_option maxRecDepth 20000 in
theorem gL_law_X3_isEmpty : GoodIn wsL_law (wsV RL 81 RX3 yX3_isEmpty wsX3_isEmpty) := goodIn_app (goodIn_of _ (by decide +kernel)) ggL_law_X3_isEmpty
set_option maxRecDepth 20000 in
theorem ggL_law_X3_isFull : GoodIn wsL_law wsX3_isFull := goodIn_ca (goodIn_r _ [422, 13, 130, 131, 132, 2, 133, 134, 135, 136, 137, 138, 12, 139, 26, 395, 216, 217, 218, 197, 198, 199, 200, 27, 196, 161, 162, 163, 541, 542, 543, 544, 545, 546, 547, 548, 549, 554, 555] (by decide +kernel) (by decide +kernel)) (goodIn_sub (fun _ h => List.mem_append_right _ h) (by decide +kernel))
set_option maxRecDepth 20000 in
theorem gL_law_X3_isFull : GoodIn wsL_law (wsV RL 85 RX3 yX3_isFull wsX3_isFull) := goodIn_app (goodIn_of _ (by decide +kernel)) ggL_law_X3_isFull
set_option maxRecDepth 20000 in
theorem ggL_law_X3_mayBe : GoodIn wsL_law wsX3_mayBe := goodIn_ca (goodIn_ca (goodIn_r _ [426, 21, 130, 131, 132, 2, 133, 134, 135, 13, 136, 137, 138, 12, 139, 26, 140, 141, 142, 111, 112, 113, 114, 115, 143, 144, 145, 20, 146, 40, 147, 148, 149, 150, 41, 151, 152, 153, 154, 74, 155, 54, 55, 56, 27, 57, 58, 59, 60, 156, 157, 158, 159, 160, 161, 162, 163, 164, 165, 166, 541, 542, 543, 544, 545, 546, 547, 548, 549, 554, 555, 561, 562, 563, 564, 565] (by decide +kernel) (by decide +kernel)) (goodIn_sub (fun _ h => List.mem_append_right _ h) (by decide +kernel))) (goodIn_sub (fun _ h => List.mem_append_left _ (List.mem_append_left _ (List.mem_append_right _ h))) (by decide +kernel))
set_option maxRecDepth 20000 in
theorem gL_law_X3_mayBe : GoodIn wsL_law (wsV RL 88 RX3 yX3_mayBe wsX3_mayBe) := goodIn_app (goodIn_of _ (by decide +kernel)) ggL_law_X3_mayBe
set_option maxRecDepth 20000 in
theorem ggL_law_X3_leastActsIn : GoodIn wsL_law wsX3_leastActsIn := goodIn_ca (goodIn_ca (goodIn_r _ [430, 130, 131, 132, 2, 133, 134, 135, 13, 136, 137, 138, 12, 139, 26, 431, 432, 433, 111, 112, 321, 322, 323, 324, 17, 325, 326, 327, 16, 328, 65, 33, 32, 329, 58, 59, 60, 330, 161, 162, 163, 331, 54, 55, 56, 27, 57, 332, 226, 227, 228, 333, 334, 335, 336, 34, 35, 337, 338, 339, 340, 341, 342, 343, 344, 345, 346, 347, 348, 349, 350, 351, 352, 353, 354, 157, 158, 159, 355, 189, 190, 191, 192, 193, 194, 195, 196, 197, 198, 199, 200, 201, 202, 203, 204, 356, 357, 358, 359, 434, 435, 436, 437, 438, 541, 542, 543, 544, 545, 546, 547, 548, 549, 554, 555, 556, 557, 558, 559, 560] (by decide +kernel) (by decide +kernel)) (goodIn_sub (fun _ h => List.mem_append_right _ h) (by decide +kernel))) (goodIn_sub (fun _ h => List.mem_append_left _ (List.mem_append_left _ (List.mem_append_right _ h))) (by decide +kernel))
set_option maxRecDepth 20000 in
theorem gL_law_X3_leastActsIn : GoodIn wsL_law (wsV RL 91 RX3 yX3_leastActsIn wsX3_leastActsIn) := goodIn_app (goodIn_of _ (by decide +kernel)) ggL_law_X3_leastActsIn
set_option maxRecDepth 20000 in
theorem ggL_law_X3_isThere : GoodIn wsL_law wsX3_isThere := goodIn_ca (goodIn_r _ [442, 13, 431, 432, 2, 433, 111, 112, 443, 369, 370, 12, 371, 372, 67, 68, 69, 26, 197, 198, 199, 200, 27, 541, 542, 543, 544, 545, 546, 547, 548, 549, 554, 555] (by decide +kernel) (by decide +kernel)) (goodIn_sub (fun _ h => List.mem_append_left _ (List.mem_append_left _ (List.mem_append_right _ h))) (by decide +kernel))
set_option maxRecDepth 20000 in
theorem gL_law_X3_isThere : GoodIn wsL_law (wsV RL 94 RX3 yX3_isThere wsX3_isThere) := goodIn_app (goodIn_of _ (by decide +kernel)) ggL_law_X3_isThere
set_option maxRecDepth 20000 in
theorem ggL_law_X3_isKnown : GoodIn wsL_law wsX3_isKnown := goodIn_ca (goodIn_r _ [447, 21, 130, 131, 132, 2, 133, 134, 135, 13, 136, 137, 138, 12, 139, 26, 143, 144, 145, 20, 146, 40, 147, 148, 149, 150, 41, 151, 152, 153, 154, 74, 155, 54, 55, 56, 27, 57, 58, 59, 60, 156, 157, 158, 159, 160, 161, 162, 163, 396, 397, 398, 399, 400, 401, 402, 403, 404, 405, 541, 542, 543, 544, 545, 546, 547, 548, 549, 554, 555, 561, 562, 563, 564, 565] (by decide +kernel) (by decide +kernel)) (goodIn_sub (fun _ h => List.mem_append_right _ h) (by decide +kernel))
set_option maxRecDepth 20000 in
theorem gL_law_X3_isKnown : GoodIn wsL_law (wsV RL 97 RX3 yX3_isKnown wsX3_isKnown) := goodIn_app (goodIn_of _ (by decide +kernel)) ggL_law_X3_isKnown
set_option maxRecDepth 20000 in
theorem ggL_law_X3_candidates : GoodIn wsL_law wsX3_candidates := goodIn_r _ [304, 21, 305, 306, 307, 20, 308, 75, 541, 542, 543, 544, 545, 546, 547, 548, 549, 561, 562, 563, 564, 565] (by decide +kernel) (by decide +kernel)
set_option maxRecDepth 20000 in
theorem gL_law_X3_candidates : GoodIn wsL_law (wsV RL 100 RX3 yX3_candidates wsX3_candidates) := goodIn_app (goodIn_of _ (by decide +kernel)) ggL_law_X3_candidates
set_option maxRecDepth 20000 in
theorem ggL_law_X3_heldInAll : GoodIn wsL_law wsX3_heldInAll := goodIn_r _ [283, 13, 284, 198, 199, 12, 200, 27, 541, 542, 543, 544, 545, 546, 547, 548, 549, 554, 555] (by decide +kernel) (by decide +kernel)
set_option maxRecDepth 20000 in
theorem gL_law_X3_heldInAll : GoodIn wsL_law (wsV RL 103 RX3 yX3_heldInAll wsX3_heldInAll) := goodIn_app (goodIn_of _ (by decide +kernel)) ggL_law_X3_heldInAll
set_option maxRecDepth 20000 in
theorem ggL_law_X3_takenInAll : GoodIn wsL_law wsX3_takenInAll := goodIn_r _ [300, 50, 541, 542, 543, 544, 545, 546, 547, 548, 549] (by decide +kernel) (by decide +kernel)
set_option maxRecDepth 20000 in
theorem gL_law_X3_takenInAll : GoodIn wsL_law (wsV RL 106 RX3 yX3_takenInAll wsX3_takenInAll) := goodIn_app (goodIn_of _ (by decide +kernel)) ggL_law_X3_takenInAll
set_option maxRecDepth 20000 in
theorem ggL_law_X3_spilledInAll : GoodIn wsL_law wsX3_spilledInAll := goodIn_r _ [296, 49, 541, 542, 543, 544, 545, 546, 547, 548, 549] (by decide +kernel) (by decide +kernel)
set_option maxRecDepth 20000 in
theorem gL_law_X3_spilledInAll : GoodIn wsL_law (wsV RL 109 RX3 yX3_spilledInAll wsX3_spilledInAll) := goodIn_app (goodIn_of _ (by decide +kernel)) ggL_law_X3_spilledInAll
set_option maxRecDepth 20000 in
theorem ggL_law_X3_pouredInAll : GoodIn wsL_law wsX3_pouredInAll := goodIn_r _ [292, 48, 541, 542, 543, 544, 545, 546, 547, 548, 549] (by decide +kernel) (by decide +kernel)
set_option maxRecDepth 20000 in
theorem gL_law_X3_pouredInAll : GoodIn wsL_law (wsV RL 112 RX3 yX3_pouredInAll wsX3_pouredInAll) := goodIn_app (goodIn_of _ (by decide +kernel)) ggL_law_X3_pouredInAll
set_option maxRecDepth 20000 in
theorem ggL_law_X3_acts : GoodIn wsL_law wsX3_acts := goodIn_r _ [288, 47, 541, 542, 543, 544, 545, 546, 547, 548, 549] (by decide +kernel) (by decide +kernel)
set_option maxRecDepth 20000 in
theorem gL_law_X3_acts : GoodIn wsL_law (wsV RL 115 RX3 yX3_acts wsX3_acts) := goodIn_app (goodIn_of _ (by decide +kernel)) ggL_law_X3_acts
set_option maxRecDepth 20000 in
theorem ggL_law_X3_wrongGuesses : GoodIn wsL_law wsX3_wrongGuesses := goodIn_r _ [316, 52, 541, 542, 543, 544, 545, 546, 547, 548, 549] (by decide +kernel) (by decide +kernel)
set_option maxRecDepth 20000 in
theorem gL_law_X3_wrongGuesses : GoodIn wsL_law (wsV RL 118 RX3 yX3_wrongGuesses wsX3_wrongGuesses) := goodIn_app (goodIn_of _ (by decide +kernel)) ggL_law_X3_wrongGuesses
set_option maxRecDepth 20000 in
theorem ggL_law_X3_guesses : GoodIn wsL_law wsX3_guesses := goodIn_r _ [312, 51, 541, 542, 543, 544, 545, 546, 547, 548, 549] (by decide +kernel) (by decide +kernel)
set_option maxRecDepth 20000 in
theorem gL_law_X3_guesses : GoodIn wsL_law (wsV RL 121 RX3 yX3_guesses wsX3_guesses) := goodIn_app (goodIn_of _ (by decide +kernel)) ggL_law_X3_guesses
set_option maxRecDepth 20000 in
theorem ggL_law_X3_farthest : GoodIn wsL_law wsX3_farthest := goodIn_r _ [384, 321, 322, 323, 2, 324, 17, 13, 325, 326, 327, 16, 328, 65, 33, 32, 329, 58, 59, 60, 330, 161, 162, 12, 163, 26, 331, 54, 55, 56, 27, 57, 332, 226, 227, 228, 333, 334, 335, 336, 34, 35, 337, 338, 339, 340, 341, 342, 343, 344, 345, 346, 347, 348, 349, 350, 351, 352, 353, 137, 138, 139, 354, 157, 158, 159, 355, 189, 190, 191, 192, 193, 194, 195, 196, 197, 198, 199, 200, 201, 202, 203, 204, 356, 357, 358, 359, 385, 386, 387, 388, 541, 542, 543, 544, 545, 546, 547, 548, 549, 556, 557, 558, 559, 560, 554, 555] (by decide +kernel) (by decide +kernel)
set_option maxRecDepth 20000 in
theorem gL_law_X3_farthest : GoodIn wsL_law (wsV RL 124 RX3 yX3_farthest wsX3_farthest) := goodIn_app (goodIn_of _ (by decide +kernel)) ggL_law_X3_farthest
set_option maxRecDepth 20000 in
theorem ggL_law_X3_statesAway : GoodIn wsL_law wsX3_statesAway := goodIn_ca (goodIn_r _ [460, 461, 462, 2, 463, 111, 112, 321, 322, 323, 324, 17, 13, 325, 326, 327, 16, 328, 65, 33, 32, 329, 58, 59, 60, 330, 161, 162, 12, 163, 26, 331, 54, 55, 56, 27, 57, 332, 226, 227, 228, 333, 334, 335, 336, 34, 35, 337, 338, 339, 340, 341, 342, 343, 344, 345, 346, 347, 348, 349, 350, 351, 352, 353, 137, 138, 139, 354, 157, 158, 159, 355, 189, 190, 191, 192, 193, 194, 195, 196, 197, 198, 199, 200, 201, 202, 203, 204, 356, 357, 358, 359, 464, 465, 466, 467, 541, 542, 543, 544, 545, 546, 547, 548, 549, 556, 557, 558, 559, 560, 554, 555] (by decide +kernel) (by decide +kernel)) (goodIn_sub (fun _ h => List.mem_append_left _ (List.mem_append_left _ (List.mem_append_right _ h))) (by decide +kernel))
set_option maxRecDepth 20000 in
theorem gL_law_X3_statesAway : GoodIn wsL_law (wsV RL 127 RX3 yX3_statesAway wsX3_statesAway) := goodIn_app (goodIn_of _ (by decide +kernel)) ggL_law_X3_statesAway
set_option maxRecDepth 20000 in
theorem ggL_law_X3_statesToReach : GoodIn wsL_law wsX3_statesToReach := goodIn_r _ [376, 321, 322, 323, 2, 324, 17, 13, 325, 326, 327, 16, 328, 65, 33, 32, 329, 58, 59, 60, 330, 161, 162, 12, 163, 26, 331, 54, 55, 56, 27, 57, 332, 226, 227, 228, 333, 334, 335, 336, 34, 35, 337, 338, 339, 340, 341, 342, 343, 344, 345, 346, 347, 348, 349, 350, 351, 352, 353, 137, 138, 139, 354, 157, 158, 159, 355, 189, 190, 191, 192, 193, 194, 195, 196, 197, 198, 199, 200, 201, 202, 203, 204, 356, 357, 358, 359, 377, 378, 379, 380, 541, 542, 543, 544, 545, 546, 547, 548, 549, 556, 557, 558, 559, 560, 554, 555] (by decide +kernel) (by decide +kernel)
set_option maxRecDepth 20000 in
theorem gL_law_X3_statesToReach : GoodIn wsL_law (wsV RL 130 RX3 yX3_statesToReach wsX3_statesToReach) := goodIn_app (goodIn_of _ (by decide +kernel)) ggL_law_X3_statesToReach
set_option maxRecDepth 20000 in
theorem ggL_law_X3_leastActs : GoodIn wsL_law wsX3_leastActs := goodIn_ca (goodIn_r _ [472, 431, 432, 2, 433, 111, 112, 321, 322, 323, 324, 17, 13, 325, 326, 327, 16, 328, 65, 33, 32, 329, 58, 59, 60, 330, 161, 162, 12, 163, 26, 331, 54, 55, 56, 27, 57, 332, 226, 227, 228, 333, 334, 335, 336, 34, 35, 337, 338, 339, 340, 341, 342, 343, 344, 345, 346, 347, 348, 349, 350, 351, 352, 353, 137, 138, 139, 354, 157, 158, 159, 355, 189, 190, 191, 192, 193, 194, 195, 196, 197, 198, 199, 200, 201, 202, 203, 204, 356, 357, 358, 359, 360, 361, 362, 363, 364, 365, 366, 367, 368, 369, 370, 371, 372, 67, 68, 69, 541, 542, 543, 544, 545, 546, 547, 548, 549, 556, 557, 558, 559, 560, 554, 555] (by decide +kernel) (by decide +kernel)) (goodIn_sub (fun _ h => List.mem_append_left _ (List.mem_append_left _ (List.mem_append_right _ h))) (by decide +kernel))
set_option maxRecDepth 20000 in
theorem gL_law_X3_leastActs : GoodIn wsL_law (wsV RL 133 RX3 yX3_leastActs wsX3_leastActs) := goodIn_app (goodIn_of _ (by decide +kernel)) ggL_law_X3_leastActs
set_option maxRecDepth 20000 in
theorem ggL_law_X3_amountsToHave : GoodIn wsL_law wsX3_amountsToHave := goodIn_r _ [320, 321, 322, 323, 2, 324, 17, 13, 325, 326, 327, 16, 328, 65, 33, 32, 329, 58, 59, 60, 330, 161, 162, 12, 163, 26, 331, 54, 55, 56, 27, 57, 332, 226, 227, 228, 333, 334, 335, 336, 34, 35, 337, 338, 339, 340, 341, 342, 343, 344, 345, 346, 347, 348, 349, 350, 351, 352, 353, 137, 138, 139, 354, 157, 158, 159, 355, 189, 190, 191, 192, 193, 194, 195, 196, 197, 198, 199, 200, 201, 202, 203, 204, 356, 357, 358, 359, 360, 361, 362, 363, 364, 365, 366, 367, 368, 369, 370, 371, 372, 67, 68, 69, 541, 542, 543, 544, 545, 546, 547, 548, 549, 556, 557, 558, 559, 560, 554, 555] (by decide +kernel) (by decide +kernel)
set_option maxRecDepth 20000 in
theorem gL_law_X3_amountsToHave : GoodIn wsL_law (wsV RL 136 RX3 yX3_amountsToHave wsX3_amountsToHave) := goodIn_app (goodIn_of _ (by decide +kernel)) ggL_law_X3_amountsToHave
set_option maxRecDepth 20000 in
theorem ggL_law_X4_can : GoodIn wsL_law wsX4_can := goodIn_r _ [477, 87, 550, 551, 552, 553] (by decide +kernel) (by decide +kernel)
set_option maxRecDepth 20000 in
theorem gL_law_X4_can : GoodIn wsL_law (wsV RL 139 RX4 yX4_can wsX4_can) := goodIn_app (goodIn_of _ (by decide +kernel)) ggL_law_X4_can
set_option maxRecDepth 20000 in
theorem ggL_law_X3_leftAtMost : GoodIn wsL_law wsX3_leftAtMost := goodIn_ca (goodIn_ca (goodIn_r _ [481, 21, 263, 264, 265, 2, 266, 111, 112, 130, 131, 132, 133, 134, 135, 13, 136, 137, 138, 12, 139, 26, 267, 268, 269, 482, 483, 484, 20, 485, 42, 40, 486, 487, 194, 488, 489, 58, 59, 60, 147, 148, 149, 150, 41, 151, 152, 153, 154, 74, 155, 54, 55, 56, 27, 57, 156, 157, 158, 159, 223, 189, 190, 191, 192, 193, 195, 196, 161, 162, 163, 197, 198, 199, 200, 201, 202, 203, 204, 224, 206, 207, 208, 209, 210, 211, 212, 213, 214, 215, 216, 217, 218, 490, 491, 492, 493, 541, 542, 543, 544, 545, 546, 547, 548, 549, 554, 555, 561, 562, 563, 564, 565] (by decide +kernel) (by decide +kernel)) (goodIn_sub (fun _ h => List.mem_append_left _ (List.mem_append_left _ (List.mem_append_right _ h))) (by decide +kernel))) (goodIn_sub (fun _ h => List.mem_append_right _ h) (by decide +kernel))
set_option maxRecDepth 20000 in
theorem gL_law_X3_leftAtMost : GoodIn wsL_law (wsV RL 142 RX3 yX3_leftAtMost wsX3_leftAtMost) := goodIn_app (goodIn_of _ (by decide +kernel)) ggL_law_X3_leftAtMost
set_option maxRecDepth 20000 in
theorem ggL_law_X3_bestPour : GoodIn wsL_law wsX3_bestPour := goodIn_r _ [497, 21, 13, 305, 306, 307, 20, 308, 75, 498, 350, 351, 12, 352, 353, 137, 138, 139, 26, 482, 483, 484, 485, 42, 40, 486, 487, 194, 488, 489, 58, 59, 60, 147, 148, 149, 150, 41, 151, 152, 153, 154, 74, 155, 54, 55, 56, 27, 57, 156, 157, 158, 159, 223, 189, 190, 191, 192, 193, 195, 196, 161, 162, 163, 197, 198, 199, 200, 201, 202, 203, 204, 224, 206, 207, 208, 209, 210, 211, 212, 213, 2, 214, 215, 216, 217, 218, 490, 491, 492, 493, 541, 542, 543, 544, 545, 546, 547, 548, 549, 561, 562, 563, 564, 565, 554, 555] (by decide +kernel) (by decide +kernel)
set_option maxRecDepth 20000 in
theorem gL_law_X3_bestPour : GoodIn wsL_law (wsV RL 145 RX3 yX3_bestPour wsX3_bestPour) := goodIn_app (goodIn_of _ (by decide +kernel)) ggL_law_X3_bestPour
set_option maxRecDepth 20000 in
theorem ggL_law_L_below : GoodIn wsL_law wsL_below := goodIn_r _ [101, 102] (by decide +kernel) (by decide +kernel)
set_option maxRecDepth 20000 in
theorem gL_law_L_below : GoodIn wsL_law (va_wsS RL 28 yL_below wsL_below) := goodIn_app (goodIn_of _ (by decide +kernel)) ggL_law_L_below
set_option maxRecDepth 20000 in
theorem ggL_law_L_done : GoodIn wsL_law wsL_done := goodIn_ca (goodIn_ca (goodIn_r _ [501, 180, 181, 182, 2, 183, 130, 131, 132, 133, 134, 135, 13, 136, 137, 138, 12, 139, 26, 184, 185, 186, 187, 47, 50, 49, 48, 17, 21, 188, 189, 190, 191, 192, 193, 194, 195, 196, 161, 162, 163, 197, 198, 199, 200, 27, 201, 202, 203, 204, 61, 62, 63, 16, 64, 65, 205, 206, 207, 208, 209, 210, 211, 212, 213, 214, 215, 216, 217, 218, 219, 220, 221, 20, 222, 40, 147, 148, 149, 150, 41, 151, 152, 153, 154, 74, 155, 54, 55, 56, 57, 58, 59, 60, 156, 157, 158, 159, 223, 224, 225, 226, 227, 228, 229, 230, 231, 232, 172, 173, 174, 175, 75, 255, 256, 257, 258, 259, 260, 261, 262, 263, 264, 265, 266, 111, 112, 267, 268, 269, 541, 542, 543, 544, 545, 546, 547, 548, 549, 554, 555, 556, 557, 558, 559, 560, 561, 562, 563, 564, 565] (by decide +kernel) (by decide +kernel)) (goodIn_sub (fun _ h => List.mem_append_right _ h) (by decide +kernel))) (goodIn_sub (fun _ h => List.mem_append_left _ (List.mem_append_left _ (List.mem_append_right _ h))) (by decide +kernel))
set_option maxRecDepth 20000 in
theorem gL_law_L_done : GoodIn wsL_law (va_wsS RL 148 yL_done wsL_done) := goodIn_app (goodIn_of _ (by decide +kernel)) ggL_law_L_done
set_option maxRecDepth 20000 in
theorem ggL_law_X4_go : GoodIn wsL_law wsX4_go := goodIn_r _ [236, 87, 88, 89, 90, 94, 237, 238, 82, 239, 240, 241, 242, 243, 25, 244, 245, 246, 247, 248, 249, 250, 251, 252, 253, 254, 550, 551, 552, 553] (by decide +kernel) (by decide +kernel)
set_option maxRecDepth 20000 in
theorem gL_law_X4_go : GoodIn wsL_law (wsV RL 50 RX4 yX4_go wsX4_go) := goodIn_app (goodIn_of _ (by decide +kernel)) ggL_law_X4_go
set_option maxRecDepth 20000 in
theorem ggL_law_X3_nextAct : GoodIn wsL_law wsX3_nextAct := goodIn_ca (goodIn_ca (goodIn_r _ [505, 128, 129, 431, 432, 2, 433, 111, 112, 321, 322, 323, 324, 17, 13, 325, 326, 327, 16, 328, 65, 33, 32, 329, 58, 59, 60, 330, 161, 162, 12, 163, 26, 331, 54, 55, 56, 27, 57, 332, 226, 227, 228, 333, 334, 335, 336, 34, 35, 337, 338, 339, 340, 341, 342, 343, 344, 345, 346, 347, 348, 349, 350, 351, 352, 353, 137, 138, 139, 354, 157, 158, 159, 355, 189, 190, 191, 192, 193, 194, 195, 196, 197, 198, 199, 200, 201, 202, 203, 204, 356, 357, 358, 359, 360, 361, 362, 363, 364, 365, 366, 367, 368, 369, 370, 371, 372, 67, 68, 69, 506, 507, 508, 509, 541, 542, 543, 544, 545, 546, 547, 548, 549, 556, 557, 558, 559, 560, 554, 555] (by decide +kernel) (by decide +kernel)) (goodIn_sub (fun _ h => List.mem_append_left _ (List.mem_append_right _ h)) (by decide +kernel))) (goodIn_sub (fun _ h => List.mem_append_left _ (List.mem_append_left _ (List.mem_append_right _ h))) (by decide +kernel))
set_option maxRecDepth 20000 in
theorem gL_law_X3_nextAct : GoodIn wsL_law (wsV RL 155 RX3 yX3_nextAct wsX3_nextAct) := goodIn_app (goodIn_of _ (by decide +kernel)) ggL_law_X3_nextAct
set_option maxRecDepth 20000 in
theorem ggL_law_X3_follow : GoodIn wsL_law wsX3_follow := goodIn_ca (goodIn_ca (goodIn_r _ [513, 128, 129, 514, 193, 194, 195, 431, 432, 2, 433, 111, 112, 461, 462, 463, 321, 322, 323, 324, 17, 13, 325, 326, 327, 16, 328, 65, 33, 32, 329, 58, 59, 60, 330, 161, 162, 12, 163, 26, 331, 54, 55, 56, 27, 57, 332, 226, 227, 228, 333, 334, 335, 336, 34, 35, 337, 338, 339, 340, 341, 342, 343, 344, 345, 346, 347, 348, 349, 350, 351, 352, 353, 137, 138, 139, 354, 157, 158, 159, 355, 189, 190, 191, 192, 196, 197, 198, 199, 200, 201, 202, 203, 204, 356, 357, 358, 359, 360, 361, 362, 363, 364, 365, 366, 367, 368, 369, 370, 371, 372, 67, 68, 69, 506, 507, 508, 509, 184, 185, 186, 187, 47, 50, 49, 48, 21, 188, 61, 62, 63, 64, 205, 206, 207, 208, 209, 210, 211, 212, 213, 214, 215, 216, 217, 218, 219, 220, 221, 20, 222, 40, 147, 148, 149, 150, 41, 151, 152, 153, 154, 74, 155, 156, 223, 224, 225, 229, 230, 231, 232, 172, 173, 174, 175, 75, 541, 542, 543, 544, 545, 546, 547, 548, 549, 556, 557, 558, 559, 560, 554, 555, 561, 562, 563, 564, 565] (by decide +kernel) (by decide +kernel)) (goodIn_sub (fun _ h => List.mem_append_left _ (List.mem_append_right _ h)) (by decide +kernel))) (goodIn_sub (fun _ h => List.mem_append_left _ (List.mem_append_left _ (List.mem_append_right _ h))) (by decide +kernel))
set_option maxRecDepth 20000 in
theorem gL_law_X3_follow : GoodIn wsL_law (wsV RL 158 RX3 yX3_follow wsX3_follow) := goodIn_app (goodIn_of _ (by decide +kernel)) ggL_law_X3_follow
set_option maxRecDepth 20000 in
theorem ggL_law_X4_isSame : GoodIn wsL_law wsX4_isSame := goodIn_ca (goodIn_ca (goodIn_r _ [518, 87, 88, 89, 90, 519, 277, 278, 2, 279, 13, 66, 67, 68, 12, 69, 26, 520, 281, 282, 283, 284, 198, 199, 200, 27, 521, 286, 287, 288, 47, 522, 290, 291, 292, 48, 523, 294, 295, 296, 49, 524, 298, 299, 300, 50, 525, 310, 311, 312, 51, 526, 314, 315, 316, 52, 527, 302, 303, 304, 21, 305, 306, 307, 20, 308, 75, 528, 529, 530, 531, 532, 533, 280, 534, 408, 409, 410, 130, 131, 132, 133, 134, 135, 136, 137, 138, 139, 167, 161, 162, 163, 535, 412, 413, 414, 536, 416, 417, 418, 393, 210, 211, 212, 197, 537, 420, 421, 422, 395, 216, 217, 218, 196, 538, 121, 122, 82, 123, 539, 424, 425, 426, 140, 141, 142, 111, 112, 113, 114, 115, 143, 144, 145, 146, 40, 147, 148, 149, 150, 41, 151, 152, 153, 154, 74, 155, 54, 55, 56, 57, 58, 59, 60, 156, 157, 158, 159, 160, 164, 165, 166, 540, 445, 446, 447, 396, 397, 398, 399, 400, 401, 402, 403, 404, 405, 550, 551, 552, 553, 541, 542, 543, 544, 545, 546, 547, 548, 549, 554, 555, 561, 562, 563, 564, 565] (by decide +kernel) (by decide +kernel)) (goodIn_sub (fun _ h => List.mem_append_right _ h) (by decide +kernel))) (goodIn_sub (fun _ h => List.mem_append_left _ (List.mem_append_left _ (List.mem_append_right _ h))) (by decide +kernel))
set_option maxRecDepth 20000 in
theorem gL_law_X4_isSame : GoodIn wsL_law (wsV RL 161 RX4 yX4_isSame wsX4_isSame) := goodIn_app (goodIn_of _ (by decide +kernel)) ggL_law_X4_isSame
