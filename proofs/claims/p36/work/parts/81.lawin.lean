/-! the law's words are among the tables' -/
theorem lw_mem {big ws : List Cond} (ps : List Nat) (hp : ws = ps.filterMap (fun i => big[i]?)) : ∀ w ∈ ws, w ∈ big := by
  intro w hw
  rw [hp] at hw
  obtain ⟨i, -, hi⟩ := List.mem_filterMap.mp hw
  exact List.mem_of_getElem? hi
set_option maxRecDepth 20000 in
theorem wsL_in_r1 : ∀ w ∈ wsL_law0_r1, w ∈ lw_tbl := lw_mem [34, 35, 20, 719, 36, 37, 38, 39, 40, 41, 42, 43, 21, 127, 56, 57, 22, 128, 80, 81, 23, 129, 45, 46] (by decide +kernel)
set_option maxRecDepth 20000 in
theorem wsL_in_r2 : ∀ w ∈ wsL_law0_r2, w ∈ lw_tbl := lw_mem [47, 55, 48, 49, 59, 60, 61, 62, 64, 65, 66, 67, 83, 84, 85, 86, 88, 89, 90, 104, 106, 0, 107, 130] (by decide +kernel)
set_option maxRecDepth 20000 in
theorem wsL_in_r3 : ∀ w ∈ wsL_law0_r3, w ∈ lw_tbl := lw_mem [131, 132, 133, 134, 135, 108, 109, 110, 111, 112, 113, 24, 114, 115, 116, 117, 118, 68, 119, 120, 121, 122, 123, 124] (by decide +kernel)
set_option maxRecDepth 20000 in
theorem wsL_in_r4 : ∀ w ∈ wsL_law0_r4, w ∈ lw_tbl := lw_mem [125, 126, 91, 92, 706, 707, 19, 708, 709, 710, 25, 716, 712, 713, 714, 715, 717, 718, 720, 684, 685, 686, 622, 657] (by decide +kernel)
set_option maxRecDepth 20000 in
theorem wsL_in_r5 : ∀ w ∈ wsL_law0_r5, w ∈ lw_tbl := lw_mem [658, 659, 660, 653, 654, 655, 656, 680, 681, 682, 683, 687, 688, 689, 690, 162, 29, 510, 511, 512, 676, 677, 678, 679] (by decide +kernel)
set_option maxRecDepth 20000 in
theorem wsL_in_r6 : ∀ w ∈ wsL_law0_r6, w ∈ lw_tbl := lw_mem [692, 648, 649, 650, 693, 694, 695, 696, 313, 31, 387, 389, 15, 390, 392, 30, 391, 273, 274, 275, 507, 508, 509, 514] (by decide +kernel)
set_option maxRecDepth 20000 in
theorem wsL_in_r7 : ∀ w ∈ wsL_law0_r7, w ∈ lw_tbl := lw_mem [515, 516, 517, 358, 360, 11, 361, 362, 364, 12, 365, 366, 367, 277, 278, 279, 518, 244, 245, 246, 519, 520, 521, 408] (by decide +kernel)
set_option maxRecDepth 20000 in
theorem wsL_in_r8 : ∀ w ∈ wsL_law0_r8, w ∈ lw_tbl := lw_mem [698, 699, 700, 701, 375, 377, 14, 378, 702, 703, 704, 705, 664, 665, 666, 667, 334, 336, 10, 337, 338, 281, 282, 283] (by decide +kernel)
set_option maxRecDepth 20000 in
theorem wsL_in_r9 : ∀ w ∈ wsL_law0_r9, w ∈ lw_tbl := lw_mem [293, 294, 32, 295, 284, 285, 286, 287, 288, 289, 291, 7, 292, 339, 340, 341, 342, 343, 344, 345, 346, 348, 349, 350] (by decide +kernel)
set_option maxRecDepth 20000 in
theorem wsL_in_r10 : ∀ w ∈ wsL_law0_r10, w ∈ lw_tbl := lw_mem [351, 352, 353, 354, 355, 356, 357, 368, 369, 370, 249, 250, 251, 371, 373, 13, 374, 599, 600, 601, 602, 603, 604, 605] (by decide +kernel)
set_option maxRecDepth 20000 in
theorem wsL_in_r11 : ∀ w ∈ wsL_law0_r11, w ∈ lw_tbl := lw_mem [606, 607, 608, 609, 610, 611, 612, 613, 614, 615, 616, 617, 618, 619, 620, 668, 669, 670, 671, 672, 673, 674, 675, 547] (by decide +kernel)
set_option maxRecDepth 20000 in
theorem wsL_in_r12 : ∀ w ∈ wsL_law0_r12, w ∈ lw_tbl := lw_mem [549, 16, 550, 552, 553, 554, 572, 573, 574, 575, 576, 577, 578, 380, 381, 382, 579, 425, 426, 427, 413, 580, 429, 430] (by decide +kernel)
set_option maxRecDepth 20000 in
theorem wsL_in_r13 : ∀ w ∈ wsL_law0_r13, w ∈ lw_tbl := lw_mem [431, 581, 433, 434, 435, 582, 437, 438, 439, 583, 441, 442, 443, 584, 496, 497, 498, 499, 500, 501, 502, 585, 536, 537] (by decide +kernel)
set_option maxRecDepth 20000 in
theorem wsL_in_r14 : ∀ w ∈ wsL_law0_r14, w ∈ lw_tbl := lw_mem [538, 586, 540, 541, 542, 587, 468, 469, 470, 234, 236, 2, 237, 238, 239, 240, 241, 242, 243, 247, 248, 252, 254, 3] (by decide +kernel)
set_option maxRecDepth 20000 in
theorem wsL_in_r15 : ∀ w ∈ wsL_law0_r15, w ∈ lw_tbl := lw_mem [255, 256, 258, 4, 259, 260, 262, 5, 263, 264, 266, 6, 267, 268, 269, 270, 271, 272, 276, 280, 296, 298, 8, 299] (by decide +kernel)
set_option maxRecDepth 20000 in
theorem wsL_in_r16 : ∀ w ∈ wsL_law0_r16, w ∈ lw_tbl := lw_mem [300, 301, 302, 303, 304, 306, 9, 307, 308, 309, 310, 311, 312, 588, 472, 473, 474, 475, 476, 477, 478, 589, 488, 489] (by decide +kernel)
set_option maxRecDepth 20000 in
theorem wsL_in_r17 : ∀ w ∈ wsL_law0_r17, w ∈ lw_tbl := lw_mem [490, 491, 492, 493, 494, 590, 592, 18, 593, 418, 594, 423, 526, 527, 528, 529, 530, 33, 531, 532, 533, 534, 379, 383] (by decide +kernel)
set_option maxRecDepth 20000 in
theorem wsL_in_r18 : ∀ w ∈ wsL_law0_r18, w ∈ lw_tbl := lw_mem [384, 385, 386, 409, 410, 411, 412, 414, 415, 416, 417, 419, 420, 421, 422, 503, 504, 505, 506, 453, 454, 455, 456, 159] (by decide +kernel)
set_option maxRecDepth 20000 in
theorem wsL_in_r19 : ∀ w ∈ wsL_law0_r19, w ∈ lw_tbl := lw_mem [160, 161, 457, 458, 459, 460, 461, 444, 445, 446, 447, 448, 522, 523, 524, 525, 495, 424, 440, 436, 432, 428, 539, 535] (by decide +kernel)
set_option maxRecDepth 20000 in
theorem wsL_in_r20 : ∀ w ∈ wsL_law0_r20, w ∈ lw_tbl := lw_mem [487, 479, 480, 481, 482, 230, 231, 232, 483, 484, 485, 486, 471, 449, 450, 451, 452, 467, 595, 596, 597, 598, 543, 544] (by decide +kernel)
set_option maxRecDepth 20000 in
theorem wsL_in_r21 : ∀ w ∈ wsL_law0_r21, w ∈ lw_tbl := lw_mem [545, 546, 555, 556, 557, 558, 564, 565, 566, 559, 560, 562, 17, 563, 567, 568, 569, 570, 571, 661, 662, 663, 462, 463] (by decide +kernel)
set_option maxRecDepth 20000 in
theorem wsL_in_r22 : ∀ w ∈ wsL_law0_r22, w ∈ lw_tbl := lw_mem [464, 465, 330, 331, 332, 333, 155, 156, 157, 158, 329, 624, 625, 626, 627, 628, 629, 630, 631, 632, 633, 634, 635, 636] (by decide +kernel)
set_option maxRecDepth 20000 in
theorem wsL_in_r23 : ∀ w ∈ wsL_law0_r23, w ∈ lw_tbl := lw_mem [637, 638, 639, 640, 641, 642, 643, 644, 645, 646, 647, 651, 652] (by decide +kernel)
theorem lw_app {big a b : List Cond} (ha : ∀ w ∈ a, w ∈ big) (hb : ∀ w ∈ b, w ∈ big) : ∀ w ∈ a ++ b, w ∈ big := fun w h => (List.mem_append.mp h).elim (ha w) (hb w)
set_option maxRecDepth 20000 in
theorem nX0 : ∀ w ∈ wsX00, w ∈ lw_tbl := by decide +kernel
set_option maxRecDepth 20000 in
theorem nX1 : ∀ w ∈ wsX10, w ∈ lw_tbl := by decide +kernel
set_option maxRecDepth 20000 in
theorem nX2 : ∀ w ∈ wsX20, w ∈ lw_tbl := by decide +kernel
set_option maxRecDepth 20000 in
theorem nX3 : ∀ w ∈ wsX30, w ∈ lw_tbl := by decide +kernel
set_option maxRecDepth 20000 in
theorem nX4 : ∀ w ∈ wsX40, w ∈ lw_tbl := by decide +kernel
theorem wsL_law_in0 : ∀ w ∈ wsL_law0, w ∈ lw_tbl := (lw_app (lw_app (lw_app (lw_app (lw_app (lw_app (lw_app wsL_in_r1 (lw_app wsL_in_r2 (lw_app wsL_in_r3 (lw_app wsL_in_r4 (lw_app wsL_in_r5 (lw_app wsL_in_r6 (lw_app wsL_in_r7 (lw_app wsL_in_r8 (lw_app wsL_in_r9 (lw_app wsL_in_r10 (lw_app wsL_in_r11 (lw_app wsL_in_r12 (lw_app wsL_in_r13 (lw_app wsL_in_r14 (lw_app wsL_in_r15 (lw_app wsL_in_r16 (lw_app wsL_in_r17 (lw_app wsL_in_r18 (lw_app wsL_in_r19 (lw_app wsL_in_r20 (lw_app wsL_in_r21 (lw_app wsL_in_r22 wsL_in_r23)))))))))))))))))))))) nX3) nX4) nX1) nX2) nX0) (fun _ h => absurd h List.not_mem_nil))
theorem wsL_law_x0 : ∀ w ∈ (vx_atS RX3 42 "java/lang/IllegalArgumentException" ["java/lang/RuntimeException", "java/lang/Exception"]).filter goodWord, w ∈ lw_tbl := by decide +kernel
theorem wsL_law_x1 : ∀ w ∈ (vx_atS RX3 82 "java/lang/IllegalStateException" ["java/lang/RuntimeException", "java/lang/Exception"]).filter goodWord, w ∈ lw_tbl := by decide +kernel
theorem wsL_law_x2 : ∀ w ∈ (vx_atS RX3 248 "java/lang/IndexOutOfBoundsException" ["java/lang/RuntimeException", "java/lang/Exception"]).filter goodWord, w ∈ lw_tbl := by decide +kernel
theorem wsL_law_in : ∀ w ∈ wsL_law, w ∈ lw_tbl := fun w h => (List.mem_append.mp h).elim (fun h => (List.mem_append.mp h).elim (fun h => (List.mem_append.mp h).elim (fun h => wsL_law_in0 w h) (fun h => wsL_law_x0 w h)) (fun h => wsL_law_x1 w h)) (fun h => wsL_law_x2 w h)
theorem inlX0 : ∀ w ∈ wsX00, w ∈ wsL_law := fun _ h => List.mem_append_left _ (List.mem_append_left _ (List.mem_append_left _ (List.mem_append_left _ (List.mem_append_right _ h))))
theorem inlX1 : ∀ w ∈ wsX10, w ∈ wsL_law := fun _ h => List.mem_append_left _ (List.mem_append_left _ (List.mem_append_left _ (List.mem_append_left _ (List.mem_append_left _ (List.mem_append_left _ (List.mem_append_right _ h))))))
theorem inlX2 : ∀ w ∈ wsX20, w ∈ wsL_law := fun _ h => List.mem_append_left _ (List.mem_append_left _ (List.mem_append_left _ (List.mem_append_left _ (List.mem_append_left _ (List.mem_append_right _ h)))))
theorem inlX3 : ∀ w ∈ wsX30, w ∈ wsL_law := fun _ h => List.mem_append_left _ (List.mem_append_left _ (List.mem_append_left _ (List.mem_append_left _ (List.mem_append_left _ (List.mem_append_left _ (List.mem_append_left _ (List.mem_append_left _ (List.mem_append_right _ h))))))))
theorem inlX4 : ∀ w ∈ wsX40, w ∈ wsL_law := fun _ h => List.mem_append_left _ (List.mem_append_left _ (List.mem_append_left _ (List.mem_append_left _ (List.mem_append_left _ (List.mem_append_left _ (List.mem_append_left _ (List.mem_append_right _ h)))))))
