/-! the law's words are among the tables' -/
theorem lw_mem {big ws : List Cond} (ps : List Nat) (hp : ws = ps.filterMap (fun i => big[i]?)) : ∀ w ∈ ws, w ∈ big := by
  intro w hw
  rw [hp] at hw
  obtain ⟨i, -, hi⟩ := List.mem_filterMap.mp hw
  exact List.mem_of_getElem? hi
set_option maxRecDepth 20000 in
theorem wsL_in_r1 : ∀ w ∈ wsL_law0_r1, w ∈ lw_tbl := lw_mem [68, 69, 54, 718, 719, 59, 1071, 70, 71, 72, 73, 74, 75, 76, 77, 55, 161, 90, 91, 56, 162, 114, 115, 57] (by decide +kernel)
set_option maxRecDepth 20000 in
theorem wsL_in_r2 : ∀ w ∈ wsL_law0_r2, w ∈ lw_tbl := lw_mem [163, 79, 80, 81, 89, 82, 83, 93, 94, 95, 96, 98, 99, 100, 101, 117, 118, 119, 120, 122, 123, 124, 138, 140] (by decide +kernel)
set_option maxRecDepth 20000 in
theorem wsL_in_r3 : ∀ w ∈ wsL_law0_r3, w ∈ lw_tbl := lw_mem [0, 141, 164, 165, 166, 167, 168, 169, 142, 143, 144, 145, 146, 147, 58, 148, 149, 150, 151, 152, 102, 153, 154, 155] (by decide +kernel)
set_option maxRecDepth 20000 in
theorem wsL_in_r4 : ∀ w ∈ wsL_law0_r4, w ∈ lw_tbl := lw_mem [156, 157, 158, 159, 160, 125, 126, 720, 721, 722, 723, 737, 738, 790, 743, 744, 747, 748, 750, 751, 752, 724, 726, 19] (by decide +kernel)
set_option maxRecDepth 20000 in
theorem wsL_in_r5 : ∀ w ∈ wsL_law0_r5, w ∈ lw_tbl := lw_mem [727, 736, 739, 740, 741, 742, 745, 746, 728, 730, 20, 731, 732, 733, 734, 421, 422, 53, 423, 424, 425, 426, 427, 428] (by decide +kernel)
set_option maxRecDepth 20000 in
theorem wsL_in_r6 : ∀ w ∈ wsL_law0_r6, w ∈ lw_tbl := lw_mem [432, 63, 429, 430, 431, 795, 796, 797, 798, 735, 799, 800, 801, 802, 803, 804, 805, 806, 807, 808, 810, 21, 811, 791] (by decide +kernel)
set_option maxRecDepth 20000 in
theorem wsL_in_r7 : ∀ w ∈ wsL_law0_r7, w ∈ lw_tbl := lw_mem [792, 793, 794, 500, 501, 502, 503, 504, 505, 506, 507, 508, 510, 14, 511, 513, 64, 512, 260, 261, 262, 529, 531, 15] (by decide +kernel)
set_option maxRecDepth 20000 in
theorem wsL_in_r8 : ∀ w ∈ wsL_law0_r8, w ∈ lw_tbl := lw_mem [532, 533, 268, 269, 270, 277, 278, 65, 279, 271, 231, 232, 233, 272, 198, 199, 200, 273, 275, 6, 276, 534, 351, 352] (by decide +kernel)
set_option maxRecDepth 20000 in
theorem wsL_in_r9 : ∀ w ∈ wsL_law0_r9, w ∈ lw_tbl := lw_mem [353, 354, 355, 356, 357, 359, 360, 361, 362, 363, 364, 535, 536, 537, 538, 339, 341, 9, 342, 343, 345, 10, 346, 347] (by decide +kernel)
set_option maxRecDepth 20000 in
theorem wsL_in_r10 : ∀ w ∈ wsL_law0_r10, w ∈ lw_tbl := lw_mem [348, 264, 265, 266, 349, 350, 539, 236, 237, 238, 540, 542, 16, 543, 544, 546, 17, 547, 812, 813, 814, 815, 816, 818] (by decide +kernel)
set_option maxRecDepth 20000 in
theorem wsL_in_r11 : ∀ w ∈ wsL_law0_r11, w ∈ lw_tbl := lw_mem [22, 819, 820, 822, 23, 823, 824, 826, 24, 827, 828, 830, 25, 831, 832, 834, 26, 835, 836, 838, 27, 839, 840, 841] (by decide +kernel)
set_option maxRecDepth 20000 in
theorem wsL_in_r12 : ∀ w ∈ wsL_law0_r12, w ∈ lw_tbl := lw_mem [843, 28, 844, 845, 847, 29, 848, 849, 851, 30, 852, 548, 549, 550, 551, 552, 553, 554, 853, 854, 855, 856, 555, 556] (by decide +kernel)
set_option maxRecDepth 20000 in
theorem wsL_in_r13 : ∀ w ∈ wsL_law0_r13, w ∈ lw_tbl := lw_mem [557, 558, 559, 560, 561, 562, 564, 18, 565, 567, 568, 569, 857, 858, 859, 860, 570, 571, 572, 573, 574, 575, 576, 577] (by decide +kernel)
set_option maxRecDepth 20000 in
theorem wsL_in_r14 : ∀ w ∈ wsL_law0_r14, w ∈ lw_tbl := lw_mem [586, 66, 602, 578, 579, 580, 582, 583, 584, 221, 223, 1, 224, 225, 226, 227, 228, 229, 230, 234, 235, 239, 241, 2] (by decide +kernel)
set_option maxRecDepth 20000 in
theorem wsL_in_r15 : ∀ w ∈ wsL_law0_r15, w ∈ lw_tbl := lw_mem [242, 243, 245, 3, 246, 247, 249, 4, 250, 251, 253, 5, 254, 255, 256, 257, 258, 259, 263, 267, 280, 282, 7, 283] (by decide +kernel)
set_option maxRecDepth 20000 in
theorem wsL_in_r16 : ∀ w ∈ wsL_law0_r16, w ∈ lw_tbl := lw_mem [284, 285, 286, 287, 288, 290, 8, 291, 292, 293, 294, 295, 296, 603, 604, 605, 606, 861, 862, 863, 864, 865, 867, 31] (by decide +kernel)
set_option maxRecDepth 20000 in
theorem wsL_in_r17 : ∀ w ∈ wsL_law0_r17, w ∈ lw_tbl := lw_mem [868, 749, 869, 871, 32, 872, 873, 875, 33, 876, 877, 879, 34, 880, 881, 883, 35, 884, 885, 887, 36, 888, 889, 891] (by decide +kernel)
set_option maxRecDepth 20000 in
theorem wsL_in_r18 : ∀ w ∈ wsL_law0_r18, w ∈ lw_tbl := lw_mem [37, 892, 893, 895, 38, 896, 897, 899, 39, 900, 189, 190, 191, 192, 901, 902, 903, 904, 905, 907, 40, 908, 607, 608] (by decide +kernel)
set_option maxRecDepth 20000 in
theorem wsL_in_r19 : ∀ w ∈ wsL_law0_r19, w ∈ lw_tbl := lw_mem [609, 610, 611, 612, 613, 405, 909, 910, 911, 912, 614, 615, 616, 617, 618, 619, 620, 197, 913, 914, 915, 916, 621, 622] (by decide +kernel)
set_option maxRecDepth 20000 in
theorem wsL_in_r20 : ∀ w ∈ wsL_law0_r20, w ∈ lw_tbl := lw_mem [623, 624, 625, 626, 627, 406, 917, 918, 919, 920, 921, 923, 41, 924, 628, 629, 630, 631, 632, 633, 634, 408, 925, 926] (by decide +kernel)
set_option maxRecDepth 20000 in
theorem wsL_in_r21 : ∀ w ∈ wsL_law0_r21, w ∈ lw_tbl := lw_mem [927, 928, 193, 194, 195, 196, 929, 930, 931, 932, 933, 935, 42, 936, 201, 202, 203, 204, 937, 938, 939, 940, 205, 206] (by decide +kernel)
set_option maxRecDepth 20000 in
theorem wsL_in_r22 : ∀ w ∈ wsL_law0_r22, w ∈ lw_tbl := lw_mem [207, 208, 941, 942, 943, 944, 209, 210, 211, 212, 945, 946, 947, 948, 213, 214, 215, 216, 949, 950, 951, 952, 635, 636] (by decide +kernel)
set_option maxRecDepth 20000 in
theorem wsL_in_r23 : ∀ w ∈ wsL_law0_r23, w ∈ lw_tbl := lw_mem [637, 638, 639, 640, 641, 642, 953, 954, 955, 956, 643, 644, 645, 646, 647, 648, 649, 957, 958, 959, 960, 650, 651, 652] (by decide +kernel)
set_option maxRecDepth 20000 in
theorem wsL_in_r24 : ∀ w ∈ wsL_law0_r24, w ∈ lw_tbl := lw_mem [653, 654, 655, 656, 657, 658, 659, 660, 661, 961, 962, 963, 964, 965, 967, 43, 968, 662, 663, 664, 665, 666, 667, 668] (by decide +kernel)
set_option maxRecDepth 20000 in
theorem wsL_in_r25 : ∀ w ∈ wsL_law0_r25, w ∈ lw_tbl := lw_mem [969, 970, 971, 972, 217, 218, 219, 220, 973, 974, 975, 976, 977, 979, 44, 980, 297, 298, 299, 300, 301, 302, 303, 304] (by decide +kernel)
set_option maxRecDepth 20000 in
theorem wsL_in_r26 : ∀ w ∈ wsL_law0_r26, w ∈ lw_tbl := lw_mem [981, 982, 983, 984, 985, 987, 45, 988, 670, 671, 672, 673, 674, 675, 676, 677, 678, 679, 680, 989, 990, 991, 992, 993] (by decide +kernel)
set_option maxRecDepth 20000 in
theorem wsL_in_r27 : ∀ w ∈ wsL_law0_r27, w ∈ lw_tbl := lw_mem [995, 46, 996, 305, 306, 307, 308, 309, 310, 311, 312, 997, 998, 999, 1000, 1001, 1003, 47, 1004, 313, 314, 315, 316, 317] (by decide +kernel)
set_option maxRecDepth 20000 in
theorem wsL_in_r28 : ∀ w ∈ wsL_law0_r28, w ∈ lw_tbl := lw_mem [318, 319, 320, 1005, 1006, 1007, 1008, 1009, 1011, 48, 1012, 681, 682, 683, 684, 685, 686, 687, 688, 689, 690, 400, 401, 402] (by decide +kernel)
set_option maxRecDepth 20000 in
theorem wsL_in_r29 : ∀ w ∈ wsL_law0_r29, w ∈ lw_tbl := lw_mem [403, 404, 418, 419, 420, 1013, 1014, 1015, 1016, 1017, 1019, 49, 1020, 692, 693, 694, 695, 696, 697, 698, 409, 410, 411, 412] (by decide +kernel)
set_option maxRecDepth 20000 in
theorem wsL_in_r30 : ∀ w ∈ wsL_law0_r30, w ∈ lw_tbl := lw_mem [413, 67, 414, 415, 416, 417, 1021, 1022, 1023, 1024, 1025, 1027, 50, 1028, 699, 700, 701, 702, 703, 704, 705, 707, 708, 709] (by decide +kernel)
set_option maxRecDepth 20000 in
theorem wsL_in_r31 : ∀ w ∈ wsL_law0_r31, w ∈ lw_tbl := lw_mem [710, 1029, 1030, 1031, 1032, 321, 322, 323, 324, 1033, 1034, 1035, 1036, 325, 326, 327, 328, 1037, 1038, 1039, 1040, 711, 712, 713] (by decide +kernel)
set_option maxRecDepth 20000 in
theorem wsL_in_r32 : ∀ w ∈ wsL_law0_r32, w ∈ lw_tbl := lw_mem [714, 715, 716, 717, 334, 335, 336, 337, 369, 370, 371, 338, 365, 367, 11, 368, 1041, 1042, 1043, 1044, 1045, 1047, 51, 1048] (by decide +kernel)
set_option maxRecDepth 20000 in
theorem wsL_in_r33 : ∀ w ∈ wsL_law0_r33, w ∈ lw_tbl := lw_mem [1049, 329, 330, 331, 332, 333, 1050, 1051, 1052, 1053, 1054, 1056, 52, 1057, 372, 373, 374, 375, 377, 378, 376, 1058, 1059, 1060] (by decide +kernel)
set_option maxRecDepth 20000 in
theorem wsL_in_r34 : ∀ w ∈ wsL_law0_r34, w ∈ lw_tbl := lw_mem [1061, 379, 380, 381, 382, 383, 384, 385, 386, 387, 388, 389, 390, 391, 392, 393, 394, 395, 396, 398, 12, 399, 407, 1062] (by decide +kernel)
set_option maxRecDepth 20000 in
theorem wsL_in_r35 : ∀ w ∈ wsL_law0_r35, w ∈ lw_tbl := lw_mem [1063, 1064, 1065, 1066, 1067, 1068, 1069, 1070] (by decide +kernel)
theorem lw_app {big a b : List Cond} (ha : ∀ w ∈ a, w ∈ big) (hb : ∀ w ∈ b, w ∈ big) : ∀ w ∈ a ++ b, w ∈ big := fun w h => (List.mem_append.mp h).elim (ha w) (hb w)
set_option maxRecDepth 20000 in
theorem nX0 : ∀ w ∈ wsX00, w ∈ lw_tbl := by decide +kernel
set_option maxRecDepth 20000 in
theorem nX1 : ∀ w ∈ wsX10, w ∈ lw_tbl := by decide +kernel
set_option maxRecDepth 20000 in
theorem nX2 : ∀ w ∈ wsX20, w ∈ lw_tbl := by decide +kernel
set_option maxRecDepth 20000 in
theorem nX3 : ∀ w ∈ wsX30, w ∈ lw_tbl := by decide +kernel
set_option maxRecDepth 20000 in
theorem nX4 : ∀ w ∈ wsX40, w ∈ lw_tbl := by decide +kernel
theorem wsL_law_in0 : ∀ w ∈ wsL_law0, w ∈ lw_tbl := (lw_app (lw_app (lw_app (lw_app (lw_app (lw_app (lw_app wsL_in_r1 (lw_app wsL_in_r2 (lw_app wsL_in_r3 (lw_app wsL_in_r4 (lw_app wsL_in_r5 (lw_app wsL_in_r6 (lw_app wsL_in_r7 (lw_app wsL_in_r8 (lw_app wsL_in_r9 (lw_app wsL_in_r10 (lw_app wsL_in_r11 (lw_app wsL_in_r12 (lw_app wsL_in_r13 (lw_app wsL_in_r14 (lw_app wsL_in_r15 (lw_app wsL_in_r16 (lw_app wsL_in_r17 (lw_app wsL_in_r18 (lw_app wsL_in_r19 (lw_app wsL_in_r20 (lw_app wsL_in_r21 (lw_app wsL_in_r22 (lw_app wsL_in_r23 (lw_app wsL_in_r24 (lw_app wsL_in_r25 (lw_app wsL_in_r26 (lw_app wsL_in_r27 (lw_app wsL_in_r28 (lw_app wsL_in_r29 (lw_app wsL_in_r30 (lw_app wsL_in_r31 (lw_app wsL_in_r32 (lw_app wsL_in_r33 (lw_app wsL_in_r34 wsL_in_r35)))))))))))))))))))))))))))))))))) nX3) nX4) nX1) nX2) nX0) (fun _ h => absurd h List.not_mem_nil))
theorem wsL_law_x0 : ∀ w ∈ (vx_atS RX3 42 "java/lang/IllegalArgumentException" ["java/lang/RuntimeException", "java/lang/Exception"]).filter goodWord, w ∈ lw_tbl := by decide +kernel
theorem wsL_law_x1 : ∀ w ∈ (vx_atS RX3 248 "java/lang/IndexOutOfBoundsException" ["java/lang/RuntimeException", "java/lang/Exception"]).filter goodWord, w ∈ lw_tbl := by decide +kernel
theorem wsL_law_x2 : ∀ w ∈ (vx_atS RX3 82 "java/lang/IllegalStateException" ["java/lang/RuntimeException", "java/lang/Exception"]).filter goodWord, w ∈ lw_tbl := by decide +kernel
theorem wsL_law_in : ∀ w ∈ wsL_law, w ∈ lw_tbl := fun w h => (List.mem_append.mp h).elim (fun h => (List.mem_append.mp h).elim (fun h => (List.mem_append.mp h).elim (fun h => wsL_law_in0 w h) (fun h => wsL_law_x0 w h)) (fun h => wsL_law_x1 w h)) (fun h => wsL_law_x2 w h)
theorem inlX0 : ∀ w ∈ wsX00, w ∈ wsL_law := fun _ h => List.mem_append_left _ (List.mem_append_left _ (List.mem_append_left _ (List.mem_append_left _ (List.mem_append_right _ h))))
theorem inlX1 : ∀ w ∈ wsX10, w ∈ wsL_law := fun _ h => List.mem_append_left _ (List.mem_append_left _ (List.mem_append_left _ (List.mem_append_left _ (List.mem_append_left _ (List.mem_append_left _ (List.mem_append_right _ h))))))
theorem inlX2 : ∀ w ∈ wsX20, w ∈ wsL_law := fun _ h => List.mem_append_left _ (List.mem_append_left _ (List.mem_append_left _ (List.mem_append_left _ (List.mem_append_left _ (List.mem_append_right _ h)))))
theorem inlX3 : ∀ w ∈ wsX30, w ∈ wsL_law := fun _ h => List.mem_append_left _ (List.mem_append_left _ (List.mem_append_left _ (List.mem_append_left _ (List.mem_append_left _ (List.mem_append_left _ (List.mem_append_left _ (List.mem_append_left _ (List.mem_append_right _ h))))))))
theorem inlX4 : ∀ w ∈ wsX40, w ∈ wsL_law := fun _ h => List.mem_append_left _ (List.mem_append_left _ (List.mem_append_left _ (List.mem_append_left _ (List.mem_append_left _ (List.mem_append_left _ (List.mem_append_left _ (List.mem_append_right _ h)))))))
