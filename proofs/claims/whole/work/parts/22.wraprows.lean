set_option maxRecDepth 20000 in
theorem ggL_layOut_X3_layOut : GoodIn wsL_layOut wsX3_layOut := goodIn_ca (goodIn_r _ [6, 7, 8, 9, 10, 11, 5, 12, 13, 14, 15, 16, 17, 18, 19, 20, 21, 22, 23, 24, 25, 26, 27, 28, 29, 30, 31, 32, 33, 34, 35, 36, 37, 38, 39, 40, 41, 42, 43, 44, 45, 46, 47, 48, 49, 50, 51, 52, 53, 54, 55, 56, 57, 58, 59, 60, 61, 62, 63, 64, 65, 66, 67, 68, 69, 70, 71, 72, 73, 74] (by decide +kernel) (by decide +kernel)) (goodIn_sub (fun _ h => List.mem_cons_of_mem _ (List.mem_append_right _ h)) (by decide +kernel))
set_option maxRecDepth 20000 in
theorem gL_layOut_X3_layOut : GoodIn wsL_layOut (wsV RL 7 RX3 yX3_layOut wsX3_layOut) := goodIn_app (goodIn_of _ (by decide +kernel)) ggL_layOut_X3_layOut
theorem dL_layOut_0 : decode cL_layOut 0 = .ok (.aload 4, 2) := by decide +kernel
theorem dL_layOut_2 : decode cL_layOut 2 = .ok (.iconst 0, 1) := by decide +kernel
theorem dL_layOut_3 : decode cL_layOut 3 = .ok (.aload_n 0, 1) := by decide +kernel
theorem dL_layOut_4 : decode cL_layOut 4 = .ok (.iload_n 1, 1) := by decide +kernel
theorem dL_layOut_5 : decode cL_layOut 5 = .ok (.iload_n 2, 1) := by decide +kernel
theorem dL_layOut_6 : decode cL_layOut 6 = .ok (.iload_n 3, 1) := by decide +kernel
theorem dL_layOut_7 : decode cL_layOut 7 = .ok (.invokevirtual 7, 3) := by decide +kernel
theorem dL_layOut_10 : decode cL_layOut 10 = .ok (.i2l, 1) := by decide +kernel
theorem dL_layOut_11 : decode cL_layOut 11 = .ok (.lastore, 1) := by decide +kernel
theorem dL_layOut_12 : decode cL_layOut 12 = .ok (.goto 7, 3) := by decide +kernel
theorem dL_layOut_15 : decode cL_layOut 15 = .ok (.astore 5, 2) := by decide +kernel
theorem dL_layOut_17 : decode cL_layOut 17 = .ok (.iconst 1, 1) := by decide +kernel
theorem dL_layOut_18 : decode cL_layOut 18 = .ok (.ireturn, 1) := by decide +kernel
theorem dL_layOut_19 : decode cL_layOut 19 = .ok (.iconst 0, 1) := by decide +kernel
theorem dL_layOut_20 : decode cL_layOut 20 = .ok (.ireturn, 1) := by decide +kernel
set_option maxRecDepth 20000 in
theorem ggL_fill_X3_fill : GoodIn wsL_fill wsX3_fill := goodIn_ca (goodIn_r _ [6, 7, 8, 9, 5, 10, 11, 12, 13, 14, 15, 16, 17, 18, 19, 20, 21, 22, 23, 24, 25, 26, 27, 28, 29, 30, 31, 32, 33, 34, 35, 36, 37, 38, 39, 40, 41, 42, 43, 44, 45, 46, 47, 48, 49, 50, 51, 52, 53, 54, 55, 56, 57, 58, 59, 60, 61, 62, 63, 64, 65, 66, 67, 68, 69, 70, 71, 72, 73, 74, 75, 76, 77, 78, 79, 80, 81, 82, 83, 84, 85, 86, 87, 88, 89, 90, 91, 92, 93, 94, 95, 96, 97, 98, 99, 100, 101, 102, 103, 104, 105, 106, 107, 108, 109, 110, 111, 112, 113, 114, 115, 116, 117, 118, 119, 120, 121, 122, 123, 124, 125, 126, 127, 128, 129, 130, 131, 132, 133, 134] (by decide +kernel) (by decide +kernel)) (goodIn_sub (fun _ h => List.mem_cons_of_mem _ (List.mem_append_right _ h)) (by decide +kernel))
set_option maxRecDepth 20000 in
theorem gL_fill_X3_fill : GoodIn wsL_fill (wsV RL 15 RX3 yX3_fill wsX3_fill) := goodIn_app (goodIn_of _ (by decide +kernel)) ggL_fill_X3_fill
theorem dL_fill_0 : decode cL_fill 0 = .ok (.aload_n 2, 1) := by decide +kernel
theorem dL_fill_1 : decode cL_fill 1 = .ok (.iconst 0, 1) := by decide +kernel
theorem dL_fill_2 : decode cL_fill 2 = .ok (.aload_n 0, 1) := by decide +kernel
theorem dL_fill_3 : decode cL_fill 3 = .ok (.iload_n 1, 1) := by decide +kernel
theorem dL_fill_4 : decode cL_fill 4 = .ok (.invokevirtual 15, 3) := by decide +kernel
theorem dL_fill_7 : decode cL_fill 7 = .ok (.i2l, 1) := by decide +kernel
theorem dL_fill_8 : decode cL_fill 8 = .ok (.lastore, 1) := by decide +kernel
theorem dL_fill_9 : decode cL_fill 9 = .ok (.goto 6, 3) := by decide +kernel
theorem dL_fill_12 : decode cL_fill 12 = .ok (.astore_n 3, 1) := by decide +kernel
theorem dL_fill_13 : decode cL_fill 13 = .ok (.iconst 1, 1) := by decide +kernel
theorem dL_fill_14 : decode cL_fill 14 = .ok (.ireturn, 1) := by decide +kernel
theorem dL_fill_15 : decode cL_fill 15 = .ok (.iconst 0, 1) := by decide +kernel
theorem dL_fill_16 : decode cL_fill 16 = .ok (.ireturn, 1) := by decide +kernel
set_option maxRecDepth 20000 in
theorem ggL_empty_X3_empty : GoodIn wsL_empty wsX3_empty := goodIn_ca (goodIn_r _ [6, 7, 8, 9, 5, 10, 11, 12, 13, 14, 15, 16, 17, 18, 19, 20, 21, 22, 23, 24, 25, 26, 27, 28, 29, 30, 31, 32, 33, 34, 35, 36, 37, 38, 39, 40, 41, 42, 43, 44, 45, 46, 47, 48, 49, 50, 51, 52, 53, 54, 55, 56, 57, 58, 59, 60, 61, 62, 63, 64, 65, 66, 67, 68, 69, 70, 71, 72, 73, 74, 75, 76, 77, 78, 79, 80, 81, 82, 83, 84, 85, 86, 87, 88, 89, 90, 91, 92, 93, 94, 95, 96, 97, 98, 99, 100, 101, 102, 103, 104, 105, 106, 107, 108, 109, 110, 111, 112, 113, 114, 115, 116, 117, 118, 119, 120, 121, 122, 123, 124, 125, 126, 127, 128, 129, 130, 131, 132, 133, 134] (by decide +kernel) (by decide +kernel)) (goodIn_sub (fun _ h => List.mem_cons_of_mem _ (List.mem_append_right _ h)) (by decide +kernel))
set_option maxRecDepth 20000 in
theorem gL_empty_X3_empty : GoodIn wsL_empty (wsV RL 21 RX3 yX3_empty wsX3_empty) := goodIn_app (goodIn_of _ (by decide +kernel)) ggL_empty_X3_empty
theorem dL_empty_0 : decode cL_empty 0 = .ok (.aload_n 2, 1) := by decide +kernel
theorem dL_empty_1 : decode cL_empty 1 = .ok (.iconst 0, 1) := by decide +kernel
theorem dL_empty_2 : decode cL_empty 2 = .ok (.aload_n 0, 1) := by decide +kernel
theorem dL_empty_3 : decode cL_empty 3 = .ok (.iload_n 1, 1) := by decide +kernel
theorem dL_empty_4 : decode cL_empty 4 = .ok (.invokevirtual 21, 3) := by decide +kernel
theorem dL_empty_7 : decode cL_empty 7 = .ok (.i2l, 1) := by decide +kernel
theorem dL_empty_8 : decode cL_empty 8 = .ok (.lastore, 1) := by decide +kernel
theorem dL_empty_9 : decode cL_empty 9 = .ok (.goto 6, 3) := by decide +kernel
theorem dL_empty_12 : decode cL_empty 12 = .ok (.astore_n 3, 1) := by decide +kernel
theorem dL_empty_13 : decode cL_empty 13 = .ok (.iconst 1, 1) := by decide +kernel
theorem dL_empty_14 : decode cL_empty 14 = .ok (.ireturn, 1) := by decide +kernel
theorem dL_empty_15 : decode cL_empty 15 = .ok (.iconst 0, 1) := by decide +kernel
theorem dL_empty_16 : decode cL_empty 16 = .ok (.ireturn, 1) := by decide +kernel
set_option maxRecDepth 20000 in
theorem ggL_pour_X3_pour : GoodIn wsL_pour wsX3_pour := goodIn_ca (goodIn_ca (goodIn_r _ [7, 8, 9, 10, 6, 11, 12, 13, 14, 15, 16, 17, 18, 19, 20, 21, 22, 23, 24, 25, 26, 27, 28, 29, 30, 31, 32, 33, 34, 35, 36, 37, 38, 39, 40, 41, 42, 43, 44, 45, 46, 47, 48, 49, 50, 51, 52, 53, 54, 55, 56, 57, 58, 59, 60, 61, 62, 63, 64, 65, 66, 67, 68, 69, 70, 71, 72, 73, 74, 75, 76, 77, 78, 79, 80, 81, 82, 83, 84, 85, 86, 87, 88, 89, 90, 91, 92, 93, 94, 95, 96, 97, 98, 99, 100, 101, 102, 103, 104, 105, 106, 107, 108, 109, 110, 111, 112, 113, 114, 115, 116, 117, 118, 119, 120, 121, 122, 123, 124, 125, 126, 127, 128, 129, 130, 131, 132, 133, 134, 135, 136, 137, 138, 139, 140, 141, 142, 143, 144] (by decide +kernel) (by decide +kernel)) (goodIn_sub (fun _ h => List.mem_cons_of_mem _ (List.mem_append_left _ (List.mem_append_right _ h))) (by decide +kernel))) (goodIn_sub (fun _ h => List.mem_cons_of_mem _ (List.mem_append_right _ h)) (by decide +kernel))
set_option maxRecDepth 20000 in
theorem gL_pour_X3_pour : GoodIn wsL_pour (wsV RL 24 RX3 yX3_pour wsX3_pour) := goodIn_app (goodIn_of _ (by decide +kernel)) ggL_pour_X3_pour
theorem dL_pour_0 : decode cL_pour 0 = .ok (.aload_n 3, 1) := by decide +kernel
theorem dL_pour_1 : decode cL_pour 1 = .ok (.iconst 0, 1) := by decide +kernel
theorem dL_pour_2 : decode cL_pour 2 = .ok (.aload_n 0, 1) := by decide +kernel
theorem dL_pour_3 : decode cL_pour 3 = .ok (.iload_n 1, 1) := by decide +kernel
theorem dL_pour_4 : decode cL_pour 4 = .ok (.iload_n 2, 1) := by decide +kernel
theorem dL_pour_5 : decode cL_pour 5 = .ok (.invokevirtual 24, 3) := by decide +kernel
theorem dL_pour_8 : decode cL_pour 8 = .ok (.i2l, 1) := by decide +kernel
theorem dL_pour_9 : decode cL_pour 9 = .ok (.lastore, 1) := by decide +kernel
theorem dL_pour_10 : decode cL_pour 10 = .ok (.goto 11, 3) := by decide +kernel
theorem dL_pour_13 : decode cL_pour 13 = .ok (.astore 4, 2) := by decide +kernel
theorem dL_pour_15 : decode cL_pour 15 = .ok (.iconst 1, 1) := by decide +kernel
theorem dL_pour_16 : decode cL_pour 16 = .ok (.ireturn, 1) := by decide +kernel
theorem dL_pour_17 : decode cL_pour 17 = .ok (.astore 4, 2) := by decide +kernel
theorem dL_pour_19 : decode cL_pour 19 = .ok (.iconst 2, 1) := by decide +kernel
theorem dL_pour_20 : decode cL_pour 20 = .ok (.ireturn, 1) := by decide +kernel
theorem dL_pour_21 : decode cL_pour 21 = .ok (.iconst 0, 1) := by decide +kernel
theorem dL_pour_22 : decode cL_pour 22 = .ok (.ireturn, 1) := by decide +kernel
set_option maxRecDepth 20000 in
theorem ggL_follow_X3_follow : GoodIn wsL_follow wsX3_follow := goodIn_ca (goodIn_ca (goodIn_r _ [7, 8, 9, 10, 11, 12, 13, 14, 15, 6, 16, 17, 18, 19, 20, 21, 22, 23, 24, 25, 26, 27, 28, 29, 30, 31, 32, 33, 34, 35, 36, 37, 38, 39, 40, 41, 42, 43, 44, 45, 46, 47, 48, 49, 50, 51, 52, 53, 54, 55, 56, 57, 58, 59, 60, 61, 62, 63, 64, 65, 66, 67, 68, 69, 70, 71, 72, 73, 74, 75, 76, 77, 78, 79, 80, 81, 82, 83, 84, 85, 86, 87, 88, 89, 90, 91, 92, 93, 94, 95, 96, 97, 98, 99, 100, 101, 102, 103, 104, 105, 106, 107, 108, 109, 110, 111, 112, 113, 114, 115, 116, 117, 118, 119, 120, 121, 122, 123, 124, 125, 126, 127, 128, 129, 130, 131, 132, 133, 134, 135, 136, 137, 138, 139, 140, 141, 142, 143, 144, 145, 146, 147, 148, 149, 150, 151, 152, 153, 154, 155, 156, 157, 158, 159, 160, 161, 162, 163, 164, 165, 166, 167, 168, 169, 170, 171, 172, 173, 174, 175, 176, 177, 178, 179, 180, 181, 182, 183, 184, 185, 186, 187, 188, 189, 190, 191, 192, 193, 194, 195, 196, 197, 198, 199, 200, 201, 202] (by decide +kernel) (by decide +kernel)) (goodIn_sub (fun _ h => List.mem_cons_of_mem _ (List.mem_append_left _ (List.mem_append_right _ h))) (by decide +kernel))) (goodIn_sub (fun _ h => List.mem_cons_of_mem _ (List.mem_append_right _ h)) (by decide +kernel))
set_option maxRecDepth 20000 in
theorem gL_follow_X3_follow : GoodIn wsL_follow (wsV RL 28 RX3 yX3_follow wsX3_follow) := goodIn_app (goodIn_of _ (by decide +kernel)) ggL_follow_X3_follow
theorem dL_follow_0 : decode cL_follow 0 = .ok (.aload_n 3, 1) := by decide +kernel
theorem dL_follow_1 : decode cL_follow 1 = .ok (.iconst 0, 1) := by decide +kernel
theorem dL_follow_2 : decode cL_follow 2 = .ok (.aload_n 0, 1) := by decide +kernel
theorem dL_follow_3 : decode cL_follow 3 = .ok (.iload_n 1, 1) := by decide +kernel
theorem dL_follow_4 : decode cL_follow 4 = .ok (.iload_n 2, 1) := by decide +kernel
theorem dL_follow_5 : decode cL_follow 5 = .ok (.invokevirtual 28, 3) := by decide +kernel
theorem dL_follow_8 : decode cL_follow 8 = .ok (.i2l, 1) := by decide +kernel
theorem dL_follow_9 : decode cL_follow 9 = .ok (.lastore, 1) := by decide +kernel
theorem dL_follow_10 : decode cL_follow 10 = .ok (.goto 11, 3) := by decide +kernel
theorem dL_follow_13 : decode cL_follow 13 = .ok (.astore 4, 2) := by decide +kernel
theorem dL_follow_15 : decode cL_follow 15 = .ok (.iconst 1, 1) := by decide +kernel
theorem dL_follow_16 : decode cL_follow 16 = .ok (.ireturn, 1) := by decide +kernel
theorem dL_follow_17 : decode cL_follow 17 = .ok (.astore 4, 2) := by decide +kernel
theorem dL_follow_19 : decode cL_follow 19 = .ok (.iconst 2, 1) := by decide +kernel
theorem dL_follow_20 : decode cL_follow 20 = .ok (.ireturn, 1) := by decide +kernel
theorem dL_follow_21 : decode cL_follow 21 = .ok (.iconst 0, 1) := by decide +kernel
theorem dL_follow_22 : decode cL_follow 22 = .ok (.ireturn, 1) := by decide +kernel
set_option maxRecDepth 20000 in
theorem ggL_volumeOf_X3_volumeOf : GoodIn wsL_volumeOf wsX3_volumeOf := goodIn_ca (goodIn_r _ [6, 7, 8, 9, 10, 5, 11, 12, 13, 14, 15, 16, 17, 18, 19, 20, 21, 22, 23, 24, 25, 26, 27, 28, 29, 30, 31, 32, 33, 34] (by decide +kernel) (by decide +kernel)) (goodIn_sub (fun _ h => List.mem_cons_of_mem _ (List.mem_append_right _ h)) (by decide +kernel))
set_option maxRecDepth 20000 in
theorem gL_volumeOf_X3_volumeOf : GoodIn wsL_volumeOf (wsV RL 33 RX3 yX3_volumeOf wsX3_volumeOf) := goodIn_app (goodIn_of _ (by decide +kernel)) ggL_volumeOf_X3_volumeOf
theorem dL_volumeOf_0 : decode cL_volumeOf 0 = .ok (.aload_n 2, 1) := by decide +kernel
theorem dL_volumeOf_1 : decode cL_volumeOf 1 = .ok (.iconst 0, 1) := by decide +kernel
theorem dL_volumeOf_2 : decode cL_volumeOf 2 = .ok (.aload_n 0, 1) := by decide +kernel
theorem dL_volumeOf_3 : decode cL_volumeOf 3 = .ok (.iload_n 1, 1) := by decide +kernel
theorem dL_volumeOf_4 : decode cL_volumeOf 4 = .ok (.invokevirtual 33, 3) := by decide +kernel
theorem dL_volumeOf_7 : decode cL_volumeOf 7 = .ok (.i2l, 1) := by decide +kernel
theorem dL_volumeOf_8 : decode cL_volumeOf 8 = .ok (.lastore, 1) := by decide +kernel
theorem dL_volumeOf_9 : decode cL_volumeOf 9 = .ok (.goto 6, 3) := by decide +kernel
theorem dL_volumeOf_12 : decode cL_volumeOf 12 = .ok (.astore_n 3, 1) := by decide +kernel
theorem dL_volumeOf_13 : decode cL_volumeOf 13 = .ok (.iconst 1, 1) := by decide +kernel
theorem dL_volumeOf_14 : decode cL_volumeOf 14 = .ok (.ireturn, 1) := by decide +kernel
theorem dL_volumeOf_15 : decode cL_volumeOf 15 = .ok (.iconst 0, 1) := by decide +kernel
theorem dL_volumeOf_16 : decode cL_volumeOf 16 = .ok (.ireturn, 1) := by decide +kernel
set_option maxRecDepth 20000 in
theorem ggL_amountOf_X3_amountOf : GoodIn wsL_amountOf wsX3_amountOf := goodIn_ca (goodIn_r _ [6, 7, 8, 9, 10, 5, 11, 12, 13, 14, 15, 16, 17, 18, 19, 20, 21, 22, 23, 24, 25, 26, 27, 28, 29, 30, 31, 32, 33, 34, 35] (by decide +kernel) (by decide +kernel)) (goodIn_sub (fun _ h => List.mem_cons_of_mem _ (List.mem_append_right _ h)) (by decide +kernel))
set_option maxRecDepth 20000 in
theorem gL_amountOf_X3_amountOf : GoodIn wsL_amountOf (wsV RL 36 RX3 yX3_amountOf wsX3_amountOf) := goodIn_app (goodIn_of _ (by decide +kernel)) ggL_amountOf_X3_amountOf
theorem dL_amountOf_0 : decode cL_amountOf 0 = .ok (.aload_n 2, 1) := by decide +kernel
theorem dL_amountOf_1 : decode cL_amountOf 1 = .ok (.iconst 0, 1) := by decide +kernel
theorem dL_amountOf_2 : decode cL_amountOf 2 = .ok (.aload_n 0, 1) := by decide +kernel
theorem dL_amountOf_3 : decode cL_amountOf 3 = .ok (.iload_n 1, 1) := by decide +kernel
theorem dL_amountOf_4 : decode cL_amountOf 4 = .ok (.invokevirtual 36, 3) := by decide +kernel
theorem dL_amountOf_7 : decode cL_amountOf 7 = .ok (.i2l, 1) := by decide +kernel
theorem dL_amountOf_8 : decode cL_amountOf 8 = .ok (.lastore, 1) := by decide +kernel
theorem dL_amountOf_9 : decode cL_amountOf 9 = .ok (.goto 6, 3) := by decide +kernel
theorem dL_amountOf_12 : decode cL_amountOf 12 = .ok (.astore_n 3, 1) := by decide +kernel
theorem dL_amountOf_13 : decode cL_amountOf 13 = .ok (.iconst 1, 1) := by decide +kernel
theorem dL_amountOf_14 : decode cL_amountOf 14 = .ok (.ireturn, 1) := by decide +kernel
theorem dL_amountOf_15 : decode cL_amountOf 15 = .ok (.iconst 0, 1) := by decide +kernel
theorem dL_amountOf_16 : decode cL_amountOf 16 = .ok (.ireturn, 1) := by decide +kernel
set_option maxRecDepth 20000 in
theorem ggL_isEmpty_X3_isEmpty : GoodIn wsL_isEmpty wsX3_isEmpty := goodIn_ca (goodIn_r _ [6, 7, 8, 9, 10, 5, 11, 12, 13, 14, 15, 16, 17, 18, 19, 20, 21, 22, 23, 24, 25, 26, 27, 28, 29, 30, 31, 32, 33, 34, 35, 36, 37, 38, 39] (by decide +kernel) (by decide +kernel)) (goodIn_sub (fun _ h => List.mem_cons_of_mem _ (List.mem_append_right _ h)) (by decide +kernel))
set_option maxRecDepth 20000 in
theorem gL_isEmpty_X3_isEmpty : GoodIn wsL_isEmpty (wsV RL 39 RX3 yX3_isEmpty wsX3_isEmpty) := goodIn_app (goodIn_of _ (by decide +kernel)) ggL_isEmpty_X3_isEmpty
theorem dL_isEmpty_0 : decode cL_isEmpty 0 = .ok (.aload_n 2, 1) := by decide +kernel
theorem dL_isEmpty_1 : decode cL_isEmpty 1 = .ok (.iconst 0, 1) := by decide +kernel
theorem dL_isEmpty_2 : decode cL_isEmpty 2 = .ok (.aload_n 0, 1) := by decide +kernel
theorem dL_isEmpty_3 : decode cL_isEmpty 3 = .ok (.iload_n 1, 1) := by decide +kernel
theorem dL_isEmpty_4 : decode cL_isEmpty 4 = .ok (.invokevirtual 39, 3) := by decide +kernel
theorem dL_isEmpty_7 : decode cL_isEmpty 7 = .ok (.ifCond .eq 7, 3) := by decide +kernel
theorem dL_isEmpty_10 : decode cL_isEmpty 10 = .ok (.lconst 1, 1) := by decide +kernel
theorem dL_isEmpty_11 : decode cL_isEmpty 11 = .ok (.goto 4, 3) := by decide +kernel
theorem dL_isEmpty_14 : decode cL_isEmpty 14 = .ok (.lconst 0, 1) := by decide +kernel
theorem dL_isEmpty_15 : decode cL_isEmpty 15 = .ok (.lastore, 1) := by decide +kernel
theorem dL_isEmpty_16 : decode cL_isEmpty 16 = .ok (.goto 6, 3) := by decide +kernel
theorem dL_isEmpty_19 : decode cL_isEmpty 19 = .ok (.astore_n 3, 1) := by decide +kernel
theorem dL_isEmpty_20 : decode cL_isEmpty 20 = .ok (.iconst 1, 1) := by decide +kernel
theorem dL_isEmpty_21 : decode cL_isEmpty 21 = .ok (.ireturn, 1) := by decide +kernel
theorem dL_isEmpty_22 : decode cL_isEmpty 22 = .ok (.iconst 0, 1) := by decide +kernel
theorem dL_isEmpty_23 : decode cL_isEmpty 23 = .ok (.ireturn, 1) := by decide +kernel
set_option maxRecDepth 20000 in
theorem ggL_isFull_X3_isFull : GoodIn wsL_isFull wsX3_isFull := goodIn_ca (goodIn_r _ [6, 7, 8, 9, 10, 5, 11, 12, 13, 14, 15, 16, 17, 18, 19, 20, 21, 22, 23, 24, 25, 26, 27, 28, 29, 30, 31, 32, 33, 34, 35, 36, 37, 38, 39, 40, 41, 42, 43] (by decide +kernel) (by decide +kernel)) (goodIn_sub (fun _ h => List.mem_cons_of_mem _ (List.mem_append_right _ h)) (by decide +kernel))
set_option maxRecDepth 20000 in
theorem gL_isFull_X3_isFull : GoodIn wsL_isFull (wsV RL 43 RX3 yX3_isFull wsX3_isFull) := goodIn_app (goodIn_of _ (by decide +kernel)) ggL_isFull_X3_isFull
theorem dL_isFull_0 : decode cL_isFull 0 = .ok (.aload_n 2, 1) := by decide +kernel
theorem dL_isFull_1 : decode cL_isFull 1 = .ok (.iconst 0, 1) := by decide +kernel
theorem dL_isFull_2 : decode cL_isFull 2 = .ok (.aload_n 0, 1) := by decide +kernel
theorem dL_isFull_3 : decode cL_isFull 3 = .ok (.iload_n 1, 1) := by decide +kernel
theorem dL_isFull_4 : decode cL_isFull 4 = .ok (.invokevirtual 43, 3) := by decide +kernel
theorem dL_isFull_7 : decode cL_isFull 7 = .ok (.ifCond .eq 7, 3) := by decide +kernel
theorem dL_isFull_10 : decode cL_isFull 10 = .ok (.lconst 1, 1) := by decide +kernel
theorem dL_isFull_11 : decode cL_isFull 11 = .ok (.goto 4, 3) := by decide +kernel
theorem dL_isFull_14 : decode cL_isFull 14 = .ok (.lconst 0, 1) := by decide +kernel
theorem dL_isFull_15 : decode cL_isFull 15 = .ok (.lastore, 1) := by decide +kernel
theorem dL_isFull_16 : decode cL_isFull 16 = .ok (.goto 6, 3) := by decide +kernel
theorem dL_isFull_19 : decode cL_isFull 19 = .ok (.astore_n 3, 1) := by decide +kernel
theorem dL_isFull_20 : decode cL_isFull 20 = .ok (.iconst 1, 1) := by decide +kernel
theorem dL_isFull_21 : decode cL_isFull 21 = .ok (.ireturn, 1) := by decide +kernel
theorem dL_isFull_22 : decode cL_isFull 22 = .ok (.iconst 0, 1) := by decide +kernel
theorem dL_isFull_23 : decode cL_isFull 23 = .ok (.ireturn, 1) := by decide +kernel
set_option maxRecDepth 20000 in
theorem ggL_isThere_X3_isThere : GoodIn wsL_isThere wsX3_isThere := goodIn_ca (goodIn_r _ [6, 7, 8, 9, 5, 10, 11, 12, 13, 14, 15, 16, 17, 18, 19, 20, 21, 22, 23, 24, 25, 26, 27, 28, 29, 30, 31, 32, 33, 34, 35, 36, 37, 38] (by decide +kernel) (by decide +kernel)) (goodIn_sub (fun _ h => List.mem_cons_of_mem _ (List.mem_append_right _ h)) (by decide +kernel))
set_option maxRecDepth 20000 in
theorem gL_isThere_X3_isThere : GoodIn wsL_isThere (wsV RL 46 RX3 yX3_isThere wsX3_isThere) := goodIn_app (goodIn_of _ (by decide +kernel)) ggL_isThere_X3_isThere
theorem dL_isThere_0 : decode cL_isThere 0 = .ok (.aload_n 2, 1) := by decide +kernel
theorem dL_isThere_1 : decode cL_isThere 1 = .ok (.iconst 0, 1) := by decide +kernel
theorem dL_isThere_2 : decode cL_isThere 2 = .ok (.aload_n 0, 1) := by decide +kernel
theorem dL_isThere_3 : decode cL_isThere 3 = .ok (.iload_n 1, 1) := by decide +kernel
theorem dL_isThere_4 : decode cL_isThere 4 = .ok (.invokevirtual 46, 3) := by decide +kernel
theorem dL_isThere_7 : decode cL_isThere 7 = .ok (.ifCond .eq 7, 3) := by decide +kernel
theorem dL_isThere_10 : decode cL_isThere 10 = .ok (.lconst 1, 1) := by decide +kernel
theorem dL_isThere_11 : decode cL_isThere 11 = .ok (.goto 4, 3) := by decide +kernel
theorem dL_isThere_14 : decode cL_isThere 14 = .ok (.lconst 0, 1) := by decide +kernel
theorem dL_isThere_15 : decode cL_isThere 15 = .ok (.lastore, 1) := by decide +kernel
theorem dL_isThere_16 : decode cL_isThere 16 = .ok (.goto 6, 3) := by decide +kernel
theorem dL_isThere_19 : decode cL_isThere 19 = .ok (.astore_n 3, 1) := by decide +kernel
theorem dL_isThere_20 : decode cL_isThere 20 = .ok (.iconst 1, 1) := by decide +kernel
theorem dL_isThere_21 : decode cL_isThere 21 = .ok (.ireturn, 1) := by decide +kernel
theorem dL_isThere_22 : decode cL_isThere 22 = .ok (.iconst 0, 1) := by decide +kernel
theorem dL_isThere_23 : decode cL_isThere 23 = .ok (.ireturn, 1) := by decide +kernel
set_option maxRecDepth 20000 in
theorem ggL_leastActs_X3_leastActs : GoodIn wsL_leastActs wsX3_leastActs := goodIn_ca (goodIn_r _ [6, 7, 8, 5, 9, 10, 11, 12, 13, 14, 15, 16, 17, 18, 19, 20, 21, 22, 23, 24, 25, 26, 27, 28, 29, 30, 31, 32, 33, 34, 35, 36, 37, 38, 39, 40, 41, 42, 43, 44, 45, 46, 47, 48, 49, 50, 51, 52, 53, 54, 55, 56, 57, 58, 59, 60, 61, 62, 63, 64, 65, 66, 67, 68, 69, 70, 71, 72, 73, 74, 75, 76, 77, 78, 79, 80, 81, 82, 83, 84, 85, 86, 87, 88, 89, 90, 91, 92, 93, 94, 95, 96, 97, 98, 99, 100, 101, 102, 103, 104, 105, 106, 107, 108, 109, 110, 111, 112, 113, 114, 115, 116, 117, 118, 119, 120, 121, 122, 123, 124, 125, 126, 127, 128] (by decide +kernel) (by decide +kernel)) (goodIn_sub (fun _ h => List.mem_cons_of_mem _ (List.mem_append_right _ h)) (by decide +kernel))
set_option maxRecDepth 20000 in
theorem gL_leastActs_X3_leastActs : GoodIn wsL_leastActs (wsV RL 49 RX3 yX3_leastActs wsX3_leastActs) := goodIn_app (goodIn_of _ (by decide +kernel)) ggL_leastActs_X3_leastActs
theorem dL_leastActs_0 : decode cL_leastActs 0 = .ok (.aload_n 2, 1) := by decide +kernel
theorem dL_leastActs_1 : decode cL_leastActs 1 = .ok (.iconst 0, 1) := by decide +kernel
theorem dL_leastActs_2 : decode cL_leastActs 2 = .ok (.aload_n 0, 1) := by decide +kernel
theorem dL_leastActs_3 : decode cL_leastActs 3 = .ok (.iload_n 1, 1) := by decide +kernel
theorem dL_leastActs_4 : decode cL_leastActs 4 = .ok (.invokevirtual 49, 3) := by decide +kernel
theorem dL_leastActs_7 : decode cL_leastActs 7 = .ok (.i2l, 1) := by decide +kernel
theorem dL_leastActs_8 : decode cL_leastActs 8 = .ok (.lastore, 1) := by decide +kernel
theorem dL_leastActs_9 : decode cL_leastActs 9 = .ok (.goto 6, 3) := by decide +kernel
theorem dL_leastActs_12 : decode cL_leastActs 12 = .ok (.astore_n 3, 1) := by decide +kernel
theorem dL_leastActs_13 : decode cL_leastActs 13 = .ok (.iconst 1, 1) := by decide +kernel
theorem dL_leastActs_14 : decode cL_leastActs 14 = .ok (.ireturn, 1) := by decide +kernel
theorem dL_leastActs_15 : decode cL_leastActs 15 = .ok (.iconst 0, 1) := by decide +kernel
theorem dL_leastActs_16 : decode cL_leastActs 16 = .ok (.ireturn, 1) := by decide +kernel
set_option maxRecDepth 20000 in
theorem ggL_leastActsIn_X3_leastActsIn : GoodIn wsL_leastActsIn wsX3_leastActsIn := goodIn_ca (goodIn_ca (goodIn_r _ [7, 8, 9, 10, 6, 11, 12, 13, 14, 15, 16, 17, 18, 19, 20, 21, 22, 23, 24, 25, 26, 27, 28, 29, 30, 31, 32, 33, 34, 35, 36, 37, 38, 39, 40, 41, 42, 43, 44, 45, 46, 47, 48, 49, 50, 51, 52, 53, 54, 55, 56, 57, 58, 59, 60, 61, 62, 63, 64, 65, 66, 67, 68, 69, 70, 71, 72, 73, 74, 75, 76, 77, 78, 79, 80, 81, 82, 83, 84, 85, 86, 87, 88, 89, 90, 91, 92, 93, 94, 95, 96, 97, 98, 99, 100, 101, 102, 103, 104, 105, 106, 107, 108, 109, 110, 111, 112, 113, 114, 115, 116, 117, 118, 119, 120, 121, 122, 123, 124, 125] (by decide +kernel) (by decide +kernel)) (goodIn_sub (fun _ h => List.mem_cons_of_mem _ (List.mem_append_left _ (List.mem_append_right _ h))) (by decide +kernel))) (goodIn_sub (fun _ h => List.mem_cons_of_mem _ (List.mem_append_right _ h)) (by decide +kernel))
set_option maxRecDepth 20000 in
theorem gL_leastActsIn_X3_leastActsIn : GoodIn wsL_leastActsIn (wsV RL 52 RX3 yX3_leastActsIn wsX3_leastActsIn) := goodIn_app (goodIn_of _ (by decide +kernel)) ggL_leastActsIn_X3_leastActsIn
theorem dL_leastActsIn_0 : decode cL_leastActsIn 0 = .ok (.aload_n 3, 1) := by decide +kernel
theorem dL_leastActsIn_1 : decode cL_leastActsIn 1 = .ok (.iconst 0, 1) := by decide +kernel
theorem dL_leastActsIn_2 : decode cL_leastActsIn 2 = .ok (.aload_n 0, 1) := by decide +kernel
theorem dL_leastActsIn_3 : decode cL_leastActsIn 3 = .ok (.iload_n 1, 1) := by decide +kernel
theorem dL_leastActsIn_4 : decode cL_leastActsIn 4 = .ok (.iload_n 2, 1) := by decide +kernel
theorem dL_leastActsIn_5 : decode cL_leastActsIn 5 = .ok (.invokevirtual 52, 3) := by decide +kernel
theorem dL_leastActsIn_8 : decode cL_leastActsIn 8 = .ok (.i2l, 1) := by decide +kernel
theorem dL_leastActsIn_9 : decode cL_leastActsIn 9 = .ok (.lastore, 1) := by decide +kernel
theorem dL_leastActsIn_10 : decode cL_leastActsIn 10 = .ok (.goto 11, 3) := by decide +kernel
theorem dL_leastActsIn_13 : decode cL_leastActsIn 13 = .ok (.astore 4, 2) := by decide +kernel
theorem dL_leastActsIn_15 : decode cL_leastActsIn 15 = .ok (.iconst 1, 1) := by decide +kernel
theorem dL_leastActsIn_16 : decode cL_leastActsIn 16 = .ok (.ireturn, 1) := by decide +kernel
theorem dL_leastActsIn_17 : decode cL_leastActsIn 17 = .ok (.astore 4, 2) := by decide +kernel
theorem dL_leastActsIn_19 : decode cL_leastActsIn 19 = .ok (.iconst 2, 1) := by decide +kernel
theorem dL_leastActsIn_20 : decode cL_leastActsIn 20 = .ok (.ireturn, 1) := by decide +kernel
theorem dL_leastActsIn_21 : decode cL_leastActsIn 21 = .ok (.iconst 0, 1) := by decide +kernel
theorem dL_leastActsIn_22 : decode cL_leastActsIn 22 = .ok (.ireturn, 1) := by decide +kernel
set_option maxRecDepth 20000 in
theorem ggL_nextAct_X3_nextAct : GoodIn wsL_nextAct wsX3_nextAct := goodIn_ca (goodIn_ca (goodIn_r _ [7, 8, 9, 10, 11, 6, 12, 13, 14, 15, 16, 17, 18, 19, 20, 21, 22, 23, 24, 25, 26, 27, 28, 29, 30, 31, 32, 33, 34, 35, 36, 37, 38, 39, 40, 41, 42, 43, 44, 45, 46, 47, 48, 49, 50, 51, 52, 53, 54, 55, 56, 57, 58, 59, 60, 61, 62, 63, 64, 65, 66, 67, 68, 69, 70, 71, 72, 73, 74, 75, 76, 77, 78, 79, 80, 81, 82, 83, 84, 85, 86, 87, 88, 89, 90, 91, 92, 93, 94, 95, 96, 97, 98, 99, 100, 101, 102, 103, 104, 105, 106, 107, 108, 109, 110, 111, 112, 113, 114, 115, 116, 117, 118, 119, 120, 121, 122, 123, 124, 125, 126, 127, 128, 129, 130, 131, 132, 133, 134, 135] (by decide +kernel) (by decide +kernel)) (goodIn_sub (fun _ h => List.mem_cons_of_mem _ (List.mem_append_left _ (List.mem_append_right _ h))) (by decide +kernel))) (goodIn_sub (fun _ h => List.mem_cons_of_mem _ (List.mem_append_right _ h)) (by decide +kernel))
set_option maxRecDepth 20000 in
theorem gL_nextAct_X3_nextAct : GoodIn wsL_nextAct (wsV RL 55 RX3 yX3_nextAct wsX3_nextAct) := goodIn_app (goodIn_of _ (by decide +kernel)) ggL_nextAct_X3_nextAct
theorem dL_nextAct_0 : decode cL_nextAct 0 = .ok (.aload_n 2, 1) := by decide +kernel
theorem dL_nextAct_1 : decode cL_nextAct 1 = .ok (.iconst 0, 1) := by decide +kernel
theorem dL_nextAct_2 : decode cL_nextAct 2 = .ok (.aload_n 0, 1) := by decide +kernel
theorem dL_nextAct_3 : decode cL_nextAct 3 = .ok (.iload_n 1, 1) := by decide +kernel
theorem dL_nextAct_4 : decode cL_nextAct 4 = .ok (.invokevirtual 55, 3) := by decide +kernel
theorem dL_nextAct_7 : decode cL_nextAct 7 = .ok (.i2l, 1) := by decide +kernel
theorem dL_nextAct_8 : decode cL_nextAct 8 = .ok (.lastore, 1) := by decide +kernel
theorem dL_nextAct_9 : decode cL_nextAct 9 = .ok (.goto 9, 3) := by decide +kernel
theorem dL_nextAct_12 : decode cL_nextAct 12 = .ok (.astore_n 3, 1) := by decide +kernel
theorem dL_nextAct_13 : decode cL_nextAct 13 = .ok (.iconst 1, 1) := by decide +kernel
theorem dL_nextAct_14 : decode cL_nextAct 14 = .ok (.ireturn, 1) := by decide +kernel
theorem dL_nextAct_15 : decode cL_nextAct 15 = .ok (.astore_n 3, 1) := by decide +kernel
theorem dL_nextAct_16 : decode cL_nextAct 16 = .ok (.iconst 2, 1) := by decide +kernel
theorem dL_nextAct_17 : decode cL_nextAct 17 = .ok (.ireturn, 1) := by decide +kernel
theorem dL_nextAct_18 : decode cL_nextAct 18 = .ok (.iconst 0, 1) := by decide +kernel
theorem dL_nextAct_19 : decode cL_nextAct 19 = .ok (.ireturn, 1) := by decide +kernel
set_option maxRecDepth 20000 in
theorem ggL_statesAway_X3_statesAway : GoodIn wsL_statesAway wsX3_statesAway := goodIn_ca (goodIn_r _ [6, 7, 8, 5, 9, 10, 11, 12, 13, 14, 15, 16, 17, 18, 19, 20, 21, 22, 23, 24, 25, 26, 27, 28, 29, 30, 31, 32, 33, 34, 35, 36, 37, 38, 39, 40, 41, 42, 43, 44, 45, 46, 47, 48, 49, 50, 51, 52, 53, 54, 55, 56, 57, 58, 59, 60, 61, 62, 63, 64, 65, 66, 67, 68, 69, 70, 71, 72, 73, 74, 75, 76, 77, 78, 79, 80, 81, 82, 83, 84, 85, 86, 87, 88, 89, 90, 91, 92, 93, 94, 95, 96, 97, 98, 99, 100, 101, 102, 103, 104, 105, 106, 107, 108, 109, 110, 111, 112, 113, 114, 115, 116] (by decide +kernel) (by decide +kernel)) (goodIn_sub (fun _ h => List.mem_cons_of_mem _ (List.mem_append_right _ h)) (by decide +kernel))
set_option maxRecDepth 20000 in
theorem gL_statesAway_X3_statesAway : GoodIn wsL_statesAway (wsV RL 58 RX3 yX3_statesAway wsX3_statesAway) := goodIn_app (goodIn_of _ (by decide +kernel)) ggL_statesAway_X3_statesAway
theorem dL_statesAway_0 : decode cL_statesAway 0 = .ok (.aload_n 2, 1) := by decide +kernel
theorem dL_statesAway_1 : decode cL_statesAway 1 = .ok (.iconst 0, 1) := by decide +kernel
theorem dL_statesAway_2 : decode cL_statesAway 2 = .ok (.aload_n 0, 1) := by decide +kernel
theorem dL_statesAway_3 : decode cL_statesAway 3 = .ok (.iload_n 1, 1) := by decide +kernel
theorem dL_statesAway_4 : decode cL_statesAway 4 = .ok (.invokevirtual 58, 3) := by decide +kernel
theorem dL_statesAway_7 : decode cL_statesAway 7 = .ok (.i2l, 1) := by decide +kernel
theorem dL_statesAway_8 : decode cL_statesAway 8 = .ok (.lastore, 1) := by decide +kernel
theorem dL_statesAway_9 : decode cL_statesAway 9 = .ok (.goto 6, 3) := by decide +kernel
theorem dL_statesAway_12 : decode cL_statesAway 12 = .ok (.astore_n 3, 1) := by decide +kernel
theorem dL_statesAway_13 : decode cL_statesAway 13 = .ok (.iconst 1, 1) := by decide +kernel
theorem dL_statesAway_14 : decode cL_statesAway 14 = .ok (.ireturn, 1) := by decide +kernel
theorem dL_statesAway_15 : decode cL_statesAway 15 = .ok (.iconst 0, 1) := by decide +kernel
theorem dL_statesAway_16 : decode cL_statesAway 16 = .ok (.ireturn, 1) := by decide +kernel
set_option maxRecDepth 20000 in
theorem ggL_mayBe_X3_mayBe : GoodIn wsL_mayBe wsX3_mayBe := goodIn_ca (goodIn_ca (goodIn_r _ [7, 8, 9, 10, 11, 6, 12, 13, 14, 15, 16, 17, 18, 19, 20, 21, 22, 23, 24, 25, 26, 27, 28, 29, 30, 31, 32, 33, 34, 35, 36, 37, 38, 39, 40, 41, 42, 43, 44, 45, 46, 47, 48, 49, 50, 51, 52, 53, 54, 55, 56, 57, 58, 59, 60, 61, 62, 63, 64, 65, 66, 67, 68, 69, 70, 71, 72, 73, 74, 75, 76, 77, 78, 79, 80, 81] (by decide +kernel) (by decide +kernel)) (goodIn_sub (fun _ h => List.mem_cons_of_mem _ (List.mem_append_left _ (List.mem_append_right _ h))) (by decide +kernel))) (goodIn_sub (fun _ h => List.mem_cons_of_mem _ (List.mem_append_right _ h)) (by decide +kernel))
set_option maxRecDepth 20000 in
theorem gL_mayBe_X3_mayBe : GoodIn wsL_mayBe (wsV RL 61 RX3 yX3_mayBe wsX3_mayBe) := goodIn_app (goodIn_of _ (by decide +kernel)) ggL_mayBe_X3_mayBe
theorem dL_mayBe_0 : decode cL_mayBe 0 = .ok (.aload_n 3, 1) := by decide +kernel
theorem dL_mayBe_1 : decode cL_mayBe 1 = .ok (.iconst 0, 1) := by decide +kernel
theorem dL_mayBe_2 : decode cL_mayBe 2 = .ok (.aload_n 0, 1) := by decide +kernel
theorem dL_mayBe_3 : decode cL_mayBe 3 = .ok (.iload_n 1, 1) := by decide +kernel
theorem dL_mayBe_4 : decode cL_mayBe 4 = .ok (.iload_n 2, 1) := by decide +kernel
theorem dL_mayBe_5 : decode cL_mayBe 5 = .ok (.invokevirtual 61, 3) := by decide +kernel
theorem dL_mayBe_8 : decode cL_mayBe 8 = .ok (.ifCond .eq 7, 3) := by decide +kernel
theorem dL_mayBe_11 : decode cL_mayBe 11 = .ok (.lconst 1, 1) := by decide +kernel
theorem dL_mayBe_12 : decode cL_mayBe 12 = .ok (.goto 4, 3) := by decide +kernel
theorem dL_mayBe_15 : decode cL_mayBe 15 = .ok (.lconst 0, 1) := by decide +kernel
theorem dL_mayBe_16 : decode cL_mayBe 16 = .ok (.lastore, 1) := by decide +kernel
theorem dL_mayBe_17 : decode cL_mayBe 17 = .ok (.goto 11, 3) := by decide +kernel
theorem dL_mayBe_20 : decode cL_mayBe 20 = .ok (.astore 4, 2) := by decide +kernel
theorem dL_mayBe_22 : decode cL_mayBe 22 = .ok (.iconst 1, 1) := by decide +kernel
theorem dL_mayBe_23 : decode cL_mayBe 23 = .ok (.ireturn, 1) := by decide +kernel
theorem dL_mayBe_24 : decode cL_mayBe 24 = .ok (.astore 4, 2) := by decide +kernel
theorem dL_mayBe_26 : decode cL_mayBe 26 = .ok (.iconst 2, 1) := by decide +kernel
theorem dL_mayBe_27 : decode cL_mayBe 27 = .ok (.ireturn, 1) := by decide +kernel
theorem dL_mayBe_28 : decode cL_mayBe 28 = .ok (.iconst 0, 1) := by decide +kernel
theorem dL_mayBe_29 : decode cL_mayBe 29 = .ok (.ireturn, 1) := by decide +kernel
set_option maxRecDepth 20000 in
theorem ggL_isKnown_X3_isKnown : GoodIn wsL_isKnown wsX3_isKnown := goodIn_ca (goodIn_r _ [6, 7, 8, 9, 10, 5, 11, 12, 13, 14, 15, 16, 17, 18, 19, 20, 21, 22, 23, 24, 25, 26, 27, 28, 29, 30, 31, 32, 33, 34, 35, 36, 37, 38, 39, 40, 41, 42, 43, 44, 45, 46, 47, 48, 49, 50, 51, 52, 53, 54, 55, 56, 57, 58, 59, 60, 61, 62, 63, 64, 65, 66, 67, 68, 69, 70, 71, 72, 73, 74, 75, 76, 77, 78, 79] (by decide +kernel) (by decide +kernel)) (goodIn_sub (fun _ h => List.mem_cons_of_mem _ (List.mem_append_right _ h)) (by decide +kernel))
set_option maxRecDepth 20000 in
theorem gL_isKnown_X3_isKnown : GoodIn wsL_isKnown (wsV RL 65 RX3 yX3_isKnown wsX3_isKnown) := goodIn_app (goodIn_of _ (by decide +kernel)) ggL_isKnown_X3_isKnown
theorem dL_isKnown_0 : decode cL_isKnown 0 = .ok (.aload_n 2, 1) := by decide +kernel
theorem dL_isKnown_1 : decode cL_isKnown 1 = .ok (.iconst 0, 1) := by decide +kernel
theorem dL_isKnown_2 : decode cL_isKnown 2 = .ok (.aload_n 0, 1) := by decide +kernel
theorem dL_isKnown_3 : decode cL_isKnown 3 = .ok (.iload_n 1, 1) := by decide +kernel
theorem dL_isKnown_4 : decode cL_isKnown 4 = .ok (.invokevirtual 65, 3) := by decide +kernel
theorem dL_isKnown_7 : decode cL_isKnown 7 = .ok (.ifCond .eq 7, 3) := by decide +kernel
theorem dL_isKnown_10 : decode cL_isKnown 10 = .ok (.lconst 1, 1) := by decide +kernel
theorem dL_isKnown_11 : decode cL_isKnown 11 = .ok (.goto 4, 3) := by decide +kernel
theorem dL_isKnown_14 : decode cL_isKnown 14 = .ok (.lconst 0, 1) := by decide +kernel
theorem dL_isKnown_15 : decode cL_isKnown 15 = .ok (.lastore, 1) := by decide +kernel
theorem dL_isKnown_16 : decode cL_isKnown 16 = .ok (.goto 6, 3) := by decide +kernel
theorem dL_isKnown_19 : decode cL_isKnown 19 = .ok (.astore_n 3, 1) := by decide +kernel
theorem dL_isKnown_20 : decode cL_isKnown 20 = .ok (.iconst 1, 1) := by decide +kernel
theorem dL_isKnown_21 : decode cL_isKnown 21 = .ok (.ireturn, 1) := by decide +kernel
theorem dL_isKnown_22 : decode cL_isKnown 22 = .ok (.iconst 0, 1) := by decide +kernel
theorem dL_isKnown_23 : decode cL_isKnown 23 = .ok (.ireturn, 1) := by decide +kernel
set_option maxRecDepth 20000 in
theorem ggL_guess_X3_guess : GoodIn wsL_guess wsX3_guess := goodIn_ca (goodIn_ca (goodIn_ca (goodIn_r _ [8, 9, 10, 11, 12, 13, 14, 15, 16, 17, 7, 18, 19, 20, 21, 22, 23, 24, 25, 26, 27, 28, 29, 30, 31, 32, 33, 34, 35, 36, 37, 38, 39, 40, 41, 42, 43, 44, 45, 46, 47, 48, 49, 50, 51, 52, 53, 54, 55, 56, 57, 58, 59, 60, 61, 62, 63, 64, 65, 66, 67, 68, 69, 70, 71, 72, 73, 74, 75, 76, 77, 78, 79, 80, 81, 82, 83, 84, 85, 86, 87, 88, 89, 90, 91, 92, 93, 94, 95, 96] (by decide +kernel) (by decide +kernel)) (goodIn_sub (fun _ h => List.mem_cons_of_mem _ (List.mem_append_left _ (List.mem_append_left _ (List.mem_append_right _ h)))) (by decide +kernel))) (goodIn_sub (fun _ h => List.mem_cons_of_mem _ (List.mem_append_left _ (List.mem_append_right _ h))) (by decide +kernel))) (goodIn_sub (fun _ h => List.mem_cons_of_mem _ (List.mem_append_right _ h)) (by decide +kernel))
set_option maxRecDepth 20000 in
theorem gL_guess_X3_guess : GoodIn wsL_guess (wsV RL 68 RX3 yX3_guess wsX3_guess) := goodIn_app (goodIn_of _ (by decide +kernel)) ggL_guess_X3_guess
theorem dL_guess_0 : decode cL_guess 0 = .ok (.aload_n 3, 1) := by decide +kernel
theorem dL_guess_1 : decode cL_guess 1 = .ok (.iconst 0, 1) := by decide +kernel
theorem dL_guess_2 : decode cL_guess 2 = .ok (.aload_n 0, 1) := by decide +kernel
theorem dL_guess_3 : decode cL_guess 3 = .ok (.iload_n 1, 1) := by decide +kernel
theorem dL_guess_4 : decode cL_guess 4 = .ok (.iload_n 2, 1) := by decide +kernel
theorem dL_guess_5 : decode cL_guess 5 = .ok (.invokevirtual 68, 3) := by decide +kernel
theorem dL_guess_8 : decode cL_guess 8 = .ok (.ifCond .eq 7, 3) := by decide +kernel
theorem dL_guess_11 : decode cL_guess 11 = .ok (.lconst 1, 1) := by decide +kernel
theorem dL_guess_12 : decode cL_guess 12 = .ok (.goto 4, 3) := by decide +kernel
theorem dL_guess_15 : decode cL_guess 15 = .ok (.lconst 0, 1) := by decide +kernel
theorem dL_guess_16 : decode cL_guess 16 = .ok (.lastore, 1) := by decide +kernel
theorem dL_guess_17 : decode cL_guess 17 = .ok (.goto 15, 3) := by decide +kernel
theorem dL_guess_20 : decode cL_guess 20 = .ok (.astore 4, 2) := by decide +kernel
theorem dL_guess_22 : decode cL_guess 22 = .ok (.iconst 1, 1) := by decide +kernel
theorem dL_guess_23 : decode cL_guess 23 = .ok (.ireturn, 1) := by decide +kernel
theorem dL_guess_24 : decode cL_guess 24 = .ok (.astore 4, 2) := by decide +kernel
theorem dL_guess_26 : decode cL_guess 26 = .ok (.iconst 2, 1) := by decide +kernel
theorem dL_guess_27 : decode cL_guess 27 = .ok (.ireturn, 1) := by decide +kernel
theorem dL_guess_28 : decode cL_guess 28 = .ok (.astore 4, 2) := by decide +kernel
theorem dL_guess_30 : decode cL_guess 30 = .ok (.iconst 3, 1) := by decide +kernel
theorem dL_guess_31 : decode cL_guess 31 = .ok (.ireturn, 1) := by decide +kernel
theorem dL_guess_32 : decode cL_guess 32 = .ok (.iconst 0, 1) := by decide +kernel
theorem dL_guess_33 : decode cL_guess 33 = .ok (.ireturn, 1) := by decide +kernel
set_option maxRecDepth 20000 in
theorem ggL_leftAtMost_X3_leftAtMost : GoodIn wsL_leftAtMost wsX3_leftAtMost := goodIn_ca (goodIn_ca (goodIn_r _ [7, 8, 9, 10, 11, 6, 12, 13, 14, 15, 16, 17, 18, 19, 20, 21, 22, 23, 24, 25, 26, 27, 28, 29, 30, 31, 32, 33, 34, 35, 36, 37, 38, 39, 40, 41, 42, 43, 44, 45, 46, 47, 48, 49, 50, 51, 52, 53, 54, 55, 56, 57, 58, 59, 60, 61, 62, 63, 64, 65, 66, 67, 68, 69, 70, 71, 72, 73, 74, 75, 76, 77, 78, 79, 80, 81, 82, 83, 84, 85, 86, 87, 88, 89, 90, 91, 92, 93, 94, 95, 96, 97, 98, 99, 100, 101, 102, 103, 104, 105, 106, 107, 108, 109, 110, 111, 112, 113, 114, 115, 116, 117, 118] (by decide +kernel) (by decide +kernel)) (goodIn_sub (fun _ h => List.mem_cons_of_mem _ (List.mem_append_left _ (List.mem_append_right _ h))) (by decide +kernel))) (goodIn_sub (fun _ h => List.mem_cons_of_mem _ (List.mem_append_right _ h)) (by decide +kernel))
set_option maxRecDepth 20000 in
theorem gL_leftAtMost_X3_leftAtMost : GoodIn wsL_leftAtMost (wsV RL 71 RX3 yX3_leftAtMost wsX3_leftAtMost) := goodIn_app (goodIn_of _ (by decide +kernel)) ggL_leftAtMost_X3_leftAtMost
theorem dL_leftAtMost_0 : decode cL_leftAtMost 0 = .ok (.aload_n 3, 1) := by decide +kernel
theorem dL_leftAtMost_1 : decode cL_leftAtMost 1 = .ok (.iconst 0, 1) := by decide +kernel
theorem dL_leftAtMost_2 : decode cL_leftAtMost 2 = .ok (.aload_n 0, 1) := by decide +kernel
theorem dL_leftAtMost_3 : decode cL_leftAtMost 3 = .ok (.iload_n 1, 1) := by decide +kernel
theorem dL_leftAtMost_4 : decode cL_leftAtMost 4 = .ok (.iload_n 2, 1) := by decide +kernel
theorem dL_leftAtMost_5 : decode cL_leftAtMost 5 = .ok (.invokevirtual 71, 3) := by decide +kernel
theorem dL_leftAtMost_8 : decode cL_leftAtMost 8 = .ok (.i2l, 1) := by decide +kernel
theorem dL_leftAtMost_9 : decode cL_leftAtMost 9 = .ok (.lastore, 1) := by decide +kernel
theorem dL_leftAtMost_10 : decode cL_leftAtMost 10 = .ok (.goto 11, 3) := by decide +kernel
theorem dL_leftAtMost_13 : decode cL_leftAtMost 13 = .ok (.astore 4, 2) := by decide +kernel
theorem dL_leftAtMost_15 : decode cL_leftAtMost 15 = .ok (.iconst 1, 1) := by decide +kernel
theorem dL_leftAtMost_16 : decode cL_leftAtMost 16 = .ok (.ireturn, 1) := by decide +kernel
theorem dL_leftAtMost_17 : decode cL_leftAtMost 17 = .ok (.astore 4, 2) := by decide +kernel
theorem dL_leftAtMost_19 : decode cL_leftAtMost 19 = .ok (.iconst 2, 1) := by decide +kernel
theorem dL_leftAtMost_20 : decode cL_leftAtMost 20 = .ok (.ireturn, 1) := by decide +kernel
theorem dL_leftAtMost_21 : decode cL_leftAtMost 21 = .ok (.iconst 0, 1) := by decide +kernel
theorem dL_leftAtMost_22 : decode cL_leftAtMost 22 = .ok (.ireturn, 1) := by decide +kernel
