set_option maxRecDepth 20000 in
theorem ggX3_init_X1_init : GoodIn wsX3_init wsX1_init := goodIn_r _ [17, 18, 2, 3, 19, 20, 21, 71, 72] (by decide +kernel) (by decide +kernel)
set_option maxRecDepth 20000 in
theorem gX3_init_X1_init_n9 : GoodIn wsX3_init (wsX1_init) := ggX3_init_X1_init
set_option maxRecDepth 20000 in
theorem ggX3_init_X2_init : GoodIn wsX3_init wsX2_init := goodIn_r _ [23, 24, 2, 3, 25, 5, 6, 26, 19, 27, 28, 29, 16, 17, 18, 20, 21, 71, 72, 82, 83, 84, 85, 86] (by decide +kernel) (by decide +kernel)
set_option maxRecDepth 20000 in
theorem gX3_init_X2_init_n18 : GoodIn wsX3_init (wsX2_init) := ggX3_init_X2_init
set_option maxRecDepth 20000 in
theorem ggX3_init_X0_init : GoodIn wsX3_init wsX0_init := goodIn_r _ [31, 32, 2, 3, 33, 5, 6, 34, 19, 35, 36, 16, 17, 18, 20, 21, 71, 72, 87, 88, 89, 90, 91] (by decide +kernel) (by decide +kernel)
set_option maxRecDepth 20000 in
theorem gX3_init_X0_init_n25 : GoodIn wsX3_init (wsX0_init) := ggX3_init_X0_init
set_option maxRecDepth 20000 in
theorem ggX3_init_X3_begin : GoodIn wsX3_init wsX3_begin := goodIn_r _ [41, 7, 11, 15, 42, 43, 44, 45, 46, 47, 48, 49, 50, 6, 51, 20, 21, 52, 53, 54, 55, 56, 57, 58, 10, 59, 60, 61, 62, 63, 64, 65, 66, 67, 14, 68, 69, 70, 35, 73, 74, 75, 76, 77, 78, 79, 80, 81, 71, 72, 82, 83, 84, 85, 86, 87, 88, 89, 90, 91] (by decide +kernel) (by decide +kernel)
set_option maxRecDepth 20000 in
theorem gX3_init_X3_begin : GoodIn wsX3_init (wsV RX3 30 RX3 yX3_begin wsX3_begin) := goodIn_app (goodIn_of _ (by decide +kernel)) ggX3_init_X3_begin
theorem dX3_init_0 : decode cX3_init 0 = .ok (.aload_n 0, 1) := by decide +kernel
theorem dX3_init_1 : decode cX3_init 1 = .ok (.invokespecial 1, 3) := by decide +kernel
theorem dX3_init_4 : decode cX3_init 4 = .ok (.aload_n 0, 1) := by decide +kernel
theorem dX3_init_5 : decode cX3_init 5 = .ok (.new 7, 3) := by decide +kernel
theorem dX3_init_8 : decode cX3_init 8 = .ok (.dup, 1) := by decide +kernel
theorem dX3_init_9 : decode cX3_init 9 = .ok (.invokespecial 9, 3) := by decide +kernel
theorem dX3_init_12 : decode cX3_init 12 = .ok (.putfield 10, 3) := by decide +kernel
theorem dX3_init_15 : decode cX3_init 15 = .ok (.aload_n 0, 1) := by decide +kernel
theorem dX3_init_16 : decode cX3_init 16 = .ok (.new 16, 3) := by decide +kernel
theorem dX3_init_19 : decode cX3_init 19 = .ok (.dup, 1) := by decide +kernel
theorem dX3_init_20 : decode cX3_init 20 = .ok (.invokespecial 18, 3) := by decide +kernel
theorem dX3_init_23 : decode cX3_init 23 = .ok (.putfield 19, 3) := by decide +kernel
theorem dX3_init_26 : decode cX3_init 26 = .ok (.aload_n 0, 1) := by decide +kernel
theorem dX3_init_27 : decode cX3_init 27 = .ok (.new 23, 3) := by decide +kernel
theorem dX3_init_30 : decode cX3_init 30 = .ok (.dup, 1) := by decide +kernel
theorem dX3_init_31 : decode cX3_init 31 = .ok (.invokespecial 25, 3) := by decide +kernel
theorem dX3_init_34 : decode cX3_init 34 = .ok (.putfield 26, 3) := by decide +kernel
theorem dX3_init_37 : decode cX3_init 37 = .ok (.aload_n 0, 1) := by decide +kernel
theorem dX3_init_38 : decode cX3_init 38 = .ok (.iconst 1, 1) := by decide +kernel
theorem dX3_init_39 : decode cX3_init 39 = .ok (.iconst 1, 1) := by decide +kernel
theorem dX3_init_40 : decode cX3_init 40 = .ok (.iconst 0, 1) := by decide +kernel
theorem dX3_init_41 : decode cX3_init 41 = .ok (.invokevirtual 30, 3) := by decide +kernel
theorem dX3_init_44 : decode cX3_init 44 = .ok (.return_, 1) := by decide +kernel
set_option maxRecDepth 20000 in
theorem ggX3_layOut_X3_isVolume : GoodIn wsX3_layOut wsX3_isVolume := goodIn_r _ [7] (by decide +kernel) (by decide +kernel)
set_option maxRecDepth 20000 in
theorem gX3_layOut_X3_isVolume : GoodIn wsX3_layOut (va_wsS RX3 34 yX3_isVolume wsX3_isVolume) := goodIn_app (goodIn_of _ (by decide +kernel)) ggX3_layOut_X3_isVolume
set_option maxRecDepth 20000 in
theorem ggX3_layOut_X3_begin : GoodIn wsX3_layOut wsX3_begin := goodIn_r _ [11, 3, 12, 13, 14, 15, 16, 17, 18, 19, 20, 21, 22, 23, 24, 25, 26, 27, 28, 29, 30, 31, 32, 33, 34, 35, 36, 37, 38, 39, 40, 41, 42, 43, 44, 45, 46, 47, 48, 49, 50, 51, 52, 53, 54, 55, 56, 57, 58, 59, 60, 61, 62, 63, 64, 65, 66, 67, 68, 69] (by decide +kernel) (by decide +kernel)
set_option maxRecDepth 20000 in
theorem gX3_layOut_X3_begin : GoodIn wsX3_layOut (wsV RX3 30 RX3 yX3_begin wsX3_begin) := goodIn_app (goodIn_of _ (by decide +kernel)) ggX3_layOut_X3_begin
set_option maxRecDepth 20000 in
theorem ggX3_layOut_X1_count : GoodIn wsX3_layOut wsX1_count := goodIn_r _ [40, 25, 58, 59] (by decide +kernel) (by decide +kernel)
set_option maxRecDepth 20000 in
theorem gX3_layOut_X1_count : GoodIn wsX3_layOut (wsV RX3 45 RX1 yX1_count wsX1_count) := goodIn_app (goodIn_of _ (by decide +kernel)) ggX3_layOut_X1_count
theorem dX3_layOut_0 : decode cX3_layOut 0 = .ok (.iload_n 1, 1) := by decide +kernel
theorem dX3_layOut_1 : decode cX3_layOut 1 = .ok (.invokestatic 34, 3) := by decide +kernel
theorem dX3_layOut_4 : decode cX3_layOut 4 = .ok (.ifCond .eq 21, 3) := by decide +kernel
theorem dX3_layOut_7 : decode cX3_layOut 7 = .ok (.iload_n 2, 1) := by decide +kernel
theorem dX3_layOut_8 : decode cX3_layOut 8 = .ok (.invokestatic 34, 3) := by decide +kernel
theorem dX3_layOut_11 : decode cX3_layOut 11 = .ok (.ifCond .eq 14, 3) := by decide +kernel
theorem dX3_layOut_14 : decode cX3_layOut 14 = .ok (.iload_n 3, 1) := by decide +kernel
theorem dX3_layOut_15 : decode cX3_layOut 15 = .ok (.ifCond .eq 20, 3) := by decide +kernel
theorem dX3_layOut_18 : decode cX3_layOut 18 = .ok (.iload_n 3, 1) := by decide +kernel
theorem dX3_layOut_19 : decode cX3_layOut 19 = .ok (.invokestatic 34, 3) := by decide +kernel
theorem dX3_layOut_22 : decode cX3_layOut 22 = .ok (.ifCond .ne 13, 3) := by decide +kernel
theorem dX3_layOut_25 : decode cX3_layOut 25 = .ok (.new 38, 3) := by decide +kernel
theorem dX3_layOut_28 : decode cX3_layOut 28 = .ok (.dup, 1) := by decide +kernel
theorem dX3_layOut_29 : decode cX3_layOut 29 = .ok (.ldc 40, 2) := by decide +kernel
theorem dX3_layOut_31 : decode cX3_layOut 31 = .ok (.invokespecial 42, 3) := by decide +kernel
theorem dX3_layOut_34 : decode cX3_layOut 34 = .ok (.athrow, 1) := by decide +kernel
theorem dX3_layOut_35 : decode cX3_layOut 35 = .ok (.aload_n 0, 1) := by decide +kernel
theorem dX3_layOut_36 : decode cX3_layOut 36 = .ok (.iload_n 1, 1) := by decide +kernel
theorem dX3_layOut_37 : decode cX3_layOut 37 = .ok (.iload_n 2, 1) := by decide +kernel
theorem dX3_layOut_38 : decode cX3_layOut 38 = .ok (.iload_n 3, 1) := by decide +kernel
theorem dX3_layOut_39 : decode cX3_layOut 39 = .ok (.invokevirtual 30, 3) := by decide +kernel
theorem dX3_layOut_42 : decode cX3_layOut 42 = .ok (.aload_n 0, 1) := by decide +kernel
theorem dX3_layOut_43 : decode cX3_layOut 43 = .ok (.getfield 10, 3) := by decide +kernel
theorem dX3_layOut_46 : decode cX3_layOut 46 = .ok (.invokevirtual 45, 3) := by decide +kernel
theorem dX3_layOut_49 : decode cX3_layOut 49 = .ok (.ireturn, 1) := by decide +kernel
set_option maxRecDepth 20000 in
theorem ggX3_fill_X3_checkJar : GoodIn wsX3_fill wsX3_checkJar := goodIn_ca (goodIn_r _ [5, 6, 7, 8, 9, 10, 11, 12, 13, 14, 109, 110, 111, 112, 113, 114, 115, 116, 117, 118, 119] (by decide +kernel) (by decide +kernel)) (goodIn_sub (fun _ h => List.mem_cons_of_mem _ (List.mem_append_right _ h)) (by decide +kernel))
set_option maxRecDepth 20000 in
theorem gX3_fill_X3_checkJar : GoodIn wsX3_fill (wsV RX3 49 RX3 yX3_checkJar wsX3_checkJar) := goodIn_app (goodIn_of _ (by decide +kernel)) ggX3_fill_X3_checkJar
set_option maxRecDepth 20000 in
theorem ggX3_fill_X3_doAct : GoodIn wsX3_fill wsX3_doAct := goodIn_r _ [18, 8, 19, 20, 21, 22, 23, 24, 25, 26, 27, 12, 28, 29, 30, 31, 32, 33, 34, 35, 36, 14, 37, 38, 39, 40, 41, 42, 43, 44, 45, 46, 47, 48, 49, 50, 51, 52, 53, 54, 55, 56, 57, 58, 59, 60, 4, 61, 62, 63, 64, 65, 66, 67, 68, 69, 70, 71, 72, 73, 74, 75, 76, 77, 78, 79, 80, 81, 82, 83, 84, 85, 86, 87, 88, 89, 90, 91, 92, 93, 94, 95, 96, 97, 98, 99, 100, 101, 102, 103, 104, 105, 106, 107, 108, 109, 110, 111, 112, 113, 114, 115, 116, 117, 118, 119, 120, 121, 122, 123, 124, 125, 126, 127, 128, 129] (by decide +kernel) (by decide +kernel)
set_option maxRecDepth 20000 in
theorem gX3_fill_X3_doAct : GoodIn wsX3_fill (wsV RX3 53 RX3 yX3_doAct wsX3_doAct) := goodIn_app (goodIn_of _ (by decide +kernel)) ggX3_fill_X3_doAct
theorem dX3_fill_0 : decode cX3_fill 0 = .ok (.aload_n 0, 1) := by decide +kernel
theorem dX3_fill_1 : decode cX3_fill 1 = .ok (.iload_n 1, 1) := by decide +kernel
theorem dX3_fill_2 : decode cX3_fill 2 = .ok (.invokevirtual 49, 3) := by decide +kernel
theorem dX3_fill_5 : decode cX3_fill 5 = .ok (.aload_n 0, 1) := by decide +kernel
theorem dX3_fill_6 : decode cX3_fill 6 = .ok (.iload_n 1, 1) := by decide +kernel
theorem dX3_fill_7 : decode cX3_fill 7 = .ok (.invokevirtual 53, 3) := by decide +kernel
theorem dX3_fill_10 : decode cX3_fill 10 = .ok (.ireturn, 1) := by decide +kernel
set_option maxRecDepth 20000 in
theorem ggX3_empty_X3_checkJar : GoodIn wsX3_empty wsX3_checkJar := goodIn_ca (goodIn_r _ [5, 6, 7, 8, 9, 10, 11, 12, 13, 14, 109, 110, 111, 112, 113, 114, 115, 116, 117, 118, 119] (by decide +kernel) (by decide +kernel)) (goodIn_sub (fun _ h => List.mem_cons_of_mem _ (List.mem_append_right _ h)) (by decide +kernel))
set_option maxRecDepth 20000 in
theorem gX3_empty_X3_checkJar : GoodIn wsX3_empty (wsV RX3 49 RX3 yX3_checkJar wsX3_checkJar) := goodIn_app (goodIn_of _ (by decide +kernel)) ggX3_empty_X3_checkJar
set_option maxRecDepth 20000 in
theorem ggX3_empty_X3_doAct : GoodIn wsX3_empty wsX3_doAct := goodIn_r _ [18, 8, 19, 20, 21, 22, 23, 24, 25, 26, 27, 12, 28, 29, 30, 31, 32, 33, 34, 35, 36, 14, 37, 38, 39, 40, 41, 42, 43, 44, 45, 46, 47, 48, 49, 50, 51, 52, 53, 54, 55, 56, 57, 58, 59, 60, 4, 61, 62, 63, 64, 65, 66, 67, 68, 69, 70, 71, 72, 73, 74, 75, 76, 77, 78, 79, 80, 81, 82, 83, 84, 85, 86, 87, 88, 89, 90, 91, 92, 93, 94, 95, 96, 97, 98, 99, 100, 101, 102, 103, 104, 105, 106, 107, 108, 109, 110, 111, 112, 113, 114, 115, 116, 117, 118, 119, 120, 121, 122, 123, 124, 125, 126, 127, 128, 129] (by decide +kernel) (by decide +kernel)
set_option maxRecDepth 20000 in
theorem gX3_empty_X3_doAct : GoodIn wsX3_empty (wsV RX3 53 RX3 yX3_doAct wsX3_doAct) := goodIn_app (goodIn_of _ (by decide +kernel)) ggX3_empty_X3_doAct
theorem dX3_empty_0 : decode cX3_empty 0 = .ok (.aload_n 0, 1) := by decide +kernel
theorem dX3_empty_1 : decode cX3_empty 1 = .ok (.iload_n 1, 1) := by decide +kernel
theorem dX3_empty_2 : decode cX3_empty 2 = .ok (.invokevirtual 49, 3) := by decide +kernel
theorem dX3_empty_5 : decode cX3_empty 5 = .ok (.aload_n 0, 1) := by decide +kernel
theorem dX3_empty_6 : decode cX3_empty 6 = .ok (.iconst 3, 1) := by decide +kernel
theorem dX3_empty_7 : decode cX3_empty 7 = .ok (.iload_n 1, 1) := by decide +kernel
theorem dX3_empty_8 : decode cX3_empty 8 = .ok (.iadd, 1) := by decide +kernel
theorem dX3_empty_9 : decode cX3_empty 9 = .ok (.invokevirtual 53, 3) := by decide +kernel
theorem dX3_empty_12 : decode cX3_empty 12 = .ok (.ireturn, 1) := by decide +kernel
set_option maxRecDepth 20000 in
theorem ggX3_pour_X3_checkPour : GoodIn wsX3_pour wsX3_checkPour := goodIn_ca (goodIn_ca (goodIn_r _ [5, 6, 7, 8, 9, 10, 4, 11, 12, 13, 14, 15, 16, 17, 18, 19, 20, 118, 119, 120, 121, 122, 123, 124, 125, 126, 127, 128] (by decide +kernel) (by decide +kernel)) (goodIn_sub (fun _ h => List.mem_cons_of_mem _ (List.mem_append_left _ (List.mem_append_right _ h))) (by decide +kernel))) (goodIn_sub (fun _ h => List.mem_cons_of_mem _ (List.mem_append_right _ h)) (by decide +kernel))
set_option maxRecDepth 20000 in
theorem gX3_pour_X3_checkPour : GoodIn wsX3_pour (wsV RX3 57 RX3 yX3_checkPour wsX3_checkPour) := goodIn_app (goodIn_of _ (by decide +kernel)) ggX3_pour_X3_checkPour
set_option maxRecDepth 20000 in
theorem ggX3_pour_X3_pourNumber : GoodIn wsX3_pour wsX3_pourNumber := goodIn_r _ [23] (by decide +kernel) (by decide +kernel)
set_option maxRecDepth 20000 in
theorem gX3_pour_X3_pourNumber : GoodIn wsX3_pour (va_wsS RX3 61 yX3_pourNumber wsX3_pourNumber) := goodIn_app (goodIn_of _ (by decide +kernel)) ggX3_pour_X3_pourNumber
set_option maxRecDepth 20000 in
theorem ggX3_pour_X3_doAct : GoodIn wsX3_pour wsX3_doAct := goodIn_r _ [27, 14, 28, 29, 30, 31, 32, 33, 34, 35, 36, 18, 37, 38, 39, 40, 41, 42, 43, 44, 45, 20, 46, 47, 48, 49, 50, 51, 52, 53, 54, 55, 56, 57, 58, 59, 60, 61, 62, 63, 64, 65, 66, 67, 68, 69, 4, 70, 71, 72, 73, 74, 75, 76, 77, 78, 79, 80, 81, 82, 83, 84, 85, 86, 87, 88, 89, 90, 91, 92, 93, 94, 95, 96, 97, 98, 99, 100, 101, 102, 103, 104, 105, 106, 107, 108, 109, 110, 111, 112, 113, 114, 115, 116, 117, 118, 119, 120, 121, 122, 123, 124, 125, 126, 127, 128, 129, 130, 131, 132, 133, 134, 135, 136, 137, 138] (by decide +kernel) (by decide +kernel)
set_option maxRecDepth 20000 in
theorem gX3_pour_X3_doAct : GoodIn wsX3_pour (wsV RX3 53 RX3 yX3_doAct wsX3_doAct) := goodIn_app (goodIn_of _ (by decide +kernel)) ggX3_pour_X3_doAct
theorem dX3_pour_0 : decode cX3_pour 0 = .ok (.aload_n 0, 1) := by decide +kernel
theorem dX3_pour_1 : decode cX3_pour 1 = .ok (.iload_n 1, 1) := by decide +kernel
theorem dX3_pour_2 : decode cX3_pour 2 = .ok (.iload_n 2, 1) := by decide +kernel
theorem dX3_pour_3 : decode cX3_pour 3 = .ok (.invokevirtual 57, 3) := by decide +kernel
theorem dX3_pour_6 : decode cX3_pour 6 = .ok (.aload_n 0, 1) := by decide +kernel
theorem dX3_pour_7 : decode cX3_pour 7 = .ok (.iload_n 1, 1) := by decide +kernel
theorem dX3_pour_8 : decode cX3_pour 8 = .ok (.iload_n 2, 1) := by decide +kernel
theorem dX3_pour_9 : decode cX3_pour 9 = .ok (.invokestatic 61, 3) := by decide +kernel
theorem dX3_pour_12 : decode cX3_pour 12 = .ok (.invokevirtual 53, 3) := by decide +kernel
theorem dX3_pour_15 : decode cX3_pour 15 = .ok (.ireturn, 1) := by decide +kernel
set_option maxRecDepth 20000 in
theorem ggX3_follow_X3_checkAmount : GoodIn wsX3_follow wsX3_checkAmount := goodIn_ca (goodIn_r _ [10, 11, 12] (by decide +kernel) (by decide +kernel)) (goodIn_sub (fun _ h => List.mem_cons_of_mem _ (List.mem_append_right _ h)) (by decide +kernel))
set_option maxRecDepth 20000 in
theorem gX3_follow_X3_checkAmount : GoodIn wsX3_follow (va_wsS RX3 65 yX3_checkAmount wsX3_checkAmount) := goodIn_app (goodIn_of _ (by decide +kernel)) ggX3_follow_X3_checkAmount
set_option maxRecDepth 20000 in
theorem ggX3_follow_X3_checkActs : GoodIn wsX3_follow wsX3_checkActs := goodIn_ca (goodIn_r _ [15, 11, 12] (by decide +kernel) (by decide +kernel)) (goodIn_sub (fun _ h => List.mem_cons_of_mem _ (List.mem_append_right _ h)) (by decide +kernel))
set_option maxRecDepth 20000 in
theorem gX3_follow_X3_checkActs : GoodIn wsX3_follow (va_wsS RX3 68 yX3_checkActs wsX3_checkActs) := goodIn_app (goodIn_of _ (by decide +kernel)) ggX3_follow_X3_checkActs
set_option maxRecDepth 20000 in
theorem ggX3_follow_X3_waysFromHere : GoodIn wsX3_follow wsX3_waysFromHere := goodIn_r _ [19, 20, 21, 22, 23, 24, 25, 26, 27, 28, 29, 30, 31, 32, 33, 34, 35, 36, 37, 38, 39, 40, 41, 42, 43, 44, 45, 46, 47, 48, 49, 50, 51, 52, 53, 54, 55, 56, 57, 58, 59, 60, 61, 62, 63, 64, 65, 66, 67, 68, 69, 70, 71, 72, 73, 74, 75, 76, 77, 78, 79, 80, 81, 82, 83, 84, 4, 5, 6, 85, 86, 87, 88, 89, 90, 91, 92, 93, 94, 95, 96, 97, 176, 177, 178, 179, 180, 181, 182, 183, 184, 185, 186, 187, 188, 189, 190, 191] (by decide +kernel) (by decide +kernel)
set_option maxRecDepth 20000 in
theorem gX3_follow_X3_waysFromHere : GoodIn wsX3_follow (wsV RX3 71 RX3 yX3_waysFromHere wsX3_waysFromHere) := goodIn_app (goodIn_of _ (by decide +kernel)) ggX3_follow_X3_waysFromHere
set_option maxRecDepth 20000 in
theorem ggX3_follow_X2_leastActsTo : GoodIn wsX3_follow wsX2_leastActsTo := goodIn_r _ [101, 102, 103, 104, 25, 105, 27, 29, 56, 57, 58, 59, 55, 76, 77, 78, 37, 79, 44, 106, 107, 108, 109, 110, 111, 112, 113, 39, 86, 87, 88, 89, 64, 65, 66, 67, 28, 185, 186, 187, 188, 189, 190, 191] (by decide +kernel) (by decide +kernel)
set_option maxRecDepth 20000 in
theorem gX3_follow_X2_leastActsTo : GoodIn wsX3_follow (wsV RX3 75 RX2 yX2_leastActsTo wsX2_leastActsTo) := goodIn_app (goodIn_of _ (by decide +kernel)) ggX3_follow_X2_leastActsTo
set_option maxRecDepth 20000 in
theorem ggX3_follow_X2_firstActTo : GoodIn wsX3_follow wsX2_firstActTo := goodIn_r _ [117, 102, 103, 104, 25, 105, 27, 29, 56, 57, 58, 59, 55, 76, 77, 78, 37, 79, 44, 106, 107, 108, 109, 110, 111, 112, 113, 39, 86, 87, 88, 89, 94, 95, 96, 97, 54, 185, 186, 187, 188, 189, 190, 191] (by decide +kernel) (by decide +kernel)
set_option maxRecDepth 20000 in
theorem gX3_follow_X2_firstActTo : GoodIn wsX3_follow (wsV RX3 88 RX2 yX2_firstActTo wsX2_firstActTo) := goodIn_app (goodIn_of _ (by decide +kernel)) ggX3_follow_X2_firstActTo
set_option maxRecDepth 20000 in
theorem ggX3_follow_X3_doAct : GoodIn wsX3_follow wsX3_doAct := goodIn_r _ [121, 21, 122, 123, 124, 125, 20, 126, 127, 81, 82, 37, 83, 84, 4, 5, 6, 85, 35, 36, 38, 39, 86, 87, 88, 89, 44, 90, 91, 92, 93, 128, 129, 130, 25, 131, 27, 132, 133, 134, 135, 136, 137, 138, 139, 140, 9, 141, 142, 143, 144, 145, 146, 147, 148, 149, 150, 151, 152, 153, 154, 155, 156, 157, 158, 159, 160, 161, 162, 41, 42, 43, 45, 31, 32, 33, 163, 77, 78, 79, 164, 165, 166, 47, 48, 49, 167, 168, 169, 170, 171, 172, 173, 174, 175, 176, 177, 178, 179, 180, 181, 182, 183, 184, 190, 191, 185, 186, 187, 188, 189, 192, 193, 194, 195, 196] (by decide +kernel) (by decide +kernel)
set_option maxRecDepth 20000 in
theorem gX3_follow_X3_doAct : GoodIn wsX3_follow (wsV RX3 53 RX3 yX3_doAct wsX3_doAct) := goodIn_app (goodIn_of _ (by decide +kernel)) ggX3_follow_X3_doAct
theorem dX3_follow_0 : decode cX3_follow 0 = .ok (.iload_n 1, 1) := by decide +kernel
theorem dX3_follow_1 : decode cX3_follow 1 = .ok (.invokestatic 65, 3) := by decide +kernel
theorem dX3_follow_4 : decode cX3_follow 4 = .ok (.iload_n 2, 1) := by decide +kernel
theorem dX3_follow_5 : decode cX3_follow 5 = .ok (.iconst 1, 1) := by decide +kernel
theorem dX3_follow_6 : decode cX3_follow 6 = .ok (.invokestatic 68, 3) := by decide +kernel
theorem dX3_follow_9 : decode cX3_follow 9 = .ok (.aload_n 0, 1) := by decide +kernel
theorem dX3_follow_10 : decode cX3_follow 10 = .ok (.invokevirtual 71, 3) := by decide +kernel
theorem dX3_follow_13 : decode cX3_follow 13 = .ok (.iload_n 1, 1) := by decide +kernel
theorem dX3_follow_14 : decode cX3_follow 14 = .ok (.invokevirtual 75, 3) := by decide +kernel
theorem dX3_follow_17 : decode cX3_follow 17 = .ok (.istore_n 3, 1) := by decide +kernel
theorem dX3_follow_18 : decode cX3_follow 18 = .ok (.iload_n 3, 1) := by decide +kernel
theorem dX3_follow_19 : decode cX3_follow 19 = .ok (.iconst (-1), 1) := by decide +kernel
theorem dX3_follow_20 : decode cX3_follow 20 = .ok (.if_icmp .ne 13, 3) := by decide +kernel
theorem dX3_follow_23 : decode cX3_follow 23 = .ok (.new 78, 3) := by decide +kernel
theorem dX3_follow_26 : decode cX3_follow 26 = .ok (.dup, 1) := by decide +kernel
theorem dX3_follow_27 : decode cX3_follow 27 = .ok (.ldc 80, 2) := by decide +kernel
theorem dX3_follow_29 : decode cX3_follow 29 = .ok (.invokespecial 82, 3) := by decide +kernel
theorem dX3_follow_32 : decode cX3_follow 32 = .ok (.athrow, 1) := by decide +kernel
theorem dX3_follow_33 : decode cX3_follow 33 = .ok (.iload_n 3, 1) := by decide +kernel
theorem dX3_follow_34 : decode cX3_follow 34 = .ok (.iload_n 2, 1) := by decide +kernel
theorem dX3_follow_35 : decode cX3_follow 35 = .ok (.invokestatic 83, 3) := by decide +kernel
theorem dX3_follow_38 : decode cX3_follow 38 = .ok (.istore 4, 2) := by decide +kernel
theorem dX3_follow_40 : decode cX3_follow 40 = .ok (.iconst 0, 1) := by decide +kernel
theorem dX3_follow_41 : decode cX3_follow 41 = .ok (.istore 5, 2) := by decide +kernel
theorem dX3_follow_43 : decode cX3_follow 43 = .ok (.iload 5, 2) := by decide +kernel
theorem dX3_follow_45 : decode cX3_follow 45 = .ok (.iload 4, 2) := by decide +kernel
theorem dX3_follow_47 : decode cX3_follow 47 = .ok (.if_icmp .ge 22, 3) := by decide +kernel
theorem dX3_follow_50 : decode cX3_follow 50 = .ok (.aload_n 0, 1) := by decide +kernel
theorem dX3_follow_51 : decode cX3_follow 51 = .ok (.aload_n 0, 1) := by decide +kernel
theorem dX3_follow_52 : decode cX3_follow 52 = .ok (.invokevirtual 71, 3) := by decide +kernel
theorem dX3_follow_55 : decode cX3_follow 55 = .ok (.iload_n 1, 1) := by decide +kernel
theorem dX3_follow_56 : decode cX3_follow 56 = .ok (.invokevirtual 88, 3) := by decide +kernel
theorem dX3_follow_59 : decode cX3_follow 59 = .ok (.invokevirtual 53, 3) := by decide +kernel
theorem dX3_follow_62 : decode cX3_follow 62 = .ok (.pop, 1) := by decide +kernel
theorem dX3_follow_63 : decode cX3_follow 63 = .ok (.iinc 5 1, 3) := by decide +kernel
theorem dX3_follow_66 : decode cX3_follow 66 = .ok (.goto (-23), 3) := by decide +kernel
theorem dX3_follow_69 : decode cX3_follow 69 = .ok (.iload 4, 2) := by decide +kernel
theorem dX3_follow_71 : decode cX3_follow 71 = .ok (.ireturn, 1) := by decide +kernel
set_option maxRecDepth 20000 in
theorem ggX3_jars_X1_count : GoodIn wsX3_jars wsX1_count := goodIn_r _ [6, 7, 17, 18] (by decide +kernel) (by decide +kernel)
set_option maxRecDepth 20000 in
theorem gX3_jars_X1_count : GoodIn wsX3_jars (wsV RX3 45 RX1 yX1_count wsX1_count) := goodIn_app (goodIn_of _ (by decide +kernel)) ggX3_jars_X1_count
theorem dX3_jars_0 : decode cX3_jars 0 = .ok (.aload_n 0, 1) := by decide +kernel
theorem dX3_jars_1 : decode cX3_jars 1 = .ok (.getfield 10, 3) := by decide +kernel
theorem dX3_jars_4 : decode cX3_jars 4 = .ok (.invokevirtual 45, 3) := by decide +kernel
theorem dX3_jars_7 : decode cX3_jars 7 = .ok (.ireturn, 1) := by decide +kernel
set_option maxRecDepth 20000 in
theorem ggX3_volumeOf_X3_checkJar : GoodIn wsX3_volumeOf wsX3_checkJar := goodIn_ca (goodIn_r _ [6, 7, 8, 1, 9, 10, 11, 12, 13, 14, 19, 20, 21, 22, 23, 24, 25, 26, 27, 28, 29] (by decide +kernel) (by decide +kernel)) (goodIn_sub (fun _ h => List.mem_cons_of_mem _ (List.mem_append_right _ h)) (by decide +kernel))
set_option maxRecDepth 20000 in
theorem gX3_volumeOf_X3_checkJar : GoodIn wsX3_volumeOf (wsV RX3 49 RX3 yX3_checkJar wsX3_checkJar) := goodIn_app (goodIn_of _ (by decide +kernel)) ggX3_volumeOf_X3_checkJar
set_option maxRecDepth 20000 in
theorem ggX3_volumeOf_X1_volumeAt : GoodIn wsX3_volumeOf wsX1_volumeAt := goodIn_r _ [18, 14, 28, 29] (by decide +kernel) (by decide +kernel)
set_option maxRecDepth 20000 in
theorem gX3_volumeOf_X1_volumeAt : GoodIn wsX3_volumeOf (wsV RX3 91 RX1 yX1_volumeAt wsX1_volumeAt) := goodIn_app (goodIn_of _ (by decide +kernel)) ggX3_volumeOf_X1_volumeAt
theorem dX3_volumeOf_0 : decode cX3_volumeOf 0 = .ok (.aload_n 0, 1) := by decide +kernel
theorem dX3_volumeOf_1 : decode cX3_volumeOf 1 = .ok (.iload_n 1, 1) := by decide +kernel
theorem dX3_volumeOf_2 : decode cX3_volumeOf 2 = .ok (.invokevirtual 49, 3) := by decide +kernel
theorem dX3_volumeOf_5 : decode cX3_volumeOf 5 = .ok (.aload_n 0, 1) := by decide +kernel
theorem dX3_volumeOf_6 : decode cX3_volumeOf 6 = .ok (.getfield 10, 3) := by decide +kernel
theorem dX3_volumeOf_9 : decode cX3_volumeOf 9 = .ok (.iload_n 1, 1) := by decide +kernel
theorem dX3_volumeOf_10 : decode cX3_volumeOf 10 = .ok (.invokevirtual 91, 3) := by decide +kernel
theorem dX3_volumeOf_13 : decode cX3_volumeOf 13 = .ok (.ireturn, 1) := by decide +kernel
set_option maxRecDepth 20000 in
theorem ggX3_amountOf_X3_checkJar : GoodIn wsX3_amountOf wsX3_checkJar := goodIn_ca (goodIn_r _ [6, 7, 8, 1, 9, 10, 11, 12, 13, 14, 20, 21, 22, 23, 24, 25, 26, 27, 28, 29, 30] (by decide +kernel) (by decide +kernel)) (goodIn_sub (fun _ h => List.mem_cons_of_mem _ (List.mem_append_right _ h)) (by decide +kernel))
set_option maxRecDepth 20000 in
theorem gX3_amountOf_X3_checkJar : GoodIn wsX3_amountOf (wsV RX3 49 RX3 yX3_checkJar wsX3_checkJar) := goodIn_app (goodIn_of _ (by decide +kernel)) ggX3_amountOf_X3_checkJar
set_option maxRecDepth 20000 in
theorem ggX3_amountOf_X1_amountAt : GoodIn wsX3_amountOf wsX1_amountAt := goodIn_r _ [18, 19, 29, 30] (by decide +kernel) (by decide +kernel)
set_option maxRecDepth 20000 in
theorem gX3_amountOf_X1_amountAt : GoodIn wsX3_amountOf (wsV RX3 94 RX1 yX1_amountAt wsX1_amountAt) := goodIn_app (goodIn_of _ (by decide +kernel)) ggX3_amountOf_X1_amountAt
theorem dX3_amountOf_0 : decode cX3_amountOf 0 = .ok (.aload_n 0, 1) := by decide +kernel
theorem dX3_amountOf_1 : decode cX3_amountOf 1 = .ok (.iload_n 1, 1) := by decide +kernel
theorem dX3_amountOf_2 : decode cX3_amountOf 2 = .ok (.invokevirtual 49, 3) := by decide +kernel
theorem dX3_amountOf_5 : decode cX3_amountOf 5 = .ok (.aload_n 0, 1) := by decide +kernel
theorem dX3_amountOf_6 : decode cX3_amountOf 6 = .ok (.getfield 10, 3) := by decide +kernel
theorem dX3_amountOf_9 : decode cX3_amountOf 9 = .ok (.iload_n 1, 1) := by decide +kernel
theorem dX3_amountOf_10 : decode cX3_amountOf 10 = .ok (.invokevirtual 94, 3) := by decide +kernel
theorem dX3_amountOf_13 : decode cX3_amountOf 13 = .ok (.ireturn, 1) := by decide +kernel
set_option maxRecDepth 20000 in
theorem ggX3_isEmpty_X3_checkJar : GoodIn wsX3_isEmpty wsX3_checkJar := goodIn_ca (goodIn_r _ [6, 7, 8, 1, 9, 10, 11, 12, 13, 14, 24, 25, 26, 27, 28, 29, 30, 31, 32, 33, 34] (by decide +kernel) (by decide +kernel)) (goodIn_sub (fun _ h => List.mem_cons_of_mem _ (List.mem_append_right _ h)) (by decide +kernel))
set_option maxRecDepth 20000 in
theorem gX3_isEmpty_X3_checkJar : GoodIn wsX3_isEmpty (wsV RX3 49 RX3 yX3_checkJar wsX3_checkJar) := goodIn_app (goodIn_of _ (by decide +kernel)) ggX3_isEmpty_X3_checkJar
set_option maxRecDepth 20000 in
theorem ggX3_isEmpty_X1_emptyAt : GoodIn wsX3_isEmpty wsX1_emptyAt := goodIn_r _ [18, 19, 20, 21, 12, 22, 23, 33, 34] (by decide +kernel) (by decide +kernel)
set_option maxRecDepth 20000 in
theorem gX3_isEmpty_X1_emptyAt : GoodIn wsX3_isEmpty (wsV RX3 97 RX1 yX1_emptyAt wsX1_emptyAt) := goodIn_app (goodIn_of _ (by decide +kernel)) ggX3_isEmpty_X1_emptyAt
theorem dX3_isEmpty_0 : decode cX3_isEmpty 0 = .ok (.aload_n 0, 1) := by decide +kernel
theorem dX3_isEmpty_1 : decode cX3_isEmpty 1 = .ok (.iload_n 1, 1) := by decide +kernel
theorem dX3_isEmpty_2 : decode cX3_isEmpty 2 = .ok (.invokevirtual 49, 3) := by decide +kernel
theorem dX3_isEmpty_5 : decode cX3_isEmpty 5 = .ok (.aload_n 0, 1) := by decide +kernel
theorem dX3_isEmpty_6 : decode cX3_isEmpty 6 = .ok (.getfield 10, 3) := by decide +kernel
theorem dX3_isEmpty_9 : decode cX3_isEmpty 9 = .ok (.iload_n 1, 1) := by decide +kernel
theorem dX3_isEmpty_10 : decode cX3_isEmpty 10 = .ok (.invokevirtual 97, 3) := by decide +kernel
theorem dX3_isEmpty_13 : decode cX3_isEmpty 13 = .ok (.ireturn, 1) := by decide +kernel
set_option maxRecDepth 20000 in
theorem ggX3_isFull_X3_checkJar : GoodIn wsX3_isFull wsX3_checkJar := goodIn_ca (goodIn_r _ [6, 7, 8, 1, 9, 10, 11, 12, 13, 14, 28, 29, 30, 31, 32, 33, 34, 35, 36, 37, 38] (by decide +kernel) (by decide +kernel)) (goodIn_sub (fun _ h => List.mem_cons_of_mem _ (List.mem_append_right _ h)) (by decide +kernel))
set_option maxRecDepth 20000 in
theorem gX3_isFull_X3_checkJar : GoodIn wsX3_isFull (wsV RX3 49 RX3 yX3_checkJar wsX3_checkJar) := goodIn_app (goodIn_of _ (by decide +kernel)) ggX3_isFull_X3_checkJar
set_option maxRecDepth 20000 in
theorem ggX3_isFull_X1_fullAt : GoodIn wsX3_isFull wsX1_fullAt := goodIn_r _ [18, 19, 20, 21, 12, 22, 23, 24, 25, 26, 27, 14, 37, 38] (by decide +kernel) (by decide +kernel)
set_option maxRecDepth 20000 in
theorem gX3_isFull_X1_fullAt : GoodIn wsX3_isFull (wsV RX3 100 RX1 yX1_fullAt wsX1_fullAt) := goodIn_app (goodIn_of _ (by decide +kernel)) ggX3_isFull_X1_fullAt
theorem dX3_isFull_0 : decode cX3_isFull 0 = .ok (.aload_n 0, 1) := by decide +kernel
theorem dX3_isFull_1 : decode cX3_isFull 1 = .ok (.iload_n 1, 1) := by decide +kernel
theorem dX3_isFull_2 : decode cX3_isFull 2 = .ok (.invokevirtual 49, 3) := by decide +kernel
theorem dX3_isFull_5 : decode cX3_isFull 5 = .ok (.aload_n 0, 1) := by decide +kernel
theorem dX3_isFull_6 : decode cX3_isFull 6 = .ok (.getfield 10, 3) := by decide +kernel
theorem dX3_isFull_9 : decode cX3_isFull 9 = .ok (.iload_n 1, 1) := by decide +kernel
theorem dX3_isFull_10 : decode cX3_isFull 10 = .ok (.invokevirtual 100, 3) := by decide +kernel
theorem dX3_isFull_13 : decode cX3_isFull 13 = .ok (.ireturn, 1) := by decide +kernel
set_option maxRecDepth 20000 in
theorem ggX3_heldInAll_X1_amountAt : GoodIn wsX3_heldInAll wsX1_amountAt := goodIn_r _ [6, 7, 17, 18] (by decide +kernel) (by decide +kernel)
set_option maxRecDepth 20000 in
theorem gX3_heldInAll_X1_amountAt : GoodIn wsX3_heldInAll (wsV RX3 94 RX1 yX1_amountAt wsX1_amountAt) := goodIn_app (goodIn_of _ (by decide +kernel)) ggX3_heldInAll_X1_amountAt
theorem dX3_heldInAll_0 : decode cX3_heldInAll 0 = .ok (.aload_n 0, 1) := by decide +kernel
theorem dX3_heldInAll_1 : decode cX3_heldInAll 1 = .ok (.getfield 10, 3) := by decide +kernel
theorem dX3_heldInAll_4 : decode cX3_heldInAll 4 = .ok (.iconst 0, 1) := by decide +kernel
theorem dX3_heldInAll_5 : decode cX3_heldInAll 5 = .ok (.invokevirtual 94, 3) := by decide +kernel
theorem dX3_heldInAll_8 : decode cX3_heldInAll 8 = .ok (.aload_n 0, 1) := by decide +kernel
theorem dX3_heldInAll_9 : decode cX3_heldInAll 9 = .ok (.getfield 10, 3) := by decide +kernel
theorem dX3_heldInAll_12 : decode cX3_heldInAll 12 = .ok (.iconst 1, 1) := by decide +kernel
theorem dX3_heldInAll_13 : decode cX3_heldInAll 13 = .ok (.invokevirtual 94, 3) := by decide +kernel
theorem dX3_heldInAll_16 : decode cX3_heldInAll 16 = .ok (.iadd, 1) := by decide +kernel
theorem dX3_heldInAll_17 : decode cX3_heldInAll 17 = .ok (.aload_n 0, 1) := by decide +kernel
theorem dX3_heldInAll_18 : decode cX3_heldInAll 18 = .ok (.getfield 10, 3) := by decide +kernel
theorem dX3_heldInAll_21 : decode cX3_heldInAll 21 = .ok (.iconst 2, 1) := by decide +kernel
theorem dX3_heldInAll_22 : decode cX3_heldInAll 22 = .ok (.invokevirtual 94, 3) := by decide +kernel
theorem dX3_heldInAll_25 : decode cX3_heldInAll 25 = .ok (.iadd, 1) := by decide +kernel
theorem dX3_heldInAll_26 : decode cX3_heldInAll 26 = .ok (.ireturn, 1) := by decide +kernel
theorem dX3_acts_0 : decode cX3_acts 0 = .ok (.aload_n 0, 1) := by decide +kernel
theorem dX3_acts_1 : decode cX3_acts 1 = .ok (.getfield 103, 3) := by decide +kernel
theorem dX3_acts_4 : decode cX3_acts 4 = .ok (.ireturn, 1) := by decide +kernel
theorem dX3_pouredInAll_0 : decode cX3_pouredInAll 0 = .ok (.aload_n 0, 1) := by decide +kernel
theorem dX3_pouredInAll_1 : decode cX3_pouredInAll 1 = .ok (.getfield 107, 3) := by decide +kernel
theorem dX3_pouredInAll_4 : decode cX3_pouredInAll 4 = .ok (.ireturn, 1) := by decide +kernel
theorem dX3_spilledInAll_0 : decode cX3_spilledInAll 0 = .ok (.aload_n 0, 1) := by decide +kernel
theorem dX3_spilledInAll_1 : decode cX3_spilledInAll 1 = .ok (.getfield 110, 3) := by decide +kernel
theorem dX3_spilledInAll_4 : decode cX3_spilledInAll 4 = .ok (.ireturn, 1) := by decide +kernel
theorem dX3_takenInAll_0 : decode cX3_takenInAll 0 = .ok (.aload_n 0, 1) := by decide +kernel
theorem dX3_takenInAll_1 : decode cX3_takenInAll 1 = .ok (.getfield 113, 3) := by decide +kernel
theorem dX3_takenInAll_4 : decode cX3_takenInAll 4 = .ok (.ireturn, 1) := by decide +kernel
set_option maxRecDepth 20000 in
theorem ggX3_isThere_X3_checkAmount : GoodIn wsX3_isThere wsX3_checkAmount := goodIn_ca (goodIn_r _ [5, 6, 7] (by decide +kernel) (by decide +kernel)) (goodIn_sub (fun _ h => List.mem_cons_of_mem _ (List.mem_append_right _ h)) (by decide +kernel))
set_option maxRecDepth 20000 in
theorem gX3_isThere_X3_checkAmount : GoodIn wsX3_isThere (va_wsS RX3 65 yX3_checkAmount wsX3_checkAmount) := goodIn_app (goodIn_of _ (by decide +kernel)) ggX3_isThere_X3_checkAmount
set_option maxRecDepth 20000 in
theorem ggX3_isThere_X1_holdsSomewhere : GoodIn wsX3_isThere wsX1_holdsSomewhere := goodIn_r _ [12, 13, 14, 15, 11, 16, 17, 18, 19, 20, 21, 22, 32, 33] (by decide +kernel) (by decide +kernel)
set_option maxRecDepth 20000 in
theorem gX3_isThere_X1_holdsSomewhere : GoodIn wsX3_isThere (wsV RX3 116 RX1 yX1_holdsSomewhere wsX1_holdsSomewhere) := goodIn_app (goodIn_of _ (by decide +kernel)) ggX3_isThere_X1_holdsSomewhere
theorem dX3_isThere_0 : decode cX3_isThere 0 = .ok (.iload_n 1, 1) := by decide +kernel
theorem dX3_isThere_1 : decode cX3_isThere 1 = .ok (.invokestatic 65, 3) := by decide +kernel
theorem dX3_isThere_4 : decode cX3_isThere 4 = .ok (.aload_n 0, 1) := by decide +kernel
theorem dX3_isThere_5 : decode cX3_isThere 5 = .ok (.getfield 10, 3) := by decide +kernel
theorem dX3_isThere_8 : decode cX3_isThere 8 = .ok (.iload_n 1, 1) := by decide +kernel
theorem dX3_isThere_9 : decode cX3_isThere 9 = .ok (.invokevirtual 116, 3) := by decide +kernel
theorem dX3_isThere_12 : decode cX3_isThere 12 = .ok (.ireturn, 1) := by decide +kernel
set_option maxRecDepth 20000 in
theorem ggX3_leastActs_X3_checkAmount : GoodIn wsX3_leastActs wsX3_checkAmount := goodIn_ca (goodIn_r _ [4, 5, 6] (by decide +kernel) (by decide +kernel)) (goodIn_sub (fun _ h => List.mem_cons_of_mem _ (List.mem_append_right _ h)) (by decide +kernel))
set_option maxRecDepth 20000 in
theorem gX3_leastActs_X3_checkAmount : GoodIn wsX3_leastActs (va_wsS RX3 65 yX3_checkAmount wsX3_checkAmount) := goodIn_app (goodIn_of _ (by decide +kernel)) ggX3_leastActs_X3_checkAmount
set_option maxRecDepth 20000 in
theorem ggX3_leastActs_X3_waysFromHere : GoodIn wsX3_leastActs wsX3_waysFromHere := goodIn_r _ [10, 11, 12, 13, 14, 15, 16, 17, 18, 19, 20, 21, 22, 23, 24, 25, 26, 27, 28, 29, 30, 31, 32, 33, 34, 35, 36, 37, 38, 39, 40, 41, 42, 43, 44, 45, 46, 47, 48, 49, 50, 51, 52, 53, 54, 55, 56, 57, 58, 59, 60, 61, 62, 63, 64, 65, 66, 67, 68, 69, 70, 71, 72, 73, 74, 75, 76, 77, 78, 79, 80, 81, 82, 83, 84, 85, 86, 87, 88, 89, 90, 91, 108, 109, 110, 111, 112, 113, 114, 115, 116, 117, 118, 119, 120, 121, 122, 123] (by decide +kernel) (by decide +kernel)
set_option maxRecDepth 20000 in
theorem gX3_leastActs_X3_waysFromHere : GoodIn wsX3_leastActs (wsV RX3 71 RX3 yX3_waysFromHere wsX3_waysFromHere) := goodIn_app (goodIn_of _ (by decide +kernel)) ggX3_leastActs_X3_waysFromHere
set_option maxRecDepth 20000 in
theorem ggX3_leastActs_X2_leastActsTo : GoodIn wsX3_leastActs wsX2_leastActsTo := goodIn_r _ [95, 96, 97, 98, 16, 99, 18, 20, 47, 48, 49, 50, 46, 67, 68, 69, 28, 70, 35, 100, 101, 102, 103, 104, 105, 106, 107, 30, 80, 81, 82, 83, 55, 56, 57, 58, 19, 117, 118, 119, 120, 121, 122, 123] (by decide +kernel) (by decide +kernel)
set_option maxRecDepth 20000 in
theorem gX3_leastActs_X2_leastActsTo : GoodIn wsX3_leastActs (wsV RX3 75 RX2 yX2_leastActsTo wsX2_leastActsTo) := goodIn_app (goodIn_of _ (by decide +kernel)) ggX3_leastActs_X2_leastActsTo
theorem dX3_leastActs_0 : decode cX3_leastActs 0 = .ok (.iload_n 1, 1) := by decide +kernel
theorem dX3_leastActs_1 : decode cX3_leastActs 1 = .ok (.invokestatic 65, 3) := by decide +kernel
theorem dX3_leastActs_4 : decode cX3_leastActs 4 = .ok (.aload_n 0, 1) := by decide +kernel
theorem dX3_leastActs_5 : decode cX3_leastActs 5 = .ok (.invokevirtual 71, 3) := by decide +kernel
theorem dX3_leastActs_8 : decode cX3_leastActs 8 = .ok (.iload_n 1, 1) := by decide +kernel
theorem dX3_leastActs_9 : decode cX3_leastActs 9 = .ok (.invokevirtual 75, 3) := by decide +kernel
theorem dX3_leastActs_12 : decode cX3_leastActs 12 = .ok (.ireturn, 1) := by decide +kernel
set_option maxRecDepth 20000 in
theorem ggX3_leastActsIn_X3_checkJar : GoodIn wsX3_leastActsIn wsX3_checkJar := goodIn_ca (goodIn_r _ [5, 6, 7, 8, 9, 10, 11, 12, 13, 14, 104, 105, 106, 107, 108, 109, 110, 111, 112, 113, 114] (by decide +kernel) (by decide +kernel)) (goodIn_sub (fun _ h => List.mem_cons_of_mem _ (List.mem_append_left _ (List.mem_append_right _ h))) (by decide +kernel))
set_option maxRecDepth 20000 in
theorem gX3_leastActsIn_X3_checkJar : GoodIn wsX3_leastActsIn (wsV RX3 49 RX3 yX3_checkJar wsX3_checkJar) := goodIn_app (goodIn_of _ (by decide +kernel)) ggX3_leastActsIn_X3_checkJar
set_option maxRecDepth 20000 in
theorem ggX3_leastActsIn_X3_checkAmount : GoodIn wsX3_leastActsIn wsX3_checkAmount := goodIn_ca (goodIn_r _ [17, 18, 19] (by decide +kernel) (by decide +kernel)) (goodIn_sub (fun _ h => List.mem_cons_of_mem _ (List.mem_append_right _ h)) (by decide +kernel))
set_option maxRecDepth 20000 in
theorem gX3_leastActsIn_X3_checkAmount : GoodIn wsX3_leastActsIn (va_wsS RX3 65 yX3_checkAmount wsX3_checkAmount) := goodIn_app (goodIn_of _ (by decide +kernel)) ggX3_leastActsIn_X3_checkAmount
set_option maxRecDepth 20000 in
theorem ggX3_leastActsIn_X3_waysFromHere : GoodIn wsX3_leastActsIn wsX3_waysFromHere := goodIn_r _ [23, 24, 8, 25, 26, 27, 28, 29, 30, 31, 32, 33, 34, 35, 36, 37, 38, 39, 12, 40, 14, 41, 42, 43, 44, 45, 46, 47, 48, 49, 50, 51, 52, 53, 54, 55, 56, 57, 58, 59, 60, 61, 62, 63, 64, 65, 66, 67, 68, 69, 70, 71, 72, 73, 10, 11, 13, 74, 75, 76, 77, 78, 79, 80, 81, 82, 83, 84, 85, 86, 87, 88, 89, 90, 91, 92, 93, 94, 95, 96, 97, 98, 104, 105, 106, 107, 108, 109, 110, 111, 112, 115, 116, 117, 118, 119, 113, 114] (by decide +kernel) (by decide +kernel)
set_option maxRecDepth 20000 in
theorem gX3_leastActsIn_X3_waysFromHere : GoodIn wsX3_leastActsIn (wsV RX3 71 RX3 yX3_waysFromHere wsX3_waysFromHere) := goodIn_app (goodIn_of _ (by decide +kernel)) ggX3_leastActsIn_X3_waysFromHere
set_option maxRecDepth 20000 in
theorem ggX3_leastActsIn_X2_leastActsWith : GoodIn wsX3_leastActsIn wsX2_leastActsWith := goodIn_r _ [102, 30, 32, 57, 58, 59, 28, 60, 56, 74, 75, 76, 12, 77, 45, 103, 88, 89, 90, 65, 66, 67, 68, 31, 115, 116, 117, 118, 119, 113, 114] (by decide +kernel) (by decide +kernel)
set_option maxRecDepth 20000 in
theorem gX3_leastActsIn_X2_leastActsWith : GoodIn wsX3_leastActsIn (wsV RX3 119 RX2 yX2_leastActsWith wsX2_leastActsWith) := goodIn_app (goodIn_of _ (by decide +kernel)) ggX3_leastActsIn_X2_leastActsWith
theorem dX3_leastActsIn_0 : decode cX3_leastActsIn 0 = .ok (.aload_n 0, 1) := by decide +kernel
theorem dX3_leastActsIn_1 : decode cX3_leastActsIn 1 = .ok (.iload_n 1, 1) := by decide +kernel
theorem dX3_leastActsIn_2 : decode cX3_leastActsIn 2 = .ok (.invokevirtual 49, 3) := by decide +kernel
theorem dX3_leastActsIn_5 : decode cX3_leastActsIn 5 = .ok (.iload_n 2, 1) := by decide +kernel
theorem dX3_leastActsIn_6 : decode cX3_leastActsIn 6 = .ok (.invokestatic 65, 3) := by decide +kernel
theorem dX3_leastActsIn_9 : decode cX3_leastActsIn 9 = .ok (.aload_n 0, 1) := by decide +kernel
theorem dX3_leastActsIn_10 : decode cX3_leastActsIn 10 = .ok (.invokevirtual 71, 3) := by decide +kernel
theorem dX3_leastActsIn_13 : decode cX3_leastActsIn 13 = .ok (.iload_n 1, 1) := by decide +kernel
theorem dX3_leastActsIn_14 : decode cX3_leastActsIn 14 = .ok (.iload_n 2, 1) := by decide +kernel
theorem dX3_leastActsIn_15 : decode cX3_leastActsIn 15 = .ok (.invokevirtual 119, 3) := by decide +kernel
theorem dX3_leastActsIn_18 : decode cX3_leastActsIn 18 = .ok (.ireturn, 1) := by decide +kernel
set_option maxRecDepth 20000 in
theorem ggX3_nextAct_X3_checkAmount : GoodIn wsX3_nextAct wsX3_checkAmount := goodIn_ca (goodIn_r _ [6, 7, 8] (by decide +kernel) (by decide +kernel)) (goodIn_sub (fun _ h => List.mem_cons_of_mem _ (List.mem_append_right _ h)) (by decide +kernel))
set_option maxRecDepth 20000 in
theorem gX3_nextAct_X3_checkAmount : GoodIn wsX3_nextAct (va_wsS RX3 65 yX3_checkAmount wsX3_checkAmount) := goodIn_app (goodIn_of _ (by decide +kernel)) ggX3_nextAct_X3_checkAmount
set_option maxRecDepth 20000 in
theorem ggX3_nextAct_X3_waysFromHere : GoodIn wsX3_nextAct wsX3_waysFromHere := goodIn_r _ [12, 13, 14, 15, 16, 17, 18, 19, 20, 21, 22, 23, 24, 25, 26, 27, 28, 29, 30, 31, 32, 33, 34, 35, 36, 37, 38, 39, 40, 41, 42, 43, 44, 45, 46, 47, 48, 49, 50, 51, 52, 53, 54, 55, 56, 57, 58, 59, 60, 61, 62, 63, 64, 65, 66, 67, 68, 69, 70, 71, 72, 73, 74, 75, 76, 77, 78, 79, 80, 81, 82, 83, 84, 85, 86, 87, 88, 89, 90, 91, 92, 93, 114, 115, 116, 117, 118, 119, 120, 121, 122, 123, 124, 125, 126, 127, 128, 129] (by decide +kernel) (by decide +kernel)
set_option maxRecDepth 20000 in
theorem gX3_nextAct_X3_waysFromHere : GoodIn wsX3_nextAct (wsV RX3 71 RX3 yX3_waysFromHere wsX3_waysFromHere) := goodIn_app (goodIn_of _ (by decide +kernel)) ggX3_nextAct_X3_waysFromHere
set_option maxRecDepth 20000 in
theorem ggX3_nextAct_X2_leastActsTo : GoodIn wsX3_nextAct wsX2_leastActsTo := goodIn_r _ [97, 98, 99, 100, 18, 101, 20, 22, 49, 50, 51, 52, 48, 69, 70, 71, 30, 72, 37, 102, 103, 104, 105, 106, 107, 108, 109, 32, 82, 83, 84, 85, 57, 58, 59, 60, 21, 123, 124, 125, 126, 127, 128, 129] (by decide +kernel) (by decide +kernel)
set_option maxRecDepth 20000 in
theorem gX3_nextAct_X2_leastActsTo : GoodIn wsX3_nextAct (wsV RX3 75 RX2 yX2_leastActsTo wsX2_leastActsTo) := goodIn_app (goodIn_of _ (by decide +kernel)) ggX3_nextAct_X2_leastActsTo
set_option maxRecDepth 20000 in
theorem ggX3_nextAct_X2_firstActTo : GoodIn wsX3_nextAct wsX2_firstActTo := goodIn_r _ [113, 98, 99, 100, 18, 101, 20, 22, 49, 50, 51, 52, 48, 69, 70, 71, 30, 72, 37, 102, 103, 104, 105, 106, 107, 108, 109, 32, 82, 83, 84, 85, 90, 91, 92, 93, 47, 123, 124, 125, 126, 127, 128, 129] (by decide +kernel) (by decide +kernel)
set_option maxRecDepth 20000 in
theorem gX3_nextAct_X2_firstActTo : GoodIn wsX3_nextAct (wsV RX3 88 RX2 yX2_firstActTo wsX2_firstActTo) := goodIn_app (goodIn_of _ (by decide +kernel)) ggX3_nextAct_X2_firstActTo
theorem dX3_nextAct_0 : decode cX3_nextAct 0 = .ok (.iload_n 1, 1) := by decide +kernel
theorem dX3_nextAct_1 : decode cX3_nextAct 1 = .ok (.invokestatic 65, 3) := by decide +kernel
theorem dX3_nextAct_4 : decode cX3_nextAct 4 = .ok (.aload_n 0, 1) := by decide +kernel
theorem dX3_nextAct_5 : decode cX3_nextAct 5 = .ok (.invokevirtual 71, 3) := by decide +kernel
theorem dX3_nextAct_8 : decode cX3_nextAct 8 = .ok (.iload_n 1, 1) := by decide +kernel
theorem dX3_nextAct_9 : decode cX3_nextAct 9 = .ok (.invokevirtual 75, 3) := by decide +kernel
theorem dX3_nextAct_12 : decode cX3_nextAct 12 = .ok (.ifCond .gt 13, 3) := by decide +kernel
theorem dX3_nextAct_15 : decode cX3_nextAct 15 = .ok (.new 78, 3) := by decide +kernel
theorem dX3_nextAct_18 : decode cX3_nextAct 18 = .ok (.dup, 1) := by decide +kernel
theorem dX3_nextAct_19 : decode cX3_nextAct 19 = .ok (.ldc 122, 2) := by decide +kernel
theorem dX3_nextAct_21 : decode cX3_nextAct 21 = .ok (.invokespecial 82, 3) := by decide +kernel
theorem dX3_nextAct_24 : decode cX3_nextAct 24 = .ok (.athrow, 1) := by decide +kernel
theorem dX3_nextAct_25 : decode cX3_nextAct 25 = .ok (.aload_n 0, 1) := by decide +kernel
theorem dX3_nextAct_26 : decode cX3_nextAct 26 = .ok (.invokevirtual 71, 3) := by decide +kernel
theorem dX3_nextAct_29 : decode cX3_nextAct 29 = .ok (.iload_n 1, 1) := by decide +kernel
theorem dX3_nextAct_30 : decode cX3_nextAct 30 = .ok (.invokevirtual 88, 3) := by decide +kernel
theorem dX3_nextAct_33 : decode cX3_nextAct 33 = .ok (.ireturn, 1) := by decide +kernel
set_option maxRecDepth 20000 in
theorem ggX3_amountsToHave_X3_waysFromHere : GoodIn wsX3_amountsToHave wsX3_waysFromHere := goodIn_r _ [5, 6, 7, 8, 9, 10, 11, 12, 13, 14, 15, 16, 17, 18, 19, 20, 21, 22, 23, 24, 25, 26, 27, 28, 29, 30, 31, 32, 33, 34, 35, 36, 37, 38, 39, 40, 41, 42, 43, 44, 45, 46, 47, 48, 49, 50, 51, 52, 53, 54, 55, 56, 57, 58, 59, 60, 61, 62, 63, 64, 65, 66, 67, 68, 69, 70, 71, 72, 73, 74, 75, 76, 77, 78, 79, 80, 81, 82, 83, 84, 85, 86, 103, 104, 105, 106, 107, 108, 109, 110, 111, 112, 113, 114, 115, 116, 117, 118] (by decide +kernel) (by decide +kernel)
set_option maxRecDepth 20000 in
theorem gX3_amountsToHave_X3_waysFromHere : GoodIn wsX3_amountsToHave (wsV RX3 71 RX3 yX3_waysFromHere wsX3_waysFromHere) := goodIn_app (goodIn_of _ (by decide +kernel)) ggX3_amountsToHave_X3_waysFromHere
set_option maxRecDepth 20000 in
theorem ggX3_amountsToHave_X2_leastActsTo : GoodIn wsX3_amountsToHave wsX2_leastActsTo := goodIn_r _ [90, 91, 92, 93, 11, 94, 13, 15, 42, 43, 44, 45, 41, 62, 63, 64, 23, 65, 30, 95, 96, 97, 98, 99, 100, 101, 102, 25, 75, 76, 77, 78, 50, 51, 52, 53, 14, 112, 113, 114, 115, 116, 117, 118] (by decide +kernel) (by decide +kernel)
set_option maxRecDepth 20000 in
theorem gX3_amountsToHave_X2_leastActsTo : GoodIn wsX3_amountsToHave (wsV RX3 75 RX2 yX2_leastActsTo wsX2_leastActsTo) := goodIn_app (goodIn_of _ (by decide +kernel)) ggX3_amountsToHave_X2_leastActsTo
theorem dX3_amountsToHave_0 : decode cX3_amountsToHave 0 = .ok (.aload_n 0, 1) := by decide +kernel
theorem dX3_amountsToHave_1 : decode cX3_amountsToHave 1 = .ok (.invokevirtual 71, 3) := by decide +kernel
theorem dX3_amountsToHave_4 : decode cX3_amountsToHave 4 = .ok (.astore_n 1, 1) := by decide +kernel
theorem dX3_amountsToHave_5 : decode cX3_amountsToHave 5 = .ok (.iconst 0, 1) := by decide +kernel
theorem dX3_amountsToHave_6 : decode cX3_amountsToHave 6 = .ok (.istore_n 2, 1) := by decide +kernel
theorem dX3_amountsToHave_7 : decode cX3_amountsToHave 7 = .ok (.iconst 0, 1) := by decide +kernel
theorem dX3_amountsToHave_8 : decode cX3_amountsToHave 8 = .ok (.istore_n 3, 1) := by decide +kernel
theorem dX3_amountsToHave_9 : decode cX3_amountsToHave 9 = .ok (.iload_n 3, 1) := by decide +kernel
theorem dX3_amountsToHave_10 : decode cX3_amountsToHave 10 = .ok (.bipush 9, 2) := by decide +kernel
theorem dX3_amountsToHave_12 : decode cX3_amountsToHave 12 = .ok (.if_icmp .gt 21, 3) := by decide +kernel
theorem dX3_amountsToHave_15 : decode cX3_amountsToHave 15 = .ok (.aload_n 1, 1) := by decide +kernel
theorem dX3_amountsToHave_16 : decode cX3_amountsToHave 16 = .ok (.iload_n 3, 1) := by decide +kernel
theorem dX3_amountsToHave_17 : decode cX3_amountsToHave 17 = .ok (.invokevirtual 75, 3) := by decide +kernel
theorem dX3_amountsToHave_20 : decode cX3_amountsToHave 20 = .ok (.iconst (-1), 1) := by decide +kernel
theorem dX3_amountsToHave_21 : decode cX3_amountsToHave 21 = .ok (.if_icmp .eq 6, 3) := by decide +kernel
theorem dX3_amountsToHave_24 : decode cX3_amountsToHave 24 = .ok (.iinc 2 1, 3) := by decide +kernel
theorem dX3_amountsToHave_27 : decode cX3_amountsToHave 27 = .ok (.iinc 3 1, 3) := by decide +kernel
theorem dX3_amountsToHave_30 : decode cX3_amountsToHave 30 = .ok (.goto (-21), 3) := by decide +kernel
theorem dX3_amountsToHave_33 : decode cX3_amountsToHave 33 = .ok (.iload_n 2, 1) := by decide +kernel
theorem dX3_amountsToHave_34 : decode cX3_amountsToHave 34 = .ok (.ireturn, 1) := by decide +kernel
set_option maxRecDepth 20000 in
theorem ggX3_statesToReach_X3_waysFromHere : GoodIn wsX3_statesToReach wsX3_waysFromHere := goodIn_r _ [5, 6, 7, 8, 9, 10, 11, 12, 13, 14, 15, 16, 17, 18, 19, 20, 21, 22, 23, 24, 25, 26, 27, 28, 29, 30, 31, 32, 33, 34, 35, 36, 37, 38, 39, 40, 41, 42, 43, 44, 45, 46, 47, 48, 49, 50, 51, 52, 53, 54, 55, 56, 57, 58, 59, 60, 61, 62, 63, 64, 65, 66, 67, 68, 69, 70, 71, 72, 73, 74, 75, 76, 77, 78, 79, 80, 81, 82, 83, 84, 85, 86, 91, 92, 93, 94, 95, 96, 97, 98, 99, 100, 101, 102, 103, 104, 105, 106] (by decide +kernel) (by decide +kernel)
set_option maxRecDepth 20000 in
theorem gX3_statesToReach_X3_waysFromHere : GoodIn wsX3_statesToReach (wsV RX3 71 RX3 yX3_waysFromHere wsX3_waysFromHere) := goodIn_app (goodIn_of _ (by decide +kernel)) ggX3_statesToReach_X3_waysFromHere
set_option maxRecDepth 20000 in
theorem ggX3_statesToReach_X2_statesReached : GoodIn wsX3_statesToReach wsX2_statesReached := goodIn_r _ [90, 13, 100, 101, 102, 103, 104] (by decide +kernel) (by decide +kernel)
set_option maxRecDepth 20000 in
theorem gX3_statesToReach_X2_statesReached : GoodIn wsX3_statesToReach (wsV RX3 124 RX2 yX2_statesReached wsX2_statesReached) := goodIn_app (goodIn_of _ (by decide +kernel)) ggX3_statesToReach_X2_statesReached
theorem dX3_statesToReach_0 : decode cX3_statesToReach 0 = .ok (.aload_n 0, 1) := by decide +kernel
theorem dX3_statesToReach_1 : decode cX3_statesToReach 1 = .ok (.invokevirtual 71, 3) := by decide +kernel
theorem dX3_statesToReach_4 : decode cX3_statesToReach 4 = .ok (.invokevirtual 124, 3) := by decide +kernel
theorem dX3_statesToReach_7 : decode cX3_statesToReach 7 = .ok (.ireturn, 1) := by decide +kernel
set_option maxRecDepth 20000 in
theorem ggX3_statesAway_X3_checkActs : GoodIn wsX3_statesAway wsX3_checkActs := goodIn_ca (goodIn_r _ [4, 5, 6] (by decide +kernel) (by decide +kernel)) (goodIn_sub (fun _ h => List.mem_cons_of_mem _ (List.mem_append_right _ h)) (by decide +kernel))
set_option maxRecDepth 20000 in
theorem gX3_statesAway_X3_checkActs : GoodIn wsX3_statesAway (va_wsS RX3 68 yX3_checkActs wsX3_checkActs) := goodIn_app (goodIn_of _ (by decide +kernel)) ggX3_statesAway_X3_checkActs
set_option maxRecDepth 20000 in
theorem ggX3_statesAway_X3_waysFromHere : GoodIn wsX3_statesAway wsX3_waysFromHere := goodIn_r _ [10, 11, 12, 13, 14, 15, 16, 17, 18, 19, 20, 21, 22, 23, 24, 25, 26, 27, 28, 29, 30, 31, 32, 33, 34, 35, 36, 37, 38, 39, 40, 41, 42, 43, 44, 45, 46, 47, 48, 49, 50, 51, 52, 53, 54, 55, 56, 57, 58, 59, 60, 61, 62, 63, 64, 65, 66, 67, 68, 69, 70, 71, 72, 73, 74, 75, 76, 77, 78, 79, 80, 81, 82, 83, 84, 85, 86, 87, 88, 89, 90, 91, 96, 97, 98, 99, 100, 101, 102, 103, 104, 105, 106, 107, 108, 109, 110, 111] (by decide +kernel) (by decide +kernel)
set_option maxRecDepth 20000 in
theorem gX3_statesAway_X3_waysFromHere : GoodIn wsX3_statesAway (wsV RX3 71 RX3 yX3_waysFromHere wsX3_waysFromHere) := goodIn_app (goodIn_of _ (by decide +kernel)) ggX3_statesAway_X3_waysFromHere
set_option maxRecDepth 20000 in
theorem ggX3_statesAway_X2_statesAt : GoodIn wsX3_statesAway wsX2_statesAt := goodIn_r _ [95, 18, 47, 48, 49, 16, 50, 46, 55, 56, 57, 58, 19, 105, 106, 107, 108, 109] (by decide +kernel) (by decide +kernel)
set_option maxRecDepth 20000 in
theorem gX3_statesAway_X2_statesAt : GoodIn wsX3_statesAway (wsV RX3 127 RX2 yX2_statesAt wsX2_statesAt) := goodIn_app (goodIn_of _ (by decide +kernel)) ggX3_statesAway_X2_statesAt
theorem dX3_statesAway_0 : decode cX3_statesAway 0 = .ok (.iload_n 1, 1) := by decide +kernel
theorem dX3_statesAway_1 : decode cX3_statesAway 1 = .ok (.iconst 0, 1) := by decide +kernel
theorem dX3_statesAway_2 : decode cX3_statesAway 2 = .ok (.invokestatic 68, 3) := by decide +kernel
theorem dX3_statesAway_5 : decode cX3_statesAway 5 = .ok (.aload_n 0, 1) := by decide +kernel
theorem dX3_statesAway_6 : decode cX3_statesAway 6 = .ok (.invokevirtual 71, 3) := by decide +kernel
theorem dX3_statesAway_9 : decode cX3_statesAway 9 = .ok (.iload_n 1, 1) := by decide +kernel
theorem dX3_statesAway_10 : decode cX3_statesAway 10 = .ok (.invokevirtual 127, 3) := by decide +kernel
theorem dX3_statesAway_13 : decode cX3_statesAway 13 = .ok (.ireturn, 1) := by decide +kernel
set_option maxRecDepth 20000 in
theorem ggX3_farthest_X3_waysFromHere : GoodIn wsX3_farthest wsX3_waysFromHere := goodIn_r _ [5, 6, 7, 8, 9, 10, 11, 12, 13, 14, 15, 16, 17, 18, 19, 20, 21, 22, 23, 24, 25, 26, 27, 28, 29, 30, 31, 32, 33, 34, 35, 36, 37, 38, 39, 40, 41, 42, 43, 44, 45, 46, 47, 48, 49, 50, 51, 52, 53, 54, 55, 56, 57, 58, 59, 60, 61, 62, 63, 64, 65, 66, 67, 68, 69, 70, 71, 72, 73, 74, 75, 76, 77, 78, 79, 80, 81, 82, 83, 84, 85, 86, 91, 92, 93, 94, 95, 96, 97, 98, 99, 100, 101, 102, 103, 104, 105, 106] (by decide +kernel) (by decide +kernel)
set_option maxRecDepth 20000 in
theorem gX3_farthest_X3_waysFromHere : GoodIn wsX3_farthest (wsV RX3 71 RX3 yX3_waysFromHere wsX3_waysFromHere) := goodIn_app (goodIn_of _ (by decide +kernel)) ggX3_farthest_X3_waysFromHere
set_option maxRecDepth 20000 in
theorem ggX3_farthest_X2_greatestDistance : GoodIn wsX3_farthest wsX2_greatestDistance := goodIn_r _ [90, 13, 42, 43, 44, 11, 45, 41, 50, 51, 52, 53, 14, 100, 101, 102, 103, 104] (by decide +kernel) (by decide +kernel)
set_option maxRecDepth 20000 in
theorem gX3_farthest_X2_greatestDistance : GoodIn wsX3_farthest (wsV RX3 130 RX2 yX2_greatestDistance wsX2_greatestDistance) := goodIn_app (goodIn_of _ (by decide +kernel)) ggX3_farthest_X2_greatestDistance
theorem dX3_farthest_0 : decode cX3_farthest 0 = .ok (.aload_n 0, 1) := by decide +kernel
theorem dX3_farthest_1 : decode cX3_farthest 1 = .ok (.invokevirtual 71, 3) := by decide +kernel
theorem dX3_farthest_4 : decode cX3_farthest 4 = .ok (.invokevirtual 130, 3) := by decide +kernel
theorem dX3_farthest_7 : decode cX3_farthest 7 = .ok (.ireturn, 1) := by decide +kernel
set_option maxRecDepth 20000 in
theorem ggX3_candidates_X0_candidatesLeft : GoodIn wsX3_candidates wsX0_candidatesLeft := goodIn_r _ [6, 7, 17, 18, 19, 20, 21] (by decide +kernel) (by decide +kernel)
set_option maxRecDepth 20000 in
theorem gX3_candidates_X0_candidatesLeft : GoodIn wsX3_candidates (wsV RX3 133 RX0 yX0_candidatesLeft wsX0_candidatesLeft) := goodIn_app (goodIn_of _ (by decide +kernel)) ggX3_candidates_X0_candidatesLeft
theorem dX3_candidates_0 : decode cX3_candidates 0 = .ok (.aload_n 0, 1) := by decide +kernel
theorem dX3_candidates_1 : decode cX3_candidates 1 = .ok (.getfield 26, 3) := by decide +kernel
theorem dX3_candidates_4 : decode cX3_candidates 4 = .ok (.invokevirtual 133, 3) := by decide +kernel
theorem dX3_candidates_7 : decode cX3_candidates 7 = .ok (.ireturn, 1) := by decide +kernel
set_option maxRecDepth 20000 in
theorem ggX3_mayBe_X3_checkJar : GoodIn wsX3_mayBe wsX3_checkJar := goodIn_ca (goodIn_r _ [6, 7, 8, 9, 10, 11, 12, 13, 14, 15, 60, 61, 62, 63, 64, 65, 66, 67, 68, 69, 70] (by decide +kernel) (by decide +kernel)) (goodIn_sub (fun _ h => List.mem_cons_of_mem _ (List.mem_append_left _ (List.mem_append_right _ h))) (by decide +kernel))
set_option maxRecDepth 20000 in
theorem gX3_mayBe_X3_checkJar : GoodIn wsX3_mayBe (wsV RX3 49 RX3 yX3_checkJar wsX3_checkJar) := goodIn_app (goodIn_of _ (by decide +kernel)) ggX3_mayBe_X3_checkJar
set_option maxRecDepth 20000 in
theorem ggX3_mayBe_X3_checkVolume : GoodIn wsX3_mayBe wsX3_checkVolume := goodIn_ca (goodIn_r _ [18, 19, 20, 21, 22, 5, 23] (by decide +kernel) (by decide +kernel)) (goodIn_sub (fun _ h => List.mem_cons_of_mem _ (List.mem_append_right _ h)) (by decide +kernel))
set_option maxRecDepth 20000 in
theorem gX3_mayBe_X3_checkVolume : GoodIn wsX3_mayBe (va_wsS RX3 136 yX3_checkVolume wsX3_checkVolume) := goodIn_app (goodIn_of _ (by decide +kernel)) ggX3_mayBe_X3_checkVolume
set_option maxRecDepth 20000 in
theorem ggX3_mayBe_X0_volumesFor : GoodIn wsX3_mayBe wsX0_volumesFor := goodIn_r _ [28, 29, 30, 31, 32, 27, 33, 34, 35, 36, 37, 38, 39, 40, 41, 42, 13, 43, 15, 44, 45, 46, 47, 48, 49, 50, 51, 52, 53, 54, 55, 56, 71, 72, 73, 74, 75, 69, 70] (by decide +kernel) (by decide +kernel)
set_option maxRecDepth 20000 in
theorem gX3_mayBe_X0_volumesFor : GoodIn wsX3_mayBe (wsV RX3 139 RX0 yX0_volumesFor wsX0_volumesFor) := goodIn_app (goodIn_of _ (by decide +kernel)) ggX3_mayBe_X0_volumesFor
set_option maxRecDepth 20000 in
theorem ggX3_mayBe_X3_isAmong : GoodIn wsX3_mayBe wsX3_isAmong := goodIn_r _ [59] (by decide +kernel) (by decide +kernel)
set_option maxRecDepth 20000 in
theorem gX3_mayBe_X3_isAmong : GoodIn wsX3_mayBe (va_wsS RX3 142 yX3_isAmong wsX3_isAmong) := goodIn_app (goodIn_of _ (by decide +kernel)) ggX3_mayBe_X3_isAmong
theorem dX3_mayBe_0 : decode cX3_mayBe 0 = .ok (.aload_n 0, 1) := by decide +kernel
theorem dX3_mayBe_1 : decode cX3_mayBe 1 = .ok (.iload_n 1, 1) := by decide +kernel
theorem dX3_mayBe_2 : decode cX3_mayBe 2 = .ok (.invokevirtual 49, 3) := by decide +kernel
theorem dX3_mayBe_5 : decode cX3_mayBe 5 = .ok (.iload_n 2, 1) := by decide +kernel
theorem dX3_mayBe_6 : decode cX3_mayBe 6 = .ok (.invokestatic 136, 3) := by decide +kernel
theorem dX3_mayBe_9 : decode cX3_mayBe 9 = .ok (.aload_n 0, 1) := by decide +kernel
theorem dX3_mayBe_10 : decode cX3_mayBe 10 = .ok (.getfield 26, 3) := by decide +kernel
theorem dX3_mayBe_13 : decode cX3_mayBe 13 = .ok (.iload_n 1, 1) := by decide +kernel
theorem dX3_mayBe_14 : decode cX3_mayBe 14 = .ok (.invokevirtual 139, 3) := by decide +kernel
theorem dX3_mayBe_17 : decode cX3_mayBe 17 = .ok (.iload_n 2, 1) := by decide +kernel
theorem dX3_mayBe_18 : decode cX3_mayBe 18 = .ok (.invokestatic 142, 3) := by decide +kernel
theorem dX3_mayBe_21 : decode cX3_mayBe 21 = .ok (.ireturn, 1) := by decide +kernel
set_option maxRecDepth 20000 in
theorem ggX3_isKnown_X3_checkJar : GoodIn wsX3_isKnown wsX3_checkJar := goodIn_ca (goodIn_r _ [6, 7, 8, 9, 10, 11, 12, 13, 14, 15, 59, 60, 61, 62, 63, 64, 65, 66, 67, 68, 69] (by decide +kernel) (by decide +kernel)) (goodIn_sub (fun _ h => List.mem_cons_of_mem _ (List.mem_append_right _ h)) (by decide +kernel))
set_option maxRecDepth 20000 in
theorem gX3_isKnown_X3_checkJar : GoodIn wsX3_isKnown (wsV RX3 49 RX3 yX3_checkJar wsX3_checkJar) := goodIn_app (goodIn_of _ (by decide +kernel)) ggX3_isKnown_X3_checkJar
set_option maxRecDepth 20000 in
theorem ggX3_isKnown_X0_volumesFor : GoodIn wsX3_isKnown wsX0_volumesFor := goodIn_r _ [20, 21, 22, 23, 24, 19, 25, 26, 27, 28, 29, 30, 31, 32, 33, 34, 13, 35, 15, 36, 37, 38, 39, 40, 41, 42, 43, 44, 45, 46, 47, 48, 70, 71, 72, 73, 74, 68, 69] (by decide +kernel) (by decide +kernel)
set_option maxRecDepth 20000 in
theorem gX3_isKnown_X0_volumesFor : GoodIn wsX3_isKnown (wsV RX3 139 RX0 yX0_volumesFor wsX0_volumesFor) := goodIn_app (goodIn_of _ (by decide +kernel)) ggX3_isKnown_X0_volumesFor
set_option maxRecDepth 20000 in
theorem ggX3_isKnown_X3_isOne : GoodIn wsX3_isKnown wsX3_isOne := goodIn_r _ [51, 52, 53, 54, 55, 56, 57, 58] (by decide +kernel) (by decide +kernel)
set_option maxRecDepth 20000 in
theorem gX3_isKnown_X3_isOne : GoodIn wsX3_isKnown (va_wsS RX3 146 yX3_isOne wsX3_isOne) := goodIn_app (goodIn_of _ (by decide +kernel)) ggX3_isKnown_X3_isOne
theorem dX3_isKnown_0 : decode cX3_isKnown 0 = .ok (.aload_n 0, 1) := by decide +kernel
theorem dX3_isKnown_1 : decode cX3_isKnown 1 = .ok (.iload_n 1, 1) := by decide +kernel
theorem dX3_isKnown_2 : decode cX3_isKnown 2 = .ok (.invokevirtual 49, 3) := by decide +kernel
theorem dX3_isKnown_5 : decode cX3_isKnown 5 = .ok (.aload_n 0, 1) := by decide +kernel
theorem dX3_isKnown_6 : decode cX3_isKnown 6 = .ok (.getfield 26, 3) := by decide +kernel
theorem dX3_isKnown_9 : decode cX3_isKnown 9 = .ok (.iload_n 1, 1) := by decide +kernel
theorem dX3_isKnown_10 : decode cX3_isKnown 10 = .ok (.invokevirtual 139, 3) := by decide +kernel
theorem dX3_isKnown_13 : decode cX3_isKnown 13 = .ok (.invokestatic 146, 3) := by decide +kernel
theorem dX3_isKnown_16 : decode cX3_isKnown 16 = .ok (.ireturn, 1) := by decide +kernel
set_option maxRecDepth 20000 in
theorem ggX3_guess_X3_checkJar : GoodIn wsX3_guess wsX3_checkJar := goodIn_ca (goodIn_r _ [11, 12, 13, 4, 14, 15, 16, 17, 18, 19, 74, 75, 76, 77, 78, 79, 80, 81, 82, 83, 84] (by decide +kernel) (by decide +kernel)) (goodIn_sub (fun _ h => List.mem_cons_of_mem _ (List.mem_append_left _ (List.mem_append_right _ h))) (by decide +kernel))
set_option maxRecDepth 20000 in
theorem gX3_guess_X3_checkJar : GoodIn wsX3_guess (wsV RX3 49 RX3 yX3_checkJar wsX3_checkJar) := goodIn_app (goodIn_of _ (by decide +kernel)) ggX3_guess_X3_checkJar
set_option maxRecDepth 20000 in
theorem ggX3_guess_X3_checkVolume : GoodIn wsX3_guess wsX3_checkVolume := goodIn_ca (goodIn_r _ [22, 23, 24, 25, 26, 10, 27] (by decide +kernel) (by decide +kernel)) (goodIn_sub (fun _ h => List.mem_cons_of_mem _ (List.mem_append_right _ h)) (by decide +kernel))
set_option maxRecDepth 20000 in
theorem gX3_guess_X3_checkVolume : GoodIn wsX3_guess (va_wsS RX3 136 yX3_checkVolume wsX3_checkVolume) := goodIn_app (goodIn_of _ (by decide +kernel)) ggX3_guess_X3_checkVolume
set_option maxRecDepth 20000 in
theorem ggX3_guess_X0_volumesFor : GoodIn wsX3_guess wsX0_volumesFor := goodIn_r _ [32, 33, 34, 35, 36, 31, 37, 38, 39, 40, 41, 42, 43, 44, 45, 46, 17, 47, 19, 48, 49, 50, 51, 52, 53, 54, 55, 56, 57, 58, 59, 60, 85, 86, 87, 88, 89, 83, 84] (by decide +kernel) (by decide +kernel)
set_option maxRecDepth 20000 in
theorem gX3_guess_X0_volumesFor : GoodIn wsX3_guess (wsV RX3 139 RX0 yX0_volumesFor wsX0_volumesFor) := goodIn_app (goodIn_of _ (by decide +kernel)) ggX3_guess_X0_volumesFor
set_option maxRecDepth 20000 in
theorem ggX3_guess_X3_isAmong : GoodIn wsX3_guess wsX3_isAmong := goodIn_r _ [63] (by decide +kernel) (by decide +kernel)
set_option maxRecDepth 20000 in
theorem gX3_guess_X3_isAmong : GoodIn wsX3_guess (va_wsS RX3 142 yX3_isAmong wsX3_isAmong) := goodIn_app (goodIn_of _ (by decide +kernel)) ggX3_guess_X3_isAmong
set_option maxRecDepth 20000 in
theorem ggX3_guess_X1_volumeAt : GoodIn wsX3_guess wsX1_volumeAt := goodIn_r _ [60, 19, 83, 84] (by decide +kernel) (by decide +kernel)
set_option maxRecDepth 20000 in
theorem gX3_guess_X1_volumeAt : GoodIn wsX3_guess (wsV RX3 91 RX1 yX1_volumeAt wsX1_volumeAt) := goodIn_app (goodIn_of _ (by decide +kernel)) ggX3_guess_X1_volumeAt
set_option maxRecDepth 20000 in
theorem ggX3_guess_X0_learn : GoodIn wsX3_guess wsX0_learn := goodIn_r _ [68, 33, 34, 35, 36, 31, 37, 38, 39, 40, 41, 42, 43, 44, 45, 46, 17, 47, 19, 48, 49, 50, 51, 52, 53, 54, 55, 56, 57, 58, 59, 60, 69, 70, 71, 72, 73, 85, 86, 87, 88, 89, 83, 84] (by decide +kernel) (by decide +kernel)
set_option maxRecDepth 20000 in
theorem gX3_guess_X0_learn : GoodIn wsX3_guess (wsV RX3 151 RX0 yX0_learn wsX0_learn) := goodIn_app (goodIn_of _ (by decide +kernel)) ggX3_guess_X0_learn
theorem dX3_guess_0 : decode cX3_guess 0 = .ok (.aload_n 0, 1) := by decide +kernel
theorem dX3_guess_1 : decode cX3_guess 1 = .ok (.iload_n 1, 1) := by decide +kernel
theorem dX3_guess_2 : decode cX3_guess 2 = .ok (.invokevirtual 49, 3) := by decide +kernel
theorem dX3_guess_5 : decode cX3_guess 5 = .ok (.iload_n 2, 1) := by decide +kernel
theorem dX3_guess_6 : decode cX3_guess 6 = .ok (.invokestatic 136, 3) := by decide +kernel
theorem dX3_guess_9 : decode cX3_guess 9 = .ok (.aload_n 0, 1) := by decide +kernel
theorem dX3_guess_10 : decode cX3_guess 10 = .ok (.getfield 26, 3) := by decide +kernel
theorem dX3_guess_13 : decode cX3_guess 13 = .ok (.iload_n 1, 1) := by decide +kernel
theorem dX3_guess_14 : decode cX3_guess 14 = .ok (.invokevirtual 139, 3) := by decide +kernel
theorem dX3_guess_17 : decode cX3_guess 17 = .ok (.iload_n 2, 1) := by decide +kernel
theorem dX3_guess_18 : decode cX3_guess 18 = .ok (.invokestatic 142, 3) := by decide +kernel
theorem dX3_guess_21 : decode cX3_guess 21 = .ok (.ifCond .ne 13, 3) := by decide +kernel
theorem dX3_guess_24 : decode cX3_guess 24 = .ok (.new 78, 3) := by decide +kernel
theorem dX3_guess_27 : decode cX3_guess 27 = .ok (.dup, 1) := by decide +kernel
theorem dX3_guess_28 : decode cX3_guess 28 = .ok (.ldc 149, 2) := by decide +kernel
theorem dX3_guess_30 : decode cX3_guess 30 = .ok (.invokespecial 82, 3) := by decide +kernel
theorem dX3_guess_33 : decode cX3_guess 33 = .ok (.athrow, 1) := by decide +kernel
theorem dX3_guess_34 : decode cX3_guess 34 = .ok (.aload_n 0, 1) := by decide +kernel
theorem dX3_guess_35 : decode cX3_guess 35 = .ok (.getfield 10, 3) := by decide +kernel
theorem dX3_guess_38 : decode cX3_guess 38 = .ok (.iload_n 1, 1) := by decide +kernel
theorem dX3_guess_39 : decode cX3_guess 39 = .ok (.invokevirtual 91, 3) := by decide +kernel
theorem dX3_guess_42 : decode cX3_guess 42 = .ok (.iload_n 2, 1) := by decide +kernel
theorem dX3_guess_43 : decode cX3_guess 43 = .ok (.if_icmp .ne 7, 3) := by decide +kernel
theorem dX3_guess_46 : decode cX3_guess 46 = .ok (.iconst 1, 1) := by decide +kernel
theorem dX3_guess_47 : decode cX3_guess 47 = .ok (.goto 4, 3) := by decide +kernel
theorem dX3_guess_50 : decode cX3_guess 50 = .ok (.iconst 0, 1) := by decide +kernel
theorem dX3_guess_51 : decode cX3_guess 51 = .ok (.istore_n 3, 1) := by decide +kernel
theorem dX3_guess_52 : decode cX3_guess 52 = .ok (.aload_n 0, 1) := by decide +kernel
theorem dX3_guess_53 : decode cX3_guess 53 = .ok (.getfield 26, 3) := by decide +kernel
theorem dX3_guess_56 : decode cX3_guess 56 = .ok (.iload_n 1, 1) := by decide +kernel
theorem dX3_guess_57 : decode cX3_guess 57 = .ok (.iload_n 2, 1) := by decide +kernel
theorem dX3_guess_58 : decode cX3_guess 58 = .ok (.iload_n 3, 1) := by decide +kernel
theorem dX3_guess_59 : decode cX3_guess 59 = .ok (.invokevirtual 151, 3) := by decide +kernel
theorem dX3_guess_62 : decode cX3_guess 62 = .ok (.aload_n 0, 1) := by decide +kernel
theorem dX3_guess_63 : decode cX3_guess 63 = .ok (.dup, 1) := by decide +kernel
theorem dX3_guess_64 : decode cX3_guess 64 = .ok (.getfield 155, 3) := by decide +kernel
theorem dX3_guess_67 : decode cX3_guess 67 = .ok (.iconst 1, 1) := by decide +kernel
theorem dX3_guess_68 : decode cX3_guess 68 = .ok (.iadd, 1) := by decide +kernel
theorem dX3_guess_69 : decode cX3_guess 69 = .ok (.putfield 155, 3) := by decide +kernel
theorem dX3_guess_72 : decode cX3_guess 72 = .ok (.iload_n 3, 1) := by decide +kernel
theorem dX3_guess_73 : decode cX3_guess 73 = .ok (.ifCond .ne 13, 3) := by decide +kernel
theorem dX3_guess_76 : decode cX3_guess 76 = .ok (.aload_n 0, 1) := by decide +kernel
theorem dX3_guess_77 : decode cX3_guess 77 = .ok (.dup, 1) := by decide +kernel
theorem dX3_guess_78 : decode cX3_guess 78 = .ok (.getfield 158, 3) := by decide +kernel
theorem dX3_guess_81 : decode cX3_guess 81 = .ok (.iconst 1, 1) := by decide +kernel
theorem dX3_guess_82 : decode cX3_guess 82 = .ok (.iadd, 1) := by decide +kernel
theorem dX3_guess_83 : decode cX3_guess 83 = .ok (.putfield 158, 3) := by decide +kernel
theorem dX3_guess_86 : decode cX3_guess 86 = .ok (.iload_n 3, 1) := by decide +kernel
theorem dX3_guess_87 : decode cX3_guess 87 = .ok (.ireturn, 1) := by decide +kernel
theorem dX3_guesses_0 : decode cX3_guesses 0 = .ok (.aload_n 0, 1) := by decide +kernel
theorem dX3_guesses_1 : decode cX3_guesses 1 = .ok (.getfield 155, 3) := by decide +kernel
theorem dX3_guesses_4 : decode cX3_guesses 4 = .ok (.ireturn, 1) := by decide +kernel
theorem dX3_wrongGuesses_0 : decode cX3_wrongGuesses 0 = .ok (.aload_n 0, 1) := by decide +kernel
theorem dX3_wrongGuesses_1 : decode cX3_wrongGuesses 1 = .ok (.getfield 158, 3) := by decide +kernel
theorem dX3_wrongGuesses_4 : decode cX3_wrongGuesses 4 = .ok (.ireturn, 1) := by decide +kernel
set_option maxRecDepth 20000 in
theorem ggX3_leftAtMost_X3_checkPour : GoodIn wsX3_leftAtMost wsX3_checkPour := goodIn_ca (goodIn_ca (goodIn_r _ [6, 7, 8, 9, 10, 11, 5, 12, 13, 14, 15, 16, 17, 18, 19, 20, 21, 97, 98, 99, 100, 101, 102, 103, 104, 105, 106, 107] (by decide +kernel) (by decide +kernel)) (goodIn_sub (fun _ h => List.mem_cons_of_mem _ (List.mem_append_left _ (List.mem_append_right _ h))) (by decide +kernel))) (goodIn_sub (fun _ h => List.mem_cons_of_mem _ (List.mem_append_right _ h)) (by decide +kernel))
set_option maxRecDepth 20000 in
theorem gX3_leftAtMost_X3_checkPour : GoodIn wsX3_leftAtMost (wsV RX3 57 RX3 yX3_checkPour wsX3_checkPour) := goodIn_app (goodIn_of _ (by decide +kernel)) ggX3_leftAtMost_X3_checkPour
set_option maxRecDepth 20000 in
theorem ggX3_leftAtMost_X3_pourNumber : GoodIn wsX3_leftAtMost wsX3_pourNumber := goodIn_r _ [24] (by decide +kernel) (by decide +kernel)
set_option maxRecDepth 20000 in
theorem gX3_leftAtMost_X3_pourNumber : GoodIn wsX3_leftAtMost (va_wsS RX3 61 yX3_pourNumber wsX3_pourNumber) := goodIn_app (goodIn_of _ (by decide +kernel)) ggX3_leftAtMost_X3_pourNumber
set_option maxRecDepth 20000 in
theorem ggX3_leftAtMost_X0_mostLeftBehind : GoodIn wsX3_leftAtMost wsX0_mostLeftBehind := goodIn_r _ [29, 30, 31, 32, 33, 34, 35, 36, 37, 38, 39, 40, 41, 42, 28, 43, 44, 45, 46, 47, 48, 49, 50, 51, 52, 19, 53, 21, 54, 55, 56, 57, 58, 59, 60, 61, 62, 63, 64, 65, 66, 67, 68, 69, 70, 71, 72, 73, 74, 75, 76, 77, 78, 79, 80, 81, 82, 83, 84, 85, 86, 87, 5, 88, 89, 90, 91, 92, 93, 94, 95, 96, 108, 109, 110, 111, 112, 106, 107] (by decide +kernel) (by decide +kernel)
set_option maxRecDepth 20000 in
theorem gX3_leftAtMost_X0_mostLeftBehind : GoodIn wsX3_leftAtMost (wsV RX3 161 RX0 yX0_mostLeftBehind wsX0_mostLeftBehind) := goodIn_app (goodIn_of _ (by decide +kernel)) ggX3_leftAtMost_X0_mostLeftBehind
theorem dX3_leftAtMost_0 : decode cX3_leftAtMost 0 = .ok (.aload_n 0, 1) := by decide +kernel
theorem dX3_leftAtMost_1 : decode cX3_leftAtMost 1 = .ok (.iload_n 1, 1) := by decide +kernel
theorem dX3_leftAtMost_2 : decode cX3_leftAtMost 2 = .ok (.iload_n 2, 1) := by decide +kernel
theorem dX3_leftAtMost_3 : decode cX3_leftAtMost 3 = .ok (.invokevirtual 57, 3) := by decide +kernel
theorem dX3_leftAtMost_6 : decode cX3_leftAtMost 6 = .ok (.aload_n 0, 1) := by decide +kernel
theorem dX3_leftAtMost_7 : decode cX3_leftAtMost 7 = .ok (.getfield 26, 3) := by decide +kernel
theorem dX3_leftAtMost_10 : decode cX3_leftAtMost 10 = .ok (.iload_n 1, 1) := by decide +kernel
theorem dX3_leftAtMost_11 : decode cX3_leftAtMost 11 = .ok (.iload_n 2, 1) := by decide +kernel
theorem dX3_leftAtMost_12 : decode cX3_leftAtMost 12 = .ok (.invokestatic 61, 3) := by decide +kernel
theorem dX3_leftAtMost_15 : decode cX3_leftAtMost 15 = .ok (.invokevirtual 161, 3) := by decide +kernel
theorem dX3_leftAtMost_18 : decode cX3_leftAtMost 18 = .ok (.ireturn, 1) := by decide +kernel
set_option maxRecDepth 20000 in
theorem ggX3_bestPour_X0_candidatesLeft : GoodIn wsX3_bestPour wsX0_candidatesLeft := goodIn_r _ [7, 8, 100, 101, 102, 103, 104] (by decide +kernel) (by decide +kernel)
set_option maxRecDepth 20000 in
theorem gX3_bestPour_X0_candidatesLeft : GoodIn wsX3_bestPour (wsV RX3 133 RX0 yX0_candidatesLeft wsX0_candidatesLeft) := goodIn_app (goodIn_of _ (by decide +kernel)) ggX3_bestPour_X0_candidatesLeft
set_option maxRecDepth 20000 in
theorem ggX3_bestPour_X1_allows : GoodIn wsX3_bestPour wsX1_allows := goodIn_r _ [13, 14, 15, 16, 12, 17, 18, 105, 106] (by decide +kernel) (by decide +kernel)
set_option maxRecDepth 20000 in
theorem gX3_bestPour_X1_allows : GoodIn wsX3_bestPour (wsV RX3 164 RX1 yX1_allows wsX1_allows) := goodIn_app (goodIn_of _ (by decide +kernel)) ggX3_bestPour_X1_allows
set_option maxRecDepth 20000 in
theorem ggX3_bestPour_X0_mostLeftBehind : GoodIn wsX3_bestPour wsX0_mostLeftBehind := goodIn_r _ [22, 23, 24, 25, 26, 27, 28, 29, 30, 31, 32, 33, 34, 35, 6, 36, 37, 38, 39, 40, 41, 42, 43, 44, 45, 12, 46, 18, 47, 48, 49, 50, 51, 52, 53, 54, 55, 56, 57, 58, 59, 60, 61, 62, 63, 64, 65, 66, 67, 68, 69, 70, 71, 72, 73, 74, 75, 76, 77, 78, 79, 80, 81, 82, 83, 84, 85, 86, 87, 88, 89, 90, 100, 101, 102, 103, 104, 105, 106] (by decide +kernel) (by decide +kernel)
set_option maxRecDepth 20000 in
theorem gX3_bestPour_X0_mostLeftBehind : GoodIn wsX3_bestPour (wsV RX3 161 RX0 yX0_mostLeftBehind wsX0_mostLeftBehind) := goodIn_app (goodIn_of _ (by decide +kernel)) ggX3_bestPour_X0_mostLeftBehind
theorem dX3_bestPour_0 : decode cX3_bestPour 0 = .ok (.iconst (-1), 1) := by decide +kernel
theorem dX3_bestPour_1 : decode cX3_bestPour 1 = .ok (.istore_n 1, 1) := by decide +kernel
theorem dX3_bestPour_2 : decode cX3_bestPour 2 = .ok (.aload_n 0, 1) := by decide +kernel
theorem dX3_bestPour_3 : decode cX3_bestPour 3 = .ok (.getfield 26, 3) := by decide +kernel
theorem dX3_bestPour_6 : decode cX3_bestPour 6 = .ok (.invokevirtual 133, 3) := by decide +kernel
theorem dX3_bestPour_9 : decode cX3_bestPour 9 = .ok (.istore_n 2, 1) := by decide +kernel
theorem dX3_bestPour_10 : decode cX3_bestPour 10 = .ok (.bipush 6, 2) := by decide +kernel
theorem dX3_bestPour_12 : decode cX3_bestPour 12 = .ok (.istore_n 3, 1) := by decide +kernel
theorem dX3_bestPour_13 : decode cX3_bestPour 13 = .ok (.iload_n 3, 1) := by decide +kernel
theorem dX3_bestPour_14 : decode cX3_bestPour 14 = .ok (.bipush 15, 2) := by decide +kernel
theorem dX3_bestPour_16 : decode cX3_bestPour 16 = .ok (.if_icmp .ge 41, 3) := by decide +kernel
theorem dX3_bestPour_19 : decode cX3_bestPour 19 = .ok (.aload_n 0, 1) := by decide +kernel
theorem dX3_bestPour_20 : decode cX3_bestPour 20 = .ok (.getfield 10, 3) := by decide +kernel
theorem dX3_bestPour_23 : decode cX3_bestPour 23 = .ok (.iload_n 3, 1) := by decide +kernel
theorem dX3_bestPour_24 : decode cX3_bestPour 24 = .ok (.invokevirtual 164, 3) := by decide +kernel
theorem dX3_bestPour_27 : decode cX3_bestPour 27 = .ok (.ifCond .eq 24, 3) := by decide +kernel
theorem dX3_bestPour_30 : decode cX3_bestPour 30 = .ok (.aload_n 0, 1) := by decide +kernel
theorem dX3_bestPour_31 : decode cX3_bestPour 31 = .ok (.getfield 26, 3) := by decide +kernel
theorem dX3_bestPour_34 : decode cX3_bestPour 34 = .ok (.iload_n 3, 1) := by decide +kernel
theorem dX3_bestPour_35 : decode cX3_bestPour 35 = .ok (.invokevirtual 161, 3) := by decide +kernel
theorem dX3_bestPour_38 : decode cX3_bestPour 38 = .ok (.istore 4, 2) := by decide +kernel
theorem dX3_bestPour_40 : decode cX3_bestPour 40 = .ok (.iload 4, 2) := by decide +kernel
theorem dX3_bestPour_42 : decode cX3_bestPour 42 = .ok (.iload_n 2, 1) := by decide +kernel
theorem dX3_bestPour_43 : decode cX3_bestPour 43 = .ok (.if_icmp .ge 8, 3) := by decide +kernel
theorem dX3_bestPour_46 : decode cX3_bestPour 46 = .ok (.iload 4, 2) := by decide +kernel
theorem dX3_bestPour_48 : decode cX3_bestPour 48 = .ok (.istore_n 2, 1) := by decide +kernel
theorem dX3_bestPour_49 : decode cX3_bestPour 49 = .ok (.iload_n 3, 1) := by decide +kernel
theorem dX3_bestPour_50 : decode cX3_bestPour 50 = .ok (.istore_n 1, 1) := by decide +kernel
theorem dX3_bestPour_51 : decode cX3_bestPour 51 = .ok (.iinc 3 1, 3) := by decide +kernel
theorem dX3_bestPour_54 : decode cX3_bestPour 54 = .ok (.goto (-41), 3) := by decide +kernel
theorem dX3_bestPour_57 : decode cX3_bestPour 57 = .ok (.iload_n 1, 1) := by decide +kernel
theorem dX3_bestPour_58 : decode cX3_bestPour 58 = .ok (.ireturn, 1) := by decide +kernel
set_option maxRecDepth 20000 in
theorem ggX3_meanAmount_X1_count : GoodIn wsX3_meanAmount wsX1_count := goodIn_r _ [8, 9, 29, 30] (by decide +kernel) (by decide +kernel)
set_option maxRecDepth 20000 in
theorem gX3_meanAmount_X1_count : GoodIn wsX3_meanAmount (wsV RX3 45 RX1 yX1_count wsX1_count) := goodIn_app (goodIn_of _ (by decide +kernel)) ggX3_meanAmount_X1_count
set_option maxRecDepth 20000 in
theorem ggX3_meanAmount_X3_heldInAll : GoodIn wsX3_meanAmount wsX3_heldInAll := goodIn_r _ [14, 1, 15, 16, 17, 7, 18, 19, 20, 21, 22, 23, 24, 25, 26, 27, 28, 29, 30] (by decide +kernel) (by decide +kernel)
set_option maxRecDepth 20000 in
theorem gX3_meanAmount_X3_heldInAll : GoodIn wsX3_meanAmount (wsV RX3 167 RX3 yX3_heldInAll wsX3_heldInAll) := goodIn_app (goodIn_of _ (by decide +kernel)) ggX3_meanAmount_X3_heldInAll
theorem dX3_meanAmount_0 : decode cX3_meanAmount 0 = .ok (.aload_n 0, 1) := by decide +kernel
theorem dX3_meanAmount_1 : decode cX3_meanAmount 1 = .ok (.getfield 10, 3) := by decide +kernel
theorem dX3_meanAmount_4 : decode cX3_meanAmount 4 = .ok (.invokevirtual 45, 3) := by decide +kernel
theorem dX3_meanAmount_7 : decode cX3_meanAmount 7 = .ok (.iconst 2, 1) := by decide +kernel
theorem dX3_meanAmount_8 : decode cX3_meanAmount 8 = .ok (.if_icmp .ne 15, 3) := by decide +kernel
theorem dX3_meanAmount_11 : decode cX3_meanAmount 11 = .ok (.aload_n 0, 1) := by decide +kernel
theorem dX3_meanAmount_12 : decode cX3_meanAmount 12 = .ok (.invokevirtual 167, 3) := by decide +kernel
theorem dX3_meanAmount_15 : decode cX3_meanAmount 15 = .ok (.i2d, 1) := by decide +kernel
theorem dX3_meanAmount_16 : decode cX3_meanAmount 16 = .ok (.ldc2_w 170, 3) := by decide +kernel
theorem dX3_meanAmount_19 : decode cX3_meanAmount 19 = .ok (.ddiv, 1) := by decide +kernel
theorem dX3_meanAmount_20 : decode cX3_meanAmount 20 = .ok (.goto 12, 3) := by decide +kernel
theorem dX3_meanAmount_23 : decode cX3_meanAmount 23 = .ok (.aload_n 0, 1) := by decide +kernel
theorem dX3_meanAmount_24 : decode cX3_meanAmount 24 = .ok (.invokevirtual 167, 3) := by decide +kernel
theorem dX3_meanAmount_27 : decode cX3_meanAmount 27 = .ok (.i2d, 1) := by decide +kernel
theorem dX3_meanAmount_28 : decode cX3_meanAmount 28 = .ok (.ldc2_w 172, 3) := by decide +kernel
theorem dX3_meanAmount_31 : decode cX3_meanAmount 31 = .ok (.ddiv, 1) := by decide +kernel
theorem dX3_meanAmount_32 : decode cX3_meanAmount 32 = .ok (.dreturn, 1) := by decide +kernel
set_option maxRecDepth 20000 in
theorem ggX3_digest_X3_jars : GoodIn wsX3_digest wsX3_jars := goodIn_r _ [8, 3, 9, 10, 11, 12, 13, 14, 223, 224, 225, 226, 227, 228, 229, 230, 231, 232, 233] (by decide +kernel) (by decide +kernel)
set_option maxRecDepth 20000 in
theorem gX3_digest_X3_jars : GoodIn wsX3_digest (wsV RX3 178 RX3 yX3_jars wsX3_jars) := goodIn_app (goodIn_of _ (by decide +kernel)) ggX3_digest_X3_jars
set_option maxRecDepth 20000 in
theorem ggX3_digest_X3_heldInAll : GoodIn wsX3_digest wsX3_heldInAll := goodIn_r _ [18, 3, 19, 20, 21, 12, 22, 23, 223, 224, 225, 226, 227, 228, 229, 230, 231, 232, 233] (by decide +kernel) (by decide +kernel)
set_option maxRecDepth 20000 in
theorem gX3_digest_X3_heldInAll : GoodIn wsX3_digest (wsV RX3 167 RX3 yX3_heldInAll wsX3_heldInAll) := goodIn_app (goodIn_of _ (by decide +kernel)) ggX3_digest_X3_heldInAll
set_option maxRecDepth 20000 in
theorem ggX3_digest_X3_acts : GoodIn wsX3_digest wsX3_acts := goodIn_r _ [27, 28, 223, 224, 225, 226, 227, 228, 229, 230, 231] (by decide +kernel) (by decide +kernel)
set_option maxRecDepth 20000 in
theorem gX3_digest_X3_acts : GoodIn wsX3_digest (wsV RX3 181 RX3 yX3_acts wsX3_acts) := goodIn_app (goodIn_of _ (by decide +kernel)) ggX3_digest_X3_acts
set_option maxRecDepth 20000 in
theorem ggX3_digest_X3_pouredInAll : GoodIn wsX3_digest wsX3_pouredInAll := goodIn_r _ [32, 33, 223, 224, 225, 226, 227, 228, 229, 230, 231] (by decide +kernel) (by decide +kernel)
set_option maxRecDepth 20000 in
theorem gX3_digest_X3_pouredInAll : GoodIn wsX3_digest (wsV RX3 184 RX3 yX3_pouredInAll wsX3_pouredInAll) := goodIn_app (goodIn_of _ (by decide +kernel)) ggX3_digest_X3_pouredInAll
set_option maxRecDepth 20000 in
theorem ggX3_digest_X3_spilledInAll : GoodIn wsX3_digest wsX3_spilledInAll := goodIn_r _ [37, 38, 223, 224, 225, 226, 227, 228, 229, 230, 231] (by decide +kernel) (by decide +kernel)
set_option maxRecDepth 20000 in
theorem gX3_digest_X3_spilledInAll : GoodIn wsX3_digest (wsV RX3 187 RX3 yX3_spilledInAll wsX3_spilledInAll) := goodIn_app (goodIn_of _ (by decide +kernel)) ggX3_digest_X3_spilledInAll
set_option maxRecDepth 20000 in
theorem ggX3_digest_X3_takenInAll : GoodIn wsX3_digest wsX3_takenInAll := goodIn_r _ [42, 43, 223, 224, 225, 226, 227, 228, 229, 230, 231] (by decide +kernel) (by decide +kernel)
set_option maxRecDepth 20000 in
theorem gX3_digest_X3_takenInAll : GoodIn wsX3_digest (wsV RX3 190 RX3 yX3_takenInAll wsX3_takenInAll) := goodIn_app (goodIn_of _ (by decide +kernel)) ggX3_digest_X3_takenInAll
set_option maxRecDepth 20000 in
theorem ggX3_digest_X3_candidates : GoodIn wsX3_digest wsX3_candidates := goodIn_r _ [47, 48, 49, 50, 51, 52, 53, 54, 223, 224, 225, 226, 227, 228, 229, 230, 231, 234, 235, 236, 237, 238] (by decide +kernel) (by decide +kernel)
set_option maxRecDepth 20000 in
theorem gX3_digest_X3_candidates : GoodIn wsX3_digest (wsV RX3 193 RX3 yX3_candidates wsX3_candidates) := goodIn_app (goodIn_of _ (by decide +kernel)) ggX3_digest_X3_candidates
set_option maxRecDepth 20000 in
theorem ggX3_digest_X3_guesses : GoodIn wsX3_digest wsX3_guesses := goodIn_r _ [58, 59, 223, 224, 225, 226, 227, 228, 229, 230, 231] (by decide +kernel) (by decide +kernel)
set_option maxRecDepth 20000 in
theorem gX3_digest_X3_guesses : GoodIn wsX3_digest (wsV RX3 196 RX3 yX3_guesses wsX3_guesses) := goodIn_app (goodIn_of _ (by decide +kernel)) ggX3_digest_X3_guesses
set_option maxRecDepth 20000 in
theorem ggX3_digest_X3_wrongGuesses : GoodIn wsX3_digest wsX3_wrongGuesses := goodIn_r _ [63, 64, 223, 224, 225, 226, 227, 228, 229, 230, 231] (by decide +kernel) (by decide +kernel)
set_option maxRecDepth 20000 in
theorem gX3_digest_X3_wrongGuesses : GoodIn wsX3_digest (wsV RX3 199 RX3 yX3_wrongGuesses wsX3_wrongGuesses) := goodIn_app (goodIn_of _ (by decide +kernel)) ggX3_digest_X3_wrongGuesses
set_option maxRecDepth 20000 in
theorem ggX3_digest_X3_amountsToHave : GoodIn wsX3_digest wsX3_amountsToHave := goodIn_r _ [68, 69, 70, 71, 7, 72, 73, 3, 74, 75, 76, 77, 78, 79, 80, 81, 82, 83, 84, 85, 86, 87, 88, 12, 89, 14, 90, 91, 92, 93, 23, 94, 95, 96, 97, 98, 99, 100, 101, 102, 103, 104, 105, 106, 107, 108, 109, 110, 111, 112, 113, 114, 115, 116, 117, 118, 119, 120, 121, 122, 123, 124, 125, 126, 127, 128, 129, 130, 131, 132, 133, 134, 135, 136, 137, 138, 20, 21, 22, 139, 140, 141, 142, 143, 144, 145, 146, 147, 148, 149, 150, 151, 152, 153, 154, 155, 156, 157, 158, 159, 10, 11, 13, 223, 224, 225, 226, 227, 228, 229, 230, 231, 239, 240, 241, 242, 243, 232, 233] (by decide +kernel) (by decide +kernel)
set_option maxRecDepth 20000 in
theorem gX3_digest_X3_amountsToHave : GoodIn wsX3_digest (wsV RX3 202 RX3 yX3_amountsToHave wsX3_amountsToHave) := goodIn_app (goodIn_of _ (by decide +kernel)) ggX3_digest_X3_amountsToHave
set_option maxRecDepth 20000 in
theorem ggX3_digest_X3_statesToReach : GoodIn wsX3_digest wsX3_statesToReach := goodIn_r _ [163, 69, 70, 71, 7, 72, 73, 3, 74, 75, 76, 77, 78, 79, 80, 81, 82, 83, 84, 85, 86, 87, 88, 12, 89, 14, 90, 91, 92, 93, 23, 94, 95, 96, 97, 98, 99, 100, 101, 102, 103, 104, 105, 106, 107, 108, 109, 110, 111, 112, 113, 114, 115, 116, 117, 118, 119, 120, 121, 122, 123, 124, 125, 126, 127, 128, 129, 130, 131, 132, 133, 134, 135, 136, 137, 138, 20, 21, 22, 139, 140, 141, 142, 143, 144, 145, 146, 164, 165, 166, 167, 223, 224, 225, 226, 227, 228, 229, 230, 231, 239, 240, 241, 242, 243, 232, 233] (by decide +kernel) (by decide +kernel)
set_option maxRecDepth 20000 in
theorem gX3_digest_X3_statesToReach : GoodIn wsX3_digest (wsV RX3 205 RX3 yX3_statesToReach wsX3_statesToReach) := goodIn_app (goodIn_of _ (by decide +kernel)) ggX3_digest_X3_statesToReach
set_option maxRecDepth 20000 in
theorem ggX3_digest_X3_farthest : GoodIn wsX3_digest wsX3_farthest := goodIn_r _ [171, 69, 70, 71, 7, 72, 73, 3, 74, 75, 76, 77, 78, 79, 80, 81, 82, 83, 84, 85, 86, 87, 88, 12, 89, 14, 90, 91, 92, 93, 23, 94, 95, 96, 97, 98, 99, 100, 101, 102, 103, 104, 105, 106, 107, 108, 109, 110, 111, 112, 113, 114, 115, 116, 117, 118, 119, 120, 121, 122, 123, 124, 125, 126, 127, 128, 129, 130, 131, 132, 133, 134, 135, 136, 137, 138, 20, 21, 22, 139, 140, 141, 142, 143, 144, 145, 146, 172, 173, 174, 175, 223, 224, 225, 226, 227, 228, 229, 230, 231, 239, 240, 241, 242, 243, 232, 233] (by decide +kernel) (by decide +kernel)
set_option maxRecDepth 20000 in
theorem gX3_digest_X3_farthest : GoodIn wsX3_digest (wsV RX3 208 RX3 yX3_farthest wsX3_farthest) := goodIn_app (goodIn_of _ (by decide +kernel)) ggX3_digest_X3_farthest
set_option maxRecDepth 20000 in
theorem ggX3_digest_X1_count : GoodIn wsX3_digest wsX1_count := goodIn_r _ [13, 14, 232, 233] (by decide +kernel) (by decide +kernel)
set_option maxRecDepth 20000 in
theorem gX3_digest_X1_count : GoodIn wsX3_digest (wsV RX3 45 RX1 yX1_count wsX1_count) := goodIn_app (goodIn_of _ (by decide +kernel)) ggX3_digest_X1_count
set_option maxRecDepth 20000 in
theorem ggX3_digest_X3_digestOfJar : GoodIn wsX3_digest wsX3_digestOfJar := goodIn_r _ [179, 48, 2, 3, 180, 181, 182, 52, 183, 184, 185, 186, 187, 188, 189, 190, 191, 192, 193, 194, 195, 91, 92, 12, 93, 14, 23, 94, 83, 84, 85, 196, 126, 127, 128, 197, 87, 88, 89, 198, 19, 20, 21, 22, 199, 200, 201, 202, 138, 203, 204, 7, 205, 206, 207, 208, 209, 137, 210, 211, 212, 213, 214, 215, 216, 217, 218, 219, 220, 221, 222, 223, 224, 225, 226, 227, 228, 229, 230, 231, 234, 235, 236, 237, 238, 232, 233] (by decide +kernel) (by decide +kernel)
set_option maxRecDepth 20000 in
theorem gX3_digest_X3_digestOfJar : GoodIn wsX3_digest (wsV RX3 211 RX3 yX3_digestOfJar wsX3_digestOfJar) := goodIn_app (goodIn_of _ (by decide +kernel)) ggX3_digest_X3_digestOfJar
set_option maxRecDepth 20000 in
theorem ggX3_digest_X3_waysFromHere : GoodIn wsX3_digest wsX3_waysFromHere := goodIn_r _ [72, 73, 3, 74, 75, 76, 77, 78, 79, 80, 81, 82, 83, 84, 85, 86, 87, 88, 12, 89, 14, 90, 91, 92, 93, 23, 94, 95, 96, 97, 98, 99, 100, 101, 102, 103, 104, 105, 106, 107, 108, 109, 110, 111, 112, 113, 114, 115, 116, 117, 118, 119, 120, 121, 122, 123, 124, 125, 126, 127, 128, 129, 130, 131, 132, 133, 134, 135, 136, 137, 138, 20, 21, 22, 139, 140, 141, 142, 143, 144, 145, 146, 223, 224, 225, 226, 227, 228, 229, 230, 231, 239, 240, 241, 242, 243, 232, 233] (by decide +kernel) (by decide +kernel)
set_option maxRecDepth 20000 in
theorem gX3_digest_X3_waysFromHere : GoodIn wsX3_digest (wsV RX3 71 RX3 yX3_waysFromHere wsX3_waysFromHere) := goodIn_app (goodIn_of _ (by decide +kernel)) ggX3_digest_X3_waysFromHere
set_option maxRecDepth 20000 in
theorem ggX3_digest_X2_leastActsTo : GoodIn wsX3_digest wsX2_leastActsTo := goodIn_r _ [150, 151, 152, 153, 77, 154, 79, 81, 105, 106, 107, 108, 104, 125, 126, 127, 12, 128, 23, 155, 156, 157, 158, 159, 10, 11, 13, 14, 138, 20, 21, 22, 113, 114, 115, 116, 80, 239, 240, 241, 242, 243, 232, 233] (by decide +kernel) (by decide +kernel)
set_option maxRecDepth 20000 in
theorem gX3_digest_X2_leastActsTo : GoodIn wsX3_digest (wsV RX3 75 RX2 yX2_leastActsTo wsX2_leastActsTo) := goodIn_app (goodIn_of _ (by decide +kernel)) ggX3_digest_X2_leastActsTo
theorem dX3_digest_0 : decode cX3_digest 0 = .ok (.ldc2_w 174, 3) := by decide +kernel
theorem dX3_digest_3 : decode cX3_digest 3 = .ok (.lstore_n 1, 1) := by decide +kernel
theorem dX3_digest_4 : decode cX3_digest 4 = .ok (.lload_n 1, 1) := by decide +kernel
theorem dX3_digest_5 : decode cX3_digest 5 = .ok (.ldc2_w 176, 3) := by decide +kernel
theorem dX3_digest_8 : decode cX3_digest 8 = .ok (.lmul, 1) := by decide +kernel
theorem dX3_digest_9 : decode cX3_digest 9 = .ok (.aload_n 0, 1) := by decide +kernel
theorem dX3_digest_10 : decode cX3_digest 10 = .ok (.invokevirtual 178, 3) := by decide +kernel
theorem dX3_digest_13 : decode cX3_digest 13 = .ok (.i2l, 1) := by decide +kernel
theorem dX3_digest_14 : decode cX3_digest 14 = .ok (.ladd, 1) := by decide +kernel
theorem dX3_digest_15 : decode cX3_digest 15 = .ok (.lstore_n 1, 1) := by decide +kernel
theorem dX3_digest_16 : decode cX3_digest 16 = .ok (.lload_n 1, 1) := by decide +kernel
theorem dX3_digest_17 : decode cX3_digest 17 = .ok (.ldc2_w 176, 3) := by decide +kernel
theorem dX3_digest_20 : decode cX3_digest 20 = .ok (.lmul, 1) := by decide +kernel
theorem dX3_digest_21 : decode cX3_digest 21 = .ok (.aload_n 0, 1) := by decide +kernel
theorem dX3_digest_22 : decode cX3_digest 22 = .ok (.invokevirtual 167, 3) := by decide +kernel
theorem dX3_digest_25 : decode cX3_digest 25 = .ok (.i2l, 1) := by decide +kernel
theorem dX3_digest_26 : decode cX3_digest 26 = .ok (.ladd, 1) := by decide +kernel
theorem dX3_digest_27 : decode cX3_digest 27 = .ok (.lstore_n 1, 1) := by decide +kernel
theorem dX3_digest_28 : decode cX3_digest 28 = .ok (.lload_n 1, 1) := by decide +kernel
theorem dX3_digest_29 : decode cX3_digest 29 = .ok (.ldc2_w 176, 3) := by decide +kernel
theorem dX3_digest_32 : decode cX3_digest 32 = .ok (.lmul, 1) := by decide +kernel
theorem dX3_digest_33 : decode cX3_digest 33 = .ok (.aload_n 0, 1) := by decide +kernel
theorem dX3_digest_34 : decode cX3_digest 34 = .ok (.invokevirtual 181, 3) := by decide +kernel
theorem dX3_digest_37 : decode cX3_digest 37 = .ok (.i2l, 1) := by decide +kernel
theorem dX3_digest_38 : decode cX3_digest 38 = .ok (.ladd, 1) := by decide +kernel
theorem dX3_digest_39 : decode cX3_digest 39 = .ok (.lstore_n 1, 1) := by decide +kernel
theorem dX3_digest_40 : decode cX3_digest 40 = .ok (.lload_n 1, 1) := by decide +kernel
theorem dX3_digest_41 : decode cX3_digest 41 = .ok (.ldc2_w 176, 3) := by decide +kernel
theorem dX3_digest_44 : decode cX3_digest 44 = .ok (.lmul, 1) := by decide +kernel
theorem dX3_digest_45 : decode cX3_digest 45 = .ok (.aload_n 0, 1) := by decide +kernel
theorem dX3_digest_46 : decode cX3_digest 46 = .ok (.invokevirtual 184, 3) := by decide +kernel
theorem dX3_digest_49 : decode cX3_digest 49 = .ok (.i2l, 1) := by decide +kernel
theorem dX3_digest_50 : decode cX3_digest 50 = .ok (.ladd, 1) := by decide +kernel
theorem dX3_digest_51 : decode cX3_digest 51 = .ok (.lstore_n 1, 1) := by decide +kernel
theorem dX3_digest_52 : decode cX3_digest 52 = .ok (.lload_n 1, 1) := by decide +kernel
theorem dX3_digest_53 : decode cX3_digest 53 = .ok (.ldc2_w 176, 3) := by decide +kernel
theorem dX3_digest_56 : decode cX3_digest 56 = .ok (.lmul, 1) := by decide +kernel
theorem dX3_digest_57 : decode cX3_digest 57 = .ok (.aload_n 0, 1) := by decide +kernel
theorem dX3_digest_58 : decode cX3_digest 58 = .ok (.invokevirtual 187, 3) := by decide +kernel
theorem dX3_digest_61 : decode cX3_digest 61 = .ok (.i2l, 1) := by decide +kernel
theorem dX3_digest_62 : decode cX3_digest 62 = .ok (.ladd, 1) := by decide +kernel
theorem dX3_digest_63 : decode cX3_digest 63 = .ok (.lstore_n 1, 1) := by decide +kernel
theorem dX3_digest_64 : decode cX3_digest 64 = .ok (.lload_n 1, 1) := by decide +kernel
theorem dX3_digest_65 : decode cX3_digest 65 = .ok (.ldc2_w 176, 3) := by decide +kernel
theorem dX3_digest_68 : decode cX3_digest 68 = .ok (.lmul, 1) := by decide +kernel
theorem dX3_digest_69 : decode cX3_digest 69 = .ok (.aload_n 0, 1) := by decide +kernel
theorem dX3_digest_70 : decode cX3_digest 70 = .ok (.invokevirtual 190, 3) := by decide +kernel
theorem dX3_digest_73 : decode cX3_digest 73 = .ok (.i2l, 1) := by decide +kernel
theorem dX3_digest_74 : decode cX3_digest 74 = .ok (.ladd, 1) := by decide +kernel
theorem dX3_digest_75 : decode cX3_digest 75 = .ok (.lstore_n 1, 1) := by decide +kernel
theorem dX3_digest_76 : decode cX3_digest 76 = .ok (.lload_n 1, 1) := by decide +kernel
theorem dX3_digest_77 : decode cX3_digest 77 = .ok (.ldc2_w 176, 3) := by decide +kernel
theorem dX3_digest_80 : decode cX3_digest 80 = .ok (.lmul, 1) := by decide +kernel
theorem dX3_digest_81 : decode cX3_digest 81 = .ok (.aload_n 0, 1) := by decide +kernel
theorem dX3_digest_82 : decode cX3_digest 82 = .ok (.invokevirtual 193, 3) := by decide +kernel
theorem dX3_digest_85 : decode cX3_digest 85 = .ok (.i2l, 1) := by decide +kernel
theorem dX3_digest_86 : decode cX3_digest 86 = .ok (.ladd, 1) := by decide +kernel
theorem dX3_digest_87 : decode cX3_digest 87 = .ok (.lstore_n 1, 1) := by decide +kernel
theorem dX3_digest_88 : decode cX3_digest 88 = .ok (.lload_n 1, 1) := by decide +kernel
theorem dX3_digest_89 : decode cX3_digest 89 = .ok (.ldc2_w 176, 3) := by decide +kernel
theorem dX3_digest_92 : decode cX3_digest 92 = .ok (.lmul, 1) := by decide +kernel
theorem dX3_digest_93 : decode cX3_digest 93 = .ok (.aload_n 0, 1) := by decide +kernel
theorem dX3_digest_94 : decode cX3_digest 94 = .ok (.invokevirtual 196, 3) := by decide +kernel
theorem dX3_digest_97 : decode cX3_digest 97 = .ok (.i2l, 1) := by decide +kernel
theorem dX3_digest_98 : decode cX3_digest 98 = .ok (.ladd, 1) := by decide +kernel
theorem dX3_digest_99 : decode cX3_digest 99 = .ok (.lstore_n 1, 1) := by decide +kernel
theorem dX3_digest_100 : decode cX3_digest 100 = .ok (.lload_n 1, 1) := by decide +kernel
theorem dX3_digest_101 : decode cX3_digest 101 = .ok (.ldc2_w 176, 3) := by decide +kernel
theorem dX3_digest_104 : decode cX3_digest 104 = .ok (.lmul, 1) := by decide +kernel
theorem dX3_digest_105 : decode cX3_digest 105 = .ok (.aload_n 0, 1) := by decide +kernel
theorem dX3_digest_106 : decode cX3_digest 106 = .ok (.invokevirtual 199, 3) := by decide +kernel
theorem dX3_digest_109 : decode cX3_digest 109 = .ok (.i2l, 1) := by decide +kernel
theorem dX3_digest_110 : decode cX3_digest 110 = .ok (.ladd, 1) := by decide +kernel
theorem dX3_digest_111 : decode cX3_digest 111 = .ok (.lstore_n 1, 1) := by decide +kernel
theorem dX3_digest_112 : decode cX3_digest 112 = .ok (.lload_n 1, 1) := by decide +kernel
theorem dX3_digest_113 : decode cX3_digest 113 = .ok (.ldc2_w 176, 3) := by decide +kernel
theorem dX3_digest_116 : decode cX3_digest 116 = .ok (.lmul, 1) := by decide +kernel
theorem dX3_digest_117 : decode cX3_digest 117 = .ok (.aload_n 0, 1) := by decide +kernel
theorem dX3_digest_118 : decode cX3_digest 118 = .ok (.invokevirtual 202, 3) := by decide +kernel
theorem dX3_digest_121 : decode cX3_digest 121 = .ok (.i2l, 1) := by decide +kernel
theorem dX3_digest_122 : decode cX3_digest 122 = .ok (.ladd, 1) := by decide +kernel
theorem dX3_digest_123 : decode cX3_digest 123 = .ok (.lstore_n 1, 1) := by decide +kernel
theorem dX3_digest_124 : decode cX3_digest 124 = .ok (.lload_n 1, 1) := by decide +kernel
theorem dX3_digest_125 : decode cX3_digest 125 = .ok (.ldc2_w 176, 3) := by decide +kernel
theorem dX3_digest_128 : decode cX3_digest 128 = .ok (.lmul, 1) := by decide +kernel
theorem dX3_digest_129 : decode cX3_digest 129 = .ok (.aload_n 0, 1) := by decide +kernel
theorem dX3_digest_130 : decode cX3_digest 130 = .ok (.invokevirtual 205, 3) := by decide +kernel
theorem dX3_digest_133 : decode cX3_digest 133 = .ok (.i2l, 1) := by decide +kernel
theorem dX3_digest_134 : decode cX3_digest 134 = .ok (.ladd, 1) := by decide +kernel
theorem dX3_digest_135 : decode cX3_digest 135 = .ok (.lstore_n 1, 1) := by decide +kernel
theorem dX3_digest_136 : decode cX3_digest 136 = .ok (.lload_n 1, 1) := by decide +kernel
theorem dX3_digest_137 : decode cX3_digest 137 = .ok (.ldc2_w 176, 3) := by decide +kernel
theorem dX3_digest_140 : decode cX3_digest 140 = .ok (.lmul, 1) := by decide +kernel
theorem dX3_digest_141 : decode cX3_digest 141 = .ok (.aload_n 0, 1) := by decide +kernel
theorem dX3_digest_142 : decode cX3_digest 142 = .ok (.invokevirtual 208, 3) := by decide +kernel
theorem dX3_digest_145 : decode cX3_digest 145 = .ok (.i2l, 1) := by decide +kernel
theorem dX3_digest_146 : decode cX3_digest 146 = .ok (.ladd, 1) := by decide +kernel
theorem dX3_digest_147 : decode cX3_digest 147 = .ok (.lstore_n 1, 1) := by decide +kernel
theorem dX3_digest_148 : decode cX3_digest 148 = .ok (.iconst 0, 1) := by decide +kernel
theorem dX3_digest_149 : decode cX3_digest 149 = .ok (.istore_n 3, 1) := by decide +kernel
theorem dX3_digest_150 : decode cX3_digest 150 = .ok (.iload_n 3, 1) := by decide +kernel
theorem dX3_digest_151 : decode cX3_digest 151 = .ok (.aload_n 0, 1) := by decide +kernel
theorem dX3_digest_152 : decode cX3_digest 152 = .ok (.getfield 10, 3) := by decide +kernel
theorem dX3_digest_155 : decode cX3_digest 155 = .ok (.invokevirtual 45, 3) := by decide +kernel
theorem dX3_digest_158 : decode cX3_digest 158 = .ok (.if_icmp .ge 16, 3) := by decide +kernel
theorem dX3_digest_161 : decode cX3_digest 161 = .ok (.aload_n 0, 1) := by decide +kernel
theorem dX3_digest_162 : decode cX3_digest 162 = .ok (.lload_n 1, 1) := by decide +kernel
theorem dX3_digest_163 : decode cX3_digest 163 = .ok (.iload_n 3, 1) := by decide +kernel
theorem dX3_digest_164 : decode cX3_digest 164 = .ok (.invokevirtual 211, 3) := by decide +kernel
theorem dX3_digest_167 : decode cX3_digest 167 = .ok (.lstore_n 1, 1) := by decide +kernel
theorem dX3_digest_168 : decode cX3_digest 168 = .ok (.iinc 3 1, 3) := by decide +kernel
theorem dX3_digest_171 : decode cX3_digest 171 = .ok (.goto (-21), 3) := by decide +kernel
theorem dX3_digest_174 : decode cX3_digest 174 = .ok (.iconst 0, 1) := by decide +kernel
theorem dX3_digest_175 : decode cX3_digest 175 = .ok (.istore_n 3, 1) := by decide +kernel
theorem dX3_digest_176 : decode cX3_digest 176 = .ok (.iload_n 3, 1) := by decide +kernel
theorem dX3_digest_177 : decode cX3_digest 177 = .ok (.bipush 9, 2) := by decide +kernel
theorem dX3_digest_179 : decode cX3_digest 179 = .ok (.if_icmp .gt 25, 3) := by decide +kernel
theorem dX3_digest_182 : decode cX3_digest 182 = .ok (.lload_n 1, 1) := by decide +kernel
theorem dX3_digest_183 : decode cX3_digest 183 = .ok (.ldc2_w 176, 3) := by decide +kernel
theorem dX3_digest_186 : decode cX3_digest 186 = .ok (.lmul, 1) := by decide +kernel
theorem dX3_digest_187 : decode cX3_digest 187 = .ok (.aload_n 0, 1) := by decide +kernel
theorem dX3_digest_188 : decode cX3_digest 188 = .ok (.invokevirtual 71, 3) := by decide +kernel
theorem dX3_digest_191 : decode cX3_digest 191 = .ok (.iload_n 3, 1) := by decide +kernel
theorem dX3_digest_192 : decode cX3_digest 192 = .ok (.invokevirtual 75, 3) := by decide +kernel
theorem dX3_digest_195 : decode cX3_digest 195 = .ok (.i2l, 1) := by decide +kernel
theorem dX3_digest_196 : decode cX3_digest 196 = .ok (.ladd, 1) := by decide +kernel
theorem dX3_digest_197 : decode cX3_digest 197 = .ok (.lstore_n 1, 1) := by decide +kernel
theorem dX3_digest_198 : decode cX3_digest 198 = .ok (.iinc 3 1, 3) := by decide +kernel
theorem dX3_digest_201 : decode cX3_digest 201 = .ok (.goto (-25), 3) := by decide +kernel
theorem dX3_digest_204 : decode cX3_digest 204 = .ok (.lload_n 1, 1) := by decide +kernel
theorem dX3_digest_205 : decode cX3_digest 205 = .ok (.lreturn, 1) := by decide +kernel
set_option maxRecDepth 20000 in
theorem ggX3_digestOfJar_X0_volumesFor : GoodIn wsX3_digestOfJar wsX0_volumesFor := goodIn_r _ [8, 9, 10, 11, 12, 7, 13, 14, 15, 16, 17, 18, 19, 20, 21, 22, 23, 24, 25, 26, 27, 28, 29, 30, 31, 32, 33, 34, 35, 36, 37, 38, 80, 81, 82, 83, 84, 85, 86] (by decide +kernel) (by decide +kernel)
set_option maxRecDepth 20000 in
theorem gX3_digestOfJar_X0_volumesFor : GoodIn wsX3_digestOfJar (wsV RX3 139 RX0 yX0_volumesFor wsX0_volumesFor) := goodIn_app (goodIn_of _ (by decide +kernel)) ggX3_digestOfJar_X0_volumesFor
set_option maxRecDepth 20000 in
theorem ggX3_digestOfJar_X1_volumeAt : GoodIn wsX3_digestOfJar wsX1_volumeAt := goodIn_r _ [38, 25, 85, 86] (by decide +kernel) (by decide +kernel)
set_option maxRecDepth 20000 in
theorem gX3_digestOfJar_X1_volumeAt : GoodIn wsX3_digestOfJar (wsV RX3 91 RX1 yX1_volumeAt wsX1_volumeAt) := goodIn_app (goodIn_of _ (by decide +kernel)) ggX3_digestOfJar_X1_volumeAt
set_option maxRecDepth 20000 in
theorem ggX3_digestOfJar_X1_amountAt : GoodIn wsX3_digestOfJar wsX1_amountAt := goodIn_r _ [43, 26, 85, 86] (by decide +kernel) (by decide +kernel)
set_option maxRecDepth 20000 in
theorem gX3_digestOfJar_X1_amountAt : GoodIn wsX3_digestOfJar (wsV RX3 94 RX1 yX1_amountAt wsX1_amountAt) := goodIn_app (goodIn_of _ (by decide +kernel)) ggX3_digestOfJar_X1_amountAt
set_option maxRecDepth 20000 in
theorem ggX3_digestOfJar_X1_emptyAt : GoodIn wsX3_digestOfJar wsX1_emptyAt := goodIn_r _ [47, 48, 41, 42, 23, 43, 26, 85, 86] (by decide +kernel) (by decide +kernel)
set_option maxRecDepth 20000 in
theorem gX3_digestOfJar_X1_emptyAt : GoodIn wsX3_digestOfJar (wsV RX3 97 RX1 yX1_emptyAt wsX1_emptyAt) := goodIn_app (goodIn_of _ (by decide +kernel)) ggX3_digestOfJar_X1_emptyAt
set_option maxRecDepth 20000 in
theorem ggX3_digestOfJar_X3_oneIf : GoodIn wsX3_digestOfJar wsX3_oneIf := goodIn_r _ [52] (by decide +kernel) (by decide +kernel)
set_option maxRecDepth 20000 in
theorem gX3_digestOfJar_X3_oneIf : GoodIn wsX3_digestOfJar (va_wsS RX3 215 yX3_oneIf wsX3_oneIf) := goodIn_app (goodIn_of _ (by decide +kernel)) ggX3_digestOfJar_X3_oneIf
set_option maxRecDepth 20000 in
theorem ggX3_digestOfJar_X1_fullAt : GoodIn wsX3_digestOfJar wsX1_fullAt := goodIn_r _ [56, 48, 41, 42, 23, 43, 26, 57, 36, 37, 38, 25, 85, 86] (by decide +kernel) (by decide +kernel)
set_option maxRecDepth 20000 in
theorem gX3_digestOfJar_X1_fullAt : GoodIn wsX3_digestOfJar (wsV RX3 100 RX1 yX1_fullAt wsX1_fullAt) := goodIn_app (goodIn_of _ (by decide +kernel)) ggX3_digestOfJar_X1_fullAt
set_option maxRecDepth 20000 in
theorem ggX3_digestOfJar_X3_isOne : GoodIn wsX3_digestOfJar wsX3_isOne := goodIn_r _ [60, 61, 62, 63, 64, 65, 66, 67] (by decide +kernel) (by decide +kernel)
set_option maxRecDepth 20000 in
theorem gX3_digestOfJar_X3_isOne : GoodIn wsX3_digestOfJar (va_wsS RX3 146 yX3_isOne wsX3_isOne) := goodIn_app (goodIn_of _ (by decide +kernel)) ggX3_digestOfJar_X3_isOne
set_option maxRecDepth 20000 in
theorem ggX3_digestOfJar_X3_isAmong : GoodIn wsX3_digestOfJar wsX3_isAmong := goodIn_r _ [70] (by decide +kernel) (by decide +kernel)
set_option maxRecDepth 20000 in
theorem gX3_digestOfJar_X3_isAmong : GoodIn wsX3_digestOfJar (va_wsS RX3 142 yX3_isAmong wsX3_isAmong) := goodIn_app (goodIn_of _ (by decide +kernel)) ggX3_digestOfJar_X3_isAmong
theorem dX3_digestOfJar_0 : decode cX3_digestOfJar 0 = .ok (.aload_n 0, 1) := by decide +kernel
theorem dX3_digestOfJar_1 : decode cX3_digestOfJar 1 = .ok (.getfield 26, 3) := by decide +kernel
theorem dX3_digestOfJar_4 : decode cX3_digestOfJar 4 = .ok (.iload_n 3, 1) := by decide +kernel
theorem dX3_digestOfJar_5 : decode cX3_digestOfJar 5 = .ok (.invokevirtual 139, 3) := by decide +kernel
theorem dX3_digestOfJar_8 : decode cX3_digestOfJar 8 = .ok (.istore 4, 2) := by decide +kernel
theorem dX3_digestOfJar_10 : decode cX3_digestOfJar 10 = .ok (.lload_n 1, 1) := by decide +kernel
theorem dX3_digestOfJar_11 : decode cX3_digestOfJar 11 = .ok (.lstore 5, 2) := by decide +kernel
theorem dX3_digestOfJar_13 : decode cX3_digestOfJar 13 = .ok (.lload 5, 2) := by decide +kernel
theorem dX3_digestOfJar_15 : decode cX3_digestOfJar 15 = .ok (.ldc2_w 176, 3) := by decide +kernel
theorem dX3_digestOfJar_18 : decode cX3_digestOfJar 18 = .ok (.lmul, 1) := by decide +kernel
theorem dX3_digestOfJar_19 : decode cX3_digestOfJar 19 = .ok (.aload_n 0, 1) := by decide +kernel
theorem dX3_digestOfJar_20 : decode cX3_digestOfJar 20 = .ok (.getfield 10, 3) := by decide +kernel
theorem dX3_digestOfJar_23 : decode cX3_digestOfJar 23 = .ok (.iload_n 3, 1) := by decide +kernel
theorem dX3_digestOfJar_24 : decode cX3_digestOfJar 24 = .ok (.invokevirtual 91, 3) := by decide +kernel
theorem dX3_digestOfJar_27 : decode cX3_digestOfJar 27 = .ok (.i2l, 1) := by decide +kernel
theorem dX3_digestOfJar_28 : decode cX3_digestOfJar 28 = .ok (.ladd, 1) := by decide +kernel
theorem dX3_digestOfJar_29 : decode cX3_digestOfJar 29 = .ok (.lstore 5, 2) := by decide +kernel
theorem dX3_digestOfJar_31 : decode cX3_digestOfJar 31 = .ok (.lload 5, 2) := by decide +kernel
theorem dX3_digestOfJar_33 : decode cX3_digestOfJar 33 = .ok (.ldc2_w 176, 3) := by decide +kernel
theorem dX3_digestOfJar_36 : decode cX3_digestOfJar 36 = .ok (.lmul, 1) := by decide +kernel
theorem dX3_digestOfJar_37 : decode cX3_digestOfJar 37 = .ok (.aload_n 0, 1) := by decide +kernel
theorem dX3_digestOfJar_38 : decode cX3_digestOfJar 38 = .ok (.getfield 10, 3) := by decide +kernel
theorem dX3_digestOfJar_41 : decode cX3_digestOfJar 41 = .ok (.iload_n 3, 1) := by decide +kernel
theorem dX3_digestOfJar_42 : decode cX3_digestOfJar 42 = .ok (.invokevirtual 94, 3) := by decide +kernel
theorem dX3_digestOfJar_45 : decode cX3_digestOfJar 45 = .ok (.i2l, 1) := by decide +kernel
theorem dX3_digestOfJar_46 : decode cX3_digestOfJar 46 = .ok (.ladd, 1) := by decide +kernel
theorem dX3_digestOfJar_47 : decode cX3_digestOfJar 47 = .ok (.lstore 5, 2) := by decide +kernel
theorem dX3_digestOfJar_49 : decode cX3_digestOfJar 49 = .ok (.lload 5, 2) := by decide +kernel
theorem dX3_digestOfJar_51 : decode cX3_digestOfJar 51 = .ok (.ldc2_w 176, 3) := by decide +kernel
theorem dX3_digestOfJar_54 : decode cX3_digestOfJar 54 = .ok (.lmul, 1) := by decide +kernel
theorem dX3_digestOfJar_55 : decode cX3_digestOfJar 55 = .ok (.aload_n 0, 1) := by decide +kernel
theorem dX3_digestOfJar_56 : decode cX3_digestOfJar 56 = .ok (.getfield 10, 3) := by decide +kernel
theorem dX3_digestOfJar_59 : decode cX3_digestOfJar 59 = .ok (.iload_n 3, 1) := by decide +kernel
theorem dX3_digestOfJar_60 : decode cX3_digestOfJar 60 = .ok (.invokevirtual 97, 3) := by decide +kernel
theorem dX3_digestOfJar_63 : decode cX3_digestOfJar 63 = .ok (.invokestatic 215, 3) := by decide +kernel
theorem dX3_digestOfJar_66 : decode cX3_digestOfJar 66 = .ok (.i2l, 1) := by decide +kernel
theorem dX3_digestOfJar_67 : decode cX3_digestOfJar 67 = .ok (.ladd, 1) := by decide +kernel
theorem dX3_digestOfJar_68 : decode cX3_digestOfJar 68 = .ok (.lstore 5, 2) := by decide +kernel
theorem dX3_digestOfJar_70 : decode cX3_digestOfJar 70 = .ok (.lload 5, 2) := by decide +kernel
theorem dX3_digestOfJar_72 : decode cX3_digestOfJar 72 = .ok (.ldc2_w 176, 3) := by decide +kernel
theorem dX3_digestOfJar_75 : decode cX3_digestOfJar 75 = .ok (.lmul, 1) := by decide +kernel
theorem dX3_digestOfJar_76 : decode cX3_digestOfJar 76 = .ok (.aload_n 0, 1) := by decide +kernel
theorem dX3_digestOfJar_77 : decode cX3_digestOfJar 77 = .ok (.getfield 10, 3) := by decide +kernel
theorem dX3_digestOfJar_80 : decode cX3_digestOfJar 80 = .ok (.iload_n 3, 1) := by decide +kernel
theorem dX3_digestOfJar_81 : decode cX3_digestOfJar 81 = .ok (.invokevirtual 100, 3) := by decide +kernel
theorem dX3_digestOfJar_84 : decode cX3_digestOfJar 84 = .ok (.invokestatic 215, 3) := by decide +kernel
theorem dX3_digestOfJar_87 : decode cX3_digestOfJar 87 = .ok (.i2l, 1) := by decide +kernel
theorem dX3_digestOfJar_88 : decode cX3_digestOfJar 88 = .ok (.ladd, 1) := by decide +kernel
theorem dX3_digestOfJar_89 : decode cX3_digestOfJar 89 = .ok (.lstore 5, 2) := by decide +kernel
theorem dX3_digestOfJar_91 : decode cX3_digestOfJar 91 = .ok (.lload 5, 2) := by decide +kernel
theorem dX3_digestOfJar_93 : decode cX3_digestOfJar 93 = .ok (.ldc2_w 176, 3) := by decide +kernel
theorem dX3_digestOfJar_96 : decode cX3_digestOfJar 96 = .ok (.lmul, 1) := by decide +kernel
theorem dX3_digestOfJar_97 : decode cX3_digestOfJar 97 = .ok (.iload 4, 2) := by decide +kernel
theorem dX3_digestOfJar_99 : decode cX3_digestOfJar 99 = .ok (.invokestatic 146, 3) := by decide +kernel
theorem dX3_digestOfJar_102 : decode cX3_digestOfJar 102 = .ok (.invokestatic 215, 3) := by decide +kernel
theorem dX3_digestOfJar_105 : decode cX3_digestOfJar 105 = .ok (.i2l, 1) := by decide +kernel
theorem dX3_digestOfJar_106 : decode cX3_digestOfJar 106 = .ok (.ladd, 1) := by decide +kernel
theorem dX3_digestOfJar_107 : decode cX3_digestOfJar 107 = .ok (.lstore 5, 2) := by decide +kernel
theorem dX3_digestOfJar_109 : decode cX3_digestOfJar 109 = .ok (.iconst 1, 1) := by decide +kernel
theorem dX3_digestOfJar_110 : decode cX3_digestOfJar 110 = .ok (.istore 7, 2) := by decide +kernel
theorem dX3_digestOfJar_112 : decode cX3_digestOfJar 112 = .ok (.iload 7, 2) := by decide +kernel
theorem dX3_digestOfJar_114 : decode cX3_digestOfJar 114 = .ok (.bipush 9, 2) := by decide +kernel
theorem dX3_digestOfJar_116 : decode cX3_digestOfJar 116 = .ok (.if_icmp .gt 29, 3) := by decide +kernel
theorem dX3_digestOfJar_119 : decode cX3_digestOfJar 119 = .ok (.lload 5, 2) := by decide +kernel
theorem dX3_digestOfJar_121 : decode cX3_digestOfJar 121 = .ok (.ldc2_w 176, 3) := by decide +kernel
theorem dX3_digestOfJar_124 : decode cX3_digestOfJar 124 = .ok (.lmul, 1) := by decide +kernel
theorem dX3_digestOfJar_125 : decode cX3_digestOfJar 125 = .ok (.iload 4, 2) := by decide +kernel
theorem dX3_digestOfJar_127 : decode cX3_digestOfJar 127 = .ok (.iload 7, 2) := by decide +kernel
theorem dX3_digestOfJar_129 : decode cX3_digestOfJar 129 = .ok (.invokestatic 142, 3) := by decide +kernel
theorem dX3_digestOfJar_132 : decode cX3_digestOfJar 132 = .ok (.invokestatic 215, 3) := by decide +kernel
theorem dX3_digestOfJar_135 : decode cX3_digestOfJar 135 = .ok (.i2l, 1) := by decide +kernel
theorem dX3_digestOfJar_136 : decode cX3_digestOfJar 136 = .ok (.ladd, 1) := by decide +kernel
theorem dX3_digestOfJar_137 : decode cX3_digestOfJar 137 = .ok (.lstore 5, 2) := by decide +kernel
theorem dX3_digestOfJar_139 : decode cX3_digestOfJar 139 = .ok (.iinc 7 1, 3) := by decide +kernel
theorem dX3_digestOfJar_142 : decode cX3_digestOfJar 142 = .ok (.goto (-30), 3) := by decide +kernel
theorem dX3_digestOfJar_145 : decode cX3_digestOfJar 145 = .ok (.lload 5, 2) := by decide +kernel
theorem dX3_digestOfJar_147 : decode cX3_digestOfJar 147 = .ok (.lreturn, 1) := by decide +kernel
set_option maxRecDepth 20000 in
theorem ggX3_begin_X1_layEmpty : GoodIn wsX3_begin wsX1_layEmpty := goodIn_r _ [14, 15, 16, 17, 18, 19, 20, 48, 49] (by decide +kernel) (by decide +kernel)
set_option maxRecDepth 20000 in
theorem gX3_begin_X1_layEmpty : GoodIn wsX3_begin (wsV RX3 219 RX1 yX1_layEmpty wsX1_layEmpty) := goodIn_app (goodIn_of _ (by decide +kernel)) ggX3_begin_X1_layEmpty
set_option maxRecDepth 20000 in
theorem ggX3_begin_X2_forget : GoodIn wsX3_begin wsX2_forget := goodIn_r _ [25, 26, 50, 51, 52, 53, 54] (by decide +kernel) (by decide +kernel)
set_option maxRecDepth 20000 in
theorem gX3_begin_X2_forget : GoodIn wsX3_begin (wsV RX3 222 RX2 yX2_forget wsX2_forget) := goodIn_app (goodIn_of _ (by decide +kernel)) ggX3_begin_X2_forget
set_option maxRecDepth 20000 in
theorem ggX3_begin_X1_count : GoodIn wsX3_begin wsX1_count := goodIn_r _ [30, 15, 48, 49] (by decide +kernel) (by decide +kernel)
set_option maxRecDepth 20000 in
theorem gX3_begin_X1_count : GoodIn wsX3_begin (wsV RX3 45 RX1 yX1_count wsX1_count) := goodIn_app (goodIn_of _ (by decide +kernel)) ggX3_begin_X1_count
set_option maxRecDepth 20000 in
theorem ggX3_begin_X0_beginWith : GoodIn wsX3_begin wsX0_beginWith := goodIn_r _ [35, 36, 37, 38, 55, 56, 57, 58, 59] (by decide +kernel) (by decide +kernel)
set_option maxRecDepth 20000 in
theorem gX3_begin_X0_beginWith : GoodIn wsX3_begin (wsV RX3 225 RX0 yX0_beginWith wsX0_beginWith) := goodIn_app (goodIn_of _ (by decide +kernel)) ggX3_begin_X0_beginWith
theorem dX3_begin_0 : decode cX3_begin 0 = .ok (.aload_n 0, 1) := by decide +kernel
theorem dX3_begin_1 : decode cX3_begin 1 = .ok (.getfield 10, 3) := by decide +kernel
theorem dX3_begin_4 : decode cX3_begin 4 = .ok (.iload_n 1, 1) := by decide +kernel
theorem dX3_begin_5 : decode cX3_begin 5 = .ok (.iload_n 2, 1) := by decide +kernel
theorem dX3_begin_6 : decode cX3_begin 6 = .ok (.iload_n 3, 1) := by decide +kernel
theorem dX3_begin_7 : decode cX3_begin 7 = .ok (.invokevirtual 219, 3) := by decide +kernel
theorem dX3_begin_10 : decode cX3_begin 10 = .ok (.aload_n 0, 1) := by decide +kernel
theorem dX3_begin_11 : decode cX3_begin 11 = .ok (.getfield 19, 3) := by decide +kernel
theorem dX3_begin_14 : decode cX3_begin 14 = .ok (.invokevirtual 222, 3) := by decide +kernel
theorem dX3_begin_17 : decode cX3_begin 17 = .ok (.aload_n 0, 1) := by decide +kernel
theorem dX3_begin_18 : decode cX3_begin 18 = .ok (.getfield 26, 3) := by decide +kernel
theorem dX3_begin_21 : decode cX3_begin 21 = .ok (.aload_n 0, 1) := by decide +kernel
theorem dX3_begin_22 : decode cX3_begin 22 = .ok (.getfield 10, 3) := by decide +kernel
theorem dX3_begin_25 : decode cX3_begin 25 = .ok (.invokevirtual 45, 3) := by decide +kernel
theorem dX3_begin_28 : decode cX3_begin 28 = .ok (.invokevirtual 225, 3) := by decide +kernel
theorem dX3_begin_31 : decode cX3_begin 31 = .ok (.aload_n 0, 1) := by decide +kernel
theorem dX3_begin_32 : decode cX3_begin 32 = .ok (.iconst 0, 1) := by decide +kernel
theorem dX3_begin_33 : decode cX3_begin 33 = .ok (.putfield 103, 3) := by decide +kernel
theorem dX3_begin_36 : decode cX3_begin 36 = .ok (.aload_n 0, 1) := by decide +kernel
theorem dX3_begin_37 : decode cX3_begin 37 = .ok (.iconst 0, 1) := by decide +kernel
theorem dX3_begin_38 : decode cX3_begin 38 = .ok (.putfield 107, 3) := by decide +kernel
theorem dX3_begin_41 : decode cX3_begin 41 = .ok (.aload_n 0, 1) := by decide +kernel
theorem dX3_begin_42 : decode cX3_begin 42 = .ok (.iconst 0, 1) := by decide +kernel
theorem dX3_begin_43 : decode cX3_begin 43 = .ok (.putfield 110, 3) := by decide +kernel
theorem dX3_begin_46 : decode cX3_begin 46 = .ok (.aload_n 0, 1) := by decide +kernel
theorem dX3_begin_47 : decode cX3_begin 47 = .ok (.iconst 0, 1) := by decide +kernel
theorem dX3_begin_48 : decode cX3_begin 48 = .ok (.putfield 113, 3) := by decide +kernel
theorem dX3_begin_51 : decode cX3_begin 51 = .ok (.aload_n 0, 1) := by decide +kernel
theorem dX3_begin_52 : decode cX3_begin 52 = .ok (.iconst 0, 1) := by decide +kernel
theorem dX3_begin_53 : decode cX3_begin 53 = .ok (.putfield 155, 3) := by decide +kernel
theorem dX3_begin_56 : decode cX3_begin 56 = .ok (.aload_n 0, 1) := by decide +kernel
theorem dX3_begin_57 : decode cX3_begin 57 = .ok (.iconst 0, 1) := by decide +kernel
theorem dX3_begin_58 : decode cX3_begin 58 = .ok (.putfield 158, 3) := by decide +kernel
theorem dX3_begin_61 : decode cX3_begin 61 = .ok (.return_, 1) := by decide +kernel
set_option maxRecDepth 20000 in
theorem ggX3_doAct_X1_change : GoodIn wsX3_doAct wsX1_change := goodIn_r _ [12, 13, 14, 15, 16, 17, 18, 19, 11, 20, 21, 22, 23, 24, 25, 26, 27, 28, 29, 30, 104, 105] (by decide +kernel) (by decide +kernel)
set_option maxRecDepth 20000 in
theorem gX3_doAct_X1_change : GoodIn wsX3_doAct (wsV RX3 228 RX1 yX1_change wsX1_change) := goodIn_app (goodIn_of _ (by decide +kernel)) ggX3_doAct_X1_change
set_option maxRecDepth 20000 in
theorem ggX3_doAct_X2_forget : GoodIn wsX3_doAct wsX2_forget := goodIn_r _ [35, 36, 106, 107, 108, 109, 110] (by decide +kernel) (by decide +kernel)
set_option maxRecDepth 20000 in
theorem gX3_doAct_X2_forget : GoodIn wsX3_doAct (wsV RX3 222 RX2 yX2_forget wsX2_forget) := goodIn_app (goodIn_of _ (by decide +kernel)) ggX3_doAct_X2_forget
set_option maxRecDepth 20000 in
theorem ggX3_doAct_X1_look : GoodIn wsX3_doAct wsX1_look := goodIn_r _ [40, 41, 42, 43, 11, 44, 22, 23, 24, 25, 26, 45, 46, 47, 48, 49, 50, 51, 17, 18, 19, 20, 21, 104, 105] (by decide +kernel) (by decide +kernel)
set_option maxRecDepth 20000 in
theorem gX3_doAct_X1_look : GoodIn wsX3_doAct (wsV RX3 231 RX1 yX1_look wsX1_look) := goodIn_app (goodIn_of _ (by decide +kernel)) ggX3_doAct_X1_look
set_option maxRecDepth 20000 in
theorem ggX3_doAct_X0_see : GoodIn wsX3_doAct wsX0_see := goodIn_r _ [56, 57, 58, 59, 60, 55, 61, 62, 63, 64, 65, 66, 67, 68, 69, 70, 11, 71, 21, 26, 72, 73, 74, 75, 76, 77, 78, 79, 80, 9, 10, 12, 13, 14, 15, 16, 17, 18, 19, 20, 22, 23, 24, 25, 27, 28, 29, 30, 81, 38, 39, 40, 41, 42, 43, 44, 45, 46, 47, 48, 49, 50, 51, 82, 83, 84, 85, 86, 87, 88, 89, 90, 91, 92, 93, 94, 111, 112, 113, 114, 115, 104, 105] (by decide +kernel) (by decide +kernel)
set_option maxRecDepth 20000 in
theorem gX3_doAct_X0_see : GoodIn wsX3_doAct (wsV RX3 234 RX0 yX0_see wsX0_see) := goodIn_app (goodIn_of _ (by decide +kernel)) ggX3_doAct_X0_see
theorem dX3_doAct_0 : decode cX3_doAct 0 = .ok (.aload_n 0, 1) := by decide +kernel
theorem dX3_doAct_1 : decode cX3_doAct 1 = .ok (.getfield 10, 3) := by decide +kernel
theorem dX3_doAct_4 : decode cX3_doAct 4 = .ok (.iload_n 1, 1) := by decide +kernel
theorem dX3_doAct_5 : decode cX3_doAct 5 = .ok (.invokevirtual 228, 3) := by decide +kernel
theorem dX3_doAct_8 : decode cX3_doAct 8 = .ok (.istore_n 2, 1) := by decide +kernel
theorem dX3_doAct_9 : decode cX3_doAct 9 = .ok (.aload_n 0, 1) := by decide +kernel
theorem dX3_doAct_10 : decode cX3_doAct 10 = .ok (.dup, 1) := by decide +kernel
theorem dX3_doAct_11 : decode cX3_doAct 11 = .ok (.getfield 103, 3) := by decide +kernel
theorem dX3_doAct_14 : decode cX3_doAct 14 = .ok (.iconst 1, 1) := by decide +kernel
theorem dX3_doAct_15 : decode cX3_doAct 15 = .ok (.iadd, 1) := by decide +kernel
theorem dX3_doAct_16 : decode cX3_doAct 16 = .ok (.putfield 103, 3) := by decide +kernel
theorem dX3_doAct_19 : decode cX3_doAct 19 = .ok (.iload_n 1, 1) := by decide +kernel
theorem dX3_doAct_20 : decode cX3_doAct 20 = .ok (.iconst 3, 1) := by decide +kernel
theorem dX3_doAct_21 : decode cX3_doAct 21 = .ok (.if_icmp .ge 16, 3) := by decide +kernel
theorem dX3_doAct_24 : decode cX3_doAct 24 = .ok (.aload_n 0, 1) := by decide +kernel
theorem dX3_doAct_25 : decode cX3_doAct 25 = .ok (.dup, 1) := by decide +kernel
theorem dX3_doAct_26 : decode cX3_doAct 26 = .ok (.getfield 113, 3) := by decide +kernel
theorem dX3_doAct_29 : decode cX3_doAct 29 = .ok (.iload_n 2, 1) := by decide +kernel
theorem dX3_doAct_30 : decode cX3_doAct 30 = .ok (.iadd, 1) := by decide +kernel
theorem dX3_doAct_31 : decode cX3_doAct 31 = .ok (.putfield 113, 3) := by decide +kernel
theorem dX3_doAct_34 : decode cX3_doAct 34 = .ok (.goto 32, 3) := by decide +kernel
theorem dX3_doAct_37 : decode cX3_doAct 37 = .ok (.iload_n 1, 1) := by decide +kernel
theorem dX3_doAct_38 : decode cX3_doAct 38 = .ok (.bipush 6, 2) := by decide +kernel
theorem dX3_doAct_40 : decode cX3_doAct 40 = .ok (.if_icmp .ge 16, 3) := by decide +kernel
theorem dX3_doAct_43 : decode cX3_doAct 43 = .ok (.aload_n 0, 1) := by decide +kernel
theorem dX3_doAct_44 : decode cX3_doAct 44 = .ok (.dup, 1) := by decide +kernel
theorem dX3_doAct_45 : decode cX3_doAct 45 = .ok (.getfield 110, 3) := by decide +kernel
theorem dX3_doAct_48 : decode cX3_doAct 48 = .ok (.iload_n 2, 1) := by decide +kernel
theorem dX3_doAct_49 : decode cX3_doAct 49 = .ok (.iadd, 1) := by decide +kernel
theorem dX3_doAct_50 : decode cX3_doAct 50 = .ok (.putfield 110, 3) := by decide +kernel
theorem dX3_doAct_53 : decode cX3_doAct 53 = .ok (.goto 13, 3) := by decide +kernel
theorem dX3_doAct_56 : decode cX3_doAct 56 = .ok (.aload_n 0, 1) := by decide +kernel
theorem dX3_doAct_57 : decode cX3_doAct 57 = .ok (.dup, 1) := by decide +kernel
theorem dX3_doAct_58 : decode cX3_doAct 58 = .ok (.getfield 107, 3) := by decide +kernel
theorem dX3_doAct_61 : decode cX3_doAct 61 = .ok (.iload_n 2, 1) := by decide +kernel
theorem dX3_doAct_62 : decode cX3_doAct 62 = .ok (.iadd, 1) := by decide +kernel
theorem dX3_doAct_63 : decode cX3_doAct 63 = .ok (.putfield 107, 3) := by decide +kernel
theorem dX3_doAct_66 : decode cX3_doAct 66 = .ok (.aload_n 0, 1) := by decide +kernel
theorem dX3_doAct_67 : decode cX3_doAct 67 = .ok (.getfield 19, 3) := by decide +kernel
theorem dX3_doAct_70 : decode cX3_doAct 70 = .ok (.invokevirtual 222, 3) := by decide +kernel
theorem dX3_doAct_73 : decode cX3_doAct 73 = .ok (.aload_n 0, 1) := by decide +kernel
theorem dX3_doAct_74 : decode cX3_doAct 74 = .ok (.getfield 26, 3) := by decide +kernel
theorem dX3_doAct_77 : decode cX3_doAct 77 = .ok (.iload_n 1, 1) := by decide +kernel
theorem dX3_doAct_78 : decode cX3_doAct 78 = .ok (.aload_n 0, 1) := by decide +kernel
theorem dX3_doAct_79 : decode cX3_doAct 79 = .ok (.getfield 10, 3) := by decide +kernel
theorem dX3_doAct_82 : decode cX3_doAct 82 = .ok (.invokevirtual 231, 3) := by decide +kernel
theorem dX3_doAct_85 : decode cX3_doAct 85 = .ok (.invokevirtual 234, 3) := by decide +kernel
theorem dX3_doAct_88 : decode cX3_doAct 88 = .ok (.iload_n 2, 1) := by decide +kernel
theorem dX3_doAct_89 : decode cX3_doAct 89 = .ok (.ireturn, 1) := by decide +kernel
set_option maxRecDepth 20000 in
theorem ggX3_waysFromHere_X2_explore : GoodIn wsX3_waysFromHere wsX2_explore := goodIn_r _ [7, 8, 9, 10, 11, 12, 13, 14, 15, 16, 17, 18, 19, 20, 21, 22, 23, 24, 25, 26, 27, 28, 29, 30, 31, 32, 33, 6, 34, 35, 36, 37, 38, 39, 40, 41, 42, 43, 44, 45, 46, 47, 48, 49, 50, 51, 52, 53, 54, 55, 56, 57, 58, 59, 60, 61, 62, 63, 64, 65, 66, 67, 68, 69, 70, 71, 72, 73, 74, 75, 76, 77, 78, 79, 80, 81, 91, 92, 93, 94, 95, 96, 97] (by decide +kernel) (by decide +kernel)
set_option maxRecDepth 20000 in
theorem gX3_waysFromHere_X2_explore : GoodIn wsX3_waysFromHere (wsV RX3 237 RX2 yX2_explore wsX2_explore) := goodIn_app (goodIn_of _ (by decide +kernel)) ggX3_waysFromHere_X2_explore
theorem dX3_waysFromHere_0 : decode cX3_waysFromHere 0 = .ok (.aload_n 0, 1) := by decide +kernel
theorem dX3_waysFromHere_1 : decode cX3_waysFromHere 1 = .ok (.getfield 19, 3) := by decide +kernel
theorem dX3_waysFromHere_4 : decode cX3_waysFromHere 4 = .ok (.aload_n 0, 1) := by decide +kernel
theorem dX3_waysFromHere_5 : decode cX3_waysFromHere 5 = .ok (.getfield 10, 3) := by decide +kernel
theorem dX3_waysFromHere_8 : decode cX3_waysFromHere 8 = .ok (.invokevirtual 237, 3) := by decide +kernel
theorem dX3_waysFromHere_11 : decode cX3_waysFromHere 11 = .ok (.aload_n 0, 1) := by decide +kernel
theorem dX3_waysFromHere_12 : decode cX3_waysFromHere 12 = .ok (.getfield 19, 3) := by decide +kernel
theorem dX3_waysFromHere_15 : decode cX3_waysFromHere 15 = .ok (.areturn, 1) := by decide +kernel
set_option maxRecDepth 20000 in
theorem ggX3_checkJar_X1_has : GoodIn wsX3_checkJar wsX1_has := goodIn_r _ [8, 9, 19, 20] (by decide +kernel) (by decide +kernel)
set_option maxRecDepth 20000 in
theorem gX3_checkJar_X1_has : GoodIn wsX3_checkJar (wsV RX3 241 RX1 yX1_has wsX1_has) := goodIn_app (goodIn_of _ (by decide +kernel)) ggX3_checkJar_X1_has
theorem dX3_checkJar_0 : decode cX3_checkJar 0 = .ok (.aload_n 0, 1) := by decide +kernel
theorem dX3_checkJar_1 : decode cX3_checkJar 1 = .ok (.getfield 10, 3) := by decide +kernel
theorem dX3_checkJar_4 : decode cX3_checkJar 4 = .ok (.iload_n 1, 1) := by decide +kernel
theorem dX3_checkJar_5 : decode cX3_checkJar 5 = .ok (.invokevirtual 241, 3) := by decide +kernel
theorem dX3_checkJar_8 : decode cX3_checkJar 8 = .ok (.ifCond .ne 13, 3) := by decide +kernel
theorem dX3_checkJar_11 : decode cX3_checkJar 11 = .ok (.new 244, 3) := by decide +kernel
theorem dX3_checkJar_14 : decode cX3_checkJar 14 = .ok (.dup, 1) := by decide +kernel
theorem dX3_checkJar_15 : decode cX3_checkJar 15 = .ok (.ldc 246, 2) := by decide +kernel
theorem dX3_checkJar_17 : decode cX3_checkJar 17 = .ok (.invokespecial 248, 3) := by decide +kernel
theorem dX3_checkJar_20 : decode cX3_checkJar 20 = .ok (.athrow, 1) := by decide +kernel
theorem dX3_checkJar_21 : decode cX3_checkJar 21 = .ok (.return_, 1) := by decide +kernel
set_option maxRecDepth 20000 in
theorem ggX3_checkPour_X3_checkJar : GoodIn wsX3_checkPour wsX3_checkJar := goodIn_ca (goodIn_r _ [7, 8, 9, 10, 11, 12, 13, 14, 15, 16, 17, 18, 19, 20, 21, 22, 23, 24, 25, 26, 27] (by decide +kernel) (by decide +kernel)) (goodIn_sub (fun _ h => List.mem_cons_of_mem _ (List.mem_append_right _ h)) (by decide +kernel))
set_option maxRecDepth 20000 in
theorem gX3_checkPour_X3_checkJar : GoodIn wsX3_checkPour (wsV RX3 49 RX3 yX3_checkJar wsX3_checkJar) := goodIn_app (goodIn_of _ (by decide +kernel)) ggX3_checkPour_X3_checkJar
theorem dX3_checkPour_0 : decode cX3_checkPour 0 = .ok (.aload_n 0, 1) := by decide +kernel
theorem dX3_checkPour_1 : decode cX3_checkPour 1 = .ok (.iload_n 1, 1) := by decide +kernel
theorem dX3_checkPour_2 : decode cX3_checkPour 2 = .ok (.invokevirtual 49, 3) := by decide +kernel
theorem dX3_checkPour_5 : decode cX3_checkPour 5 = .ok (.aload_n 0, 1) := by decide +kernel
theorem dX3_checkPour_6 : decode cX3_checkPour 6 = .ok (.iload_n 2, 1) := by decide +kernel
theorem dX3_checkPour_7 : decode cX3_checkPour 7 = .ok (.invokevirtual 49, 3) := by decide +kernel
theorem dX3_checkPour_10 : decode cX3_checkPour 10 = .ok (.iload_n 1, 1) := by decide +kernel
theorem dX3_checkPour_11 : decode cX3_checkPour 11 = .ok (.iload_n 2, 1) := by decide +kernel
theorem dX3_checkPour_12 : decode cX3_checkPour 12 = .ok (.if_icmp .ne 13, 3) := by decide +kernel
theorem dX3_checkPour_15 : decode cX3_checkPour 15 = .ok (.new 38, 3) := by decide +kernel
theorem dX3_checkPour_18 : decode cX3_checkPour 18 = .ok (.dup, 1) := by decide +kernel
theorem dX3_checkPour_19 : decode cX3_checkPour 19 = .ok (.ldc 249, 2) := by decide +kernel
theorem dX3_checkPour_21 : decode cX3_checkPour 21 = .ok (.invokespecial 42, 3) := by decide +kernel
theorem dX3_checkPour_24 : decode cX3_checkPour 24 = .ok (.athrow, 1) := by decide +kernel
theorem dX3_checkPour_25 : decode cX3_checkPour 25 = .ok (.return_, 1) := by decide +kernel
theorem dX3_checkAmount_0 : decode cX3_checkAmount 0 = .ok (.iload_n 0, 1) := by decide +kernel
theorem dX3_checkAmount_1 : decode cX3_checkAmount 1 = .ok (.ifCond .lt 9, 3) := by decide +kernel
theorem dX3_checkAmount_4 : decode cX3_checkAmount 4 = .ok (.iload_n 0, 1) := by decide +kernel
theorem dX3_checkAmount_5 : decode cX3_checkAmount 5 = .ok (.bipush 9, 2) := by decide +kernel
theorem dX3_checkAmount_7 : decode cX3_checkAmount 7 = .ok (.if_icmp .le 13, 3) := by decide +kernel
theorem dX3_checkAmount_10 : decode cX3_checkAmount 10 = .ok (.new 38, 3) := by decide +kernel
theorem dX3_checkAmount_13 : decode cX3_checkAmount 13 = .ok (.dup, 1) := by decide +kernel
theorem dX3_checkAmount_14 : decode cX3_checkAmount 14 = .ok (.ldc 251, 2) := by decide +kernel
theorem dX3_checkAmount_16 : decode cX3_checkAmount 16 = .ok (.invokespecial 42, 3) := by decide +kernel
theorem dX3_checkAmount_19 : decode cX3_checkAmount 19 = .ok (.athrow, 1) := by decide +kernel
theorem dX3_checkAmount_20 : decode cX3_checkAmount 20 = .ok (.return_, 1) := by decide +kernel
set_option maxRecDepth 20000 in
theorem ggX3_checkVolume_X3_isVolume : GoodIn wsX3_checkVolume wsX3_isVolume := goodIn_r _ [6] (by decide +kernel) (by decide +kernel)
set_option maxRecDepth 20000 in
theorem gX3_checkVolume_X3_isVolume : GoodIn wsX3_checkVolume (va_wsS RX3 34 yX3_isVolume wsX3_isVolume) := goodIn_app (goodIn_of _ (by decide +kernel)) ggX3_checkVolume_X3_isVolume
theorem dX3_checkVolume_0 : decode cX3_checkVolume 0 = .ok (.iload_n 0, 1) := by decide +kernel
theorem dX3_checkVolume_1 : decode cX3_checkVolume 1 = .ok (.invokestatic 34, 3) := by decide +kernel
theorem dX3_checkVolume_4 : decode cX3_checkVolume 4 = .ok (.ifCond .ne 13, 3) := by decide +kernel
theorem dX3_checkVolume_7 : decode cX3_checkVolume 7 = .ok (.new 38, 3) := by decide +kernel
theorem dX3_checkVolume_10 : decode cX3_checkVolume 10 = .ok (.dup, 1) := by decide +kernel
theorem dX3_checkVolume_11 : decode cX3_checkVolume 11 = .ok (.ldc 253, 2) := by decide +kernel
theorem dX3_checkVolume_13 : decode cX3_checkVolume 13 = .ok (.invokespecial 42, 3) := by decide +kernel
theorem dX3_checkVolume_16 : decode cX3_checkVolume 16 = .ok (.athrow, 1) := by decide +kernel
theorem dX3_checkVolume_17 : decode cX3_checkVolume 17 = .ok (.return_, 1) := by decide +kernel
theorem dX3_checkActs_0 : decode cX3_checkActs 0 = .ok (.iload_n 0, 1) := by decide +kernel
theorem dX3_checkActs_1 : decode cX3_checkActs 1 = .ok (.iload_n 1, 1) := by decide +kernel
theorem dX3_checkActs_2 : decode cX3_checkActs 2 = .ok (.if_icmp .lt 9, 3) := by decide +kernel
theorem dX3_checkActs_5 : decode cX3_checkActs 5 = .ok (.iload_n 0, 1) := by decide +kernel
theorem dX3_checkActs_6 : decode cX3_checkActs 6 = .ok (.bipush 50, 2) := by decide +kernel
theorem dX3_checkActs_8 : decode cX3_checkActs 8 = .ok (.if_icmp .le 13, 3) := by decide +kernel
theorem dX3_checkActs_11 : decode cX3_checkActs 11 = .ok (.new 38, 3) := by decide +kernel
theorem dX3_checkActs_14 : decode cX3_checkActs 14 = .ok (.dup, 1) := by decide +kernel
theorem dX3_checkActs_15 : decode cX3_checkActs 15 = .ok (.ldc 255, 2) := by decide +kernel
theorem dX3_checkActs_17 : decode cX3_checkActs 17 = .ok (.invokespecial 42, 3) := by decide +kernel
theorem dX3_checkActs_20 : decode cX3_checkActs 20 = .ok (.athrow, 1) := by decide +kernel
theorem dX3_checkActs_21 : decode cX3_checkActs 21 = .ok (.return_, 1) := by decide +kernel
theorem dX3_isVolume_0 : decode cX3_isVolume 0 = .ok (.iload_n 0, 1) := by decide +kernel
theorem dX3_isVolume_1 : decode cX3_isVolume 1 = .ok (.iconst 1, 1) := by decide +kernel
theorem dX3_isVolume_2 : decode cX3_isVolume 2 = .ok (.if_icmp .lt 13, 3) := by decide +kernel
theorem dX3_isVolume_5 : decode cX3_isVolume 5 = .ok (.iload_n 0, 1) := by decide +kernel
theorem dX3_isVolume_6 : decode cX3_isVolume 6 = .ok (.bipush 9, 2) := by decide +kernel
theorem dX3_isVolume_8 : decode cX3_isVolume 8 = .ok (.if_icmp .gt 7, 3) := by decide +kernel
theorem dX3_isVolume_11 : decode cX3_isVolume 11 = .ok (.iconst 1, 1) := by decide +kernel
theorem dX3_isVolume_12 : decode cX3_isVolume 12 = .ok (.goto 4, 3) := by decide +kernel
theorem dX3_isVolume_15 : decode cX3_isVolume 15 = .ok (.iconst 0, 1) := by decide +kernel
theorem dX3_isVolume_16 : decode cX3_isVolume 16 = .ok (.ireturn, 1) := by decide +kernel
theorem dX3_pourNumber_0 : decode cX3_pourNumber 0 = .ok (.bipush 6, 2) := by decide +kernel
theorem dX3_pourNumber_2 : decode cX3_pourNumber 2 = .ok (.iconst 3, 1) := by decide +kernel
theorem dX3_pourNumber_3 : decode cX3_pourNumber 3 = .ok (.iload_n 0, 1) := by decide +kernel
theorem dX3_pourNumber_4 : decode cX3_pourNumber 4 = .ok (.imul, 1) := by decide +kernel
theorem dX3_pourNumber_5 : decode cX3_pourNumber 5 = .ok (.iadd, 1) := by decide +kernel
theorem dX3_pourNumber_6 : decode cX3_pourNumber 6 = .ok (.iload_n 1, 1) := by decide +kernel
theorem dX3_pourNumber_7 : decode cX3_pourNumber 7 = .ok (.iadd, 1) := by decide +kernel
theorem dX3_pourNumber_8 : decode cX3_pourNumber 8 = .ok (.ireturn, 1) := by decide +kernel
theorem dX3_isAmong_0 : decode cX3_isAmong 0 = .ok (.iload_n 0, 1) := by decide +kernel
theorem dX3_isAmong_1 : decode cX3_isAmong 1 = .ok (.iload_n 1, 1) := by decide +kernel
theorem dX3_isAmong_2 : decode cX3_isAmong 2 = .ok (.ishr, 1) := by decide +kernel
theorem dX3_isAmong_3 : decode cX3_isAmong 3 = .ok (.iconst 1, 1) := by decide +kernel
theorem dX3_isAmong_4 : decode cX3_isAmong 4 = .ok (.iand, 1) := by decide +kernel
theorem dX3_isAmong_5 : decode cX3_isAmong 5 = .ok (.iconst 1, 1) := by decide +kernel
theorem dX3_isAmong_6 : decode cX3_isAmong 6 = .ok (.if_icmp .ne 7, 3) := by decide +kernel
theorem dX3_isAmong_9 : decode cX3_isAmong 9 = .ok (.iconst 1, 1) := by decide +kernel
theorem dX3_isAmong_10 : decode cX3_isAmong 10 = .ok (.goto 4, 3) := by decide +kernel
theorem dX3_isAmong_13 : decode cX3_isAmong 13 = .ok (.iconst 0, 1) := by decide +kernel
theorem dX3_isAmong_14 : decode cX3_isAmong 14 = .ok (.ireturn, 1) := by decide +kernel
set_option maxRecDepth 20000 in
theorem ggX3_isOne_J6_bitCount_0f7a4 : GoodIn wsX3_isOne wsJ6_bitCount_0f7a4 := goodIn_r _ [4, 5, 6, 7] (by decide +kernel) (by decide +kernel)
set_option maxRecDepth 20000 in
theorem gX3_isOne_J6_bitCount_0f7a4 : GoodIn wsX3_isOne (va_wsS RX3 257 yJ6_bitCount_0f7a4 wsJ6_bitCount_0f7a4) := goodIn_app (goodIn_of _ (by decide +kernel)) ggX3_isOne_J6_bitCount_0f7a4
theorem dX3_isOne_0 : decode cX3_isOne 0 = .ok (.iload_n 0, 1) := by decide +kernel
theorem dX3_isOne_1 : decode cX3_isOne 1 = .ok (.invokestatic 257, 3) := by decide +kernel
theorem dX3_isOne_4 : decode cX3_isOne 4 = .ok (.iconst 1, 1) := by decide +kernel
theorem dX3_isOne_5 : decode cX3_isOne 5 = .ok (.if_icmp .ne 7, 3) := by decide +kernel
theorem dX3_isOne_8 : decode cX3_isOne 8 = .ok (.iconst 1, 1) := by decide +kernel
theorem dX3_isOne_9 : decode cX3_isOne 9 = .ok (.goto 4, 3) := by decide +kernel
theorem dX3_isOne_12 : decode cX3_isOne 12 = .ok (.iconst 0, 1) := by decide +kernel
theorem dX3_isOne_13 : decode cX3_isOne 13 = .ok (.ireturn, 1) := by decide +kernel
theorem dX3_oneIf_0 : decode cX3_oneIf 0 = .ok (.iload_n 0, 1) := by decide +kernel
theorem dX3_oneIf_1 : decode cX3_oneIf 1 = .ok (.ifCond .eq 7, 3) := by decide +kernel
theorem dX3_oneIf_4 : decode cX3_oneIf 4 = .ok (.iconst 1, 1) := by decide +kernel
theorem dX3_oneIf_5 : decode cX3_oneIf 5 = .ok (.goto 4, 3) := by decide +kernel
theorem dX3_oneIf_8 : decode cX3_oneIf 8 = .ok (.iconst 0, 1) := by decide +kernel
theorem dX3_oneIf_9 : decode cX3_oneIf 9 = .ok (.ireturn, 1) := by decide +kernel
