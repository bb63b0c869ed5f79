theorem dL_below_0 : decode cL_below 0 = .ok (.iload_n 0, 1) := by decide +kernel
theorem dL_below_1 : decode cL_below 1 = .ok (.ldc 7, 2) := by decide +kernel
theorem dL_below_3 : decode cL_below 3 = .ok (.iand, 1) := by decide +kernel
theorem dL_below_4 : decode cL_below 4 = .ok (.iload_n 1, 1) := by decide +kernel
theorem dL_below_5 : decode cL_below 5 = .ok (.irem, 1) := by decide +kernel
theorem dL_below_6 : decode cL_below 6 = .ok (.ireturn, 1) := by decide +kernel
theorem dL_cell_0 : decode cL_cell 0 = .ok (.iload_n 1, 1) := by decide +kernel
theorem dL_cell_1 : decode cL_cell 1 = .ok (.aload_n 0, 1) := by decide +kernel
theorem dL_cell_2 : decode cL_cell 2 = .ok (.arraylength, 1) := by decide +kernel
theorem dL_cell_3 : decode cL_cell 3 = .ok (.if_icmp .ge 9, 3) := by decide +kernel
theorem dL_cell_6 : decode cL_cell 6 = .ok (.aload_n 0, 1) := by decide +kernel
theorem dL_cell_7 : decode cL_cell 7 = .ok (.iload_n 1, 1) := by decide +kernel
theorem dL_cell_8 : decode cL_cell 8 = .ok (.iaload, 1) := by decide +kernel
theorem dL_cell_9 : decode cL_cell 9 = .ok (.goto 9, 3) := by decide +kernel
theorem dL_cell_12 : decode cL_cell 12 = .ok (.ldc 8, 2) := by decide +kernel
theorem dL_cell_14 : decode cL_cell 14 = .ok (.iload_n 1, 1) := by decide +kernel
theorem dL_cell_15 : decode cL_cell 15 = .ok (.iconst 3, 1) := by decide +kernel
theorem dL_cell_16 : decode cL_cell 16 = .ok (.iadd, 1) := by decide +kernel
theorem dL_cell_17 : decode cL_cell 17 = .ok (.imul, 1) := by decide +kernel
theorem dL_cell_18 : decode cL_cell 18 = .ok (.ireturn, 1) := by decide +kernel
set_option maxRecDepth 20000 in
theorem ggL_done_X3_fill : GoodIn wsL_done wsX3_fill := goodIn_ca (goodIn_r _ [5, 6, 7, 8, 4, 9, 10, 11, 12, 13, 14, 15, 16, 17, 18, 19, 20, 21, 22, 23, 24, 25, 26, 27, 28, 29, 30, 31, 32, 33, 34, 35, 36, 37, 38, 39, 40, 41, 42, 43, 44, 45, 46, 47, 48, 49, 50, 51, 52, 53, 54, 55, 56, 57, 58, 59, 60, 61, 62, 63, 64, 65, 66, 67, 68, 69, 70, 71, 72, 73, 74, 75, 76, 77, 78, 79, 80, 81, 82, 83, 84, 85, 86, 87, 88, 89, 90, 91, 92, 93, 94, 95, 96, 97, 98, 99, 100, 101, 102, 103, 104, 105, 106, 107, 108, 109, 110, 111, 112, 130, 131, 132, 133, 134, 135, 136, 137, 138, 139, 140, 141, 142, 143, 144, 145, 146, 147, 148, 149, 150] (by decide +kernel) (by decide +kernel)) (goodIn_sub (fun _ h => List.mem_cons_of_mem _ (List.mem_append_left _ (List.mem_append_right _ h))) (by decide +kernel))
set_option maxRecDepth 20000 in
theorem gL_done_X3_fill : GoodIn wsL_done (wsV RL 9 RX3 yX3_fill wsX3_fill) := goodIn_app (goodIn_of _ (by decide +kernel)) ggL_done_X3_fill
set_option maxRecDepth 20000 in
theorem ggL_done_X3_empty : GoodIn wsL_done wsX3_empty := goodIn_ca (goodIn_r _ [116, 6, 7, 8, 4, 9, 10, 11, 12, 13, 14, 15, 16, 17, 18, 19, 20, 21, 22, 23, 24, 25, 26, 27, 28, 29, 30, 31, 32, 33, 34, 35, 36, 37, 38, 39, 40, 41, 42, 43, 44, 45, 46, 47, 48, 49, 50, 51, 52, 53, 54, 55, 56, 57, 58, 59, 60, 61, 62, 63, 64, 65, 66, 67, 68, 69, 70, 71, 72, 73, 74, 75, 76, 77, 78, 79, 80, 81, 82, 83, 84, 85, 86, 87, 88, 89, 90, 91, 92, 93, 94, 95, 96, 97, 98, 99, 100, 101, 102, 103, 104, 105, 106, 107, 108, 109, 110, 111, 112, 130, 131, 132, 133, 134, 135, 136, 137, 138, 139, 140, 141, 142, 143, 144, 145, 146, 147, 148, 149, 150] (by decide +kernel) (by decide +kernel)) (goodIn_sub (fun _ h => List.mem_cons_of_mem _ (List.mem_append_left _ (List.mem_append_right _ h))) (by decide +kernel))
set_option maxRecDepth 20000 in
theorem gL_done_X3_empty : GoodIn wsL_done (wsV RL 15 RX3 yX3_empty wsX3_empty) := goodIn_app (goodIn_of _ (by decide +kernel)) ggL_done_X3_empty
set_option maxRecDepth 20000 in
theorem ggL_done_X3_pour : GoodIn wsL_done wsX3_pour := goodIn_ca (goodIn_ca (goodIn_r _ [120, 121, 122, 123, 4, 124, 125, 126, 6, 7, 8, 9, 10, 11, 12, 13, 14, 15, 16, 17, 18, 127, 128, 129, 19, 20, 21, 22, 23, 24, 25, 26, 27, 28, 29, 30, 31, 32, 33, 34, 35, 36, 37, 38, 39, 40, 41, 42, 43, 44, 45, 46, 47, 48, 49, 50, 51, 52, 53, 54, 55, 56, 57, 58, 59, 60, 61, 62, 63, 64, 65, 66, 67, 68, 69, 70, 71, 72, 73, 74, 75, 76, 77, 78, 79, 80, 81, 82, 83, 84, 85, 86, 87, 88, 89, 90, 91, 92, 93, 94, 95, 96, 97, 98, 99, 100, 101, 102, 103, 104, 105, 106, 107, 108, 109, 110, 111, 112, 130, 131, 132, 133, 134, 135, 136, 137, 138, 139, 140, 141, 142, 143, 144, 145, 146, 147, 148, 149, 150] (by decide +kernel) (by decide +kernel)) (goodIn_sub (fun _ h => List.mem_cons_of_mem _ (List.mem_append_right _ h)) (by decide +kernel))) (goodIn_sub (fun _ h => List.mem_cons_of_mem _ (List.mem_append_left _ (List.mem_append_right _ h))) (by decide +kernel))
set_option maxRecDepth 20000 in
theorem gL_done_X3_pour : GoodIn wsL_done (wsV RL 18 RX3 yX3_pour wsX3_pour) := goodIn_app (goodIn_of _ (by decide +kernel)) ggL_done_X3_pour
theorem dL_done_0 : decode cL_done 0 = .ok (.iload_n 1, 1) := by decide +kernel
theorem dL_done_1 : decode cL_done 1 = .ok (.iconst 3, 1) := by decide +kernel
theorem dL_done_2 : decode cL_done 2 = .ok (.if_icmp .ge 11, 3) := by decide +kernel
theorem dL_done_5 : decode cL_done 5 = .ok (.aload_n 0, 1) := by decide +kernel
theorem dL_done_6 : decode cL_done 6 = .ok (.iload_n 1, 1) := by decide +kernel
theorem dL_done_7 : decode cL_done 7 = .ok (.invokevirtual 9, 3) := by decide +kernel
theorem dL_done_10 : decode cL_done 10 = .ok (.goto 31, 3) := by decide +kernel
theorem dL_done_13 : decode cL_done 13 = .ok (.iload_n 1, 1) := by decide +kernel
theorem dL_done_14 : decode cL_done 14 = .ok (.bipush 6, 2) := by decide +kernel
theorem dL_done_16 : decode cL_done 16 = .ok (.if_icmp .ge 13, 3) := by decide +kernel
theorem dL_done_19 : decode cL_done 19 = .ok (.aload_n 0, 1) := by decide +kernel
theorem dL_done_20 : decode cL_done 20 = .ok (.iload_n 1, 1) := by decide +kernel
theorem dL_done_21 : decode cL_done 21 = .ok (.iconst 3, 1) := by decide +kernel
theorem dL_done_22 : decode cL_done 22 = .ok (.isub, 1) := by decide +kernel
theorem dL_done_23 : decode cL_done 23 = .ok (.invokevirtual 15, 3) := by decide +kernel
theorem dL_done_26 : decode cL_done 26 = .ok (.goto 15, 3) := by decide +kernel
theorem dL_done_29 : decode cL_done 29 = .ok (.aload_n 0, 1) := by decide +kernel
theorem dL_done_30 : decode cL_done 30 = .ok (.iload_n 1, 1) := by decide +kernel
theorem dL_done_31 : decode cL_done 31 = .ok (.iconst 3, 1) := by decide +kernel
theorem dL_done_32 : decode cL_done 32 = .ok (.idiv, 1) := by decide +kernel
theorem dL_done_33 : decode cL_done 33 = .ok (.iconst 2, 1) := by decide +kernel
theorem dL_done_34 : decode cL_done 34 = .ok (.isub, 1) := by decide +kernel
theorem dL_done_35 : decode cL_done 35 = .ok (.iload_n 1, 1) := by decide +kernel
theorem dL_done_36 : decode cL_done 36 = .ok (.iconst 3, 1) := by decide +kernel
theorem dL_done_37 : decode cL_done 37 = .ok (.irem, 1) := by decide +kernel
theorem dL_done_38 : decode cL_done 38 = .ok (.invokevirtual 18, 3) := by decide +kernel
theorem dL_done_41 : decode cL_done 41 = .ok (.ireturn, 1) := by decide +kernel
set_option maxRecDepth 20000 in
theorem ggL_act_L_below : GoodIn wsL_act wsL_below := goodIn_r _ [6, 7] (by decide +kernel) (by decide +kernel)
set_option maxRecDepth 20000 in
theorem gL_act_L_below : GoodIn wsL_act (va_wsS RL 28 yL_below wsL_below) := goodIn_app (goodIn_of _ (by decide +kernel)) ggL_act_L_below
set_option maxRecDepth 20000 in
theorem ggL_act_X4_layOut : GoodIn wsL_act wsX4_layOut := goodIn_r _ [12, 13, 14, 15, 16, 17, 18, 19, 11, 20, 21, 225, 226, 227, 228] (by decide +kernel) (by decide +kernel)
set_option maxRecDepth 20000 in
theorem gL_act_X4_layOut : GoodIn wsL_act (wsV RL 33 RX4 yX4_layOut wsX4_layOut) := goodIn_app (goodIn_of _ (by decide +kernel)) ggL_act_X4_layOut
set_option maxRecDepth 20000 in
theorem ggL_act_X3_layOut : GoodIn wsL_act wsX3_layOut := goodIn_ca (goodIn_r _ [26, 27, 28, 29, 30, 31, 25, 32, 33, 34, 35, 36, 37, 38, 39, 40, 41, 42, 43, 44, 45, 46, 47, 48, 49, 50, 51, 52, 53, 54, 55, 56, 57, 58, 59, 60, 61, 62, 63, 64, 65, 66, 67, 68, 69, 70, 71, 72, 73, 229, 230, 231, 232, 233, 234, 235, 236, 237, 238, 239, 240, 241, 242, 243, 244, 245, 246, 247, 248, 249] (by decide +kernel) (by decide +kernel)) (goodIn_sub (fun _ h => List.mem_cons_of_mem _ (List.mem_append_left _ (List.mem_append_left _ (List.mem_append_right _ h)))) (by decide +kernel))
set_option maxRecDepth 20000 in
theorem gL_act_X3_layOut : GoodIn wsL_act (wsV RL 37 RX3 yX3_layOut wsX3_layOut) := goodIn_app (goodIn_of _ (by decide +kernel)) ggL_act_X3_layOut
set_option maxRecDepth 20000 in
theorem ggL_act_X4_may : GoodIn wsL_act wsX4_may := goodIn_r _ [77, 17, 225, 226, 227, 228] (by decide +kernel) (by decide +kernel)
set_option maxRecDepth 20000 in
theorem gL_act_X4_may : GoodIn wsL_act (wsV RL 40 RX4 yX4_may wsX4_may) := goodIn_app (goodIn_of _ (by decide +kernel)) ggL_act_X4_may
set_option maxRecDepth 20000 in
theorem ggL_act_X3_guess : GoodIn wsL_act wsX3_guess := goodIn_ca (goodIn_ca (goodIn_ca (goodIn_r _ [81, 82, 83, 38, 29, 43, 44, 84, 85, 86, 25, 87, 88, 89, 90, 91, 92, 48, 93, 50, 94, 95, 96, 27, 28, 30, 31, 32, 97, 98, 99, 69, 100, 101, 102, 103, 104, 105, 73, 106, 107, 108, 109, 71, 110, 46, 47, 49, 51, 52, 53, 54, 55, 111, 112, 113, 114, 115, 116, 117, 118, 119, 120, 121, 122, 123, 124, 125, 126, 127, 128, 129, 130, 72, 229, 230, 231, 232, 233, 234, 235, 236, 237, 238, 239, 245, 246, 247, 248, 249] (by decide +kernel) (by decide +kernel)) (goodIn_sub (fun _ h => List.mem_cons_of_mem _ (List.mem_append_left _ (List.mem_append_right _ h))) (by decide +kernel))) (goodIn_sub (fun _ h => List.mem_cons_of_mem _ (List.mem_append_right _ h)) (by decide +kernel))) (goodIn_sub (fun _ h => List.mem_cons_of_mem _ (List.mem_append_left _ (List.mem_append_left _ (List.mem_append_right _ h)))) (by decide +kernel))
set_option maxRecDepth 20000 in
theorem gL_act_X3_guess : GoodIn wsL_act (wsV RL 44 RX3 yX3_guess wsX3_guess) := goodIn_app (goodIn_of _ (by decide +kernel)) ggL_act_X3_guess
set_option maxRecDepth 20000 in
theorem ggL_act_X4_guess : GoodIn wsL_act wsX4_guess := goodIn_r _ [134, 14, 17, 21, 16, 225, 226, 227, 228] (by decide +kernel) (by decide +kernel)
set_option maxRecDepth 20000 in
theorem gL_act_X4_guess : GoodIn wsL_act (wsV RL 47 RX4 yX4_guess wsX4_guess) := goodIn_app (goodIn_of _ (by decide +kernel)) ggL_act_X4_guess
set_option maxRecDepth 20000 in
theorem ggL_act_X3_fill : GoodIn wsL_act wsX3_fill := goodIn_ca (goodIn_r _ [138, 84, 85, 86, 25, 87, 88, 89, 29, 90, 91, 92, 48, 93, 50, 139, 140, 141, 142, 39, 42, 41, 40, 37, 38, 143, 144, 145, 146, 147, 148, 149, 150, 151, 116, 117, 118, 152, 153, 154, 155, 51, 156, 157, 158, 159, 56, 57, 58, 59, 60, 61, 160, 161, 162, 163, 164, 165, 166, 167, 168, 169, 170, 171, 172, 173, 174, 175, 176, 69, 177, 101, 102, 103, 104, 105, 73, 106, 107, 108, 109, 71, 110, 46, 47, 49, 52, 53, 54, 55, 111, 112, 113, 114, 178, 179, 180, 181, 182, 183, 184, 185, 186, 187, 127, 128, 129, 130, 72, 229, 230, 231, 232, 233, 234, 235, 236, 237, 238, 239, 240, 241, 242, 243, 244, 245, 246, 247, 248, 249] (by decide +kernel) (by decide +kernel)) (goodIn_sub (fun _ h => List.mem_cons_of_mem _ (List.mem_append_right _ h)) (by decide +kernel))
set_option maxRecDepth 20000 in
theorem gL_act_X3_fill : GoodIn wsL_act (wsV RL 9 RX3 yX3_fill wsX3_fill) := goodIn_app (goodIn_of _ (by decide +kernel)) ggL_act_X3_fill
set_option maxRecDepth 20000 in
theorem ggL_act_X4_go : GoodIn wsL_act wsX4_go := goodIn_r _ [191, 14, 15, 16, 17, 21, 192, 193, 11, 194, 195, 196, 197, 198, 13, 199, 200, 201, 202, 203, 204, 205, 206, 207, 208, 209, 225, 226, 227, 228] (by decide +kernel) (by decide +kernel)
set_option maxRecDepth 20000 in
theorem gL_act_X4_go : GoodIn wsL_act (wsV RL 50 RX4 yX4_go wsX4_go) := goodIn_app (goodIn_of _ (by decide +kernel)) ggL_act_X4_go
set_option maxRecDepth 20000 in
theorem ggL_act_X3_empty : GoodIn wsL_act wsX3_empty := goodIn_ca (goodIn_r _ [213, 84, 85, 86, 25, 87, 88, 89, 29, 90, 91, 92, 48, 93, 50, 139, 140, 141, 142, 39, 42, 41, 40, 37, 38, 143, 144, 145, 146, 147, 148, 149, 150, 151, 116, 117, 118, 152, 153, 154, 155, 51, 156, 157, 158, 159, 56, 57, 58, 59, 60, 61, 160, 161, 162, 163, 164, 165, 166, 167, 168, 169, 170, 171, 172, 173, 174, 175, 176, 69, 177, 101, 102, 103, 104, 105, 73, 106, 107, 108, 109, 71, 110, 46, 47, 49, 52, 53, 54, 55, 111, 112, 113, 114, 178, 179, 180, 181, 182, 183, 184, 185, 186, 187, 127, 128, 129, 130, 72, 229, 230, 231, 232, 233, 234, 235, 236, 237, 238, 239, 240, 241, 242, 243, 244, 245, 246, 247, 248, 249] (by decide +kernel) (by decide +kernel)) (goodIn_sub (fun _ h => List.mem_cons_of_mem _ (List.mem_append_right _ h)) (by decide +kernel))
set_option maxRecDepth 20000 in
theorem gL_act_X3_empty : GoodIn wsL_act (wsV RL 15 RX3 yX3_empty wsX3_empty) := goodIn_app (goodIn_of _ (by decide +kernel)) ggL_act_X3_empty
set_option maxRecDepth 20000 in
theorem ggL_act_X3_pour : GoodIn wsL_act wsX3_pour := goodIn_ca (goodIn_ca (goodIn_r _ [217, 218, 219, 220, 25, 221, 27, 28, 84, 85, 86, 87, 88, 89, 29, 90, 91, 92, 48, 93, 50, 222, 223, 224, 139, 140, 141, 142, 39, 42, 41, 40, 37, 38, 143, 144, 145, 146, 147, 148, 149, 150, 151, 116, 117, 118, 152, 153, 154, 155, 51, 156, 157, 158, 159, 56, 57, 58, 59, 60, 61, 160, 161, 162, 163, 164, 165, 166, 167, 168, 169, 170, 171, 172, 173, 174, 175, 176, 69, 177, 101, 102, 103, 104, 105, 73, 106, 107, 108, 109, 71, 110, 46, 47, 49, 52, 53, 54, 55, 111, 112, 113, 114, 178, 179, 180, 181, 182, 183, 184, 185, 186, 187, 127, 128, 129, 130, 72, 229, 230, 231, 232, 233, 234, 235, 236, 237, 238, 239, 240, 241, 242, 243, 244, 245, 246, 247, 248, 249] (by decide +kernel) (by decide +kernel)) (goodIn_sub (fun _ h => List.mem_cons_of_mem _ (List.mem_append_left _ (List.mem_append_left _ (List.mem_append_right _ h)))) (by decide +kernel))) (goodIn_sub (fun _ h => List.mem_cons_of_mem _ (List.mem_append_right _ h)) (by decide +kernel))
set_option maxRecDepth 20000 in
theorem gL_act_X3_pour : GoodIn wsL_act (wsV RL 18 RX3 yX3_pour wsX3_pour) := goodIn_app (goodIn_of _ (by decide +kernel)) ggL_act_X3_pour
theorem dL_act_0 : decode cL_act 0 = .ok (.aload_n 1, 1) := by decide +kernel
theorem dL_act_1 : decode cL_act 1 = .ok (.getfield 22, 3) := by decide +kernel
theorem dL_act_4 : decode cL_act 4 = .ok (.arraylength, 1) := by decide +kernel
theorem dL_act_5 : decode cL_act 5 = .ok (.istore_n 3, 1) := by decide +kernel
theorem dL_act_6 : decode cL_act 6 = .ok (.iload_n 2, 1) := by decide +kernel
theorem dL_act_7 : decode cL_act 7 = .ok (.bipush 16, 2) := by decide +kernel
theorem dL_act_9 : decode cL_act 9 = .ok (.invokestatic 28, 3) := by decide +kernel
theorem dL_act_12 : decode cL_act 12 = .ok (.tableswitch 289 0 7 #[48, 148, 148, 227, 227, 227, 257, 257], 48) := by decide +kernel
theorem dL_act_60 : decode cL_act 60 = .ok (.iload_n 2, 1) := by decide +kernel
theorem dL_act_61 : decode cL_act 61 = .ok (.iconst 4, 1) := by decide +kernel
theorem dL_act_62 : decode cL_act 62 = .ok (.ishr, 1) := by decide +kernel
theorem dL_act_63 : decode cL_act 63 = .ok (.bipush 6, 2) := by decide +kernel
theorem dL_act_65 : decode cL_act 65 = .ok (.invokestatic 28, 3) := by decide +kernel
theorem dL_act_68 : decode cL_act 68 = .ok (.ifCond .le 5, 3) := by decide +kernel
theorem dL_act_71 : decode cL_act 71 = .ok (.iconst 1, 1) := by decide +kernel
theorem dL_act_72 : decode cL_act 72 = .ok (.ireturn, 1) := by decide +kernel
theorem dL_act_73 : decode cL_act 73 = .ok (.iload_n 2, 1) := by decide +kernel
theorem dL_act_74 : decode cL_act 74 = .ok (.bipush 9, 2) := by decide +kernel
theorem dL_act_76 : decode cL_act 76 = .ok (.ishr, 1) := by decide +kernel
theorem dL_act_77 : decode cL_act 77 = .ok (.iconst 3, 1) := by decide +kernel
theorem dL_act_78 : decode cL_act 78 = .ok (.invokestatic 28, 3) := by decide +kernel
theorem dL_act_81 : decode cL_act 81 = .ok (.ifCond .le 7, 3) := by decide +kernel
theorem dL_act_84 : decode cL_act 84 = .ok (.iconst 0, 1) := by decide +kernel
theorem dL_act_85 : decode cL_act 85 = .ok (.goto 13, 3) := by decide +kernel
theorem dL_act_88 : decode cL_act 88 = .ok (.iconst 1, 1) := by decide +kernel
theorem dL_act_89 : decode cL_act 89 = .ok (.iload_n 2, 1) := by decide +kernel
theorem dL_act_90 : decode cL_act 90 = .ok (.iconst 5, 1) := by decide +kernel
theorem dL_act_91 : decode cL_act 91 = .ok (.ishr, 1) := by decide +kernel
theorem dL_act_92 : decode cL_act 92 = .ok (.bipush 9, 2) := by decide +kernel
theorem dL_act_94 : decode cL_act 94 = .ok (.invokestatic 28, 3) := by decide +kernel
theorem dL_act_97 : decode cL_act 97 = .ok (.iadd, 1) := by decide +kernel
theorem dL_act_98 : decode cL_act 98 = .ok (.istore 4, 2) := by decide +kernel
theorem dL_act_100 : decode cL_act 100 = .ok (.aload_n 1, 1) := by decide +kernel
theorem dL_act_101 : decode cL_act 101 = .ok (.iconst 1, 1) := by decide +kernel
theorem dL_act_102 : decode cL_act 102 = .ok (.iload_n 2, 1) := by decide +kernel
theorem dL_act_103 : decode cL_act 103 = .ok (.bipush 6, 2) := by decide +kernel
theorem dL_act_105 : decode cL_act 105 = .ok (.ishr, 1) := by decide +kernel
theorem dL_act_106 : decode cL_act 106 = .ok (.bipush 9, 2) := by decide +kernel
theorem dL_act_108 : decode cL_act 108 = .ok (.invokestatic 28, 3) := by decide +kernel
theorem dL_act_111 : decode cL_act 111 = .ok (.iadd, 1) := by decide +kernel
theorem dL_act_112 : decode cL_act 112 = .ok (.iconst 1, 1) := by decide +kernel
theorem dL_act_113 : decode cL_act 113 = .ok (.iload_n 2, 1) := by decide +kernel
theorem dL_act_114 : decode cL_act 114 = .ok (.bipush 7, 2) := by decide +kernel
theorem dL_act_116 : decode cL_act 116 = .ok (.ishr, 1) := by decide +kernel
theorem dL_act_117 : decode cL_act 117 = .ok (.bipush 9, 2) := by decide +kernel
theorem dL_act_119 : decode cL_act 119 = .ok (.invokestatic 28, 3) := by decide +kernel
theorem dL_act_122 : decode cL_act 122 = .ok (.iadd, 1) := by decide +kernel
theorem dL_act_123 : decode cL_act 123 = .ok (.iload 4, 2) := by decide +kernel
theorem dL_act_125 : decode cL_act 125 = .ok (.invokevirtual 33, 3) := by decide +kernel
theorem dL_act_128 : decode cL_act 128 = .ok (.aload_n 0, 1) := by decide +kernel
theorem dL_act_129 : decode cL_act 129 = .ok (.aload_n 1, 1) := by decide +kernel
theorem dL_act_130 : decode cL_act 130 = .ok (.getfield 22, 3) := by decide +kernel
theorem dL_act_133 : decode cL_act 133 = .ok (.iconst 0, 1) := by decide +kernel
theorem dL_act_134 : decode cL_act 134 = .ok (.iaload, 1) := by decide +kernel
theorem dL_act_135 : decode cL_act 135 = .ok (.aload_n 1, 1) := by decide +kernel
theorem dL_act_136 : decode cL_act 136 = .ok (.getfield 22, 3) := by decide +kernel
theorem dL_act_139 : decode cL_act 139 = .ok (.iconst 1, 1) := by decide +kernel
theorem dL_act_140 : decode cL_act 140 = .ok (.iaload, 1) := by decide +kernel
theorem dL_act_141 : decode cL_act 141 = .ok (.iload 4, 2) := by decide +kernel
theorem dL_act_143 : decode cL_act 143 = .ok (.invokevirtual 37, 3) := by decide +kernel
theorem dL_act_146 : decode cL_act 146 = .ok (.aload_n 1, 1) := by decide +kernel
theorem dL_act_147 : decode cL_act 147 = .ok (.getfield 22, 3) := by decide +kernel
theorem dL_act_150 : decode cL_act 150 = .ok (.arraylength, 1) := by decide +kernel
theorem dL_act_151 : decode cL_act 151 = .ok (.if_icmp .ne 7, 3) := by decide +kernel
theorem dL_act_154 : decode cL_act 154 = .ok (.iconst 1, 1) := by decide +kernel
theorem dL_act_155 : decode cL_act 155 = .ok (.goto 4, 3) := by decide +kernel
theorem dL_act_158 : decode cL_act 158 = .ok (.iconst 0, 1) := by decide +kernel
theorem dL_act_159 : decode cL_act 159 = .ok (.ireturn, 1) := by decide +kernel
theorem dL_act_160 : decode cL_act 160 = .ok (.iload_n 2, 1) := by decide +kernel
theorem dL_act_161 : decode cL_act 161 = .ok (.iconst 4, 1) := by decide +kernel
theorem dL_act_162 : decode cL_act 162 = .ok (.ishr, 1) := by decide +kernel
theorem dL_act_163 : decode cL_act 163 = .ok (.iload_n 3, 1) := by decide +kernel
theorem dL_act_164 : decode cL_act 164 = .ok (.invokestatic 28, 3) := by decide +kernel
theorem dL_act_167 : decode cL_act 167 = .ok (.istore 4, 2) := by decide +kernel
theorem dL_act_169 : decode cL_act 169 = .ok (.iconst 1, 1) := by decide +kernel
theorem dL_act_170 : decode cL_act 170 = .ok (.iload_n 2, 1) := by decide +kernel
theorem dL_act_171 : decode cL_act 171 = .ok (.bipush 6, 2) := by decide +kernel
theorem dL_act_173 : decode cL_act 173 = .ok (.ishr, 1) := by decide +kernel
theorem dL_act_174 : decode cL_act 174 = .ok (.bipush 9, 2) := by decide +kernel
theorem dL_act_176 : decode cL_act 176 = .ok (.invokestatic 28, 3) := by decide +kernel
theorem dL_act_179 : decode cL_act 179 = .ok (.iadd, 1) := by decide +kernel
theorem dL_act_180 : decode cL_act 180 = .ok (.istore 5, 2) := by decide +kernel
theorem dL_act_182 : decode cL_act 182 = .ok (.aload_n 1, 1) := by decide +kernel
theorem dL_act_183 : decode cL_act 183 = .ok (.iload 4, 2) := by decide +kernel
theorem dL_act_185 : decode cL_act 185 = .ok (.iload 5, 2) := by decide +kernel
theorem dL_act_187 : decode cL_act 187 = .ok (.invokevirtual 40, 3) := by decide +kernel
theorem dL_act_190 : decode cL_act 190 = .ok (.istore 6, 2) := by decide +kernel
theorem dL_act_192 : decode cL_act 192 = .ok (.aload_n 0, 1) := by decide +kernel
theorem dL_act_193 : decode cL_act 193 = .ok (.iload 4, 2) := by decide +kernel
theorem dL_act_195 : decode cL_act 195 = .ok (.iload 5, 2) := by decide +kernel
theorem dL_act_197 : decode cL_act 197 = .ok (.invokevirtual 44, 3) := by decide +kernel
theorem dL_act_200 : decode cL_act 200 = .ok (.istore 7, 2) := by decide +kernel
theorem dL_act_202 : decode cL_act 202 = .ok (.iload 6, 2) := by decide +kernel
theorem dL_act_204 : decode cL_act 204 = .ok (.ifCond .eq 20, 3) := by decide +kernel
theorem dL_act_207 : decode cL_act 207 = .ok (.iload 7, 2) := by decide +kernel
theorem dL_act_209 : decode cL_act 209 = .ok (.aload_n 1, 1) := by decide +kernel
theorem dL_act_210 : decode cL_act 210 = .ok (.iload 4, 2) := by decide +kernel
theorem dL_act_212 : decode cL_act 212 = .ok (.iload 5, 2) := by decide +kernel
theorem dL_act_214 : decode cL_act 214 = .ok (.invokevirtual 47, 3) := by decide +kernel
theorem dL_act_217 : decode cL_act 217 = .ok (.if_icmp .ne 7, 3) := by decide +kernel
theorem dL_act_220 : decode cL_act 220 = .ok (.iconst 1, 1) := by decide +kernel
theorem dL_act_221 : decode cL_act 221 = .ok (.goto 4, 3) := by decide +kernel
theorem dL_act_224 : decode cL_act 224 = .ok (.iconst 0, 1) := by decide +kernel
theorem dL_act_225 : decode cL_act 225 = .ok (.ireturn, 1) := by decide +kernel
theorem dL_act_226 : decode cL_act 226 = .ok (.astore 7, 2) := by decide +kernel
theorem dL_act_228 : decode cL_act 228 = .ok (.iload 6, 2) := by decide +kernel
theorem dL_act_230 : decode cL_act 230 = .ok (.ifCond .ne 7, 3) := by decide +kernel
theorem dL_act_233 : decode cL_act 233 = .ok (.iconst 1, 1) := by decide +kernel
theorem dL_act_234 : decode cL_act 234 = .ok (.goto 4, 3) := by decide +kernel
theorem dL_act_237 : decode cL_act 237 = .ok (.iconst 0, 1) := by decide +kernel
theorem dL_act_238 : decode cL_act 238 = .ok (.ireturn, 1) := by decide +kernel
theorem dL_act_239 : decode cL_act 239 = .ok (.iload_n 2, 1) := by decide +kernel
theorem dL_act_240 : decode cL_act 240 = .ok (.iconst 4, 1) := by decide +kernel
theorem dL_act_241 : decode cL_act 241 = .ok (.ishr, 1) := by decide +kernel
theorem dL_act_242 : decode cL_act 242 = .ok (.iload_n 3, 1) := by decide +kernel
theorem dL_act_243 : decode cL_act 243 = .ok (.invokestatic 28, 3) := by decide +kernel
theorem dL_act_246 : decode cL_act 246 = .ok (.istore 4, 2) := by decide +kernel
theorem dL_act_248 : decode cL_act 248 = .ok (.aload_n 0, 1) := by decide +kernel
theorem dL_act_249 : decode cL_act 249 = .ok (.iload 4, 2) := by decide +kernel
theorem dL_act_251 : decode cL_act 251 = .ok (.invokevirtual 9, 3) := by decide +kernel
theorem dL_act_254 : decode cL_act 254 = .ok (.aload_n 1, 1) := by decide +kernel
theorem dL_act_255 : decode cL_act 255 = .ok (.iload 4, 2) := by decide +kernel
theorem dL_act_257 : decode cL_act 257 = .ok (.invokevirtual 50, 3) := by decide +kernel
theorem dL_act_260 : decode cL_act 260 = .ok (.if_icmp .ne 7, 3) := by decide +kernel
theorem dL_act_263 : decode cL_act 263 = .ok (.iconst 1, 1) := by decide +kernel
theorem dL_act_264 : decode cL_act 264 = .ok (.goto 4, 3) := by decide +kernel
theorem dL_act_267 : decode cL_act 267 = .ok (.iconst 0, 1) := by decide +kernel
theorem dL_act_268 : decode cL_act 268 = .ok (.ireturn, 1) := by decide +kernel
theorem dL_act_269 : decode cL_act 269 = .ok (.iload_n 2, 1) := by decide +kernel
theorem dL_act_270 : decode cL_act 270 = .ok (.iconst 4, 1) := by decide +kernel
theorem dL_act_271 : decode cL_act 271 = .ok (.ishr, 1) := by decide +kernel
theorem dL_act_272 : decode cL_act 272 = .ok (.iload_n 3, 1) := by decide +kernel
theorem dL_act_273 : decode cL_act 273 = .ok (.invokestatic 28, 3) := by decide +kernel
theorem dL_act_276 : decode cL_act 276 = .ok (.istore 4, 2) := by decide +kernel
theorem dL_act_278 : decode cL_act 278 = .ok (.aload_n 0, 1) := by decide +kernel
theorem dL_act_279 : decode cL_act 279 = .ok (.iload 4, 2) := by decide +kernel
theorem dL_act_281 : decode cL_act 281 = .ok (.invokevirtual 15, 3) := by decide +kernel
theorem dL_act_284 : decode cL_act 284 = .ok (.aload_n 1, 1) := by decide +kernel
theorem dL_act_285 : decode cL_act 285 = .ok (.iconst 3, 1) := by decide +kernel
theorem dL_act_286 : decode cL_act 286 = .ok (.iload 4, 2) := by decide +kernel
theorem dL_act_288 : decode cL_act 288 = .ok (.iadd, 1) := by decide +kernel
theorem dL_act_289 : decode cL_act 289 = .ok (.invokevirtual 50, 3) := by decide +kernel
theorem dL_act_292 : decode cL_act 292 = .ok (.if_icmp .ne 7, 3) := by decide +kernel
theorem dL_act_295 : decode cL_act 295 = .ok (.iconst 1, 1) := by decide +kernel
theorem dL_act_296 : decode cL_act 296 = .ok (.goto 4, 3) := by decide +kernel
theorem dL_act_299 : decode cL_act 299 = .ok (.iconst 0, 1) := by decide +kernel
theorem dL_act_300 : decode cL_act 300 = .ok (.ireturn, 1) := by decide +kernel
theorem dL_act_301 : decode cL_act 301 = .ok (.iload_n 2, 1) := by decide +kernel
theorem dL_act_302 : decode cL_act 302 = .ok (.iconst 4, 1) := by decide +kernel
theorem dL_act_303 : decode cL_act 303 = .ok (.ishr, 1) := by decide +kernel
theorem dL_act_304 : decode cL_act 304 = .ok (.iload_n 3, 1) := by decide +kernel
theorem dL_act_305 : decode cL_act 305 = .ok (.invokestatic 28, 3) := by decide +kernel
theorem dL_act_308 : decode cL_act 308 = .ok (.istore 4, 2) := by decide +kernel
theorem dL_act_310 : decode cL_act 310 = .ok (.iload 4, 2) := by decide +kernel
theorem dL_act_312 : decode cL_act 312 = .ok (.iconst 1, 1) := by decide +kernel
theorem dL_act_313 : decode cL_act 313 = .ok (.iadd, 1) := by decide +kernel
theorem dL_act_314 : decode cL_act 314 = .ok (.iload_n 2, 1) := by decide +kernel
theorem dL_act_315 : decode cL_act 315 = .ok (.bipush 6, 2) := by decide +kernel
theorem dL_act_317 : decode cL_act 317 = .ok (.ishr, 1) := by decide +kernel
theorem dL_act_318 : decode cL_act 318 = .ok (.iload_n 3, 1) := by decide +kernel
theorem dL_act_319 : decode cL_act 319 = .ok (.iconst 1, 1) := by decide +kernel
theorem dL_act_320 : decode cL_act 320 = .ok (.isub, 1) := by decide +kernel
theorem dL_act_321 : decode cL_act 321 = .ok (.invokestatic 28, 3) := by decide +kernel
theorem dL_act_324 : decode cL_act 324 = .ok (.iadd, 1) := by decide +kernel
theorem dL_act_325 : decode cL_act 325 = .ok (.iload_n 3, 1) := by decide +kernel
theorem dL_act_326 : decode cL_act 326 = .ok (.irem, 1) := by decide +kernel
theorem dL_act_327 : decode cL_act 327 = .ok (.istore 5, 2) := by decide +kernel
theorem dL_act_329 : decode cL_act 329 = .ok (.aload_n 0, 1) := by decide +kernel
theorem dL_act_330 : decode cL_act 330 = .ok (.iload 4, 2) := by decide +kernel
theorem dL_act_332 : decode cL_act 332 = .ok (.iload 5, 2) := by decide +kernel
theorem dL_act_334 : decode cL_act 334 = .ok (.invokevirtual 18, 3) := by decide +kernel
theorem dL_act_337 : decode cL_act 337 = .ok (.aload_n 1, 1) := by decide +kernel
theorem dL_act_338 : decode cL_act 338 = .ok (.bipush 6, 2) := by decide +kernel
theorem dL_act_340 : decode cL_act 340 = .ok (.iconst 3, 1) := by decide +kernel
theorem dL_act_341 : decode cL_act 341 = .ok (.iload 4, 2) := by decide +kernel
theorem dL_act_343 : decode cL_act 343 = .ok (.imul, 1) := by decide +kernel
theorem dL_act_344 : decode cL_act 344 = .ok (.iadd, 1) := by decide +kernel
theorem dL_act_345 : decode cL_act 345 = .ok (.iload 5, 2) := by decide +kernel
theorem dL_act_347 : decode cL_act 347 = .ok (.iadd, 1) := by decide +kernel
theorem dL_act_348 : decode cL_act 348 = .ok (.invokevirtual 50, 3) := by decide +kernel
theorem dL_act_351 : decode cL_act 351 = .ok (.if_icmp .ne 7, 3) := by decide +kernel
theorem dL_act_354 : decode cL_act 354 = .ok (.iconst 1, 1) := by decide +kernel
theorem dL_act_355 : decode cL_act 355 = .ok (.goto 4, 3) := by decide +kernel
theorem dL_act_358 : decode cL_act 358 = .ok (.iconst 0, 1) := by decide +kernel
theorem dL_act_359 : decode cL_act 359 = .ok (.ireturn, 1) := by decide +kernel
set_option maxRecDepth 20000 in
theorem ggL_build_X4_init : GoodIn wsL_build wsX4_init := goodIn_r _ [6, 7, 8, 9, 10, 11, 12, 13, 14, 15, 16, 3, 17, 18, 84, 85, 86, 87] (by decide +kernel) (by decide +kernel)
set_option maxRecDepth 20000 in
theorem gL_build_X4_init_n53 : GoodIn wsL_build (wsX4_init) := ggL_build_X4_init
set_option maxRecDepth 20000 in
theorem ggL_build_L_cell : GoodIn wsL_build wsL_cell := goodIn_r _ [22, 23] (by decide +kernel) (by decide +kernel)
set_option maxRecDepth 20000 in
theorem gL_build_L_cell : GoodIn wsL_build (va_wsS RL 54 yL_cell wsL_cell) := goodIn_app (goodIn_of _ (by decide +kernel)) ggL_build_L_cell
set_option maxRecDepth 20000 in
theorem ggL_build_L_below : GoodIn wsL_build wsL_below := goodIn_r _ [26, 27] (by decide +kernel) (by decide +kernel)
set_option maxRecDepth 20000 in
theorem gL_build_L_below : GoodIn wsL_build (va_wsS RL 28 yL_below wsL_below) := goodIn_app (goodIn_of _ (by decide +kernel)) ggL_build_L_below
set_option maxRecDepth 20000 in
theorem ggL_build_X4_layOut : GoodIn wsL_build wsX4_layOut := goodIn_r _ [31, 10, 11, 12, 13, 14, 15, 16, 3, 17, 18, 84, 85, 86, 87] (by decide +kernel) (by decide +kernel)
set_option maxRecDepth 20000 in
theorem gL_build_X4_layOut : GoodIn wsL_build (wsV RL 33 RX4 yX4_layOut wsX4_layOut) := goodIn_app (goodIn_of _ (by decide +kernel)) ggL_build_X4_layOut
set_option maxRecDepth 20000 in
theorem ggL_build_X3_layOut : GoodIn wsL_build wsX3_layOut := goodIn_ca (goodIn_r _ [36, 37, 38, 39, 40, 41, 35, 42, 43, 44, 45, 46, 47, 48, 49, 50, 51, 52, 53, 54, 55, 56, 57, 58, 59, 60, 61, 62, 63, 64, 65, 66, 67, 68, 69, 70, 71, 72, 73, 74, 75, 76, 77, 78, 79, 80, 81, 82, 83, 88, 89, 90, 91, 92, 93, 94, 95, 96, 97, 98, 99, 100, 101, 102, 103, 104, 105, 106, 107, 108] (by decide +kernel) (by decide +kernel)) (goodIn_sub (fun _ h => List.mem_cons_of_mem _ (List.mem_append_right _ h)) (by decide +kernel))
set_option maxRecDepth 20000 in
theorem gL_build_X3_layOut : GoodIn wsL_build (wsV RL 37 RX3 yX3_layOut wsX3_layOut) := goodIn_app (goodIn_of _ (by decide +kernel)) ggL_build_X3_layOut
theorem dL_build_0 : decode cL_build 0 = .ok (.new 23, 3) := by decide +kernel
theorem dL_build_3 : decode cL_build 3 = .ok (.dup, 1) := by decide +kernel
theorem dL_build_4 : decode cL_build 4 = .ok (.invokespecial 53, 3) := by decide +kernel
theorem dL_build_7 : decode cL_build 7 = .ok (.astore_n 2, 1) := by decide +kernel
theorem dL_build_8 : decode cL_build 8 = .ok (.aload_n 1, 1) := by decide +kernel
theorem dL_build_9 : decode cL_build 9 = .ok (.iconst 0, 1) := by decide +kernel
theorem dL_build_10 : decode cL_build 10 = .ok (.invokestatic 54, 3) := by decide +kernel
theorem dL_build_13 : decode cL_build 13 = .ok (.bipush 8, 2) := by decide +kernel
theorem dL_build_15 : decode cL_build 15 = .ok (.ishr, 1) := by decide +kernel
theorem dL_build_16 : decode cL_build 16 = .ok (.iconst 3, 1) := by decide +kernel
theorem dL_build_17 : decode cL_build 17 = .ok (.invokestatic 28, 3) := by decide +kernel
theorem dL_build_20 : decode cL_build 20 = .ok (.ifCond .le 7, 3) := by decide +kernel
theorem dL_build_23 : decode cL_build 23 = .ok (.iconst 0, 1) := by decide +kernel
theorem dL_build_24 : decode cL_build 24 = .ok (.goto 17, 3) := by decide +kernel
theorem dL_build_27 : decode cL_build 27 = .ok (.iconst 1, 1) := by decide +kernel
theorem dL_build_28 : decode cL_build 28 = .ok (.aload_n 1, 1) := by decide +kernel
theorem dL_build_29 : decode cL_build 29 = .ok (.iconst 0, 1) := by decide +kernel
theorem dL_build_30 : decode cL_build 30 = .ok (.invokestatic 54, 3) := by decide +kernel
theorem dL_build_33 : decode cL_build 33 = .ok (.iconst 5, 1) := by decide +kernel
theorem dL_build_34 : decode cL_build 34 = .ok (.ishr, 1) := by decide +kernel
theorem dL_build_35 : decode cL_build 35 = .ok (.bipush 9, 2) := by decide +kernel
theorem dL_build_37 : decode cL_build 37 = .ok (.invokestatic 28, 3) := by decide +kernel
theorem dL_build_40 : decode cL_build 40 = .ok (.iadd, 1) := by decide +kernel
theorem dL_build_41 : decode cL_build 41 = .ok (.istore_n 3, 1) := by decide +kernel
theorem dL_build_42 : decode cL_build 42 = .ok (.aload_n 2, 1) := by decide +kernel
theorem dL_build_43 : decode cL_build 43 = .ok (.iconst 1, 1) := by decide +kernel
theorem dL_build_44 : decode cL_build 44 = .ok (.aload_n 1, 1) := by decide +kernel
theorem dL_build_45 : decode cL_build 45 = .ok (.iconst 0, 1) := by decide +kernel
theorem dL_build_46 : decode cL_build 46 = .ok (.invokestatic 54, 3) := by decide +kernel
theorem dL_build_49 : decode cL_build 49 = .ok (.bipush 9, 2) := by decide +kernel
theorem dL_build_51 : decode cL_build 51 = .ok (.invokestatic 28, 3) := by decide +kernel
theorem dL_build_54 : decode cL_build 54 = .ok (.iadd, 1) := by decide +kernel
theorem dL_build_55 : decode cL_build 55 = .ok (.iconst 1, 1) := by decide +kernel
theorem dL_build_56 : decode cL_build 56 = .ok (.aload_n 1, 1) := by decide +kernel
theorem dL_build_57 : decode cL_build 57 = .ok (.iconst 1, 1) := by decide +kernel
theorem dL_build_58 : decode cL_build 58 = .ok (.invokestatic 54, 3) := by decide +kernel
theorem dL_build_61 : decode cL_build 61 = .ok (.bipush 9, 2) := by decide +kernel
theorem dL_build_63 : decode cL_build 63 = .ok (.invokestatic 28, 3) := by decide +kernel
theorem dL_build_66 : decode cL_build 66 = .ok (.iadd, 1) := by decide +kernel
theorem dL_build_67 : decode cL_build 67 = .ok (.iload_n 3, 1) := by decide +kernel
theorem dL_build_68 : decode cL_build 68 = .ok (.invokevirtual 33, 3) := by decide +kernel
theorem dL_build_71 : decode cL_build 71 = .ok (.aload_n 0, 1) := by decide +kernel
theorem dL_build_72 : decode cL_build 72 = .ok (.aload_n 2, 1) := by decide +kernel
theorem dL_build_73 : decode cL_build 73 = .ok (.getfield 22, 3) := by decide +kernel
theorem dL_build_76 : decode cL_build 76 = .ok (.iconst 0, 1) := by decide +kernel
theorem dL_build_77 : decode cL_build 77 = .ok (.iaload, 1) := by decide +kernel
theorem dL_build_78 : decode cL_build 78 = .ok (.aload_n 2, 1) := by decide +kernel
theorem dL_build_79 : decode cL_build 79 = .ok (.getfield 22, 3) := by decide +kernel
theorem dL_build_82 : decode cL_build 82 = .ok (.iconst 1, 1) := by decide +kernel
theorem dL_build_83 : decode cL_build 83 = .ok (.iaload, 1) := by decide +kernel
theorem dL_build_84 : decode cL_build 84 = .ok (.iload_n 3, 1) := by decide +kernel
theorem dL_build_85 : decode cL_build 85 = .ok (.invokevirtual 37, 3) := by decide +kernel
theorem dL_build_88 : decode cL_build 88 = .ok (.aload_n 2, 1) := by decide +kernel
theorem dL_build_89 : decode cL_build 89 = .ok (.getfield 22, 3) := by decide +kernel
theorem dL_build_92 : decode cL_build 92 = .ok (.arraylength, 1) := by decide +kernel
theorem dL_build_93 : decode cL_build 93 = .ok (.if_icmp .ne 7, 3) := by decide +kernel
theorem dL_build_96 : decode cL_build 96 = .ok (.aload_n 2, 1) := by decide +kernel
theorem dL_build_97 : decode cL_build 97 = .ok (.goto 4, 3) := by decide +kernel
theorem dL_build_100 : decode cL_build 100 = .ok (.aconst_null, 1) := by decide +kernel
theorem dL_build_101 : decode cL_build 101 = .ok (.areturn, 1) := by decide +kernel
