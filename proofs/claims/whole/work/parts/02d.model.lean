set_option maxRecDepth 20000 in
theorem ggX4_init_X4_lay : GoodIn wsX4_init wsX4_lay := goodIn_r _ [19, 20, 5, 6, 21, 22, 23, 24, 25, 26, 8, 9, 27, 28, 29, 18, 30, 31, 32, 33, 34, 35, 36, 37, 38, 39, 40, 41, 42, 43, 44, 45, 46, 47, 48, 49, 50, 51] (by decide +kernel) (by decide +kernel)
set_option maxRecDepth 20000 in
theorem gX4_init_X4_lay : GoodIn wsX4_init (wsV RX4 38 RX4 yX4_lay wsX4_lay) := goodIn_app (goodIn_of _ (by decide +kernel)) ggX4_init_X4_lay
theorem dX4_init_0 : decode cX4_init 0 = .ok (.aload_n 0, 1) := by decide +kernel
theorem dX4_init_1 : decode cX4_init 1 = .ok (.invokespecial 1, 3) := by decide +kernel
theorem dX4_init_4 : decode cX4_init 4 = .ok (.aload_n 0, 1) := by decide +kernel
theorem dX4_init_5 : decode cX4_init 5 = .ok (.iconst 3, 1) := by decide +kernel
theorem dX4_init_6 : decode cX4_init 6 = .ok (.newarray .int, 2) := by decide +kernel
theorem dX4_init_8 : decode cX4_init 8 = .ok (.putfield 9, 3) := by decide +kernel
theorem dX4_init_11 : decode cX4_init 11 = .ok (.aload_n 0, 1) := by decide +kernel
theorem dX4_init_12 : decode cX4_init 12 = .ok (.iconst 3, 1) := by decide +kernel
theorem dX4_init_13 : decode cX4_init 13 = .ok (.newarray .int, 2) := by decide +kernel
theorem dX4_init_15 : decode cX4_init 15 = .ok (.putfield 13, 3) := by decide +kernel
theorem dX4_init_18 : decode cX4_init 18 = .ok (.aload_n 0, 1) := by decide +kernel
theorem dX4_init_19 : decode cX4_init 19 = .ok (.sipush 1000, 3) := by decide +kernel
theorem dX4_init_22 : decode cX4_init 22 = .ok (.newarray .boolean, 2) := by decide +kernel
theorem dX4_init_24 : decode cX4_init 24 = .ok (.putfield 16, 3) := by decide +kernel
theorem dX4_init_27 : decode cX4_init 27 = .ok (.aload_n 0, 1) := by decide +kernel
theorem dX4_init_28 : decode cX4_init 28 = .ok (.sipush 3000, 3) := by decide +kernel
theorem dX4_init_31 : decode cX4_init 31 = .ok (.newarray .int, 2) := by decide +kernel
theorem dX4_init_33 : decode cX4_init 33 = .ok (.putfield 20, 3) := by decide +kernel
theorem dX4_init_36 : decode cX4_init 36 = .ok (.aload_n 0, 1) := by decide +kernel
theorem dX4_init_37 : decode cX4_init 37 = .ok (.sipush 1000, 3) := by decide +kernel
theorem dX4_init_40 : decode cX4_init 40 = .ok (.newarray .int, 2) := by decide +kernel
theorem dX4_init_42 : decode cX4_init 42 = .ok (.putfield 23, 3) := by decide +kernel
theorem dX4_init_45 : decode cX4_init 45 = .ok (.aload_n 0, 1) := by decide +kernel
theorem dX4_init_46 : decode cX4_init 46 = .ok (.sipush 1000, 3) := by decide +kernel
theorem dX4_init_49 : decode cX4_init 49 = .ok (.newarray .int, 2) := by decide +kernel
theorem dX4_init_51 : decode cX4_init 51 = .ok (.putfield 26, 3) := by decide +kernel
theorem dX4_init_54 : decode cX4_init 54 = .ok (.aload_n 0, 1) := by decide +kernel
theorem dX4_init_55 : decode cX4_init 55 = .ok (.iconst 3, 1) := by decide +kernel
theorem dX4_init_56 : decode cX4_init 56 = .ok (.newarray .int, 2) := by decide +kernel
theorem dX4_init_58 : decode cX4_init 58 = .ok (.putfield 29, 3) := by decide +kernel
theorem dX4_init_61 : decode cX4_init 61 = .ok (.aload_n 0, 1) := by decide +kernel
theorem dX4_init_62 : decode cX4_init 62 = .ok (.iconst 3, 1) := by decide +kernel
theorem dX4_init_63 : decode cX4_init 63 = .ok (.newarray .int, 2) := by decide +kernel
theorem dX4_init_65 : decode cX4_init 65 = .ok (.putfield 32, 3) := by decide +kernel
theorem dX4_init_68 : decode cX4_init 68 = .ok (.aload_n 0, 1) := by decide +kernel
theorem dX4_init_69 : decode cX4_init 69 = .ok (.bipush 64, 2) := by decide +kernel
theorem dX4_init_71 : decode cX4_init 71 = .ok (.newarray .int, 2) := by decide +kernel
theorem dX4_init_73 : decode cX4_init 73 = .ok (.putfield 35, 3) := by decide +kernel
theorem dX4_init_76 : decode cX4_init 76 = .ok (.aload_n 0, 1) := by decide +kernel
theorem dX4_init_77 : decode cX4_init 77 = .ok (.iconst 1, 1) := by decide +kernel
theorem dX4_init_78 : decode cX4_init 78 = .ok (.iconst 1, 1) := by decide +kernel
theorem dX4_init_79 : decode cX4_init 79 = .ok (.iconst 0, 1) := by decide +kernel
theorem dX4_init_80 : decode cX4_init 80 = .ok (.invokevirtual 38, 3) := by decide +kernel
theorem dX4_init_83 : decode cX4_init 83 = .ok (.return_, 1) := by decide +kernel
theorem dX4_thrown_0 : decode cX4_thrown 0 = .ok (.aload_n 0, 1) := by decide +kernel
theorem dX4_thrown_1 : decode cX4_thrown 1 = .ok (.getfield 42, 3) := by decide +kernel
theorem dX4_thrown_4 : decode cX4_thrown 4 = .ok (.ireturn, 1) := by decide +kernel
theorem dX4_no_0 : decode cX4_no 0 = .ok (.aload_n 0, 1) := by decide +kernel
theorem dX4_no_1 : decode cX4_no 1 = .ok (.iload_n 1, 1) := by decide +kernel
theorem dX4_no_2 : decode cX4_no 2 = .ok (.putfield 42, 3) := by decide +kernel
theorem dX4_no_5 : decode cX4_no 5 = .ok (.iconst 0, 1) := by decide +kernel
theorem dX4_no_6 : decode cX4_no 6 = .ok (.ireturn, 1) := by decide +kernel
theorem dX4_isNot_0 : decode cX4_isNot 0 = .ok (.aload_n 0, 1) := by decide +kernel
theorem dX4_isNot_1 : decode cX4_isNot 1 = .ok (.iload_n 1, 1) := by decide +kernel
theorem dX4_isNot_2 : decode cX4_isNot 2 = .ok (.putfield 42, 3) := by decide +kernel
theorem dX4_isNot_5 : decode cX4_isNot 5 = .ok (.iconst 0, 1) := by decide +kernel
theorem dX4_isNot_6 : decode cX4_isNot 6 = .ok (.ireturn, 1) := by decide +kernel
theorem dX4_isIn_0 : decode cX4_isIn 0 = .ok (.iload_n 0, 1) := by decide +kernel
theorem dX4_isIn_1 : decode cX4_isIn 1 = .ok (.iload_n 1, 1) := by decide +kernel
theorem dX4_isIn_2 : decode cX4_isIn 2 = .ok (.if_icmp .lt 12, 3) := by decide +kernel
theorem dX4_isIn_5 : decode cX4_isIn 5 = .ok (.iload_n 0, 1) := by decide +kernel
theorem dX4_isIn_6 : decode cX4_isIn 6 = .ok (.iload_n 2, 1) := by decide +kernel
theorem dX4_isIn_7 : decode cX4_isIn 7 = .ok (.if_icmp .gt 7, 3) := by decide +kernel
theorem dX4_isIn_10 : decode cX4_isIn 10 = .ok (.iconst 1, 1) := by decide +kernel
theorem dX4_isIn_11 : decode cX4_isIn 11 = .ok (.goto 4, 3) := by decide +kernel
theorem dX4_isIn_14 : decode cX4_isIn 14 = .ok (.iconst 0, 1) := by decide +kernel
theorem dX4_isIn_15 : decode cX4_isIn 15 = .ok (.ireturn, 1) := by decide +kernel
set_option maxRecDepth 20000 in
theorem ggX4_isJar_X4_isIn : GoodIn wsX4_isJar wsX4_isIn := goodIn_r _ [5] (by decide +kernel) (by decide +kernel)
set_option maxRecDepth 20000 in
theorem gX4_isJar_X4_isIn : GoodIn wsX4_isJar (va_wsS RX4 49 yX4_isIn wsX4_isIn) := goodIn_app (goodIn_of _ (by decide +kernel)) ggX4_isJar_X4_isIn
theorem dX4_isJar_0 : decode cX4_isJar 0 = .ok (.iload_n 1, 1) := by decide +kernel
theorem dX4_isJar_1 : decode cX4_isJar 1 = .ok (.iconst 0, 1) := by decide +kernel
theorem dX4_isJar_2 : decode cX4_isJar 2 = .ok (.aload_n 0, 1) := by decide +kernel
theorem dX4_isJar_3 : decode cX4_isJar 3 = .ok (.getfield 46, 3) := by decide +kernel
theorem dX4_isJar_6 : decode cX4_isJar 6 = .ok (.iconst 1, 1) := by decide +kernel
theorem dX4_isJar_7 : decode cX4_isJar 7 = .ok (.isub, 1) := by decide +kernel
theorem dX4_isJar_8 : decode cX4_isJar 8 = .ok (.invokestatic 49, 3) := by decide +kernel
theorem dX4_isJar_11 : decode cX4_isJar 11 = .ok (.ireturn, 1) := by decide +kernel
set_option maxRecDepth 20000 in
theorem ggX4_isAmount_X4_isIn : GoodIn wsX4_isAmount wsX4_isIn := goodIn_r _ [4] (by decide +kernel) (by decide +kernel)
set_option maxRecDepth 20000 in
theorem gX4_isAmount_X4_isIn : GoodIn wsX4_isAmount (va_wsS RX4 49 yX4_isIn wsX4_isIn) := goodIn_app (goodIn_of _ (by decide +kernel)) ggX4_isAmount_X4_isIn
theorem dX4_isAmount_0 : decode cX4_isAmount 0 = .ok (.iload_n 0, 1) := by decide +kernel
theorem dX4_isAmount_1 : decode cX4_isAmount 1 = .ok (.iconst 0, 1) := by decide +kernel
theorem dX4_isAmount_2 : decode cX4_isAmount 2 = .ok (.bipush 9, 2) := by decide +kernel
theorem dX4_isAmount_4 : decode cX4_isAmount 4 = .ok (.invokestatic 49, 3) := by decide +kernel
theorem dX4_isAmount_7 : decode cX4_isAmount 7 = .ok (.ireturn, 1) := by decide +kernel
set_option maxRecDepth 20000 in
theorem ggX4_isVolume_X4_isIn : GoodIn wsX4_isVolume wsX4_isIn := goodIn_r _ [4] (by decide +kernel) (by decide +kernel)
set_option maxRecDepth 20000 in
theorem gX4_isVolume_X4_isIn : GoodIn wsX4_isVolume (va_wsS RX4 49 yX4_isIn wsX4_isIn) := goodIn_app (goodIn_of _ (by decide +kernel)) ggX4_isVolume_X4_isIn
theorem dX4_isVolume_0 : decode cX4_isVolume 0 = .ok (.iload_n 0, 1) := by decide +kernel
theorem dX4_isVolume_1 : decode cX4_isVolume 1 = .ok (.iconst 1, 1) := by decide +kernel
theorem dX4_isVolume_2 : decode cX4_isVolume 2 = .ok (.bipush 9, 2) := by decide +kernel
theorem dX4_isVolume_4 : decode cX4_isVolume 4 = .ok (.invokestatic 49, 3) := by decide +kernel
theorem dX4_isVolume_7 : decode cX4_isVolume 7 = .ok (.ireturn, 1) := by decide +kernel
theorem dX4_figure_0 : decode cX4_figure 0 = .ok (.iload_n 1, 1) := by decide +kernel
theorem dX4_figure_1 : decode cX4_figure 1 = .ok (.ifCond .ne 10, 3) := by decide +kernel
theorem dX4_figure_4 : decode cX4_figure 4 = .ok (.iload_n 0, 1) := by decide +kernel
theorem dX4_figure_5 : decode cX4_figure 5 = .ok (.bipush 10, 2) := by decide +kernel
theorem dX4_figure_7 : decode cX4_figure 7 = .ok (.irem, 1) := by decide +kernel
theorem dX4_figure_8 : decode cX4_figure 8 = .ok (.goto 22, 3) := by decide +kernel
theorem dX4_figure_11 : decode cX4_figure 11 = .ok (.iload_n 1, 1) := by decide +kernel
theorem dX4_figure_12 : decode cX4_figure 12 = .ok (.iconst 1, 1) := by decide +kernel
theorem dX4_figure_13 : decode cX4_figure 13 = .ok (.if_icmp .ne 13, 3) := by decide +kernel
theorem dX4_figure_16 : decode cX4_figure 16 = .ok (.iload_n 0, 1) := by decide +kernel
theorem dX4_figure_17 : decode cX4_figure 17 = .ok (.bipush 10, 2) := by decide +kernel
theorem dX4_figure_19 : decode cX4_figure 19 = .ok (.idiv, 1) := by decide +kernel
theorem dX4_figure_20 : decode cX4_figure 20 = .ok (.bipush 10, 2) := by decide +kernel
theorem dX4_figure_22 : decode cX4_figure 22 = .ok (.irem, 1) := by decide +kernel
theorem dX4_figure_23 : decode cX4_figure 23 = .ok (.goto 7, 3) := by decide +kernel
theorem dX4_figure_26 : decode cX4_figure 26 = .ok (.iload_n 0, 1) := by decide +kernel
theorem dX4_figure_27 : decode cX4_figure 27 = .ok (.bipush 100, 2) := by decide +kernel
theorem dX4_figure_29 : decode cX4_figure 29 = .ok (.idiv, 1) := by decide +kernel
theorem dX4_figure_30 : decode cX4_figure 30 = .ok (.ireturn, 1) := by decide +kernel
set_option maxRecDepth 20000 in
theorem ggX4_isRow_X4_figure : GoodIn wsX4_isRow wsX4_figure := goodIn_r _ [5] (by decide +kernel) (by decide +kernel)
set_option maxRecDepth 20000 in
theorem gX4_isRow_X4_figure : GoodIn wsX4_isRow (va_wsS RX4 53 yX4_figure wsX4_figure) := goodIn_app (goodIn_of _ (by decide +kernel)) ggX4_isRow_X4_figure
theorem dX4_isRow_0 : decode cX4_isRow 0 = .ok (.iload_n 1, 1) := by decide +kernel
theorem dX4_isRow_1 : decode cX4_isRow 1 = .ok (.iconst 0, 1) := by decide +kernel
theorem dX4_isRow_2 : decode cX4_isRow 2 = .ok (.invokestatic 53, 3) := by decide +kernel
theorem dX4_isRow_5 : decode cX4_isRow 5 = .ok (.ifCond .le 44, 3) := by decide +kernel
theorem dX4_isRow_8 : decode cX4_isRow 8 = .ok (.iload_n 1, 1) := by decide +kernel
theorem dX4_isRow_9 : decode cX4_isRow 9 = .ok (.iconst 1, 1) := by decide +kernel
theorem dX4_isRow_10 : decode cX4_isRow 10 = .ok (.invokestatic 53, 3) := by decide +kernel
theorem dX4_isRow_13 : decode cX4_isRow 13 = .ok (.ifCond .le 36, 3) := by decide +kernel
theorem dX4_isRow_16 : decode cX4_isRow 16 = .ok (.iload_n 1, 1) := by decide +kernel
theorem dX4_isRow_17 : decode cX4_isRow 17 = .ok (.iconst 2, 1) := by decide +kernel
theorem dX4_isRow_18 : decode cX4_isRow 18 = .ok (.invokestatic 53, 3) := by decide +kernel
theorem dX4_isRow_21 : decode cX4_isRow 21 = .ok (.ifCond .le 7, 3) := by decide +kernel
theorem dX4_isRow_24 : decode cX4_isRow 24 = .ok (.iconst 1, 1) := by decide +kernel
theorem dX4_isRow_25 : decode cX4_isRow 25 = .ok (.goto 4, 3) := by decide +kernel
theorem dX4_isRow_28 : decode cX4_isRow 28 = .ok (.iconst 0, 1) := by decide +kernel
theorem dX4_isRow_29 : decode cX4_isRow 29 = .ok (.aload_n 0, 1) := by decide +kernel
theorem dX4_isRow_30 : decode cX4_isRow 30 = .ok (.getfield 46, 3) := by decide +kernel
theorem dX4_isRow_33 : decode cX4_isRow 33 = .ok (.iconst 3, 1) := by decide +kernel
theorem dX4_isRow_34 : decode cX4_isRow 34 = .ok (.if_icmp .ne 7, 3) := by decide +kernel
theorem dX4_isRow_37 : decode cX4_isRow 37 = .ok (.iconst 1, 1) := by decide +kernel
theorem dX4_isRow_38 : decode cX4_isRow 38 = .ok (.goto 4, 3) := by decide +kernel
theorem dX4_isRow_41 : decode cX4_isRow 41 = .ok (.iconst 0, 1) := by decide +kernel
theorem dX4_isRow_42 : decode cX4_isRow 42 = .ok (.if_icmp .ne 7, 3) := by decide +kernel
theorem dX4_isRow_45 : decode cX4_isRow 45 = .ok (.iconst 1, 1) := by decide +kernel
theorem dX4_isRow_46 : decode cX4_isRow 46 = .ok (.goto 4, 3) := by decide +kernel
theorem dX4_isRow_49 : decode cX4_isRow 49 = .ok (.iconst 0, 1) := by decide +kernel
theorem dX4_isRow_50 : decode cX4_isRow 50 = .ok (.ireturn, 1) := by decide +kernel
set_option maxRecDepth 20000 in
theorem ggX4_lay_X4_isRow : GoodIn wsX4_lay wsX4_isRow := goodIn_r _ [16, 1, 17, 18, 15, 19, 20, 21, 22, 23, 24, 25, 26, 27, 28, 29, 30, 31, 32, 33, 34, 35, 36, 37] (by decide +kernel) (by decide +kernel)
set_option maxRecDepth 20000 in
theorem gX4_lay_X4_isRow : GoodIn wsX4_lay (wsV RX4 75 RX4 yX4_isRow wsX4_isRow) := goodIn_app (goodIn_of _ (by decide +kernel)) ggX4_lay_X4_isRow
theorem dX4_lay_0 : decode cX4_lay 0 = .ok (.aload_n 0, 1) := by decide +kernel
theorem dX4_lay_1 : decode cX4_lay 1 = .ok (.iload_n 3, 1) := by decide +kernel
theorem dX4_lay_2 : decode cX4_lay 2 = .ok (.ifCond .ne 7, 3) := by decide +kernel
theorem dX4_lay_5 : decode cX4_lay 5 = .ok (.iconst 2, 1) := by decide +kernel
theorem dX4_lay_6 : decode cX4_lay 6 = .ok (.goto 4, 3) := by decide +kernel
theorem dX4_lay_9 : decode cX4_lay 9 = .ok (.iconst 3, 1) := by decide +kernel
theorem dX4_lay_10 : decode cX4_lay 10 = .ok (.putfield 46, 3) := by decide +kernel
theorem dX4_lay_13 : decode cX4_lay 13 = .ok (.aload_n 0, 1) := by decide +kernel
theorem dX4_lay_14 : decode cX4_lay 14 = .ok (.getfield 9, 3) := by decide +kernel
theorem dX4_lay_17 : decode cX4_lay 17 = .ok (.iconst 0, 1) := by decide +kernel
theorem dX4_lay_18 : decode cX4_lay 18 = .ok (.iload_n 1, 1) := by decide +kernel
theorem dX4_lay_19 : decode cX4_lay 19 = .ok (.iastore, 1) := by decide +kernel
theorem dX4_lay_20 : decode cX4_lay 20 = .ok (.aload_n 0, 1) := by decide +kernel
theorem dX4_lay_21 : decode cX4_lay 21 = .ok (.getfield 9, 3) := by decide +kernel
theorem dX4_lay_24 : decode cX4_lay 24 = .ok (.iconst 1, 1) := by decide +kernel
theorem dX4_lay_25 : decode cX4_lay 25 = .ok (.iload_n 2, 1) := by decide +kernel
theorem dX4_lay_26 : decode cX4_lay 26 = .ok (.iastore, 1) := by decide +kernel
theorem dX4_lay_27 : decode cX4_lay 27 = .ok (.aload_n 0, 1) := by decide +kernel
theorem dX4_lay_28 : decode cX4_lay 28 = .ok (.getfield 9, 3) := by decide +kernel
theorem dX4_lay_31 : decode cX4_lay 31 = .ok (.iconst 2, 1) := by decide +kernel
theorem dX4_lay_32 : decode cX4_lay 32 = .ok (.iload_n 3, 1) := by decide +kernel
theorem dX4_lay_33 : decode cX4_lay 33 = .ok (.iastore, 1) := by decide +kernel
theorem dX4_lay_34 : decode cX4_lay 34 = .ok (.iconst 0, 1) := by decide +kernel
theorem dX4_lay_35 : decode cX4_lay 35 = .ok (.istore 4, 2) := by decide +kernel
theorem dX4_lay_37 : decode cX4_lay 37 = .ok (.iload 4, 2) := by decide +kernel
theorem dX4_lay_39 : decode cX4_lay 39 = .ok (.iconst 3, 1) := by decide +kernel
theorem dX4_lay_40 : decode cX4_lay 40 = .ok (.if_icmp .ge 17, 3) := by decide +kernel
theorem dX4_lay_43 : decode cX4_lay 43 = .ok (.aload_n 0, 1) := by decide +kernel
theorem dX4_lay_44 : decode cX4_lay 44 = .ok (.getfield 13, 3) := by decide +kernel
theorem dX4_lay_47 : decode cX4_lay 47 = .ok (.iload 4, 2) := by decide +kernel
theorem dX4_lay_49 : decode cX4_lay 49 = .ok (.iconst 0, 1) := by decide +kernel
theorem dX4_lay_50 : decode cX4_lay 50 = .ok (.iastore, 1) := by decide +kernel
theorem dX4_lay_51 : decode cX4_lay 51 = .ok (.iinc 4 1, 3) := by decide +kernel
theorem dX4_lay_54 : decode cX4_lay 54 = .ok (.goto (-17), 3) := by decide +kernel
theorem dX4_lay_57 : decode cX4_lay 57 = .ok (.aload_n 0, 1) := by decide +kernel
theorem dX4_lay_58 : decode cX4_lay 58 = .ok (.iconst 0, 1) := by decide +kernel
theorem dX4_lay_59 : decode cX4_lay 59 = .ok (.putfield 57, 3) := by decide +kernel
theorem dX4_lay_62 : decode cX4_lay 62 = .ok (.aload_n 0, 1) := by decide +kernel
theorem dX4_lay_63 : decode cX4_lay 63 = .ok (.iconst 0, 1) := by decide +kernel
theorem dX4_lay_64 : decode cX4_lay 64 = .ok (.putfield 60, 3) := by decide +kernel
theorem dX4_lay_67 : decode cX4_lay 67 = .ok (.aload_n 0, 1) := by decide +kernel
theorem dX4_lay_68 : decode cX4_lay 68 = .ok (.iconst 0, 1) := by decide +kernel
theorem dX4_lay_69 : decode cX4_lay 69 = .ok (.putfield 63, 3) := by decide +kernel
theorem dX4_lay_72 : decode cX4_lay 72 = .ok (.aload_n 0, 1) := by decide +kernel
theorem dX4_lay_73 : decode cX4_lay 73 = .ok (.iconst 0, 1) := by decide +kernel
theorem dX4_lay_74 : decode cX4_lay 74 = .ok (.putfield 66, 3) := by decide +kernel
theorem dX4_lay_77 : decode cX4_lay 77 = .ok (.aload_n 0, 1) := by decide +kernel
theorem dX4_lay_78 : decode cX4_lay 78 = .ok (.iconst 0, 1) := by decide +kernel
theorem dX4_lay_79 : decode cX4_lay 79 = .ok (.putfield 69, 3) := by decide +kernel
theorem dX4_lay_82 : decode cX4_lay 82 = .ok (.aload_n 0, 1) := by decide +kernel
theorem dX4_lay_83 : decode cX4_lay 83 = .ok (.iconst 0, 1) := by decide +kernel
theorem dX4_lay_84 : decode cX4_lay 84 = .ok (.putfield 72, 3) := by decide +kernel
theorem dX4_lay_87 : decode cX4_lay 87 = .ok (.iconst 0, 1) := by decide +kernel
theorem dX4_lay_88 : decode cX4_lay 88 = .ok (.istore 4, 2) := by decide +kernel
theorem dX4_lay_90 : decode cX4_lay 90 = .ok (.iload 4, 2) := by decide +kernel
theorem dX4_lay_92 : decode cX4_lay 92 = .ok (.sipush 1000, 3) := by decide +kernel
theorem dX4_lay_95 : decode cX4_lay 95 = .ok (.if_icmp .ge 50, 3) := by decide +kernel
theorem dX4_lay_98 : decode cX4_lay 98 = .ok (.aload_n 0, 1) := by decide +kernel
theorem dX4_lay_99 : decode cX4_lay 99 = .ok (.getfield 16, 3) := by decide +kernel
theorem dX4_lay_102 : decode cX4_lay 102 = .ok (.iload 4, 2) := by decide +kernel
theorem dX4_lay_104 : decode cX4_lay 104 = .ok (.aload_n 0, 1) := by decide +kernel
theorem dX4_lay_105 : decode cX4_lay 105 = .ok (.iload 4, 2) := by decide +kernel
theorem dX4_lay_107 : decode cX4_lay 107 = .ok (.invokevirtual 75, 3) := by decide +kernel
theorem dX4_lay_110 : decode cX4_lay 110 = .ok (.bastore, 1) := by decide +kernel
theorem dX4_lay_111 : decode cX4_lay 111 = .ok (.iconst 0, 1) := by decide +kernel
theorem dX4_lay_112 : decode cX4_lay 112 = .ok (.istore 5, 2) := by decide +kernel
theorem dX4_lay_114 : decode cX4_lay 114 = .ok (.iload 5, 2) := by decide +kernel
theorem dX4_lay_116 : decode cX4_lay 116 = .ok (.iconst 3, 1) := by decide +kernel
theorem dX4_lay_117 : decode cX4_lay 117 = .ok (.if_icmp .ge 22, 3) := by decide +kernel
theorem dX4_lay_120 : decode cX4_lay 120 = .ok (.aload_n 0, 1) := by decide +kernel
theorem dX4_lay_121 : decode cX4_lay 121 = .ok (.getfield 20, 3) := by decide +kernel
theorem dX4_lay_124 : decode cX4_lay 124 = .ok (.iconst 3, 1) := by decide +kernel
theorem dX4_lay_125 : decode cX4_lay 125 = .ok (.iload 4, 2) := by decide +kernel
theorem dX4_lay_127 : decode cX4_lay 127 = .ok (.imul, 1) := by decide +kernel
theorem dX4_lay_128 : decode cX4_lay 128 = .ok (.iload 5, 2) := by decide +kernel
theorem dX4_lay_130 : decode cX4_lay 130 = .ok (.iadd, 1) := by decide +kernel
theorem dX4_lay_131 : decode cX4_lay 131 = .ok (.iconst 0, 1) := by decide +kernel
theorem dX4_lay_132 : decode cX4_lay 132 = .ok (.iastore, 1) := by decide +kernel
theorem dX4_lay_133 : decode cX4_lay 133 = .ok (.iinc 5 1, 3) := by decide +kernel
theorem dX4_lay_136 : decode cX4_lay 136 = .ok (.goto (-22), 3) := by decide +kernel
theorem dX4_lay_139 : decode cX4_lay 139 = .ok (.iinc 4 1, 3) := by decide +kernel
theorem dX4_lay_142 : decode cX4_lay 142 = .ok (.goto (-52), 3) := by decide +kernel
theorem dX4_lay_145 : decode cX4_lay 145 = .ok (.return_, 1) := by decide +kernel
theorem dX4_move_0 : decode cX4_move 0 = .ok (.iload_n 1, 1) := by decide +kernel
theorem dX4_move_1 : decode cX4_move 1 = .ok (.iconst 3, 1) := by decide +kernel
theorem dX4_move_2 : decode cX4_move 2 = .ok (.irem, 1) := by decide +kernel
theorem dX4_move_3 : decode cX4_move 3 = .ok (.istore_n 2, 1) := by decide +kernel
theorem dX4_move_4 : decode cX4_move 4 = .ok (.iload_n 1, 1) := by decide +kernel
theorem dX4_move_5 : decode cX4_move 5 = .ok (.iconst 3, 1) := by decide +kernel
theorem dX4_move_6 : decode cX4_move 6 = .ok (.if_icmp .ge 32, 3) := by decide +kernel
theorem dX4_move_9 : decode cX4_move 9 = .ok (.aload_n 0, 1) := by decide +kernel
theorem dX4_move_10 : decode cX4_move 10 = .ok (.getfield 32, 3) := by decide +kernel
theorem dX4_move_13 : decode cX4_move 13 = .ok (.iload_n 2, 1) := by decide +kernel
theorem dX4_move_14 : decode cX4_move 14 = .ok (.iaload, 1) := by decide +kernel
theorem dX4_move_15 : decode cX4_move 15 = .ok (.aload_n 0, 1) := by decide +kernel
theorem dX4_move_16 : decode cX4_move 16 = .ok (.getfield 29, 3) := by decide +kernel
theorem dX4_move_19 : decode cX4_move 19 = .ok (.iload_n 2, 1) := by decide +kernel
theorem dX4_move_20 : decode cX4_move 20 = .ok (.iaload, 1) := by decide +kernel
theorem dX4_move_21 : decode cX4_move 21 = .ok (.isub, 1) := by decide +kernel
theorem dX4_move_22 : decode cX4_move 22 = .ok (.istore_n 3, 1) := by decide +kernel
theorem dX4_move_23 : decode cX4_move 23 = .ok (.aload_n 0, 1) := by decide +kernel
theorem dX4_move_24 : decode cX4_move 24 = .ok (.getfield 29, 3) := by decide +kernel
theorem dX4_move_27 : decode cX4_move 27 = .ok (.iload_n 2, 1) := by decide +kernel
theorem dX4_move_28 : decode cX4_move 28 = .ok (.aload_n 0, 1) := by decide +kernel
theorem dX4_move_29 : decode cX4_move 29 = .ok (.getfield 32, 3) := by decide +kernel
theorem dX4_move_32 : decode cX4_move 32 = .ok (.iload_n 2, 1) := by decide +kernel
theorem dX4_move_33 : decode cX4_move 33 = .ok (.iaload, 1) := by decide +kernel
theorem dX4_move_34 : decode cX4_move 34 = .ok (.iastore, 1) := by decide +kernel
theorem dX4_move_35 : decode cX4_move 35 = .ok (.goto 79, 3) := by decide +kernel
theorem dX4_move_38 : decode cX4_move 38 = .ok (.iload_n 1, 1) := by decide +kernel
theorem dX4_move_39 : decode cX4_move 39 = .ok (.bipush 6, 2) := by decide +kernel
theorem dX4_move_41 : decode cX4_move 41 = .ok (.if_icmp .ge 20, 3) := by decide +kernel
theorem dX4_move_44 : decode cX4_move 44 = .ok (.aload_n 0, 1) := by decide +kernel
theorem dX4_move_45 : decode cX4_move 45 = .ok (.getfield 29, 3) := by decide +kernel
theorem dX4_move_48 : decode cX4_move 48 = .ok (.iload_n 2, 1) := by decide +kernel
theorem dX4_move_49 : decode cX4_move 49 = .ok (.iaload, 1) := by decide +kernel
theorem dX4_move_50 : decode cX4_move 50 = .ok (.istore_n 3, 1) := by decide +kernel
theorem dX4_move_51 : decode cX4_move 51 = .ok (.aload_n 0, 1) := by decide +kernel
theorem dX4_move_52 : decode cX4_move 52 = .ok (.getfield 29, 3) := by decide +kernel
theorem dX4_move_55 : decode cX4_move 55 = .ok (.iload_n 2, 1) := by decide +kernel
theorem dX4_move_56 : decode cX4_move 56 = .ok (.iconst 0, 1) := by decide +kernel
theorem dX4_move_57 : decode cX4_move 57 = .ok (.iastore, 1) := by decide +kernel
theorem dX4_move_58 : decode cX4_move 58 = .ok (.goto 56, 3) := by decide +kernel
theorem dX4_move_61 : decode cX4_move 61 = .ok (.iload_n 1, 1) := by decide +kernel
theorem dX4_move_62 : decode cX4_move 62 = .ok (.bipush 6, 2) := by decide +kernel
theorem dX4_move_64 : decode cX4_move 64 = .ok (.isub, 1) := by decide +kernel
theorem dX4_move_65 : decode cX4_move 65 = .ok (.iconst 3, 1) := by decide +kernel
theorem dX4_move_66 : decode cX4_move 66 = .ok (.idiv, 1) := by decide +kernel
theorem dX4_move_67 : decode cX4_move 67 = .ok (.istore 4, 2) := by decide +kernel
theorem dX4_move_69 : decode cX4_move 69 = .ok (.aload_n 0, 1) := by decide +kernel
theorem dX4_move_70 : decode cX4_move 70 = .ok (.getfield 29, 3) := by decide +kernel
theorem dX4_move_73 : decode cX4_move 73 = .ok (.iload 4, 2) := by decide +kernel
theorem dX4_move_75 : decode cX4_move 75 = .ok (.iaload, 1) := by decide +kernel
theorem dX4_move_76 : decode cX4_move 76 = .ok (.aload_n 0, 1) := by decide +kernel
theorem dX4_move_77 : decode cX4_move 77 = .ok (.getfield 32, 3) := by decide +kernel
theorem dX4_move_80 : decode cX4_move 80 = .ok (.iload_n 2, 1) := by decide +kernel
theorem dX4_move_81 : decode cX4_move 81 = .ok (.iaload, 1) := by decide +kernel
theorem dX4_move_82 : decode cX4_move 82 = .ok (.aload_n 0, 1) := by decide +kernel
theorem dX4_move_83 : decode cX4_move 83 = .ok (.getfield 29, 3) := by decide +kernel
theorem dX4_move_86 : decode cX4_move 86 = .ok (.iload_n 2, 1) := by decide +kernel
theorem dX4_move_87 : decode cX4_move 87 = .ok (.iaload, 1) := by decide +kernel
theorem dX4_move_88 : decode cX4_move 88 = .ok (.isub, 1) := by decide +kernel
theorem dX4_move_89 : decode cX4_move 89 = .ok (.invokestatic 79, 3) := by decide +kernel
theorem dX4_move_92 : decode cX4_move 92 = .ok (.istore_n 3, 1) := by decide +kernel
theorem dX4_move_93 : decode cX4_move 93 = .ok (.aload_n 0, 1) := by decide +kernel
theorem dX4_move_94 : decode cX4_move 94 = .ok (.getfield 29, 3) := by decide +kernel
theorem dX4_move_97 : decode cX4_move 97 = .ok (.iload 4, 2) := by decide +kernel
theorem dX4_move_99 : decode cX4_move 99 = .ok (.dup2, 1) := by decide +kernel
theorem dX4_move_100 : decode cX4_move 100 = .ok (.iaload, 1) := by decide +kernel
theorem dX4_move_101 : decode cX4_move 101 = .ok (.iload_n 3, 1) := by decide +kernel
theorem dX4_move_102 : decode cX4_move 102 = .ok (.isub, 1) := by decide +kernel
theorem dX4_move_103 : decode cX4_move 103 = .ok (.iastore, 1) := by decide +kernel
theorem dX4_move_104 : decode cX4_move 104 = .ok (.aload_n 0, 1) := by decide +kernel
theorem dX4_move_105 : decode cX4_move 105 = .ok (.getfield 29, 3) := by decide +kernel
theorem dX4_move_108 : decode cX4_move 108 = .ok (.iload_n 2, 1) := by decide +kernel
theorem dX4_move_109 : decode cX4_move 109 = .ok (.dup2, 1) := by decide +kernel
theorem dX4_move_110 : decode cX4_move 110 = .ok (.iaload, 1) := by decide +kernel
theorem dX4_move_111 : decode cX4_move 111 = .ok (.iload_n 3, 1) := by decide +kernel
theorem dX4_move_112 : decode cX4_move 112 = .ok (.iadd, 1) := by decide +kernel
theorem dX4_move_113 : decode cX4_move 113 = .ok (.iastore, 1) := by decide +kernel
theorem dX4_move_114 : decode cX4_move 114 = .ok (.iload_n 3, 1) := by decide +kernel
theorem dX4_move_115 : decode cX4_move 115 = .ok (.ireturn, 1) := by decide +kernel
theorem dX4_isAct_0 : decode cX4_isAct 0 = .ok (.iload_n 1, 1) := by decide +kernel
theorem dX4_isAct_1 : decode cX4_isAct 1 = .ok (.iconst 3, 1) := by decide +kernel
theorem dX4_isAct_2 : decode cX4_isAct 2 = .ok (.irem, 1) := by decide +kernel
theorem dX4_isAct_3 : decode cX4_isAct 3 = .ok (.aload_n 0, 1) := by decide +kernel
theorem dX4_isAct_4 : decode cX4_isAct 4 = .ok (.getfield 46, 3) := by decide +kernel
theorem dX4_isAct_7 : decode cX4_isAct 7 = .ok (.if_icmp .ge 38, 3) := by decide +kernel
theorem dX4_isAct_10 : decode cX4_isAct 10 = .ok (.iload_n 1, 1) := by decide +kernel
theorem dX4_isAct_11 : decode cX4_isAct 11 = .ok (.bipush 6, 2) := by decide +kernel
theorem dX4_isAct_13 : decode cX4_isAct 13 = .ok (.if_icmp .lt 28, 3) := by decide +kernel
theorem dX4_isAct_16 : decode cX4_isAct 16 = .ok (.iload_n 1, 1) := by decide +kernel
theorem dX4_isAct_17 : decode cX4_isAct 17 = .ok (.bipush 6, 2) := by decide +kernel
theorem dX4_isAct_19 : decode cX4_isAct 19 = .ok (.isub, 1) := by decide +kernel
theorem dX4_isAct_20 : decode cX4_isAct 20 = .ok (.iconst 3, 1) := by decide +kernel
theorem dX4_isAct_21 : decode cX4_isAct 21 = .ok (.idiv, 1) := by decide +kernel
theorem dX4_isAct_22 : decode cX4_isAct 22 = .ok (.aload_n 0, 1) := by decide +kernel
theorem dX4_isAct_23 : decode cX4_isAct 23 = .ok (.getfield 46, 3) := by decide +kernel
theorem dX4_isAct_26 : decode cX4_isAct 26 = .ok (.if_icmp .ge 19, 3) := by decide +kernel
theorem dX4_isAct_29 : decode cX4_isAct 29 = .ok (.iload_n 1, 1) := by decide +kernel
theorem dX4_isAct_30 : decode cX4_isAct 30 = .ok (.bipush 6, 2) := by decide +kernel
theorem dX4_isAct_32 : decode cX4_isAct 32 = .ok (.isub, 1) := by decide +kernel
theorem dX4_isAct_33 : decode cX4_isAct 33 = .ok (.iconst 3, 1) := by decide +kernel
theorem dX4_isAct_34 : decode cX4_isAct 34 = .ok (.idiv, 1) := by decide +kernel
theorem dX4_isAct_35 : decode cX4_isAct 35 = .ok (.iload_n 1, 1) := by decide +kernel
theorem dX4_isAct_36 : decode cX4_isAct 36 = .ok (.iconst 3, 1) := by decide +kernel
theorem dX4_isAct_37 : decode cX4_isAct 37 = .ok (.irem, 1) := by decide +kernel
theorem dX4_isAct_38 : decode cX4_isAct 38 = .ok (.if_icmp .eq 7, 3) := by decide +kernel
theorem dX4_isAct_41 : decode cX4_isAct 41 = .ok (.iconst 1, 1) := by decide +kernel
theorem dX4_isAct_42 : decode cX4_isAct 42 = .ok (.goto 4, 3) := by decide +kernel
theorem dX4_isAct_45 : decode cX4_isAct 45 = .ok (.iconst 0, 1) := by decide +kernel
theorem dX4_isAct_46 : decode cX4_isAct 46 = .ok (.ireturn, 1) := by decide +kernel
set_option maxRecDepth 20000 in
theorem ggX4_lookAtRow_X4_figure : GoodIn wsX4_lookAtRow wsX4_figure := goodIn_r _ [7] (by decide +kernel) (by decide +kernel)
set_option maxRecDepth 20000 in
theorem gX4_lookAtRow_X4_figure : GoodIn wsX4_lookAtRow (va_wsS RX4 53 yX4_figure wsX4_figure) := goodIn_app (goodIn_of _ (by decide +kernel)) ggX4_lookAtRow_X4_figure
theorem dX4_lookAtRow_0 : decode cX4_lookAtRow 0 = .ok (.iconst 0, 1) := by decide +kernel
theorem dX4_lookAtRow_1 : decode cX4_lookAtRow 1 = .ok (.istore_n 2, 1) := by decide +kernel
theorem dX4_lookAtRow_2 : decode cX4_lookAtRow 2 = .ok (.iload_n 2, 1) := by decide +kernel
theorem dX4_lookAtRow_3 : decode cX4_lookAtRow 3 = .ok (.iconst 3, 1) := by decide +kernel
theorem dX4_lookAtRow_4 : decode cX4_lookAtRow 4 = .ok (.if_icmp .ge 36, 3) := by decide +kernel
theorem dX4_lookAtRow_7 : decode cX4_lookAtRow 7 = .ok (.aload_n 0, 1) := by decide +kernel
theorem dX4_lookAtRow_8 : decode cX4_lookAtRow 8 = .ok (.getfield 32, 3) := by decide +kernel
theorem dX4_lookAtRow_11 : decode cX4_lookAtRow 11 = .ok (.iload_n 2, 1) := by decide +kernel
theorem dX4_lookAtRow_12 : decode cX4_lookAtRow 12 = .ok (.iload_n 1, 1) := by decide +kernel
theorem dX4_lookAtRow_13 : decode cX4_lookAtRow 13 = .ok (.iload_n 2, 1) := by decide +kernel
theorem dX4_lookAtRow_14 : decode cX4_lookAtRow 14 = .ok (.invokestatic 53, 3) := by decide +kernel
theorem dX4_lookAtRow_17 : decode cX4_lookAtRow 17 = .ok (.iastore, 1) := by decide +kernel
theorem dX4_lookAtRow_18 : decode cX4_lookAtRow 18 = .ok (.aload_n 0, 1) := by decide +kernel
theorem dX4_lookAtRow_19 : decode cX4_lookAtRow 19 = .ok (.getfield 29, 3) := by decide +kernel
theorem dX4_lookAtRow_22 : decode cX4_lookAtRow 22 = .ok (.iload_n 2, 1) := by decide +kernel
theorem dX4_lookAtRow_23 : decode cX4_lookAtRow 23 = .ok (.aload_n 0, 1) := by decide +kernel
theorem dX4_lookAtRow_24 : decode cX4_lookAtRow 24 = .ok (.getfield 20, 3) := by decide +kernel
theorem dX4_lookAtRow_27 : decode cX4_lookAtRow 27 = .ok (.iconst 3, 1) := by decide +kernel
theorem dX4_lookAtRow_28 : decode cX4_lookAtRow 28 = .ok (.iload_n 1, 1) := by decide +kernel
theorem dX4_lookAtRow_29 : decode cX4_lookAtRow 29 = .ok (.imul, 1) := by decide +kernel
theorem dX4_lookAtRow_30 : decode cX4_lookAtRow 30 = .ok (.iload_n 2, 1) := by decide +kernel
theorem dX4_lookAtRow_31 : decode cX4_lookAtRow 31 = .ok (.iadd, 1) := by decide +kernel
theorem dX4_lookAtRow_32 : decode cX4_lookAtRow 32 = .ok (.iaload, 1) := by decide +kernel
theorem dX4_lookAtRow_33 : decode cX4_lookAtRow 33 = .ok (.iastore, 1) := by decide +kernel
theorem dX4_lookAtRow_34 : decode cX4_lookAtRow 34 = .ok (.iinc 2 1, 3) := by decide +kernel
theorem dX4_lookAtRow_37 : decode cX4_lookAtRow 37 = .ok (.goto (-35), 3) := by decide +kernel
theorem dX4_lookAtRow_40 : decode cX4_lookAtRow 40 = .ok (.return_, 1) := by decide +kernel
set_option maxRecDepth 20000 in
theorem ggX4_lookAtState_X4_figure : GoodIn wsX4_lookAtState wsX4_figure := goodIn_r _ [7] (by decide +kernel) (by decide +kernel)
set_option maxRecDepth 20000 in
theorem gX4_lookAtState_X4_figure : GoodIn wsX4_lookAtState (va_wsS RX4 53 yX4_figure wsX4_figure) := goodIn_app (goodIn_of _ (by decide +kernel)) ggX4_lookAtState_X4_figure
theorem dX4_lookAtState_0 : decode cX4_lookAtState 0 = .ok (.iconst 0, 1) := by decide +kernel
theorem dX4_lookAtState_1 : decode cX4_lookAtState 1 = .ok (.istore_n 2, 1) := by decide +kernel
theorem dX4_lookAtState_2 : decode cX4_lookAtState 2 = .ok (.iload_n 2, 1) := by decide +kernel
theorem dX4_lookAtState_3 : decode cX4_lookAtState 3 = .ok (.iconst 3, 1) := by decide +kernel
theorem dX4_lookAtState_4 : decode cX4_lookAtState 4 = .ok (.if_icmp .ge 32, 3) := by decide +kernel
theorem dX4_lookAtState_7 : decode cX4_lookAtState 7 = .ok (.aload_n 0, 1) := by decide +kernel
theorem dX4_lookAtState_8 : decode cX4_lookAtState 8 = .ok (.getfield 32, 3) := by decide +kernel
theorem dX4_lookAtState_11 : decode cX4_lookAtState 11 = .ok (.iload_n 2, 1) := by decide +kernel
theorem dX4_lookAtState_12 : decode cX4_lookAtState 12 = .ok (.aload_n 0, 1) := by decide +kernel
theorem dX4_lookAtState_13 : decode cX4_lookAtState 13 = .ok (.getfield 9, 3) := by decide +kernel
theorem dX4_lookAtState_16 : decode cX4_lookAtState 16 = .ok (.iload_n 2, 1) := by decide +kernel
theorem dX4_lookAtState_17 : decode cX4_lookAtState 17 = .ok (.iaload, 1) := by decide +kernel
theorem dX4_lookAtState_18 : decode cX4_lookAtState 18 = .ok (.iastore, 1) := by decide +kernel
theorem dX4_lookAtState_19 : decode cX4_lookAtState 19 = .ok (.aload_n 0, 1) := by decide +kernel
theorem dX4_lookAtState_20 : decode cX4_lookAtState 20 = .ok (.getfield 29, 3) := by decide +kernel
theorem dX4_lookAtState_23 : decode cX4_lookAtState 23 = .ok (.iload_n 2, 1) := by decide +kernel
theorem dX4_lookAtState_24 : decode cX4_lookAtState 24 = .ok (.iload_n 1, 1) := by decide +kernel
theorem dX4_lookAtState_25 : decode cX4_lookAtState 25 = .ok (.iload_n 2, 1) := by decide +kernel
theorem dX4_lookAtState_26 : decode cX4_lookAtState 26 = .ok (.invokestatic 53, 3) := by decide +kernel
theorem dX4_lookAtState_29 : decode cX4_lookAtState 29 = .ok (.iastore, 1) := by decide +kernel
theorem dX4_lookAtState_30 : decode cX4_lookAtState 30 = .ok (.iinc 2 1, 3) := by decide +kernel
theorem dX4_lookAtState_33 : decode cX4_lookAtState 33 = .ok (.goto (-31), 3) := by decide +kernel
theorem dX4_lookAtState_36 : decode cX4_lookAtState 36 = .ok (.return_, 1) := by decide +kernel
theorem dX4_sight_0 : decode cX4_sight 0 = .ok (.iconst 0, 1) := by decide +kernel
theorem dX4_sight_1 : decode cX4_sight 1 = .ok (.istore_n 1, 1) := by decide +kernel
theorem dX4_sight_2 : decode cX4_sight 2 = .ok (.iconst 0, 1) := by decide +kernel
theorem dX4_sight_3 : decode cX4_sight 3 = .ok (.istore_n 2, 1) := by decide +kernel
theorem dX4_sight_4 : decode cX4_sight 4 = .ok (.iload_n 2, 1) := by decide +kernel
theorem dX4_sight_5 : decode cX4_sight 5 = .ok (.aload_n 0, 1) := by decide +kernel
theorem dX4_sight_6 : decode cX4_sight 6 = .ok (.getfield 46, 3) := by decide +kernel
theorem dX4_sight_9 : decode cX4_sight 9 = .ok (.if_icmp .ge 49, 3) := by decide +kernel
theorem dX4_sight_12 : decode cX4_sight 12 = .ok (.iconst 4, 1) := by decide +kernel
theorem dX4_sight_13 : decode cX4_sight 13 = .ok (.iload_n 1, 1) := by decide +kernel
theorem dX4_sight_14 : decode cX4_sight 14 = .ok (.imul, 1) := by decide +kernel
theorem dX4_sight_15 : decode cX4_sight 15 = .ok (.aload_n 0, 1) := by decide +kernel
theorem dX4_sight_16 : decode cX4_sight 16 = .ok (.getfield 29, 3) := by decide +kernel
theorem dX4_sight_19 : decode cX4_sight 19 = .ok (.iload_n 2, 1) := by decide +kernel
theorem dX4_sight_20 : decode cX4_sight 20 = .ok (.iaload, 1) := by decide +kernel
theorem dX4_sight_21 : decode cX4_sight 21 = .ok (.ifCond .ne 7, 3) := by decide +kernel
theorem dX4_sight_24 : decode cX4_sight 24 = .ok (.iconst 1, 1) := by decide +kernel
theorem dX4_sight_25 : decode cX4_sight 25 = .ok (.goto 4, 3) := by decide +kernel
theorem dX4_sight_28 : decode cX4_sight 28 = .ok (.iconst 0, 1) := by decide +kernel
theorem dX4_sight_29 : decode cX4_sight 29 = .ok (.iadd, 1) := by decide +kernel
theorem dX4_sight_30 : decode cX4_sight 30 = .ok (.aload_n 0, 1) := by decide +kernel
theorem dX4_sight_31 : decode cX4_sight 31 = .ok (.getfield 29, 3) := by decide +kernel
theorem dX4_sight_34 : decode cX4_sight 34 = .ok (.iload_n 2, 1) := by decide +kernel
theorem dX4_sight_35 : decode cX4_sight 35 = .ok (.iaload, 1) := by decide +kernel
theorem dX4_sight_36 : decode cX4_sight 36 = .ok (.aload_n 0, 1) := by decide +kernel
theorem dX4_sight_37 : decode cX4_sight 37 = .ok (.getfield 32, 3) := by decide +kernel
theorem dX4_sight_40 : decode cX4_sight 40 = .ok (.iload_n 2, 1) := by decide +kernel
theorem dX4_sight_41 : decode cX4_sight 41 = .ok (.iaload, 1) := by decide +kernel
theorem dX4_sight_42 : decode cX4_sight 42 = .ok (.if_icmp .ne 7, 3) := by decide +kernel
theorem dX4_sight_45 : decode cX4_sight 45 = .ok (.iconst 2, 1) := by decide +kernel
theorem dX4_sight_46 : decode cX4_sight 46 = .ok (.goto 4, 3) := by decide +kernel
theorem dX4_sight_49 : decode cX4_sight 49 = .ok (.iconst 0, 1) := by decide +kernel
theorem dX4_sight_50 : decode cX4_sight 50 = .ok (.iadd, 1) := by decide +kernel
theorem dX4_sight_51 : decode cX4_sight 51 = .ok (.istore_n 1, 1) := by decide +kernel
theorem dX4_sight_52 : decode cX4_sight 52 = .ok (.iinc 2 1, 3) := by decide +kernel
theorem dX4_sight_55 : decode cX4_sight 55 = .ok (.goto (-51), 3) := by decide +kernel
theorem dX4_sight_58 : decode cX4_sight 58 = .ok (.iload_n 1, 1) := by decide +kernel
theorem dX4_sight_59 : decode cX4_sight 59 = .ok (.ireturn, 1) := by decide +kernel
theorem dX4_state_0 : decode cX4_state 0 = .ok (.aload_n 0, 1) := by decide +kernel
theorem dX4_state_1 : decode cX4_state 1 = .ok (.getfield 13, 3) := by decide +kernel
theorem dX4_state_4 : decode cX4_state 4 = .ok (.iconst 0, 1) := by decide +kernel
theorem dX4_state_5 : decode cX4_state 5 = .ok (.iaload, 1) := by decide +kernel
theorem dX4_state_6 : decode cX4_state 6 = .ok (.bipush 10, 2) := by decide +kernel
theorem dX4_state_8 : decode cX4_state 8 = .ok (.aload_n 0, 1) := by decide +kernel
theorem dX4_state_9 : decode cX4_state 9 = .ok (.getfield 13, 3) := by decide +kernel
theorem dX4_state_12 : decode cX4_state 12 = .ok (.iconst 1, 1) := by decide +kernel
theorem dX4_state_13 : decode cX4_state 13 = .ok (.iaload, 1) := by decide +kernel
theorem dX4_state_14 : decode cX4_state 14 = .ok (.imul, 1) := by decide +kernel
theorem dX4_state_15 : decode cX4_state 15 = .ok (.iadd, 1) := by decide +kernel
theorem dX4_state_16 : decode cX4_state 16 = .ok (.bipush 100, 2) := by decide +kernel
theorem dX4_state_18 : decode cX4_state 18 = .ok (.aload_n 0, 1) := by decide +kernel
theorem dX4_state_19 : decode cX4_state 19 = .ok (.getfield 13, 3) := by decide +kernel
theorem dX4_state_22 : decode cX4_state 22 = .ok (.iconst 2, 1) := by decide +kernel
theorem dX4_state_23 : decode cX4_state 23 = .ok (.iaload, 1) := by decide +kernel
theorem dX4_state_24 : decode cX4_state 24 = .ok (.imul, 1) := by decide +kernel
theorem dX4_state_25 : decode cX4_state 25 = .ok (.iadd, 1) := by decide +kernel
theorem dX4_state_26 : decode cX4_state 26 = .ok (.ireturn, 1) := by decide +kernel
set_option maxRecDepth 20000 in
theorem ggX4_act_X4_state : GoodIn wsX4_act wsX4_state := goodIn_r _ [11, 2, 37, 38, 39, 40, 41, 42, 43, 44, 45, 46, 47, 48, 49, 50, 51, 52, 53, 54] (by decide +kernel) (by decide +kernel)
set_option maxRecDepth 20000 in
theorem gX4_act_X4_state : GoodIn wsX4_act (wsV RX4 84 RX4 yX4_state wsX4_state) := goodIn_app (goodIn_of _ (by decide +kernel)) ggX4_act_X4_state
set_option maxRecDepth 20000 in
theorem ggX4_act_X4_lookAtState : GoodIn wsX4_act wsX4_lookAtState := goodIn_r _ [15, 16, 17, 3, 18, 19, 10, 20, 37, 38, 39, 40, 41, 42, 43, 44, 45, 46, 47, 48, 49, 50, 51, 52, 53, 54] (by decide +kernel) (by decide +kernel)
set_option maxRecDepth 20000 in
theorem gX4_act_X4_lookAtState : GoodIn wsX4_act (wsV RX4 88 RX4 yX4_lookAtState wsX4_lookAtState) := goodIn_app (goodIn_of _ (by decide +kernel)) ggX4_act_X4_lookAtState
set_option maxRecDepth 20000 in
theorem ggX4_act_X4_move : GoodIn wsX4_act wsX4_move := goodIn_r _ [24, 16, 3, 25, 26, 27, 28, 37, 38, 39, 40, 41, 42, 43, 44, 45, 46, 47, 48, 49, 50, 51, 52, 53, 54] (by decide +kernel) (by decide +kernel)
set_option maxRecDepth 20000 in
theorem gX4_act_X4_move : GoodIn wsX4_act (wsV RX4 92 RX4 yX4_move wsX4_move) := goodIn_app (goodIn_of _ (by decide +kernel)) ggX4_act_X4_move
set_option maxRecDepth 20000 in
theorem ggX4_act_X4_sight : GoodIn wsX4_act wsX4_sight := goodIn_r _ [32, 1, 3, 16, 37, 38, 39, 40, 41, 42, 43, 44, 45, 46, 47, 48, 49, 50, 51, 52, 53, 54] (by decide +kernel) (by decide +kernel)
set_option maxRecDepth 20000 in
theorem gX4_act_X4_sight : GoodIn wsX4_act (wsV RX4 96 RX4 yX4_sight wsX4_sight) := goodIn_app (goodIn_of _ (by decide +kernel)) ggX4_act_X4_sight
set_option maxRecDepth 20000 in
theorem ggX4_act_X4_lookAtRow : GoodIn wsX4_act wsX4_lookAtRow := goodIn_r _ [36, 16, 3, 6, 18, 19, 10, 20, 37, 38, 39, 40, 41, 42, 43, 44, 45, 46, 47, 48, 49, 50, 51, 52, 53, 54] (by decide +kernel) (by decide +kernel)
set_option maxRecDepth 20000 in
theorem gX4_act_X4_lookAtRow : GoodIn wsX4_act (wsV RX4 99 RX4 yX4_lookAtRow wsX4_lookAtRow) := goodIn_app (goodIn_of _ (by decide +kernel)) ggX4_act_X4_lookAtRow
theorem dX4_act_0 : decode cX4_act 0 = .ok (.aload_n 0, 1) := by decide +kernel
theorem dX4_act_1 : decode cX4_act 1 = .ok (.aload_n 0, 1) := by decide +kernel
theorem dX4_act_2 : decode cX4_act 2 = .ok (.invokevirtual 84, 3) := by decide +kernel
theorem dX4_act_5 : decode cX4_act 5 = .ok (.invokevirtual 88, 3) := by decide +kernel
theorem dX4_act_8 : decode cX4_act 8 = .ok (.aload_n 0, 1) := by decide +kernel
theorem dX4_act_9 : decode cX4_act 9 = .ok (.iload_n 1, 1) := by decide +kernel
theorem dX4_act_10 : decode cX4_act 10 = .ok (.invokevirtual 92, 3) := by decide +kernel
theorem dX4_act_13 : decode cX4_act 13 = .ok (.istore_n 2, 1) := by decide +kernel
theorem dX4_act_14 : decode cX4_act 14 = .ok (.aload_n 0, 1) := by decide +kernel
theorem dX4_act_15 : decode cX4_act 15 = .ok (.invokevirtual 96, 3) := by decide +kernel
theorem dX4_act_18 : decode cX4_act 18 = .ok (.istore_n 3, 1) := by decide +kernel
theorem dX4_act_19 : decode cX4_act 19 = .ok (.iconst 0, 1) := by decide +kernel
theorem dX4_act_20 : decode cX4_act 20 = .ok (.istore 4, 2) := by decide +kernel
theorem dX4_act_22 : decode cX4_act 22 = .ok (.iload 4, 2) := by decide +kernel
theorem dX4_act_24 : decode cX4_act 24 = .ok (.aload_n 0, 1) := by decide +kernel
theorem dX4_act_25 : decode cX4_act 25 = .ok (.getfield 46, 3) := by decide +kernel
theorem dX4_act_28 : decode cX4_act 28 = .ok (.if_icmp .ge 23, 3) := by decide +kernel
theorem dX4_act_31 : decode cX4_act 31 = .ok (.aload_n 0, 1) := by decide +kernel
theorem dX4_act_32 : decode cX4_act 32 = .ok (.getfield 13, 3) := by decide +kernel
theorem dX4_act_35 : decode cX4_act 35 = .ok (.iload 4, 2) := by decide +kernel
theorem dX4_act_37 : decode cX4_act 37 = .ok (.aload_n 0, 1) := by decide +kernel
theorem dX4_act_38 : decode cX4_act 38 = .ok (.getfield 29, 3) := by decide +kernel
theorem dX4_act_41 : decode cX4_act 41 = .ok (.iload 4, 2) := by decide +kernel
theorem dX4_act_43 : decode cX4_act 43 = .ok (.iaload, 1) := by decide +kernel
theorem dX4_act_44 : decode cX4_act 44 = .ok (.iastore, 1) := by decide +kernel
theorem dX4_act_45 : decode cX4_act 45 = .ok (.iinc 4 1, 3) := by decide +kernel
theorem dX4_act_48 : decode cX4_act 48 = .ok (.goto (-26), 3) := by decide +kernel
theorem dX4_act_51 : decode cX4_act 51 = .ok (.aload_n 0, 1) := by decide +kernel
theorem dX4_act_52 : decode cX4_act 52 = .ok (.dup, 1) := by decide +kernel
theorem dX4_act_53 : decode cX4_act 53 = .ok (.getfield 57, 3) := by decide +kernel
theorem dX4_act_56 : decode cX4_act 56 = .ok (.iconst 1, 1) := by decide +kernel
theorem dX4_act_57 : decode cX4_act 57 = .ok (.iadd, 1) := by decide +kernel
theorem dX4_act_58 : decode cX4_act 58 = .ok (.putfield 57, 3) := by decide +kernel
theorem dX4_act_61 : decode cX4_act 61 = .ok (.iconst 0, 1) := by decide +kernel
theorem dX4_act_62 : decode cX4_act 62 = .ok (.istore 4, 2) := by decide +kernel
theorem dX4_act_64 : decode cX4_act 64 = .ok (.iload 4, 2) := by decide +kernel
theorem dX4_act_66 : decode cX4_act 66 = .ok (.sipush 1000, 3) := by decide +kernel
theorem dX4_act_69 : decode cX4_act 69 = .ok (.if_icmp .ge 91, 3) := by decide +kernel
theorem dX4_act_72 : decode cX4_act 72 = .ok (.aload_n 0, 1) := by decide +kernel
theorem dX4_act_73 : decode cX4_act 73 = .ok (.getfield 16, 3) := by decide +kernel
theorem dX4_act_76 : decode cX4_act 76 = .ok (.iload 4, 2) := by decide +kernel
theorem dX4_act_78 : decode cX4_act 78 = .ok (.baload, 1) := by decide +kernel
theorem dX4_act_79 : decode cX4_act 79 = .ok (.ifCond .ne 6, 3) := by decide +kernel
theorem dX4_act_82 : decode cX4_act 82 = .ok (.goto 72, 3) := by decide +kernel
theorem dX4_act_85 : decode cX4_act 85 = .ok (.aload_n 0, 1) := by decide +kernel
theorem dX4_act_86 : decode cX4_act 86 = .ok (.iload 4, 2) := by decide +kernel
theorem dX4_act_88 : decode cX4_act 88 = .ok (.invokevirtual 99, 3) := by decide +kernel
theorem dX4_act_91 : decode cX4_act 91 = .ok (.aload_n 0, 1) := by decide +kernel
theorem dX4_act_92 : decode cX4_act 92 = .ok (.iload_n 1, 1) := by decide +kernel
theorem dX4_act_93 : decode cX4_act 93 = .ok (.invokevirtual 92, 3) := by decide +kernel
theorem dX4_act_96 : decode cX4_act 96 = .ok (.pop, 1) := by decide +kernel
theorem dX4_act_97 : decode cX4_act 97 = .ok (.iconst 0, 1) := by decide +kernel
theorem dX4_act_98 : decode cX4_act 98 = .ok (.istore 5, 2) := by decide +kernel
theorem dX4_act_100 : decode cX4_act 100 = .ok (.iload 5, 2) := by decide +kernel
theorem dX4_act_102 : decode cX4_act 102 = .ok (.aload_n 0, 1) := by decide +kernel
theorem dX4_act_103 : decode cX4_act 103 = .ok (.getfield 46, 3) := by decide +kernel
theorem dX4_act_106 : decode cX4_act 106 = .ok (.if_icmp .ge 28, 3) := by decide +kernel
theorem dX4_act_109 : decode cX4_act 109 = .ok (.aload_n 0, 1) := by decide +kernel
theorem dX4_act_110 : decode cX4_act 110 = .ok (.getfield 20, 3) := by decide +kernel
theorem dX4_act_113 : decode cX4_act 113 = .ok (.iconst 3, 1) := by decide +kernel
theorem dX4_act_114 : decode cX4_act 114 = .ok (.iload 4, 2) := by decide +kernel
theorem dX4_act_116 : decode cX4_act 116 = .ok (.imul, 1) := by decide +kernel
theorem dX4_act_117 : decode cX4_act 117 = .ok (.iload 5, 2) := by decide +kernel
theorem dX4_act_119 : decode cX4_act 119 = .ok (.iadd, 1) := by decide +kernel
theorem dX4_act_120 : decode cX4_act 120 = .ok (.aload_n 0, 1) := by decide +kernel
theorem dX4_act_121 : decode cX4_act 121 = .ok (.getfield 29, 3) := by decide +kernel
theorem dX4_act_124 : decode cX4_act 124 = .ok (.iload 5, 2) := by decide +kernel
theorem dX4_act_126 : decode cX4_act 126 = .ok (.iaload, 1) := by decide +kernel
theorem dX4_act_127 : decode cX4_act 127 = .ok (.iastore, 1) := by decide +kernel
theorem dX4_act_128 : decode cX4_act 128 = .ok (.iinc 5 1, 3) := by decide +kernel
theorem dX4_act_131 : decode cX4_act 131 = .ok (.goto (-31), 3) := by decide +kernel
theorem dX4_act_134 : decode cX4_act 134 = .ok (.aload_n 0, 1) := by decide +kernel
theorem dX4_act_135 : decode cX4_act 135 = .ok (.getfield 16, 3) := by decide +kernel
theorem dX4_act_138 : decode cX4_act 138 = .ok (.iload 4, 2) := by decide +kernel
theorem dX4_act_140 : decode cX4_act 140 = .ok (.aload_n 0, 1) := by decide +kernel
theorem dX4_act_141 : decode cX4_act 141 = .ok (.invokevirtual 96, 3) := by decide +kernel
theorem dX4_act_144 : decode cX4_act 144 = .ok (.iload_n 3, 1) := by decide +kernel
theorem dX4_act_145 : decode cX4_act 145 = .ok (.if_icmp .ne 7, 3) := by decide +kernel
theorem dX4_act_148 : decode cX4_act 148 = .ok (.iconst 1, 1) := by decide +kernel
theorem dX4_act_149 : decode cX4_act 149 = .ok (.goto 4, 3) := by decide +kernel
theorem dX4_act_152 : decode cX4_act 152 = .ok (.iconst 0, 1) := by decide +kernel
theorem dX4_act_153 : decode cX4_act 153 = .ok (.bastore, 1) := by decide +kernel
theorem dX4_act_154 : decode cX4_act 154 = .ok (.iinc 4 1, 3) := by decide +kernel
theorem dX4_act_157 : decode cX4_act 157 = .ok (.goto (-93), 3) := by decide +kernel
theorem dX4_act_160 : decode cX4_act 160 = .ok (.iload_n 2, 1) := by decide +kernel
theorem dX4_act_161 : decode cX4_act 161 = .ok (.ireturn, 1) := by decide +kernel
theorem dX4_count_0 : decode cX4_count 0 = .ok (.iload_n 1, 1) := by decide +kernel
theorem dX4_count_1 : decode cX4_count 1 = .ok (.iconst 3, 1) := by decide +kernel
theorem dX4_count_2 : decode cX4_count 2 = .ok (.if_icmp .ge 16, 3) := by decide +kernel
theorem dX4_count_5 : decode cX4_count 5 = .ok (.aload_n 0, 1) := by decide +kernel
theorem dX4_count_6 : decode cX4_count 6 = .ok (.dup, 1) := by decide +kernel
theorem dX4_count_7 : decode cX4_count 7 = .ok (.getfield 66, 3) := by decide +kernel
theorem dX4_count_10 : decode cX4_count 10 = .ok (.iload_n 2, 1) := by decide +kernel
theorem dX4_count_11 : decode cX4_count 11 = .ok (.iadd, 1) := by decide +kernel
theorem dX4_count_12 : decode cX4_count 12 = .ok (.putfield 66, 3) := by decide +kernel
theorem dX4_count_15 : decode cX4_count 15 = .ok (.goto 32, 3) := by decide +kernel
theorem dX4_count_18 : decode cX4_count 18 = .ok (.iload_n 1, 1) := by decide +kernel
theorem dX4_count_19 : decode cX4_count 19 = .ok (.bipush 6, 2) := by decide +kernel
theorem dX4_count_21 : decode cX4_count 21 = .ok (.if_icmp .ge 16, 3) := by decide +kernel
theorem dX4_count_24 : decode cX4_count 24 = .ok (.aload_n 0, 1) := by decide +kernel
theorem dX4_count_25 : decode cX4_count 25 = .ok (.dup, 1) := by decide +kernel
theorem dX4_count_26 : decode cX4_count 26 = .ok (.getfield 63, 3) := by decide +kernel
theorem dX4_count_29 : decode cX4_count 29 = .ok (.iload_n 2, 1) := by decide +kernel
theorem dX4_count_30 : decode cX4_count 30 = .ok (.iadd, 1) := by decide +kernel
theorem dX4_count_31 : decode cX4_count 31 = .ok (.putfield 63, 3) := by decide +kernel
theorem dX4_count_34 : decode cX4_count 34 = .ok (.goto 13, 3) := by decide +kernel
theorem dX4_count_37 : decode cX4_count 37 = .ok (.aload_n 0, 1) := by decide +kernel
theorem dX4_count_38 : decode cX4_count 38 = .ok (.dup, 1) := by decide +kernel
theorem dX4_count_39 : decode cX4_count 39 = .ok (.getfield 60, 3) := by decide +kernel
theorem dX4_count_42 : decode cX4_count 42 = .ok (.iload_n 2, 1) := by decide +kernel
theorem dX4_count_43 : decode cX4_count 43 = .ok (.iadd, 1) := by decide +kernel
theorem dX4_count_44 : decode cX4_count 44 = .ok (.putfield 60, 3) := by decide +kernel
theorem dX4_count_47 : decode cX4_count 47 = .ok (.return_, 1) := by decide +kernel
set_option maxRecDepth 20000 in
theorem ggX4_done_X4_act : GoodIn wsX4_done wsX4_act := goodIn_r _ [5, 6, 7, 8, 9, 10, 11, 12, 13, 14, 4, 15, 16, 17, 18, 19, 20, 21, 22, 23, 24, 25, 26, 27, 28, 29, 30, 31, 32, 33, 34, 35, 36, 37, 38, 39, 40, 48, 49, 50, 51, 52, 53, 54, 55, 56, 57, 58, 59, 60, 61, 62, 63, 64, 65] (by decide +kernel) (by decide +kernel)
set_option maxRecDepth 20000 in
theorem gX4_done_X4_act : GoodIn wsX4_done (wsV RX4 102 RX4 yX4_act wsX4_act) := goodIn_app (goodIn_of _ (by decide +kernel)) ggX4_done_X4_act
set_option maxRecDepth 20000 in
theorem ggX4_done_X4_count : GoodIn wsX4_done wsX4_count := goodIn_r _ [44, 45, 46, 47, 48, 49, 50, 51, 52, 53, 54, 55, 56, 57, 58, 59, 60, 61, 62, 63, 64, 65] (by decide +kernel) (by decide +kernel)
set_option maxRecDepth 20000 in
theorem gX4_done_X4_count : GoodIn wsX4_done (wsV RX4 105 RX4 yX4_count wsX4_count) := goodIn_app (goodIn_of _ (by decide +kernel)) ggX4_done_X4_count
theorem dX4_done_0 : decode cX4_done 0 = .ok (.aload_n 0, 1) := by decide +kernel
theorem dX4_done_1 : decode cX4_done 1 = .ok (.iload_n 1, 1) := by decide +kernel
theorem dX4_done_2 : decode cX4_done 2 = .ok (.invokevirtual 102, 3) := by decide +kernel
theorem dX4_done_5 : decode cX4_done 5 = .ok (.istore_n 2, 1) := by decide +kernel
theorem dX4_done_6 : decode cX4_done 6 = .ok (.aload_n 0, 1) := by decide +kernel
theorem dX4_done_7 : decode cX4_done 7 = .ok (.iload_n 1, 1) := by decide +kernel
theorem dX4_done_8 : decode cX4_done 8 = .ok (.iload_n 2, 1) := by decide +kernel
theorem dX4_done_9 : decode cX4_done 9 = .ok (.invokevirtual 105, 3) := by decide +kernel
theorem dX4_done_12 : decode cX4_done 12 = .ok (.iload_n 2, 1) := by decide +kernel
theorem dX4_done_13 : decode cX4_done 13 = .ok (.ireturn, 1) := by decide +kernel
set_option maxRecDepth 20000 in
theorem ggX4_layOut_X4_isVolume : GoodIn wsX4_layOut wsX4_isVolume := goodIn_r _ [6, 7, 8, 5, 9] (by decide +kernel) (by decide +kernel)
set_option maxRecDepth 20000 in
theorem gX4_layOut_X4_isVolume : GoodIn wsX4_layOut (va_wsS RX4 109 yX4_isVolume wsX4_isVolume) := goodIn_app (goodIn_of _ (by decide +kernel)) ggX4_layOut_X4_isVolume
set_option maxRecDepth 20000 in
theorem ggX4_layOut_X4_isAmount : GoodIn wsX4_layOut wsX4_isAmount := goodIn_r _ [12, 7, 8, 5, 9] (by decide +kernel) (by decide +kernel)
set_option maxRecDepth 20000 in
theorem gX4_layOut_X4_isAmount : GoodIn wsX4_layOut (va_wsS RX4 112 yX4_isAmount wsX4_isAmount) := goodIn_app (goodIn_of _ (by decide +kernel)) ggX4_layOut_X4_isAmount
set_option maxRecDepth 20000 in
theorem ggX4_layOut_X4_no : GoodIn wsX4_layOut wsX4_no := goodIn_r _ [16, 1, 38, 39, 40, 41, 42, 43, 44, 45, 46, 47, 48, 49, 50, 51, 52, 53, 54, 55] (by decide +kernel) (by decide +kernel)
set_option maxRecDepth 20000 in
theorem gX4_layOut_X4_no : GoodIn wsX4_layOut (wsV RX4 115 RX4 yX4_no wsX4_no) := goodIn_app (goodIn_of _ (by decide +kernel)) ggX4_layOut_X4_no
set_option maxRecDepth 20000 in
theorem ggX4_layOut_X4_lay : GoodIn wsX4_layOut wsX4_lay := goodIn_r _ [20, 2, 21, 22, 23, 24, 25, 26, 27, 28, 29, 30, 31, 32, 33, 5, 34, 35, 36, 37, 38, 39, 40, 41, 42, 43, 44, 45, 46, 47, 48, 49, 50, 51, 52, 53, 54, 55] (by decide +kernel) (by decide +kernel)
set_option maxRecDepth 20000 in
theorem gX4_layOut_X4_lay : GoodIn wsX4_layOut (wsV RX4 38 RX4 yX4_lay wsX4_lay) := goodIn_app (goodIn_of _ (by decide +kernel)) ggX4_layOut_X4_lay
theorem dX4_layOut_0 : decode cX4_layOut 0 = .ok (.aload_n 0, 1) := by decide +kernel
theorem dX4_layOut_1 : decode cX4_layOut 1 = .ok (.iconst 0, 1) := by decide +kernel
theorem dX4_layOut_2 : decode cX4_layOut 2 = .ok (.putfield 42, 3) := by decide +kernel
theorem dX4_layOut_5 : decode cX4_layOut 5 = .ok (.iload_n 1, 1) := by decide +kernel
theorem dX4_layOut_6 : decode cX4_layOut 6 = .ok (.invokestatic 109, 3) := by decide +kernel
theorem dX4_layOut_9 : decode cX4_layOut 9 = .ok (.ifCond .eq 17, 3) := by decide +kernel
theorem dX4_layOut_12 : decode cX4_layOut 12 = .ok (.iload_n 2, 1) := by decide +kernel
theorem dX4_layOut_13 : decode cX4_layOut 13 = .ok (.invokestatic 109, 3) := by decide +kernel
theorem dX4_layOut_16 : decode cX4_layOut 16 = .ok (.ifCond .eq 10, 3) := by decide +kernel
theorem dX4_layOut_19 : decode cX4_layOut 19 = .ok (.iload_n 3, 1) := by decide +kernel
theorem dX4_layOut_20 : decode cX4_layOut 20 = .ok (.invokestatic 112, 3) := by decide +kernel
theorem dX4_layOut_23 : decode cX4_layOut 23 = .ok (.ifCond .ne 9, 3) := by decide +kernel
theorem dX4_layOut_26 : decode cX4_layOut 26 = .ok (.aload_n 0, 1) := by decide +kernel
theorem dX4_layOut_27 : decode cX4_layOut 27 = .ok (.iconst 1, 1) := by decide +kernel
theorem dX4_layOut_28 : decode cX4_layOut 28 = .ok (.invokevirtual 115, 3) := by decide +kernel
theorem dX4_layOut_31 : decode cX4_layOut 31 = .ok (.ireturn, 1) := by decide +kernel
theorem dX4_layOut_32 : decode cX4_layOut 32 = .ok (.aload_n 0, 1) := by decide +kernel
theorem dX4_layOut_33 : decode cX4_layOut 33 = .ok (.iload_n 1, 1) := by decide +kernel
theorem dX4_layOut_34 : decode cX4_layOut 34 = .ok (.iload_n 2, 1) := by decide +kernel
theorem dX4_layOut_35 : decode cX4_layOut 35 = .ok (.iload_n 3, 1) := by decide +kernel
theorem dX4_layOut_36 : decode cX4_layOut 36 = .ok (.invokevirtual 38, 3) := by decide +kernel
theorem dX4_layOut_39 : decode cX4_layOut 39 = .ok (.aload_n 0, 1) := by decide +kernel
theorem dX4_layOut_40 : decode cX4_layOut 40 = .ok (.getfield 46, 3) := by decide +kernel
theorem dX4_layOut_43 : decode cX4_layOut 43 = .ok (.ireturn, 1) := by decide +kernel
set_option maxRecDepth 20000 in
theorem ggX4_fill_X4_isJar : GoodIn wsX4_fill wsX4_isJar := goodIn_r _ [6, 7, 8, 9, 5, 10, 64, 65, 66, 67, 68, 69, 70, 71, 72, 73, 74, 75, 76, 77, 78, 79, 80, 81] (by decide +kernel) (by decide +kernel)
set_option maxRecDepth 20000 in
theorem gX4_fill_X4_isJar : GoodIn wsX4_fill (wsV RX4 118 RX4 yX4_isJar wsX4_isJar) := goodIn_app (goodIn_of _ (by decide +kernel)) ggX4_fill_X4_isJar
set_option maxRecDepth 20000 in
theorem ggX4_fill_X4_done : GoodIn wsX4_fill wsX4_done := goodIn_r _ [14, 15, 16, 17, 5, 18, 7, 19, 20, 21, 22, 23, 24, 25, 26, 27, 28, 29, 30, 31, 32, 33, 34, 35, 36, 37, 38, 39, 40, 41, 42, 43, 44, 45, 46, 47, 48, 49, 50, 51, 52, 53, 54, 55, 56, 57, 58, 59, 64, 65, 66, 67, 68, 69, 70, 71, 72, 73, 74, 75, 76, 77, 78, 79, 80, 81] (by decide +kernel) (by decide +kernel)
set_option maxRecDepth 20000 in
theorem gX4_fill_X4_done : GoodIn wsX4_fill (wsV RX4 121 RX4 yX4_done wsX4_done) := goodIn_app (goodIn_of _ (by decide +kernel)) ggX4_fill_X4_done
set_option maxRecDepth 20000 in
theorem ggX4_fill_X4_no : GoodIn wsX4_fill wsX4_no := goodIn_r _ [63, 1, 64, 65, 66, 67, 68, 69, 70, 71, 72, 73, 74, 75, 76, 77, 78, 79, 80, 81] (by decide +kernel) (by decide +kernel)
set_option maxRecDepth 20000 in
theorem gX4_fill_X4_no : GoodIn wsX4_fill (wsV RX4 115 RX4 yX4_no wsX4_no) := goodIn_app (goodIn_of _ (by decide +kernel)) ggX4_fill_X4_no
theorem dX4_fill_0 : decode cX4_fill 0 = .ok (.aload_n 0, 1) := by decide +kernel
theorem dX4_fill_1 : decode cX4_fill 1 = .ok (.iconst 0, 1) := by decide +kernel
theorem dX4_fill_2 : decode cX4_fill 2 = .ok (.putfield 42, 3) := by decide +kernel
theorem dX4_fill_5 : decode cX4_fill 5 = .ok (.aload_n 0, 1) := by decide +kernel
theorem dX4_fill_6 : decode cX4_fill 6 = .ok (.iload_n 1, 1) := by decide +kernel
theorem dX4_fill_7 : decode cX4_fill 7 = .ok (.invokevirtual 118, 3) := by decide +kernel
theorem dX4_fill_10 : decode cX4_fill 10 = .ok (.ifCond .eq 11, 3) := by decide +kernel
theorem dX4_fill_13 : decode cX4_fill 13 = .ok (.aload_n 0, 1) := by decide +kernel
theorem dX4_fill_14 : decode cX4_fill 14 = .ok (.iload_n 1, 1) := by decide +kernel
theorem dX4_fill_15 : decode cX4_fill 15 = .ok (.invokevirtual 121, 3) := by decide +kernel
theorem dX4_fill_18 : decode cX4_fill 18 = .ok (.goto 8, 3) := by decide +kernel
theorem dX4_fill_21 : decode cX4_fill 21 = .ok (.aload_n 0, 1) := by decide +kernel
theorem dX4_fill_22 : decode cX4_fill 22 = .ok (.iconst 1, 1) := by decide +kernel
theorem dX4_fill_23 : decode cX4_fill 23 = .ok (.invokevirtual 115, 3) := by decide +kernel
theorem dX4_fill_26 : decode cX4_fill 26 = .ok (.ireturn, 1) := by decide +kernel
set_option maxRecDepth 20000 in
theorem ggX4_empty_X4_isJar : GoodIn wsX4_empty wsX4_isJar := goodIn_r _ [6, 7, 8, 9, 5, 10, 64, 65, 66, 67, 68, 69, 70, 71, 72, 73, 74, 75, 76, 77, 78, 79, 80, 81] (by decide +kernel) (by decide +kernel)
set_option maxRecDepth 20000 in
theorem gX4_empty_X4_isJar : GoodIn wsX4_empty (wsV RX4 118 RX4 yX4_isJar wsX4_isJar) := goodIn_app (goodIn_of _ (by decide +kernel)) ggX4_empty_X4_isJar
set_option maxRecDepth 20000 in
theorem ggX4_empty_X4_done : GoodIn wsX4_empty wsX4_done := goodIn_r _ [14, 15, 16, 17, 5, 18, 7, 19, 20, 21, 22, 23, 24, 25, 26, 27, 28, 29, 30, 31, 32, 33, 34, 35, 36, 37, 38, 39, 40, 41, 42, 43, 44, 45, 46, 47, 48, 49, 50, 51, 52, 53, 54, 55, 56, 57, 58, 59, 64, 65, 66, 67, 68, 69, 70, 71, 72, 73, 74, 75, 76, 77, 78, 79, 80, 81] (by decide +kernel) (by decide +kernel)
set_option maxRecDepth 20000 in
theorem gX4_empty_X4_done : GoodIn wsX4_empty (wsV RX4 121 RX4 yX4_done wsX4_done) := goodIn_app (goodIn_of _ (by decide +kernel)) ggX4_empty_X4_done
set_option maxRecDepth 20000 in
theorem ggX4_empty_X4_no : GoodIn wsX4_empty wsX4_no := goodIn_r _ [63, 1, 64, 65, 66, 67, 68, 69, 70, 71, 72, 73, 74, 75, 76, 77, 78, 79, 80, 81] (by decide +kernel) (by decide +kernel)
set_option maxRecDepth 20000 in
theorem gX4_empty_X4_no : GoodIn wsX4_empty (wsV RX4 115 RX4 yX4_no wsX4_no) := goodIn_app (goodIn_of _ (by decide +kernel)) ggX4_empty_X4_no
theorem dX4_empty_0 : decode cX4_empty 0 = .ok (.aload_n 0, 1) := by decide +kernel
theorem dX4_empty_1 : decode cX4_empty 1 = .ok (.iconst 0, 1) := by decide +kernel
theorem dX4_empty_2 : decode cX4_empty 2 = .ok (.putfield 42, 3) := by decide +kernel
theorem dX4_empty_5 : decode cX4_empty 5 = .ok (.aload_n 0, 1) := by decide +kernel
theorem dX4_empty_6 : decode cX4_empty 6 = .ok (.iload_n 1, 1) := by decide +kernel
theorem dX4_empty_7 : decode cX4_empty 7 = .ok (.invokevirtual 118, 3) := by decide +kernel
theorem dX4_empty_10 : decode cX4_empty 10 = .ok (.ifCond .eq 13, 3) := by decide +kernel
theorem dX4_empty_13 : decode cX4_empty 13 = .ok (.aload_n 0, 1) := by decide +kernel
theorem dX4_empty_14 : decode cX4_empty 14 = .ok (.iconst 3, 1) := by decide +kernel
theorem dX4_empty_15 : decode cX4_empty 15 = .ok (.iload_n 1, 1) := by decide +kernel
theorem dX4_empty_16 : decode cX4_empty 16 = .ok (.iadd, 1) := by decide +kernel
theorem dX4_empty_17 : decode cX4_empty 17 = .ok (.invokevirtual 121, 3) := by decide +kernel
theorem dX4_empty_20 : decode cX4_empty 20 = .ok (.goto 8, 3) := by decide +kernel
theorem dX4_empty_23 : decode cX4_empty 23 = .ok (.aload_n 0, 1) := by decide +kernel
theorem dX4_empty_24 : decode cX4_empty 24 = .ok (.iconst 1, 1) := by decide +kernel
theorem dX4_empty_25 : decode cX4_empty 25 = .ok (.invokevirtual 115, 3) := by decide +kernel
theorem dX4_empty_28 : decode cX4_empty 28 = .ok (.ireturn, 1) := by decide +kernel
set_option maxRecDepth 20000 in
theorem ggX4_pour_X4_isJar : GoodIn wsX4_pour wsX4_isJar := goodIn_r _ [6, 7, 8, 9, 5, 10, 64, 65, 66, 67, 68, 69, 70, 71, 72, 73, 74, 75, 76, 77, 78, 79, 80, 81] (by decide +kernel) (by decide +kernel)
set_option maxRecDepth 20000 in
theorem gX4_pour_X4_isJar : GoodIn wsX4_pour (wsV RX4 118 RX4 yX4_isJar wsX4_isJar) := goodIn_app (goodIn_of _ (by decide +kernel)) ggX4_pour_X4_isJar
set_option maxRecDepth 20000 in
theorem ggX4_pour_X4_no : GoodIn wsX4_pour wsX4_no := goodIn_r _ [14, 1, 64, 65, 66, 67, 68, 69, 70, 71, 72, 73, 74, 75, 76, 77, 78, 79, 80, 81] (by decide +kernel) (by decide +kernel)
set_option maxRecDepth 20000 in
theorem gX4_pour_X4_no : GoodIn wsX4_pour (wsV RX4 115 RX4 yX4_no wsX4_no) := goodIn_app (goodIn_of _ (by decide +kernel)) ggX4_pour_X4_no
set_option maxRecDepth 20000 in
theorem ggX4_pour_X4_done : GoodIn wsX4_pour wsX4_done := goodIn_r _ [18, 19, 20, 21, 5, 22, 7, 23, 24, 25, 26, 27, 28, 29, 30, 31, 32, 33, 34, 35, 36, 37, 38, 39, 40, 41, 42, 43, 44, 45, 46, 47, 48, 49, 50, 51, 52, 53, 54, 55, 56, 57, 58, 59, 60, 61, 62, 63, 64, 65, 66, 67, 68, 69, 70, 71, 72, 73, 74, 75, 76, 77, 78, 79, 80, 81] (by decide +kernel) (by decide +kernel)
set_option maxRecDepth 20000 in
theorem gX4_pour_X4_done : GoodIn wsX4_pour (wsV RX4 121 RX4 yX4_done wsX4_done) := goodIn_app (goodIn_of _ (by decide +kernel)) ggX4_pour_X4_done
theorem dX4_pour_0 : decode cX4_pour 0 = .ok (.aload_n 0, 1) := by decide +kernel
theorem dX4_pour_1 : decode cX4_pour 1 = .ok (.iconst 0, 1) := by decide +kernel
theorem dX4_pour_2 : decode cX4_pour 2 = .ok (.putfield 42, 3) := by decide +kernel
theorem dX4_pour_5 : decode cX4_pour 5 = .ok (.aload_n 0, 1) := by decide +kernel
theorem dX4_pour_6 : decode cX4_pour 6 = .ok (.iload_n 1, 1) := by decide +kernel
theorem dX4_pour_7 : decode cX4_pour 7 = .ok (.invokevirtual 118, 3) := by decide +kernel
theorem dX4_pour_10 : decode cX4_pour 10 = .ok (.ifCond .eq 11, 3) := by decide +kernel
theorem dX4_pour_13 : decode cX4_pour 13 = .ok (.aload_n 0, 1) := by decide +kernel
theorem dX4_pour_14 : decode cX4_pour 14 = .ok (.iload_n 2, 1) := by decide +kernel
theorem dX4_pour_15 : decode cX4_pour 15 = .ok (.invokevirtual 118, 3) := by decide +kernel
theorem dX4_pour_18 : decode cX4_pour 18 = .ok (.ifCond .ne 9, 3) := by decide +kernel
theorem dX4_pour_21 : decode cX4_pour 21 = .ok (.aload_n 0, 1) := by decide +kernel
theorem dX4_pour_22 : decode cX4_pour 22 = .ok (.iconst 1, 1) := by decide +kernel
theorem dX4_pour_23 : decode cX4_pour 23 = .ok (.invokevirtual 115, 3) := by decide +kernel
theorem dX4_pour_26 : decode cX4_pour 26 = .ok (.ireturn, 1) := by decide +kernel
theorem dX4_pour_27 : decode cX4_pour 27 = .ok (.iload_n 1, 1) := by decide +kernel
theorem dX4_pour_28 : decode cX4_pour 28 = .ok (.iload_n 2, 1) := by decide +kernel
theorem dX4_pour_29 : decode cX4_pour 29 = .ok (.if_icmp .ne 11, 3) := by decide +kernel
theorem dX4_pour_32 : decode cX4_pour 32 = .ok (.aload_n 0, 1) := by decide +kernel
theorem dX4_pour_33 : decode cX4_pour 33 = .ok (.iconst 2, 1) := by decide +kernel
theorem dX4_pour_34 : decode cX4_pour 34 = .ok (.invokevirtual 115, 3) := by decide +kernel
theorem dX4_pour_37 : decode cX4_pour 37 = .ok (.goto 15, 3) := by decide +kernel
theorem dX4_pour_40 : decode cX4_pour 40 = .ok (.aload_n 0, 1) := by decide +kernel
theorem dX4_pour_41 : decode cX4_pour 41 = .ok (.bipush 6, 2) := by decide +kernel
theorem dX4_pour_43 : decode cX4_pour 43 = .ok (.iconst 3, 1) := by decide +kernel
theorem dX4_pour_44 : decode cX4_pour 44 = .ok (.iload_n 1, 1) := by decide +kernel
theorem dX4_pour_45 : decode cX4_pour 45 = .ok (.imul, 1) := by decide +kernel
theorem dX4_pour_46 : decode cX4_pour 46 = .ok (.iadd, 1) := by decide +kernel
theorem dX4_pour_47 : decode cX4_pour 47 = .ok (.iload_n 2, 1) := by decide +kernel
theorem dX4_pour_48 : decode cX4_pour 48 = .ok (.iadd, 1) := by decide +kernel
theorem dX4_pour_49 : decode cX4_pour 49 = .ok (.invokevirtual 121, 3) := by decide +kernel
theorem dX4_pour_52 : decode cX4_pour 52 = .ok (.ireturn, 1) := by decide +kernel
theorem dX4_stateLookedAt_0 : decode cX4_stateLookedAt 0 = .ok (.aload_n 0, 1) := by decide +kernel
theorem dX4_stateLookedAt_1 : decode cX4_stateLookedAt 1 = .ok (.getfield 29, 3) := by decide +kernel
theorem dX4_stateLookedAt_4 : decode cX4_stateLookedAt 4 = .ok (.iconst 0, 1) := by decide +kernel
theorem dX4_stateLookedAt_5 : decode cX4_stateLookedAt 5 = .ok (.iaload, 1) := by decide +kernel
theorem dX4_stateLookedAt_6 : decode cX4_stateLookedAt 6 = .ok (.bipush 10, 2) := by decide +kernel
theorem dX4_stateLookedAt_8 : decode cX4_stateLookedAt 8 = .ok (.aload_n 0, 1) := by decide +kernel
theorem dX4_stateLookedAt_9 : decode cX4_stateLookedAt 9 = .ok (.getfield 29, 3) := by decide +kernel
theorem dX4_stateLookedAt_12 : decode cX4_stateLookedAt 12 = .ok (.iconst 1, 1) := by decide +kernel
theorem dX4_stateLookedAt_13 : decode cX4_stateLookedAt 13 = .ok (.iaload, 1) := by decide +kernel
theorem dX4_stateLookedAt_14 : decode cX4_stateLookedAt 14 = .ok (.imul, 1) := by decide +kernel
theorem dX4_stateLookedAt_15 : decode cX4_stateLookedAt 15 = .ok (.iadd, 1) := by decide +kernel
theorem dX4_stateLookedAt_16 : decode cX4_stateLookedAt 16 = .ok (.bipush 100, 2) := by decide +kernel
theorem dX4_stateLookedAt_18 : decode cX4_stateLookedAt 18 = .ok (.aload_n 0, 1) := by decide +kernel
theorem dX4_stateLookedAt_19 : decode cX4_stateLookedAt 19 = .ok (.getfield 29, 3) := by decide +kernel
theorem dX4_stateLookedAt_22 : decode cX4_stateLookedAt 22 = .ok (.iconst 2, 1) := by decide +kernel
theorem dX4_stateLookedAt_23 : decode cX4_stateLookedAt 23 = .ok (.iaload, 1) := by decide +kernel
theorem dX4_stateLookedAt_24 : decode cX4_stateLookedAt 24 = .ok (.imul, 1) := by decide +kernel
theorem dX4_stateLookedAt_25 : decode cX4_stateLookedAt 25 = .ok (.iadd, 1) := by decide +kernel
theorem dX4_stateLookedAt_26 : decode cX4_stateLookedAt 26 = .ok (.ireturn, 1) := by decide +kernel
theorem dX4_reach_0 : decode cX4_reach 0 = .ok (.aload_n 0, 1) := by decide +kernel
theorem dX4_reach_1 : decode cX4_reach 1 = .ok (.getfield 23, 3) := by decide +kernel
theorem dX4_reach_4 : decode cX4_reach 4 = .ok (.iload_n 1, 1) := by decide +kernel
theorem dX4_reach_5 : decode cX4_reach 5 = .ok (.iaload, 1) := by decide +kernel
theorem dX4_reach_6 : decode cX4_reach 6 = .ok (.iconst (-1), 1) := by decide +kernel
theorem dX4_reach_7 : decode cX4_reach 7 = .ok (.if_icmp .eq 4, 3) := by decide +kernel
theorem dX4_reach_10 : decode cX4_reach 10 = .ok (.return_, 1) := by decide +kernel
theorem dX4_reach_11 : decode cX4_reach 11 = .ok (.aload_n 0, 1) := by decide +kernel
theorem dX4_reach_12 : decode cX4_reach 12 = .ok (.getfield 23, 3) := by decide +kernel
theorem dX4_reach_15 : decode cX4_reach 15 = .ok (.iload_n 1, 1) := by decide +kernel
theorem dX4_reach_16 : decode cX4_reach 16 = .ok (.iload_n 2, 1) := by decide +kernel
theorem dX4_reach_17 : decode cX4_reach 17 = .ok (.iastore, 1) := by decide +kernel
theorem dX4_reach_18 : decode cX4_reach 18 = .ok (.aload_n 0, 1) := by decide +kernel
theorem dX4_reach_19 : decode cX4_reach 19 = .ok (.getfield 26, 3) := by decide +kernel
theorem dX4_reach_22 : decode cX4_reach 22 = .ok (.aload_n 0, 1) := by decide +kernel
theorem dX4_reach_23 : decode cX4_reach 23 = .ok (.getfield 124, 3) := by decide +kernel
theorem dX4_reach_26 : decode cX4_reach 26 = .ok (.iload_n 1, 1) := by decide +kernel
theorem dX4_reach_27 : decode cX4_reach 27 = .ok (.iastore, 1) := by decide +kernel
theorem dX4_reach_28 : decode cX4_reach 28 = .ok (.aload_n 0, 1) := by decide +kernel
theorem dX4_reach_29 : decode cX4_reach 29 = .ok (.dup, 1) := by decide +kernel
theorem dX4_reach_30 : decode cX4_reach 30 = .ok (.getfield 124, 3) := by decide +kernel
theorem dX4_reach_33 : decode cX4_reach 33 = .ok (.iconst 1, 1) := by decide +kernel
theorem dX4_reach_34 : decode cX4_reach 34 = .ok (.iadd, 1) := by decide +kernel
theorem dX4_reach_35 : decode cX4_reach 35 = .ok (.putfield 124, 3) := by decide +kernel
theorem dX4_reach_38 : decode cX4_reach 38 = .ok (.return_, 1) := by decide +kernel
set_option maxRecDepth 20000 in
theorem ggX4_spread_X4_reach : GoodIn wsX4_spread wsX4_reach := goodIn_r _ [8, 1, 3, 2, 36, 37, 38, 39, 40, 41, 42, 43, 44, 45, 46, 47, 48, 49, 50, 51, 52, 53] (by decide +kernel) (by decide +kernel)
set_option maxRecDepth 20000 in
theorem gX4_spread_X4_reach : GoodIn wsX4_spread (wsV RX4 127 RX4 yX4_reach wsX4_reach) := goodIn_app (goodIn_of _ (by decide +kernel)) ggX4_spread_X4_reach
set_option maxRecDepth 20000 in
theorem ggX4_spread_X4_isAct : GoodIn wsX4_spread wsX4_isAct := goodIn_r _ [12, 13, 36, 37, 38, 39, 40, 41, 42, 43, 44, 45, 46, 47, 48, 49, 50, 51, 52, 53] (by decide +kernel) (by decide +kernel)
set_option maxRecDepth 20000 in
theorem gX4_spread_X4_isAct : GoodIn wsX4_spread (wsV RX4 130 RX4 yX4_isAct wsX4_isAct) := goodIn_app (goodIn_of _ (by decide +kernel)) ggX4_spread_X4_isAct
set_option maxRecDepth 20000 in
theorem ggX4_spread_X4_lookAtState : GoodIn wsX4_spread wsX4_lookAtState := goodIn_r _ [17, 18, 19, 20, 21, 22, 7, 23, 36, 37, 38, 39, 40, 41, 42, 43, 44, 45, 46, 47, 48, 49, 50, 51, 52, 53] (by decide +kernel) (by decide +kernel)
set_option maxRecDepth 20000 in
theorem gX4_spread_X4_lookAtState : GoodIn wsX4_spread (wsV RX4 88 RX4 yX4_lookAtState wsX4_lookAtState) := goodIn_app (goodIn_of _ (by decide +kernel)) ggX4_spread_X4_lookAtState
set_option maxRecDepth 20000 in
theorem ggX4_spread_X4_move : GoodIn wsX4_spread wsX4_move := goodIn_r _ [27, 18, 20, 28, 29, 30, 31, 36, 37, 38, 39, 40, 41, 42, 43, 44, 45, 46, 47, 48, 49, 50, 51, 52, 53] (by decide +kernel) (by decide +kernel)
set_option maxRecDepth 20000 in
theorem gX4_spread_X4_move : GoodIn wsX4_spread (wsV RX4 92 RX4 yX4_move wsX4_move) := goodIn_app (goodIn_of _ (by decide +kernel)) ggX4_spread_X4_move
set_option maxRecDepth 20000 in
theorem ggX4_spread_X4_stateLookedAt : GoodIn wsX4_spread wsX4_stateLookedAt := goodIn_r _ [35, 20, 36, 37, 38, 39, 40, 41, 42, 43, 44, 45, 46, 47, 48, 49, 50, 51, 52, 53] (by decide +kernel) (by decide +kernel)
set_option maxRecDepth 20000 in
theorem gX4_spread_X4_stateLookedAt : GoodIn wsX4_spread (wsV RX4 133 RX4 yX4_stateLookedAt wsX4_stateLookedAt) := goodIn_app (goodIn_of _ (by decide +kernel)) ggX4_spread_X4_stateLookedAt
theorem dX4_spread_0 : decode cX4_spread 0 = .ok (.iconst 0, 1) := by decide +kernel
theorem dX4_spread_1 : decode cX4_spread 1 = .ok (.istore_n 2, 1) := by decide +kernel
theorem dX4_spread_2 : decode cX4_spread 2 = .ok (.iload_n 2, 1) := by decide +kernel
theorem dX4_spread_3 : decode cX4_spread 3 = .ok (.sipush 1000, 3) := by decide +kernel
theorem dX4_spread_6 : decode cX4_spread 6 = .ok (.if_icmp .ge 16, 3) := by decide +kernel
theorem dX4_spread_9 : decode cX4_spread 9 = .ok (.aload_n 0, 1) := by decide +kernel
theorem dX4_spread_10 : decode cX4_spread 10 = .ok (.getfield 23, 3) := by decide +kernel
theorem dX4_spread_13 : decode cX4_spread 13 = .ok (.iload_n 2, 1) := by decide +kernel
theorem dX4_spread_14 : decode cX4_spread 14 = .ok (.iconst (-1), 1) := by decide +kernel
theorem dX4_spread_15 : decode cX4_spread 15 = .ok (.iastore, 1) := by decide +kernel
theorem dX4_spread_16 : decode cX4_spread 16 = .ok (.iinc 2 1, 3) := by decide +kernel
theorem dX4_spread_19 : decode cX4_spread 19 = .ok (.goto (-17), 3) := by decide +kernel
theorem dX4_spread_22 : decode cX4_spread 22 = .ok (.aload_n 0, 1) := by decide +kernel
theorem dX4_spread_23 : decode cX4_spread 23 = .ok (.iconst 0, 1) := by decide +kernel
theorem dX4_spread_24 : decode cX4_spread 24 = .ok (.putfield 124, 3) := by decide +kernel
theorem dX4_spread_27 : decode cX4_spread 27 = .ok (.aload_n 0, 1) := by decide +kernel
theorem dX4_spread_28 : decode cX4_spread 28 = .ok (.iload_n 1, 1) := by decide +kernel
theorem dX4_spread_29 : decode cX4_spread 29 = .ok (.iconst 0, 1) := by decide +kernel
theorem dX4_spread_30 : decode cX4_spread 30 = .ok (.invokevirtual 127, 3) := by decide +kernel
theorem dX4_spread_33 : decode cX4_spread 33 = .ok (.iconst 0, 1) := by decide +kernel
theorem dX4_spread_34 : decode cX4_spread 34 = .ok (.istore_n 2, 1) := by decide +kernel
theorem dX4_spread_35 : decode cX4_spread 35 = .ok (.iload_n 2, 1) := by decide +kernel
theorem dX4_spread_36 : decode cX4_spread 36 = .ok (.aload_n 0, 1) := by decide +kernel
theorem dX4_spread_37 : decode cX4_spread 37 = .ok (.getfield 124, 3) := by decide +kernel
theorem dX4_spread_40 : decode cX4_spread 40 = .ok (.if_icmp .ge 71, 3) := by decide +kernel
theorem dX4_spread_43 : decode cX4_spread 43 = .ok (.iconst 0, 1) := by decide +kernel
theorem dX4_spread_44 : decode cX4_spread 44 = .ok (.istore_n 3, 1) := by decide +kernel
theorem dX4_spread_45 : decode cX4_spread 45 = .ok (.iload_n 3, 1) := by decide +kernel
theorem dX4_spread_46 : decode cX4_spread 46 = .ok (.bipush 15, 2) := by decide +kernel
theorem dX4_spread_48 : decode cX4_spread 48 = .ok (.if_icmp .ge 57, 3) := by decide +kernel
theorem dX4_spread_51 : decode cX4_spread 51 = .ok (.aload_n 0, 1) := by decide +kernel
theorem dX4_spread_52 : decode cX4_spread 52 = .ok (.iload_n 3, 1) := by decide +kernel
theorem dX4_spread_53 : decode cX4_spread 53 = .ok (.invokevirtual 130, 3) := by decide +kernel
theorem dX4_spread_56 : decode cX4_spread 56 = .ok (.ifCond .ne 6, 3) := by decide +kernel
theorem dX4_spread_59 : decode cX4_spread 59 = .ok (.goto 40, 3) := by decide +kernel
theorem dX4_spread_62 : decode cX4_spread 62 = .ok (.aload_n 0, 1) := by decide +kernel
theorem dX4_spread_63 : decode cX4_spread 63 = .ok (.aload_n 0, 1) := by decide +kernel
theorem dX4_spread_64 : decode cX4_spread 64 = .ok (.getfield 26, 3) := by decide +kernel
theorem dX4_spread_67 : decode cX4_spread 67 = .ok (.iload_n 2, 1) := by decide +kernel
theorem dX4_spread_68 : decode cX4_spread 68 = .ok (.iaload, 1) := by decide +kernel
theorem dX4_spread_69 : decode cX4_spread 69 = .ok (.invokevirtual 88, 3) := by decide +kernel
theorem dX4_spread_72 : decode cX4_spread 72 = .ok (.aload_n 0, 1) := by decide +kernel
theorem dX4_spread_73 : decode cX4_spread 73 = .ok (.iload_n 3, 1) := by decide +kernel
theorem dX4_spread_74 : decode cX4_spread 74 = .ok (.invokevirtual 92, 3) := by decide +kernel
theorem dX4_spread_77 : decode cX4_spread 77 = .ok (.pop, 1) := by decide +kernel
theorem dX4_spread_78 : decode cX4_spread 78 = .ok (.aload_n 0, 1) := by decide +kernel
theorem dX4_spread_79 : decode cX4_spread 79 = .ok (.aload_n 0, 1) := by decide +kernel
theorem dX4_spread_80 : decode cX4_spread 80 = .ok (.invokevirtual 133, 3) := by decide +kernel
theorem dX4_spread_83 : decode cX4_spread 83 = .ok (.aload_n 0, 1) := by decide +kernel
theorem dX4_spread_84 : decode cX4_spread 84 = .ok (.getfield 23, 3) := by decide +kernel
theorem dX4_spread_87 : decode cX4_spread 87 = .ok (.aload_n 0, 1) := by decide +kernel
theorem dX4_spread_88 : decode cX4_spread 88 = .ok (.getfield 26, 3) := by decide +kernel
theorem dX4_spread_91 : decode cX4_spread 91 = .ok (.iload_n 2, 1) := by decide +kernel
theorem dX4_spread_92 : decode cX4_spread 92 = .ok (.iaload, 1) := by decide +kernel
theorem dX4_spread_93 : decode cX4_spread 93 = .ok (.iaload, 1) := by decide +kernel
theorem dX4_spread_94 : decode cX4_spread 94 = .ok (.iconst 1, 1) := by decide +kernel
theorem dX4_spread_95 : decode cX4_spread 95 = .ok (.iadd, 1) := by decide +kernel
theorem dX4_spread_96 : decode cX4_spread 96 = .ok (.invokevirtual 127, 3) := by decide +kernel
theorem dX4_spread_99 : decode cX4_spread 99 = .ok (.iinc 3 1, 3) := by decide +kernel
theorem dX4_spread_102 : decode cX4_spread 102 = .ok (.goto (-57), 3) := by decide +kernel
theorem dX4_spread_105 : decode cX4_spread 105 = .ok (.iinc 2 1, 3) := by decide +kernel
theorem dX4_spread_108 : decode cX4_spread 108 = .ok (.goto (-73), 3) := by decide +kernel
theorem dX4_spread_111 : decode cX4_spread 111 = .ok (.return_, 1) := by decide +kernel
set_option maxRecDepth 20000 in
theorem ggX4_holds_X4_figure : GoodIn wsX4_holds wsX4_figure := goodIn_r _ [4] (by decide +kernel) (by decide +kernel)
set_option maxRecDepth 20000 in
theorem gX4_holds_X4_figure : GoodIn wsX4_holds (va_wsS RX4 53 yX4_figure wsX4_figure) := goodIn_app (goodIn_of _ (by decide +kernel)) ggX4_holds_X4_figure
theorem dX4_holds_0 : decode cX4_holds 0 = .ok (.iload_n 1, 1) := by decide +kernel
theorem dX4_holds_1 : decode cX4_holds 1 = .ok (.iload_n 2, 1) := by decide +kernel
theorem dX4_holds_2 : decode cX4_holds 2 = .ok (.invokestatic 53, 3) := by decide +kernel
theorem dX4_holds_5 : decode cX4_holds 5 = .ok (.iload_n 3, 1) := by decide +kernel
theorem dX4_holds_6 : decode cX4_holds 6 = .ok (.if_icmp .ne 7, 3) := by decide +kernel
theorem dX4_holds_9 : decode cX4_holds 9 = .ok (.iconst 1, 1) := by decide +kernel
theorem dX4_holds_10 : decode cX4_holds 10 = .ok (.goto 4, 3) := by decide +kernel
theorem dX4_holds_13 : decode cX4_holds 13 = .ok (.iconst 0, 1) := by decide +kernel
theorem dX4_holds_14 : decode cX4_holds 14 = .ok (.ireturn, 1) := by decide +kernel
set_option maxRecDepth 20000 in
theorem ggX4_isSomewhere_X4_holds : GoodIn wsX4_isSomewhere wsX4_holds := goodIn_r _ [6, 7, 8, 5, 9] (by decide +kernel) (by decide +kernel)
set_option maxRecDepth 20000 in
theorem gX4_isSomewhere_X4_holds : GoodIn wsX4_isSomewhere (wsV RX4 136 RX4 yX4_holds wsX4_holds) := goodIn_app (goodIn_of _ (by decide +kernel)) ggX4_isSomewhere_X4_holds
theorem dX4_isSomewhere_0 : decode cX4_isSomewhere 0 = .ok (.iconst 0, 1) := by decide +kernel
theorem dX4_isSomewhere_1 : decode cX4_isSomewhere 1 = .ok (.istore_n 3, 1) := by decide +kernel
theorem dX4_isSomewhere_2 : decode cX4_isSomewhere 2 = .ok (.iconst 0, 1) := by decide +kernel
theorem dX4_isSomewhere_3 : decode cX4_isSomewhere 3 = .ok (.istore 4, 2) := by decide +kernel
theorem dX4_isSomewhere_5 : decode cX4_isSomewhere 5 = .ok (.iload 4, 2) := by decide +kernel
theorem dX4_isSomewhere_7 : decode cX4_isSomewhere 7 = .ok (.aload_n 0, 1) := by decide +kernel
theorem dX4_isSomewhere_8 : decode cX4_isSomewhere 8 = .ok (.getfield 46, 3) := by decide +kernel
theorem dX4_isSomewhere_11 : decode cX4_isSomewhere 11 = .ok (.if_icmp .ge 20, 3) := by decide +kernel
theorem dX4_isSomewhere_14 : decode cX4_isSomewhere 14 = .ok (.iload_n 3, 1) := by decide +kernel
theorem dX4_isSomewhere_15 : decode cX4_isSomewhere 15 = .ok (.aload_n 0, 1) := by decide +kernel
theorem dX4_isSomewhere_16 : decode cX4_isSomewhere 16 = .ok (.iload_n 1, 1) := by decide +kernel
theorem dX4_isSomewhere_17 : decode cX4_isSomewhere 17 = .ok (.iload 4, 2) := by decide +kernel
theorem dX4_isSomewhere_19 : decode cX4_isSomewhere 19 = .ok (.iload_n 2, 1) := by decide +kernel
theorem dX4_isSomewhere_20 : decode cX4_isSomewhere 20 = .ok (.invokevirtual 136, 3) := by decide +kernel
theorem dX4_isSomewhere_23 : decode cX4_isSomewhere 23 = .ok (.ior, 1) := by decide +kernel
theorem dX4_isSomewhere_24 : decode cX4_isSomewhere 24 = .ok (.istore_n 3, 1) := by decide +kernel
theorem dX4_isSomewhere_25 : decode cX4_isSomewhere 25 = .ok (.iinc 4 1, 3) := by decide +kernel
theorem dX4_isSomewhere_28 : decode cX4_isSomewhere 28 = .ok (.goto (-23), 3) := by decide +kernel
theorem dX4_isSomewhere_31 : decode cX4_isSomewhere 31 = .ok (.iload_n 3, 1) := by decide +kernel
theorem dX4_isSomewhere_32 : decode cX4_isSomewhere 32 = .ok (.ireturn, 1) := by decide +kernel
set_option maxRecDepth 20000 in
theorem ggX4_leastFrom_X4_spread : GoodIn wsX4_leastFrom wsX4_spread := goodIn_r _ [8, 3, 1, 2, 9, 10, 11, 7, 12, 13, 14, 15, 16, 17, 18, 19, 20, 21, 22, 23, 24, 25, 26, 27, 28, 29, 30, 31, 32, 33, 34, 35, 36, 37, 38, 39, 48, 49, 50, 51, 52, 53, 54, 55, 56, 57, 58, 59, 60, 61, 62, 63, 64, 65] (by decide +kernel) (by decide +kernel)
set_option maxRecDepth 20000 in
theorem gX4_leastFrom_X4_spread : GoodIn wsX4_leastFrom (wsV RX4 139 RX4 yX4_spread wsX4_spread) := goodIn_app (goodIn_of _ (by decide +kernel)) ggX4_leastFrom_X4_spread
set_option maxRecDepth 20000 in
theorem ggX4_leastFrom_X4_isSomewhere : GoodIn wsX4_leastFrom wsX4_isSomewhere := goodIn_r _ [43, 17, 44, 45, 46, 7, 47, 25, 26, 27, 48, 49, 50, 51, 52, 53, 54, 55, 56, 57, 58, 59, 60, 61, 62, 63, 64, 65] (by decide +kernel) (by decide +kernel)
set_option maxRecDepth 20000 in
theorem gX4_leastFrom_X4_isSomewhere : GoodIn wsX4_leastFrom (wsV RX4 142 RX4 yX4_isSomewhere wsX4_isSomewhere) := goodIn_app (goodIn_of _ (by decide +kernel)) ggX4_leastFrom_X4_isSomewhere
theorem dX4_leastFrom_0 : decode cX4_leastFrom 0 = .ok (.aload_n 0, 1) := by decide +kernel
theorem dX4_leastFrom_1 : decode cX4_leastFrom 1 = .ok (.iload_n 1, 1) := by decide +kernel
theorem dX4_leastFrom_2 : decode cX4_leastFrom 2 = .ok (.invokevirtual 139, 3) := by decide +kernel
theorem dX4_leastFrom_5 : decode cX4_leastFrom 5 = .ok (.iconst 0, 1) := by decide +kernel
theorem dX4_leastFrom_6 : decode cX4_leastFrom 6 = .ok (.istore_n 3, 1) := by decide +kernel
theorem dX4_leastFrom_7 : decode cX4_leastFrom 7 = .ok (.iload_n 3, 1) := by decide +kernel
theorem dX4_leastFrom_8 : decode cX4_leastFrom 8 = .ok (.aload_n 0, 1) := by decide +kernel
theorem dX4_leastFrom_9 : decode cX4_leastFrom 9 = .ok (.getfield 124, 3) := by decide +kernel
theorem dX4_leastFrom_12 : decode cX4_leastFrom 12 = .ok (.if_icmp .ge 35, 3) := by decide +kernel
theorem dX4_leastFrom_15 : decode cX4_leastFrom 15 = .ok (.aload_n 0, 1) := by decide +kernel
theorem dX4_leastFrom_16 : decode cX4_leastFrom 16 = .ok (.aload_n 0, 1) := by decide +kernel
theorem dX4_leastFrom_17 : decode cX4_leastFrom 17 = .ok (.getfield 26, 3) := by decide +kernel
theorem dX4_leastFrom_20 : decode cX4_leastFrom 20 = .ok (.iload_n 3, 1) := by decide +kernel
theorem dX4_leastFrom_21 : decode cX4_leastFrom 21 = .ok (.iaload, 1) := by decide +kernel
theorem dX4_leastFrom_22 : decode cX4_leastFrom 22 = .ok (.iload_n 2, 1) := by decide +kernel
theorem dX4_leastFrom_23 : decode cX4_leastFrom 23 = .ok (.invokevirtual 142, 3) := by decide +kernel
theorem dX4_leastFrom_26 : decode cX4_leastFrom 26 = .ok (.ifCond .eq 15, 3) := by decide +kernel
theorem dX4_leastFrom_29 : decode cX4_leastFrom 29 = .ok (.aload_n 0, 1) := by decide +kernel
theorem dX4_leastFrom_30 : decode cX4_leastFrom 30 = .ok (.getfield 23, 3) := by decide +kernel
theorem dX4_leastFrom_33 : decode cX4_leastFrom 33 = .ok (.aload_n 0, 1) := by decide +kernel
theorem dX4_leastFrom_34 : decode cX4_leastFrom 34 = .ok (.getfield 26, 3) := by decide +kernel
theorem dX4_leastFrom_37 : decode cX4_leastFrom 37 = .ok (.iload_n 3, 1) := by decide +kernel
theorem dX4_leastFrom_38 : decode cX4_leastFrom 38 = .ok (.iaload, 1) := by decide +kernel
theorem dX4_leastFrom_39 : decode cX4_leastFrom 39 = .ok (.iaload, 1) := by decide +kernel
theorem dX4_leastFrom_40 : decode cX4_leastFrom 40 = .ok (.ireturn, 1) := by decide +kernel
theorem dX4_leastFrom_41 : decode cX4_leastFrom 41 = .ok (.iinc 3 1, 3) := by decide +kernel
theorem dX4_leastFrom_44 : decode cX4_leastFrom 44 = .ok (.goto (-37), 3) := by decide +kernel
theorem dX4_leastFrom_47 : decode cX4_leastFrom 47 = .ok (.iconst (-1), 1) := by decide +kernel
theorem dX4_leastFrom_48 : decode cX4_leastFrom 48 = .ok (.ireturn, 1) := by decide +kernel
set_option maxRecDepth 20000 in
theorem ggX4_firstAct_X4_isAct : GoodIn wsX4_firstAct wsX4_isAct := goodIn_r _ [5, 6, 57, 58, 59, 60, 61, 62, 63, 64, 65, 66, 67, 68, 69, 70, 71, 72, 73, 74] (by decide +kernel) (by decide +kernel)
set_option maxRecDepth 20000 in
theorem gX4_firstAct_X4_isAct : GoodIn wsX4_firstAct (wsV RX4 130 RX4 yX4_isAct wsX4_isAct) := goodIn_app (goodIn_of _ (by decide +kernel)) ggX4_firstAct_X4_isAct
set_option maxRecDepth 20000 in
theorem ggX4_firstAct_X4_state : GoodIn wsX4_firstAct wsX4_state := goodIn_r _ [10, 11, 57, 58, 59, 60, 61, 62, 63, 64, 65, 66, 67, 68, 69, 70, 71, 72, 73, 74] (by decide +kernel) (by decide +kernel)
set_option maxRecDepth 20000 in
theorem gX4_firstAct_X4_state : GoodIn wsX4_firstAct (wsV RX4 84 RX4 yX4_state wsX4_state) := goodIn_app (goodIn_of _ (by decide +kernel)) ggX4_firstAct_X4_state
set_option maxRecDepth 20000 in
theorem ggX4_firstAct_X4_lookAtState : GoodIn wsX4_firstAct wsX4_lookAtState := goodIn_r _ [15, 16, 17, 18, 19, 20, 4, 21, 57, 58, 59, 60, 61, 62, 63, 64, 65, 66, 67, 68, 69, 70, 71, 72, 73, 74] (by decide +kernel) (by decide +kernel)
set_option maxRecDepth 20000 in
theorem gX4_firstAct_X4_lookAtState : GoodIn wsX4_firstAct (wsV RX4 88 RX4 yX4_lookAtState wsX4_lookAtState) := goodIn_app (goodIn_of _ (by decide +kernel)) ggX4_firstAct_X4_lookAtState
set_option maxRecDepth 20000 in
theorem ggX4_firstAct_X4_move : GoodIn wsX4_firstAct wsX4_move := goodIn_r _ [25, 16, 18, 26, 27, 28, 29, 57, 58, 59, 60, 61, 62, 63, 64, 65, 66, 67, 68, 69, 70, 71, 72, 73, 74] (by decide +kernel) (by decide +kernel)
set_option maxRecDepth 20000 in
theorem gX4_firstAct_X4_move : GoodIn wsX4_firstAct (wsV RX4 92 RX4 yX4_move wsX4_move) := goodIn_app (goodIn_of _ (by decide +kernel)) ggX4_firstAct_X4_move
set_option maxRecDepth 20000 in
theorem ggX4_firstAct_X4_stateLookedAt : GoodIn wsX4_firstAct wsX4_stateLookedAt := goodIn_r _ [33, 18, 57, 58, 59, 60, 61, 62, 63, 64, 65, 66, 67, 68, 69, 70, 71, 72, 73, 74] (by decide +kernel) (by decide +kernel)
set_option maxRecDepth 20000 in
theorem gX4_firstAct_X4_stateLookedAt : GoodIn wsX4_firstAct (wsV RX4 133 RX4 yX4_stateLookedAt wsX4_stateLookedAt) := goodIn_app (goodIn_of _ (by decide +kernel)) ggX4_firstAct_X4_stateLookedAt
set_option maxRecDepth 20000 in
theorem ggX4_firstAct_X4_leastFrom : GoodIn wsX4_firstAct wsX4_leastFrom := goodIn_r _ [37, 38, 39, 40, 41, 42, 43, 4, 44, 45, 46, 47, 48, 1, 2, 3, 5, 6, 12, 13, 14, 15, 16, 17, 18, 19, 20, 21, 22, 23, 24, 25, 26, 27, 28, 29, 30, 31, 32, 33, 49, 50, 51, 52, 53, 54, 55, 56, 57, 58, 59, 60, 61, 62, 63, 64, 65, 66, 67, 68, 69, 70, 71, 72, 73, 74] (by decide +kernel) (by decide +kernel)
set_option maxRecDepth 20000 in
theorem gX4_firstAct_X4_leastFrom : GoodIn wsX4_firstAct (wsV RX4 146 RX4 yX4_leastFrom wsX4_leastFrom) := goodIn_app (goodIn_of _ (by decide +kernel)) ggX4_firstAct_X4_leastFrom
theorem dX4_firstAct_0 : decode cX4_firstAct 0 = .ok (.iconst 0, 1) := by decide +kernel
theorem dX4_firstAct_1 : decode cX4_firstAct 1 = .ok (.istore_n 3, 1) := by decide +kernel
theorem dX4_firstAct_2 : decode cX4_firstAct 2 = .ok (.iload_n 3, 1) := by decide +kernel
theorem dX4_firstAct_3 : decode cX4_firstAct 3 = .ok (.bipush 15, 2) := by decide +kernel
theorem dX4_firstAct_5 : decode cX4_firstAct 5 = .ok (.if_icmp .ge 51, 3) := by decide +kernel
theorem dX4_firstAct_8 : decode cX4_firstAct 8 = .ok (.aload_n 0, 1) := by decide +kernel
theorem dX4_firstAct_9 : decode cX4_firstAct 9 = .ok (.iload_n 3, 1) := by decide +kernel
theorem dX4_firstAct_10 : decode cX4_firstAct 10 = .ok (.invokevirtual 130, 3) := by decide +kernel
theorem dX4_firstAct_13 : decode cX4_firstAct 13 = .ok (.ifCond .ne 6, 3) := by decide +kernel
theorem dX4_firstAct_16 : decode cX4_firstAct 16 = .ok (.goto 34, 3) := by decide +kernel
theorem dX4_firstAct_19 : decode cX4_firstAct 19 = .ok (.aload_n 0, 1) := by decide +kernel
theorem dX4_firstAct_20 : decode cX4_firstAct 20 = .ok (.aload_n 0, 1) := by decide +kernel
theorem dX4_firstAct_21 : decode cX4_firstAct 21 = .ok (.invokevirtual 84, 3) := by decide +kernel
theorem dX4_firstAct_24 : decode cX4_firstAct 24 = .ok (.invokevirtual 88, 3) := by decide +kernel
theorem dX4_firstAct_27 : decode cX4_firstAct 27 = .ok (.aload_n 0, 1) := by decide +kernel
theorem dX4_firstAct_28 : decode cX4_firstAct 28 = .ok (.iload_n 3, 1) := by decide +kernel
theorem dX4_firstAct_29 : decode cX4_firstAct 29 = .ok (.invokevirtual 92, 3) := by decide +kernel
theorem dX4_firstAct_32 : decode cX4_firstAct 32 = .ok (.pop, 1) := by decide +kernel
theorem dX4_firstAct_33 : decode cX4_firstAct 33 = .ok (.aload_n 0, 1) := by decide +kernel
theorem dX4_firstAct_34 : decode cX4_firstAct 34 = .ok (.aload_n 0, 1) := by decide +kernel
theorem dX4_firstAct_35 : decode cX4_firstAct 35 = .ok (.invokevirtual 133, 3) := by decide +kernel
theorem dX4_firstAct_38 : decode cX4_firstAct 38 = .ok (.iload_n 1, 1) := by decide +kernel
theorem dX4_firstAct_39 : decode cX4_firstAct 39 = .ok (.invokevirtual 146, 3) := by decide +kernel
theorem dX4_firstAct_42 : decode cX4_firstAct 42 = .ok (.iload_n 2, 1) := by decide +kernel
theorem dX4_firstAct_43 : decode cX4_firstAct 43 = .ok (.iconst 1, 1) := by decide +kernel
theorem dX4_firstAct_44 : decode cX4_firstAct 44 = .ok (.isub, 1) := by decide +kernel
theorem dX4_firstAct_45 : decode cX4_firstAct 45 = .ok (.if_icmp .ne 5, 3) := by decide +kernel
theorem dX4_firstAct_48 : decode cX4_firstAct 48 = .ok (.iload_n 3, 1) := by decide +kernel
theorem dX4_firstAct_49 : decode cX4_firstAct 49 = .ok (.ireturn, 1) := by decide +kernel
theorem dX4_firstAct_50 : decode cX4_firstAct 50 = .ok (.iinc 3 1, 3) := by decide +kernel
theorem dX4_firstAct_53 : decode cX4_firstAct 53 = .ok (.goto (-51), 3) := by decide +kernel
theorem dX4_firstAct_56 : decode cX4_firstAct 56 = .ok (.iconst (-1), 1) := by decide +kernel
theorem dX4_firstAct_57 : decode cX4_firstAct 57 = .ok (.ireturn, 1) := by decide +kernel
set_option maxRecDepth 20000 in
theorem ggX4_followed_X4_state : GoodIn wsX4_followed wsX4_state := goodIn_r _ [5, 6, 87, 88, 89, 90, 91, 92, 93, 94, 95, 96, 97, 98, 99, 100, 101, 102, 103, 104] (by decide +kernel) (by decide +kernel)
set_option maxRecDepth 20000 in
theorem gX4_followed_X4_state : GoodIn wsX4_followed (wsV RX4 84 RX4 yX4_state wsX4_state) := goodIn_app (goodIn_of _ (by decide +kernel)) ggX4_followed_X4_state
set_option maxRecDepth 20000 in
theorem ggX4_followed_X4_isSomewhere : GoodIn wsX4_followed wsX4_isSomewhere := goodIn_r _ [10, 11, 12, 13, 14, 4, 15, 16, 17, 18, 87, 88, 89, 90, 91, 92, 93, 94, 95, 96, 97, 98, 99, 100, 101, 102, 103, 104] (by decide +kernel) (by decide +kernel)
set_option maxRecDepth 20000 in
theorem gX4_followed_X4_isSomewhere : GoodIn wsX4_followed (wsV RX4 142 RX4 yX4_isSomewhere wsX4_isSomewhere) := goodIn_app (goodIn_of _ (by decide +kernel)) ggX4_followed_X4_isSomewhere
set_option maxRecDepth 20000 in
theorem ggX4_followed_X4_leastFrom : GoodIn wsX4_followed wsX4_leastFrom := goodIn_r _ [22, 23, 24, 25, 26, 27, 28, 4, 29, 30, 31, 32, 33, 34, 35, 36, 37, 11, 38, 39, 40, 41, 42, 43, 44, 16, 17, 18, 45, 46, 47, 48, 49, 50, 51, 52, 53, 54, 55, 56, 7, 8, 9, 10, 12, 13, 14, 15, 87, 88, 89, 90, 91, 92, 93, 94, 95, 96, 97, 98, 99, 100, 101, 102, 103, 104] (by decide +kernel) (by decide +kernel)
set_option maxRecDepth 20000 in
theorem gX4_followed_X4_leastFrom : GoodIn wsX4_followed (wsV RX4 146 RX4 yX4_leastFrom wsX4_leastFrom) := goodIn_app (goodIn_of _ (by decide +kernel)) ggX4_followed_X4_leastFrom
set_option maxRecDepth 20000 in
theorem ggX4_followed_X4_firstAct : GoodIn wsX4_followed wsX4_firstAct := goodIn_r _ [60, 34, 35, 36, 4, 37, 11, 1, 2, 3, 5, 6, 38, 39, 40, 41, 42, 43, 44, 16, 17, 18, 45, 46, 47, 48, 49, 50, 51, 52, 53, 54, 55, 56, 19, 20, 21, 22, 23, 24, 25, 26, 27, 28, 29, 30, 31, 32, 33, 7, 8, 9, 10, 12, 13, 14, 15, 87, 88, 89, 90, 91, 92, 93, 94, 95, 96, 97, 98, 99, 100, 101, 102, 103, 104] (by decide +kernel) (by decide +kernel)
set_option maxRecDepth 20000 in
theorem gX4_followed_X4_firstAct : GoodIn wsX4_followed (wsV RX4 149 RX4 yX4_firstAct wsX4_firstAct) := goodIn_app (goodIn_of _ (by decide +kernel)) ggX4_followed_X4_firstAct
set_option maxRecDepth 20000 in
theorem ggX4_followed_X4_done : GoodIn wsX4_followed wsX4_done := goodIn_r _ [64, 65, 66, 67, 4, 68, 11, 6, 44, 69, 70, 71, 1, 2, 3, 5, 38, 39, 40, 41, 42, 43, 16, 17, 18, 45, 46, 47, 48, 49, 50, 51, 52, 72, 73, 74, 75, 76, 77, 78, 79, 80, 81, 82, 83, 84, 85, 86, 87, 88, 89, 90, 91, 92, 93, 94, 95, 96, 97, 98, 99, 100, 101, 102, 103, 104] (by decide +kernel) (by decide +kernel)
set_option maxRecDepth 20000 in
theorem gX4_followed_X4_done : GoodIn wsX4_followed (wsV RX4 121 RX4 yX4_done wsX4_done) := goodIn_app (goodIn_of _ (by decide +kernel)) ggX4_followed_X4_done
theorem dX4_followed_0 : decode cX4_followed 0 = .ok (.iconst 0, 1) := by decide +kernel
theorem dX4_followed_1 : decode cX4_followed 1 = .ok (.istore_n 3, 1) := by decide +kernel
theorem dX4_followed_2 : decode cX4_followed 2 = .ok (.iload_n 3, 1) := by decide +kernel
theorem dX4_followed_3 : decode cX4_followed 3 = .ok (.iload_n 2, 1) := by decide +kernel
theorem dX4_followed_4 : decode cX4_followed 4 = .ok (.if_icmp .ge 40, 3) := by decide +kernel
theorem dX4_followed_7 : decode cX4_followed 7 = .ok (.aload_n 0, 1) := by decide +kernel
theorem dX4_followed_8 : decode cX4_followed 8 = .ok (.aload_n 0, 1) := by decide +kernel
theorem dX4_followed_9 : decode cX4_followed 9 = .ok (.invokevirtual 84, 3) := by decide +kernel
theorem dX4_followed_12 : decode cX4_followed 12 = .ok (.iload_n 1, 1) := by decide +kernel
theorem dX4_followed_13 : decode cX4_followed 13 = .ok (.invokevirtual 142, 3) := by decide +kernel
theorem dX4_followed_16 : decode cX4_followed 16 = .ok (.ifCond .ne 28, 3) := by decide +kernel
theorem dX4_followed_19 : decode cX4_followed 19 = .ok (.aload_n 0, 1) := by decide +kernel
theorem dX4_followed_20 : decode cX4_followed 20 = .ok (.aload_n 0, 1) := by decide +kernel
theorem dX4_followed_21 : decode cX4_followed 21 = .ok (.iload_n 1, 1) := by decide +kernel
theorem dX4_followed_22 : decode cX4_followed 22 = .ok (.aload_n 0, 1) := by decide +kernel
theorem dX4_followed_23 : decode cX4_followed 23 = .ok (.aload_n 0, 1) := by decide +kernel
theorem dX4_followed_24 : decode cX4_followed 24 = .ok (.invokevirtual 84, 3) := by decide +kernel
theorem dX4_followed_27 : decode cX4_followed 27 = .ok (.iload_n 1, 1) := by decide +kernel
theorem dX4_followed_28 : decode cX4_followed 28 = .ok (.invokevirtual 146, 3) := by decide +kernel
theorem dX4_followed_31 : decode cX4_followed 31 = .ok (.invokevirtual 149, 3) := by decide +kernel
theorem dX4_followed_34 : decode cX4_followed 34 = .ok (.invokevirtual 121, 3) := by decide +kernel
theorem dX4_followed_37 : decode cX4_followed 37 = .ok (.pop, 1) := by decide +kernel
theorem dX4_followed_38 : decode cX4_followed 38 = .ok (.iinc 3 1, 3) := by decide +kernel
theorem dX4_followed_41 : decode cX4_followed 41 = .ok (.goto (-39), 3) := by decide +kernel
theorem dX4_followed_44 : decode cX4_followed 44 = .ok (.iload_n 3, 1) := by decide +kernel
theorem dX4_followed_45 : decode cX4_followed 45 = .ok (.ireturn, 1) := by decide +kernel
set_option maxRecDepth 20000 in
theorem ggX4_follow_X4_isAmount : GoodIn wsX4_follow wsX4_isAmount := goodIn_r _ [5, 6, 7, 4, 8] (by decide +kernel) (by decide +kernel)
set_option maxRecDepth 20000 in
theorem gX4_follow_X4_isAmount : GoodIn wsX4_follow (va_wsS RX4 112 yX4_isAmount wsX4_isAmount) := goodIn_app (goodIn_of _ (by decide +kernel)) ggX4_follow_X4_isAmount
set_option maxRecDepth 20000 in
theorem ggX4_follow_X4_isIn : GoodIn wsX4_follow wsX4_isIn := goodIn_r _ [8] (by decide +kernel) (by decide +kernel)
set_option maxRecDepth 20000 in
theorem gX4_follow_X4_isIn : GoodIn wsX4_follow (va_wsS RX4 49 yX4_isIn wsX4_isIn) := goodIn_app (goodIn_of _ (by decide +kernel)) ggX4_follow_X4_isIn
set_option maxRecDepth 20000 in
theorem ggX4_follow_X4_no : GoodIn wsX4_follow wsX4_no := goodIn_r _ [12, 1, 102, 103, 104, 105, 106, 107, 108, 109, 110, 111, 112, 113, 114, 115, 116, 117, 118, 119] (by decide +kernel) (by decide +kernel)
set_option maxRecDepth 20000 in
theorem gX4_follow_X4_no : GoodIn wsX4_follow (wsV RX4 115 RX4 yX4_no wsX4_no) := goodIn_app (goodIn_of _ (by decide +kernel)) ggX4_follow_X4_no
set_option maxRecDepth 20000 in
theorem ggX4_follow_X4_state : GoodIn wsX4_follow wsX4_state := goodIn_r _ [16, 17, 102, 103, 104, 105, 106, 107, 108, 109, 110, 111, 112, 113, 114, 115, 116, 117, 118, 119] (by decide +kernel) (by decide +kernel)
set_option maxRecDepth 20000 in
theorem gX4_follow_X4_state : GoodIn wsX4_follow (wsV RX4 84 RX4 yX4_state wsX4_state) := goodIn_app (goodIn_of _ (by decide +kernel)) ggX4_follow_X4_state
set_option maxRecDepth 20000 in
theorem ggX4_follow_X4_leastFrom : GoodIn wsX4_follow wsX4_leastFrom := goodIn_r _ [21, 22, 23, 24, 25, 26, 27, 4, 28, 29, 30, 31, 32, 33, 34, 35, 36, 37, 38, 39, 40, 41, 42, 43, 44, 45, 46, 47, 48, 49, 50, 51, 52, 53, 54, 55, 56, 57, 58, 59, 60, 61, 62, 63, 64, 65, 66, 67, 102, 103, 104, 105, 106, 107, 108, 109, 110, 111, 112, 113, 114, 115, 116, 117, 118, 119] (by decide +kernel) (by decide +kernel)
set_option maxRecDepth 20000 in
theorem gX4_follow_X4_leastFrom : GoodIn wsX4_follow (wsV RX4 146 RX4 yX4_leastFrom wsX4_leastFrom) := goodIn_app (goodIn_of _ (by decide +kernel)) ggX4_follow_X4_leastFrom
set_option maxRecDepth 20000 in
theorem ggX4_follow_X4_followed : GoodIn wsX4_follow wsX4_followed := goodIn_r _ [71, 13, 14, 15, 4, 16, 17, 60, 61, 62, 63, 37, 64, 65, 66, 67, 45, 46, 47, 18, 19, 20, 21, 22, 23, 24, 25, 26, 27, 28, 29, 30, 31, 32, 33, 34, 35, 36, 38, 39, 40, 41, 42, 43, 44, 48, 49, 50, 51, 52, 53, 54, 55, 56, 57, 58, 59, 72, 73, 74, 75, 76, 77, 78, 79, 80, 81, 82, 83, 84, 85, 86, 87, 88, 89, 90, 91, 92, 93, 94, 95, 96, 97, 98, 99, 100, 101, 102, 103, 104, 105, 106, 107, 108, 109, 110, 111, 112, 113, 114, 115, 116, 117, 118, 119] (by decide +kernel) (by decide +kernel)
set_option maxRecDepth 20000 in
theorem gX4_follow_X4_followed : GoodIn wsX4_follow (wsV RX4 152 RX4 yX4_followed wsX4_followed) := goodIn_app (goodIn_of _ (by decide +kernel)) ggX4_follow_X4_followed
theorem dX4_follow_0 : decode cX4_follow 0 = .ok (.aload_n 0, 1) := by decide +kernel
theorem dX4_follow_1 : decode cX4_follow 1 = .ok (.iconst 0, 1) := by decide +kernel
theorem dX4_follow_2 : decode cX4_follow 2 = .ok (.putfield 42, 3) := by decide +kernel
theorem dX4_follow_5 : decode cX4_follow 5 = .ok (.iload_n 1, 1) := by decide +kernel
theorem dX4_follow_6 : decode cX4_follow 6 = .ok (.invokestatic 112, 3) := by decide +kernel
theorem dX4_follow_9 : decode cX4_follow 9 = .ok (.ifCond .eq 13, 3) := by decide +kernel
theorem dX4_follow_12 : decode cX4_follow 12 = .ok (.iload_n 2, 1) := by decide +kernel
theorem dX4_follow_13 : decode cX4_follow 13 = .ok (.iconst 1, 1) := by decide +kernel
theorem dX4_follow_14 : decode cX4_follow 14 = .ok (.bipush 50, 2) := by decide +kernel
theorem dX4_follow_16 : decode cX4_follow 16 = .ok (.invokestatic 49, 3) := by decide +kernel
theorem dX4_follow_19 : decode cX4_follow 19 = .ok (.ifCond .ne 9, 3) := by decide +kernel
theorem dX4_follow_22 : decode cX4_follow 22 = .ok (.aload_n 0, 1) := by decide +kernel
theorem dX4_follow_23 : decode cX4_follow 23 = .ok (.iconst 1, 1) := by decide +kernel
theorem dX4_follow_24 : decode cX4_follow 24 = .ok (.invokevirtual 115, 3) := by decide +kernel
theorem dX4_follow_27 : decode cX4_follow 27 = .ok (.ireturn, 1) := by decide +kernel
theorem dX4_follow_28 : decode cX4_follow 28 = .ok (.aload_n 0, 1) := by decide +kernel
theorem dX4_follow_29 : decode cX4_follow 29 = .ok (.aload_n 0, 1) := by decide +kernel
theorem dX4_follow_30 : decode cX4_follow 30 = .ok (.invokevirtual 84, 3) := by decide +kernel
theorem dX4_follow_33 : decode cX4_follow 33 = .ok (.iload_n 1, 1) := by decide +kernel
theorem dX4_follow_34 : decode cX4_follow 34 = .ok (.invokevirtual 146, 3) := by decide +kernel
theorem dX4_follow_37 : decode cX4_follow 37 = .ok (.iconst (-1), 1) := by decide +kernel
theorem dX4_follow_38 : decode cX4_follow 38 = .ok (.if_icmp .ne 11, 3) := by decide +kernel
theorem dX4_follow_41 : decode cX4_follow 41 = .ok (.aload_n 0, 1) := by decide +kernel
theorem dX4_follow_42 : decode cX4_follow 42 = .ok (.iconst 2, 1) := by decide +kernel
theorem dX4_follow_43 : decode cX4_follow 43 = .ok (.invokevirtual 115, 3) := by decide +kernel
theorem dX4_follow_46 : decode cX4_follow 46 = .ok (.goto 9, 3) := by decide +kernel
theorem dX4_follow_49 : decode cX4_follow 49 = .ok (.aload_n 0, 1) := by decide +kernel
theorem dX4_follow_50 : decode cX4_follow 50 = .ok (.iload_n 1, 1) := by decide +kernel
theorem dX4_follow_51 : decode cX4_follow 51 = .ok (.iload_n 2, 1) := by decide +kernel
theorem dX4_follow_52 : decode cX4_follow 52 = .ok (.invokevirtual 152, 3) := by decide +kernel
theorem dX4_follow_55 : decode cX4_follow 55 = .ok (.ireturn, 1) := by decide +kernel
theorem dX4_ok_0 : decode cX4_ok 0 = .ok (.aload_n 0, 1) := by decide +kernel
theorem dX4_ok_1 : decode cX4_ok 1 = .ok (.iconst 0, 1) := by decide +kernel
theorem dX4_ok_2 : decode cX4_ok 2 = .ok (.putfield 42, 3) := by decide +kernel
theorem dX4_ok_5 : decode cX4_ok 5 = .ok (.iload_n 1, 1) := by decide +kernel
theorem dX4_ok_6 : decode cX4_ok 6 = .ok (.ireturn, 1) := by decide +kernel
set_option maxRecDepth 20000 in
theorem ggX4_jars_X4_ok : GoodIn wsX4_jars wsX4_ok := goodIn_r _ [6, 7, 8, 9, 10, 11, 12, 13, 14, 15, 16, 17, 18, 19, 20, 21, 22, 23, 24, 25] (by decide +kernel) (by decide +kernel)
set_option maxRecDepth 20000 in
theorem gX4_jars_X4_ok : GoodIn wsX4_jars (wsV RX4 155 RX4 yX4_ok wsX4_ok) := goodIn_app (goodIn_of _ (by decide +kernel)) ggX4_jars_X4_ok
theorem dX4_jars_0 : decode cX4_jars 0 = .ok (.aload_n 0, 1) := by decide +kernel
theorem dX4_jars_1 : decode cX4_jars 1 = .ok (.aload_n 0, 1) := by decide +kernel
theorem dX4_jars_2 : decode cX4_jars 2 = .ok (.getfield 46, 3) := by decide +kernel
theorem dX4_jars_5 : decode cX4_jars 5 = .ok (.invokevirtual 155, 3) := by decide +kernel
theorem dX4_jars_8 : decode cX4_jars 8 = .ok (.ireturn, 1) := by decide +kernel
set_option maxRecDepth 20000 in
theorem ggX4_volumeOf_X4_isJar : GoodIn wsX4_volumeOf wsX4_isJar := goodIn_r _ [7, 8, 9, 10, 6, 11, 16, 17, 18, 19, 20, 21, 22, 23, 24, 25, 26, 27, 28, 29, 30, 31, 32, 33] (by decide +kernel) (by decide +kernel)
set_option maxRecDepth 20000 in
theorem gX4_volumeOf_X4_isJar : GoodIn wsX4_volumeOf (wsV RX4 118 RX4 yX4_isJar wsX4_isJar) := goodIn_app (goodIn_of _ (by decide +kernel)) ggX4_volumeOf_X4_isJar
set_option maxRecDepth 20000 in
theorem ggX4_volumeOf_X4_no : GoodIn wsX4_volumeOf wsX4_no := goodIn_r _ [15, 1, 16, 17, 18, 19, 20, 21, 22, 23, 24, 25, 26, 27, 28, 29, 30, 31, 32, 33] (by decide +kernel) (by decide +kernel)
set_option maxRecDepth 20000 in
theorem gX4_volumeOf_X4_no : GoodIn wsX4_volumeOf (wsV RX4 115 RX4 yX4_no wsX4_no) := goodIn_app (goodIn_of _ (by decide +kernel)) ggX4_volumeOf_X4_no
theorem dX4_volumeOf_0 : decode cX4_volumeOf 0 = .ok (.aload_n 0, 1) := by decide +kernel
theorem dX4_volumeOf_1 : decode cX4_volumeOf 1 = .ok (.iconst 0, 1) := by decide +kernel
theorem dX4_volumeOf_2 : decode cX4_volumeOf 2 = .ok (.putfield 42, 3) := by decide +kernel
theorem dX4_volumeOf_5 : decode cX4_volumeOf 5 = .ok (.aload_n 0, 1) := by decide +kernel
theorem dX4_volumeOf_6 : decode cX4_volumeOf 6 = .ok (.iload_n 1, 1) := by decide +kernel
theorem dX4_volumeOf_7 : decode cX4_volumeOf 7 = .ok (.invokevirtual 118, 3) := by decide +kernel
theorem dX4_volumeOf_10 : decode cX4_volumeOf 10 = .ok (.ifCond .eq 12, 3) := by decide +kernel
theorem dX4_volumeOf_13 : decode cX4_volumeOf 13 = .ok (.aload_n 0, 1) := by decide +kernel
theorem dX4_volumeOf_14 : decode cX4_volumeOf 14 = .ok (.getfield 9, 3) := by decide +kernel
theorem dX4_volumeOf_17 : decode cX4_volumeOf 17 = .ok (.iload_n 1, 1) := by decide +kernel
theorem dX4_volumeOf_18 : decode cX4_volumeOf 18 = .ok (.iaload, 1) := by decide +kernel
theorem dX4_volumeOf_19 : decode cX4_volumeOf 19 = .ok (.goto 8, 3) := by decide +kernel
theorem dX4_volumeOf_22 : decode cX4_volumeOf 22 = .ok (.aload_n 0, 1) := by decide +kernel
theorem dX4_volumeOf_23 : decode cX4_volumeOf 23 = .ok (.iconst 1, 1) := by decide +kernel
theorem dX4_volumeOf_24 : decode cX4_volumeOf 24 = .ok (.invokevirtual 115, 3) := by decide +kernel
theorem dX4_volumeOf_27 : decode cX4_volumeOf 27 = .ok (.ireturn, 1) := by decide +kernel
set_option maxRecDepth 20000 in
theorem ggX4_amountOf_X4_isJar : GoodIn wsX4_amountOf wsX4_isJar := goodIn_r _ [7, 8, 9, 10, 6, 11, 16, 17, 18, 19, 20, 21, 22, 23, 24, 25, 26, 27, 28, 29, 30, 31, 32, 33] (by decide +kernel) (by decide +kernel)
set_option maxRecDepth 20000 in
theorem gX4_amountOf_X4_isJar : GoodIn wsX4_amountOf (wsV RX4 118 RX4 yX4_isJar wsX4_isJar) := goodIn_app (goodIn_of _ (by decide +kernel)) ggX4_amountOf_X4_isJar
set_option maxRecDepth 20000 in
theorem ggX4_amountOf_X4_no : GoodIn wsX4_amountOf wsX4_no := goodIn_r _ [15, 1, 16, 17, 18, 19, 20, 21, 22, 23, 24, 25, 26, 27, 28, 29, 30, 31, 32, 33] (by decide +kernel) (by decide +kernel)
set_option maxRecDepth 20000 in
theorem gX4_amountOf_X4_no : GoodIn wsX4_amountOf (wsV RX4 115 RX4 yX4_no wsX4_no) := goodIn_app (goodIn_of _ (by decide +kernel)) ggX4_amountOf_X4_no
theorem dX4_amountOf_0 : decode cX4_amountOf 0 = .ok (.aload_n 0, 1) := by decide +kernel
theorem dX4_amountOf_1 : decode cX4_amountOf 1 = .ok (.iconst 0, 1) := by decide +kernel
theorem dX4_amountOf_2 : decode cX4_amountOf 2 = .ok (.putfield 42, 3) := by decide +kernel
theorem dX4_amountOf_5 : decode cX4_amountOf 5 = .ok (.aload_n 0, 1) := by decide +kernel
theorem dX4_amountOf_6 : decode cX4_amountOf 6 = .ok (.iload_n 1, 1) := by decide +kernel
theorem dX4_amountOf_7 : decode cX4_amountOf 7 = .ok (.invokevirtual 118, 3) := by decide +kernel
theorem dX4_amountOf_10 : decode cX4_amountOf 10 = .ok (.ifCond .eq 12, 3) := by decide +kernel
theorem dX4_amountOf_13 : decode cX4_amountOf 13 = .ok (.aload_n 0, 1) := by decide +kernel
theorem dX4_amountOf_14 : decode cX4_amountOf 14 = .ok (.getfield 13, 3) := by decide +kernel
theorem dX4_amountOf_17 : decode cX4_amountOf 17 = .ok (.iload_n 1, 1) := by decide +kernel
theorem dX4_amountOf_18 : decode cX4_amountOf 18 = .ok (.iaload, 1) := by decide +kernel
theorem dX4_amountOf_19 : decode cX4_amountOf 19 = .ok (.goto 8, 3) := by decide +kernel
theorem dX4_amountOf_22 : decode cX4_amountOf 22 = .ok (.aload_n 0, 1) := by decide +kernel
theorem dX4_amountOf_23 : decode cX4_amountOf 23 = .ok (.iconst 1, 1) := by decide +kernel
theorem dX4_amountOf_24 : decode cX4_amountOf 24 = .ok (.invokevirtual 115, 3) := by decide +kernel
theorem dX4_amountOf_27 : decode cX4_amountOf 27 = .ok (.ireturn, 1) := by decide +kernel
set_option maxRecDepth 20000 in
theorem ggX4_isEmpty_X4_isJar : GoodIn wsX4_isEmpty wsX4_isJar := goodIn_r _ [7, 8, 9, 10, 6, 11, 16, 17, 18, 19, 20, 21, 22, 23, 24, 25, 26, 27, 28, 29, 30, 31, 32, 33] (by decide +kernel) (by decide +kernel)
set_option maxRecDepth 20000 in
theorem gX4_isEmpty_X4_isJar : GoodIn wsX4_isEmpty (wsV RX4 118 RX4 yX4_isJar wsX4_isJar) := goodIn_app (goodIn_of _ (by decide +kernel)) ggX4_isEmpty_X4_isJar
set_option maxRecDepth 20000 in
theorem ggX4_isEmpty_X4_isNot : GoodIn wsX4_isEmpty wsX4_isNot := goodIn_r _ [15, 1, 16, 17, 18, 19, 20, 21, 22, 23, 24, 25, 26, 27, 28, 29, 30, 31, 32, 33] (by decide +kernel) (by decide +kernel)
set_option maxRecDepth 20000 in
theorem gX4_isEmpty_X4_isNot : GoodIn wsX4_isEmpty (wsV RX4 158 RX4 yX4_isNot wsX4_isNot) := goodIn_app (goodIn_of _ (by decide +kernel)) ggX4_isEmpty_X4_isNot
theorem dX4_isEmpty_0 : decode cX4_isEmpty 0 = .ok (.aload_n 0, 1) := by decide +kernel
theorem dX4_isEmpty_1 : decode cX4_isEmpty 1 = .ok (.iconst 0, 1) := by decide +kernel
theorem dX4_isEmpty_2 : decode cX4_isEmpty 2 = .ok (.putfield 42, 3) := by decide +kernel
theorem dX4_isEmpty_5 : decode cX4_isEmpty 5 = .ok (.aload_n 0, 1) := by decide +kernel
theorem dX4_isEmpty_6 : decode cX4_isEmpty 6 = .ok (.iload_n 1, 1) := by decide +kernel
theorem dX4_isEmpty_7 : decode cX4_isEmpty 7 = .ok (.invokevirtual 118, 3) := by decide +kernel
theorem dX4_isEmpty_10 : decode cX4_isEmpty 10 = .ok (.ifCond .eq 20, 3) := by decide +kernel
theorem dX4_isEmpty_13 : decode cX4_isEmpty 13 = .ok (.aload_n 0, 1) := by decide +kernel
theorem dX4_isEmpty_14 : decode cX4_isEmpty 14 = .ok (.getfield 13, 3) := by decide +kernel
theorem dX4_isEmpty_17 : decode cX4_isEmpty 17 = .ok (.iload_n 1, 1) := by decide +kernel
theorem dX4_isEmpty_18 : decode cX4_isEmpty 18 = .ok (.iaload, 1) := by decide +kernel
theorem dX4_isEmpty_19 : decode cX4_isEmpty 19 = .ok (.ifCond .ne 7, 3) := by decide +kernel
theorem dX4_isEmpty_22 : decode cX4_isEmpty 22 = .ok (.iconst 1, 1) := by decide +kernel
theorem dX4_isEmpty_23 : decode cX4_isEmpty 23 = .ok (.goto 12, 3) := by decide +kernel
theorem dX4_isEmpty_26 : decode cX4_isEmpty 26 = .ok (.iconst 0, 1) := by decide +kernel
theorem dX4_isEmpty_27 : decode cX4_isEmpty 27 = .ok (.goto 8, 3) := by decide +kernel
theorem dX4_isEmpty_30 : decode cX4_isEmpty 30 = .ok (.aload_n 0, 1) := by decide +kernel
theorem dX4_isEmpty_31 : decode cX4_isEmpty 31 = .ok (.iconst 1, 1) := by decide +kernel
theorem dX4_isEmpty_32 : decode cX4_isEmpty 32 = .ok (.invokevirtual 158, 3) := by decide +kernel
theorem dX4_isEmpty_35 : decode cX4_isEmpty 35 = .ok (.ireturn, 1) := by decide +kernel
set_option maxRecDepth 20000 in
theorem ggX4_isFull_X4_isJar : GoodIn wsX4_isFull wsX4_isJar := goodIn_r _ [8, 9, 10, 11, 7, 12, 17, 18, 19, 20, 21, 22, 23, 24, 25, 26, 27, 28, 29, 30, 31, 32, 33, 34] (by decide +kernel) (by decide +kernel)
set_option maxRecDepth 20000 in
theorem gX4_isFull_X4_isJar : GoodIn wsX4_isFull (wsV RX4 118 RX4 yX4_isJar wsX4_isJar) := goodIn_app (goodIn_of _ (by decide +kernel)) ggX4_isFull_X4_isJar
set_option maxRecDepth 20000 in
theorem ggX4_isFull_X4_isNot : GoodIn wsX4_isFull wsX4_isNot := goodIn_r _ [16, 1, 17, 18, 19, 20, 21, 22, 23, 24, 25, 26, 27, 28, 29, 30, 31, 32, 33, 34] (by decide +kernel) (by decide +kernel)
set_option maxRecDepth 20000 in
theorem gX4_isFull_X4_isNot : GoodIn wsX4_isFull (wsV RX4 158 RX4 yX4_isNot wsX4_isNot) := goodIn_app (goodIn_of _ (by decide +kernel)) ggX4_isFull_X4_isNot
theorem dX4_isFull_0 : decode cX4_isFull 0 = .ok (.aload_n 0, 1) := by decide +kernel
theorem dX4_isFull_1 : decode cX4_isFull 1 = .ok (.iconst 0, 1) := by decide +kernel
theorem dX4_isFull_2 : decode cX4_isFull 2 = .ok (.putfield 42, 3) := by decide +kernel
theorem dX4_isFull_5 : decode cX4_isFull 5 = .ok (.aload_n 0, 1) := by decide +kernel
theorem dX4_isFull_6 : decode cX4_isFull 6 = .ok (.iload_n 1, 1) := by decide +kernel
theorem dX4_isFull_7 : decode cX4_isFull 7 = .ok (.invokevirtual 118, 3) := by decide +kernel
theorem dX4_isFull_10 : decode cX4_isFull 10 = .ok (.ifCond .eq 26, 3) := by decide +kernel
theorem dX4_isFull_13 : decode cX4_isFull 13 = .ok (.aload_n 0, 1) := by decide +kernel
theorem dX4_isFull_14 : decode cX4_isFull 14 = .ok (.getfield 13, 3) := by decide +kernel
theorem dX4_isFull_17 : decode cX4_isFull 17 = .ok (.iload_n 1, 1) := by decide +kernel
theorem dX4_isFull_18 : decode cX4_isFull 18 = .ok (.iaload, 1) := by decide +kernel
theorem dX4_isFull_19 : decode cX4_isFull 19 = .ok (.aload_n 0, 1) := by decide +kernel
theorem dX4_isFull_20 : decode cX4_isFull 20 = .ok (.getfield 9, 3) := by decide +kernel
theorem dX4_isFull_23 : decode cX4_isFull 23 = .ok (.iload_n 1, 1) := by decide +kernel
theorem dX4_isFull_24 : decode cX4_isFull 24 = .ok (.iaload, 1) := by decide +kernel
theorem dX4_isFull_25 : decode cX4_isFull 25 = .ok (.if_icmp .ne 7, 3) := by decide +kernel
theorem dX4_isFull_28 : decode cX4_isFull 28 = .ok (.iconst 1, 1) := by decide +kernel
theorem dX4_isFull_29 : decode cX4_isFull 29 = .ok (.goto 12, 3) := by decide +kernel
theorem dX4_isFull_32 : decode cX4_isFull 32 = .ok (.iconst 0, 1) := by decide +kernel
theorem dX4_isFull_33 : decode cX4_isFull 33 = .ok (.goto 8, 3) := by decide +kernel
theorem dX4_isFull_36 : decode cX4_isFull 36 = .ok (.aload_n 0, 1) := by decide +kernel
theorem dX4_isFull_37 : decode cX4_isFull 37 = .ok (.iconst 1, 1) := by decide +kernel
theorem dX4_isFull_38 : decode cX4_isFull 38 = .ok (.invokevirtual 158, 3) := by decide +kernel
theorem dX4_isFull_41 : decode cX4_isFull 41 = .ok (.ireturn, 1) := by decide +kernel
theorem dX4_all_0 : decode cX4_all 0 = .ok (.aload_n 0, 1) := by decide +kernel
theorem dX4_all_1 : decode cX4_all 1 = .ok (.getfield 13, 3) := by decide +kernel
theorem dX4_all_4 : decode cX4_all 4 = .ok (.iconst 0, 1) := by decide +kernel
theorem dX4_all_5 : decode cX4_all 5 = .ok (.iaload, 1) := by decide +kernel
theorem dX4_all_6 : decode cX4_all 6 = .ok (.aload_n 0, 1) := by decide +kernel
theorem dX4_all_7 : decode cX4_all 7 = .ok (.getfield 13, 3) := by decide +kernel
theorem dX4_all_10 : decode cX4_all 10 = .ok (.iconst 1, 1) := by decide +kernel
theorem dX4_all_11 : decode cX4_all 11 = .ok (.iaload, 1) := by decide +kernel
theorem dX4_all_12 : decode cX4_all 12 = .ok (.iadd, 1) := by decide +kernel
theorem dX4_all_13 : decode cX4_all 13 = .ok (.aload_n 0, 1) := by decide +kernel
theorem dX4_all_14 : decode cX4_all 14 = .ok (.getfield 13, 3) := by decide +kernel
theorem dX4_all_17 : decode cX4_all 17 = .ok (.iconst 2, 1) := by decide +kernel
theorem dX4_all_18 : decode cX4_all 18 = .ok (.iaload, 1) := by decide +kernel
theorem dX4_all_19 : decode cX4_all 19 = .ok (.iadd, 1) := by decide +kernel
theorem dX4_all_20 : decode cX4_all 20 = .ok (.ireturn, 1) := by decide +kernel
set_option maxRecDepth 20000 in
theorem ggX4_heldInAll_X4_all : GoodIn wsX4_heldInAll wsX4_all := goodIn_r _ [5, 6, 12, 13, 14, 15, 16, 17, 18, 19, 20, 21, 22, 23, 24, 25, 26, 27, 28, 29] (by decide +kernel) (by decide +kernel)
set_option maxRecDepth 20000 in
theorem gX4_heldInAll_X4_all : GoodIn wsX4_heldInAll (wsV RX4 161 RX4 yX4_all wsX4_all) := goodIn_app (goodIn_of _ (by decide +kernel)) ggX4_heldInAll_X4_all
set_option maxRecDepth 20000 in
theorem ggX4_heldInAll_X4_ok : GoodIn wsX4_heldInAll wsX4_ok := goodIn_r _ [10, 11, 12, 13, 14, 15, 16, 17, 18, 19, 20, 21, 22, 23, 24, 25, 26, 27, 28, 29] (by decide +kernel) (by decide +kernel)
set_option maxRecDepth 20000 in
theorem gX4_heldInAll_X4_ok : GoodIn wsX4_heldInAll (wsV RX4 155 RX4 yX4_ok wsX4_ok) := goodIn_app (goodIn_of _ (by decide +kernel)) ggX4_heldInAll_X4_ok
theorem dX4_heldInAll_0 : decode cX4_heldInAll 0 = .ok (.aload_n 0, 1) := by decide +kernel
theorem dX4_heldInAll_1 : decode cX4_heldInAll 1 = .ok (.aload_n 0, 1) := by decide +kernel
theorem dX4_heldInAll_2 : decode cX4_heldInAll 2 = .ok (.invokevirtual 161, 3) := by decide +kernel
theorem dX4_heldInAll_5 : decode cX4_heldInAll 5 = .ok (.invokevirtual 155, 3) := by decide +kernel
theorem dX4_heldInAll_8 : decode cX4_heldInAll 8 = .ok (.ireturn, 1) := by decide +kernel
set_option maxRecDepth 20000 in
theorem ggX4_acts_X4_ok : GoodIn wsX4_acts wsX4_ok := goodIn_r _ [6, 7, 8, 9, 10, 11, 12, 13, 14, 15, 16, 17, 18, 19, 20, 21, 22, 23, 24, 25] (by decide +kernel) (by decide +kernel)
set_option maxRecDepth 20000 in
theorem gX4_acts_X4_ok : GoodIn wsX4_acts (wsV RX4 155 RX4 yX4_ok wsX4_ok) := goodIn_app (goodIn_of _ (by decide +kernel)) ggX4_acts_X4_ok
theorem dX4_acts_0 : decode cX4_acts 0 = .ok (.aload_n 0, 1) := by decide +kernel
theorem dX4_acts_1 : decode cX4_acts 1 = .ok (.aload_n 0, 1) := by decide +kernel
theorem dX4_acts_2 : decode cX4_acts 2 = .ok (.getfield 57, 3) := by decide +kernel
theorem dX4_acts_5 : decode cX4_acts 5 = .ok (.invokevirtual 155, 3) := by decide +kernel
theorem dX4_acts_8 : decode cX4_acts 8 = .ok (.ireturn, 1) := by decide +kernel
set_option maxRecDepth 20000 in
theorem ggX4_pouredInAll_X4_ok : GoodIn wsX4_pouredInAll wsX4_ok := goodIn_r _ [6, 7, 8, 9, 10, 11, 12, 13, 14, 15, 16, 17, 18, 19, 20, 21, 22, 23, 24, 25] (by decide +kernel) (by decide +kernel)
set_option maxRecDepth 20000 in
theorem gX4_pouredInAll_X4_ok : GoodIn wsX4_pouredInAll (wsV RX4 155 RX4 yX4_ok wsX4_ok) := goodIn_app (goodIn_of _ (by decide +kernel)) ggX4_pouredInAll_X4_ok
theorem dX4_pouredInAll_0 : decode cX4_pouredInAll 0 = .ok (.aload_n 0, 1) := by decide +kernel
theorem dX4_pouredInAll_1 : decode cX4_pouredInAll 1 = .ok (.aload_n 0, 1) := by decide +kernel
theorem dX4_pouredInAll_2 : decode cX4_pouredInAll 2 = .ok (.getfield 60, 3) := by decide +kernel
theorem dX4_pouredInAll_5 : decode cX4_pouredInAll 5 = .ok (.invokevirtual 155, 3) := by decide +kernel
theorem dX4_pouredInAll_8 : decode cX4_pouredInAll 8 = .ok (.ireturn, 1) := by decide +kernel
set_option maxRecDepth 20000 in
theorem ggX4_spilledInAll_X4_ok : GoodIn wsX4_spilledInAll wsX4_ok := goodIn_r _ [6, 7, 8, 9, 10, 11, 12, 13, 14, 15, 16, 17, 18, 19, 20, 21, 22, 23, 24, 25] (by decide +kernel) (by decide +kernel)
set_option maxRecDepth 20000 in
theorem gX4_spilledInAll_X4_ok : GoodIn wsX4_spilledInAll (wsV RX4 155 RX4 yX4_ok wsX4_ok) := goodIn_app (goodIn_of _ (by decide +kernel)) ggX4_spilledInAll_X4_ok
theorem dX4_spilledInAll_0 : decode cX4_spilledInAll 0 = .ok (.aload_n 0, 1) := by decide +kernel
theorem dX4_spilledInAll_1 : decode cX4_spilledInAll 1 = .ok (.aload_n 0, 1) := by decide +kernel
theorem dX4_spilledInAll_2 : decode cX4_spilledInAll 2 = .ok (.getfield 63, 3) := by decide +kernel
theorem dX4_spilledInAll_5 : decode cX4_spilledInAll 5 = .ok (.invokevirtual 155, 3) := by decide +kernel
theorem dX4_spilledInAll_8 : decode cX4_spilledInAll 8 = .ok (.ireturn, 1) := by decide +kernel
set_option maxRecDepth 20000 in
theorem ggX4_takenInAll_X4_ok : GoodIn wsX4_takenInAll wsX4_ok := goodIn_r _ [6, 7, 8, 9, 10, 11, 12, 13, 14, 15, 16, 17, 18, 19, 20, 21, 22, 23, 24, 25] (by decide +kernel) (by decide +kernel)
set_option maxRecDepth 20000 in
theorem gX4_takenInAll_X4_ok : GoodIn wsX4_takenInAll (wsV RX4 155 RX4 yX4_ok wsX4_ok) := goodIn_app (goodIn_of _ (by decide +kernel)) ggX4_takenInAll_X4_ok
theorem dX4_takenInAll_0 : decode cX4_takenInAll 0 = .ok (.aload_n 0, 1) := by decide +kernel
theorem dX4_takenInAll_1 : decode cX4_takenInAll 1 = .ok (.aload_n 0, 1) := by decide +kernel
theorem dX4_takenInAll_2 : decode cX4_takenInAll 2 = .ok (.getfield 66, 3) := by decide +kernel
theorem dX4_takenInAll_5 : decode cX4_takenInAll 5 = .ok (.invokevirtual 155, 3) := by decide +kernel
theorem dX4_takenInAll_8 : decode cX4_takenInAll 8 = .ok (.ireturn, 1) := by decide +kernel
set_option maxRecDepth 20000 in
theorem ggX4_isThere_X4_isAmount : GoodIn wsX4_isThere wsX4_isAmount := goodIn_r _ [5, 6, 7, 4, 8] (by decide +kernel) (by decide +kernel)
set_option maxRecDepth 20000 in
theorem gX4_isThere_X4_isAmount : GoodIn wsX4_isThere (va_wsS RX4 112 yX4_isAmount wsX4_isAmount) := goodIn_app (goodIn_of _ (by decide +kernel)) ggX4_isThere_X4_isAmount
set_option maxRecDepth 20000 in
theorem ggX4_isThere_X4_state : GoodIn wsX4_isThere wsX4_state := goodIn_r _ [12, 13, 30, 31, 32, 33, 34, 35, 36, 37, 38, 39, 40, 41, 42, 43, 44, 45, 46, 47] (by decide +kernel) (by decide +kernel)
set_option maxRecDepth 20000 in
theorem gX4_isThere_X4_state : GoodIn wsX4_isThere (wsV RX4 84 RX4 yX4_state wsX4_state) := goodIn_app (goodIn_of _ (by decide +kernel)) ggX4_isThere_X4_state
set_option maxRecDepth 20000 in
theorem ggX4_isThere_X4_isSomewhere : GoodIn wsX4_isThere wsX4_isSomewhere := goodIn_r _ [17, 18, 19, 20, 21, 4, 22, 23, 24, 25, 30, 31, 32, 33, 34, 35, 36, 37, 38, 39, 40, 41, 42, 43, 44, 45, 46, 47] (by decide +kernel) (by decide +kernel)
set_option maxRecDepth 20000 in
theorem gX4_isThere_X4_isSomewhere : GoodIn wsX4_isThere (wsV RX4 142 RX4 yX4_isSomewhere wsX4_isSomewhere) := goodIn_app (goodIn_of _ (by decide +kernel)) ggX4_isThere_X4_isSomewhere
set_option maxRecDepth 20000 in
theorem ggX4_isThere_X4_isNot : GoodIn wsX4_isThere wsX4_isNot := goodIn_r _ [29, 1, 30, 31, 32, 33, 34, 35, 36, 37, 38, 39, 40, 41, 42, 43, 44, 45, 46, 47] (by decide +kernel) (by decide +kernel)
set_option maxRecDepth 20000 in
theorem gX4_isThere_X4_isNot : GoodIn wsX4_isThere (wsV RX4 158 RX4 yX4_isNot wsX4_isNot) := goodIn_app (goodIn_of _ (by decide +kernel)) ggX4_isThere_X4_isNot
theorem dX4_isThere_0 : decode cX4_isThere 0 = .ok (.aload_n 0, 1) := by decide +kernel
theorem dX4_isThere_1 : decode cX4_isThere 1 = .ok (.iconst 0, 1) := by decide +kernel
theorem dX4_isThere_2 : decode cX4_isThere 2 = .ok (.putfield 42, 3) := by decide +kernel
theorem dX4_isThere_5 : decode cX4_isThere 5 = .ok (.iload_n 1, 1) := by decide +kernel
theorem dX4_isThere_6 : decode cX4_isThere 6 = .ok (.invokestatic 112, 3) := by decide +kernel
theorem dX4_isThere_9 : decode cX4_isThere 9 = .ok (.ifCond .eq 15, 3) := by decide +kernel
theorem dX4_isThere_12 : decode cX4_isThere 12 = .ok (.aload_n 0, 1) := by decide +kernel
theorem dX4_isThere_13 : decode cX4_isThere 13 = .ok (.aload_n 0, 1) := by decide +kernel
theorem dX4_isThere_14 : decode cX4_isThere 14 = .ok (.invokevirtual 84, 3) := by decide +kernel
theorem dX4_isThere_17 : decode cX4_isThere 17 = .ok (.iload_n 1, 1) := by decide +kernel
theorem dX4_isThere_18 : decode cX4_isThere 18 = .ok (.invokevirtual 142, 3) := by decide +kernel
theorem dX4_isThere_21 : decode cX4_isThere 21 = .ok (.goto 8, 3) := by decide +kernel
theorem dX4_isThere_24 : decode cX4_isThere 24 = .ok (.aload_n 0, 1) := by decide +kernel
theorem dX4_isThere_25 : decode cX4_isThere 25 = .ok (.iconst 1, 1) := by decide +kernel
theorem dX4_isThere_26 : decode cX4_isThere 26 = .ok (.invokevirtual 158, 3) := by decide +kernel
theorem dX4_isThere_29 : decode cX4_isThere 29 = .ok (.ireturn, 1) := by decide +kernel
set_option maxRecDepth 20000 in
theorem ggX4_leastActs_X4_isAmount : GoodIn wsX4_leastActs wsX4_isAmount := goodIn_r _ [5, 6, 7, 4, 8] (by decide +kernel) (by decide +kernel)
set_option maxRecDepth 20000 in
theorem gX4_leastActs_X4_isAmount : GoodIn wsX4_leastActs (va_wsS RX4 112 yX4_isAmount wsX4_isAmount) := goodIn_app (goodIn_of _ (by decide +kernel)) ggX4_leastActs_X4_isAmount
set_option maxRecDepth 20000 in
theorem ggX4_leastActs_X4_state : GoodIn wsX4_leastActs wsX4_state := goodIn_r _ [12, 13, 68, 69, 70, 71, 72, 73, 74, 75, 76, 77, 78, 79, 80, 81, 82, 83, 84, 85] (by decide +kernel) (by decide +kernel)
set_option maxRecDepth 20000 in
theorem gX4_leastActs_X4_state : GoodIn wsX4_leastActs (wsV RX4 84 RX4 yX4_state wsX4_state) := goodIn_app (goodIn_of _ (by decide +kernel)) ggX4_leastActs_X4_state
set_option maxRecDepth 20000 in
theorem ggX4_leastActs_X4_leastFrom : GoodIn wsX4_leastActs wsX4_leastFrom := goodIn_r _ [17, 18, 19, 20, 21, 22, 23, 4, 24, 25, 26, 27, 28, 29, 30, 31, 32, 33, 34, 35, 36, 37, 38, 39, 40, 41, 42, 43, 44, 45, 46, 47, 48, 49, 50, 51, 52, 53, 54, 55, 56, 57, 58, 59, 60, 61, 62, 63, 68, 69, 70, 71, 72, 73, 74, 75, 76, 77, 78, 79, 80, 81, 82, 83, 84, 85] (by decide +kernel) (by decide +kernel)
set_option maxRecDepth 20000 in
theorem gX4_leastActs_X4_leastFrom : GoodIn wsX4_leastActs (wsV RX4 146 RX4 yX4_leastFrom wsX4_leastFrom) := goodIn_app (goodIn_of _ (by decide +kernel)) ggX4_leastActs_X4_leastFrom
set_option maxRecDepth 20000 in
theorem ggX4_leastActs_X4_no : GoodIn wsX4_leastActs wsX4_no := goodIn_r _ [67, 1, 68, 69, 70, 71, 72, 73, 74, 75, 76, 77, 78, 79, 80, 81, 82, 83, 84, 85] (by decide +kernel) (by decide +kernel)
set_option maxRecDepth 20000 in
theorem gX4_leastActs_X4_no : GoodIn wsX4_leastActs (wsV RX4 115 RX4 yX4_no wsX4_no) := goodIn_app (goodIn_of _ (by decide +kernel)) ggX4_leastActs_X4_no
theorem dX4_leastActs_0 : decode cX4_leastActs 0 = .ok (.aload_n 0, 1) := by decide +kernel
theorem dX4_leastActs_1 : decode cX4_leastActs 1 = .ok (.iconst 0, 1) := by decide +kernel
theorem dX4_leastActs_2 : decode cX4_leastActs 2 = .ok (.putfield 42, 3) := by decide +kernel
theorem dX4_leastActs_5 : decode cX4_leastActs 5 = .ok (.iload_n 1, 1) := by decide +kernel
theorem dX4_leastActs_6 : decode cX4_leastActs 6 = .ok (.invokestatic 112, 3) := by decide +kernel
theorem dX4_leastActs_9 : decode cX4_leastActs 9 = .ok (.ifCond .eq 15, 3) := by decide +kernel
theorem dX4_leastActs_12 : decode cX4_leastActs 12 = .ok (.aload_n 0, 1) := by decide +kernel
theorem dX4_leastActs_13 : decode cX4_leastActs 13 = .ok (.aload_n 0, 1) := by decide +kernel
theorem dX4_leastActs_14 : decode cX4_leastActs 14 = .ok (.invokevirtual 84, 3) := by decide +kernel
theorem dX4_leastActs_17 : decode cX4_leastActs 17 = .ok (.iload_n 1, 1) := by decide +kernel
theorem dX4_leastActs_18 : decode cX4_leastActs 18 = .ok (.invokevirtual 146, 3) := by decide +kernel
theorem dX4_leastActs_21 : decode cX4_leastActs 21 = .ok (.goto 8, 3) := by decide +kernel
theorem dX4_leastActs_24 : decode cX4_leastActs 24 = .ok (.aload_n 0, 1) := by decide +kernel
theorem dX4_leastActs_25 : decode cX4_leastActs 25 = .ok (.iconst 1, 1) := by decide +kernel
theorem dX4_leastActs_26 : decode cX4_leastActs 26 = .ok (.invokevirtual 115, 3) := by decide +kernel
theorem dX4_leastActs_29 : decode cX4_leastActs 29 = .ok (.ireturn, 1) := by decide +kernel
set_option maxRecDepth 20000 in
theorem ggX4_leastIn_X4_state : GoodIn wsX4_leastIn wsX4_state := goodIn_r _ [8, 9, 49, 50, 51, 52, 53, 54, 55, 56, 57, 58, 59, 60, 61, 62, 63, 64, 65, 66] (by decide +kernel) (by decide +kernel)
set_option maxRecDepth 20000 in
theorem gX4_leastIn_X4_state : GoodIn wsX4_leastIn (wsV RX4 84 RX4 yX4_state wsX4_state) := goodIn_app (goodIn_of _ (by decide +kernel)) ggX4_leastIn_X4_state
set_option maxRecDepth 20000 in
theorem ggX4_leastIn_X4_spread : GoodIn wsX4_leastIn wsX4_spread := goodIn_r _ [13, 3, 1, 2, 14, 15, 16, 7, 17, 18, 19, 20, 21, 22, 23, 24, 25, 26, 27, 28, 29, 30, 31, 32, 33, 34, 35, 36, 37, 38, 39, 40, 41, 42, 43, 44, 49, 50, 51, 52, 53, 54, 55, 56, 57, 58, 59, 60, 61, 62, 63, 64, 65, 66] (by decide +kernel) (by decide +kernel)
set_option maxRecDepth 20000 in
theorem gX4_leastIn_X4_spread : GoodIn wsX4_leastIn (wsV RX4 139 RX4 yX4_spread wsX4_spread) := goodIn_app (goodIn_of _ (by decide +kernel)) ggX4_leastIn_X4_spread
set_option maxRecDepth 20000 in
theorem ggX4_leastIn_X4_holds : GoodIn wsX4_leastIn wsX4_holds := goodIn_r _ [48, 30, 31, 7, 32] (by decide +kernel) (by decide +kernel)
set_option maxRecDepth 20000 in
theorem gX4_leastIn_X4_holds : GoodIn wsX4_leastIn (wsV RX4 136 RX4 yX4_holds wsX4_holds) := goodIn_app (goodIn_of _ (by decide +kernel)) ggX4_leastIn_X4_holds
theorem dX4_leastIn_0 : decode cX4_leastIn 0 = .ok (.aload_n 0, 1) := by decide +kernel
theorem dX4_leastIn_1 : decode cX4_leastIn 1 = .ok (.aload_n 0, 1) := by decide +kernel
theorem dX4_leastIn_2 : decode cX4_leastIn 2 = .ok (.invokevirtual 84, 3) := by decide +kernel
theorem dX4_leastIn_5 : decode cX4_leastIn 5 = .ok (.invokevirtual 139, 3) := by decide +kernel
theorem dX4_leastIn_8 : decode cX4_leastIn 8 = .ok (.iconst 0, 1) := by decide +kernel
theorem dX4_leastIn_9 : decode cX4_leastIn 9 = .ok (.istore_n 3, 1) := by decide +kernel
theorem dX4_leastIn_10 : decode cX4_leastIn 10 = .ok (.iload_n 3, 1) := by decide +kernel
theorem dX4_leastIn_11 : decode cX4_leastIn 11 = .ok (.aload_n 0, 1) := by decide +kernel
theorem dX4_leastIn_12 : decode cX4_leastIn 12 = .ok (.getfield 124, 3) := by decide +kernel
theorem dX4_leastIn_15 : decode cX4_leastIn 15 = .ok (.if_icmp .ge 36, 3) := by decide +kernel
theorem dX4_leastIn_18 : decode cX4_leastIn 18 = .ok (.aload_n 0, 1) := by decide +kernel
theorem dX4_leastIn_19 : decode cX4_leastIn 19 = .ok (.aload_n 0, 1) := by decide +kernel
theorem dX4_leastIn_20 : decode cX4_leastIn 20 = .ok (.getfield 26, 3) := by decide +kernel
theorem dX4_leastIn_23 : decode cX4_leastIn 23 = .ok (.iload_n 3, 1) := by decide +kernel
theorem dX4_leastIn_24 : decode cX4_leastIn 24 = .ok (.iaload, 1) := by decide +kernel
theorem dX4_leastIn_25 : decode cX4_leastIn 25 = .ok (.iload_n 1, 1) := by decide +kernel
theorem dX4_leastIn_26 : decode cX4_leastIn 26 = .ok (.iload_n 2, 1) := by decide +kernel
theorem dX4_leastIn_27 : decode cX4_leastIn 27 = .ok (.invokevirtual 136, 3) := by decide +kernel
theorem dX4_leastIn_30 : decode cX4_leastIn 30 = .ok (.ifCond .eq 15, 3) := by decide +kernel
theorem dX4_leastIn_33 : decode cX4_leastIn 33 = .ok (.aload_n 0, 1) := by decide +kernel
theorem dX4_leastIn_34 : decode cX4_leastIn 34 = .ok (.getfield 23, 3) := by decide +kernel
theorem dX4_leastIn_37 : decode cX4_leastIn 37 = .ok (.aload_n 0, 1) := by decide +kernel
theorem dX4_leastIn_38 : decode cX4_leastIn 38 = .ok (.getfield 26, 3) := by decide +kernel
theorem dX4_leastIn_41 : decode cX4_leastIn 41 = .ok (.iload_n 3, 1) := by decide +kernel
theorem dX4_leastIn_42 : decode cX4_leastIn 42 = .ok (.iaload, 1) := by decide +kernel
theorem dX4_leastIn_43 : decode cX4_leastIn 43 = .ok (.iaload, 1) := by decide +kernel
theorem dX4_leastIn_44 : decode cX4_leastIn 44 = .ok (.ireturn, 1) := by decide +kernel
theorem dX4_leastIn_45 : decode cX4_leastIn 45 = .ok (.iinc 3 1, 3) := by decide +kernel
theorem dX4_leastIn_48 : decode cX4_leastIn 48 = .ok (.goto (-38), 3) := by decide +kernel
theorem dX4_leastIn_51 : decode cX4_leastIn 51 = .ok (.iconst (-1), 1) := by decide +kernel
theorem dX4_leastIn_52 : decode cX4_leastIn 52 = .ok (.ireturn, 1) := by decide +kernel
set_option maxRecDepth 20000 in
theorem ggX4_leastActsIn_X4_isJar : GoodIn wsX4_leastActsIn wsX4_isJar := goodIn_r _ [6, 7, 8, 9, 5, 10, 68, 69, 70, 71, 72, 73, 74, 75, 76, 77, 78, 79, 80, 81, 82, 83, 84, 85] (by decide +kernel) (by decide +kernel)
set_option maxRecDepth 20000 in
theorem gX4_leastActsIn_X4_isJar : GoodIn wsX4_leastActsIn (wsV RX4 118 RX4 yX4_isJar wsX4_isJar) := goodIn_app (goodIn_of _ (by decide +kernel)) ggX4_leastActsIn_X4_isJar
set_option maxRecDepth 20000 in
theorem ggX4_leastActsIn_X4_no : GoodIn wsX4_leastActsIn wsX4_no := goodIn_r _ [14, 1, 68, 69, 70, 71, 72, 73, 74, 75, 76, 77, 78, 79, 80, 81, 82, 83, 84, 85] (by decide +kernel) (by decide +kernel)
set_option maxRecDepth 20000 in
theorem gX4_leastActsIn_X4_no : GoodIn wsX4_leastActsIn (wsV RX4 115 RX4 yX4_no wsX4_no) := goodIn_app (goodIn_of _ (by decide +kernel)) ggX4_leastActsIn_X4_no
set_option maxRecDepth 20000 in
theorem ggX4_leastActsIn_X4_isAmount : GoodIn wsX4_leastActsIn wsX4_isAmount := goodIn_r _ [17, 8, 9, 5, 10] (by decide +kernel) (by decide +kernel)
set_option maxRecDepth 20000 in
theorem gX4_leastActsIn_X4_isAmount : GoodIn wsX4_leastActsIn (va_wsS RX4 112 yX4_isAmount wsX4_isAmount) := goodIn_app (goodIn_of _ (by decide +kernel)) ggX4_leastActsIn_X4_isAmount
set_option maxRecDepth 20000 in
theorem ggX4_leastActsIn_X4_leastIn : GoodIn wsX4_leastActsIn wsX4_leastIn := goodIn_r _ [21, 22, 23, 24, 25, 26, 27, 5, 28, 29, 30, 31, 32, 33, 34, 35, 36, 37, 38, 39, 40, 41, 7, 42, 43, 44, 45, 46, 47, 48, 49, 50, 51, 52, 53, 54, 55, 56, 57, 58, 59, 60, 61, 62, 63, 64, 65, 66, 67, 68, 69, 70, 71, 72, 73, 74, 75, 76, 77, 78, 79, 80, 81, 82, 83, 84, 85] (by decide +kernel) (by decide +kernel)
set_option maxRecDepth 20000 in
theorem gX4_leastActsIn_X4_leastIn : GoodIn wsX4_leastActsIn (wsV RX4 164 RX4 yX4_leastIn wsX4_leastIn) := goodIn_app (goodIn_of _ (by decide +kernel)) ggX4_leastActsIn_X4_leastIn
theorem dX4_leastActsIn_0 : decode cX4_leastActsIn 0 = .ok (.aload_n 0, 1) := by decide +kernel
theorem dX4_leastActsIn_1 : decode cX4_leastActsIn 1 = .ok (.iconst 0, 1) := by decide +kernel
theorem dX4_leastActsIn_2 : decode cX4_leastActsIn 2 = .ok (.putfield 42, 3) := by decide +kernel
theorem dX4_leastActsIn_5 : decode cX4_leastActsIn 5 = .ok (.aload_n 0, 1) := by decide +kernel
theorem dX4_leastActsIn_6 : decode cX4_leastActsIn 6 = .ok (.iload_n 1, 1) := by decide +kernel
theorem dX4_leastActsIn_7 : decode cX4_leastActsIn 7 = .ok (.invokevirtual 118, 3) := by decide +kernel
theorem dX4_leastActsIn_10 : decode cX4_leastActsIn 10 = .ok (.ifCond .ne 9, 3) := by decide +kernel
theorem dX4_leastActsIn_13 : decode cX4_leastActsIn 13 = .ok (.aload_n 0, 1) := by decide +kernel
theorem dX4_leastActsIn_14 : decode cX4_leastActsIn 14 = .ok (.iconst 1, 1) := by decide +kernel
theorem dX4_leastActsIn_15 : decode cX4_leastActsIn 15 = .ok (.invokevirtual 115, 3) := by decide +kernel
theorem dX4_leastActsIn_18 : decode cX4_leastActsIn 18 = .ok (.ireturn, 1) := by decide +kernel
theorem dX4_leastActsIn_19 : decode cX4_leastActsIn 19 = .ok (.iload_n 2, 1) := by decide +kernel
theorem dX4_leastActsIn_20 : decode cX4_leastActsIn 20 = .ok (.invokestatic 112, 3) := by decide +kernel
theorem dX4_leastActsIn_23 : decode cX4_leastActsIn 23 = .ok (.ifCond .eq 12, 3) := by decide +kernel
theorem dX4_leastActsIn_26 : decode cX4_leastActsIn 26 = .ok (.aload_n 0, 1) := by decide +kernel
theorem dX4_leastActsIn_27 : decode cX4_leastActsIn 27 = .ok (.iload_n 1, 1) := by decide +kernel
theorem dX4_leastActsIn_28 : decode cX4_leastActsIn 28 = .ok (.iload_n 2, 1) := by decide +kernel
theorem dX4_leastActsIn_29 : decode cX4_leastActsIn 29 = .ok (.invokevirtual 164, 3) := by decide +kernel
theorem dX4_leastActsIn_32 : decode cX4_leastActsIn 32 = .ok (.goto 8, 3) := by decide +kernel
theorem dX4_leastActsIn_35 : decode cX4_leastActsIn 35 = .ok (.aload_n 0, 1) := by decide +kernel
theorem dX4_leastActsIn_36 : decode cX4_leastActsIn 36 = .ok (.iconst 2, 1) := by decide +kernel
theorem dX4_leastActsIn_37 : decode cX4_leastActsIn 37 = .ok (.invokevirtual 115, 3) := by decide +kernel
theorem dX4_leastActsIn_40 : decode cX4_leastActsIn 40 = .ok (.ireturn, 1) := by decide +kernel
set_option maxRecDepth 20000 in
theorem ggX4_nextAct_X4_isAmount : GoodIn wsX4_nextAct wsX4_isAmount := goodIn_r _ [5, 6, 7, 4, 8] (by decide +kernel) (by decide +kernel)
set_option maxRecDepth 20000 in
theorem gX4_nextAct_X4_isAmount : GoodIn wsX4_nextAct (va_wsS RX4 112 yX4_isAmount wsX4_isAmount) := goodIn_app (goodIn_of _ (by decide +kernel)) ggX4_nextAct_X4_isAmount
set_option maxRecDepth 20000 in
theorem ggX4_nextAct_X4_no : GoodIn wsX4_nextAct wsX4_no := goodIn_r _ [12, 1, 72, 73, 74, 75, 76, 77, 78, 79, 80, 81, 82, 83, 84, 85, 86, 87, 88, 89] (by decide +kernel) (by decide +kernel)
set_option maxRecDepth 20000 in
theorem gX4_nextAct_X4_no : GoodIn wsX4_nextAct (wsV RX4 115 RX4 yX4_no wsX4_no) := goodIn_app (goodIn_of _ (by decide +kernel)) ggX4_nextAct_X4_no
set_option maxRecDepth 20000 in
theorem ggX4_nextAct_X4_state : GoodIn wsX4_nextAct wsX4_state := goodIn_r _ [16, 17, 72, 73, 74, 75, 76, 77, 78, 79, 80, 81, 82, 83, 84, 85, 86, 87, 88, 89] (by decide +kernel) (by decide +kernel)
set_option maxRecDepth 20000 in
theorem gX4_nextAct_X4_state : GoodIn wsX4_nextAct (wsV RX4 84 RX4 yX4_state wsX4_state) := goodIn_app (goodIn_of _ (by decide +kernel)) ggX4_nextAct_X4_state
set_option maxRecDepth 20000 in
theorem ggX4_nextAct_X4_leastFrom : GoodIn wsX4_nextAct wsX4_leastFrom := goodIn_r _ [21, 22, 23, 24, 25, 26, 27, 4, 28, 29, 30, 31, 32, 33, 34, 35, 36, 37, 38, 39, 40, 41, 42, 43, 44, 45, 46, 47, 48, 49, 50, 51, 52, 53, 54, 55, 56, 57, 58, 59, 60, 61, 62, 63, 64, 65, 66, 67, 72, 73, 74, 75, 76, 77, 78, 79, 80, 81, 82, 83, 84, 85, 86, 87, 88, 89] (by decide +kernel) (by decide +kernel)
set_option maxRecDepth 20000 in
theorem gX4_nextAct_X4_leastFrom : GoodIn wsX4_nextAct (wsV RX4 146 RX4 yX4_leastFrom wsX4_leastFrom) := goodIn_app (goodIn_of _ (by decide +kernel)) ggX4_nextAct_X4_leastFrom
set_option maxRecDepth 20000 in
theorem ggX4_nextAct_X4_firstAct : GoodIn wsX4_nextAct wsX4_firstAct := goodIn_r _ [71, 33, 34, 35, 4, 36, 37, 13, 14, 15, 16, 17, 38, 39, 40, 41, 42, 43, 44, 45, 46, 47, 48, 49, 50, 51, 52, 53, 54, 55, 56, 57, 58, 59, 18, 19, 20, 21, 22, 23, 24, 25, 26, 27, 28, 29, 30, 31, 32, 60, 61, 62, 63, 64, 65, 66, 67, 72, 73, 74, 75, 76, 77, 78, 79, 80, 81, 82, 83, 84, 85, 86, 87, 88, 89] (by decide +kernel) (by decide +kernel)
set_option maxRecDepth 20000 in
theorem gX4_nextAct_X4_firstAct : GoodIn wsX4_nextAct (wsV RX4 149 RX4 yX4_firstAct wsX4_firstAct) := goodIn_app (goodIn_of _ (by decide +kernel)) ggX4_nextAct_X4_firstAct
theorem dX4_nextAct_0 : decode cX4_nextAct 0 = .ok (.aload_n 0, 1) := by decide +kernel
theorem dX4_nextAct_1 : decode cX4_nextAct 1 = .ok (.iconst 0, 1) := by decide +kernel
theorem dX4_nextAct_2 : decode cX4_nextAct 2 = .ok (.putfield 42, 3) := by decide +kernel
theorem dX4_nextAct_5 : decode cX4_nextAct 5 = .ok (.iload_n 1, 1) := by decide +kernel
theorem dX4_nextAct_6 : decode cX4_nextAct 6 = .ok (.invokestatic 112, 3) := by decide +kernel
theorem dX4_nextAct_9 : decode cX4_nextAct 9 = .ok (.ifCond .ne 9, 3) := by decide +kernel
theorem dX4_nextAct_12 : decode cX4_nextAct 12 = .ok (.aload_n 0, 1) := by decide +kernel
theorem dX4_nextAct_13 : decode cX4_nextAct 13 = .ok (.iconst 1, 1) := by decide +kernel
theorem dX4_nextAct_14 : decode cX4_nextAct 14 = .ok (.invokevirtual 115, 3) := by decide +kernel
theorem dX4_nextAct_17 : decode cX4_nextAct 17 = .ok (.ireturn, 1) := by decide +kernel
theorem dX4_nextAct_18 : decode cX4_nextAct 18 = .ok (.aload_n 0, 1) := by decide +kernel
theorem dX4_nextAct_19 : decode cX4_nextAct 19 = .ok (.aload_n 0, 1) := by decide +kernel
theorem dX4_nextAct_20 : decode cX4_nextAct 20 = .ok (.invokevirtual 84, 3) := by decide +kernel
theorem dX4_nextAct_23 : decode cX4_nextAct 23 = .ok (.iload_n 1, 1) := by decide +kernel
theorem dX4_nextAct_24 : decode cX4_nextAct 24 = .ok (.invokevirtual 146, 3) := by decide +kernel
theorem dX4_nextAct_27 : decode cX4_nextAct 27 = .ok (.istore_n 2, 1) := by decide +kernel
theorem dX4_nextAct_28 : decode cX4_nextAct 28 = .ok (.iload_n 2, 1) := by decide +kernel
theorem dX4_nextAct_29 : decode cX4_nextAct 29 = .ok (.iconst 1, 1) := by decide +kernel
theorem dX4_nextAct_30 : decode cX4_nextAct 30 = .ok (.if_icmp .ge 11, 3) := by decide +kernel
theorem dX4_nextAct_33 : decode cX4_nextAct 33 = .ok (.aload_n 0, 1) := by decide +kernel
theorem dX4_nextAct_34 : decode cX4_nextAct 34 = .ok (.iconst 2, 1) := by decide +kernel
theorem dX4_nextAct_35 : decode cX4_nextAct 35 = .ok (.invokevirtual 115, 3) := by decide +kernel
theorem dX4_nextAct_38 : decode cX4_nextAct 38 = .ok (.goto 9, 3) := by decide +kernel
theorem dX4_nextAct_41 : decode cX4_nextAct 41 = .ok (.aload_n 0, 1) := by decide +kernel
theorem dX4_nextAct_42 : decode cX4_nextAct 42 = .ok (.iload_n 1, 1) := by decide +kernel
theorem dX4_nextAct_43 : decode cX4_nextAct 43 = .ok (.iload_n 2, 1) := by decide +kernel
theorem dX4_nextAct_44 : decode cX4_nextAct 44 = .ok (.invokevirtual 149, 3) := by decide +kernel
theorem dX4_nextAct_47 : decode cX4_nextAct 47 = .ok (.ireturn, 1) := by decide +kernel
set_option maxRecDepth 20000 in
theorem ggX4_toHave_X4_state : GoodIn wsX4_toHave wsX4_state := goodIn_r _ [5, 6, 57, 58, 59, 60, 61, 62, 63, 64, 65, 66, 67, 68, 69, 70, 71, 72, 73, 74] (by decide +kernel) (by decide +kernel)
set_option maxRecDepth 20000 in
theorem gX4_toHave_X4_state : GoodIn wsX4_toHave (wsV RX4 84 RX4 yX4_state wsX4_state) := goodIn_app (goodIn_of _ (by decide +kernel)) ggX4_toHave_X4_state
set_option maxRecDepth 20000 in
theorem ggX4_toHave_X4_leastFrom : GoodIn wsX4_toHave wsX4_leastFrom := goodIn_r _ [10, 11, 12, 13, 14, 15, 16, 4, 17, 18, 19, 20, 21, 22, 23, 24, 25, 26, 27, 28, 29, 30, 31, 32, 33, 34, 35, 36, 37, 38, 39, 40, 41, 42, 43, 44, 45, 46, 47, 48, 49, 50, 51, 52, 53, 54, 55, 56, 57, 58, 59, 60, 61, 62, 63, 64, 65, 66, 67, 68, 69, 70, 71, 72, 73, 74] (by decide +kernel) (by decide +kernel)
set_option maxRecDepth 20000 in
theorem gX4_toHave_X4_leastFrom : GoodIn wsX4_toHave (wsV RX4 146 RX4 yX4_leastFrom wsX4_leastFrom) := goodIn_app (goodIn_of _ (by decide +kernel)) ggX4_toHave_X4_leastFrom
theorem dX4_toHave_0 : decode cX4_toHave 0 = .ok (.iconst 0, 1) := by decide +kernel
theorem dX4_toHave_1 : decode cX4_toHave 1 = .ok (.istore_n 1, 1) := by decide +kernel
theorem dX4_toHave_2 : decode cX4_toHave 2 = .ok (.iconst 0, 1) := by decide +kernel
theorem dX4_toHave_3 : decode cX4_toHave 3 = .ok (.istore_n 2, 1) := by decide +kernel
theorem dX4_toHave_4 : decode cX4_toHave 4 = .ok (.iload_n 2, 1) := by decide +kernel
theorem dX4_toHave_5 : decode cX4_toHave 5 = .ok (.bipush 10, 2) := by decide +kernel
theorem dX4_toHave_7 : decode cX4_toHave 7 = .ok (.if_icmp .ge 30, 3) := by decide +kernel
theorem dX4_toHave_10 : decode cX4_toHave 10 = .ok (.iload_n 1, 1) := by decide +kernel
theorem dX4_toHave_11 : decode cX4_toHave 11 = .ok (.aload_n 0, 1) := by decide +kernel
theorem dX4_toHave_12 : decode cX4_toHave 12 = .ok (.aload_n 0, 1) := by decide +kernel
theorem dX4_toHave_13 : decode cX4_toHave 13 = .ok (.invokevirtual 84, 3) := by decide +kernel
theorem dX4_toHave_16 : decode cX4_toHave 16 = .ok (.iload_n 2, 1) := by decide +kernel
theorem dX4_toHave_17 : decode cX4_toHave 17 = .ok (.invokevirtual 146, 3) := by decide +kernel
theorem dX4_toHave_20 : decode cX4_toHave 20 = .ok (.iconst (-1), 1) := by decide +kernel
theorem dX4_toHave_21 : decode cX4_toHave 21 = .ok (.if_icmp .ne 7, 3) := by decide +kernel
theorem dX4_toHave_24 : decode cX4_toHave 24 = .ok (.iconst 0, 1) := by decide +kernel
theorem dX4_toHave_25 : decode cX4_toHave 25 = .ok (.goto 4, 3) := by decide +kernel
theorem dX4_toHave_28 : decode cX4_toHave 28 = .ok (.iconst 1, 1) := by decide +kernel
theorem dX4_toHave_29 : decode cX4_toHave 29 = .ok (.iadd, 1) := by decide +kernel
theorem dX4_toHave_30 : decode cX4_toHave 30 = .ok (.istore_n 1, 1) := by decide +kernel
theorem dX4_toHave_31 : decode cX4_toHave 31 = .ok (.iinc 2 1, 3) := by decide +kernel
theorem dX4_toHave_34 : decode cX4_toHave 34 = .ok (.goto (-30), 3) := by decide +kernel
theorem dX4_toHave_37 : decode cX4_toHave 37 = .ok (.iload_n 1, 1) := by decide +kernel
theorem dX4_toHave_38 : decode cX4_toHave 38 = .ok (.ireturn, 1) := by decide +kernel
set_option maxRecDepth 20000 in
theorem ggX4_amountsToHave_X4_toHave : GoodIn wsX4_amountsToHave wsX4_toHave := goodIn_r _ [5, 6, 7, 8, 4, 9, 10, 11, 12, 13, 14, 15, 16, 17, 18, 19, 20, 21, 22, 23, 24, 25, 26, 27, 28, 29, 30, 31, 32, 33, 34, 35, 36, 37, 38, 39, 40, 41, 42, 43, 44, 45, 46, 47, 48, 49, 50, 51, 52, 53, 54, 55, 56, 57, 58, 59, 60, 66, 67, 68, 69, 70, 71, 72, 73, 74, 75, 76, 77, 78, 79, 80, 81, 82, 83] (by decide +kernel) (by decide +kernel)
set_option maxRecDepth 20000 in
theorem gX4_amountsToHave_X4_toHave : GoodIn wsX4_amountsToHave (wsV RX4 167 RX4 yX4_toHave wsX4_toHave) := goodIn_app (goodIn_of _ (by decide +kernel)) ggX4_amountsToHave_X4_toHave
set_option maxRecDepth 20000 in
theorem ggX4_amountsToHave_X4_ok : GoodIn wsX4_amountsToHave wsX4_ok := goodIn_r _ [64, 65, 66, 67, 68, 69, 70, 71, 72, 73, 74, 75, 76, 77, 78, 79, 80, 81, 82, 83] (by decide +kernel) (by decide +kernel)
set_option maxRecDepth 20000 in
theorem gX4_amountsToHave_X4_ok : GoodIn wsX4_amountsToHave (wsV RX4 155 RX4 yX4_ok wsX4_ok) := goodIn_app (goodIn_of _ (by decide +kernel)) ggX4_amountsToHave_X4_ok
theorem dX4_amountsToHave_0 : decode cX4_amountsToHave 0 = .ok (.aload_n 0, 1) := by decide +kernel
theorem dX4_amountsToHave_1 : decode cX4_amountsToHave 1 = .ok (.aload_n 0, 1) := by decide +kernel
theorem dX4_amountsToHave_2 : decode cX4_amountsToHave 2 = .ok (.invokevirtual 167, 3) := by decide +kernel
theorem dX4_amountsToHave_5 : decode cX4_amountsToHave 5 = .ok (.invokevirtual 155, 3) := by decide +kernel
theorem dX4_amountsToHave_8 : decode cX4_amountsToHave 8 = .ok (.ireturn, 1) := by decide +kernel
set_option maxRecDepth 20000 in
theorem ggX4_toReach_X4_state : GoodIn wsX4_toReach wsX4_state := goodIn_r _ [6, 7, 45, 46, 47, 48, 49, 50, 51, 52, 53, 54, 55, 56, 57, 58, 59, 60, 61, 62] (by decide +kernel) (by decide +kernel)
set_option maxRecDepth 20000 in
theorem gX4_toReach_X4_state : GoodIn wsX4_toReach (wsV RX4 84 RX4 yX4_state wsX4_state) := goodIn_app (goodIn_of _ (by decide +kernel)) ggX4_toReach_X4_state
set_option maxRecDepth 20000 in
theorem ggX4_toReach_X4_spread : GoodIn wsX4_toReach wsX4_spread := goodIn_r _ [11, 12, 1, 13, 14, 15, 16, 5, 17, 18, 19, 20, 21, 22, 23, 24, 25, 26, 27, 28, 29, 30, 31, 32, 33, 34, 35, 36, 37, 38, 39, 40, 41, 42, 43, 44, 45, 46, 47, 48, 49, 50, 51, 52, 53, 54, 55, 56, 57, 58, 59, 60, 61, 62] (by decide +kernel) (by decide +kernel)
set_option maxRecDepth 20000 in
theorem gX4_toReach_X4_spread : GoodIn wsX4_toReach (wsV RX4 139 RX4 yX4_spread wsX4_spread) := goodIn_app (goodIn_of _ (by decide +kernel)) ggX4_toReach_X4_spread
theorem dX4_toReach_0 : decode cX4_toReach 0 = .ok (.aload_n 0, 1) := by decide +kernel
theorem dX4_toReach_1 : decode cX4_toReach 1 = .ok (.aload_n 0, 1) := by decide +kernel
theorem dX4_toReach_2 : decode cX4_toReach 2 = .ok (.invokevirtual 84, 3) := by decide +kernel
theorem dX4_toReach_5 : decode cX4_toReach 5 = .ok (.invokevirtual 139, 3) := by decide +kernel
theorem dX4_toReach_8 : decode cX4_toReach 8 = .ok (.aload_n 0, 1) := by decide +kernel
theorem dX4_toReach_9 : decode cX4_toReach 9 = .ok (.getfield 124, 3) := by decide +kernel
theorem dX4_toReach_12 : decode cX4_toReach 12 = .ok (.ireturn, 1) := by decide +kernel
set_option maxRecDepth 20000 in
theorem ggX4_statesToReach_X4_toReach : GoodIn wsX4_statesToReach wsX4_toReach := goodIn_r _ [5, 6, 7, 8, 9, 4, 10, 11, 12, 13, 14, 15, 16, 17, 18, 19, 20, 21, 22, 23, 24, 25, 26, 27, 28, 29, 30, 31, 32, 33, 34, 35, 36, 37, 38, 39, 40, 41, 42, 43, 44, 45, 46, 47, 48, 54, 55, 56, 57, 58, 59, 60, 61, 62, 63, 64, 65, 66, 67, 68, 69, 70, 71] (by decide +kernel) (by decide +kernel)
set_option maxRecDepth 20000 in
theorem gX4_statesToReach_X4_toReach : GoodIn wsX4_statesToReach (wsV RX4 170 RX4 yX4_toReach wsX4_toReach) := goodIn_app (goodIn_of _ (by decide +kernel)) ggX4_statesToReach_X4_toReach
set_option maxRecDepth 20000 in
theorem ggX4_statesToReach_X4_ok : GoodIn wsX4_statesToReach wsX4_ok := goodIn_r _ [52, 53, 54, 55, 56, 57, 58, 59, 60, 61, 62, 63, 64, 65, 66, 67, 68, 69, 70, 71] (by decide +kernel) (by decide +kernel)
set_option maxRecDepth 20000 in
theorem gX4_statesToReach_X4_ok : GoodIn wsX4_statesToReach (wsV RX4 155 RX4 yX4_ok wsX4_ok) := goodIn_app (goodIn_of _ (by decide +kernel)) ggX4_statesToReach_X4_ok
theorem dX4_statesToReach_0 : decode cX4_statesToReach 0 = .ok (.aload_n 0, 1) := by decide +kernel
theorem dX4_statesToReach_1 : decode cX4_statesToReach 1 = .ok (.aload_n 0, 1) := by decide +kernel
theorem dX4_statesToReach_2 : decode cX4_statesToReach 2 = .ok (.invokevirtual 170, 3) := by decide +kernel
theorem dX4_statesToReach_5 : decode cX4_statesToReach 5 = .ok (.invokevirtual 155, 3) := by decide +kernel
theorem dX4_statesToReach_8 : decode cX4_statesToReach 8 = .ok (.ireturn, 1) := by decide +kernel
set_option maxRecDepth 20000 in
theorem ggX4_away_X4_state : GoodIn wsX4_away wsX4_state := goodIn_r _ [8, 9, 45, 46, 47, 48, 49, 50, 51, 52, 53, 54, 55, 56, 57, 58, 59, 60, 61, 62] (by decide +kernel) (by decide +kernel)
set_option maxRecDepth 20000 in
theorem gX4_away_X4_state : GoodIn wsX4_away (wsV RX4 84 RX4 yX4_state wsX4_state) := goodIn_app (goodIn_of _ (by decide +kernel)) ggX4_away_X4_state
set_option maxRecDepth 20000 in
theorem ggX4_away_X4_spread : GoodIn wsX4_away wsX4_spread := goodIn_r _ [13, 2, 1, 3, 14, 15, 16, 7, 17, 18, 19, 20, 21, 22, 23, 24, 25, 26, 27, 28, 29, 30, 31, 32, 33, 34, 35, 36, 37, 38, 39, 40, 41, 42, 43, 44, 45, 46, 47, 48, 49, 50, 51, 52, 53, 54, 55, 56, 57, 58, 59, 60, 61, 62] (by decide +kernel) (by decide +kernel)
set_option maxRecDepth 20000 in
theorem gX4_away_X4_spread : GoodIn wsX4_away (wsV RX4 139 RX4 yX4_spread wsX4_spread) := goodIn_app (goodIn_of _ (by decide +kernel)) ggX4_away_X4_spread
theorem dX4_away_0 : decode cX4_away 0 = .ok (.aload_n 0, 1) := by decide +kernel
theorem dX4_away_1 : decode cX4_away 1 = .ok (.aload_n 0, 1) := by decide +kernel
theorem dX4_away_2 : decode cX4_away 2 = .ok (.invokevirtual 84, 3) := by decide +kernel
theorem dX4_away_5 : decode cX4_away 5 = .ok (.invokevirtual 139, 3) := by decide +kernel
theorem dX4_away_8 : decode cX4_away 8 = .ok (.iconst 0, 1) := by decide +kernel
theorem dX4_away_9 : decode cX4_away 9 = .ok (.istore_n 2, 1) := by decide +kernel
theorem dX4_away_10 : decode cX4_away 10 = .ok (.iconst 0, 1) := by decide +kernel
theorem dX4_away_11 : decode cX4_away 11 = .ok (.istore_n 3, 1) := by decide +kernel
theorem dX4_away_12 : decode cX4_away 12 = .ok (.iload_n 3, 1) := by decide +kernel
theorem dX4_away_13 : decode cX4_away 13 = .ok (.aload_n 0, 1) := by decide +kernel
theorem dX4_away_14 : decode cX4_away 14 = .ok (.getfield 124, 3) := by decide +kernel
theorem dX4_away_17 : decode cX4_away 17 = .ok (.if_icmp .ge 32, 3) := by decide +kernel
theorem dX4_away_20 : decode cX4_away 20 = .ok (.iload_n 2, 1) := by decide +kernel
theorem dX4_away_21 : decode cX4_away 21 = .ok (.aload_n 0, 1) := by decide +kernel
theorem dX4_away_22 : decode cX4_away 22 = .ok (.getfield 23, 3) := by decide +kernel
theorem dX4_away_25 : decode cX4_away 25 = .ok (.aload_n 0, 1) := by decide +kernel
theorem dX4_away_26 : decode cX4_away 26 = .ok (.getfield 26, 3) := by decide +kernel
theorem dX4_away_29 : decode cX4_away 29 = .ok (.iload_n 3, 1) := by decide +kernel
theorem dX4_away_30 : decode cX4_away 30 = .ok (.iaload, 1) := by decide +kernel
theorem dX4_away_31 : decode cX4_away 31 = .ok (.iaload, 1) := by decide +kernel
theorem dX4_away_32 : decode cX4_away 32 = .ok (.iload_n 1, 1) := by decide +kernel
theorem dX4_away_33 : decode cX4_away 33 = .ok (.if_icmp .ne 7, 3) := by decide +kernel
theorem dX4_away_36 : decode cX4_away 36 = .ok (.iconst 1, 1) := by decide +kernel
theorem dX4_away_37 : decode cX4_away 37 = .ok (.goto 4, 3) := by decide +kernel
theorem dX4_away_40 : decode cX4_away 40 = .ok (.iconst 0, 1) := by decide +kernel
theorem dX4_away_41 : decode cX4_away 41 = .ok (.iadd, 1) := by decide +kernel
theorem dX4_away_42 : decode cX4_away 42 = .ok (.istore_n 2, 1) := by decide +kernel
theorem dX4_away_43 : decode cX4_away 43 = .ok (.iinc 3 1, 3) := by decide +kernel
theorem dX4_away_46 : decode cX4_away 46 = .ok (.goto (-34), 3) := by decide +kernel
theorem dX4_away_49 : decode cX4_away 49 = .ok (.iload_n 2, 1) := by decide +kernel
theorem dX4_away_50 : decode cX4_away 50 = .ok (.ireturn, 1) := by decide +kernel
set_option maxRecDepth 20000 in
theorem ggX4_statesAway_X4_isIn : GoodIn wsX4_statesAway wsX4_isIn := goodIn_r _ [5] (by decide +kernel) (by decide +kernel)
set_option maxRecDepth 20000 in
theorem gX4_statesAway_X4_isIn : GoodIn wsX4_statesAway (va_wsS RX4 49 yX4_isIn wsX4_isIn) := goodIn_app (goodIn_of _ (by decide +kernel)) ggX4_statesAway_X4_isIn
set_option maxRecDepth 20000 in
theorem ggX4_statesAway_X4_away : GoodIn wsX4_statesAway wsX4_away := goodIn_r _ [9, 10, 11, 12, 13, 14, 15, 4, 16, 17, 18, 19, 20, 21, 22, 23, 24, 25, 26, 27, 28, 29, 30, 31, 32, 33, 34, 35, 36, 37, 38, 39, 40, 41, 42, 43, 44, 45, 46, 47, 48, 49, 50, 51, 52, 57, 58, 59, 60, 61, 62, 63, 64, 65, 66, 67, 68, 69, 70, 71, 72, 73, 74] (by decide +kernel) (by decide +kernel)
set_option maxRecDepth 20000 in
theorem gX4_statesAway_X4_away : GoodIn wsX4_statesAway (wsV RX4 173 RX4 yX4_away wsX4_away) := goodIn_app (goodIn_of _ (by decide +kernel)) ggX4_statesAway_X4_away
set_option maxRecDepth 20000 in
theorem ggX4_statesAway_X4_no : GoodIn wsX4_statesAway wsX4_no := goodIn_r _ [56, 1, 57, 58, 59, 60, 61, 62, 63, 64, 65, 66, 67, 68, 69, 70, 71, 72, 73, 74] (by decide +kernel) (by decide +kernel)
set_option maxRecDepth 20000 in
theorem gX4_statesAway_X4_no : GoodIn wsX4_statesAway (wsV RX4 115 RX4 yX4_no wsX4_no) := goodIn_app (goodIn_of _ (by decide +kernel)) ggX4_statesAway_X4_no
theorem dX4_statesAway_0 : decode cX4_statesAway 0 = .ok (.aload_n 0, 1) := by decide +kernel
theorem dX4_statesAway_1 : decode cX4_statesAway 1 = .ok (.iconst 0, 1) := by decide +kernel
theorem dX4_statesAway_2 : decode cX4_statesAway 2 = .ok (.putfield 42, 3) := by decide +kernel
theorem dX4_statesAway_5 : decode cX4_statesAway 5 = .ok (.iload_n 1, 1) := by decide +kernel
theorem dX4_statesAway_6 : decode cX4_statesAway 6 = .ok (.iconst 0, 1) := by decide +kernel
theorem dX4_statesAway_7 : decode cX4_statesAway 7 = .ok (.bipush 50, 2) := by decide +kernel
theorem dX4_statesAway_9 : decode cX4_statesAway 9 = .ok (.invokestatic 49, 3) := by decide +kernel
theorem dX4_statesAway_12 : decode cX4_statesAway 12 = .ok (.ifCond .eq 11, 3) := by decide +kernel
theorem dX4_statesAway_15 : decode cX4_statesAway 15 = .ok (.aload_n 0, 1) := by decide +kernel
theorem dX4_statesAway_16 : decode cX4_statesAway 16 = .ok (.iload_n 1, 1) := by decide +kernel
theorem dX4_statesAway_17 : decode cX4_statesAway 17 = .ok (.invokevirtual 173, 3) := by decide +kernel
theorem dX4_statesAway_20 : decode cX4_statesAway 20 = .ok (.goto 8, 3) := by decide +kernel
theorem dX4_statesAway_23 : decode cX4_statesAway 23 = .ok (.aload_n 0, 1) := by decide +kernel
theorem dX4_statesAway_24 : decode cX4_statesAway 24 = .ok (.iconst 1, 1) := by decide +kernel
theorem dX4_statesAway_25 : decode cX4_statesAway 25 = .ok (.invokevirtual 115, 3) := by decide +kernel
theorem dX4_statesAway_28 : decode cX4_statesAway 28 = .ok (.ireturn, 1) := by decide +kernel
set_option maxRecDepth 20000 in
theorem ggX4_farthestOne_X4_state : GoodIn wsX4_farthestOne wsX4_state := goodIn_r _ [8, 9, 45, 46, 47, 48, 49, 50, 51, 52, 53, 54, 55, 56, 57, 58, 59, 60, 61, 62] (by decide +kernel) (by decide +kernel)
set_option maxRecDepth 20000 in
theorem gX4_farthestOne_X4_state : GoodIn wsX4_farthestOne (wsV RX4 84 RX4 yX4_state wsX4_state) := goodIn_app (goodIn_of _ (by decide +kernel)) ggX4_farthestOne_X4_state
set_option maxRecDepth 20000 in
theorem ggX4_farthestOne_X4_spread : GoodIn wsX4_farthestOne wsX4_spread := goodIn_r _ [13, 1, 3, 2, 14, 15, 16, 7, 17, 18, 19, 20, 21, 22, 23, 24, 25, 26, 27, 28, 29, 30, 31, 32, 33, 34, 35, 36, 37, 38, 39, 40, 41, 42, 43, 44, 45, 46, 47, 48, 49, 50, 51, 52, 53, 54, 55, 56, 57, 58, 59, 60, 61, 62] (by decide +kernel) (by decide +kernel)
set_option maxRecDepth 20000 in
theorem gX4_farthestOne_X4_spread : GoodIn wsX4_farthestOne (wsV RX4 139 RX4 yX4_spread wsX4_spread) := goodIn_app (goodIn_of _ (by decide +kernel)) ggX4_farthestOne_X4_spread
theorem dX4_farthestOne_0 : decode cX4_farthestOne 0 = .ok (.aload_n 0, 1) := by decide +kernel
theorem dX4_farthestOne_1 : decode cX4_farthestOne 1 = .ok (.aload_n 0, 1) := by decide +kernel
theorem dX4_farthestOne_2 : decode cX4_farthestOne 2 = .ok (.invokevirtual 84, 3) := by decide +kernel
theorem dX4_farthestOne_5 : decode cX4_farthestOne 5 = .ok (.invokevirtual 139, 3) := by decide +kernel
theorem dX4_farthestOne_8 : decode cX4_farthestOne 8 = .ok (.aload_n 0, 1) := by decide +kernel
theorem dX4_farthestOne_9 : decode cX4_farthestOne 9 = .ok (.getfield 23, 3) := by decide +kernel
theorem dX4_farthestOne_12 : decode cX4_farthestOne 12 = .ok (.aload_n 0, 1) := by decide +kernel
theorem dX4_farthestOne_13 : decode cX4_farthestOne 13 = .ok (.getfield 26, 3) := by decide +kernel
theorem dX4_farthestOne_16 : decode cX4_farthestOne 16 = .ok (.aload_n 0, 1) := by decide +kernel
theorem dX4_farthestOne_17 : decode cX4_farthestOne 17 = .ok (.getfield 124, 3) := by decide +kernel
theorem dX4_farthestOne_20 : decode cX4_farthestOne 20 = .ok (.iconst 1, 1) := by decide +kernel
theorem dX4_farthestOne_21 : decode cX4_farthestOne 21 = .ok (.isub, 1) := by decide +kernel
theorem dX4_farthestOne_22 : decode cX4_farthestOne 22 = .ok (.iaload, 1) := by decide +kernel
theorem dX4_farthestOne_23 : decode cX4_farthestOne 23 = .ok (.iaload, 1) := by decide +kernel
theorem dX4_farthestOne_24 : decode cX4_farthestOne 24 = .ok (.ireturn, 1) := by decide +kernel
set_option maxRecDepth 20000 in
theorem ggX4_farthest_X4_farthestOne : GoodIn wsX4_farthest wsX4_farthestOne := goodIn_r _ [5, 6, 7, 8, 9, 10, 11, 4, 12, 13, 14, 15, 16, 17, 18, 19, 20, 21, 22, 23, 24, 25, 26, 27, 28, 29, 30, 31, 32, 33, 34, 35, 36, 37, 38, 39, 40, 41, 42, 43, 44, 45, 46, 47, 48, 54, 55, 56, 57, 58, 59, 60, 61, 62, 63, 64, 65, 66, 67, 68, 69, 70, 71] (by decide +kernel) (by decide +kernel)
set_option maxRecDepth 20000 in
theorem gX4_farthest_X4_farthestOne : GoodIn wsX4_farthest (wsV RX4 176 RX4 yX4_farthestOne wsX4_farthestOne) := goodIn_app (goodIn_of _ (by decide +kernel)) ggX4_farthest_X4_farthestOne
set_option maxRecDepth 20000 in
theorem ggX4_farthest_X4_ok : GoodIn wsX4_farthest wsX4_ok := goodIn_r _ [52, 53, 54, 55, 56, 57, 58, 59, 60, 61, 62, 63, 64, 65, 66, 67, 68, 69, 70, 71] (by decide +kernel) (by decide +kernel)
set_option maxRecDepth 20000 in
theorem gX4_farthest_X4_ok : GoodIn wsX4_farthest (wsV RX4 155 RX4 yX4_ok wsX4_ok) := goodIn_app (goodIn_of _ (by decide +kernel)) ggX4_farthest_X4_ok
theorem dX4_farthest_0 : decode cX4_farthest 0 = .ok (.aload_n 0, 1) := by decide +kernel
theorem dX4_farthest_1 : decode cX4_farthest 1 = .ok (.aload_n 0, 1) := by decide +kernel
theorem dX4_farthest_2 : decode cX4_farthest 2 = .ok (.invokevirtual 176, 3) := by decide +kernel
theorem dX4_farthest_5 : decode cX4_farthest 5 = .ok (.invokevirtual 155, 3) := by decide +kernel
theorem dX4_farthest_8 : decode cX4_farthest 8 = .ok (.ireturn, 1) := by decide +kernel
theorem dX4_left_0 : decode cX4_left 0 = .ok (.iconst 0, 1) := by decide +kernel
theorem dX4_left_1 : decode cX4_left 1 = .ok (.istore_n 1, 1) := by decide +kernel
theorem dX4_left_2 : decode cX4_left 2 = .ok (.aload_n 0, 1) := by decide +kernel
theorem dX4_left_3 : decode cX4_left 3 = .ok (.getfield 16, 3) := by decide +kernel
theorem dX4_left_6 : decode cX4_left 6 = .ok (.astore_n 2, 1) := by decide +kernel
theorem dX4_left_7 : decode cX4_left 7 = .ok (.aload_n 2, 1) := by decide +kernel
theorem dX4_left_8 : decode cX4_left 8 = .ok (.arraylength, 1) := by decide +kernel
theorem dX4_left_9 : decode cX4_left 9 = .ok (.istore_n 3, 1) := by decide +kernel
theorem dX4_left_10 : decode cX4_left 10 = .ok (.iconst 0, 1) := by decide +kernel
theorem dX4_left_11 : decode cX4_left 11 = .ok (.istore 4, 2) := by decide +kernel
theorem dX4_left_13 : decode cX4_left 13 = .ok (.iload 4, 2) := by decide +kernel
theorem dX4_left_15 : decode cX4_left 15 = .ok (.iload_n 3, 1) := by decide +kernel
theorem dX4_left_16 : decode cX4_left 16 = .ok (.if_icmp .ge 28, 3) := by decide +kernel
theorem dX4_left_19 : decode cX4_left 19 = .ok (.aload_n 2, 1) := by decide +kernel
theorem dX4_left_20 : decode cX4_left 20 = .ok (.iload 4, 2) := by decide +kernel
theorem dX4_left_22 : decode cX4_left 22 = .ok (.baload, 1) := by decide +kernel
theorem dX4_left_23 : decode cX4_left 23 = .ok (.istore 5, 2) := by decide +kernel
theorem dX4_left_25 : decode cX4_left 25 = .ok (.iload_n 1, 1) := by decide +kernel
theorem dX4_left_26 : decode cX4_left 26 = .ok (.iload 5, 2) := by decide +kernel
theorem dX4_left_28 : decode cX4_left 28 = .ok (.ifCond .eq 7, 3) := by decide +kernel
theorem dX4_left_31 : decode cX4_left 31 = .ok (.iconst 1, 1) := by decide +kernel
theorem dX4_left_32 : decode cX4_left 32 = .ok (.goto 4, 3) := by decide +kernel
theorem dX4_left_35 : decode cX4_left 35 = .ok (.iconst 0, 1) := by decide +kernel
theorem dX4_left_36 : decode cX4_left 36 = .ok (.iadd, 1) := by decide +kernel
theorem dX4_left_37 : decode cX4_left 37 = .ok (.istore_n 1, 1) := by decide +kernel
theorem dX4_left_38 : decode cX4_left 38 = .ok (.iinc 4 1, 3) := by decide +kernel
theorem dX4_left_41 : decode cX4_left 41 = .ok (.goto (-28), 3) := by decide +kernel
theorem dX4_left_44 : decode cX4_left 44 = .ok (.iload_n 1, 1) := by decide +kernel
theorem dX4_left_45 : decode cX4_left 45 = .ok (.ireturn, 1) := by decide +kernel
set_option maxRecDepth 20000 in
theorem ggX4_candidates_X4_left : GoodIn wsX4_candidates wsX4_left := goodIn_r _ [5, 6, 12, 13, 14, 15, 16, 17, 18, 19, 20, 21, 22, 23, 24, 25, 26, 27, 28, 29] (by decide +kernel) (by decide +kernel)
set_option maxRecDepth 20000 in
theorem gX4_candidates_X4_left : GoodIn wsX4_candidates (wsV RX4 179 RX4 yX4_left wsX4_left) := goodIn_app (goodIn_of _ (by decide +kernel)) ggX4_candidates_X4_left
set_option maxRecDepth 20000 in
theorem ggX4_candidates_X4_ok : GoodIn wsX4_candidates wsX4_ok := goodIn_r _ [10, 11, 12, 13, 14, 15, 16, 17, 18, 19, 20, 21, 22, 23, 24, 25, 26, 27, 28, 29] (by decide +kernel) (by decide +kernel)
set_option maxRecDepth 20000 in
theorem gX4_candidates_X4_ok : GoodIn wsX4_candidates (wsV RX4 155 RX4 yX4_ok wsX4_ok) := goodIn_app (goodIn_of _ (by decide +kernel)) ggX4_candidates_X4_ok
theorem dX4_candidates_0 : decode cX4_candidates 0 = .ok (.aload_n 0, 1) := by decide +kernel
theorem dX4_candidates_1 : decode cX4_candidates 1 = .ok (.aload_n 0, 1) := by decide +kernel
theorem dX4_candidates_2 : decode cX4_candidates 2 = .ok (.invokevirtual 179, 3) := by decide +kernel
theorem dX4_candidates_5 : decode cX4_candidates 5 = .ok (.invokevirtual 155, 3) := by decide +kernel
theorem dX4_candidates_8 : decode cX4_candidates 8 = .ok (.ireturn, 1) := by decide +kernel
set_option maxRecDepth 20000 in
theorem ggX4_may_X4_figure : GoodIn wsX4_may wsX4_figure := goodIn_r _ [5] (by decide +kernel) (by decide +kernel)
set_option maxRecDepth 20000 in
theorem gX4_may_X4_figure : GoodIn wsX4_may (va_wsS RX4 53 yX4_figure wsX4_figure) := goodIn_app (goodIn_of _ (by decide +kernel)) ggX4_may_X4_figure
theorem dX4_may_0 : decode cX4_may 0 = .ok (.iconst 0, 1) := by decide +kernel
theorem dX4_may_1 : decode cX4_may 1 = .ok (.istore_n 3, 1) := by decide +kernel
theorem dX4_may_2 : decode cX4_may 2 = .ok (.iload_n 3, 1) := by decide +kernel
theorem dX4_may_3 : decode cX4_may 3 = .ok (.sipush 1000, 3) := by decide +kernel
theorem dX4_may_6 : decode cX4_may 6 = .ok (.if_icmp .ge 29, 3) := by decide +kernel
theorem dX4_may_9 : decode cX4_may 9 = .ok (.aload_n 0, 1) := by decide +kernel
theorem dX4_may_10 : decode cX4_may 10 = .ok (.getfield 16, 3) := by decide +kernel
theorem dX4_may_13 : decode cX4_may 13 = .ok (.iload_n 3, 1) := by decide +kernel
theorem dX4_may_14 : decode cX4_may 14 = .ok (.baload, 1) := by decide +kernel
theorem dX4_may_15 : decode cX4_may 15 = .ok (.ifCond .eq 14, 3) := by decide +kernel
theorem dX4_may_18 : decode cX4_may 18 = .ok (.iload_n 3, 1) := by decide +kernel
theorem dX4_may_19 : decode cX4_may 19 = .ok (.iload_n 1, 1) := by decide +kernel
theorem dX4_may_20 : decode cX4_may 20 = .ok (.invokestatic 53, 3) := by decide +kernel
theorem dX4_may_23 : decode cX4_may 23 = .ok (.iload_n 2, 1) := by decide +kernel
theorem dX4_may_24 : decode cX4_may 24 = .ok (.if_icmp .ne 5, 3) := by decide +kernel
theorem dX4_may_27 : decode cX4_may 27 = .ok (.iconst 1, 1) := by decide +kernel
theorem dX4_may_28 : decode cX4_may 28 = .ok (.ireturn, 1) := by decide +kernel
theorem dX4_may_29 : decode cX4_may 29 = .ok (.iinc 3 1, 3) := by decide +kernel
theorem dX4_may_32 : decode cX4_may 32 = .ok (.goto (-30), 3) := by decide +kernel
theorem dX4_may_35 : decode cX4_may 35 = .ok (.iconst 0, 1) := by decide +kernel
theorem dX4_may_36 : decode cX4_may 36 = .ok (.ireturn, 1) := by decide +kernel
set_option maxRecDepth 20000 in
theorem ggX4_mayBe_X4_isJar : GoodIn wsX4_mayBe wsX4_isJar := goodIn_r _ [6, 7, 8, 9, 5, 10, 26, 27, 28, 29, 30, 31, 32, 33, 34, 35, 36, 37, 38, 39, 40, 41, 42, 43] (by decide +kernel) (by decide +kernel)
set_option maxRecDepth 20000 in
theorem gX4_mayBe_X4_isJar : GoodIn wsX4_mayBe (wsV RX4 118 RX4 yX4_isJar wsX4_isJar) := goodIn_app (goodIn_of _ (by decide +kernel)) ggX4_mayBe_X4_isJar
set_option maxRecDepth 20000 in
theorem ggX4_mayBe_X4_isNot : GoodIn wsX4_mayBe wsX4_isNot := goodIn_r _ [14, 1, 26, 27, 28, 29, 30, 31, 32, 33, 34, 35, 36, 37, 38, 39, 40, 41, 42, 43] (by decide +kernel) (by decide +kernel)
set_option maxRecDepth 20000 in
theorem gX4_mayBe_X4_isNot : GoodIn wsX4_mayBe (wsV RX4 158 RX4 yX4_isNot wsX4_isNot) := goodIn_app (goodIn_of _ (by decide +kernel)) ggX4_mayBe_X4_isNot
set_option maxRecDepth 20000 in
theorem ggX4_mayBe_X4_isVolume : GoodIn wsX4_mayBe wsX4_isVolume := goodIn_r _ [17, 8, 9, 5, 10] (by decide +kernel) (by decide +kernel)
set_option maxRecDepth 20000 in
theorem gX4_mayBe_X4_isVolume : GoodIn wsX4_mayBe (va_wsS RX4 109 yX4_isVolume wsX4_isVolume) := goodIn_app (goodIn_of _ (by decide +kernel)) ggX4_mayBe_X4_isVolume
set_option maxRecDepth 20000 in
theorem ggX4_mayBe_X4_may : GoodIn wsX4_mayBe wsX4_may := goodIn_r _ [21, 22, 23, 24, 5, 25, 26, 27, 28, 29, 30, 31, 32, 33, 34, 35, 36, 37, 38, 39, 40, 41, 42, 43] (by decide +kernel) (by decide +kernel)
set_option maxRecDepth 20000 in
theorem gX4_mayBe_X4_may : GoodIn wsX4_mayBe (wsV RX4 182 RX4 yX4_may wsX4_may) := goodIn_app (goodIn_of _ (by decide +kernel)) ggX4_mayBe_X4_may
theorem dX4_mayBe_0 : decode cX4_mayBe 0 = .ok (.aload_n 0, 1) := by decide +kernel
theorem dX4_mayBe_1 : decode cX4_mayBe 1 = .ok (.iconst 0, 1) := by decide +kernel
theorem dX4_mayBe_2 : decode cX4_mayBe 2 = .ok (.putfield 42, 3) := by decide +kernel
theorem dX4_mayBe_5 : decode cX4_mayBe 5 = .ok (.aload_n 0, 1) := by decide +kernel
theorem dX4_mayBe_6 : decode cX4_mayBe 6 = .ok (.iload_n 1, 1) := by decide +kernel
theorem dX4_mayBe_7 : decode cX4_mayBe 7 = .ok (.invokevirtual 118, 3) := by decide +kernel
theorem dX4_mayBe_10 : decode cX4_mayBe 10 = .ok (.ifCond .ne 9, 3) := by decide +kernel
theorem dX4_mayBe_13 : decode cX4_mayBe 13 = .ok (.aload_n 0, 1) := by decide +kernel
theorem dX4_mayBe_14 : decode cX4_mayBe 14 = .ok (.iconst 1, 1) := by decide +kernel
theorem dX4_mayBe_15 : decode cX4_mayBe 15 = .ok (.invokevirtual 158, 3) := by decide +kernel
theorem dX4_mayBe_18 : decode cX4_mayBe 18 = .ok (.ireturn, 1) := by decide +kernel
theorem dX4_mayBe_19 : decode cX4_mayBe 19 = .ok (.iload_n 2, 1) := by decide +kernel
theorem dX4_mayBe_20 : decode cX4_mayBe 20 = .ok (.invokestatic 109, 3) := by decide +kernel
theorem dX4_mayBe_23 : decode cX4_mayBe 23 = .ok (.ifCond .eq 12, 3) := by decide +kernel
theorem dX4_mayBe_26 : decode cX4_mayBe 26 = .ok (.aload_n 0, 1) := by decide +kernel
theorem dX4_mayBe_27 : decode cX4_mayBe 27 = .ok (.iload_n 1, 1) := by decide +kernel
theorem dX4_mayBe_28 : decode cX4_mayBe 28 = .ok (.iload_n 2, 1) := by decide +kernel
theorem dX4_mayBe_29 : decode cX4_mayBe 29 = .ok (.invokevirtual 182, 3) := by decide +kernel
theorem dX4_mayBe_32 : decode cX4_mayBe 32 = .ok (.goto 8, 3) := by decide +kernel
theorem dX4_mayBe_35 : decode cX4_mayBe 35 = .ok (.aload_n 0, 1) := by decide +kernel
theorem dX4_mayBe_36 : decode cX4_mayBe 36 = .ok (.iconst 2, 1) := by decide +kernel
theorem dX4_mayBe_37 : decode cX4_mayBe 37 = .ok (.invokevirtual 158, 3) := by decide +kernel
theorem dX4_mayBe_40 : decode cX4_mayBe 40 = .ok (.ireturn, 1) := by decide +kernel
set_option maxRecDepth 20000 in
theorem ggX4_known_X4_may : GoodIn wsX4_known wsX4_may := goodIn_r _ [5, 6, 7, 8, 4, 9, 10, 11, 12, 13, 14, 15, 16, 17, 18, 19, 20, 21, 22, 23, 24, 25, 26, 27] (by decide +kernel) (by decide +kernel)
set_option maxRecDepth 20000 in
theorem gX4_known_X4_may : GoodIn wsX4_known (wsV RX4 182 RX4 yX4_may wsX4_may) := goodIn_app (goodIn_of _ (by decide +kernel)) ggX4_known_X4_may
theorem dX4_known_0 : decode cX4_known 0 = .ok (.iconst 0, 1) := by decide +kernel
theorem dX4_known_1 : decode cX4_known 1 = .ok (.istore_n 2, 1) := by decide +kernel
theorem dX4_known_2 : decode cX4_known 2 = .ok (.iconst 1, 1) := by decide +kernel
theorem dX4_known_3 : decode cX4_known 3 = .ok (.istore_n 3, 1) := by decide +kernel
theorem dX4_known_4 : decode cX4_known 4 = .ok (.iload_n 3, 1) := by decide +kernel
theorem dX4_known_5 : decode cX4_known 5 = .ok (.bipush 9, 2) := by decide +kernel
theorem dX4_known_7 : decode cX4_known 7 = .ok (.if_icmp .gt 26, 3) := by decide +kernel
theorem dX4_known_10 : decode cX4_known 10 = .ok (.iload_n 2, 1) := by decide +kernel
theorem dX4_known_11 : decode cX4_known 11 = .ok (.aload_n 0, 1) := by decide +kernel
theorem dX4_known_12 : decode cX4_known 12 = .ok (.iload_n 1, 1) := by decide +kernel
theorem dX4_known_13 : decode cX4_known 13 = .ok (.iload_n 3, 1) := by decide +kernel
theorem dX4_known_14 : decode cX4_known 14 = .ok (.invokevirtual 182, 3) := by decide +kernel
theorem dX4_known_17 : decode cX4_known 17 = .ok (.ifCond .eq 7, 3) := by decide +kernel
theorem dX4_known_20 : decode cX4_known 20 = .ok (.iconst 1, 1) := by decide +kernel
theorem dX4_known_21 : decode cX4_known 21 = .ok (.goto 4, 3) := by decide +kernel
theorem dX4_known_24 : decode cX4_known 24 = .ok (.iconst 0, 1) := by decide +kernel
theorem dX4_known_25 : decode cX4_known 25 = .ok (.iadd, 1) := by decide +kernel
theorem dX4_known_26 : decode cX4_known 26 = .ok (.istore_n 2, 1) := by decide +kernel
theorem dX4_known_27 : decode cX4_known 27 = .ok (.iinc 3 1, 3) := by decide +kernel
theorem dX4_known_30 : decode cX4_known 30 = .ok (.goto (-26), 3) := by decide +kernel
theorem dX4_known_33 : decode cX4_known 33 = .ok (.iload_n 2, 1) := by decide +kernel
theorem dX4_known_34 : decode cX4_known 34 = .ok (.iconst 1, 1) := by decide +kernel
theorem dX4_known_35 : decode cX4_known 35 = .ok (.if_icmp .ne 7, 3) := by decide +kernel
theorem dX4_known_38 : decode cX4_known 38 = .ok (.iconst 1, 1) := by decide +kernel
theorem dX4_known_39 : decode cX4_known 39 = .ok (.goto 4, 3) := by decide +kernel
theorem dX4_known_42 : decode cX4_known 42 = .ok (.iconst 0, 1) := by decide +kernel
theorem dX4_known_43 : decode cX4_known 43 = .ok (.ireturn, 1) := by decide +kernel
set_option maxRecDepth 20000 in
theorem ggX4_isKnown_X4_isJar : GoodIn wsX4_isKnown wsX4_isJar := goodIn_r _ [6, 7, 8, 9, 5, 10, 27, 28, 29, 30, 31, 32, 33, 34, 35, 36, 37, 38, 39, 40, 41, 42, 43, 44] (by decide +kernel) (by decide +kernel)
set_option maxRecDepth 20000 in
theorem gX4_isKnown_X4_isJar : GoodIn wsX4_isKnown (wsV RX4 118 RX4 yX4_isJar wsX4_isJar) := goodIn_app (goodIn_of _ (by decide +kernel)) ggX4_isKnown_X4_isJar
set_option maxRecDepth 20000 in
theorem ggX4_isKnown_X4_known : GoodIn wsX4_isKnown wsX4_known := goodIn_r _ [14, 15, 16, 17, 5, 18, 19, 20, 21, 22, 27, 28, 29, 30, 31, 32, 33, 34, 35, 36, 37, 38, 39, 40, 41, 42, 43, 44] (by decide +kernel) (by decide +kernel)
set_option maxRecDepth 20000 in
theorem gX4_isKnown_X4_known : GoodIn wsX4_isKnown (wsV RX4 185 RX4 yX4_known wsX4_known) := goodIn_app (goodIn_of _ (by decide +kernel)) ggX4_isKnown_X4_known
set_option maxRecDepth 20000 in
theorem ggX4_isKnown_X4_isNot : GoodIn wsX4_isKnown wsX4_isNot := goodIn_r _ [26, 1, 27, 28, 29, 30, 31, 32, 33, 34, 35, 36, 37, 38, 39, 40, 41, 42, 43, 44] (by decide +kernel) (by decide +kernel)
set_option maxRecDepth 20000 in
theorem gX4_isKnown_X4_isNot : GoodIn wsX4_isKnown (wsV RX4 158 RX4 yX4_isNot wsX4_isNot) := goodIn_app (goodIn_of _ (by decide +kernel)) ggX4_isKnown_X4_isNot
theorem dX4_isKnown_0 : decode cX4_isKnown 0 = .ok (.aload_n 0, 1) := by decide +kernel
theorem dX4_isKnown_1 : decode cX4_isKnown 1 = .ok (.iconst 0, 1) := by decide +kernel
theorem dX4_isKnown_2 : decode cX4_isKnown 2 = .ok (.putfield 42, 3) := by decide +kernel
theorem dX4_isKnown_5 : decode cX4_isKnown 5 = .ok (.aload_n 0, 1) := by decide +kernel
theorem dX4_isKnown_6 : decode cX4_isKnown 6 = .ok (.iload_n 1, 1) := by decide +kernel
theorem dX4_isKnown_7 : decode cX4_isKnown 7 = .ok (.invokevirtual 118, 3) := by decide +kernel
theorem dX4_isKnown_10 : decode cX4_isKnown 10 = .ok (.ifCond .eq 11, 3) := by decide +kernel
theorem dX4_isKnown_13 : decode cX4_isKnown 13 = .ok (.aload_n 0, 1) := by decide +kernel
theorem dX4_isKnown_14 : decode cX4_isKnown 14 = .ok (.iload_n 1, 1) := by decide +kernel
theorem dX4_isKnown_15 : decode cX4_isKnown 15 = .ok (.invokevirtual 185, 3) := by decide +kernel
theorem dX4_isKnown_18 : decode cX4_isKnown 18 = .ok (.goto 8, 3) := by decide +kernel
theorem dX4_isKnown_21 : decode cX4_isKnown 21 = .ok (.aload_n 0, 1) := by decide +kernel
theorem dX4_isKnown_22 : decode cX4_isKnown 22 = .ok (.iconst 1, 1) := by decide +kernel
theorem dX4_isKnown_23 : decode cX4_isKnown 23 = .ok (.invokevirtual 158, 3) := by decide +kernel
theorem dX4_isKnown_26 : decode cX4_isKnown 26 = .ok (.ireturn, 1) := by decide +kernel
set_option maxRecDepth 20000 in
theorem ggX4_guess_X4_isJar : GoodIn wsX4_guess wsX4_isJar := goodIn_r _ [10, 11, 12, 13, 9, 14, 29, 30, 31, 32, 33, 34, 35, 36, 37, 38, 39, 40, 41, 42, 43, 44, 45, 46] (by decide +kernel) (by decide +kernel)
set_option maxRecDepth 20000 in
theorem gX4_guess_X4_isJar : GoodIn wsX4_guess (wsV RX4 118 RX4 yX4_isJar wsX4_isJar) := goodIn_app (goodIn_of _ (by decide +kernel)) ggX4_guess_X4_isJar
set_option maxRecDepth 20000 in
theorem ggX4_guess_X4_isNot : GoodIn wsX4_guess wsX4_isNot := goodIn_r _ [18, 1, 29, 30, 31, 32, 33, 34, 35, 36, 37, 38, 39, 40, 41, 42, 43, 44, 45, 46] (by decide +kernel) (by decide +kernel)
set_option maxRecDepth 20000 in
theorem gX4_guess_X4_isNot : GoodIn wsX4_guess (wsV RX4 158 RX4 yX4_isNot wsX4_isNot) := goodIn_app (goodIn_of _ (by decide +kernel)) ggX4_guess_X4_isNot
set_option maxRecDepth 20000 in
theorem ggX4_guess_X4_isVolume : GoodIn wsX4_guess wsX4_isVolume := goodIn_r _ [21, 12, 13, 9, 14] (by decide +kernel) (by decide +kernel)
set_option maxRecDepth 20000 in
theorem gX4_guess_X4_isVolume : GoodIn wsX4_guess (va_wsS RX4 109 yX4_isVolume wsX4_isVolume) := goodIn_app (goodIn_of _ (by decide +kernel)) ggX4_guess_X4_isVolume
set_option maxRecDepth 20000 in
theorem ggX4_guess_X4_may : GoodIn wsX4_guess wsX4_may := goodIn_r _ [25, 3, 26, 27, 9, 28, 29, 30, 31, 32, 33, 34, 35, 36, 37, 38, 39, 40, 41, 42, 43, 44, 45, 46] (by decide +kernel) (by decide +kernel)
set_option maxRecDepth 20000 in
theorem gX4_guess_X4_may : GoodIn wsX4_guess (wsV RX4 182 RX4 yX4_may wsX4_may) := goodIn_app (goodIn_of _ (by decide +kernel)) ggX4_guess_X4_may
set_option maxRecDepth 20000 in
theorem ggX4_guess_X4_figure : GoodIn wsX4_guess wsX4_figure := goodIn_r _ [28] (by decide +kernel) (by decide +kernel)
set_option maxRecDepth 20000 in
theorem gX4_guess_X4_figure : GoodIn wsX4_guess (va_wsS RX4 53 yX4_figure wsX4_figure) := goodIn_app (goodIn_of _ (by decide +kernel)) ggX4_guess_X4_figure
theorem dX4_guess_0 : decode cX4_guess 0 = .ok (.aload_n 0, 1) := by decide +kernel
theorem dX4_guess_1 : decode cX4_guess 1 = .ok (.iconst 0, 1) := by decide +kernel
theorem dX4_guess_2 : decode cX4_guess 2 = .ok (.putfield 42, 3) := by decide +kernel
theorem dX4_guess_5 : decode cX4_guess 5 = .ok (.aload_n 0, 1) := by decide +kernel
theorem dX4_guess_6 : decode cX4_guess 6 = .ok (.iload_n 1, 1) := by decide +kernel
theorem dX4_guess_7 : decode cX4_guess 7 = .ok (.invokevirtual 118, 3) := by decide +kernel
theorem dX4_guess_10 : decode cX4_guess 10 = .ok (.ifCond .ne 9, 3) := by decide +kernel
theorem dX4_guess_13 : decode cX4_guess 13 = .ok (.aload_n 0, 1) := by decide +kernel
theorem dX4_guess_14 : decode cX4_guess 14 = .ok (.iconst 1, 1) := by decide +kernel
theorem dX4_guess_15 : decode cX4_guess 15 = .ok (.invokevirtual 158, 3) := by decide +kernel
theorem dX4_guess_18 : decode cX4_guess 18 = .ok (.ireturn, 1) := by decide +kernel
theorem dX4_guess_19 : decode cX4_guess 19 = .ok (.iload_n 2, 1) := by decide +kernel
theorem dX4_guess_20 : decode cX4_guess 20 = .ok (.invokestatic 109, 3) := by decide +kernel
theorem dX4_guess_23 : decode cX4_guess 23 = .ok (.ifCond .ne 9, 3) := by decide +kernel
theorem dX4_guess_26 : decode cX4_guess 26 = .ok (.aload_n 0, 1) := by decide +kernel
theorem dX4_guess_27 : decode cX4_guess 27 = .ok (.iconst 2, 1) := by decide +kernel
theorem dX4_guess_28 : decode cX4_guess 28 = .ok (.invokevirtual 158, 3) := by decide +kernel
theorem dX4_guess_31 : decode cX4_guess 31 = .ok (.ireturn, 1) := by decide +kernel
theorem dX4_guess_32 : decode cX4_guess 32 = .ok (.aload_n 0, 1) := by decide +kernel
theorem dX4_guess_33 : decode cX4_guess 33 = .ok (.iload_n 1, 1) := by decide +kernel
theorem dX4_guess_34 : decode cX4_guess 34 = .ok (.iload_n 2, 1) := by decide +kernel
theorem dX4_guess_35 : decode cX4_guess 35 = .ok (.invokevirtual 182, 3) := by decide +kernel
theorem dX4_guess_38 : decode cX4_guess 38 = .ok (.ifCond .ne 9, 3) := by decide +kernel
theorem dX4_guess_41 : decode cX4_guess 41 = .ok (.aload_n 0, 1) := by decide +kernel
theorem dX4_guess_42 : decode cX4_guess 42 = .ok (.iconst 3, 1) := by decide +kernel
theorem dX4_guess_43 : decode cX4_guess 43 = .ok (.invokevirtual 158, 3) := by decide +kernel
theorem dX4_guess_46 : decode cX4_guess 46 = .ok (.ireturn, 1) := by decide +kernel
theorem dX4_guess_47 : decode cX4_guess 47 = .ok (.aload_n 0, 1) := by decide +kernel
theorem dX4_guess_48 : decode cX4_guess 48 = .ok (.getfield 9, 3) := by decide +kernel
theorem dX4_guess_51 : decode cX4_guess 51 = .ok (.iload_n 1, 1) := by decide +kernel
theorem dX4_guess_52 : decode cX4_guess 52 = .ok (.iaload, 1) := by decide +kernel
theorem dX4_guess_53 : decode cX4_guess 53 = .ok (.iload_n 2, 1) := by decide +kernel
theorem dX4_guess_54 : decode cX4_guess 54 = .ok (.if_icmp .ne 7, 3) := by decide +kernel
theorem dX4_guess_57 : decode cX4_guess 57 = .ok (.iconst 1, 1) := by decide +kernel
theorem dX4_guess_58 : decode cX4_guess 58 = .ok (.goto 4, 3) := by decide +kernel
theorem dX4_guess_61 : decode cX4_guess 61 = .ok (.iconst 0, 1) := by decide +kernel
theorem dX4_guess_62 : decode cX4_guess 62 = .ok (.istore_n 3, 1) := by decide +kernel
theorem dX4_guess_63 : decode cX4_guess 63 = .ok (.iconst 0, 1) := by decide +kernel
theorem dX4_guess_64 : decode cX4_guess 64 = .ok (.istore 4, 2) := by decide +kernel
theorem dX4_guess_66 : decode cX4_guess 66 = .ok (.iload 4, 2) := by decide +kernel
theorem dX4_guess_68 : decode cX4_guess 68 = .ok (.sipush 1000, 3) := by decide +kernel
theorem dX4_guess_71 : decode cX4_guess 71 = .ok (.if_icmp .ge 43, 3) := by decide +kernel
theorem dX4_guess_74 : decode cX4_guess 74 = .ok (.aload_n 0, 1) := by decide +kernel
theorem dX4_guess_75 : decode cX4_guess 75 = .ok (.getfield 16, 3) := by decide +kernel
theorem dX4_guess_78 : decode cX4_guess 78 = .ok (.iload 4, 2) := by decide +kernel
theorem dX4_guess_80 : decode cX4_guess 80 = .ok (.dup2, 1) := by decide +kernel
theorem dX4_guess_81 : decode cX4_guess 81 = .ok (.baload, 1) := by decide +kernel
theorem dX4_guess_82 : decode cX4_guess 82 = .ok (.iload 4, 2) := by decide +kernel
theorem dX4_guess_84 : decode cX4_guess 84 = .ok (.iload_n 1, 1) := by decide +kernel
theorem dX4_guess_85 : decode cX4_guess 85 = .ok (.invokestatic 53, 3) := by decide +kernel
theorem dX4_guess_88 : decode cX4_guess 88 = .ok (.iload_n 2, 1) := by decide +kernel
theorem dX4_guess_89 : decode cX4_guess 89 = .ok (.if_icmp .ne 7, 3) := by decide +kernel
theorem dX4_guess_92 : decode cX4_guess 92 = .ok (.iconst 1, 1) := by decide +kernel
theorem dX4_guess_93 : decode cX4_guess 93 = .ok (.goto 4, 3) := by decide +kernel
theorem dX4_guess_96 : decode cX4_guess 96 = .ok (.iconst 0, 1) := by decide +kernel
theorem dX4_guess_97 : decode cX4_guess 97 = .ok (.iload_n 3, 1) := by decide +kernel
theorem dX4_guess_98 : decode cX4_guess 98 = .ok (.if_icmp .ne 7, 3) := by decide +kernel
theorem dX4_guess_101 : decode cX4_guess 101 = .ok (.iconst 1, 1) := by decide +kernel
theorem dX4_guess_102 : decode cX4_guess 102 = .ok (.goto 4, 3) := by decide +kernel
theorem dX4_guess_105 : decode cX4_guess 105 = .ok (.iconst 0, 1) := by decide +kernel
theorem dX4_guess_106 : decode cX4_guess 106 = .ok (.iand, 1) := by decide +kernel
theorem dX4_guess_107 : decode cX4_guess 107 = .ok (.bastore, 1) := by decide +kernel
theorem dX4_guess_108 : decode cX4_guess 108 = .ok (.iinc 4 1, 3) := by decide +kernel
theorem dX4_guess_111 : decode cX4_guess 111 = .ok (.goto (-45), 3) := by decide +kernel
theorem dX4_guess_114 : decode cX4_guess 114 = .ok (.aload_n 0, 1) := by decide +kernel
theorem dX4_guess_115 : decode cX4_guess 115 = .ok (.dup, 1) := by decide +kernel
theorem dX4_guess_116 : decode cX4_guess 116 = .ok (.getfield 69, 3) := by decide +kernel
theorem dX4_guess_119 : decode cX4_guess 119 = .ok (.iconst 1, 1) := by decide +kernel
theorem dX4_guess_120 : decode cX4_guess 120 = .ok (.iadd, 1) := by decide +kernel
theorem dX4_guess_121 : decode cX4_guess 121 = .ok (.putfield 69, 3) := by decide +kernel
theorem dX4_guess_124 : decode cX4_guess 124 = .ok (.aload_n 0, 1) := by decide +kernel
theorem dX4_guess_125 : decode cX4_guess 125 = .ok (.dup, 1) := by decide +kernel
theorem dX4_guess_126 : decode cX4_guess 126 = .ok (.getfield 72, 3) := by decide +kernel
theorem dX4_guess_129 : decode cX4_guess 129 = .ok (.iload_n 3, 1) := by decide +kernel
theorem dX4_guess_130 : decode cX4_guess 130 = .ok (.ifCond .eq 7, 3) := by decide +kernel
theorem dX4_guess_133 : decode cX4_guess 133 = .ok (.iconst 0, 1) := by decide +kernel
theorem dX4_guess_134 : decode cX4_guess 134 = .ok (.goto 4, 3) := by decide +kernel
theorem dX4_guess_137 : decode cX4_guess 137 = .ok (.iconst 1, 1) := by decide +kernel
theorem dX4_guess_138 : decode cX4_guess 138 = .ok (.iadd, 1) := by decide +kernel
theorem dX4_guess_139 : decode cX4_guess 139 = .ok (.putfield 72, 3) := by decide +kernel
theorem dX4_guess_142 : decode cX4_guess 142 = .ok (.iload_n 3, 1) := by decide +kernel
theorem dX4_guess_143 : decode cX4_guess 143 = .ok (.ireturn, 1) := by decide +kernel
set_option maxRecDepth 20000 in
theorem ggX4_guesses_X4_ok : GoodIn wsX4_guesses wsX4_ok := goodIn_r _ [6, 7, 8, 9, 10, 11, 12, 13, 14, 15, 16, 17, 18, 19, 20, 21, 22, 23, 24, 25] (by decide +kernel) (by decide +kernel)
set_option maxRecDepth 20000 in
theorem gX4_guesses_X4_ok : GoodIn wsX4_guesses (wsV RX4 155 RX4 yX4_ok wsX4_ok) := goodIn_app (goodIn_of _ (by decide +kernel)) ggX4_guesses_X4_ok
theorem dX4_guesses_0 : decode cX4_guesses 0 = .ok (.aload_n 0, 1) := by decide +kernel
theorem dX4_guesses_1 : decode cX4_guesses 1 = .ok (.aload_n 0, 1) := by decide +kernel
theorem dX4_guesses_2 : decode cX4_guesses 2 = .ok (.getfield 69, 3) := by decide +kernel
theorem dX4_guesses_5 : decode cX4_guesses 5 = .ok (.invokevirtual 155, 3) := by decide +kernel
theorem dX4_guesses_8 : decode cX4_guesses 8 = .ok (.ireturn, 1) := by decide +kernel
set_option maxRecDepth 20000 in
theorem ggX4_wrongGuesses_X4_ok : GoodIn wsX4_wrongGuesses wsX4_ok := goodIn_r _ [6, 7, 8, 9, 10, 11, 12, 13, 14, 15, 16, 17, 18, 19, 20, 21, 22, 23, 24, 25] (by decide +kernel) (by decide +kernel)
set_option maxRecDepth 20000 in
theorem gX4_wrongGuesses_X4_ok : GoodIn wsX4_wrongGuesses (wsV RX4 155 RX4 yX4_ok wsX4_ok) := goodIn_app (goodIn_of _ (by decide +kernel)) ggX4_wrongGuesses_X4_ok
theorem dX4_wrongGuesses_0 : decode cX4_wrongGuesses 0 = .ok (.aload_n 0, 1) := by decide +kernel
theorem dX4_wrongGuesses_1 : decode cX4_wrongGuesses 1 = .ok (.aload_n 0, 1) := by decide +kernel
theorem dX4_wrongGuesses_2 : decode cX4_wrongGuesses 2 = .ok (.getfield 72, 3) := by decide +kernel
theorem dX4_wrongGuesses_5 : decode cX4_wrongGuesses 5 = .ok (.invokevirtual 155, 3) := by decide +kernel
theorem dX4_wrongGuesses_8 : decode cX4_wrongGuesses 8 = .ok (.ireturn, 1) := by decide +kernel
set_option maxRecDepth 20000 in
theorem ggX4_mostLeft_X4_lookAtRow : GoodIn wsX4_mostLeft wsX4_lookAtRow := goodIn_r _ [11, 12, 13, 14, 15, 16, 10, 17, 30, 31, 32, 33, 34, 35, 36, 37, 38, 39, 40, 41, 42, 43, 44, 45, 46, 47] (by decide +kernel) (by decide +kernel)
set_option maxRecDepth 20000 in
theorem gX4_mostLeft_X4_lookAtRow : GoodIn wsX4_mostLeft (wsV RX4 99 RX4 yX4_lookAtRow wsX4_lookAtRow) := goodIn_app (goodIn_of _ (by decide +kernel)) ggX4_mostLeft_X4_lookAtRow
set_option maxRecDepth 20000 in
theorem ggX4_mostLeft_X4_move : GoodIn wsX4_mostLeft wsX4_move := goodIn_r _ [21, 12, 13, 22, 23, 5, 24, 30, 31, 32, 33, 34, 35, 36, 37, 38, 39, 40, 41, 42, 43, 44, 45, 46, 47] (by decide +kernel) (by decide +kernel)
set_option maxRecDepth 20000 in
theorem gX4_mostLeft_X4_move : GoodIn wsX4_mostLeft (wsV RX4 92 RX4 yX4_move wsX4_move) := goodIn_app (goodIn_of _ (by decide +kernel)) ggX4_mostLeft_X4_move
set_option maxRecDepth 20000 in
theorem ggX4_mostLeft_X4_sight : GoodIn wsX4_mostLeft wsX4_sight := goodIn_r _ [28, 29, 13, 12, 30, 31, 32, 33, 34, 35, 36, 37, 38, 39, 40, 41, 42, 43, 44, 45, 46, 47] (by decide +kernel) (by decide +kernel)
set_option maxRecDepth 20000 in
theorem gX4_mostLeft_X4_sight : GoodIn wsX4_mostLeft (wsV RX4 96 RX4 yX4_sight wsX4_sight) := goodIn_app (goodIn_of _ (by decide +kernel)) ggX4_mostLeft_X4_sight
theorem dX4_mostLeft_0 : decode cX4_mostLeft 0 = .ok (.iconst 0, 1) := by decide +kernel
theorem dX4_mostLeft_1 : decode cX4_mostLeft 1 = .ok (.istore_n 2, 1) := by decide +kernel
theorem dX4_mostLeft_2 : decode cX4_mostLeft 2 = .ok (.iload_n 2, 1) := by decide +kernel
theorem dX4_mostLeft_3 : decode cX4_mostLeft 3 = .ok (.aload_n 0, 1) := by decide +kernel
theorem dX4_mostLeft_4 : decode cX4_mostLeft 4 = .ok (.getfield 35, 3) := by decide +kernel
theorem dX4_mostLeft_7 : decode cX4_mostLeft 7 = .ok (.arraylength, 1) := by decide +kernel
theorem dX4_mostLeft_8 : decode cX4_mostLeft 8 = .ok (.if_icmp .ge 16, 3) := by decide +kernel
theorem dX4_mostLeft_11 : decode cX4_mostLeft 11 = .ok (.aload_n 0, 1) := by decide +kernel
theorem dX4_mostLeft_12 : decode cX4_mostLeft 12 = .ok (.getfield 35, 3) := by decide +kernel
theorem dX4_mostLeft_15 : decode cX4_mostLeft 15 = .ok (.iload_n 2, 1) := by decide +kernel
theorem dX4_mostLeft_16 : decode cX4_mostLeft 16 = .ok (.iconst 0, 1) := by decide +kernel
theorem dX4_mostLeft_17 : decode cX4_mostLeft 17 = .ok (.iastore, 1) := by decide +kernel
theorem dX4_mostLeft_18 : decode cX4_mostLeft 18 = .ok (.iinc 2 1, 3) := by decide +kernel
theorem dX4_mostLeft_21 : decode cX4_mostLeft 21 = .ok (.goto (-19), 3) := by decide +kernel
theorem dX4_mostLeft_24 : decode cX4_mostLeft 24 = .ok (.iconst 0, 1) := by decide +kernel
theorem dX4_mostLeft_25 : decode cX4_mostLeft 25 = .ok (.istore_n 2, 1) := by decide +kernel
theorem dX4_mostLeft_26 : decode cX4_mostLeft 26 = .ok (.iconst 0, 1) := by decide +kernel
theorem dX4_mostLeft_27 : decode cX4_mostLeft 27 = .ok (.istore_n 3, 1) := by decide +kernel
theorem dX4_mostLeft_28 : decode cX4_mostLeft 28 = .ok (.iload_n 3, 1) := by decide +kernel
theorem dX4_mostLeft_29 : decode cX4_mostLeft 29 = .ok (.sipush 1000, 3) := by decide +kernel
theorem dX4_mostLeft_32 : decode cX4_mostLeft 32 = .ok (.if_icmp .ge 61, 3) := by decide +kernel
theorem dX4_mostLeft_35 : decode cX4_mostLeft 35 = .ok (.aload_n 0, 1) := by decide +kernel
theorem dX4_mostLeft_36 : decode cX4_mostLeft 36 = .ok (.getfield 16, 3) := by decide +kernel
theorem dX4_mostLeft_39 : decode cX4_mostLeft 39 = .ok (.iload_n 3, 1) := by decide +kernel
theorem dX4_mostLeft_40 : decode cX4_mostLeft 40 = .ok (.baload, 1) := by decide +kernel
theorem dX4_mostLeft_41 : decode cX4_mostLeft 41 = .ok (.ifCond .ne 6, 3) := by decide +kernel
theorem dX4_mostLeft_44 : decode cX4_mostLeft 44 = .ok (.goto 43, 3) := by decide +kernel
theorem dX4_mostLeft_47 : decode cX4_mostLeft 47 = .ok (.aload_n 0, 1) := by decide +kernel
theorem dX4_mostLeft_48 : decode cX4_mostLeft 48 = .ok (.iload_n 3, 1) := by decide +kernel
theorem dX4_mostLeft_49 : decode cX4_mostLeft 49 = .ok (.invokevirtual 99, 3) := by decide +kernel
theorem dX4_mostLeft_52 : decode cX4_mostLeft 52 = .ok (.aload_n 0, 1) := by decide +kernel
theorem dX4_mostLeft_53 : decode cX4_mostLeft 53 = .ok (.iload_n 1, 1) := by decide +kernel
theorem dX4_mostLeft_54 : decode cX4_mostLeft 54 = .ok (.invokevirtual 92, 3) := by decide +kernel
theorem dX4_mostLeft_57 : decode cX4_mostLeft 57 = .ok (.pop, 1) := by decide +kernel
theorem dX4_mostLeft_58 : decode cX4_mostLeft 58 = .ok (.aload_n 0, 1) := by decide +kernel
theorem dX4_mostLeft_59 : decode cX4_mostLeft 59 = .ok (.invokevirtual 96, 3) := by decide +kernel
theorem dX4_mostLeft_62 : decode cX4_mostLeft 62 = .ok (.istore 4, 2) := by decide +kernel
theorem dX4_mostLeft_64 : decode cX4_mostLeft 64 = .ok (.aload_n 0, 1) := by decide +kernel
theorem dX4_mostLeft_65 : decode cX4_mostLeft 65 = .ok (.getfield 35, 3) := by decide +kernel
theorem dX4_mostLeft_68 : decode cX4_mostLeft 68 = .ok (.iload 4, 2) := by decide +kernel
theorem dX4_mostLeft_70 : decode cX4_mostLeft 70 = .ok (.dup2, 1) := by decide +kernel
theorem dX4_mostLeft_71 : decode cX4_mostLeft 71 = .ok (.iaload, 1) := by decide +kernel
theorem dX4_mostLeft_72 : decode cX4_mostLeft 72 = .ok (.iconst 1, 1) := by decide +kernel
theorem dX4_mostLeft_73 : decode cX4_mostLeft 73 = .ok (.iadd, 1) := by decide +kernel
theorem dX4_mostLeft_74 : decode cX4_mostLeft 74 = .ok (.iastore, 1) := by decide +kernel
theorem dX4_mostLeft_75 : decode cX4_mostLeft 75 = .ok (.iload_n 2, 1) := by decide +kernel
theorem dX4_mostLeft_76 : decode cX4_mostLeft 76 = .ok (.aload_n 0, 1) := by decide +kernel
theorem dX4_mostLeft_77 : decode cX4_mostLeft 77 = .ok (.getfield 35, 3) := by decide +kernel
theorem dX4_mostLeft_80 : decode cX4_mostLeft 80 = .ok (.iload 4, 2) := by decide +kernel
theorem dX4_mostLeft_82 : decode cX4_mostLeft 82 = .ok (.iaload, 1) := by decide +kernel
theorem dX4_mostLeft_83 : decode cX4_mostLeft 83 = .ok (.invokestatic 188, 3) := by decide +kernel
theorem dX4_mostLeft_86 : decode cX4_mostLeft 86 = .ok (.istore_n 2, 1) := by decide +kernel
theorem dX4_mostLeft_87 : decode cX4_mostLeft 87 = .ok (.iinc 3 1, 3) := by decide +kernel
theorem dX4_mostLeft_90 : decode cX4_mostLeft 90 = .ok (.goto (-62), 3) := by decide +kernel
theorem dX4_mostLeft_93 : decode cX4_mostLeft 93 = .ok (.iload_n 2, 1) := by decide +kernel
theorem dX4_mostLeft_94 : decode cX4_mostLeft 94 = .ok (.ireturn, 1) := by decide +kernel
set_option maxRecDepth 20000 in
theorem ggX4_leftAtMost_X4_isJar : GoodIn wsX4_leftAtMost wsX4_isJar := goodIn_r _ [6, 7, 8, 9, 5, 10, 46, 47, 48, 49, 50, 51, 52, 53, 54, 55, 56, 57, 58, 59, 60, 61, 62, 63] (by decide +kernel) (by decide +kernel)
set_option maxRecDepth 20000 in
theorem gX4_leftAtMost_X4_isJar : GoodIn wsX4_leftAtMost (wsV RX4 118 RX4 yX4_isJar wsX4_isJar) := goodIn_app (goodIn_of _ (by decide +kernel)) ggX4_leftAtMost_X4_isJar
set_option maxRecDepth 20000 in
theorem ggX4_leftAtMost_X4_no : GoodIn wsX4_leftAtMost wsX4_no := goodIn_r _ [14, 1, 46, 47, 48, 49, 50, 51, 52, 53, 54, 55, 56, 57, 58, 59, 60, 61, 62, 63] (by decide +kernel) (by decide +kernel)
set_option maxRecDepth 20000 in
theorem gX4_leftAtMost_X4_no : GoodIn wsX4_leftAtMost (wsV RX4 115 RX4 yX4_no wsX4_no) := goodIn_app (goodIn_of _ (by decide +kernel)) ggX4_leftAtMost_X4_no
set_option maxRecDepth 20000 in
theorem ggX4_leftAtMost_X4_mostLeft : GoodIn wsX4_leftAtMost wsX4_mostLeft := goodIn_r _ [18, 19, 20, 21, 22, 23, 24, 25, 26, 27, 5, 28, 29, 30, 31, 32, 33, 34, 35, 36, 37, 38, 39, 40, 41, 42, 43, 44, 45, 7, 46, 47, 48, 49, 50, 51, 52, 53, 54, 55, 56, 57, 58, 59, 60, 61, 62, 63] (by decide +kernel) (by decide +kernel)
set_option maxRecDepth 20000 in
theorem gX4_leftAtMost_X4_mostLeft : GoodIn wsX4_leftAtMost (wsV RX4 191 RX4 yX4_mostLeft wsX4_mostLeft) := goodIn_app (goodIn_of _ (by decide +kernel)) ggX4_leftAtMost_X4_mostLeft
theorem dX4_leftAtMost_0 : decode cX4_leftAtMost 0 = .ok (.aload_n 0, 1) := by decide +kernel
theorem dX4_leftAtMost_1 : decode cX4_leftAtMost 1 = .ok (.iconst 0, 1) := by decide +kernel
theorem dX4_leftAtMost_2 : decode cX4_leftAtMost 2 = .ok (.putfield 42, 3) := by decide +kernel
theorem dX4_leftAtMost_5 : decode cX4_leftAtMost 5 = .ok (.aload_n 0, 1) := by decide +kernel
theorem dX4_leftAtMost_6 : decode cX4_leftAtMost 6 = .ok (.iload_n 1, 1) := by decide +kernel
theorem dX4_leftAtMost_7 : decode cX4_leftAtMost 7 = .ok (.invokevirtual 118, 3) := by decide +kernel
theorem dX4_leftAtMost_10 : decode cX4_leftAtMost 10 = .ok (.ifCond .eq 11, 3) := by decide +kernel
theorem dX4_leftAtMost_13 : decode cX4_leftAtMost 13 = .ok (.aload_n 0, 1) := by decide +kernel
theorem dX4_leftAtMost_14 : decode cX4_leftAtMost 14 = .ok (.iload_n 2, 1) := by decide +kernel
theorem dX4_leftAtMost_15 : decode cX4_leftAtMost 15 = .ok (.invokevirtual 118, 3) := by decide +kernel
theorem dX4_leftAtMost_18 : decode cX4_leftAtMost 18 = .ok (.ifCond .ne 9, 3) := by decide +kernel
theorem dX4_leftAtMost_21 : decode cX4_leftAtMost 21 = .ok (.aload_n 0, 1) := by decide +kernel
theorem dX4_leftAtMost_22 : decode cX4_leftAtMost 22 = .ok (.iconst 1, 1) := by decide +kernel
theorem dX4_leftAtMost_23 : decode cX4_leftAtMost 23 = .ok (.invokevirtual 115, 3) := by decide +kernel
theorem dX4_leftAtMost_26 : decode cX4_leftAtMost 26 = .ok (.ireturn, 1) := by decide +kernel
theorem dX4_leftAtMost_27 : decode cX4_leftAtMost 27 = .ok (.iload_n 1, 1) := by decide +kernel
theorem dX4_leftAtMost_28 : decode cX4_leftAtMost 28 = .ok (.iload_n 2, 1) := by decide +kernel
theorem dX4_leftAtMost_29 : decode cX4_leftAtMost 29 = .ok (.if_icmp .ne 11, 3) := by decide +kernel
theorem dX4_leftAtMost_32 : decode cX4_leftAtMost 32 = .ok (.aload_n 0, 1) := by decide +kernel
theorem dX4_leftAtMost_33 : decode cX4_leftAtMost 33 = .ok (.iconst 2, 1) := by decide +kernel
theorem dX4_leftAtMost_34 : decode cX4_leftAtMost 34 = .ok (.invokevirtual 115, 3) := by decide +kernel
theorem dX4_leftAtMost_37 : decode cX4_leftAtMost 37 = .ok (.goto 15, 3) := by decide +kernel
theorem dX4_leftAtMost_40 : decode cX4_leftAtMost 40 = .ok (.aload_n 0, 1) := by decide +kernel
theorem dX4_leftAtMost_41 : decode cX4_leftAtMost 41 = .ok (.bipush 6, 2) := by decide +kernel
theorem dX4_leftAtMost_43 : decode cX4_leftAtMost 43 = .ok (.iconst 3, 1) := by decide +kernel
theorem dX4_leftAtMost_44 : decode cX4_leftAtMost 44 = .ok (.iload_n 1, 1) := by decide +kernel
theorem dX4_leftAtMost_45 : decode cX4_leftAtMost 45 = .ok (.imul, 1) := by decide +kernel
theorem dX4_leftAtMost_46 : decode cX4_leftAtMost 46 = .ok (.iadd, 1) := by decide +kernel
theorem dX4_leftAtMost_47 : decode cX4_leftAtMost 47 = .ok (.iload_n 2, 1) := by decide +kernel
theorem dX4_leftAtMost_48 : decode cX4_leftAtMost 48 = .ok (.iadd, 1) := by decide +kernel
theorem dX4_leftAtMost_49 : decode cX4_leftAtMost 49 = .ok (.invokevirtual 191, 3) := by decide +kernel
theorem dX4_leftAtMost_52 : decode cX4_leftAtMost 52 = .ok (.ireturn, 1) := by decide +kernel
set_option maxRecDepth 20000 in
theorem ggX4_tellsMost_X4_left : GoodIn wsX4_tellsMost wsX4_left := goodIn_r _ [5, 6, 42, 43, 44, 45, 46, 47, 48, 49, 50, 51, 52, 53, 54, 55, 56, 57, 58, 59] (by decide +kernel) (by decide +kernel)
set_option maxRecDepth 20000 in
theorem gX4_tellsMost_X4_left : GoodIn wsX4_tellsMost (wsV RX4 179 RX4 yX4_left wsX4_left) := goodIn_app (goodIn_of _ (by decide +kernel)) ggX4_tellsMost_X4_left
set_option maxRecDepth 20000 in
theorem ggX4_tellsMost_X4_isAct : GoodIn wsX4_tellsMost wsX4_isAct := goodIn_r _ [10, 11, 42, 43, 44, 45, 46, 47, 48, 49, 50, 51, 52, 53, 54, 55, 56, 57, 58, 59] (by decide +kernel) (by decide +kernel)
set_option maxRecDepth 20000 in
theorem gX4_tellsMost_X4_isAct : GoodIn wsX4_tellsMost (wsV RX4 130 RX4 yX4_isAct wsX4_isAct) := goodIn_app (goodIn_of _ (by decide +kernel)) ggX4_tellsMost_X4_isAct
set_option maxRecDepth 20000 in
theorem ggX4_tellsMost_X4_mostLeft : GoodIn wsX4_tellsMost wsX4_mostLeft := goodIn_r _ [15, 16, 6, 17, 18, 19, 20, 21, 22, 23, 4, 24, 25, 26, 27, 28, 29, 30, 31, 32, 33, 34, 35, 36, 37, 38, 39, 40, 41, 11, 42, 43, 44, 45, 46, 47, 48, 49, 50, 51, 52, 53, 54, 55, 56, 57, 58, 59] (by decide +kernel) (by decide +kernel)
set_option maxRecDepth 20000 in
theorem gX4_tellsMost_X4_mostLeft : GoodIn wsX4_tellsMost (wsV RX4 191 RX4 yX4_mostLeft wsX4_mostLeft) := goodIn_app (goodIn_of _ (by decide +kernel)) ggX4_tellsMost_X4_mostLeft
theorem dX4_tellsMost_0 : decode cX4_tellsMost 0 = .ok (.iconst (-1), 1) := by decide +kernel
theorem dX4_tellsMost_1 : decode cX4_tellsMost 1 = .ok (.istore_n 1, 1) := by decide +kernel
theorem dX4_tellsMost_2 : decode cX4_tellsMost 2 = .ok (.aload_n 0, 1) := by decide +kernel
theorem dX4_tellsMost_3 : decode cX4_tellsMost 3 = .ok (.invokevirtual 179, 3) := by decide +kernel
theorem dX4_tellsMost_6 : decode cX4_tellsMost 6 = .ok (.istore_n 2, 1) := by decide +kernel
theorem dX4_tellsMost_7 : decode cX4_tellsMost 7 = .ok (.bipush 6, 2) := by decide +kernel
theorem dX4_tellsMost_9 : decode cX4_tellsMost 9 = .ok (.istore_n 3, 1) := by decide +kernel
theorem dX4_tellsMost_10 : decode cX4_tellsMost 10 = .ok (.iload_n 3, 1) := by decide +kernel
theorem dX4_tellsMost_11 : decode cX4_tellsMost 11 = .ok (.bipush 15, 2) := by decide +kernel
theorem dX4_tellsMost_13 : decode cX4_tellsMost 13 = .ok (.if_icmp .ge 44, 3) := by decide +kernel
theorem dX4_tellsMost_16 : decode cX4_tellsMost 16 = .ok (.aload_n 0, 1) := by decide +kernel
theorem dX4_tellsMost_17 : decode cX4_tellsMost 17 = .ok (.iload_n 3, 1) := by decide +kernel
theorem dX4_tellsMost_18 : decode cX4_tellsMost 18 = .ok (.invokevirtual 130, 3) := by decide +kernel
theorem dX4_tellsMost_21 : decode cX4_tellsMost 21 = .ok (.ifCond .eq 11, 3) := by decide +kernel
theorem dX4_tellsMost_24 : decode cX4_tellsMost 24 = .ok (.aload_n 0, 1) := by decide +kernel
theorem dX4_tellsMost_25 : decode cX4_tellsMost 25 = .ok (.iload_n 3, 1) := by decide +kernel
theorem dX4_tellsMost_26 : decode cX4_tellsMost 26 = .ok (.invokevirtual 191, 3) := by decide +kernel
theorem dX4_tellsMost_29 : decode cX4_tellsMost 29 = .ok (.goto 6, 3) := by decide +kernel
theorem dX4_tellsMost_32 : decode cX4_tellsMost 32 = .ok (.sipush 1000, 3) := by decide +kernel
theorem dX4_tellsMost_35 : decode cX4_tellsMost 35 = .ok (.istore 4, 2) := by decide +kernel
theorem dX4_tellsMost_37 : decode cX4_tellsMost 37 = .ok (.iload 4, 2) := by decide +kernel
theorem dX4_tellsMost_39 : decode cX4_tellsMost 39 = .ok (.iload_n 2, 1) := by decide +kernel
theorem dX4_tellsMost_40 : decode cX4_tellsMost 40 = .ok (.if_icmp .lt 6, 3) := by decide +kernel
theorem dX4_tellsMost_43 : decode cX4_tellsMost 43 = .ok (.goto 8, 3) := by decide +kernel
theorem dX4_tellsMost_46 : decode cX4_tellsMost 46 = .ok (.iload_n 3, 1) := by decide +kernel
theorem dX4_tellsMost_47 : decode cX4_tellsMost 47 = .ok (.istore_n 1, 1) := by decide +kernel
theorem dX4_tellsMost_48 : decode cX4_tellsMost 48 = .ok (.iload 4, 2) := by decide +kernel
theorem dX4_tellsMost_50 : decode cX4_tellsMost 50 = .ok (.istore_n 2, 1) := by decide +kernel
theorem dX4_tellsMost_51 : decode cX4_tellsMost 51 = .ok (.iinc 3 1, 3) := by decide +kernel
theorem dX4_tellsMost_54 : decode cX4_tellsMost 54 = .ok (.goto (-44), 3) := by decide +kernel
theorem dX4_tellsMost_57 : decode cX4_tellsMost 57 = .ok (.iload_n 1, 1) := by decide +kernel
theorem dX4_tellsMost_58 : decode cX4_tellsMost 58 = .ok (.ireturn, 1) := by decide +kernel
set_option maxRecDepth 20000 in
theorem ggX4_bestPour_X4_tellsMost : GoodIn wsX4_bestPour wsX4_tellsMost := goodIn_r _ [5, 6, 7, 8, 4, 9, 10, 11, 12, 13, 14, 15, 16, 17, 18, 19, 20, 21, 22, 23, 24, 25, 26, 27, 28, 29, 30, 31, 32, 33, 34, 35, 36, 37, 38, 39, 40, 41, 42, 43, 44, 45, 51, 52, 53, 54, 55, 56, 57, 58, 59, 60, 61, 62, 63, 64, 65, 66, 67, 68] (by decide +kernel) (by decide +kernel)
set_option maxRecDepth 20000 in
theorem gX4_bestPour_X4_tellsMost : GoodIn wsX4_bestPour (wsV RX4 194 RX4 yX4_tellsMost wsX4_tellsMost) := goodIn_app (goodIn_of _ (by decide +kernel)) ggX4_bestPour_X4_tellsMost
set_option maxRecDepth 20000 in
theorem ggX4_bestPour_X4_ok : GoodIn wsX4_bestPour wsX4_ok := goodIn_r _ [49, 50, 51, 52, 53, 54, 55, 56, 57, 58, 59, 60, 61, 62, 63, 64, 65, 66, 67, 68] (by decide +kernel) (by decide +kernel)
set_option maxRecDepth 20000 in
theorem gX4_bestPour_X4_ok : GoodIn wsX4_bestPour (wsV RX4 155 RX4 yX4_ok wsX4_ok) := goodIn_app (goodIn_of _ (by decide +kernel)) ggX4_bestPour_X4_ok
theorem dX4_bestPour_0 : decode cX4_bestPour 0 = .ok (.aload_n 0, 1) := by decide +kernel
theorem dX4_bestPour_1 : decode cX4_bestPour 1 = .ok (.aload_n 0, 1) := by decide +kernel
theorem dX4_bestPour_2 : decode cX4_bestPour 2 = .ok (.invokevirtual 194, 3) := by decide +kernel
theorem dX4_bestPour_5 : decode cX4_bestPour 5 = .ok (.invokevirtual 155, 3) := by decide +kernel
theorem dX4_bestPour_8 : decode cX4_bestPour 8 = .ok (.ireturn, 1) := by decide +kernel
set_option maxRecDepth 20000 in
theorem ggX4_meanAmount_X4_all : GoodIn wsX4_meanAmount wsX4_all := goodIn_r _ [7, 8, 9, 10, 11, 12, 13, 14, 15, 16, 17, 18, 19, 20, 21, 22, 23, 24, 25, 26] (by decide +kernel) (by decide +kernel)
set_option maxRecDepth 20000 in
theorem gX4_meanAmount_X4_all : GoodIn wsX4_meanAmount (wsV RX4 161 RX4 yX4_all wsX4_all) := goodIn_app (goodIn_of _ (by decide +kernel)) ggX4_meanAmount_X4_all
theorem dX4_meanAmount_0 : decode cX4_meanAmount 0 = .ok (.aload_n 0, 1) := by decide +kernel
theorem dX4_meanAmount_1 : decode cX4_meanAmount 1 = .ok (.iconst 0, 1) := by decide +kernel
theorem dX4_meanAmount_2 : decode cX4_meanAmount 2 = .ok (.putfield 42, 3) := by decide +kernel
theorem dX4_meanAmount_5 : decode cX4_meanAmount 5 = .ok (.aload_n 0, 1) := by decide +kernel
theorem dX4_meanAmount_6 : decode cX4_meanAmount 6 = .ok (.invokevirtual 161, 3) := by decide +kernel
theorem dX4_meanAmount_9 : decode cX4_meanAmount 9 = .ok (.i2d, 1) := by decide +kernel
theorem dX4_meanAmount_10 : decode cX4_meanAmount 10 = .ok (.aload_n 0, 1) := by decide +kernel
theorem dX4_meanAmount_11 : decode cX4_meanAmount 11 = .ok (.getfield 46, 3) := by decide +kernel
theorem dX4_meanAmount_14 : decode cX4_meanAmount 14 = .ok (.i2d, 1) := by decide +kernel
theorem dX4_meanAmount_15 : decode cX4_meanAmount 15 = .ok (.ddiv, 1) := by decide +kernel
theorem dX4_meanAmount_16 : decode cX4_meanAmount 16 = .ok (.dreturn, 1) := by decide +kernel
theorem dX4_bit_0 : decode cX4_bit 0 = .ok (.iload_n 0, 1) := by decide +kernel
theorem dX4_bit_1 : decode cX4_bit 1 = .ok (.ifCond .eq 7, 3) := by decide +kernel
theorem dX4_bit_4 : decode cX4_bit 4 = .ok (.iconst 1, 1) := by decide +kernel
theorem dX4_bit_5 : decode cX4_bit 5 = .ok (.goto 4, 3) := by decide +kernel
theorem dX4_bit_8 : decode cX4_bit 8 = .ok (.iconst 0, 1) := by decide +kernel
theorem dX4_bit_9 : decode cX4_bit 9 = .ok (.ireturn, 1) := by decide +kernel
set_option maxRecDepth 20000 in
theorem ggX4_digest_X4_all : GoodIn wsX4_digest wsX4_all := goodIn_r _ [18, 13, 99, 100, 101, 102, 103, 104, 105, 106, 107, 108, 109, 110, 111, 112, 113, 114, 115, 116] (by decide +kernel) (by decide +kernel)
set_option maxRecDepth 20000 in
theorem gX4_digest_X4_all : GoodIn wsX4_digest (wsV RX4 161 RX4 yX4_all wsX4_all) := goodIn_app (goodIn_of _ (by decide +kernel)) ggX4_digest_X4_all
set_option maxRecDepth 20000 in
theorem ggX4_digest_X4_left : GoodIn wsX4_digest wsX4_left := goodIn_r _ [22, 23, 99, 100, 101, 102, 103, 104, 105, 106, 107, 108, 109, 110, 111, 112, 113, 114, 115, 116] (by decide +kernel) (by decide +kernel)
set_option maxRecDepth 20000 in
theorem gX4_digest_X4_left : GoodIn wsX4_digest (wsV RX4 179 RX4 yX4_left wsX4_left) := goodIn_app (goodIn_of _ (by decide +kernel)) ggX4_digest_X4_left
set_option maxRecDepth 20000 in
theorem ggX4_digest_X4_toHave : GoodIn wsX4_digest wsX4_toHave := goodIn_r _ [27, 28, 29, 30, 17, 31, 13, 32, 33, 34, 35, 36, 37, 38, 39, 40, 41, 42, 43, 44, 45, 46, 47, 48, 49, 50, 3, 51, 52, 53, 54, 55, 12, 56, 57, 58, 59, 60, 61, 62, 63, 64, 65, 66, 67, 68, 69, 70, 71, 72, 73, 74, 75, 76, 77, 78, 79, 99, 100, 101, 102, 103, 104, 105, 106, 107, 108, 109, 110, 111, 112, 113, 114, 115, 116] (by decide +kernel) (by decide +kernel)
set_option maxRecDepth 20000 in
theorem gX4_digest_X4_toHave : GoodIn wsX4_digest (wsV RX4 167 RX4 yX4_toHave wsX4_toHave) := goodIn_app (goodIn_of _ (by decide +kernel)) ggX4_digest_X4_toHave
set_option maxRecDepth 20000 in
theorem ggX4_digest_X4_toReach : GoodIn wsX4_digest wsX4_toReach := goodIn_r _ [83, 36, 28, 29, 30, 17, 31, 13, 39, 40, 41, 42, 38, 37, 43, 44, 45, 46, 47, 48, 49, 50, 3, 51, 52, 53, 54, 55, 12, 56, 57, 58, 59, 60, 61, 62, 63, 64, 65, 66, 67, 68, 69, 70, 71, 99, 100, 101, 102, 103, 104, 105, 106, 107, 108, 109, 110, 111, 112, 113, 114, 115, 116] (by decide +kernel) (by decide +kernel)
set_option maxRecDepth 20000 in
theorem gX4_digest_X4_toReach : GoodIn wsX4_digest (wsV RX4 170 RX4 yX4_toReach wsX4_toReach) := goodIn_app (goodIn_of _ (by decide +kernel)) ggX4_digest_X4_toReach
set_option maxRecDepth 20000 in
theorem ggX4_digest_X4_farthestOne : GoodIn wsX4_digest wsX4_farthestOne := goodIn_r _ [87, 38, 37, 36, 28, 29, 30, 17, 31, 13, 39, 40, 41, 42, 43, 44, 45, 46, 47, 48, 49, 50, 3, 51, 52, 53, 54, 55, 12, 56, 57, 58, 59, 60, 61, 62, 63, 64, 65, 66, 67, 68, 69, 70, 71, 99, 100, 101, 102, 103, 104, 105, 106, 107, 108, 109, 110, 111, 112, 113, 114, 115, 116] (by decide +kernel) (by decide +kernel)
set_option maxRecDepth 20000 in
theorem gX4_digest_X4_farthestOne : GoodIn wsX4_digest (wsV RX4 176 RX4 yX4_farthestOne wsX4_farthestOne) := goodIn_app (goodIn_of _ (by decide +kernel)) ggX4_digest_X4_farthestOne
set_option maxRecDepth 20000 in
theorem ggX4_digest_X4_bit : GoodIn wsX4_digest wsX4_bit := goodIn_r _ [90] (by decide +kernel) (by decide +kernel)
set_option maxRecDepth 20000 in
theorem gX4_digest_X4_bit : GoodIn wsX4_digest (va_wsS RX4 201 yX4_bit wsX4_bit) := goodIn_app (goodIn_of _ (by decide +kernel)) ggX4_digest_X4_bit
set_option maxRecDepth 20000 in
theorem ggX4_digest_X4_known : GoodIn wsX4_digest wsX4_known := goodIn_r _ [94, 95, 96, 97, 17, 98, 23, 57, 58, 59, 99, 100, 101, 102, 103, 104, 105, 106, 107, 108, 109, 110, 111, 112, 113, 114, 115, 116] (by decide +kernel) (by decide +kernel)
set_option maxRecDepth 20000 in
theorem gX4_digest_X4_known : GoodIn wsX4_digest (wsV RX4 185 RX4 yX4_known wsX4_known) := goodIn_app (goodIn_of _ (by decide +kernel)) ggX4_digest_X4_known
set_option maxRecDepth 20000 in
theorem ggX4_digest_X4_may : GoodIn wsX4_digest wsX4_may := goodIn_r _ [98, 23, 57, 58, 17, 59, 99, 100, 101, 102, 103, 104, 105, 106, 107, 108, 109, 110, 111, 112, 113, 114, 115, 116] (by decide +kernel) (by decide +kernel)
set_option maxRecDepth 20000 in
theorem gX4_digest_X4_may : GoodIn wsX4_digest (wsV RX4 182 RX4 yX4_may wsX4_may) := goodIn_app (goodIn_of _ (by decide +kernel)) ggX4_digest_X4_may
set_option maxRecDepth 20000 in
theorem ggX4_digest_X4_state : GoodIn wsX4_digest wsX4_state := goodIn_r _ [31, 13, 99, 100, 101, 102, 103, 104, 105, 106, 107, 108, 109, 110, 111, 112, 113, 114, 115, 116] (by decide +kernel) (by decide +kernel)
set_option maxRecDepth 20000 in
theorem gX4_digest_X4_state : GoodIn wsX4_digest (wsV RX4 84 RX4 yX4_state wsX4_state) := goodIn_app (goodIn_of _ (by decide +kernel)) ggX4_digest_X4_state
set_option maxRecDepth 20000 in
theorem ggX4_digest_X4_leastFrom : GoodIn wsX4_digest wsX4_leastFrom := goodIn_r _ [35, 36, 37, 38, 39, 40, 41, 17, 42, 43, 44, 45, 46, 47, 48, 49, 50, 3, 51, 52, 53, 54, 55, 12, 56, 57, 58, 59, 60, 61, 62, 63, 64, 65, 66, 67, 68, 69, 70, 71, 72, 73, 74, 75, 76, 77, 78, 79, 99, 100, 101, 102, 103, 104, 105, 106, 107, 108, 109, 110, 111, 112, 113, 114, 115, 116] (by decide +kernel) (by decide +kernel)
set_option maxRecDepth 20000 in
theorem gX4_digest_X4_leastFrom : GoodIn wsX4_digest (wsV RX4 146 RX4 yX4_leastFrom wsX4_leastFrom) := goodIn_app (goodIn_of _ (by decide +kernel)) ggX4_digest_X4_leastFrom
theorem dX4_digest_0 : decode cX4_digest 0 = .ok (.aload_n 0, 1) := by decide +kernel
theorem dX4_digest_1 : decode cX4_digest 1 = .ok (.iconst 0, 1) := by decide +kernel
theorem dX4_digest_2 : decode cX4_digest 2 = .ok (.putfield 42, 3) := by decide +kernel
theorem dX4_digest_5 : decode cX4_digest 5 = .ok (.bipush 12, 2) := by decide +kernel
theorem dX4_digest_7 : decode cX4_digest 7 = .ok (.newarray .int, 2) := by decide +kernel
theorem dX4_digest_9 : decode cX4_digest 9 = .ok (.dup, 1) := by decide +kernel
theorem dX4_digest_10 : decode cX4_digest 10 = .ok (.iconst 0, 1) := by decide +kernel
theorem dX4_digest_11 : decode cX4_digest 11 = .ok (.aload_n 0, 1) := by decide +kernel
theorem dX4_digest_12 : decode cX4_digest 12 = .ok (.getfield 46, 3) := by decide +kernel
theorem dX4_digest_15 : decode cX4_digest 15 = .ok (.iastore, 1) := by decide +kernel
theorem dX4_digest_16 : decode cX4_digest 16 = .ok (.dup, 1) := by decide +kernel
theorem dX4_digest_17 : decode cX4_digest 17 = .ok (.iconst 1, 1) := by decide +kernel
theorem dX4_digest_18 : decode cX4_digest 18 = .ok (.aload_n 0, 1) := by decide +kernel
theorem dX4_digest_19 : decode cX4_digest 19 = .ok (.invokevirtual 161, 3) := by decide +kernel
theorem dX4_digest_22 : decode cX4_digest 22 = .ok (.iastore, 1) := by decide +kernel
theorem dX4_digest_23 : decode cX4_digest 23 = .ok (.dup, 1) := by decide +kernel
theorem dX4_digest_24 : decode cX4_digest 24 = .ok (.iconst 2, 1) := by decide +kernel
theorem dX4_digest_25 : decode cX4_digest 25 = .ok (.aload_n 0, 1) := by decide +kernel
theorem dX4_digest_26 : decode cX4_digest 26 = .ok (.getfield 57, 3) := by decide +kernel
theorem dX4_digest_29 : decode cX4_digest 29 = .ok (.iastore, 1) := by decide +kernel
theorem dX4_digest_30 : decode cX4_digest 30 = .ok (.dup, 1) := by decide +kernel
theorem dX4_digest_31 : decode cX4_digest 31 = .ok (.iconst 3, 1) := by decide +kernel
theorem dX4_digest_32 : decode cX4_digest 32 = .ok (.aload_n 0, 1) := by decide +kernel
theorem dX4_digest_33 : decode cX4_digest 33 = .ok (.getfield 60, 3) := by decide +kernel
theorem dX4_digest_36 : decode cX4_digest 36 = .ok (.iastore, 1) := by decide +kernel
theorem dX4_digest_37 : decode cX4_digest 37 = .ok (.dup, 1) := by decide +kernel
theorem dX4_digest_38 : decode cX4_digest 38 = .ok (.iconst 4, 1) := by decide +kernel
theorem dX4_digest_39 : decode cX4_digest 39 = .ok (.aload_n 0, 1) := by decide +kernel
theorem dX4_digest_40 : decode cX4_digest 40 = .ok (.getfield 63, 3) := by decide +kernel
theorem dX4_digest_43 : decode cX4_digest 43 = .ok (.iastore, 1) := by decide +kernel
theorem dX4_digest_44 : decode cX4_digest 44 = .ok (.dup, 1) := by decide +kernel
theorem dX4_digest_45 : decode cX4_digest 45 = .ok (.iconst 5, 1) := by decide +kernel
theorem dX4_digest_46 : decode cX4_digest 46 = .ok (.aload_n 0, 1) := by decide +kernel
theorem dX4_digest_47 : decode cX4_digest 47 = .ok (.getfield 66, 3) := by decide +kernel
theorem dX4_digest_50 : decode cX4_digest 50 = .ok (.iastore, 1) := by decide +kernel
theorem dX4_digest_51 : decode cX4_digest 51 = .ok (.dup, 1) := by decide +kernel
theorem dX4_digest_52 : decode cX4_digest 52 = .ok (.bipush 6, 2) := by decide +kernel
theorem dX4_digest_54 : decode cX4_digest 54 = .ok (.aload_n 0, 1) := by decide +kernel
theorem dX4_digest_55 : decode cX4_digest 55 = .ok (.invokevirtual 179, 3) := by decide +kernel
theorem dX4_digest_58 : decode cX4_digest 58 = .ok (.iastore, 1) := by decide +kernel
theorem dX4_digest_59 : decode cX4_digest 59 = .ok (.dup, 1) := by decide +kernel
theorem dX4_digest_60 : decode cX4_digest 60 = .ok (.bipush 7, 2) := by decide +kernel
theorem dX4_digest_62 : decode cX4_digest 62 = .ok (.aload_n 0, 1) := by decide +kernel
theorem dX4_digest_63 : decode cX4_digest 63 = .ok (.getfield 69, 3) := by decide +kernel
theorem dX4_digest_66 : decode cX4_digest 66 = .ok (.iastore, 1) := by decide +kernel
theorem dX4_digest_67 : decode cX4_digest 67 = .ok (.dup, 1) := by decide +kernel
theorem dX4_digest_68 : decode cX4_digest 68 = .ok (.bipush 8, 2) := by decide +kernel
theorem dX4_digest_70 : decode cX4_digest 70 = .ok (.aload_n 0, 1) := by decide +kernel
theorem dX4_digest_71 : decode cX4_digest 71 = .ok (.getfield 72, 3) := by decide +kernel
theorem dX4_digest_74 : decode cX4_digest 74 = .ok (.iastore, 1) := by decide +kernel
theorem dX4_digest_75 : decode cX4_digest 75 = .ok (.dup, 1) := by decide +kernel
theorem dX4_digest_76 : decode cX4_digest 76 = .ok (.bipush 9, 2) := by decide +kernel
theorem dX4_digest_78 : decode cX4_digest 78 = .ok (.aload_n 0, 1) := by decide +kernel
theorem dX4_digest_79 : decode cX4_digest 79 = .ok (.invokevirtual 167, 3) := by decide +kernel
theorem dX4_digest_82 : decode cX4_digest 82 = .ok (.iastore, 1) := by decide +kernel
theorem dX4_digest_83 : decode cX4_digest 83 = .ok (.dup, 1) := by decide +kernel
theorem dX4_digest_84 : decode cX4_digest 84 = .ok (.bipush 10, 2) := by decide +kernel
theorem dX4_digest_86 : decode cX4_digest 86 = .ok (.aload_n 0, 1) := by decide +kernel
theorem dX4_digest_87 : decode cX4_digest 87 = .ok (.invokevirtual 170, 3) := by decide +kernel
theorem dX4_digest_90 : decode cX4_digest 90 = .ok (.iastore, 1) := by decide +kernel
theorem dX4_digest_91 : decode cX4_digest 91 = .ok (.dup, 1) := by decide +kernel
theorem dX4_digest_92 : decode cX4_digest 92 = .ok (.bipush 11, 2) := by decide +kernel
theorem dX4_digest_94 : decode cX4_digest 94 = .ok (.aload_n 0, 1) := by decide +kernel
theorem dX4_digest_95 : decode cX4_digest 95 = .ok (.invokevirtual 176, 3) := by decide +kernel
theorem dX4_digest_98 : decode cX4_digest 98 = .ok (.iastore, 1) := by decide +kernel
theorem dX4_digest_99 : decode cX4_digest 99 = .ok (.astore_n 1, 1) := by decide +kernel
theorem dX4_digest_100 : decode cX4_digest 100 = .ok (.ldc2_w 197, 3) := by decide +kernel
theorem dX4_digest_103 : decode cX4_digest 103 = .ok (.lstore_n 2, 1) := by decide +kernel
theorem dX4_digest_104 : decode cX4_digest 104 = .ok (.aload_n 1, 1) := by decide +kernel
theorem dX4_digest_105 : decode cX4_digest 105 = .ok (.astore 4, 2) := by decide +kernel
theorem dX4_digest_107 : decode cX4_digest 107 = .ok (.aload 4, 2) := by decide +kernel
theorem dX4_digest_109 : decode cX4_digest 109 = .ok (.arraylength, 1) := by decide +kernel
theorem dX4_digest_110 : decode cX4_digest 110 = .ok (.istore 5, 2) := by decide +kernel
theorem dX4_digest_112 : decode cX4_digest 112 = .ok (.iconst 0, 1) := by decide +kernel
theorem dX4_digest_113 : decode cX4_digest 113 = .ok (.istore 6, 2) := by decide +kernel
theorem dX4_digest_115 : decode cX4_digest 115 = .ok (.iload 6, 2) := by decide +kernel
theorem dX4_digest_117 : decode cX4_digest 117 = .ok (.iload 5, 2) := by decide +kernel
theorem dX4_digest_119 : decode cX4_digest 119 = .ok (.if_icmp .ge 26, 3) := by decide +kernel
theorem dX4_digest_122 : decode cX4_digest 122 = .ok (.aload 4, 2) := by decide +kernel
theorem dX4_digest_124 : decode cX4_digest 124 = .ok (.iload 6, 2) := by decide +kernel
theorem dX4_digest_126 : decode cX4_digest 126 = .ok (.iaload, 1) := by decide +kernel
theorem dX4_digest_127 : decode cX4_digest 127 = .ok (.istore 7, 2) := by decide +kernel
theorem dX4_digest_129 : decode cX4_digest 129 = .ok (.lload_n 2, 1) := by decide +kernel
theorem dX4_digest_130 : decode cX4_digest 130 = .ok (.ldc2_w 199, 3) := by decide +kernel
theorem dX4_digest_133 : decode cX4_digest 133 = .ok (.lmul, 1) := by decide +kernel
theorem dX4_digest_134 : decode cX4_digest 134 = .ok (.iload 7, 2) := by decide +kernel
theorem dX4_digest_136 : decode cX4_digest 136 = .ok (.i2l, 1) := by decide +kernel
theorem dX4_digest_137 : decode cX4_digest 137 = .ok (.ladd, 1) := by decide +kernel
theorem dX4_digest_138 : decode cX4_digest 138 = .ok (.lstore_n 2, 1) := by decide +kernel
theorem dX4_digest_139 : decode cX4_digest 139 = .ok (.iinc 6 1, 3) := by decide +kernel
theorem dX4_digest_142 : decode cX4_digest 142 = .ok (.goto (-27), 3) := by decide +kernel
theorem dX4_digest_145 : decode cX4_digest 145 = .ok (.iconst 0, 1) := by decide +kernel
theorem dX4_digest_146 : decode cX4_digest 146 = .ok (.istore 4, 2) := by decide +kernel
theorem dX4_digest_148 : decode cX4_digest 148 = .ok (.iload 4, 2) := by decide +kernel
theorem dX4_digest_150 : decode cX4_digest 150 = .ok (.aload_n 0, 1) := by decide +kernel
theorem dX4_digest_151 : decode cX4_digest 151 = .ok (.getfield 46, 3) := by decide +kernel
theorem dX4_digest_154 : decode cX4_digest 154 = .ok (.if_icmp .ge 146, 3) := by decide +kernel
theorem dX4_digest_157 : decode cX4_digest 157 = .ok (.lload_n 2, 1) := by decide +kernel
theorem dX4_digest_158 : decode cX4_digest 158 = .ok (.ldc2_w 199, 3) := by decide +kernel
theorem dX4_digest_161 : decode cX4_digest 161 = .ok (.lmul, 1) := by decide +kernel
theorem dX4_digest_162 : decode cX4_digest 162 = .ok (.aload_n 0, 1) := by decide +kernel
theorem dX4_digest_163 : decode cX4_digest 163 = .ok (.getfield 9, 3) := by decide +kernel
theorem dX4_digest_166 : decode cX4_digest 166 = .ok (.iload 4, 2) := by decide +kernel
theorem dX4_digest_168 : decode cX4_digest 168 = .ok (.iaload, 1) := by decide +kernel
theorem dX4_digest_169 : decode cX4_digest 169 = .ok (.i2l, 1) := by decide +kernel
theorem dX4_digest_170 : decode cX4_digest 170 = .ok (.ladd, 1) := by decide +kernel
theorem dX4_digest_171 : decode cX4_digest 171 = .ok (.ldc2_w 199, 3) := by decide +kernel
theorem dX4_digest_174 : decode cX4_digest 174 = .ok (.lmul, 1) := by decide +kernel
theorem dX4_digest_175 : decode cX4_digest 175 = .ok (.aload_n 0, 1) := by decide +kernel
theorem dX4_digest_176 : decode cX4_digest 176 = .ok (.getfield 13, 3) := by decide +kernel
theorem dX4_digest_179 : decode cX4_digest 179 = .ok (.iload 4, 2) := by decide +kernel
theorem dX4_digest_181 : decode cX4_digest 181 = .ok (.iaload, 1) := by decide +kernel
theorem dX4_digest_182 : decode cX4_digest 182 = .ok (.i2l, 1) := by decide +kernel
theorem dX4_digest_183 : decode cX4_digest 183 = .ok (.ladd, 1) := by decide +kernel
theorem dX4_digest_184 : decode cX4_digest 184 = .ok (.lstore_n 2, 1) := by decide +kernel
theorem dX4_digest_185 : decode cX4_digest 185 = .ok (.lload_n 2, 1) := by decide +kernel
theorem dX4_digest_186 : decode cX4_digest 186 = .ok (.ldc2_w 199, 3) := by decide +kernel
theorem dX4_digest_189 : decode cX4_digest 189 = .ok (.lmul, 1) := by decide +kernel
theorem dX4_digest_190 : decode cX4_digest 190 = .ok (.aload_n 0, 1) := by decide +kernel
theorem dX4_digest_191 : decode cX4_digest 191 = .ok (.getfield 13, 3) := by decide +kernel
theorem dX4_digest_194 : decode cX4_digest 194 = .ok (.iload 4, 2) := by decide +kernel
theorem dX4_digest_196 : decode cX4_digest 196 = .ok (.iaload, 1) := by decide +kernel
theorem dX4_digest_197 : decode cX4_digest 197 = .ok (.ifCond .ne 7, 3) := by decide +kernel
theorem dX4_digest_200 : decode cX4_digest 200 = .ok (.iconst 1, 1) := by decide +kernel
theorem dX4_digest_201 : decode cX4_digest 201 = .ok (.goto 4, 3) := by decide +kernel
theorem dX4_digest_204 : decode cX4_digest 204 = .ok (.iconst 0, 1) := by decide +kernel
theorem dX4_digest_205 : decode cX4_digest 205 = .ok (.invokestatic 201, 3) := by decide +kernel
theorem dX4_digest_208 : decode cX4_digest 208 = .ok (.i2l, 1) := by decide +kernel
theorem dX4_digest_209 : decode cX4_digest 209 = .ok (.ladd, 1) := by decide +kernel
theorem dX4_digest_210 : decode cX4_digest 210 = .ok (.ldc2_w 199, 3) := by decide +kernel
theorem dX4_digest_213 : decode cX4_digest 213 = .ok (.lmul, 1) := by decide +kernel
theorem dX4_digest_214 : decode cX4_digest 214 = .ok (.aload_n 0, 1) := by decide +kernel
theorem dX4_digest_215 : decode cX4_digest 215 = .ok (.getfield 13, 3) := by decide +kernel
theorem dX4_digest_218 : decode cX4_digest 218 = .ok (.iload 4, 2) := by decide +kernel
theorem dX4_digest_220 : decode cX4_digest 220 = .ok (.iaload, 1) := by decide +kernel
theorem dX4_digest_221 : decode cX4_digest 221 = .ok (.aload_n 0, 1) := by decide +kernel
theorem dX4_digest_222 : decode cX4_digest 222 = .ok (.getfield 9, 3) := by decide +kernel
theorem dX4_digest_225 : decode cX4_digest 225 = .ok (.iload 4, 2) := by decide +kernel
theorem dX4_digest_227 : decode cX4_digest 227 = .ok (.iaload, 1) := by decide +kernel
theorem dX4_digest_228 : decode cX4_digest 228 = .ok (.if_icmp .ne 7, 3) := by decide +kernel
theorem dX4_digest_231 : decode cX4_digest 231 = .ok (.iconst 1, 1) := by decide +kernel
theorem dX4_digest_232 : decode cX4_digest 232 = .ok (.goto 4, 3) := by decide +kernel
theorem dX4_digest_235 : decode cX4_digest 235 = .ok (.iconst 0, 1) := by decide +kernel
theorem dX4_digest_236 : decode cX4_digest 236 = .ok (.invokestatic 201, 3) := by decide +kernel
theorem dX4_digest_239 : decode cX4_digest 239 = .ok (.i2l, 1) := by decide +kernel
theorem dX4_digest_240 : decode cX4_digest 240 = .ok (.ladd, 1) := by decide +kernel
theorem dX4_digest_241 : decode cX4_digest 241 = .ok (.lstore_n 2, 1) := by decide +kernel
theorem dX4_digest_242 : decode cX4_digest 242 = .ok (.lload_n 2, 1) := by decide +kernel
theorem dX4_digest_243 : decode cX4_digest 243 = .ok (.ldc2_w 199, 3) := by decide +kernel
theorem dX4_digest_246 : decode cX4_digest 246 = .ok (.lmul, 1) := by decide +kernel
theorem dX4_digest_247 : decode cX4_digest 247 = .ok (.aload_n 0, 1) := by decide +kernel
theorem dX4_digest_248 : decode cX4_digest 248 = .ok (.iload 4, 2) := by decide +kernel
theorem dX4_digest_250 : decode cX4_digest 250 = .ok (.invokevirtual 185, 3) := by decide +kernel
theorem dX4_digest_253 : decode cX4_digest 253 = .ok (.invokestatic 201, 3) := by decide +kernel
theorem dX4_digest_256 : decode cX4_digest 256 = .ok (.i2l, 1) := by decide +kernel
theorem dX4_digest_257 : decode cX4_digest 257 = .ok (.ladd, 1) := by decide +kernel
theorem dX4_digest_258 : decode cX4_digest 258 = .ok (.lstore_n 2, 1) := by decide +kernel
theorem dX4_digest_259 : decode cX4_digest 259 = .ok (.iconst 1, 1) := by decide +kernel
theorem dX4_digest_260 : decode cX4_digest 260 = .ok (.istore 5, 2) := by decide +kernel
theorem dX4_digest_262 : decode cX4_digest 262 = .ok (.iload 5, 2) := by decide +kernel
theorem dX4_digest_264 : decode cX4_digest 264 = .ok (.bipush 9, 2) := by decide +kernel
theorem dX4_digest_266 : decode cX4_digest 266 = .ok (.if_icmp .gt 28, 3) := by decide +kernel
theorem dX4_digest_269 : decode cX4_digest 269 = .ok (.lload_n 2, 1) := by decide +kernel
theorem dX4_digest_270 : decode cX4_digest 270 = .ok (.ldc2_w 199, 3) := by decide +kernel
theorem dX4_digest_273 : decode cX4_digest 273 = .ok (.lmul, 1) := by decide +kernel
theorem dX4_digest_274 : decode cX4_digest 274 = .ok (.aload_n 0, 1) := by decide +kernel
theorem dX4_digest_275 : decode cX4_digest 275 = .ok (.iload 4, 2) := by decide +kernel
theorem dX4_digest_277 : decode cX4_digest 277 = .ok (.iload 5, 2) := by decide +kernel
theorem dX4_digest_279 : decode cX4_digest 279 = .ok (.invokevirtual 182, 3) := by decide +kernel
theorem dX4_digest_282 : decode cX4_digest 282 = .ok (.invokestatic 201, 3) := by decide +kernel
theorem dX4_digest_285 : decode cX4_digest 285 = .ok (.i2l, 1) := by decide +kernel
theorem dX4_digest_286 : decode cX4_digest 286 = .ok (.ladd, 1) := by decide +kernel
theorem dX4_digest_287 : decode cX4_digest 287 = .ok (.lstore_n 2, 1) := by decide +kernel
theorem dX4_digest_288 : decode cX4_digest 288 = .ok (.iinc 5 1, 3) := by decide +kernel
theorem dX4_digest_291 : decode cX4_digest 291 = .ok (.goto (-29), 3) := by decide +kernel
theorem dX4_digest_294 : decode cX4_digest 294 = .ok (.iinc 4 1, 3) := by decide +kernel
theorem dX4_digest_297 : decode cX4_digest 297 = .ok (.goto (-149), 3) := by decide +kernel
theorem dX4_digest_300 : decode cX4_digest 300 = .ok (.iconst 0, 1) := by decide +kernel
theorem dX4_digest_301 : decode cX4_digest 301 = .ok (.istore 4, 2) := by decide +kernel
theorem dX4_digest_303 : decode cX4_digest 303 = .ok (.iload 4, 2) := by decide +kernel
theorem dX4_digest_305 : decode cX4_digest 305 = .ok (.bipush 10, 2) := by decide +kernel
theorem dX4_digest_307 : decode cX4_digest 307 = .ok (.if_icmp .ge 27, 3) := by decide +kernel
theorem dX4_digest_310 : decode cX4_digest 310 = .ok (.lload_n 2, 1) := by decide +kernel
theorem dX4_digest_311 : decode cX4_digest 311 = .ok (.ldc2_w 199, 3) := by decide +kernel
theorem dX4_digest_314 : decode cX4_digest 314 = .ok (.lmul, 1) := by decide +kernel
theorem dX4_digest_315 : decode cX4_digest 315 = .ok (.aload_n 0, 1) := by decide +kernel
theorem dX4_digest_316 : decode cX4_digest 316 = .ok (.aload_n 0, 1) := by decide +kernel
theorem dX4_digest_317 : decode cX4_digest 317 = .ok (.invokevirtual 84, 3) := by decide +kernel
theorem dX4_digest_320 : decode cX4_digest 320 = .ok (.iload 4, 2) := by decide +kernel
theorem dX4_digest_322 : decode cX4_digest 322 = .ok (.invokevirtual 146, 3) := by decide +kernel
theorem dX4_digest_325 : decode cX4_digest 325 = .ok (.i2l, 1) := by decide +kernel
theorem dX4_digest_326 : decode cX4_digest 326 = .ok (.ladd, 1) := by decide +kernel
theorem dX4_digest_327 : decode cX4_digest 327 = .ok (.lstore_n 2, 1) := by decide +kernel
theorem dX4_digest_328 : decode cX4_digest 328 = .ok (.iinc 4 1, 3) := by decide +kernel
theorem dX4_digest_331 : decode cX4_digest 331 = .ok (.goto (-28), 3) := by decide +kernel
theorem dX4_digest_334 : decode cX4_digest 334 = .ok (.lload_n 2, 1) := by decide +kernel
theorem dX4_digest_335 : decode cX4_digest 335 = .ok (.lreturn, 1) := by decide +kernel
