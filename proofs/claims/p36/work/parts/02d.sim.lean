set_option maxRecDepth 20000 in
theorem ggX4_init_X4_rows : GoodIn wsX4_init wsX4_rows := goodIn_r _ [12, 13, 4] (by decide +kernel) (by decide +kernel)
set_option maxRecDepth 20000 in
theorem gX4_init_X4_rows : GoodIn wsX4_init (va_wsS RX4 19 yX4_rows wsX4_rows) := goodIn_app (goodIn_of _ (by decide +kernel)) ggX4_init_X4_rows
theorem dX4_init_0 : decode cX4_init 0 = .ok (.aload_n 0, 1) := by decide +kernel
theorem dX4_init_1 : decode cX4_init 1 = .ok (.invokespecial 1, 3) := by decide +kernel
theorem dX4_init_4 : decode cX4_init 4 = .ok (.aload_n 0, 1) := by decide +kernel
theorem dX4_init_5 : decode cX4_init 5 = .ok (.iconst 2, 1) := by decide +kernel
theorem dX4_init_6 : decode cX4_init 6 = .ok (.newarray .int, 2) := by decide +kernel
theorem dX4_init_8 : decode cX4_init 8 = .ok (.dup, 1) := by decide +kernel
theorem dX4_init_9 : decode cX4_init 9 = .ok (.iconst 0, 1) := by decide +kernel
theorem dX4_init_10 : decode cX4_init 10 = .ok (.iconst 1, 1) := by decide +kernel
theorem dX4_init_11 : decode cX4_init 11 = .ok (.iastore, 1) := by decide +kernel
theorem dX4_init_12 : decode cX4_init 12 = .ok (.dup, 1) := by decide +kernel
theorem dX4_init_13 : decode cX4_init 13 = .ok (.iconst 1, 1) := by decide +kernel
theorem dX4_init_14 : decode cX4_init 14 = .ok (.iconst 1, 1) := by decide +kernel
theorem dX4_init_15 : decode cX4_init 15 = .ok (.iastore, 1) := by decide +kernel
theorem dX4_init_16 : decode cX4_init 16 = .ok (.putfield 7, 3) := by decide +kernel
theorem dX4_init_19 : decode cX4_init 19 = .ok (.aload_n 0, 1) := by decide +kernel
theorem dX4_init_20 : decode cX4_init 20 = .ok (.iconst 2, 1) := by decide +kernel
theorem dX4_init_21 : decode cX4_init 21 = .ok (.newarray .int, 2) := by decide +kernel
theorem dX4_init_23 : decode cX4_init 23 = .ok (.dup, 1) := by decide +kernel
theorem dX4_init_24 : decode cX4_init 24 = .ok (.iconst 0, 1) := by decide +kernel
theorem dX4_init_25 : decode cX4_init 25 = .ok (.iconst 0, 1) := by decide +kernel
theorem dX4_init_26 : decode cX4_init 26 = .ok (.iastore, 1) := by decide +kernel
theorem dX4_init_27 : decode cX4_init 27 = .ok (.dup, 1) := by decide +kernel
theorem dX4_init_28 : decode cX4_init 28 = .ok (.iconst 1, 1) := by decide +kernel
theorem dX4_init_29 : decode cX4_init 29 = .ok (.iconst 0, 1) := by decide +kernel
theorem dX4_init_30 : decode cX4_init 30 = .ok (.iastore, 1) := by decide +kernel
theorem dX4_init_31 : decode cX4_init 31 = .ok (.putfield 13, 3) := by decide +kernel
theorem dX4_init_34 : decode cX4_init 34 = .ok (.aload_n 0, 1) := by decide +kernel
theorem dX4_init_35 : decode cX4_init 35 = .ok (.bipush 6, 2) := by decide +kernel
theorem dX4_init_37 : decode cX4_init 37 = .ok (.newarray .int, 2) := by decide +kernel
theorem dX4_init_39 : decode cX4_init 39 = .ok (.putfield 16, 3) := by decide +kernel
theorem dX4_init_42 : decode cX4_init 42 = .ok (.aload_n 0, 1) := by decide +kernel
theorem dX4_init_43 : decode cX4_init 43 = .ok (.iconst 2, 1) := by decide +kernel
theorem dX4_init_44 : decode cX4_init 44 = .ok (.invokestatic 19, 3) := by decide +kernel
theorem dX4_init_47 : decode cX4_init 47 = .ok (.putfield 23, 3) := by decide +kernel
theorem dX4_init_50 : decode cX4_init 50 = .ok (.return_, 1) := by decide +kernel
theorem dX4_rows_0 : decode cX4_rows 0 = .ok (.iload_n 0, 1) := by decide +kernel
theorem dX4_rows_1 : decode cX4_rows 1 = .ok (.iconst 2, 1) := by decide +kernel
theorem dX4_rows_2 : decode cX4_rows 2 = .ok (.if_icmp .ne 8, 3) := by decide +kernel
theorem dX4_rows_5 : decode cX4_rows 5 = .ok (.bipush 81, 2) := by decide +kernel
theorem dX4_rows_7 : decode cX4_rows 7 = .ok (.goto 6, 3) := by decide +kernel
theorem dX4_rows_10 : decode cX4_rows 10 = .ok (.sipush 729, 3) := by decide +kernel
theorem dX4_rows_13 : decode cX4_rows 13 = .ok (.istore_n 1, 1) := by decide +kernel
theorem dX4_rows_14 : decode cX4_rows 14 = .ok (.iload_n 1, 1) := by decide +kernel
theorem dX4_rows_15 : decode cX4_rows 15 = .ok (.anewarray 27, 3) := by decide +kernel
theorem dX4_rows_18 : decode cX4_rows 18 = .ok (.astore_n 2, 1) := by decide +kernel
theorem dX4_rows_19 : decode cX4_rows 19 = .ok (.iconst 0, 1) := by decide +kernel
theorem dX4_rows_20 : decode cX4_rows 20 = .ok (.istore_n 3, 1) := by decide +kernel
theorem dX4_rows_21 : decode cX4_rows 21 = .ok (.iload_n 3, 1) := by decide +kernel
theorem dX4_rows_22 : decode cX4_rows 22 = .ok (.iload_n 1, 1) := by decide +kernel
theorem dX4_rows_23 : decode cX4_rows 23 = .ok (.if_icmp .ge 95, 3) := by decide +kernel
theorem dX4_rows_26 : decode cX4_rows 26 = .ok (.aload_n 2, 1) := by decide +kernel
theorem dX4_rows_27 : decode cX4_rows 27 = .ok (.iload_n 3, 1) := by decide +kernel
theorem dX4_rows_28 : decode cX4_rows 28 = .ok (.iload_n 0, 1) := by decide +kernel
theorem dX4_rows_29 : decode cX4_rows 29 = .ok (.iconst 2, 1) := by decide +kernel
theorem dX4_rows_30 : decode cX4_rows 30 = .ok (.if_icmp .ne 35, 3) := by decide +kernel
theorem dX4_rows_33 : decode cX4_rows 33 = .ok (.iconst 4, 1) := by decide +kernel
theorem dX4_rows_34 : decode cX4_rows 34 = .ok (.newarray .int, 2) := by decide +kernel
theorem dX4_rows_36 : decode cX4_rows 36 = .ok (.dup, 1) := by decide +kernel
theorem dX4_rows_37 : decode cX4_rows 37 = .ok (.iconst 0, 1) := by decide +kernel
theorem dX4_rows_38 : decode cX4_rows 38 = .ok (.iconst 1, 1) := by decide +kernel
theorem dX4_rows_39 : decode cX4_rows 39 = .ok (.iload_n 3, 1) := by decide +kernel
theorem dX4_rows_40 : decode cX4_rows 40 = .ok (.bipush 9, 2) := by decide +kernel
theorem dX4_rows_42 : decode cX4_rows 42 = .ok (.irem, 1) := by decide +kernel
theorem dX4_rows_43 : decode cX4_rows 43 = .ok (.iadd, 1) := by decide +kernel
theorem dX4_rows_44 : decode cX4_rows 44 = .ok (.iastore, 1) := by decide +kernel
theorem dX4_rows_45 : decode cX4_rows 45 = .ok (.dup, 1) := by decide +kernel
theorem dX4_rows_46 : decode cX4_rows 46 = .ok (.iconst 1, 1) := by decide +kernel
theorem dX4_rows_47 : decode cX4_rows 47 = .ok (.iconst 1, 1) := by decide +kernel
theorem dX4_rows_48 : decode cX4_rows 48 = .ok (.iload_n 3, 1) := by decide +kernel
theorem dX4_rows_49 : decode cX4_rows 49 = .ok (.bipush 9, 2) := by decide +kernel
theorem dX4_rows_51 : decode cX4_rows 51 = .ok (.idiv, 1) := by decide +kernel
theorem dX4_rows_52 : decode cX4_rows 52 = .ok (.iadd, 1) := by decide +kernel
theorem dX4_rows_53 : decode cX4_rows 53 = .ok (.iastore, 1) := by decide +kernel
theorem dX4_rows_54 : decode cX4_rows 54 = .ok (.dup, 1) := by decide +kernel
theorem dX4_rows_55 : decode cX4_rows 55 = .ok (.iconst 2, 1) := by decide +kernel
theorem dX4_rows_56 : decode cX4_rows 56 = .ok (.iconst 0, 1) := by decide +kernel
theorem dX4_rows_57 : decode cX4_rows 57 = .ok (.iastore, 1) := by decide +kernel
theorem dX4_rows_58 : decode cX4_rows 58 = .ok (.dup, 1) := by decide +kernel
theorem dX4_rows_59 : decode cX4_rows 59 = .ok (.iconst 3, 1) := by decide +kernel
theorem dX4_rows_60 : decode cX4_rows 60 = .ok (.iconst 0, 1) := by decide +kernel
theorem dX4_rows_61 : decode cX4_rows 61 = .ok (.iastore, 1) := by decide +kernel
theorem dX4_rows_62 : decode cX4_rows 62 = .ok (.goto 49, 3) := by decide +kernel
theorem dX4_rows_65 : decode cX4_rows 65 = .ok (.bipush 6, 2) := by decide +kernel
theorem dX4_rows_67 : decode cX4_rows 67 = .ok (.newarray .int, 2) := by decide +kernel
theorem dX4_rows_69 : decode cX4_rows 69 = .ok (.dup, 1) := by decide +kernel
theorem dX4_rows_70 : decode cX4_rows 70 = .ok (.iconst 0, 1) := by decide +kernel
theorem dX4_rows_71 : decode cX4_rows 71 = .ok (.iconst 1, 1) := by decide +kernel
theorem dX4_rows_72 : decode cX4_rows 72 = .ok (.iload_n 3, 1) := by decide +kernel
theorem dX4_rows_73 : decode cX4_rows 73 = .ok (.bipush 9, 2) := by decide +kernel
theorem dX4_rows_75 : decode cX4_rows 75 = .ok (.irem, 1) := by decide +kernel
theorem dX4_rows_76 : decode cX4_rows 76 = .ok (.iadd, 1) := by decide +kernel
theorem dX4_rows_77 : decode cX4_rows 77 = .ok (.iastore, 1) := by decide +kernel
theorem dX4_rows_78 : decode cX4_rows 78 = .ok (.dup, 1) := by decide +kernel
theorem dX4_rows_79 : decode cX4_rows 79 = .ok (.iconst 1, 1) := by decide +kernel
theorem dX4_rows_80 : decode cX4_rows 80 = .ok (.iconst 1, 1) := by decide +kernel
theorem dX4_rows_81 : decode cX4_rows 81 = .ok (.iload_n 3, 1) := by decide +kernel
theorem dX4_rows_82 : decode cX4_rows 82 = .ok (.bipush 9, 2) := by decide +kernel
theorem dX4_rows_84 : decode cX4_rows 84 = .ok (.idiv, 1) := by decide +kernel
theorem dX4_rows_85 : decode cX4_rows 85 = .ok (.bipush 9, 2) := by decide +kernel
theorem dX4_rows_87 : decode cX4_rows 87 = .ok (.irem, 1) := by decide +kernel
theorem dX4_rows_88 : decode cX4_rows 88 = .ok (.iadd, 1) := by decide +kernel
theorem dX4_rows_89 : decode cX4_rows 89 = .ok (.iastore, 1) := by decide +kernel
theorem dX4_rows_90 : decode cX4_rows 90 = .ok (.dup, 1) := by decide +kernel
theorem dX4_rows_91 : decode cX4_rows 91 = .ok (.iconst 2, 1) := by decide +kernel
theorem dX4_rows_92 : decode cX4_rows 92 = .ok (.iconst 1, 1) := by decide +kernel
theorem dX4_rows_93 : decode cX4_rows 93 = .ok (.iload_n 3, 1) := by decide +kernel
theorem dX4_rows_94 : decode cX4_rows 94 = .ok (.bipush 81, 2) := by decide +kernel
theorem dX4_rows_96 : decode cX4_rows 96 = .ok (.idiv, 1) := by decide +kernel
theorem dX4_rows_97 : decode cX4_rows 97 = .ok (.iadd, 1) := by decide +kernel
theorem dX4_rows_98 : decode cX4_rows 98 = .ok (.iastore, 1) := by decide +kernel
theorem dX4_rows_99 : decode cX4_rows 99 = .ok (.dup, 1) := by decide +kernel
theorem dX4_rows_100 : decode cX4_rows 100 = .ok (.iconst 3, 1) := by decide +kernel
theorem dX4_rows_101 : decode cX4_rows 101 = .ok (.iconst 0, 1) := by decide +kernel
theorem dX4_rows_102 : decode cX4_rows 102 = .ok (.iastore, 1) := by decide +kernel
theorem dX4_rows_103 : decode cX4_rows 103 = .ok (.dup, 1) := by decide +kernel
theorem dX4_rows_104 : decode cX4_rows 104 = .ok (.iconst 4, 1) := by decide +kernel
theorem dX4_rows_105 : decode cX4_rows 105 = .ok (.iconst 0, 1) := by decide +kernel
theorem dX4_rows_106 : decode cX4_rows 106 = .ok (.iastore, 1) := by decide +kernel
theorem dX4_rows_107 : decode cX4_rows 107 = .ok (.dup, 1) := by decide +kernel
theorem dX4_rows_108 : decode cX4_rows 108 = .ok (.iconst 5, 1) := by decide +kernel
theorem dX4_rows_109 : decode cX4_rows 109 = .ok (.iconst 0, 1) := by decide +kernel
theorem dX4_rows_110 : decode cX4_rows 110 = .ok (.iastore, 1) := by decide +kernel
theorem dX4_rows_111 : decode cX4_rows 111 = .ok (.aastore, 1) := by decide +kernel
theorem dX4_rows_112 : decode cX4_rows 112 = .ok (.iinc 3 1, 3) := by decide +kernel
theorem dX4_rows_115 : decode cX4_rows 115 = .ok (.goto (-94), 3) := by decide +kernel
theorem dX4_rows_118 : decode cX4_rows 118 = .ok (.aload_n 2, 1) := by decide +kernel
theorem dX4_rows_119 : decode cX4_rows 119 = .ok (.areturn, 1) := by decide +kernel
set_option maxRecDepth 20000 in
theorem ggX4_layOut_X4_rows : GoodIn wsX4_layOut wsX4_rows := goodIn_r _ [9, 10, 1] (by decide +kernel) (by decide +kernel)
set_option maxRecDepth 20000 in
theorem gX4_layOut_X4_rows : GoodIn wsX4_layOut (va_wsS RX4 19 yX4_rows wsX4_rows) := goodIn_app (goodIn_of _ (by decide +kernel)) ggX4_layOut_X4_rows
theorem dX4_layOut_0 : decode cX4_layOut 0 = .ok (.aload_n 0, 1) := by decide +kernel
theorem dX4_layOut_1 : decode cX4_layOut 1 = .ok (.iload_n 3, 1) := by decide +kernel
theorem dX4_layOut_2 : decode cX4_layOut 2 = .ok (.ifCond .ne 17, 3) := by decide +kernel
theorem dX4_layOut_5 : decode cX4_layOut 5 = .ok (.iconst 2, 1) := by decide +kernel
theorem dX4_layOut_6 : decode cX4_layOut 6 = .ok (.newarray .int, 2) := by decide +kernel
theorem dX4_layOut_8 : decode cX4_layOut 8 = .ok (.dup, 1) := by decide +kernel
theorem dX4_layOut_9 : decode cX4_layOut 9 = .ok (.iconst 0, 1) := by decide +kernel
theorem dX4_layOut_10 : decode cX4_layOut 10 = .ok (.iload_n 1, 1) := by decide +kernel
theorem dX4_layOut_11 : decode cX4_layOut 11 = .ok (.iastore, 1) := by decide +kernel
theorem dX4_layOut_12 : decode cX4_layOut 12 = .ok (.dup, 1) := by decide +kernel
theorem dX4_layOut_13 : decode cX4_layOut 13 = .ok (.iconst 1, 1) := by decide +kernel
theorem dX4_layOut_14 : decode cX4_layOut 14 = .ok (.iload_n 2, 1) := by decide +kernel
theorem dX4_layOut_15 : decode cX4_layOut 15 = .ok (.iastore, 1) := by decide +kernel
theorem dX4_layOut_16 : decode cX4_layOut 16 = .ok (.goto 18, 3) := by decide +kernel
theorem dX4_layOut_19 : decode cX4_layOut 19 = .ok (.iconst 3, 1) := by decide +kernel
theorem dX4_layOut_20 : decode cX4_layOut 20 = .ok (.newarray .int, 2) := by decide +kernel
theorem dX4_layOut_22 : decode cX4_layOut 22 = .ok (.dup, 1) := by decide +kernel
theorem dX4_layOut_23 : decode cX4_layOut 23 = .ok (.iconst 0, 1) := by decide +kernel
theorem dX4_layOut_24 : decode cX4_layOut 24 = .ok (.iload_n 1, 1) := by decide +kernel
theorem dX4_layOut_25 : decode cX4_layOut 25 = .ok (.iastore, 1) := by decide +kernel
theorem dX4_layOut_26 : decode cX4_layOut 26 = .ok (.dup, 1) := by decide +kernel
theorem dX4_layOut_27 : decode cX4_layOut 27 = .ok (.iconst 1, 1) := by decide +kernel
theorem dX4_layOut_28 : decode cX4_layOut 28 = .ok (.iload_n 2, 1) := by decide +kernel
theorem dX4_layOut_29 : decode cX4_layOut 29 = .ok (.iastore, 1) := by decide +kernel
theorem dX4_layOut_30 : decode cX4_layOut 30 = .ok (.dup, 1) := by decide +kernel
theorem dX4_layOut_31 : decode cX4_layOut 31 = .ok (.iconst 2, 1) := by decide +kernel
theorem dX4_layOut_32 : decode cX4_layOut 32 = .ok (.iload_n 3, 1) := by decide +kernel
theorem dX4_layOut_33 : decode cX4_layOut 33 = .ok (.iastore, 1) := by decide +kernel
theorem dX4_layOut_34 : decode cX4_layOut 34 = .ok (.putfield 7, 3) := by decide +kernel
theorem dX4_layOut_37 : decode cX4_layOut 37 = .ok (.aload_n 0, 1) := by decide +kernel
theorem dX4_layOut_38 : decode cX4_layOut 38 = .ok (.aload_n 0, 1) := by decide +kernel
theorem dX4_layOut_39 : decode cX4_layOut 39 = .ok (.getfield 7, 3) := by decide +kernel
theorem dX4_layOut_42 : decode cX4_layOut 42 = .ok (.arraylength, 1) := by decide +kernel
theorem dX4_layOut_43 : decode cX4_layOut 43 = .ok (.newarray .int, 2) := by decide +kernel
theorem dX4_layOut_45 : decode cX4_layOut 45 = .ok (.putfield 13, 3) := by decide +kernel
theorem dX4_layOut_48 : decode cX4_layOut 48 = .ok (.aload_n 0, 1) := by decide +kernel
theorem dX4_layOut_49 : decode cX4_layOut 49 = .ok (.bipush 6, 2) := by decide +kernel
theorem dX4_layOut_51 : decode cX4_layOut 51 = .ok (.newarray .int, 2) := by decide +kernel
theorem dX4_layOut_53 : decode cX4_layOut 53 = .ok (.putfield 16, 3) := by decide +kernel
theorem dX4_layOut_56 : decode cX4_layOut 56 = .ok (.aload_n 0, 1) := by decide +kernel
theorem dX4_layOut_57 : decode cX4_layOut 57 = .ok (.aload_n 0, 1) := by decide +kernel
theorem dX4_layOut_58 : decode cX4_layOut 58 = .ok (.getfield 7, 3) := by decide +kernel
theorem dX4_layOut_61 : decode cX4_layOut 61 = .ok (.arraylength, 1) := by decide +kernel
theorem dX4_layOut_62 : decode cX4_layOut 62 = .ok (.invokestatic 19, 3) := by decide +kernel
theorem dX4_layOut_65 : decode cX4_layOut 65 = .ok (.putfield 23, 3) := by decide +kernel
theorem dX4_layOut_68 : decode cX4_layOut 68 = .ok (.return_, 1) := by decide +kernel
theorem dX4_act_0 : decode cX4_act 0 = .ok (.aload_n 2, 1) := by decide +kernel
theorem dX4_act_1 : decode cX4_act 1 = .ok (.iload_n 0, 1) := by decide +kernel
theorem dX4_act_2 : decode cX4_act 2 = .ok (.iconst 3, 1) := by decide +kernel
theorem dX4_act_3 : decode cX4_act 3 = .ok (.irem, 1) := by decide +kernel
theorem dX4_act_4 : decode cX4_act 4 = .ok (.iaload, 1) := by decide +kernel
theorem dX4_act_5 : decode cX4_act 5 = .ok (.istore_n 3, 1) := by decide +kernel
theorem dX4_act_6 : decode cX4_act 6 = .ok (.iload_n 0, 1) := by decide +kernel
theorem dX4_act_7 : decode cX4_act 7 = .ok (.iconst 3, 1) := by decide +kernel
theorem dX4_act_8 : decode cX4_act 8 = .ok (.if_icmp .ge 15, 3) := by decide +kernel
theorem dX4_act_11 : decode cX4_act 11 = .ok (.aload_n 2, 1) := by decide +kernel
theorem dX4_act_12 : decode cX4_act 12 = .ok (.iload_n 0, 1) := by decide +kernel
theorem dX4_act_13 : decode cX4_act 13 = .ok (.aload_n 1, 1) := by decide +kernel
theorem dX4_act_14 : decode cX4_act 14 = .ok (.iload_n 0, 1) := by decide +kernel
theorem dX4_act_15 : decode cX4_act 15 = .ok (.iaload, 1) := by decide +kernel
theorem dX4_act_16 : decode cX4_act 16 = .ok (.iastore, 1) := by decide +kernel
theorem dX4_act_17 : decode cX4_act 17 = .ok (.aload_n 1, 1) := by decide +kernel
theorem dX4_act_18 : decode cX4_act 18 = .ok (.iload_n 0, 1) := by decide +kernel
theorem dX4_act_19 : decode cX4_act 19 = .ok (.iaload, 1) := by decide +kernel
theorem dX4_act_20 : decode cX4_act 20 = .ok (.iload_n 3, 1) := by decide +kernel
theorem dX4_act_21 : decode cX4_act 21 = .ok (.isub, 1) := by decide +kernel
theorem dX4_act_22 : decode cX4_act 22 = .ok (.ireturn, 1) := by decide +kernel
theorem dX4_act_23 : decode cX4_act 23 = .ok (.iload_n 0, 1) := by decide +kernel
theorem dX4_act_24 : decode cX4_act 24 = .ok (.bipush 6, 2) := by decide +kernel
theorem dX4_act_26 : decode cX4_act 26 = .ok (.if_icmp .ge 11, 3) := by decide +kernel
theorem dX4_act_29 : decode cX4_act 29 = .ok (.aload_n 2, 1) := by decide +kernel
theorem dX4_act_30 : decode cX4_act 30 = .ok (.iload_n 0, 1) := by decide +kernel
theorem dX4_act_31 : decode cX4_act 31 = .ok (.iconst 3, 1) := by decide +kernel
theorem dX4_act_32 : decode cX4_act 32 = .ok (.isub, 1) := by decide +kernel
theorem dX4_act_33 : decode cX4_act 33 = .ok (.iconst 0, 1) := by decide +kernel
theorem dX4_act_34 : decode cX4_act 34 = .ok (.iastore, 1) := by decide +kernel
theorem dX4_act_35 : decode cX4_act 35 = .ok (.iload_n 3, 1) := by decide +kernel
theorem dX4_act_36 : decode cX4_act 36 = .ok (.ireturn, 1) := by decide +kernel
theorem dX4_act_37 : decode cX4_act 37 = .ok (.iload_n 0, 1) := by decide +kernel
theorem dX4_act_38 : decode cX4_act 38 = .ok (.iconst 3, 1) := by decide +kernel
theorem dX4_act_39 : decode cX4_act 39 = .ok (.idiv, 1) := by decide +kernel
theorem dX4_act_40 : decode cX4_act 40 = .ok (.iconst 2, 1) := by decide +kernel
theorem dX4_act_41 : decode cX4_act 41 = .ok (.isub, 1) := by decide +kernel
theorem dX4_act_42 : decode cX4_act 42 = .ok (.istore 4, 2) := by decide +kernel
theorem dX4_act_44 : decode cX4_act 44 = .ok (.iload_n 0, 1) := by decide +kernel
theorem dX4_act_45 : decode cX4_act 45 = .ok (.iconst 3, 1) := by decide +kernel
theorem dX4_act_46 : decode cX4_act 46 = .ok (.irem, 1) := by decide +kernel
theorem dX4_act_47 : decode cX4_act 47 = .ok (.istore 5, 2) := by decide +kernel
theorem dX4_act_49 : decode cX4_act 49 = .ok (.iconst 0, 1) := by decide +kernel
theorem dX4_act_50 : decode cX4_act 50 = .ok (.istore 6, 2) := by decide +kernel
theorem dX4_act_52 : decode cX4_act 52 = .ok (.aload_n 2, 1) := by decide +kernel
theorem dX4_act_53 : decode cX4_act 53 = .ok (.iload 4, 2) := by decide +kernel
theorem dX4_act_55 : decode cX4_act 55 = .ok (.iaload, 1) := by decide +kernel
theorem dX4_act_56 : decode cX4_act 56 = .ok (.ifCond .le 36, 3) := by decide +kernel
theorem dX4_act_59 : decode cX4_act 59 = .ok (.aload_n 2, 1) := by decide +kernel
theorem dX4_act_60 : decode cX4_act 60 = .ok (.iload 5, 2) := by decide +kernel
theorem dX4_act_62 : decode cX4_act 62 = .ok (.iaload, 1) := by decide +kernel
theorem dX4_act_63 : decode cX4_act 63 = .ok (.aload_n 1, 1) := by decide +kernel
theorem dX4_act_64 : decode cX4_act 64 = .ok (.iload 5, 2) := by decide +kernel
theorem dX4_act_66 : decode cX4_act 66 = .ok (.iaload, 1) := by decide +kernel
theorem dX4_act_67 : decode cX4_act 67 = .ok (.if_icmp .ge 25, 3) := by decide +kernel
theorem dX4_act_70 : decode cX4_act 70 = .ok (.aload_n 2, 1) := by decide +kernel
theorem dX4_act_71 : decode cX4_act 71 = .ok (.iload 4, 2) := by decide +kernel
theorem dX4_act_73 : decode cX4_act 73 = .ok (.dup2, 1) := by decide +kernel
theorem dX4_act_74 : decode cX4_act 74 = .ok (.iaload, 1) := by decide +kernel
theorem dX4_act_75 : decode cX4_act 75 = .ok (.iconst 1, 1) := by decide +kernel
theorem dX4_act_76 : decode cX4_act 76 = .ok (.isub, 1) := by decide +kernel
theorem dX4_act_77 : decode cX4_act 77 = .ok (.iastore, 1) := by decide +kernel
theorem dX4_act_78 : decode cX4_act 78 = .ok (.aload_n 2, 1) := by decide +kernel
theorem dX4_act_79 : decode cX4_act 79 = .ok (.iload 5, 2) := by decide +kernel
theorem dX4_act_81 : decode cX4_act 81 = .ok (.dup2, 1) := by decide +kernel
theorem dX4_act_82 : decode cX4_act 82 = .ok (.iaload, 1) := by decide +kernel
theorem dX4_act_83 : decode cX4_act 83 = .ok (.iconst 1, 1) := by decide +kernel
theorem dX4_act_84 : decode cX4_act 84 = .ok (.iadd, 1) := by decide +kernel
theorem dX4_act_85 : decode cX4_act 85 = .ok (.iastore, 1) := by decide +kernel
theorem dX4_act_86 : decode cX4_act 86 = .ok (.iinc 6 1, 3) := by decide +kernel
theorem dX4_act_89 : decode cX4_act 89 = .ok (.goto (-37), 3) := by decide +kernel
theorem dX4_act_92 : decode cX4_act 92 = .ok (.iload 6, 2) := by decide +kernel
theorem dX4_act_94 : decode cX4_act 94 = .ok (.ireturn, 1) := by decide +kernel
theorem dX4_can_0 : decode cX4_can 0 = .ok (.aload_n 0, 1) := by decide +kernel
theorem dX4_can_1 : decode cX4_can 1 = .ok (.getfield 7, 3) := by decide +kernel
theorem dX4_can_4 : decode cX4_can 4 = .ok (.arraylength, 1) := by decide +kernel
theorem dX4_can_5 : decode cX4_can 5 = .ok (.istore_n 2, 1) := by decide +kernel
theorem dX4_can_6 : decode cX4_can 6 = .ok (.iload_n 1, 1) := by decide +kernel
theorem dX4_can_7 : decode cX4_can 7 = .ok (.iconst 3, 1) := by decide +kernel
theorem dX4_can_8 : decode cX4_can 8 = .ok (.irem, 1) := by decide +kernel
theorem dX4_can_9 : decode cX4_can 9 = .ok (.iload_n 2, 1) := by decide +kernel
theorem dX4_can_10 : decode cX4_can 10 = .ok (.if_icmp .ge 33, 3) := by decide +kernel
theorem dX4_can_13 : decode cX4_can 13 = .ok (.iload_n 1, 1) := by decide +kernel
theorem dX4_can_14 : decode cX4_can 14 = .ok (.bipush 6, 2) := by decide +kernel
theorem dX4_can_16 : decode cX4_can 16 = .ok (.if_icmp .lt 23, 3) := by decide +kernel
theorem dX4_can_19 : decode cX4_can 19 = .ok (.iload_n 1, 1) := by decide +kernel
theorem dX4_can_20 : decode cX4_can 20 = .ok (.iconst 3, 1) := by decide +kernel
theorem dX4_can_21 : decode cX4_can 21 = .ok (.idiv, 1) := by decide +kernel
theorem dX4_can_22 : decode cX4_can 22 = .ok (.iconst 2, 1) := by decide +kernel
theorem dX4_can_23 : decode cX4_can 23 = .ok (.isub, 1) := by decide +kernel
theorem dX4_can_24 : decode cX4_can 24 = .ok (.iload_n 2, 1) := by decide +kernel
theorem dX4_can_25 : decode cX4_can 25 = .ok (.if_icmp .ge 18, 3) := by decide +kernel
theorem dX4_can_28 : decode cX4_can 28 = .ok (.iload_n 1, 1) := by decide +kernel
theorem dX4_can_29 : decode cX4_can 29 = .ok (.iconst 3, 1) := by decide +kernel
theorem dX4_can_30 : decode cX4_can 30 = .ok (.idiv, 1) := by decide +kernel
theorem dX4_can_31 : decode cX4_can 31 = .ok (.iconst 2, 1) := by decide +kernel
theorem dX4_can_32 : decode cX4_can 32 = .ok (.isub, 1) := by decide +kernel
theorem dX4_can_33 : decode cX4_can 33 = .ok (.iload_n 1, 1) := by decide +kernel
theorem dX4_can_34 : decode cX4_can 34 = .ok (.iconst 3, 1) := by decide +kernel
theorem dX4_can_35 : decode cX4_can 35 = .ok (.irem, 1) := by decide +kernel
theorem dX4_can_36 : decode cX4_can 36 = .ok (.if_icmp .eq 7, 3) := by decide +kernel
theorem dX4_can_39 : decode cX4_can 39 = .ok (.iconst 1, 1) := by decide +kernel
theorem dX4_can_40 : decode cX4_can 40 = .ok (.goto 4, 3) := by decide +kernel
theorem dX4_can_43 : decode cX4_can 43 = .ok (.iconst 0, 1) := by decide +kernel
theorem dX4_can_44 : decode cX4_can 44 = .ok (.ireturn, 1) := by decide +kernel
set_option maxRecDepth 20000 in
theorem ggX4_behind_X4_act : GoodIn wsX4_behind wsX4_act := goodIn_r _ [11] (by decide +kernel) (by decide +kernel)
set_option maxRecDepth 20000 in
theorem gX4_behind_X4_act : GoodIn wsX4_behind (va_wsS RX4 28 yX4_act wsX4_act) := goodIn_app (goodIn_of _ (by decide +kernel)) ggX4_behind_X4_act
theorem dX4_behind_0 : decode cX4_behind 0 = .ok (.aload_n 0, 1) := by decide +kernel
theorem dX4_behind_1 : decode cX4_behind 1 = .ok (.arraylength, 1) := by decide +kernel
theorem dX4_behind_2 : decode cX4_behind 2 = .ok (.iconst 2, 1) := by decide +kernel
theorem dX4_behind_3 : decode cX4_behind 3 = .ok (.idiv, 1) := by decide +kernel
theorem dX4_behind_4 : decode cX4_behind 4 = .ok (.istore_n 2, 1) := by decide +kernel
theorem dX4_behind_5 : decode cX4_behind 5 = .ok (.iload_n 2, 1) := by decide +kernel
theorem dX4_behind_6 : decode cX4_behind 6 = .ok (.newarray .int, 2) := by decide +kernel
theorem dX4_behind_8 : decode cX4_behind 8 = .ok (.astore_n 3, 1) := by decide +kernel
theorem dX4_behind_9 : decode cX4_behind 9 = .ok (.iload_n 2, 1) := by decide +kernel
theorem dX4_behind_10 : decode cX4_behind 10 = .ok (.newarray .int, 2) := by decide +kernel
theorem dX4_behind_12 : decode cX4_behind 12 = .ok (.astore 4, 2) := by decide +kernel
theorem dX4_behind_14 : decode cX4_behind 14 = .ok (.iconst 0, 1) := by decide +kernel
theorem dX4_behind_15 : decode cX4_behind 15 = .ok (.istore 5, 2) := by decide +kernel
theorem dX4_behind_17 : decode cX4_behind 17 = .ok (.iload 5, 2) := by decide +kernel
theorem dX4_behind_19 : decode cX4_behind 19 = .ok (.iload_n 2, 1) := by decide +kernel
theorem dX4_behind_20 : decode cX4_behind 20 = .ok (.if_icmp .ge 28, 3) := by decide +kernel
theorem dX4_behind_23 : decode cX4_behind 23 = .ok (.aload_n 3, 1) := by decide +kernel
theorem dX4_behind_24 : decode cX4_behind 24 = .ok (.iload 5, 2) := by decide +kernel
theorem dX4_behind_26 : decode cX4_behind 26 = .ok (.aload_n 0, 1) := by decide +kernel
theorem dX4_behind_27 : decode cX4_behind 27 = .ok (.iload 5, 2) := by decide +kernel
theorem dX4_behind_29 : decode cX4_behind 29 = .ok (.iaload, 1) := by decide +kernel
theorem dX4_behind_30 : decode cX4_behind 30 = .ok (.iastore, 1) := by decide +kernel
theorem dX4_behind_31 : decode cX4_behind 31 = .ok (.aload 4, 2) := by decide +kernel
theorem dX4_behind_33 : decode cX4_behind 33 = .ok (.iload 5, 2) := by decide +kernel
theorem dX4_behind_35 : decode cX4_behind 35 = .ok (.aload_n 0, 1) := by decide +kernel
theorem dX4_behind_36 : decode cX4_behind 36 = .ok (.iload_n 2, 1) := by decide +kernel
theorem dX4_behind_37 : decode cX4_behind 37 = .ok (.iload 5, 2) := by decide +kernel
theorem dX4_behind_39 : decode cX4_behind 39 = .ok (.iadd, 1) := by decide +kernel
theorem dX4_behind_40 : decode cX4_behind 40 = .ok (.iaload, 1) := by decide +kernel
theorem dX4_behind_41 : decode cX4_behind 41 = .ok (.iastore, 1) := by decide +kernel
theorem dX4_behind_42 : decode cX4_behind 42 = .ok (.iinc 5 1, 3) := by decide +kernel
theorem dX4_behind_45 : decode cX4_behind 45 = .ok (.goto (-28), 3) := by decide +kernel
theorem dX4_behind_48 : decode cX4_behind 48 = .ok (.iload_n 1, 1) := by decide +kernel
theorem dX4_behind_49 : decode cX4_behind 49 = .ok (.aload_n 3, 1) := by decide +kernel
theorem dX4_behind_50 : decode cX4_behind 50 = .ok (.aload 4, 2) := by decide +kernel
theorem dX4_behind_52 : decode cX4_behind 52 = .ok (.invokestatic 28, 3) := by decide +kernel
theorem dX4_behind_55 : decode cX4_behind 55 = .ok (.pop, 1) := by decide +kernel
theorem dX4_behind_56 : decode cX4_behind 56 = .ok (.aload_n 0, 1) := by decide +kernel
theorem dX4_behind_57 : decode cX4_behind 57 = .ok (.invokevirtual 32, 3) := by decide +kernel
theorem dX4_behind_60 : decode cX4_behind 60 = .ok (.checkcast 27, 3) := by decide +kernel
theorem dX4_behind_63 : decode cX4_behind 63 = .ok (.astore 5, 2) := by decide +kernel
theorem dX4_behind_65 : decode cX4_behind 65 = .ok (.iconst 0, 1) := by decide +kernel
theorem dX4_behind_66 : decode cX4_behind 66 = .ok (.istore 6, 2) := by decide +kernel
theorem dX4_behind_68 : decode cX4_behind 68 = .ok (.iload 6, 2) := by decide +kernel
theorem dX4_behind_70 : decode cX4_behind 70 = .ok (.iload_n 2, 1) := by decide +kernel
theorem dX4_behind_71 : decode cX4_behind 71 = .ok (.if_icmp .ge 21, 3) := by decide +kernel
theorem dX4_behind_74 : decode cX4_behind 74 = .ok (.aload 5, 2) := by decide +kernel
theorem dX4_behind_76 : decode cX4_behind 76 = .ok (.iload_n 2, 1) := by decide +kernel
theorem dX4_behind_77 : decode cX4_behind 77 = .ok (.iload 6, 2) := by decide +kernel
theorem dX4_behind_79 : decode cX4_behind 79 = .ok (.iadd, 1) := by decide +kernel
theorem dX4_behind_80 : decode cX4_behind 80 = .ok (.aload 4, 2) := by decide +kernel
theorem dX4_behind_82 : decode cX4_behind 82 = .ok (.iload 6, 2) := by decide +kernel
theorem dX4_behind_84 : decode cX4_behind 84 = .ok (.iaload, 1) := by decide +kernel
theorem dX4_behind_85 : decode cX4_behind 85 = .ok (.iastore, 1) := by decide +kernel
theorem dX4_behind_86 : decode cX4_behind 86 = .ok (.iinc 6 1, 3) := by decide +kernel
theorem dX4_behind_89 : decode cX4_behind 89 = .ok (.goto (-21), 3) := by decide +kernel
theorem dX4_behind_92 : decode cX4_behind 92 = .ok (.aload 5, 2) := by decide +kernel
theorem dX4_behind_94 : decode cX4_behind 94 = .ok (.areturn, 1) := by decide +kernel
theorem dX4_sight_0 : decode cX4_sight 0 = .ok (.aload_n 0, 1) := by decide +kernel
theorem dX4_sight_1 : decode cX4_sight 1 = .ok (.arraylength, 1) := by decide +kernel
theorem dX4_sight_2 : decode cX4_sight 2 = .ok (.iconst 2, 1) := by decide +kernel
theorem dX4_sight_3 : decode cX4_sight 3 = .ok (.idiv, 1) := by decide +kernel
theorem dX4_sight_4 : decode cX4_sight 4 = .ok (.istore_n 1, 1) := by decide +kernel
theorem dX4_sight_5 : decode cX4_sight 5 = .ok (.iconst 0, 1) := by decide +kernel
theorem dX4_sight_6 : decode cX4_sight 6 = .ok (.istore_n 2, 1) := by decide +kernel
theorem dX4_sight_7 : decode cX4_sight 7 = .ok (.iconst 0, 1) := by decide +kernel
theorem dX4_sight_8 : decode cX4_sight 8 = .ok (.istore_n 3, 1) := by decide +kernel
theorem dX4_sight_9 : decode cX4_sight 9 = .ok (.iload_n 3, 1) := by decide +kernel
theorem dX4_sight_10 : decode cX4_sight 10 = .ok (.iload_n 1, 1) := by decide +kernel
theorem dX4_sight_11 : decode cX4_sight 11 = .ok (.if_icmp .ge 42, 3) := by decide +kernel
theorem dX4_sight_14 : decode cX4_sight 14 = .ok (.iconst 3, 1) := by decide +kernel
theorem dX4_sight_15 : decode cX4_sight 15 = .ok (.iload_n 2, 1) := by decide +kernel
theorem dX4_sight_16 : decode cX4_sight 16 = .ok (.imul, 1) := by decide +kernel
theorem dX4_sight_17 : decode cX4_sight 17 = .ok (.aload_n 0, 1) := by decide +kernel
theorem dX4_sight_18 : decode cX4_sight 18 = .ok (.iload_n 1, 1) := by decide +kernel
theorem dX4_sight_19 : decode cX4_sight 19 = .ok (.iload_n 3, 1) := by decide +kernel
theorem dX4_sight_20 : decode cX4_sight 20 = .ok (.iadd, 1) := by decide +kernel
theorem dX4_sight_21 : decode cX4_sight 21 = .ok (.iaload, 1) := by decide +kernel
theorem dX4_sight_22 : decode cX4_sight 22 = .ok (.ifCond .ne 7, 3) := by decide +kernel
theorem dX4_sight_25 : decode cX4_sight 25 = .ok (.iconst 1, 1) := by decide +kernel
theorem dX4_sight_26 : decode cX4_sight 26 = .ok (.goto 19, 3) := by decide +kernel
theorem dX4_sight_29 : decode cX4_sight 29 = .ok (.aload_n 0, 1) := by decide +kernel
theorem dX4_sight_30 : decode cX4_sight 30 = .ok (.iload_n 1, 1) := by decide +kernel
theorem dX4_sight_31 : decode cX4_sight 31 = .ok (.iload_n 3, 1) := by decide +kernel
theorem dX4_sight_32 : decode cX4_sight 32 = .ok (.iadd, 1) := by decide +kernel
theorem dX4_sight_33 : decode cX4_sight 33 = .ok (.iaload, 1) := by decide +kernel
theorem dX4_sight_34 : decode cX4_sight 34 = .ok (.aload_n 0, 1) := by decide +kernel
theorem dX4_sight_35 : decode cX4_sight 35 = .ok (.iload_n 3, 1) := by decide +kernel
theorem dX4_sight_36 : decode cX4_sight 36 = .ok (.iaload, 1) := by decide +kernel
theorem dX4_sight_37 : decode cX4_sight 37 = .ok (.if_icmp .ne 7, 3) := by decide +kernel
theorem dX4_sight_40 : decode cX4_sight 40 = .ok (.iconst 2, 1) := by decide +kernel
theorem dX4_sight_41 : decode cX4_sight 41 = .ok (.goto 4, 3) := by decide +kernel
theorem dX4_sight_44 : decode cX4_sight 44 = .ok (.iconst 0, 1) := by decide +kernel
theorem dX4_sight_45 : decode cX4_sight 45 = .ok (.iadd, 1) := by decide +kernel
theorem dX4_sight_46 : decode cX4_sight 46 = .ok (.istore_n 2, 1) := by decide +kernel
theorem dX4_sight_47 : decode cX4_sight 47 = .ok (.iinc 3 1, 3) := by decide +kernel
theorem dX4_sight_50 : decode cX4_sight 50 = .ok (.goto (-41), 3) := by decide +kernel
theorem dX4_sight_53 : decode cX4_sight 53 = .ok (.iload_n 2, 1) := by decide +kernel
theorem dX4_sight_54 : decode cX4_sight 54 = .ok (.ireturn, 1) := by decide +kernel
theorem dX4_own_0 : decode cX4_own 0 = .ok (.aload_n 0, 1) := by decide +kernel
theorem dX4_own_1 : decode cX4_own 1 = .ok (.getfield 7, 3) := by decide +kernel
theorem dX4_own_4 : decode cX4_own 4 = .ok (.arraylength, 1) := by decide +kernel
theorem dX4_own_5 : decode cX4_own 5 = .ok (.istore_n 1, 1) := by decide +kernel
theorem dX4_own_6 : decode cX4_own 6 = .ok (.iconst 2, 1) := by decide +kernel
theorem dX4_own_7 : decode cX4_own 7 = .ok (.iload_n 1, 1) := by decide +kernel
theorem dX4_own_8 : decode cX4_own 8 = .ok (.imul, 1) := by decide +kernel
theorem dX4_own_9 : decode cX4_own 9 = .ok (.newarray .int, 2) := by decide +kernel
theorem dX4_own_11 : decode cX4_own 11 = .ok (.astore_n 2, 1) := by decide +kernel
theorem dX4_own_12 : decode cX4_own 12 = .ok (.iconst 0, 1) := by decide +kernel
theorem dX4_own_13 : decode cX4_own 13 = .ok (.istore_n 3, 1) := by decide +kernel
theorem dX4_own_14 : decode cX4_own 14 = .ok (.iload_n 3, 1) := by decide +kernel
theorem dX4_own_15 : decode cX4_own 15 = .ok (.iload_n 1, 1) := by decide +kernel
theorem dX4_own_16 : decode cX4_own 16 = .ok (.if_icmp .ge 29, 3) := by decide +kernel
theorem dX4_own_19 : decode cX4_own 19 = .ok (.aload_n 2, 1) := by decide +kernel
theorem dX4_own_20 : decode cX4_own 20 = .ok (.iload_n 3, 1) := by decide +kernel
theorem dX4_own_21 : decode cX4_own 21 = .ok (.aload_n 0, 1) := by decide +kernel
theorem dX4_own_22 : decode cX4_own 22 = .ok (.getfield 7, 3) := by decide +kernel
theorem dX4_own_25 : decode cX4_own 25 = .ok (.iload_n 3, 1) := by decide +kernel
theorem dX4_own_26 : decode cX4_own 26 = .ok (.iaload, 1) := by decide +kernel
theorem dX4_own_27 : decode cX4_own 27 = .ok (.iastore, 1) := by decide +kernel
theorem dX4_own_28 : decode cX4_own 28 = .ok (.aload_n 2, 1) := by decide +kernel
theorem dX4_own_29 : decode cX4_own 29 = .ok (.iload_n 1, 1) := by decide +kernel
theorem dX4_own_30 : decode cX4_own 30 = .ok (.iload_n 3, 1) := by decide +kernel
theorem dX4_own_31 : decode cX4_own 31 = .ok (.iadd, 1) := by decide +kernel
theorem dX4_own_32 : decode cX4_own 32 = .ok (.aload_n 0, 1) := by decide +kernel
theorem dX4_own_33 : decode cX4_own 33 = .ok (.getfield 13, 3) := by decide +kernel
theorem dX4_own_36 : decode cX4_own 36 = .ok (.iload_n 3, 1) := by decide +kernel
theorem dX4_own_37 : decode cX4_own 37 = .ok (.iaload, 1) := by decide +kernel
theorem dX4_own_38 : decode cX4_own 38 = .ok (.iastore, 1) := by decide +kernel
theorem dX4_own_39 : decode cX4_own 39 = .ok (.iinc 3 1, 3) := by decide +kernel
theorem dX4_own_42 : decode cX4_own 42 = .ok (.goto (-28), 3) := by decide +kernel
theorem dX4_own_45 : decode cX4_own 45 = .ok (.aload_n 2, 1) := by decide +kernel
theorem dX4_own_46 : decode cX4_own 46 = .ok (.areturn, 1) := by decide +kernel
set_option maxRecDepth 20000 in
theorem ggX4_go_X4_act : GoodIn wsX4_go wsX4_act := goodIn_r _ [9] (by decide +kernel) (by decide +kernel)
set_option maxRecDepth 20000 in
theorem gX4_go_X4_act : GoodIn wsX4_go (va_wsS RX4 28 yX4_act wsX4_act) := goodIn_app (goodIn_of _ (by decide +kernel)) ggX4_go_X4_act
set_option maxRecDepth 20000 in
theorem ggX4_go_X4_own : GoodIn wsX4_go wsX4_own := goodIn_r _ [13, 1, 14, 2, 26, 27, 28, 29] (by decide +kernel) (by decide +kernel)
set_option maxRecDepth 20000 in
theorem gX4_go_X4_own : GoodIn wsX4_go (wsV RX4 36 RX4 yX4_own wsX4_own) := goodIn_app (goodIn_of _ (by decide +kernel)) ggX4_go_X4_own
set_option maxRecDepth 20000 in
theorem ggX4_go_X4_sight : GoodIn wsX4_go wsX4_sight := goodIn_r _ [17] (by decide +kernel) (by decide +kernel)
set_option maxRecDepth 20000 in
theorem gX4_go_X4_sight : GoodIn wsX4_go (va_wsS RX4 40 yX4_sight wsX4_sight) := goodIn_app (goodIn_of _ (by decide +kernel)) ggX4_go_X4_sight
set_option maxRecDepth 20000 in
theorem ggX4_go_X4_behind : GoodIn wsX4_go wsX4_behind := goodIn_r _ [20, 14, 21, 22, 23, 24, 25, 5, 6, 7, 8, 9] (by decide +kernel) (by decide +kernel)
set_option maxRecDepth 20000 in
theorem gX4_go_X4_behind : GoodIn wsX4_go (va_wsS RX4 44 yX4_behind wsX4_behind) := goodIn_app (goodIn_of _ (by decide +kernel)) ggX4_go_X4_behind
theorem dX4_go_0 : decode cX4_go 0 = .ok (.iload_n 1, 1) := by decide +kernel
theorem dX4_go_1 : decode cX4_go 1 = .ok (.aload_n 0, 1) := by decide +kernel
theorem dX4_go_2 : decode cX4_go 2 = .ok (.getfield 7, 3) := by decide +kernel
theorem dX4_go_5 : decode cX4_go 5 = .ok (.aload_n 0, 1) := by decide +kernel
theorem dX4_go_6 : decode cX4_go 6 = .ok (.getfield 13, 3) := by decide +kernel
theorem dX4_go_9 : decode cX4_go 9 = .ok (.invokestatic 28, 3) := by decide +kernel
theorem dX4_go_12 : decode cX4_go 12 = .ok (.istore_n 2, 1) := by decide +kernel
theorem dX4_go_13 : decode cX4_go 13 = .ok (.aload_n 0, 1) := by decide +kernel
theorem dX4_go_14 : decode cX4_go 14 = .ok (.getfield 16, 3) := by decide +kernel
theorem dX4_go_17 : decode cX4_go 17 = .ok (.iconst 0, 1) := by decide +kernel
theorem dX4_go_18 : decode cX4_go 18 = .ok (.dup2, 1) := by decide +kernel
theorem dX4_go_19 : decode cX4_go 19 = .ok (.iaload, 1) := by decide +kernel
theorem dX4_go_20 : decode cX4_go 20 = .ok (.iconst 1, 1) := by decide +kernel
theorem dX4_go_21 : decode cX4_go 21 = .ok (.iadd, 1) := by decide +kernel
theorem dX4_go_22 : decode cX4_go 22 = .ok (.iastore, 1) := by decide +kernel
theorem dX4_go_23 : decode cX4_go 23 = .ok (.aload_n 0, 1) := by decide +kernel
theorem dX4_go_24 : decode cX4_go 24 = .ok (.getfield 16, 3) := by decide +kernel
theorem dX4_go_27 : decode cX4_go 27 = .ok (.iload_n 1, 1) := by decide +kernel
theorem dX4_go_28 : decode cX4_go 28 = .ok (.iconst 3, 1) := by decide +kernel
theorem dX4_go_29 : decode cX4_go 29 = .ok (.if_icmp .ge 7, 3) := by decide +kernel
theorem dX4_go_32 : decode cX4_go 32 = .ok (.iconst 3, 1) := by decide +kernel
theorem dX4_go_33 : decode cX4_go 33 = .ok (.goto 14, 3) := by decide +kernel
theorem dX4_go_36 : decode cX4_go 36 = .ok (.iload_n 1, 1) := by decide +kernel
theorem dX4_go_37 : decode cX4_go 37 = .ok (.bipush 6, 2) := by decide +kernel
theorem dX4_go_39 : decode cX4_go 39 = .ok (.if_icmp .ge 7, 3) := by decide +kernel
theorem dX4_go_42 : decode cX4_go 42 = .ok (.iconst 2, 1) := by decide +kernel
theorem dX4_go_43 : decode cX4_go 43 = .ok (.goto 4, 3) := by decide +kernel
theorem dX4_go_46 : decode cX4_go 46 = .ok (.iconst 1, 1) := by decide +kernel
theorem dX4_go_47 : decode cX4_go 47 = .ok (.dup2, 1) := by decide +kernel
theorem dX4_go_48 : decode cX4_go 48 = .ok (.iaload, 1) := by decide +kernel
theorem dX4_go_49 : decode cX4_go 49 = .ok (.iload_n 2, 1) := by decide +kernel
theorem dX4_go_50 : decode cX4_go 50 = .ok (.iadd, 1) := by decide +kernel
theorem dX4_go_51 : decode cX4_go 51 = .ok (.iastore, 1) := by decide +kernel
theorem dX4_go_52 : decode cX4_go 52 = .ok (.aload_n 0, 1) := by decide +kernel
theorem dX4_go_53 : decode cX4_go 53 = .ok (.invokevirtual 36, 3) := by decide +kernel
theorem dX4_go_56 : decode cX4_go 56 = .ok (.invokestatic 40, 3) := by decide +kernel
theorem dX4_go_59 : decode cX4_go 59 = .ok (.istore_n 3, 1) := by decide +kernel
theorem dX4_go_60 : decode cX4_go 60 = .ok (.iconst 0, 1) := by decide +kernel
theorem dX4_go_61 : decode cX4_go 61 = .ok (.istore 4, 2) := by decide +kernel
theorem dX4_go_63 : decode cX4_go 63 = .ok (.iconst 0, 1) := by decide +kernel
theorem dX4_go_64 : decode cX4_go 64 = .ok (.istore 5, 2) := by decide +kernel
theorem dX4_go_66 : decode cX4_go 66 = .ok (.iload 5, 2) := by decide +kernel
theorem dX4_go_68 : decode cX4_go 68 = .ok (.aload_n 0, 1) := by decide +kernel
theorem dX4_go_69 : decode cX4_go 69 = .ok (.getfield 23, 3) := by decide +kernel
theorem dX4_go_72 : decode cX4_go 72 = .ok (.arraylength, 1) := by decide +kernel
theorem dX4_go_73 : decode cX4_go 73 = .ok (.if_icmp .ge 43, 3) := by decide +kernel
theorem dX4_go_76 : decode cX4_go 76 = .ok (.aload_n 0, 1) := by decide +kernel
theorem dX4_go_77 : decode cX4_go 77 = .ok (.getfield 23, 3) := by decide +kernel
theorem dX4_go_80 : decode cX4_go 80 = .ok (.iload 5, 2) := by decide +kernel
theorem dX4_go_82 : decode cX4_go 82 = .ok (.aaload, 1) := by decide +kernel
theorem dX4_go_83 : decode cX4_go 83 = .ok (.iload_n 1, 1) := by decide +kernel
theorem dX4_go_84 : decode cX4_go 84 = .ok (.invokestatic 44, 3) := by decide +kernel
theorem dX4_go_87 : decode cX4_go 87 = .ok (.astore 6, 2) := by decide +kernel
theorem dX4_go_89 : decode cX4_go 89 = .ok (.aload 6, 2) := by decide +kernel
theorem dX4_go_91 : decode cX4_go 91 = .ok (.invokestatic 40, 3) := by decide +kernel
theorem dX4_go_94 : decode cX4_go 94 = .ok (.iload_n 3, 1) := by decide +kernel
theorem dX4_go_95 : decode cX4_go 95 = .ok (.if_icmp .ne 15, 3) := by decide +kernel
theorem dX4_go_98 : decode cX4_go 98 = .ok (.aload_n 0, 1) := by decide +kernel
theorem dX4_go_99 : decode cX4_go 99 = .ok (.getfield 23, 3) := by decide +kernel
theorem dX4_go_102 : decode cX4_go 102 = .ok (.iload 4, 2) := by decide +kernel
theorem dX4_go_104 : decode cX4_go 104 = .ok (.aload 6, 2) := by decide +kernel
theorem dX4_go_106 : decode cX4_go 106 = .ok (.aastore, 1) := by decide +kernel
theorem dX4_go_107 : decode cX4_go 107 = .ok (.iinc 4 1, 3) := by decide +kernel
theorem dX4_go_110 : decode cX4_go 110 = .ok (.iinc 5 1, 3) := by decide +kernel
theorem dX4_go_113 : decode cX4_go 113 = .ok (.goto (-47), 3) := by decide +kernel
theorem dX4_go_116 : decode cX4_go 116 = .ok (.iload 4, 2) := by decide +kernel
theorem dX4_go_118 : decode cX4_go 118 = .ok (.anewarray 27, 3) := by decide +kernel
theorem dX4_go_121 : decode cX4_go 121 = .ok (.astore 5, 2) := by decide +kernel
theorem dX4_go_123 : decode cX4_go 123 = .ok (.iconst 0, 1) := by decide +kernel
theorem dX4_go_124 : decode cX4_go 124 = .ok (.istore 6, 2) := by decide +kernel
theorem dX4_go_126 : decode cX4_go 126 = .ok (.iload 6, 2) := by decide +kernel
theorem dX4_go_128 : decode cX4_go 128 = .ok (.iload 4, 2) := by decide +kernel
theorem dX4_go_130 : decode cX4_go 130 = .ok (.if_icmp .ge 21, 3) := by decide +kernel
theorem dX4_go_133 : decode cX4_go 133 = .ok (.aload 5, 2) := by decide +kernel
theorem dX4_go_135 : decode cX4_go 135 = .ok (.iload 6, 2) := by decide +kernel
theorem dX4_go_137 : decode cX4_go 137 = .ok (.aload_n 0, 1) := by decide +kernel
theorem dX4_go_138 : decode cX4_go 138 = .ok (.getfield 23, 3) := by decide +kernel
theorem dX4_go_141 : decode cX4_go 141 = .ok (.iload 6, 2) := by decide +kernel
theorem dX4_go_143 : decode cX4_go 143 = .ok (.aaload, 1) := by decide +kernel
theorem dX4_go_144 : decode cX4_go 144 = .ok (.aastore, 1) := by decide +kernel
theorem dX4_go_145 : decode cX4_go 145 = .ok (.iinc 6 1, 3) := by decide +kernel
theorem dX4_go_148 : decode cX4_go 148 = .ok (.goto (-22), 3) := by decide +kernel
theorem dX4_go_151 : decode cX4_go 151 = .ok (.aload_n 0, 1) := by decide +kernel
theorem dX4_go_152 : decode cX4_go 152 = .ok (.aload 5, 2) := by decide +kernel
theorem dX4_go_154 : decode cX4_go 154 = .ok (.putfield 23, 3) := by decide +kernel
theorem dX4_go_157 : decode cX4_go 157 = .ok (.iload_n 2, 1) := by decide +kernel
theorem dX4_go_158 : decode cX4_go 158 = .ok (.ireturn, 1) := by decide +kernel
theorem dX4_may_0 : decode cX4_may 0 = .ok (.aload_n 0, 1) := by decide +kernel
theorem dX4_may_1 : decode cX4_may 1 = .ok (.getfield 23, 3) := by decide +kernel
theorem dX4_may_4 : decode cX4_may 4 = .ok (.astore_n 3, 1) := by decide +kernel
theorem dX4_may_5 : decode cX4_may 5 = .ok (.aload_n 3, 1) := by decide +kernel
theorem dX4_may_6 : decode cX4_may 6 = .ok (.arraylength, 1) := by decide +kernel
theorem dX4_may_7 : decode cX4_may 7 = .ok (.istore 4, 2) := by decide +kernel
theorem dX4_may_9 : decode cX4_may 9 = .ok (.iconst 0, 1) := by decide +kernel
theorem dX4_may_10 : decode cX4_may 10 = .ok (.istore 5, 2) := by decide +kernel
theorem dX4_may_12 : decode cX4_may 12 = .ok (.iload 5, 2) := by decide +kernel
theorem dX4_may_14 : decode cX4_may 14 = .ok (.iload 4, 2) := by decide +kernel
theorem dX4_may_16 : decode cX4_may 16 = .ok (.if_icmp .ge 25, 3) := by decide +kernel
theorem dX4_may_19 : decode cX4_may 19 = .ok (.aload_n 3, 1) := by decide +kernel
theorem dX4_may_20 : decode cX4_may 20 = .ok (.iload 5, 2) := by decide +kernel
theorem dX4_may_22 : decode cX4_may 22 = .ok (.aaload, 1) := by decide +kernel
theorem dX4_may_23 : decode cX4_may 23 = .ok (.astore 6, 2) := by decide +kernel
theorem dX4_may_25 : decode cX4_may 25 = .ok (.aload 6, 2) := by decide +kernel
theorem dX4_may_27 : decode cX4_may 27 = .ok (.iload_n 1, 1) := by decide +kernel
theorem dX4_may_28 : decode cX4_may 28 = .ok (.iaload, 1) := by decide +kernel
theorem dX4_may_29 : decode cX4_may 29 = .ok (.iload_n 2, 1) := by decide +kernel
theorem dX4_may_30 : decode cX4_may 30 = .ok (.if_icmp .ne 5, 3) := by decide +kernel
theorem dX4_may_33 : decode cX4_may 33 = .ok (.iconst 1, 1) := by decide +kernel
theorem dX4_may_34 : decode cX4_may 34 = .ok (.ireturn, 1) := by decide +kernel
theorem dX4_may_35 : decode cX4_may 35 = .ok (.iinc 5 1, 3) := by decide +kernel
theorem dX4_may_38 : decode cX4_may 38 = .ok (.goto (-26), 3) := by decide +kernel
theorem dX4_may_41 : decode cX4_may 41 = .ok (.iconst 0, 1) := by decide +kernel
theorem dX4_may_42 : decode cX4_may 42 = .ok (.ireturn, 1) := by decide +kernel
theorem dX4_guess_0 : decode cX4_guess 0 = .ok (.aload_n 0, 1) := by decide +kernel
theorem dX4_guess_1 : decode cX4_guess 1 = .ok (.getfield 7, 3) := by decide +kernel
theorem dX4_guess_4 : decode cX4_guess 4 = .ok (.iload_n 1, 1) := by decide +kernel
theorem dX4_guess_5 : decode cX4_guess 5 = .ok (.iaload, 1) := by decide +kernel
theorem dX4_guess_6 : decode cX4_guess 6 = .ok (.iload_n 2, 1) := by decide +kernel
theorem dX4_guess_7 : decode cX4_guess 7 = .ok (.if_icmp .ne 7, 3) := by decide +kernel
theorem dX4_guess_10 : decode cX4_guess 10 = .ok (.iconst 1, 1) := by decide +kernel
theorem dX4_guess_11 : decode cX4_guess 11 = .ok (.goto 4, 3) := by decide +kernel
theorem dX4_guess_14 : decode cX4_guess 14 = .ok (.iconst 0, 1) := by decide +kernel
theorem dX4_guess_15 : decode cX4_guess 15 = .ok (.istore_n 3, 1) := by decide +kernel
theorem dX4_guess_16 : decode cX4_guess 16 = .ok (.iconst 0, 1) := by decide +kernel
theorem dX4_guess_17 : decode cX4_guess 17 = .ok (.istore 4, 2) := by decide +kernel
theorem dX4_guess_19 : decode cX4_guess 19 = .ok (.aload_n 0, 1) := by decide +kernel
theorem dX4_guess_20 : decode cX4_guess 20 = .ok (.getfield 23, 3) := by decide +kernel
theorem dX4_guess_23 : decode cX4_guess 23 = .ok (.astore 5, 2) := by decide +kernel
theorem dX4_guess_25 : decode cX4_guess 25 = .ok (.aload 5, 2) := by decide +kernel
theorem dX4_guess_27 : decode cX4_guess 27 = .ok (.arraylength, 1) := by decide +kernel
theorem dX4_guess_28 : decode cX4_guess 28 = .ok (.istore 6, 2) := by decide +kernel
theorem dX4_guess_30 : decode cX4_guess 30 = .ok (.iconst 0, 1) := by decide +kernel
theorem dX4_guess_31 : decode cX4_guess 31 = .ok (.istore 7, 2) := by decide +kernel
theorem dX4_guess_33 : decode cX4_guess 33 = .ok (.iload 7, 2) := by decide +kernel
theorem dX4_guess_35 : decode cX4_guess 35 = .ok (.iload 6, 2) := by decide +kernel
theorem dX4_guess_37 : decode cX4_guess 37 = .ok (.if_icmp .ge 43, 3) := by decide +kernel
theorem dX4_guess_40 : decode cX4_guess 40 = .ok (.aload 5, 2) := by decide +kernel
theorem dX4_guess_42 : decode cX4_guess 42 = .ok (.iload 7, 2) := by decide +kernel
theorem dX4_guess_44 : decode cX4_guess 44 = .ok (.aaload, 1) := by decide +kernel
theorem dX4_guess_45 : decode cX4_guess 45 = .ok (.astore 8, 2) := by decide +kernel
theorem dX4_guess_47 : decode cX4_guess 47 = .ok (.iload 4, 2) := by decide +kernel
theorem dX4_guess_49 : decode cX4_guess 49 = .ok (.aload 8, 2) := by decide +kernel
theorem dX4_guess_51 : decode cX4_guess 51 = .ok (.iload_n 1, 1) := by decide +kernel
theorem dX4_guess_52 : decode cX4_guess 52 = .ok (.iaload, 1) := by decide +kernel
theorem dX4_guess_53 : decode cX4_guess 53 = .ok (.iload_n 2, 1) := by decide +kernel
theorem dX4_guess_54 : decode cX4_guess 54 = .ok (.if_icmp .ne 7, 3) := by decide +kernel
theorem dX4_guess_57 : decode cX4_guess 57 = .ok (.iconst 1, 1) := by decide +kernel
theorem dX4_guess_58 : decode cX4_guess 58 = .ok (.goto 4, 3) := by decide +kernel
theorem dX4_guess_61 : decode cX4_guess 61 = .ok (.iconst 0, 1) := by decide +kernel
theorem dX4_guess_62 : decode cX4_guess 62 = .ok (.iload_n 3, 1) := by decide +kernel
theorem dX4_guess_63 : decode cX4_guess 63 = .ok (.if_icmp .ne 7, 3) := by decide +kernel
theorem dX4_guess_66 : decode cX4_guess 66 = .ok (.iconst 1, 1) := by decide +kernel
theorem dX4_guess_67 : decode cX4_guess 67 = .ok (.goto 4, 3) := by decide +kernel
theorem dX4_guess_70 : decode cX4_guess 70 = .ok (.iconst 0, 1) := by decide +kernel
theorem dX4_guess_71 : decode cX4_guess 71 = .ok (.iadd, 1) := by decide +kernel
theorem dX4_guess_72 : decode cX4_guess 72 = .ok (.istore 4, 2) := by decide +kernel
theorem dX4_guess_74 : decode cX4_guess 74 = .ok (.iinc 7 1, 3) := by decide +kernel
theorem dX4_guess_77 : decode cX4_guess 77 = .ok (.goto (-44), 3) := by decide +kernel
theorem dX4_guess_80 : decode cX4_guess 80 = .ok (.iload 4, 2) := by decide +kernel
theorem dX4_guess_82 : decode cX4_guess 82 = .ok (.anewarray 27, 3) := by decide +kernel
theorem dX4_guess_85 : decode cX4_guess 85 = .ok (.astore 5, 2) := by decide +kernel
theorem dX4_guess_87 : decode cX4_guess 87 = .ok (.iconst 0, 1) := by decide +kernel
theorem dX4_guess_88 : decode cX4_guess 88 = .ok (.istore 6, 2) := by decide +kernel
theorem dX4_guess_90 : decode cX4_guess 90 = .ok (.aload_n 0, 1) := by decide +kernel
theorem dX4_guess_91 : decode cX4_guess 91 = .ok (.getfield 23, 3) := by decide +kernel
theorem dX4_guess_94 : decode cX4_guess 94 = .ok (.astore 7, 2) := by decide +kernel
theorem dX4_guess_96 : decode cX4_guess 96 = .ok (.aload 7, 2) := by decide +kernel
theorem dX4_guess_98 : decode cX4_guess 98 = .ok (.arraylength, 1) := by decide +kernel
theorem dX4_guess_99 : decode cX4_guess 99 = .ok (.istore 8, 2) := by decide +kernel
theorem dX4_guess_101 : decode cX4_guess 101 = .ok (.iconst 0, 1) := by decide +kernel
theorem dX4_guess_102 : decode cX4_guess 102 = .ok (.istore 9, 2) := by decide +kernel
theorem dX4_guess_104 : decode cX4_guess 104 = .ok (.iload 9, 2) := by decide +kernel
theorem dX4_guess_106 : decode cX4_guess 106 = .ok (.iload 8, 2) := by decide +kernel
theorem dX4_guess_108 : decode cX4_guess 108 = .ok (.if_icmp .ge 46, 3) := by decide +kernel
theorem dX4_guess_111 : decode cX4_guess 111 = .ok (.aload 7, 2) := by decide +kernel
theorem dX4_guess_113 : decode cX4_guess 113 = .ok (.iload 9, 2) := by decide +kernel
theorem dX4_guess_115 : decode cX4_guess 115 = .ok (.aaload, 1) := by decide +kernel
theorem dX4_guess_116 : decode cX4_guess 116 = .ok (.astore 10, 2) := by decide +kernel
theorem dX4_guess_118 : decode cX4_guess 118 = .ok (.aload 10, 2) := by decide +kernel
theorem dX4_guess_120 : decode cX4_guess 120 = .ok (.iload_n 1, 1) := by decide +kernel
theorem dX4_guess_121 : decode cX4_guess 121 = .ok (.iaload, 1) := by decide +kernel
theorem dX4_guess_122 : decode cX4_guess 122 = .ok (.iload_n 2, 1) := by decide +kernel
theorem dX4_guess_123 : decode cX4_guess 123 = .ok (.if_icmp .ne 7, 3) := by decide +kernel
theorem dX4_guess_126 : decode cX4_guess 126 = .ok (.iconst 1, 1) := by decide +kernel
theorem dX4_guess_127 : decode cX4_guess 127 = .ok (.goto 4, 3) := by decide +kernel
theorem dX4_guess_130 : decode cX4_guess 130 = .ok (.iconst 0, 1) := by decide +kernel
theorem dX4_guess_131 : decode cX4_guess 131 = .ok (.iload_n 3, 1) := by decide +kernel
theorem dX4_guess_132 : decode cX4_guess 132 = .ok (.if_icmp .eq 6, 3) := by decide +kernel
theorem dX4_guess_135 : decode cX4_guess 135 = .ok (.goto 13, 3) := by decide +kernel
theorem dX4_guess_138 : decode cX4_guess 138 = .ok (.aload 5, 2) := by decide +kernel
theorem dX4_guess_140 : decode cX4_guess 140 = .ok (.iload 6, 2) := by decide +kernel
theorem dX4_guess_142 : decode cX4_guess 142 = .ok (.aload 10, 2) := by decide +kernel
theorem dX4_guess_144 : decode cX4_guess 144 = .ok (.aastore, 1) := by decide +kernel
theorem dX4_guess_145 : decode cX4_guess 145 = .ok (.iinc 6 1, 3) := by decide +kernel
theorem dX4_guess_148 : decode cX4_guess 148 = .ok (.iinc 9 1, 3) := by decide +kernel
theorem dX4_guess_151 : decode cX4_guess 151 = .ok (.goto (-47), 3) := by decide +kernel
theorem dX4_guess_154 : decode cX4_guess 154 = .ok (.aload_n 0, 1) := by decide +kernel
theorem dX4_guess_155 : decode cX4_guess 155 = .ok (.aload 5, 2) := by decide +kernel
theorem dX4_guess_157 : decode cX4_guess 157 = .ok (.putfield 23, 3) := by decide +kernel
theorem dX4_guess_160 : decode cX4_guess 160 = .ok (.aload_n 0, 1) := by decide +kernel
theorem dX4_guess_161 : decode cX4_guess 161 = .ok (.getfield 16, 3) := by decide +kernel
theorem dX4_guess_164 : decode cX4_guess 164 = .ok (.iconst 4, 1) := by decide +kernel
theorem dX4_guess_165 : decode cX4_guess 165 = .ok (.dup2, 1) := by decide +kernel
theorem dX4_guess_166 : decode cX4_guess 166 = .ok (.iaload, 1) := by decide +kernel
theorem dX4_guess_167 : decode cX4_guess 167 = .ok (.iconst 1, 1) := by decide +kernel
theorem dX4_guess_168 : decode cX4_guess 168 = .ok (.iadd, 1) := by decide +kernel
theorem dX4_guess_169 : decode cX4_guess 169 = .ok (.iastore, 1) := by decide +kernel
theorem dX4_guess_170 : decode cX4_guess 170 = .ok (.aload_n 0, 1) := by decide +kernel
theorem dX4_guess_171 : decode cX4_guess 171 = .ok (.getfield 16, 3) := by decide +kernel
theorem dX4_guess_174 : decode cX4_guess 174 = .ok (.iconst 5, 1) := by decide +kernel
theorem dX4_guess_175 : decode cX4_guess 175 = .ok (.dup2, 1) := by decide +kernel
theorem dX4_guess_176 : decode cX4_guess 176 = .ok (.iaload, 1) := by decide +kernel
theorem dX4_guess_177 : decode cX4_guess 177 = .ok (.iload_n 3, 1) := by decide +kernel
theorem dX4_guess_178 : decode cX4_guess 178 = .ok (.ifCond .eq 7, 3) := by decide +kernel
theorem dX4_guess_181 : decode cX4_guess 181 = .ok (.iconst 0, 1) := by decide +kernel
theorem dX4_guess_182 : decode cX4_guess 182 = .ok (.goto 4, 3) := by decide +kernel
theorem dX4_guess_185 : decode cX4_guess 185 = .ok (.iconst 1, 1) := by decide +kernel
theorem dX4_guess_186 : decode cX4_guess 186 = .ok (.iadd, 1) := by decide +kernel
theorem dX4_guess_187 : decode cX4_guess 187 = .ok (.iastore, 1) := by decide +kernel
theorem dX4_guess_188 : decode cX4_guess 188 = .ok (.iload_n 3, 1) := by decide +kernel
theorem dX4_guess_189 : decode cX4_guess 189 = .ok (.ireturn, 1) := by decide +kernel
set_option maxRecDepth 20000 in
theorem ggX4_isSame_X3_jars : GoodIn wsX4_isSame wsX3_jars := goodIn_r _ [9, 10, 11, 12, 13, 14, 15, 16, 180, 181, 182, 183, 184, 185, 186, 187, 188, 189, 190] (by decide +kernel) (by decide +kernel)
set_option maxRecDepth 20000 in
theorem gX4_isSame_X3_jars : GoodIn wsX4_isSame (wsV RX4 64 RX3 yX3_jars wsX3_jars) := goodIn_app (goodIn_of _ (by decide +kernel)) ggX4_isSame_X3_jars
set_option maxRecDepth 20000 in
theorem ggX4_isSame_X3_heldInAll : GoodIn wsX4_isSame wsX3_heldInAll := goodIn_r _ [20, 10, 21, 22, 23, 14, 24, 25, 180, 181, 182, 183, 184, 185, 186, 187, 188, 189, 190] (by decide +kernel) (by decide +kernel)
set_option maxRecDepth 20000 in
theorem gX4_isSame_X3_heldInAll : GoodIn wsX4_isSame (wsV RX4 70 RX3 yX3_heldInAll wsX3_heldInAll) := goodIn_app (goodIn_of _ (by decide +kernel)) ggX4_isSame_X3_heldInAll
set_option maxRecDepth 20000 in
theorem ggX4_isSame_X3_acts : GoodIn wsX4_isSame wsX3_acts := goodIn_r _ [29, 30, 180, 181, 182, 183, 184, 185, 186, 187, 188] (by decide +kernel) (by decide +kernel)
set_option maxRecDepth 20000 in
theorem gX4_isSame_X3_acts : GoodIn wsX4_isSame (wsV RX4 73 RX3 yX3_acts wsX3_acts) := goodIn_app (goodIn_of _ (by decide +kernel)) ggX4_isSame_X3_acts
set_option maxRecDepth 20000 in
theorem ggX4_isSame_X3_pouredInAll : GoodIn wsX4_isSame wsX3_pouredInAll := goodIn_r _ [34, 35, 180, 181, 182, 183, 184, 185, 186, 187, 188] (by decide +kernel) (by decide +kernel)
set_option maxRecDepth 20000 in
theorem gX4_isSame_X3_pouredInAll : GoodIn wsX4_isSame (wsV RX4 76 RX3 yX3_pouredInAll wsX3_pouredInAll) := goodIn_app (goodIn_of _ (by decide +kernel)) ggX4_isSame_X3_pouredInAll
set_option maxRecDepth 20000 in
theorem ggX4_isSame_X3_spilledInAll : GoodIn wsX4_isSame wsX3_spilledInAll := goodIn_r _ [39, 40, 180, 181, 182, 183, 184, 185, 186, 187, 188] (by decide +kernel) (by decide +kernel)
set_option maxRecDepth 20000 in
theorem gX4_isSame_X3_spilledInAll : GoodIn wsX4_isSame (wsV RX4 79 RX3 yX3_spilledInAll wsX3_spilledInAll) := goodIn_app (goodIn_of _ (by decide +kernel)) ggX4_isSame_X3_spilledInAll
set_option maxRecDepth 20000 in
theorem ggX4_isSame_X3_takenInAll : GoodIn wsX4_isSame wsX3_takenInAll := goodIn_r _ [44, 45, 180, 181, 182, 183, 184, 185, 186, 187, 188] (by decide +kernel) (by decide +kernel)
set_option maxRecDepth 20000 in
theorem gX4_isSame_X3_takenInAll : GoodIn wsX4_isSame (wsV RX4 82 RX3 yX3_takenInAll wsX3_takenInAll) := goodIn_app (goodIn_of _ (by decide +kernel)) ggX4_isSame_X3_takenInAll
set_option maxRecDepth 20000 in
theorem ggX4_isSame_X3_guesses : GoodIn wsX4_isSame wsX3_guesses := goodIn_r _ [49, 50, 180, 181, 182, 183, 184, 185, 186, 187, 188] (by decide +kernel) (by decide +kernel)
set_option maxRecDepth 20000 in
theorem gX4_isSame_X3_guesses : GoodIn wsX4_isSame (wsV RX4 85 RX3 yX3_guesses wsX3_guesses) := goodIn_app (goodIn_of _ (by decide +kernel)) ggX4_isSame_X3_guesses
set_option maxRecDepth 20000 in
theorem ggX4_isSame_X3_wrongGuesses : GoodIn wsX4_isSame wsX3_wrongGuesses := goodIn_r _ [54, 55, 180, 181, 182, 183, 184, 185, 186, 187, 188] (by decide +kernel) (by decide +kernel)
set_option maxRecDepth 20000 in
theorem gX4_isSame_X3_wrongGuesses : GoodIn wsX4_isSame (wsV RX4 88 RX3 yX3_wrongGuesses wsX3_wrongGuesses) := goodIn_app (goodIn_of _ (by decide +kernel)) ggX4_isSame_X3_wrongGuesses
set_option maxRecDepth 20000 in
theorem ggX4_isSame_X3_candidates : GoodIn wsX4_isSame wsX3_candidates := goodIn_r _ [59, 60, 61, 62, 63, 64, 65, 66, 180, 181, 182, 183, 184, 185, 186, 187, 188, 191, 192, 193, 194, 195] (by decide +kernel) (by decide +kernel)
set_option maxRecDepth 20000 in
theorem gX4_isSame_X3_candidates : GoodIn wsX4_isSame (wsV RX4 91 RX3 yX3_candidates wsX3_candidates) := goodIn_app (goodIn_of _ (by decide +kernel)) ggX4_isSame_X3_candidates
set_option maxRecDepth 20000 in
theorem ggX4_isSame_X3_meanAmount : GoodIn wsX4_isSame wsX3_meanAmount := goodIn_r _ [70, 10, 71, 72, 11, 12, 13, 14, 15, 16, 73, 18, 19, 8, 20, 21, 22, 23, 24, 25, 180, 181, 182, 183, 184, 185, 186, 187, 188, 189, 190] (by decide +kernel) (by decide +kernel)
set_option maxRecDepth 20000 in
theorem gX4_isSame_X3_meanAmount : GoodIn wsX4_isSame (wsV RX4 94 RX3 yX3_meanAmount wsX3_meanAmount) := goodIn_app (goodIn_of _ (by decide +kernel)) ggX4_isSame_X3_meanAmount
set_option maxRecDepth 20000 in
theorem ggX4_isSame_X3_volumeOf : GoodIn wsX4_isSame wsX3_volumeOf := goodIn_ca (goodIn_r _ [77, 10, 78, 79, 80, 8, 81, 82, 83, 84, 85, 86, 14, 87, 16, 88, 89, 90, 91, 180, 181, 182, 183, 184, 185, 186, 187, 188, 189, 190] (by decide +kernel) (by decide +kernel)) (goodIn_sub (fun _ h => List.mem_cons_of_mem _ (List.mem_append_left _ (List.mem_append_right _ h))) (by decide +kernel))
set_option maxRecDepth 20000 in
theorem gX4_isSame_X3_volumeOf : GoodIn wsX4_isSame (wsV RX4 98 RX3 yX3_volumeOf wsX3_volumeOf) := goodIn_app (goodIn_of _ (by decide +kernel)) ggX4_isSame_X3_volumeOf
set_option maxRecDepth 20000 in
theorem ggX4_isSame_X3_amountOf : GoodIn wsX4_isSame wsX3_amountOf := goodIn_ca (goodIn_r _ [95, 10, 78, 79, 80, 8, 81, 82, 83, 84, 85, 86, 14, 87, 16, 21, 22, 23, 24, 25, 180, 181, 182, 183, 184, 185, 186, 187, 188, 189, 190] (by decide +kernel) (by decide +kernel)) (goodIn_sub (fun _ h => List.mem_cons_of_mem _ (List.mem_append_left _ (List.mem_append_right _ h))) (by decide +kernel))
set_option maxRecDepth 20000 in
theorem gX4_isSame_X3_amountOf : GoodIn wsX4_isSame (wsV RX4 102 RX3 yX3_amountOf wsX3_amountOf) := goodIn_app (goodIn_of _ (by decide +kernel)) ggX4_isSame_X3_amountOf
set_option maxRecDepth 20000 in
theorem ggX4_isSame_X3_isEmpty : GoodIn wsX4_isSame wsX3_isEmpty := goodIn_ca (goodIn_r _ [99, 10, 78, 79, 80, 8, 81, 82, 83, 84, 85, 86, 14, 87, 16, 100, 101, 102, 103, 104, 22, 23, 24, 25, 180, 181, 182, 183, 184, 185, 186, 187, 188, 189, 190] (by decide +kernel) (by decide +kernel)) (goodIn_sub (fun _ h => List.mem_cons_of_mem _ (List.mem_append_left _ (List.mem_append_right _ h))) (by decide +kernel))
set_option maxRecDepth 20000 in
theorem gX4_isSame_X3_isEmpty : GoodIn wsX4_isSame (wsV RX4 105 RX3 yX3_isEmpty wsX3_isEmpty) := goodIn_app (goodIn_of _ (by decide +kernel)) ggX4_isSame_X3_isEmpty
set_option maxRecDepth 20000 in
theorem ggX4_isSame_X3_isFull : GoodIn wsX4_isSame wsX3_isFull := goodIn_ca (goodIn_r _ [108, 10, 78, 79, 80, 8, 81, 82, 83, 84, 85, 86, 14, 87, 16, 109, 110, 111, 112, 104, 22, 23, 24, 25, 113, 89, 90, 91, 180, 181, 182, 183, 184, 185, 186, 187, 188, 189, 190] (by decide +kernel) (by decide +kernel)) (goodIn_sub (fun _ h => List.mem_cons_of_mem _ (List.mem_append_left _ (List.mem_append_right _ h))) (by decide +kernel))
set_option maxRecDepth 20000 in
theorem gX4_isSame_X3_isFull : GoodIn wsX4_isSame (wsV RX4 108 RX3 yX3_isFull wsX3_isFull) := goodIn_app (goodIn_of _ (by decide +kernel)) ggX4_isSame_X3_isFull
set_option maxRecDepth 20000 in
theorem ggX4_isSame_X4_may : GoodIn wsX4_isSame wsX4_may := goodIn_r _ [118, 4, 176, 177, 178, 179] (by decide +kernel) (by decide +kernel)
set_option maxRecDepth 20000 in
theorem gX4_isSame_X4_may : GoodIn wsX4_isSame (wsV RX4 111 RX4 yX4_may wsX4_may) := goodIn_app (goodIn_of _ (by decide +kernel)) ggX4_isSame_X4_may
set_option maxRecDepth 20000 in
theorem ggX4_isSame_X3_mayBe : GoodIn wsX4_isSame wsX3_mayBe := goodIn_ca (goodIn_ca (goodIn_r _ [122, 60, 78, 79, 80, 8, 81, 82, 83, 10, 84, 85, 86, 14, 87, 16, 123, 124, 125, 126, 127, 128, 129, 130, 131, 132, 133, 64, 134, 135, 136, 137, 138, 139, 140, 141, 142, 143, 144, 145, 146, 147, 148, 149, 25, 150, 151, 152, 153, 154, 155, 156, 157, 158, 89, 90, 91, 159, 160, 161, 180, 181, 182, 183, 184, 185, 186, 187, 188, 189, 190, 191, 192, 193, 194, 195] (by decide +kernel) (by decide +kernel)) (goodIn_sub (fun _ h => List.mem_cons_of_mem _ (List.mem_append_left _ (List.mem_append_right _ h))) (by decide +kernel))) (goodIn_sub (fun _ h => List.mem_cons_of_mem _ (List.mem_append_right _ h)) (by decide +kernel))
set_option maxRecDepth 20000 in
theorem gX4_isSame_X3_mayBe : GoodIn wsX4_isSame (wsV RX4 115 RX3 yX3_mayBe wsX3_mayBe) := goodIn_app (goodIn_of _ (by decide +kernel)) ggX4_isSame_X3_mayBe
set_option maxRecDepth 20000 in
theorem ggX4_isSame_X3_isKnown : GoodIn wsX4_isSame wsX3_isKnown := goodIn_ca (goodIn_r _ [165, 60, 78, 79, 80, 8, 81, 82, 83, 10, 84, 85, 86, 14, 87, 16, 131, 132, 133, 64, 134, 135, 136, 137, 138, 139, 140, 141, 142, 143, 144, 145, 146, 147, 148, 149, 25, 150, 151, 152, 153, 154, 155, 156, 157, 158, 89, 90, 91, 166, 167, 168, 169, 170, 171, 172, 173, 174, 175, 180, 181, 182, 183, 184, 185, 186, 187, 188, 189, 190, 191, 192, 193, 194, 195] (by decide +kernel) (by decide +kernel)) (goodIn_sub (fun _ h => List.mem_cons_of_mem _ (List.mem_append_left _ (List.mem_append_right _ h))) (by decide +kernel))
set_option maxRecDepth 20000 in
theorem gX4_isSame_X3_isKnown : GoodIn wsX4_isSame (wsV RX4 118 RX3 yX3_isKnown wsX3_isKnown) := goodIn_app (goodIn_of _ (by decide +kernel)) ggX4_isSame_X3_isKnown
theorem dX4_isSame_0 : decode cX4_isSame 0 = .ok (.aload_n 0, 1) := by decide +kernel
theorem dX4_isSame_1 : decode cX4_isSame 1 = .ok (.getfield 7, 3) := by decide +kernel
theorem dX4_isSame_4 : decode cX4_isSame 4 = .ok (.arraylength, 1) := by decide +kernel
theorem dX4_isSame_5 : decode cX4_isSame 5 = .ok (.istore_n 2, 1) := by decide +kernel
theorem dX4_isSame_6 : decode cX4_isSame 6 = .ok (.iconst 0, 1) := by decide +kernel
theorem dX4_isSame_7 : decode cX4_isSame 7 = .ok (.istore_n 3, 1) := by decide +kernel
theorem dX4_isSame_8 : decode cX4_isSame 8 = .ok (.aload_n 0, 1) := by decide +kernel
theorem dX4_isSame_9 : decode cX4_isSame 9 = .ok (.getfield 13, 3) := by decide +kernel
theorem dX4_isSame_12 : decode cX4_isSame 12 = .ok (.astore 4, 2) := by decide +kernel
theorem dX4_isSame_14 : decode cX4_isSame 14 = .ok (.aload 4, 2) := by decide +kernel
theorem dX4_isSame_16 : decode cX4_isSame 16 = .ok (.arraylength, 1) := by decide +kernel
theorem dX4_isSame_17 : decode cX4_isSame 17 = .ok (.istore 5, 2) := by decide +kernel
theorem dX4_isSame_19 : decode cX4_isSame 19 = .ok (.iconst 0, 1) := by decide +kernel
theorem dX4_isSame_20 : decode cX4_isSame 20 = .ok (.istore 6, 2) := by decide +kernel
theorem dX4_isSame_22 : decode cX4_isSame 22 = .ok (.iload 6, 2) := by decide +kernel
theorem dX4_isSame_24 : decode cX4_isSame 24 = .ok (.iload 5, 2) := by decide +kernel
theorem dX4_isSame_26 : decode cX4_isSame 26 = .ok (.if_icmp .ge 21, 3) := by decide +kernel
theorem dX4_isSame_29 : decode cX4_isSame 29 = .ok (.aload 4, 2) := by decide +kernel
theorem dX4_isSame_31 : decode cX4_isSame 31 = .ok (.iload 6, 2) := by decide +kernel
theorem dX4_isSame_33 : decode cX4_isSame 33 = .ok (.iaload, 1) := by decide +kernel
theorem dX4_isSame_34 : decode cX4_isSame 34 = .ok (.istore 7, 2) := by decide +kernel
theorem dX4_isSame_36 : decode cX4_isSame 36 = .ok (.iload_n 3, 1) := by decide +kernel
theorem dX4_isSame_37 : decode cX4_isSame 37 = .ok (.iload 7, 2) := by decide +kernel
theorem dX4_isSame_39 : decode cX4_isSame 39 = .ok (.iadd, 1) := by decide +kernel
theorem dX4_isSame_40 : decode cX4_isSame 40 = .ok (.istore_n 3, 1) := by decide +kernel
theorem dX4_isSame_41 : decode cX4_isSame 41 = .ok (.iinc 6 1, 3) := by decide +kernel
theorem dX4_isSame_44 : decode cX4_isSame 44 = .ok (.goto (-22), 3) := by decide +kernel
theorem dX4_isSame_47 : decode cX4_isSame 47 = .ok (.aload_n 1, 1) := by decide +kernel
theorem dX4_isSame_48 : decode cX4_isSame 48 = .ok (.invokevirtual 64, 3) := by decide +kernel
theorem dX4_isSame_51 : decode cX4_isSame 51 = .ok (.iload_n 2, 1) := by decide +kernel
theorem dX4_isSame_52 : decode cX4_isSame 52 = .ok (.if_icmp .ne 114, 3) := by decide +kernel
theorem dX4_isSame_55 : decode cX4_isSame 55 = .ok (.aload_n 1, 1) := by decide +kernel
theorem dX4_isSame_56 : decode cX4_isSame 56 = .ok (.invokevirtual 70, 3) := by decide +kernel
theorem dX4_isSame_59 : decode cX4_isSame 59 = .ok (.iload_n 3, 1) := by decide +kernel
theorem dX4_isSame_60 : decode cX4_isSame 60 = .ok (.if_icmp .ne 106, 3) := by decide +kernel
theorem dX4_isSame_63 : decode cX4_isSame 63 = .ok (.aload_n 1, 1) := by decide +kernel
theorem dX4_isSame_64 : decode cX4_isSame 64 = .ok (.invokevirtual 73, 3) := by decide +kernel
theorem dX4_isSame_67 : decode cX4_isSame 67 = .ok (.aload_n 0, 1) := by decide +kernel
theorem dX4_isSame_68 : decode cX4_isSame 68 = .ok (.getfield 16, 3) := by decide +kernel
theorem dX4_isSame_71 : decode cX4_isSame 71 = .ok (.iconst 0, 1) := by decide +kernel
theorem dX4_isSame_72 : decode cX4_isSame 72 = .ok (.iaload, 1) := by decide +kernel
theorem dX4_isSame_73 : decode cX4_isSame 73 = .ok (.if_icmp .ne 93, 3) := by decide +kernel
theorem dX4_isSame_76 : decode cX4_isSame 76 = .ok (.aload_n 1, 1) := by decide +kernel
theorem dX4_isSame_77 : decode cX4_isSame 77 = .ok (.invokevirtual 76, 3) := by decide +kernel
theorem dX4_isSame_80 : decode cX4_isSame 80 = .ok (.aload_n 0, 1) := by decide +kernel
theorem dX4_isSame_81 : decode cX4_isSame 81 = .ok (.getfield 16, 3) := by decide +kernel
theorem dX4_isSame_84 : decode cX4_isSame 84 = .ok (.iconst 1, 1) := by decide +kernel
theorem dX4_isSame_85 : decode cX4_isSame 85 = .ok (.iaload, 1) := by decide +kernel
theorem dX4_isSame_86 : decode cX4_isSame 86 = .ok (.if_icmp .ne 80, 3) := by decide +kernel
theorem dX4_isSame_89 : decode cX4_isSame 89 = .ok (.aload_n 1, 1) := by decide +kernel
theorem dX4_isSame_90 : decode cX4_isSame 90 = .ok (.invokevirtual 79, 3) := by decide +kernel
theorem dX4_isSame_93 : decode cX4_isSame 93 = .ok (.aload_n 0, 1) := by decide +kernel
theorem dX4_isSame_94 : decode cX4_isSame 94 = .ok (.getfield 16, 3) := by decide +kernel
theorem dX4_isSame_97 : decode cX4_isSame 97 = .ok (.iconst 2, 1) := by decide +kernel
theorem dX4_isSame_98 : decode cX4_isSame 98 = .ok (.iaload, 1) := by decide +kernel
theorem dX4_isSame_99 : decode cX4_isSame 99 = .ok (.if_icmp .ne 67, 3) := by decide +kernel
theorem dX4_isSame_102 : decode cX4_isSame 102 = .ok (.aload_n 1, 1) := by decide +kernel
theorem dX4_isSame_103 : decode cX4_isSame 103 = .ok (.invokevirtual 82, 3) := by decide +kernel
theorem dX4_isSame_106 : decode cX4_isSame 106 = .ok (.aload_n 0, 1) := by decide +kernel
theorem dX4_isSame_107 : decode cX4_isSame 107 = .ok (.getfield 16, 3) := by decide +kernel
theorem dX4_isSame_110 : decode cX4_isSame 110 = .ok (.iconst 3, 1) := by decide +kernel
theorem dX4_isSame_111 : decode cX4_isSame 111 = .ok (.iaload, 1) := by decide +kernel
theorem dX4_isSame_112 : decode cX4_isSame 112 = .ok (.if_icmp .ne 54, 3) := by decide +kernel
theorem dX4_isSame_115 : decode cX4_isSame 115 = .ok (.aload_n 1, 1) := by decide +kernel
theorem dX4_isSame_116 : decode cX4_isSame 116 = .ok (.invokevirtual 85, 3) := by decide +kernel
theorem dX4_isSame_119 : decode cX4_isSame 119 = .ok (.aload_n 0, 1) := by decide +kernel
theorem dX4_isSame_120 : decode cX4_isSame 120 = .ok (.getfield 16, 3) := by decide +kernel
theorem dX4_isSame_123 : decode cX4_isSame 123 = .ok (.iconst 4, 1) := by decide +kernel
theorem dX4_isSame_124 : decode cX4_isSame 124 = .ok (.iaload, 1) := by decide +kernel
theorem dX4_isSame_125 : decode cX4_isSame 125 = .ok (.if_icmp .ne 41, 3) := by decide +kernel
theorem dX4_isSame_128 : decode cX4_isSame 128 = .ok (.aload_n 1, 1) := by decide +kernel
theorem dX4_isSame_129 : decode cX4_isSame 129 = .ok (.invokevirtual 88, 3) := by decide +kernel
theorem dX4_isSame_132 : decode cX4_isSame 132 = .ok (.aload_n 0, 1) := by decide +kernel
theorem dX4_isSame_133 : decode cX4_isSame 133 = .ok (.getfield 16, 3) := by decide +kernel
theorem dX4_isSame_136 : decode cX4_isSame 136 = .ok (.iconst 5, 1) := by decide +kernel
theorem dX4_isSame_137 : decode cX4_isSame 137 = .ok (.iaload, 1) := by decide +kernel
theorem dX4_isSame_138 : decode cX4_isSame 138 = .ok (.if_icmp .ne 28, 3) := by decide +kernel
theorem dX4_isSame_141 : decode cX4_isSame 141 = .ok (.aload_n 1, 1) := by decide +kernel
theorem dX4_isSame_142 : decode cX4_isSame 142 = .ok (.invokevirtual 91, 3) := by decide +kernel
theorem dX4_isSame_145 : decode cX4_isSame 145 = .ok (.aload_n 0, 1) := by decide +kernel
theorem dX4_isSame_146 : decode cX4_isSame 146 = .ok (.getfield 23, 3) := by decide +kernel
theorem dX4_isSame_149 : decode cX4_isSame 149 = .ok (.arraylength, 1) := by decide +kernel
theorem dX4_isSame_150 : decode cX4_isSame 150 = .ok (.if_icmp .ne 16, 3) := by decide +kernel
theorem dX4_isSame_153 : decode cX4_isSame 153 = .ok (.aload_n 1, 1) := by decide +kernel
theorem dX4_isSame_154 : decode cX4_isSame 154 = .ok (.invokevirtual 94, 3) := by decide +kernel
theorem dX4_isSame_157 : decode cX4_isSame 157 = .ok (.iload_n 3, 1) := by decide +kernel
theorem dX4_isSame_158 : decode cX4_isSame 158 = .ok (.i2d, 1) := by decide +kernel
theorem dX4_isSame_159 : decode cX4_isSame 159 = .ok (.iload_n 2, 1) := by decide +kernel
theorem dX4_isSame_160 : decode cX4_isSame 160 = .ok (.i2d, 1) := by decide +kernel
theorem dX4_isSame_161 : decode cX4_isSame 161 = .ok (.ddiv, 1) := by decide +kernel
theorem dX4_isSame_162 : decode cX4_isSame 162 = .ok (.dcmp .l, 1) := by decide +kernel
theorem dX4_isSame_163 : decode cX4_isSame 163 = .ok (.ifCond .eq 5, 3) := by decide +kernel
theorem dX4_isSame_166 : decode cX4_isSame 166 = .ok (.iconst 0, 1) := by decide +kernel
theorem dX4_isSame_167 : decode cX4_isSame 167 = .ok (.ireturn, 1) := by decide +kernel
theorem dX4_isSame_168 : decode cX4_isSame 168 = .ok (.iconst 0, 1) := by decide +kernel
theorem dX4_isSame_169 : decode cX4_isSame 169 = .ok (.istore 4, 2) := by decide +kernel
theorem dX4_isSame_171 : decode cX4_isSame 171 = .ok (.iload 4, 2) := by decide +kernel
theorem dX4_isSame_173 : decode cX4_isSame 173 = .ok (.iload_n 2, 1) := by decide +kernel
theorem dX4_isSame_174 : decode cX4_isSame 174 = .ok (.if_icmp .ge 179, 3) := by decide +kernel
theorem dX4_isSame_177 : decode cX4_isSame 177 = .ok (.aload_n 1, 1) := by decide +kernel
theorem dX4_isSame_178 : decode cX4_isSame 178 = .ok (.iload 4, 2) := by decide +kernel
theorem dX4_isSame_180 : decode cX4_isSame 180 = .ok (.invokevirtual 98, 3) := by decide +kernel
theorem dX4_isSame_183 : decode cX4_isSame 183 = .ok (.aload_n 0, 1) := by decide +kernel
theorem dX4_isSame_184 : decode cX4_isSame 184 = .ok (.getfield 7, 3) := by decide +kernel
theorem dX4_isSame_187 : decode cX4_isSame 187 = .ok (.iload 4, 2) := by decide +kernel
theorem dX4_isSame_189 : decode cX4_isSame 189 = .ok (.iaload, 1) := by decide +kernel
theorem dX4_isSame_190 : decode cX4_isSame 190 = .ok (.if_icmp .ne 74, 3) := by decide +kernel
theorem dX4_isSame_193 : decode cX4_isSame 193 = .ok (.aload_n 1, 1) := by decide +kernel
theorem dX4_isSame_194 : decode cX4_isSame 194 = .ok (.iload 4, 2) := by decide +kernel
theorem dX4_isSame_196 : decode cX4_isSame 196 = .ok (.invokevirtual 102, 3) := by decide +kernel
theorem dX4_isSame_199 : decode cX4_isSame 199 = .ok (.aload_n 0, 1) := by decide +kernel
theorem dX4_isSame_200 : decode cX4_isSame 200 = .ok (.getfield 13, 3) := by decide +kernel
theorem dX4_isSame_203 : decode cX4_isSame 203 = .ok (.iload 4, 2) := by decide +kernel
theorem dX4_isSame_205 : decode cX4_isSame 205 = .ok (.iaload, 1) := by decide +kernel
theorem dX4_isSame_206 : decode cX4_isSame 206 = .ok (.if_icmp .ne 58, 3) := by decide +kernel
theorem dX4_isSame_209 : decode cX4_isSame 209 = .ok (.aload_n 1, 1) := by decide +kernel
theorem dX4_isSame_210 : decode cX4_isSame 210 = .ok (.iload 4, 2) := by decide +kernel
theorem dX4_isSame_212 : decode cX4_isSame 212 = .ok (.invokevirtual 105, 3) := by decide +kernel
theorem dX4_isSame_215 : decode cX4_isSame 215 = .ok (.aload_n 0, 1) := by decide +kernel
theorem dX4_isSame_216 : decode cX4_isSame 216 = .ok (.getfield 13, 3) := by decide +kernel
theorem dX4_isSame_219 : decode cX4_isSame 219 = .ok (.iload 4, 2) := by decide +kernel
theorem dX4_isSame_221 : decode cX4_isSame 221 = .ok (.iaload, 1) := by decide +kernel
theorem dX4_isSame_222 : decode cX4_isSame 222 = .ok (.ifCond .ne 7, 3) := by decide +kernel
theorem dX4_isSame_225 : decode cX4_isSame 225 = .ok (.iconst 1, 1) := by decide +kernel
theorem dX4_isSame_226 : decode cX4_isSame 226 = .ok (.goto 4, 3) := by decide +kernel
theorem dX4_isSame_229 : decode cX4_isSame 229 = .ok (.iconst 0, 1) := by decide +kernel
theorem dX4_isSame_230 : decode cX4_isSame 230 = .ok (.if_icmp .ne 34, 3) := by decide +kernel
theorem dX4_isSame_233 : decode cX4_isSame 233 = .ok (.aload_n 1, 1) := by decide +kernel
theorem dX4_isSame_234 : decode cX4_isSame 234 = .ok (.iload 4, 2) := by decide +kernel
theorem dX4_isSame_236 : decode cX4_isSame 236 = .ok (.invokevirtual 108, 3) := by decide +kernel
theorem dX4_isSame_239 : decode cX4_isSame 239 = .ok (.aload_n 0, 1) := by decide +kernel
theorem dX4_isSame_240 : decode cX4_isSame 240 = .ok (.getfield 13, 3) := by decide +kernel
theorem dX4_isSame_243 : decode cX4_isSame 243 = .ok (.iload 4, 2) := by decide +kernel
theorem dX4_isSame_245 : decode cX4_isSame 245 = .ok (.iaload, 1) := by decide +kernel
theorem dX4_isSame_246 : decode cX4_isSame 246 = .ok (.aload_n 0, 1) := by decide +kernel
theorem dX4_isSame_247 : decode cX4_isSame 247 = .ok (.getfield 7, 3) := by decide +kernel
theorem dX4_isSame_250 : decode cX4_isSame 250 = .ok (.iload 4, 2) := by decide +kernel
theorem dX4_isSame_252 : decode cX4_isSame 252 = .ok (.iaload, 1) := by decide +kernel
theorem dX4_isSame_253 : decode cX4_isSame 253 = .ok (.if_icmp .ne 7, 3) := by decide +kernel
theorem dX4_isSame_256 : decode cX4_isSame 256 = .ok (.iconst 1, 1) := by decide +kernel
theorem dX4_isSame_257 : decode cX4_isSame 257 = .ok (.goto 4, 3) := by decide +kernel
theorem dX4_isSame_260 : decode cX4_isSame 260 = .ok (.iconst 0, 1) := by decide +kernel
theorem dX4_isSame_261 : decode cX4_isSame 261 = .ok (.if_icmp .eq 5, 3) := by decide +kernel
theorem dX4_isSame_264 : decode cX4_isSame 264 = .ok (.iconst 0, 1) := by decide +kernel
theorem dX4_isSame_265 : decode cX4_isSame 265 = .ok (.ireturn, 1) := by decide +kernel
theorem dX4_isSame_266 : decode cX4_isSame 266 = .ok (.iconst 0, 1) := by decide +kernel
theorem dX4_isSame_267 : decode cX4_isSame 267 = .ok (.istore 5, 2) := by decide +kernel
theorem dX4_isSame_269 : decode cX4_isSame 269 = .ok (.iconst 1, 1) := by decide +kernel
theorem dX4_isSame_270 : decode cX4_isSame 270 = .ok (.istore 6, 2) := by decide +kernel
theorem dX4_isSame_272 : decode cX4_isSame 272 = .ok (.iload 6, 2) := by decide +kernel
theorem dX4_isSame_274 : decode cX4_isSame 274 = .ok (.bipush 10, 2) := by decide +kernel
theorem dX4_isSame_276 : decode cX4_isSame 276 = .ok (.if_icmp .ge 49, 3) := by decide +kernel
theorem dX4_isSame_279 : decode cX4_isSame 279 = .ok (.aload_n 0, 1) := by decide +kernel
theorem dX4_isSame_280 : decode cX4_isSame 280 = .ok (.iload 4, 2) := by decide +kernel
theorem dX4_isSame_282 : decode cX4_isSame 282 = .ok (.iload 6, 2) := by decide +kernel
theorem dX4_isSame_284 : decode cX4_isSame 284 = .ok (.invokevirtual 111, 3) := by decide +kernel
theorem dX4_isSame_287 : decode cX4_isSame 287 = .ok (.istore 7, 2) := by decide +kernel
theorem dX4_isSame_289 : decode cX4_isSame 289 = .ok (.aload_n 1, 1) := by decide +kernel
theorem dX4_isSame_290 : decode cX4_isSame 290 = .ok (.iload 4, 2) := by decide +kernel
theorem dX4_isSame_292 : decode cX4_isSame 292 = .ok (.iload 6, 2) := by decide +kernel
theorem dX4_isSame_294 : decode cX4_isSame 294 = .ok (.invokevirtual 115, 3) := by decide +kernel
theorem dX4_isSame_297 : decode cX4_isSame 297 = .ok (.iload 7, 2) := by decide +kernel
theorem dX4_isSame_299 : decode cX4_isSame 299 = .ok (.if_icmp .eq 5, 3) := by decide +kernel
theorem dX4_isSame_302 : decode cX4_isSame 302 = .ok (.iconst 0, 1) := by decide +kernel
theorem dX4_isSame_303 : decode cX4_isSame 303 = .ok (.ireturn, 1) := by decide +kernel
theorem dX4_isSame_304 : decode cX4_isSame 304 = .ok (.iload 5, 2) := by decide +kernel
theorem dX4_isSame_306 : decode cX4_isSame 306 = .ok (.iload 7, 2) := by decide +kernel
theorem dX4_isSame_308 : decode cX4_isSame 308 = .ok (.ifCond .eq 7, 3) := by decide +kernel
theorem dX4_isSame_311 : decode cX4_isSame 311 = .ok (.iconst 1, 1) := by decide +kernel
theorem dX4_isSame_312 : decode cX4_isSame 312 = .ok (.goto 4, 3) := by decide +kernel
theorem dX4_isSame_315 : decode cX4_isSame 315 = .ok (.iconst 0, 1) := by decide +kernel
theorem dX4_isSame_316 : decode cX4_isSame 316 = .ok (.iadd, 1) := by decide +kernel
theorem dX4_isSame_317 : decode cX4_isSame 317 = .ok (.istore 5, 2) := by decide +kernel
theorem dX4_isSame_319 : decode cX4_isSame 319 = .ok (.iinc 6 1, 3) := by decide +kernel
theorem dX4_isSame_322 : decode cX4_isSame 322 = .ok (.goto (-50), 3) := by decide +kernel
theorem dX4_isSame_325 : decode cX4_isSame 325 = .ok (.aload_n 1, 1) := by decide +kernel
theorem dX4_isSame_326 : decode cX4_isSame 326 = .ok (.iload 4, 2) := by decide +kernel
theorem dX4_isSame_328 : decode cX4_isSame 328 = .ok (.invokevirtual 118, 3) := by decide +kernel
theorem dX4_isSame_331 : decode cX4_isSame 331 = .ok (.iload 5, 2) := by decide +kernel
theorem dX4_isSame_333 : decode cX4_isSame 333 = .ok (.iconst 1, 1) := by decide +kernel
theorem dX4_isSame_334 : decode cX4_isSame 334 = .ok (.if_icmp .ne 7, 3) := by decide +kernel
theorem dX4_isSame_337 : decode cX4_isSame 337 = .ok (.iconst 1, 1) := by decide +kernel
theorem dX4_isSame_338 : decode cX4_isSame 338 = .ok (.goto 4, 3) := by decide +kernel
theorem dX4_isSame_341 : decode cX4_isSame 341 = .ok (.iconst 0, 1) := by decide +kernel
theorem dX4_isSame_342 : decode cX4_isSame 342 = .ok (.if_icmp .eq 5, 3) := by decide +kernel
theorem dX4_isSame_345 : decode cX4_isSame 345 = .ok (.iconst 0, 1) := by decide +kernel
theorem dX4_isSame_346 : decode cX4_isSame 346 = .ok (.ireturn, 1) := by decide +kernel
theorem dX4_isSame_347 : decode cX4_isSame 347 = .ok (.iinc 4 1, 3) := by decide +kernel
theorem dX4_isSame_350 : decode cX4_isSame 350 = .ok (.goto (-179), 3) := by decide +kernel
theorem dX4_isSame_353 : decode cX4_isSame 353 = .ok (.iconst 1, 1) := by decide +kernel
theorem dX4_isSame_354 : decode cX4_isSame 354 = .ok (.ireturn, 1) := by decide +kernel
