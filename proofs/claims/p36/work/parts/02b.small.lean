set_option maxRecDepth 20000 in
theorem ggX0_init_X1_init : GoodIn wsX0_init wsX1_init := goodIn_r _ [12, 13, 2, 3, 8, 14, 15, 16, 17] (by decide +kernel) (by decide +kernel)
set_option maxRecDepth 20000 in
theorem gX0_init_X1_init_n11 : GoodIn wsX0_init (wsX1_init) := ggX0_init_X1_init
theorem dX0_init_0 : decode cX0_init 0 = .ok (.aload_n 0, 1) := by decide +kernel
theorem dX0_init_1 : decode cX0_init 1 = .ok (.invokespecial 3, 3) := by decide +kernel
theorem dX0_init_4 : decode cX0_init 4 = .ok (.aload_n 0, 1) := by decide +kernel
theorem dX0_init_5 : decode cX0_init 5 = .ok (.new 9, 3) := by decide +kernel
theorem dX0_init_8 : decode cX0_init 8 = .ok (.dup, 1) := by decide +kernel
theorem dX0_init_9 : decode cX0_init 9 = .ok (.invokespecial 11, 3) := by decide +kernel
theorem dX0_init_12 : decode cX0_init 12 = .ok (.putfield 12, 3) := by decide +kernel
theorem dX0_init_15 : decode cX0_init 15 = .ok (.aload_n 0, 1) := by decide +kernel
theorem dX0_init_16 : decode cX0_init 16 = .ok (.sipush 729, 3) := by decide +kernel
theorem dX0_init_19 : decode cX0_init 19 = .ok (.newarray .int, 2) := by decide +kernel
theorem dX0_init_21 : decode cX0_init 21 = .ok (.putfield 18, 3) := by decide +kernel
theorem dX0_init_24 : decode cX0_init 24 = .ok (.aload_n 0, 1) := by decide +kernel
theorem dX0_init_25 : decode cX0_init 25 = .ok (.bipush 64, 2) := by decide +kernel
theorem dX0_init_27 : decode cX0_init 27 = .ok (.newarray .int, 2) := by decide +kernel
theorem dX0_init_29 : decode cX0_init 29 = .ok (.putfield 22, 3) := by decide +kernel
theorem dX0_init_32 : decode cX0_init 32 = .ok (.return_, 1) := by decide +kernel
theorem dX0_beginWith_0 : decode cX0_beginWith 0 = .ok (.aload_n 0, 1) := by decide +kernel
theorem dX0_beginWith_1 : decode cX0_beginWith 1 = .ok (.iload_n 1, 1) := by decide +kernel
theorem dX0_beginWith_2 : decode cX0_beginWith 2 = .ok (.putfield 25, 3) := by decide +kernel
theorem dX0_beginWith_5 : decode cX0_beginWith 5 = .ok (.aload_n 0, 1) := by decide +kernel
theorem dX0_beginWith_6 : decode cX0_beginWith 6 = .ok (.iload_n 1, 1) := by decide +kernel
theorem dX0_beginWith_7 : decode cX0_beginWith 7 = .ok (.iconst 2, 1) := by decide +kernel
theorem dX0_beginWith_8 : decode cX0_beginWith 8 = .ok (.if_icmp .ne 8, 3) := by decide +kernel
theorem dX0_beginWith_11 : decode cX0_beginWith 11 = .ok (.bipush 81, 2) := by decide +kernel
theorem dX0_beginWith_13 : decode cX0_beginWith 13 = .ok (.goto 6, 3) := by decide +kernel
theorem dX0_beginWith_16 : decode cX0_beginWith 16 = .ok (.sipush 729, 3) := by decide +kernel
theorem dX0_beginWith_19 : decode cX0_beginWith 19 = .ok (.putfield 29, 3) := by decide +kernel
theorem dX0_beginWith_22 : decode cX0_beginWith 22 = .ok (.iconst 0, 1) := by decide +kernel
theorem dX0_beginWith_23 : decode cX0_beginWith 23 = .ok (.istore_n 2, 1) := by decide +kernel
theorem dX0_beginWith_24 : decode cX0_beginWith 24 = .ok (.iload_n 2, 1) := by decide +kernel
theorem dX0_beginWith_25 : decode cX0_beginWith 25 = .ok (.aload_n 0, 1) := by decide +kernel
theorem dX0_beginWith_26 : decode cX0_beginWith 26 = .ok (.getfield 18, 3) := by decide +kernel
theorem dX0_beginWith_29 : decode cX0_beginWith 29 = .ok (.arraylength, 1) := by decide +kernel
theorem dX0_beginWith_30 : decode cX0_beginWith 30 = .ok (.if_icmp .ge 28, 3) := by decide +kernel
theorem dX0_beginWith_33 : decode cX0_beginWith 33 = .ok (.aload_n 0, 1) := by decide +kernel
theorem dX0_beginWith_34 : decode cX0_beginWith 34 = .ok (.getfield 18, 3) := by decide +kernel
theorem dX0_beginWith_37 : decode cX0_beginWith 37 = .ok (.iload_n 2, 1) := by decide +kernel
theorem dX0_beginWith_38 : decode cX0_beginWith 38 = .ok (.iload_n 2, 1) := by decide +kernel
theorem dX0_beginWith_39 : decode cX0_beginWith 39 = .ok (.aload_n 0, 1) := by decide +kernel
theorem dX0_beginWith_40 : decode cX0_beginWith 40 = .ok (.getfield 29, 3) := by decide +kernel
theorem dX0_beginWith_43 : decode cX0_beginWith 43 = .ok (.if_icmp .ge 7, 3) := by decide +kernel
theorem dX0_beginWith_46 : decode cX0_beginWith 46 = .ok (.iconst 0, 1) := by decide +kernel
theorem dX0_beginWith_47 : decode cX0_beginWith 47 = .ok (.goto 4, 3) := by decide +kernel
theorem dX0_beginWith_50 : decode cX0_beginWith 50 = .ok (.iconst (-1), 1) := by decide +kernel
theorem dX0_beginWith_51 : decode cX0_beginWith 51 = .ok (.iastore, 1) := by decide +kernel
theorem dX0_beginWith_52 : decode cX0_beginWith 52 = .ok (.iinc 2 1, 3) := by decide +kernel
theorem dX0_beginWith_55 : decode cX0_beginWith 55 = .ok (.goto (-31), 3) := by decide +kernel
theorem dX0_beginWith_58 : decode cX0_beginWith 58 = .ok (.return_, 1) := by decide +kernel
theorem dX0_candidatesLeft_0 : decode cX0_candidatesLeft 0 = .ok (.aload_n 0, 1) := by decide +kernel
theorem dX0_candidatesLeft_1 : decode cX0_candidatesLeft 1 = .ok (.getfield 29, 3) := by decide +kernel
theorem dX0_candidatesLeft_4 : decode cX0_candidatesLeft 4 = .ok (.ireturn, 1) := by decide +kernel
theorem dX0_isCandidate_0 : decode cX0_isCandidate 0 = .ok (.iload_n 1, 1) := by decide +kernel
theorem dX0_isCandidate_1 : decode cX0_isCandidate 1 = .ok (.ifCond .lt 26, 3) := by decide +kernel
theorem dX0_isCandidate_4 : decode cX0_isCandidate 4 = .ok (.iload_n 1, 1) := by decide +kernel
theorem dX0_isCandidate_5 : decode cX0_isCandidate 5 = .ok (.aload_n 0, 1) := by decide +kernel
theorem dX0_isCandidate_6 : decode cX0_isCandidate 6 = .ok (.getfield 18, 3) := by decide +kernel
theorem dX0_isCandidate_9 : decode cX0_isCandidate 9 = .ok (.arraylength, 1) := by decide +kernel
theorem dX0_isCandidate_10 : decode cX0_isCandidate 10 = .ok (.if_icmp .ge 17, 3) := by decide +kernel
theorem dX0_isCandidate_13 : decode cX0_isCandidate 13 = .ok (.aload_n 0, 1) := by decide +kernel
theorem dX0_isCandidate_14 : decode cX0_isCandidate 14 = .ok (.getfield 18, 3) := by decide +kernel
theorem dX0_isCandidate_17 : decode cX0_isCandidate 17 = .ok (.iload_n 1, 1) := by decide +kernel
theorem dX0_isCandidate_18 : decode cX0_isCandidate 18 = .ok (.iaload, 1) := by decide +kernel
theorem dX0_isCandidate_19 : decode cX0_isCandidate 19 = .ok (.iconst (-1), 1) := by decide +kernel
theorem dX0_isCandidate_20 : decode cX0_isCandidate 20 = .ok (.if_icmp .eq 7, 3) := by decide +kernel
theorem dX0_isCandidate_23 : decode cX0_isCandidate 23 = .ok (.iconst 1, 1) := by decide +kernel
theorem dX0_isCandidate_24 : decode cX0_isCandidate 24 = .ok (.goto 4, 3) := by decide +kernel
theorem dX0_isCandidate_27 : decode cX0_isCandidate 27 = .ok (.iconst 0, 1) := by decide +kernel
theorem dX0_isCandidate_28 : decode cX0_isCandidate 28 = .ok (.ireturn, 1) := by decide +kernel
set_option maxRecDepth 20000 in
theorem ggX0_imagine_X0_isCandidate : GoodIn wsX0_imagine wsX0_isCandidate := goodIn_r _ [8, 3, 24, 25, 26, 27, 28] (by decide +kernel) (by decide +kernel)
set_option maxRecDepth 20000 in
theorem gX0_imagine_X0_isCandidate : GoodIn wsX0_imagine (wsV RX0 32 RX0 yX0_isCandidate wsX0_isCandidate) := goodIn_app (goodIn_of _ (by decide +kernel)) ggX0_imagine_X0_isCandidate
set_option maxRecDepth 20000 in
theorem ggX0_imagine_X1_layEmpty : GoodIn wsX0_imagine wsX1_layEmpty := goodIn_r _ [13, 14, 15, 16, 17, 18, 19, 29, 30] (by decide +kernel) (by decide +kernel)
set_option maxRecDepth 20000 in
theorem gX0_imagine_X1_layEmpty : GoodIn wsX0_imagine (wsV RX0 36 RX1 yX1_layEmpty wsX1_layEmpty) := goodIn_app (goodIn_of _ (by decide +kernel)) ggX0_imagine_X1_layEmpty
set_option maxRecDepth 20000 in
theorem ggX0_imagine_X1_hold : GoodIn wsX0_imagine wsX1_hold := goodIn_r _ [23, 15, 29, 30] (by decide +kernel) (by decide +kernel)
set_option maxRecDepth 20000 in
theorem gX0_imagine_X1_hold : GoodIn wsX0_imagine (wsV RX0 40 RX1 yX1_hold wsX1_hold) := goodIn_app (goodIn_of _ (by decide +kernel)) ggX0_imagine_X1_hold
theorem dX0_imagine_0 : decode cX0_imagine 0 = .ok (.aload_n 0, 1) := by decide +kernel
theorem dX0_imagine_1 : decode cX0_imagine 1 = .ok (.iload_n 1, 1) := by decide +kernel
theorem dX0_imagine_2 : decode cX0_imagine 2 = .ok (.invokevirtual 32, 3) := by decide +kernel
theorem dX0_imagine_5 : decode cX0_imagine 5 = .ok (.ifCond .eq 58, 3) := by decide +kernel
theorem dX0_imagine_8 : decode cX0_imagine 8 = .ok (.aload_n 0, 1) := by decide +kernel
theorem dX0_imagine_9 : decode cX0_imagine 9 = .ok (.getfield 25, 3) := by decide +kernel
theorem dX0_imagine_12 : decode cX0_imagine 12 = .ok (.iconst 2, 1) := by decide +kernel
theorem dX0_imagine_13 : decode cX0_imagine 13 = .ok (.if_icmp .ne 7, 3) := by decide +kernel
theorem dX0_imagine_16 : decode cX0_imagine 16 = .ok (.iconst 0, 1) := by decide +kernel
theorem dX0_imagine_17 : decode cX0_imagine 17 = .ok (.goto 9, 3) := by decide +kernel
theorem dX0_imagine_20 : decode cX0_imagine 20 = .ok (.iload_n 1, 1) := by decide +kernel
theorem dX0_imagine_21 : decode cX0_imagine 21 = .ok (.bipush 81, 2) := by decide +kernel
theorem dX0_imagine_23 : decode cX0_imagine 23 = .ok (.idiv, 1) := by decide +kernel
theorem dX0_imagine_24 : decode cX0_imagine 24 = .ok (.iconst 1, 1) := by decide +kernel
theorem dX0_imagine_25 : decode cX0_imagine 25 = .ok (.iadd, 1) := by decide +kernel
theorem dX0_imagine_26 : decode cX0_imagine 26 = .ok (.istore_n 2, 1) := by decide +kernel
theorem dX0_imagine_27 : decode cX0_imagine 27 = .ok (.aload_n 0, 1) := by decide +kernel
theorem dX0_imagine_28 : decode cX0_imagine 28 = .ok (.getfield 12, 3) := by decide +kernel
theorem dX0_imagine_31 : decode cX0_imagine 31 = .ok (.iload_n 1, 1) := by decide +kernel
theorem dX0_imagine_32 : decode cX0_imagine 32 = .ok (.bipush 9, 2) := by decide +kernel
theorem dX0_imagine_34 : decode cX0_imagine 34 = .ok (.irem, 1) := by decide +kernel
theorem dX0_imagine_35 : decode cX0_imagine 35 = .ok (.iconst 1, 1) := by decide +kernel
theorem dX0_imagine_36 : decode cX0_imagine 36 = .ok (.iadd, 1) := by decide +kernel
theorem dX0_imagine_37 : decode cX0_imagine 37 = .ok (.iload_n 1, 1) := by decide +kernel
theorem dX0_imagine_38 : decode cX0_imagine 38 = .ok (.bipush 9, 2) := by decide +kernel
theorem dX0_imagine_40 : decode cX0_imagine 40 = .ok (.idiv, 1) := by decide +kernel
theorem dX0_imagine_41 : decode cX0_imagine 41 = .ok (.bipush 9, 2) := by decide +kernel
theorem dX0_imagine_43 : decode cX0_imagine 43 = .ok (.irem, 1) := by decide +kernel
theorem dX0_imagine_44 : decode cX0_imagine 44 = .ok (.iconst 1, 1) := by decide +kernel
theorem dX0_imagine_45 : decode cX0_imagine 45 = .ok (.iadd, 1) := by decide +kernel
theorem dX0_imagine_46 : decode cX0_imagine 46 = .ok (.iload_n 2, 1) := by decide +kernel
theorem dX0_imagine_47 : decode cX0_imagine 47 = .ok (.invokevirtual 36, 3) := by decide +kernel
theorem dX0_imagine_50 : decode cX0_imagine 50 = .ok (.aload_n 0, 1) := by decide +kernel
theorem dX0_imagine_51 : decode cX0_imagine 51 = .ok (.getfield 12, 3) := by decide +kernel
theorem dX0_imagine_54 : decode cX0_imagine 54 = .ok (.aload_n 0, 1) := by decide +kernel
theorem dX0_imagine_55 : decode cX0_imagine 55 = .ok (.getfield 18, 3) := by decide +kernel
theorem dX0_imagine_58 : decode cX0_imagine 58 = .ok (.iload_n 1, 1) := by decide +kernel
theorem dX0_imagine_59 : decode cX0_imagine 59 = .ok (.iaload, 1) := by decide +kernel
theorem dX0_imagine_60 : decode cX0_imagine 60 = .ok (.invokevirtual 40, 3) := by decide +kernel
theorem dX0_imagine_63 : decode cX0_imagine 63 = .ok (.return_, 1) := by decide +kernel
set_option maxRecDepth 20000 in
theorem ggX0_drop_X0_isCandidate : GoodIn wsX0_drop wsX0_isCandidate := goodIn_r _ [7, 1, 8, 9, 10, 11, 12] (by decide +kernel) (by decide +kernel)
set_option maxRecDepth 20000 in
theorem gX0_drop_X0_isCandidate : GoodIn wsX0_drop (wsV RX0 32 RX0 yX0_isCandidate wsX0_isCandidate) := goodIn_app (goodIn_of _ (by decide +kernel)) ggX0_drop_X0_isCandidate
theorem dX0_drop_0 : decode cX0_drop 0 = .ok (.aload_n 0, 1) := by decide +kernel
theorem dX0_drop_1 : decode cX0_drop 1 = .ok (.iload_n 1, 1) := by decide +kernel
theorem dX0_drop_2 : decode cX0_drop 2 = .ok (.invokevirtual 32, 3) := by decide +kernel
theorem dX0_drop_5 : decode cX0_drop 5 = .ok (.ifCond .eq 20, 3) := by decide +kernel
theorem dX0_drop_8 : decode cX0_drop 8 = .ok (.aload_n 0, 1) := by decide +kernel
theorem dX0_drop_9 : decode cX0_drop 9 = .ok (.getfield 18, 3) := by decide +kernel
theorem dX0_drop_12 : decode cX0_drop 12 = .ok (.iload_n 1, 1) := by decide +kernel
theorem dX0_drop_13 : decode cX0_drop 13 = .ok (.iconst (-1), 1) := by decide +kernel
theorem dX0_drop_14 : decode cX0_drop 14 = .ok (.iastore, 1) := by decide +kernel
theorem dX0_drop_15 : decode cX0_drop 15 = .ok (.aload_n 0, 1) := by decide +kernel
theorem dX0_drop_16 : decode cX0_drop 16 = .ok (.dup, 1) := by decide +kernel
theorem dX0_drop_17 : decode cX0_drop 17 = .ok (.getfield 29, 3) := by decide +kernel
theorem dX0_drop_20 : decode cX0_drop 20 = .ok (.iconst 1, 1) := by decide +kernel
theorem dX0_drop_21 : decode cX0_drop 21 = .ok (.isub, 1) := by decide +kernel
theorem dX0_drop_22 : decode cX0_drop 22 = .ok (.putfield 29, 3) := by decide +kernel
theorem dX0_drop_25 : decode cX0_drop 25 = .ok (.return_, 1) := by decide +kernel
set_option maxRecDepth 20000 in
theorem ggX0_keep_X0_isCandidate : GoodIn wsX0_keep wsX0_isCandidate := goodIn_r _ [6, 1, 7, 8, 9, 10, 11] (by decide +kernel) (by decide +kernel)
set_option maxRecDepth 20000 in
theorem gX0_keep_X0_isCandidate : GoodIn wsX0_keep (wsV RX0 32 RX0 yX0_isCandidate wsX0_isCandidate) := goodIn_app (goodIn_of _ (by decide +kernel)) ggX0_keep_X0_isCandidate
theorem dX0_keep_0 : decode cX0_keep 0 = .ok (.aload_n 0, 1) := by decide +kernel
theorem dX0_keep_1 : decode cX0_keep 1 = .ok (.iload_n 1, 1) := by decide +kernel
theorem dX0_keep_2 : decode cX0_keep 2 = .ok (.invokevirtual 32, 3) := by decide +kernel
theorem dX0_keep_5 : decode cX0_keep 5 = .ok (.ifCond .eq 10, 3) := by decide +kernel
theorem dX0_keep_8 : decode cX0_keep 8 = .ok (.aload_n 0, 1) := by decide +kernel
theorem dX0_keep_9 : decode cX0_keep 9 = .ok (.getfield 18, 3) := by decide +kernel
theorem dX0_keep_12 : decode cX0_keep 12 = .ok (.iload_n 1, 1) := by decide +kernel
theorem dX0_keep_13 : decode cX0_keep 13 = .ok (.iload_n 2, 1) := by decide +kernel
theorem dX0_keep_14 : decode cX0_keep 14 = .ok (.iastore, 1) := by decide +kernel
theorem dX0_keep_15 : decode cX0_keep 15 = .ok (.return_, 1) := by decide +kernel
set_option maxRecDepth 20000 in
theorem ggX0_see_X0_isCandidate : GoodIn wsX0_see wsX0_isCandidate := goodIn_r _ [6, 7, 76, 77, 78, 79, 80] (by decide +kernel) (by decide +kernel)
set_option maxRecDepth 20000 in
theorem gX0_see_X0_isCandidate : GoodIn wsX0_see (wsV RX0 32 RX0 yX0_isCandidate wsX0_isCandidate) := goodIn_app (goodIn_of _ (by decide +kernel)) ggX0_see_X0_isCandidate
set_option maxRecDepth 20000 in
theorem ggX0_see_X0_imagine : GoodIn wsX0_see wsX0_imagine := goodIn_r _ [11, 12, 1, 7, 2, 3, 4, 5, 6, 13, 14, 15, 16, 17, 18, 19, 20, 21, 22, 23, 24, 25, 26, 27, 76, 77, 78, 79, 80, 81, 82] (by decide +kernel) (by decide +kernel)
set_option maxRecDepth 20000 in
theorem gX0_see_X0_imagine : GoodIn wsX0_see (wsV RX0 44 RX0 yX0_imagine wsX0_imagine) := goodIn_app (goodIn_of _ (by decide +kernel)) ggX0_see_X0_imagine
set_option maxRecDepth 20000 in
theorem ggX0_see_X1_change : GoodIn wsX0_see wsX1_change := goodIn_r _ [31, 32, 33, 34, 35, 36, 37, 38, 16, 39, 18, 40, 41, 42, 43, 19, 44, 45, 46, 47, 81, 82] (by decide +kernel) (by decide +kernel)
set_option maxRecDepth 20000 in
theorem gX0_see_X1_change : GoodIn wsX0_see (wsV RX0 47 RX1 yX1_change wsX1_change) := goodIn_app (goodIn_of _ (by decide +kernel)) ggX0_see_X1_change
set_option maxRecDepth 20000 in
theorem ggX0_see_X1_look : GoodIn wsX0_see wsX1_look := goodIn_r _ [51, 52, 53, 54, 16, 55, 40, 41, 42, 43, 19, 56, 57, 58, 59, 60, 61, 62, 36, 37, 38, 39, 18, 81, 82] (by decide +kernel) (by decide +kernel)
set_option maxRecDepth 20000 in
theorem gX0_see_X1_look : GoodIn wsX0_see (wsV RX0 51 RX1 yX1_look wsX1_look) := goodIn_app (goodIn_of _ (by decide +kernel)) ggX0_see_X1_look
set_option maxRecDepth 20000 in
theorem ggX0_see_X1_state : GoodIn wsX0_see wsX1_state := goodIn_r _ [66, 19, 81, 82] (by decide +kernel) (by decide +kernel)
set_option maxRecDepth 20000 in
theorem gX0_see_X1_state : GoodIn wsX0_see (wsV RX0 55 RX1 yX1_state wsX1_state) := goodIn_app (goodIn_of _ (by decide +kernel)) ggX0_see_X1_state
set_option maxRecDepth 20000 in
theorem ggX0_see_X0_keep : GoodIn wsX0_see wsX0_keep := goodIn_r _ [70, 7, 2, 3, 4, 5, 6, 76, 77, 78, 79, 80] (by decide +kernel) (by decide +kernel)
set_option maxRecDepth 20000 in
theorem gX0_see_X0_keep : GoodIn wsX0_see (wsV RX0 58 RX0 yX0_keep wsX0_keep) := goodIn_app (goodIn_of _ (by decide +kernel)) ggX0_see_X0_keep
set_option maxRecDepth 20000 in
theorem ggX0_see_X0_drop : GoodIn wsX0_see wsX0_drop := goodIn_r _ [74, 7, 75, 2, 3, 4, 5, 6, 76, 77, 78, 79, 80] (by decide +kernel) (by decide +kernel)
set_option maxRecDepth 20000 in
theorem gX0_see_X0_drop : GoodIn wsX0_see (wsV RX0 62 RX0 yX0_drop wsX0_drop) := goodIn_app (goodIn_of _ (by decide +kernel)) ggX0_see_X0_drop
theorem dX0_see_0 : decode cX0_see 0 = .ok (.iconst 0, 1) := by decide +kernel
theorem dX0_see_1 : decode cX0_see 1 = .ok (.istore_n 3, 1) := by decide +kernel
theorem dX0_see_2 : decode cX0_see 2 = .ok (.iload_n 3, 1) := by decide +kernel
theorem dX0_see_3 : decode cX0_see 3 = .ok (.sipush 729, 3) := by decide +kernel
theorem dX0_see_6 : decode cX0_see 6 = .ok (.if_icmp .ge 62, 3) := by decide +kernel
theorem dX0_see_9 : decode cX0_see 9 = .ok (.aload_n 0, 1) := by decide +kernel
theorem dX0_see_10 : decode cX0_see 10 = .ok (.iload_n 3, 1) := by decide +kernel
theorem dX0_see_11 : decode cX0_see 11 = .ok (.invokevirtual 32, 3) := by decide +kernel
theorem dX0_see_14 : decode cX0_see 14 = .ok (.ifCond .eq 48, 3) := by decide +kernel
theorem dX0_see_17 : decode cX0_see 17 = .ok (.aload_n 0, 1) := by decide +kernel
theorem dX0_see_18 : decode cX0_see 18 = .ok (.iload_n 3, 1) := by decide +kernel
theorem dX0_see_19 : decode cX0_see 19 = .ok (.invokevirtual 44, 3) := by decide +kernel
theorem dX0_see_22 : decode cX0_see 22 = .ok (.aload_n 0, 1) := by decide +kernel
theorem dX0_see_23 : decode cX0_see 23 = .ok (.getfield 12, 3) := by decide +kernel
theorem dX0_see_26 : decode cX0_see 26 = .ok (.iload_n 1, 1) := by decide +kernel
theorem dX0_see_27 : decode cX0_see 27 = .ok (.invokevirtual 47, 3) := by decide +kernel
theorem dX0_see_30 : decode cX0_see 30 = .ok (.pop, 1) := by decide +kernel
theorem dX0_see_31 : decode cX0_see 31 = .ok (.aload_n 0, 1) := by decide +kernel
theorem dX0_see_32 : decode cX0_see 32 = .ok (.getfield 12, 3) := by decide +kernel
theorem dX0_see_35 : decode cX0_see 35 = .ok (.invokevirtual 51, 3) := by decide +kernel
theorem dX0_see_38 : decode cX0_see 38 = .ok (.iload_n 2, 1) := by decide +kernel
theorem dX0_see_39 : decode cX0_see 39 = .ok (.if_icmp .ne 18, 3) := by decide +kernel
theorem dX0_see_42 : decode cX0_see 42 = .ok (.aload_n 0, 1) := by decide +kernel
theorem dX0_see_43 : decode cX0_see 43 = .ok (.iload_n 3, 1) := by decide +kernel
theorem dX0_see_44 : decode cX0_see 44 = .ok (.aload_n 0, 1) := by decide +kernel
theorem dX0_see_45 : decode cX0_see 45 = .ok (.getfield 12, 3) := by decide +kernel
theorem dX0_see_48 : decode cX0_see 48 = .ok (.invokevirtual 55, 3) := by decide +kernel
theorem dX0_see_51 : decode cX0_see 51 = .ok (.invokevirtual 58, 3) := by decide +kernel
theorem dX0_see_54 : decode cX0_see 54 = .ok (.goto 8, 3) := by decide +kernel
theorem dX0_see_57 : decode cX0_see 57 = .ok (.aload_n 0, 1) := by decide +kernel
theorem dX0_see_58 : decode cX0_see 58 = .ok (.iload_n 3, 1) := by decide +kernel
theorem dX0_see_59 : decode cX0_see 59 = .ok (.invokevirtual 62, 3) := by decide +kernel
theorem dX0_see_62 : decode cX0_see 62 = .ok (.iinc 3 1, 3) := by decide +kernel
theorem dX0_see_65 : decode cX0_see 65 = .ok (.goto (-63), 3) := by decide +kernel
theorem dX0_see_68 : decode cX0_see 68 = .ok (.return_, 1) := by decide +kernel
set_option maxRecDepth 20000 in
theorem ggX0_learn_X0_isCandidate : GoodIn wsX0_learn wsX0_isCandidate := goodIn_r _ [6, 7, 37, 38, 39, 40, 41] (by decide +kernel) (by decide +kernel)
set_option maxRecDepth 20000 in
theorem gX0_learn_X0_isCandidate : GoodIn wsX0_learn (wsV RX0 32 RX0 yX0_isCandidate wsX0_isCandidate) := goodIn_app (goodIn_of _ (by decide +kernel)) ggX0_learn_X0_isCandidate
set_option maxRecDepth 20000 in
theorem ggX0_learn_X0_imagine : GoodIn wsX0_learn wsX0_imagine := goodIn_r _ [11, 12, 1, 7, 2, 3, 4, 5, 6, 13, 14, 15, 16, 17, 18, 19, 20, 21, 22, 23, 24, 25, 26, 27, 37, 38, 39, 40, 41, 42, 43] (by decide +kernel) (by decide +kernel)
set_option maxRecDepth 20000 in
theorem gX0_learn_X0_imagine : GoodIn wsX0_learn (wsV RX0 44 RX0 yX0_imagine wsX0_imagine) := goodIn_app (goodIn_of _ (by decide +kernel)) ggX0_learn_X0_imagine
set_option maxRecDepth 20000 in
theorem ggX0_learn_X1_volumeAt : GoodIn wsX0_learn wsX1_volumeAt := goodIn_r _ [31, 18, 42, 43] (by decide +kernel) (by decide +kernel)
set_option maxRecDepth 20000 in
theorem gX0_learn_X1_volumeAt : GoodIn wsX0_learn (wsV RX0 65 RX1 yX1_volumeAt wsX1_volumeAt) := goodIn_app (goodIn_of _ (by decide +kernel)) ggX0_learn_X1_volumeAt
set_option maxRecDepth 20000 in
theorem ggX0_learn_X0_drop : GoodIn wsX0_learn wsX0_drop := goodIn_r _ [35, 7, 36, 2, 3, 4, 5, 6, 37, 38, 39, 40, 41] (by decide +kernel) (by decide +kernel)
set_option maxRecDepth 20000 in
theorem gX0_learn_X0_drop : GoodIn wsX0_learn (wsV RX0 62 RX0 yX0_drop wsX0_drop) := goodIn_app (goodIn_of _ (by decide +kernel)) ggX0_learn_X0_drop
theorem dX0_learn_0 : decode cX0_learn 0 = .ok (.iconst 0, 1) := by decide +kernel
theorem dX0_learn_1 : decode cX0_learn 1 = .ok (.istore 4, 2) := by decide +kernel
theorem dX0_learn_3 : decode cX0_learn 3 = .ok (.iload 4, 2) := by decide +kernel
theorem dX0_learn_5 : decode cX0_learn 5 = .ok (.sipush 729, 3) := by decide +kernel
theorem dX0_learn_8 : decode cX0_learn 8 = .ok (.if_icmp .ge 55, 3) := by decide +kernel
theorem dX0_learn_11 : decode cX0_learn 11 = .ok (.aload_n 0, 1) := by decide +kernel
theorem dX0_learn_12 : decode cX0_learn 12 = .ok (.iload 4, 2) := by decide +kernel
theorem dX0_learn_14 : decode cX0_learn 14 = .ok (.invokevirtual 32, 3) := by decide +kernel
theorem dX0_learn_17 : decode cX0_learn 17 = .ok (.ifCond .eq 40, 3) := by decide +kernel
theorem dX0_learn_20 : decode cX0_learn 20 = .ok (.aload_n 0, 1) := by decide +kernel
theorem dX0_learn_21 : decode cX0_learn 21 = .ok (.iload 4, 2) := by decide +kernel
theorem dX0_learn_23 : decode cX0_learn 23 = .ok (.invokevirtual 44, 3) := by decide +kernel
theorem dX0_learn_26 : decode cX0_learn 26 = .ok (.aload_n 0, 1) := by decide +kernel
theorem dX0_learn_27 : decode cX0_learn 27 = .ok (.getfield 12, 3) := by decide +kernel
theorem dX0_learn_30 : decode cX0_learn 30 = .ok (.iload_n 1, 1) := by decide +kernel
theorem dX0_learn_31 : decode cX0_learn 31 = .ok (.invokevirtual 65, 3) := by decide +kernel
theorem dX0_learn_34 : decode cX0_learn 34 = .ok (.iload_n 2, 1) := by decide +kernel
theorem dX0_learn_35 : decode cX0_learn 35 = .ok (.if_icmp .ne 7, 3) := by decide +kernel
theorem dX0_learn_38 : decode cX0_learn 38 = .ok (.iconst 1, 1) := by decide +kernel
theorem dX0_learn_39 : decode cX0_learn 39 = .ok (.goto 4, 3) := by decide +kernel
theorem dX0_learn_42 : decode cX0_learn 42 = .ok (.iconst 0, 1) := by decide +kernel
theorem dX0_learn_43 : decode cX0_learn 43 = .ok (.istore 5, 2) := by decide +kernel
theorem dX0_learn_45 : decode cX0_learn 45 = .ok (.iload 5, 2) := by decide +kernel
theorem dX0_learn_47 : decode cX0_learn 47 = .ok (.iload_n 3, 1) := by decide +kernel
theorem dX0_learn_48 : decode cX0_learn 48 = .ok (.if_icmp .eq 9, 3) := by decide +kernel
theorem dX0_learn_51 : decode cX0_learn 51 = .ok (.aload_n 0, 1) := by decide +kernel
theorem dX0_learn_52 : decode cX0_learn 52 = .ok (.iload 4, 2) := by decide +kernel
theorem dX0_learn_54 : decode cX0_learn 54 = .ok (.invokevirtual 62, 3) := by decide +kernel
theorem dX0_learn_57 : decode cX0_learn 57 = .ok (.iinc 4 1, 3) := by decide +kernel
theorem dX0_learn_60 : decode cX0_learn 60 = .ok (.goto (-57), 3) := by decide +kernel
theorem dX0_learn_63 : decode cX0_learn 63 = .ok (.return_, 1) := by decide +kernel
set_option maxRecDepth 20000 in
theorem ggX0_volumesFor_X0_isCandidate : GoodIn wsX0_volumesFor wsX0_isCandidate := goodIn_r _ [6, 7, 32, 33, 34, 35, 36] (by decide +kernel) (by decide +kernel)
set_option maxRecDepth 20000 in
theorem gX0_volumesFor_X0_isCandidate : GoodIn wsX0_volumesFor (wsV RX0 32 RX0 yX0_isCandidate wsX0_isCandidate) := goodIn_app (goodIn_of _ (by decide +kernel)) ggX0_volumesFor_X0_isCandidate
set_option maxRecDepth 20000 in
theorem ggX0_volumesFor_X0_imagine : GoodIn wsX0_volumesFor wsX0_imagine := goodIn_r _ [11, 12, 1, 7, 2, 3, 4, 5, 6, 13, 14, 15, 16, 17, 18, 19, 20, 21, 22, 23, 24, 25, 26, 27, 32, 33, 34, 35, 36, 37, 38] (by decide +kernel) (by decide +kernel)
set_option maxRecDepth 20000 in
theorem gX0_volumesFor_X0_imagine : GoodIn wsX0_volumesFor (wsV RX0 44 RX0 yX0_imagine wsX0_imagine) := goodIn_app (goodIn_of _ (by decide +kernel)) ggX0_volumesFor_X0_imagine
set_option maxRecDepth 20000 in
theorem ggX0_volumesFor_X1_volumeAt : GoodIn wsX0_volumesFor wsX1_volumeAt := goodIn_r _ [31, 18, 37, 38] (by decide +kernel) (by decide +kernel)
set_option maxRecDepth 20000 in
theorem gX0_volumesFor_X1_volumeAt : GoodIn wsX0_volumesFor (wsV RX0 65 RX1 yX1_volumeAt wsX1_volumeAt) := goodIn_app (goodIn_of _ (by decide +kernel)) ggX0_volumesFor_X1_volumeAt
theorem dX0_volumesFor_0 : decode cX0_volumesFor 0 = .ok (.iconst 0, 1) := by decide +kernel
theorem dX0_volumesFor_1 : decode cX0_volumesFor 1 = .ok (.istore_n 2, 1) := by decide +kernel
theorem dX0_volumesFor_2 : decode cX0_volumesFor 2 = .ok (.iconst 0, 1) := by decide +kernel
theorem dX0_volumesFor_3 : decode cX0_volumesFor 3 = .ok (.istore_n 3, 1) := by decide +kernel
theorem dX0_volumesFor_4 : decode cX0_volumesFor 4 = .ok (.iload_n 3, 1) := by decide +kernel
theorem dX0_volumesFor_5 : decode cX0_volumesFor 5 = .ok (.sipush 729, 3) := by decide +kernel
theorem dX0_volumesFor_8 : decode cX0_volumesFor 8 = .ok (.if_icmp .ge 35, 3) := by decide +kernel
theorem dX0_volumesFor_11 : decode cX0_volumesFor 11 = .ok (.aload_n 0, 1) := by decide +kernel
theorem dX0_volumesFor_12 : decode cX0_volumesFor 12 = .ok (.iload_n 3, 1) := by decide +kernel
theorem dX0_volumesFor_13 : decode cX0_volumesFor 13 = .ok (.invokevirtual 32, 3) := by decide +kernel
theorem dX0_volumesFor_16 : decode cX0_volumesFor 16 = .ok (.ifCond .eq 21, 3) := by decide +kernel
theorem dX0_volumesFor_19 : decode cX0_volumesFor 19 = .ok (.aload_n 0, 1) := by decide +kernel
theorem dX0_volumesFor_20 : decode cX0_volumesFor 20 = .ok (.iload_n 3, 1) := by decide +kernel
theorem dX0_volumesFor_21 : decode cX0_volumesFor 21 = .ok (.invokevirtual 44, 3) := by decide +kernel
theorem dX0_volumesFor_24 : decode cX0_volumesFor 24 = .ok (.iload_n 2, 1) := by decide +kernel
theorem dX0_volumesFor_25 : decode cX0_volumesFor 25 = .ok (.iconst 1, 1) := by decide +kernel
theorem dX0_volumesFor_26 : decode cX0_volumesFor 26 = .ok (.aload_n 0, 1) := by decide +kernel
theorem dX0_volumesFor_27 : decode cX0_volumesFor 27 = .ok (.getfield 12, 3) := by decide +kernel
theorem dX0_volumesFor_30 : decode cX0_volumesFor 30 = .ok (.iload_n 1, 1) := by decide +kernel
theorem dX0_volumesFor_31 : decode cX0_volumesFor 31 = .ok (.invokevirtual 65, 3) := by decide +kernel
theorem dX0_volumesFor_34 : decode cX0_volumesFor 34 = .ok (.ishl, 1) := by decide +kernel
theorem dX0_volumesFor_35 : decode cX0_volumesFor 35 = .ok (.ior, 1) := by decide +kernel
theorem dX0_volumesFor_36 : decode cX0_volumesFor 36 = .ok (.istore_n 2, 1) := by decide +kernel
theorem dX0_volumesFor_37 : decode cX0_volumesFor 37 = .ok (.iinc 3 1, 3) := by decide +kernel
theorem dX0_volumesFor_40 : decode cX0_volumesFor 40 = .ok (.goto (-36), 3) := by decide +kernel
theorem dX0_volumesFor_43 : decode cX0_volumesFor 43 = .ok (.iload_n 2, 1) := by decide +kernel
theorem dX0_volumesFor_44 : decode cX0_volumesFor 44 = .ok (.ireturn, 1) := by decide +kernel
set_option maxRecDepth 20000 in
theorem ggX0_mostLeftBehind_J7_fill_53178 : GoodIn wsX0_mostLeftBehind wsJ7_fill_53178 := goodIn_r _ [10] (by decide +kernel) (by decide +kernel)
set_option maxRecDepth 20000 in
theorem gX0_mostLeftBehind_J7_fill_53178 : GoodIn wsX0_mostLeftBehind (va_wsS RX0 68 yJ7_fill_53178 wsJ7_fill_53178) := goodIn_app (goodIn_of _ (by decide +kernel)) ggX0_mostLeftBehind_J7_fill_53178
set_option maxRecDepth 20000 in
theorem ggX0_mostLeftBehind_X0_isCandidate : GoodIn wsX0_mostLeftBehind wsX0_isCandidate := goodIn_r _ [15, 16, 72, 73, 74, 75, 76] (by decide +kernel) (by decide +kernel)
set_option maxRecDepth 20000 in
theorem gX0_mostLeftBehind_X0_isCandidate : GoodIn wsX0_mostLeftBehind (wsV RX0 32 RX0 yX0_isCandidate wsX0_isCandidate) := goodIn_app (goodIn_of _ (by decide +kernel)) ggX0_mostLeftBehind_X0_isCandidate
set_option maxRecDepth 20000 in
theorem ggX0_mostLeftBehind_X0_imagine : GoodIn wsX0_mostLeftBehind wsX0_imagine := goodIn_r _ [20, 21, 2, 16, 11, 12, 13, 14, 15, 22, 23, 24, 25, 26, 27, 28, 29, 8, 9, 10, 30, 31, 32, 33, 72, 73, 74, 75, 76, 77, 78] (by decide +kernel) (by decide +kernel)
set_option maxRecDepth 20000 in
theorem gX0_mostLeftBehind_X0_imagine : GoodIn wsX0_mostLeftBehind (wsV RX0 44 RX0 yX0_imagine wsX0_imagine) := goodIn_app (goodIn_of _ (by decide +kernel)) ggX0_mostLeftBehind_X0_imagine
set_option maxRecDepth 20000 in
theorem ggX0_mostLeftBehind_X1_change : GoodIn wsX0_mostLeftBehind wsX1_change := goodIn_r _ [37, 38, 39, 5, 40, 41, 42, 43, 25, 44, 27, 45, 46, 47, 48, 28, 49, 50, 51, 52, 77, 78] (by decide +kernel) (by decide +kernel)
set_option maxRecDepth 20000 in
theorem gX0_mostLeftBehind_X1_change : GoodIn wsX0_mostLeftBehind (wsV RX0 47 RX1 yX1_change wsX1_change) := goodIn_app (goodIn_of _ (by decide +kernel)) ggX0_mostLeftBehind_X1_change
set_option maxRecDepth 20000 in
theorem ggX0_mostLeftBehind_X1_look : GoodIn wsX0_mostLeftBehind wsX1_look := goodIn_r _ [56, 57, 58, 59, 25, 60, 45, 46, 47, 48, 28, 61, 62, 63, 64, 65, 66, 67, 41, 42, 43, 44, 27, 77, 78] (by decide +kernel) (by decide +kernel)
set_option maxRecDepth 20000 in
theorem gX0_mostLeftBehind_X1_look : GoodIn wsX0_mostLeftBehind (wsV RX0 51 RX1 yX1_look wsX1_look) := goodIn_app (goodIn_of _ (by decide +kernel)) ggX0_mostLeftBehind_X1_look
set_option maxRecDepth 20000 in
theorem ggX0_mostLeftBehind_X0_tally : GoodIn wsX0_mostLeftBehind wsX0_tally := goodIn_r _ [71, 1, 72, 73, 74, 75, 76] (by decide +kernel) (by decide +kernel)
set_option maxRecDepth 20000 in
theorem gX0_mostLeftBehind_X0_tally : GoodIn wsX0_mostLeftBehind (wsV RX0 74 RX0 yX0_tally wsX0_tally) := goodIn_app (goodIn_of _ (by decide +kernel)) ggX0_mostLeftBehind_X0_tally
theorem dX0_mostLeftBehind_0 : decode cX0_mostLeftBehind 0 = .ok (.aload_n 0, 1) := by decide +kernel
theorem dX0_mostLeftBehind_1 : decode cX0_mostLeftBehind 1 = .ok (.getfield 22, 3) := by decide +kernel
theorem dX0_mostLeftBehind_4 : decode cX0_mostLeftBehind 4 = .ok (.iconst 0, 1) := by decide +kernel
theorem dX0_mostLeftBehind_5 : decode cX0_mostLeftBehind 5 = .ok (.invokestatic 68, 3) := by decide +kernel
theorem dX0_mostLeftBehind_8 : decode cX0_mostLeftBehind 8 = .ok (.iconst 0, 1) := by decide +kernel
theorem dX0_mostLeftBehind_9 : decode cX0_mostLeftBehind 9 = .ok (.istore_n 2, 1) := by decide +kernel
theorem dX0_mostLeftBehind_10 : decode cX0_mostLeftBehind 10 = .ok (.iconst 0, 1) := by decide +kernel
theorem dX0_mostLeftBehind_11 : decode cX0_mostLeftBehind 11 = .ok (.istore_n 3, 1) := by decide +kernel
theorem dX0_mostLeftBehind_12 : decode cX0_mostLeftBehind 12 = .ok (.iload_n 3, 1) := by decide +kernel
theorem dX0_mostLeftBehind_13 : decode cX0_mostLeftBehind 13 = .ok (.sipush 729, 3) := by decide +kernel
theorem dX0_mostLeftBehind_16 : decode cX0_mostLeftBehind 16 = .ok (.if_icmp .ge 47, 3) := by decide +kernel
theorem dX0_mostLeftBehind_19 : decode cX0_mostLeftBehind 19 = .ok (.aload_n 0, 1) := by decide +kernel
theorem dX0_mostLeftBehind_20 : decode cX0_mostLeftBehind 20 = .ok (.iload_n 3, 1) := by decide +kernel
theorem dX0_mostLeftBehind_21 : decode cX0_mostLeftBehind 21 = .ok (.invokevirtual 32, 3) := by decide +kernel
theorem dX0_mostLeftBehind_24 : decode cX0_mostLeftBehind 24 = .ok (.ifCond .eq 33, 3) := by decide +kernel
theorem dX0_mostLeftBehind_27 : decode cX0_mostLeftBehind 27 = .ok (.aload_n 0, 1) := by decide +kernel
theorem dX0_mostLeftBehind_28 : decode cX0_mostLeftBehind 28 = .ok (.iload_n 3, 1) := by decide +kernel
theorem dX0_mostLeftBehind_29 : decode cX0_mostLeftBehind 29 = .ok (.invokevirtual 44, 3) := by decide +kernel
theorem dX0_mostLeftBehind_32 : decode cX0_mostLeftBehind 32 = .ok (.aload_n 0, 1) := by decide +kernel
theorem dX0_mostLeftBehind_33 : decode cX0_mostLeftBehind 33 = .ok (.getfield 12, 3) := by decide +kernel
theorem dX0_mostLeftBehind_36 : decode cX0_mostLeftBehind 36 = .ok (.iload_n 1, 1) := by decide +kernel
theorem dX0_mostLeftBehind_37 : decode cX0_mostLeftBehind 37 = .ok (.invokevirtual 47, 3) := by decide +kernel
theorem dX0_mostLeftBehind_40 : decode cX0_mostLeftBehind 40 = .ok (.pop, 1) := by decide +kernel
theorem dX0_mostLeftBehind_41 : decode cX0_mostLeftBehind 41 = .ok (.iload_n 2, 1) := by decide +kernel
theorem dX0_mostLeftBehind_42 : decode cX0_mostLeftBehind 42 = .ok (.aload_n 0, 1) := by decide +kernel
theorem dX0_mostLeftBehind_43 : decode cX0_mostLeftBehind 43 = .ok (.aload_n 0, 1) := by decide +kernel
theorem dX0_mostLeftBehind_44 : decode cX0_mostLeftBehind 44 = .ok (.getfield 12, 3) := by decide +kernel
theorem dX0_mostLeftBehind_47 : decode cX0_mostLeftBehind 47 = .ok (.invokevirtual 51, 3) := by decide +kernel
theorem dX0_mostLeftBehind_50 : decode cX0_mostLeftBehind 50 = .ok (.invokevirtual 74, 3) := by decide +kernel
theorem dX0_mostLeftBehind_53 : decode cX0_mostLeftBehind 53 = .ok (.invokestatic 77, 3) := by decide +kernel
theorem dX0_mostLeftBehind_56 : decode cX0_mostLeftBehind 56 = .ok (.istore_n 2, 1) := by decide +kernel
theorem dX0_mostLeftBehind_57 : decode cX0_mostLeftBehind 57 = .ok (.iinc 3 1, 3) := by decide +kernel
theorem dX0_mostLeftBehind_60 : decode cX0_mostLeftBehind 60 = .ok (.goto (-48), 3) := by decide +kernel
theorem dX0_mostLeftBehind_63 : decode cX0_mostLeftBehind 63 = .ok (.iload_n 2, 1) := by decide +kernel
theorem dX0_mostLeftBehind_64 : decode cX0_mostLeftBehind 64 = .ok (.ireturn, 1) := by decide +kernel
theorem dX0_tally_0 : decode cX0_tally 0 = .ok (.iload_n 1, 1) := by decide +kernel
theorem dX0_tally_1 : decode cX0_tally 1 = .ok (.ifCond .lt 9, 3) := by decide +kernel
theorem dX0_tally_4 : decode cX0_tally 4 = .ok (.iload_n 1, 1) := by decide +kernel
theorem dX0_tally_5 : decode cX0_tally 5 = .ok (.bipush 64, 2) := by decide +kernel
theorem dX0_tally_7 : decode cX0_tally 7 = .ok (.if_icmp .lt 5, 3) := by decide +kernel
theorem dX0_tally_10 : decode cX0_tally 10 = .ok (.iconst 0, 1) := by decide +kernel
theorem dX0_tally_11 : decode cX0_tally 11 = .ok (.ireturn, 1) := by decide +kernel
theorem dX0_tally_12 : decode cX0_tally 12 = .ok (.aload_n 0, 1) := by decide +kernel
theorem dX0_tally_13 : decode cX0_tally 13 = .ok (.getfield 22, 3) := by decide +kernel
theorem dX0_tally_16 : decode cX0_tally 16 = .ok (.iload_n 1, 1) := by decide +kernel
theorem dX0_tally_17 : decode cX0_tally 17 = .ok (.dup2, 1) := by decide +kernel
theorem dX0_tally_18 : decode cX0_tally 18 = .ok (.iaload, 1) := by decide +kernel
theorem dX0_tally_19 : decode cX0_tally 19 = .ok (.iconst 1, 1) := by decide +kernel
theorem dX0_tally_20 : decode cX0_tally 20 = .ok (.iadd, 1) := by decide +kernel
theorem dX0_tally_21 : decode cX0_tally 21 = .ok (.iastore, 1) := by decide +kernel
theorem dX0_tally_22 : decode cX0_tally 22 = .ok (.aload_n 0, 1) := by decide +kernel
theorem dX0_tally_23 : decode cX0_tally 23 = .ok (.getfield 22, 3) := by decide +kernel
theorem dX0_tally_26 : decode cX0_tally 26 = .ok (.iload_n 1, 1) := by decide +kernel
theorem dX0_tally_27 : decode cX0_tally 27 = .ok (.iaload, 1) := by decide +kernel
theorem dX0_tally_28 : decode cX0_tally 28 = .ok (.ireturn, 1) := by decide +kernel
theorem dX1_init_0 : decode cX1_init 0 = .ok (.aload_n 0, 1) := by decide +kernel
theorem dX1_init_1 : decode cX1_init 1 = .ok (.invokespecial 3, 3) := by decide +kernel
theorem dX1_init_4 : decode cX1_init 4 = .ok (.aload_n 0, 1) := by decide +kernel
theorem dX1_init_5 : decode cX1_init 5 = .ok (.iconst 3, 1) := by decide +kernel
theorem dX1_init_6 : decode cX1_init 6 = .ok (.newarray .int, 2) := by decide +kernel
theorem dX1_init_8 : decode cX1_init 8 = .ok (.putfield 9, 3) := by decide +kernel
theorem dX1_init_11 : decode cX1_init 11 = .ok (.aload_n 0, 1) := by decide +kernel
theorem dX1_init_12 : decode cX1_init 12 = .ok (.iconst 3, 1) := by decide +kernel
theorem dX1_init_13 : decode cX1_init 13 = .ok (.newarray .int, 2) := by decide +kernel
theorem dX1_init_15 : decode cX1_init 15 = .ok (.putfield 15, 3) := by decide +kernel
theorem dX1_init_18 : decode cX1_init 18 = .ok (.return_, 1) := by decide +kernel
set_option maxRecDepth 20000 in
theorem ggX1_layEmpty_J7_fill_53178 : GoodIn wsX1_layEmpty wsJ7_fill_53178 := goodIn_r _ [6] (by decide +kernel) (by decide +kernel)
set_option maxRecDepth 20000 in
theorem gX1_layEmpty_J7_fill_53178 : GoodIn wsX1_layEmpty (va_wsS RX1 18 yJ7_fill_53178 wsJ7_fill_53178) := goodIn_app (goodIn_of _ (by decide +kernel)) ggX1_layEmpty_J7_fill_53178
theorem dX1_layEmpty_0 : decode cX1_layEmpty 0 = .ok (.aload_n 0, 1) := by decide +kernel
theorem dX1_layEmpty_1 : decode cX1_layEmpty 1 = .ok (.getfield 9, 3) := by decide +kernel
theorem dX1_layEmpty_4 : decode cX1_layEmpty 4 = .ok (.iconst 0, 1) := by decide +kernel
theorem dX1_layEmpty_5 : decode cX1_layEmpty 5 = .ok (.iload_n 1, 1) := by decide +kernel
theorem dX1_layEmpty_6 : decode cX1_layEmpty 6 = .ok (.iastore, 1) := by decide +kernel
theorem dX1_layEmpty_7 : decode cX1_layEmpty 7 = .ok (.aload_n 0, 1) := by decide +kernel
theorem dX1_layEmpty_8 : decode cX1_layEmpty 8 = .ok (.getfield 9, 3) := by decide +kernel
theorem dX1_layEmpty_11 : decode cX1_layEmpty 11 = .ok (.iconst 1, 1) := by decide +kernel
theorem dX1_layEmpty_12 : decode cX1_layEmpty 12 = .ok (.iload_n 2, 1) := by decide +kernel
theorem dX1_layEmpty_13 : decode cX1_layEmpty 13 = .ok (.iastore, 1) := by decide +kernel
theorem dX1_layEmpty_14 : decode cX1_layEmpty 14 = .ok (.aload_n 0, 1) := by decide +kernel
theorem dX1_layEmpty_15 : decode cX1_layEmpty 15 = .ok (.getfield 9, 3) := by decide +kernel
theorem dX1_layEmpty_18 : decode cX1_layEmpty 18 = .ok (.iconst 2, 1) := by decide +kernel
theorem dX1_layEmpty_19 : decode cX1_layEmpty 19 = .ok (.iload_n 3, 1) := by decide +kernel
theorem dX1_layEmpty_20 : decode cX1_layEmpty 20 = .ok (.iastore, 1) := by decide +kernel
theorem dX1_layEmpty_21 : decode cX1_layEmpty 21 = .ok (.aload_n 0, 1) := by decide +kernel
theorem dX1_layEmpty_22 : decode cX1_layEmpty 22 = .ok (.getfield 15, 3) := by decide +kernel
theorem dX1_layEmpty_25 : decode cX1_layEmpty 25 = .ok (.iconst 0, 1) := by decide +kernel
theorem dX1_layEmpty_26 : decode cX1_layEmpty 26 = .ok (.invokestatic 18, 3) := by decide +kernel
theorem dX1_layEmpty_29 : decode cX1_layEmpty 29 = .ok (.return_, 1) := by decide +kernel
theorem dX1_count_0 : decode cX1_count 0 = .ok (.aload_n 0, 1) := by decide +kernel
theorem dX1_count_1 : decode cX1_count 1 = .ok (.getfield 9, 3) := by decide +kernel
theorem dX1_count_4 : decode cX1_count 4 = .ok (.iconst 2, 1) := by decide +kernel
theorem dX1_count_5 : decode cX1_count 5 = .ok (.iaload, 1) := by decide +kernel
theorem dX1_count_6 : decode cX1_count 6 = .ok (.ifCond .ne 7, 3) := by decide +kernel
theorem dX1_count_9 : decode cX1_count 9 = .ok (.iconst 2, 1) := by decide +kernel
theorem dX1_count_10 : decode cX1_count 10 = .ok (.goto 4, 3) := by decide +kernel
theorem dX1_count_13 : decode cX1_count 13 = .ok (.iconst 3, 1) := by decide +kernel
theorem dX1_count_14 : decode cX1_count 14 = .ok (.ireturn, 1) := by decide +kernel
theorem dX1_has_0 : decode cX1_has 0 = .ok (.iload_n 1, 1) := by decide +kernel
theorem dX1_has_1 : decode cX1_has 1 = .ok (.ifCond .lt 25, 3) := by decide +kernel
theorem dX1_has_4 : decode cX1_has 4 = .ok (.iload_n 1, 1) := by decide +kernel
theorem dX1_has_5 : decode cX1_has 5 = .ok (.aload_n 0, 1) := by decide +kernel
theorem dX1_has_6 : decode cX1_has 6 = .ok (.getfield 9, 3) := by decide +kernel
theorem dX1_has_9 : decode cX1_has 9 = .ok (.arraylength, 1) := by decide +kernel
theorem dX1_has_10 : decode cX1_has 10 = .ok (.if_icmp .ge 16, 3) := by decide +kernel
theorem dX1_has_13 : decode cX1_has 13 = .ok (.aload_n 0, 1) := by decide +kernel
theorem dX1_has_14 : decode cX1_has 14 = .ok (.getfield 9, 3) := by decide +kernel
theorem dX1_has_17 : decode cX1_has 17 = .ok (.iload_n 1, 1) := by decide +kernel
theorem dX1_has_18 : decode cX1_has 18 = .ok (.iaload, 1) := by decide +kernel
theorem dX1_has_19 : decode cX1_has 19 = .ok (.ifCond .le 7, 3) := by decide +kernel
theorem dX1_has_22 : decode cX1_has 22 = .ok (.iconst 1, 1) := by decide +kernel
theorem dX1_has_23 : decode cX1_has 23 = .ok (.goto 4, 3) := by decide +kernel
theorem dX1_has_26 : decode cX1_has 26 = .ok (.iconst 0, 1) := by decide +kernel
theorem dX1_has_27 : decode cX1_has 27 = .ok (.ireturn, 1) := by decide +kernel
theorem dX1_volumeAt_0 : decode cX1_volumeAt 0 = .ok (.iload_n 1, 1) := by decide +kernel
theorem dX1_volumeAt_1 : decode cX1_volumeAt 1 = .ok (.ifCond .lt 21, 3) := by decide +kernel
theorem dX1_volumeAt_4 : decode cX1_volumeAt 4 = .ok (.iload_n 1, 1) := by decide +kernel
theorem dX1_volumeAt_5 : decode cX1_volumeAt 5 = .ok (.aload_n 0, 1) := by decide +kernel
theorem dX1_volumeAt_6 : decode cX1_volumeAt 6 = .ok (.getfield 9, 3) := by decide +kernel
theorem dX1_volumeAt_9 : decode cX1_volumeAt 9 = .ok (.arraylength, 1) := by decide +kernel
theorem dX1_volumeAt_10 : decode cX1_volumeAt 10 = .ok (.if_icmp .ge 12, 3) := by decide +kernel
theorem dX1_volumeAt_13 : decode cX1_volumeAt 13 = .ok (.aload_n 0, 1) := by decide +kernel
theorem dX1_volumeAt_14 : decode cX1_volumeAt 14 = .ok (.getfield 9, 3) := by decide +kernel
theorem dX1_volumeAt_17 : decode cX1_volumeAt 17 = .ok (.iload_n 1, 1) := by decide +kernel
theorem dX1_volumeAt_18 : decode cX1_volumeAt 18 = .ok (.iaload, 1) := by decide +kernel
theorem dX1_volumeAt_19 : decode cX1_volumeAt 19 = .ok (.goto 4, 3) := by decide +kernel
theorem dX1_volumeAt_22 : decode cX1_volumeAt 22 = .ok (.iconst 0, 1) := by decide +kernel
theorem dX1_volumeAt_23 : decode cX1_volumeAt 23 = .ok (.ireturn, 1) := by decide +kernel
theorem dX1_amountAt_0 : decode cX1_amountAt 0 = .ok (.iload_n 1, 1) := by decide +kernel
theorem dX1_amountAt_1 : decode cX1_amountAt 1 = .ok (.ifCond .lt 21, 3) := by decide +kernel
theorem dX1_amountAt_4 : decode cX1_amountAt 4 = .ok (.iload_n 1, 1) := by decide +kernel
theorem dX1_amountAt_5 : decode cX1_amountAt 5 = .ok (.aload_n 0, 1) := by decide +kernel
theorem dX1_amountAt_6 : decode cX1_amountAt 6 = .ok (.getfield 15, 3) := by decide +kernel
theorem dX1_amountAt_9 : decode cX1_amountAt 9 = .ok (.arraylength, 1) := by decide +kernel
theorem dX1_amountAt_10 : decode cX1_amountAt 10 = .ok (.if_icmp .ge 12, 3) := by decide +kernel
theorem dX1_amountAt_13 : decode cX1_amountAt 13 = .ok (.aload_n 0, 1) := by decide +kernel
theorem dX1_amountAt_14 : decode cX1_amountAt 14 = .ok (.getfield 15, 3) := by decide +kernel
theorem dX1_amountAt_17 : decode cX1_amountAt 17 = .ok (.iload_n 1, 1) := by decide +kernel
theorem dX1_amountAt_18 : decode cX1_amountAt 18 = .ok (.iaload, 1) := by decide +kernel
theorem dX1_amountAt_19 : decode cX1_amountAt 19 = .ok (.goto 4, 3) := by decide +kernel
theorem dX1_amountAt_22 : decode cX1_amountAt 22 = .ok (.iconst 0, 1) := by decide +kernel
theorem dX1_amountAt_23 : decode cX1_amountAt 23 = .ok (.ireturn, 1) := by decide +kernel
set_option maxRecDepth 20000 in
theorem ggX1_emptyAt_X1_amountAt : GoodIn wsX1_emptyAt wsX1_amountAt := goodIn_r _ [5, 6, 7, 8] (by decide +kernel) (by decide +kernel)
set_option maxRecDepth 20000 in
theorem gX1_emptyAt_X1_amountAt : GoodIn wsX1_emptyAt (wsV RX1 24 RX1 yX1_amountAt wsX1_amountAt) := goodIn_app (goodIn_of _ (by decide +kernel)) ggX1_emptyAt_X1_amountAt
theorem dX1_emptyAt_0 : decode cX1_emptyAt 0 = .ok (.aload_n 0, 1) := by decide +kernel
theorem dX1_emptyAt_1 : decode cX1_emptyAt 1 = .ok (.iload_n 1, 1) := by decide +kernel
theorem dX1_emptyAt_2 : decode cX1_emptyAt 2 = .ok (.invokevirtual 24, 3) := by decide +kernel
theorem dX1_emptyAt_5 : decode cX1_emptyAt 5 = .ok (.ifCond .ne 7, 3) := by decide +kernel
theorem dX1_emptyAt_8 : decode cX1_emptyAt 8 = .ok (.iconst 1, 1) := by decide +kernel
theorem dX1_emptyAt_9 : decode cX1_emptyAt 9 = .ok (.goto 4, 3) := by decide +kernel
theorem dX1_emptyAt_12 : decode cX1_emptyAt 12 = .ok (.iconst 0, 1) := by decide +kernel
theorem dX1_emptyAt_13 : decode cX1_emptyAt 13 = .ok (.ireturn, 1) := by decide +kernel
set_option maxRecDepth 20000 in
theorem ggX1_fullAt_X1_amountAt : GoodIn wsX1_fullAt wsX1_amountAt := goodIn_r _ [5, 6, 12, 13] (by decide +kernel) (by decide +kernel)
set_option maxRecDepth 20000 in
theorem gX1_fullAt_X1_amountAt : GoodIn wsX1_fullAt (wsV RX1 24 RX1 yX1_amountAt wsX1_amountAt) := goodIn_app (goodIn_of _ (by decide +kernel)) ggX1_fullAt_X1_amountAt
set_option maxRecDepth 20000 in
theorem ggX1_fullAt_X1_volumeAt : GoodIn wsX1_fullAt wsX1_volumeAt := goodIn_r _ [10, 11, 12, 13] (by decide +kernel) (by decide +kernel)
set_option maxRecDepth 20000 in
theorem gX1_fullAt_X1_volumeAt : GoodIn wsX1_fullAt (wsV RX1 28 RX1 yX1_volumeAt wsX1_volumeAt) := goodIn_app (goodIn_of _ (by decide +kernel)) ggX1_fullAt_X1_volumeAt
theorem dX1_fullAt_0 : decode cX1_fullAt 0 = .ok (.aload_n 0, 1) := by decide +kernel
theorem dX1_fullAt_1 : decode cX1_fullAt 1 = .ok (.iload_n 1, 1) := by decide +kernel
theorem dX1_fullAt_2 : decode cX1_fullAt 2 = .ok (.invokevirtual 24, 3) := by decide +kernel
theorem dX1_fullAt_5 : decode cX1_fullAt 5 = .ok (.aload_n 0, 1) := by decide +kernel
theorem dX1_fullAt_6 : decode cX1_fullAt 6 = .ok (.iload_n 1, 1) := by decide +kernel
theorem dX1_fullAt_7 : decode cX1_fullAt 7 = .ok (.invokevirtual 28, 3) := by decide +kernel
theorem dX1_fullAt_10 : decode cX1_fullAt 10 = .ok (.if_icmp .ne 7, 3) := by decide +kernel
theorem dX1_fullAt_13 : decode cX1_fullAt 13 = .ok (.iconst 1, 1) := by decide +kernel
theorem dX1_fullAt_14 : decode cX1_fullAt 14 = .ok (.goto 4, 3) := by decide +kernel
theorem dX1_fullAt_17 : decode cX1_fullAt 17 = .ok (.iconst 0, 1) := by decide +kernel
theorem dX1_fullAt_18 : decode cX1_fullAt 18 = .ok (.ireturn, 1) := by decide +kernel
set_option maxRecDepth 20000 in
theorem ggX1_holdsSomewhere_X1_count : GoodIn wsX1_holdsSomewhere wsX1_count := goodIn_r _ [5, 6, 12, 13] (by decide +kernel) (by decide +kernel)
set_option maxRecDepth 20000 in
theorem gX1_holdsSomewhere_X1_count : GoodIn wsX1_holdsSomewhere (wsV RX1 31 RX1 yX1_count wsX1_count) := goodIn_app (goodIn_of _ (by decide +kernel)) ggX1_holdsSomewhere_X1_count
set_option maxRecDepth 20000 in
theorem ggX1_holdsSomewhere_X1_amountAt : GoodIn wsX1_holdsSomewhere wsX1_amountAt := goodIn_r _ [10, 11, 12, 13] (by decide +kernel) (by decide +kernel)
set_option maxRecDepth 20000 in
theorem gX1_holdsSomewhere_X1_amountAt : GoodIn wsX1_holdsSomewhere (wsV RX1 24 RX1 yX1_amountAt wsX1_amountAt) := goodIn_app (goodIn_of _ (by decide +kernel)) ggX1_holdsSomewhere_X1_amountAt
theorem dX1_holdsSomewhere_0 : decode cX1_holdsSomewhere 0 = .ok (.iconst 0, 1) := by decide +kernel
theorem dX1_holdsSomewhere_1 : decode cX1_holdsSomewhere 1 = .ok (.istore_n 2, 1) := by decide +kernel
theorem dX1_holdsSomewhere_2 : decode cX1_holdsSomewhere 2 = .ok (.iload_n 2, 1) := by decide +kernel
theorem dX1_holdsSomewhere_3 : decode cX1_holdsSomewhere 3 = .ok (.aload_n 0, 1) := by decide +kernel
theorem dX1_holdsSomewhere_4 : decode cX1_holdsSomewhere 4 = .ok (.invokevirtual 31, 3) := by decide +kernel
theorem dX1_holdsSomewhere_7 : decode cX1_holdsSomewhere 7 = .ok (.if_icmp .ge 20, 3) := by decide +kernel
theorem dX1_holdsSomewhere_10 : decode cX1_holdsSomewhere 10 = .ok (.aload_n 0, 1) := by decide +kernel
theorem dX1_holdsSomewhere_11 : decode cX1_holdsSomewhere 11 = .ok (.iload_n 2, 1) := by decide +kernel
theorem dX1_holdsSomewhere_12 : decode cX1_holdsSomewhere 12 = .ok (.invokevirtual 24, 3) := by decide +kernel
theorem dX1_holdsSomewhere_15 : decode cX1_holdsSomewhere 15 = .ok (.iload_n 1, 1) := by decide +kernel
theorem dX1_holdsSomewhere_16 : decode cX1_holdsSomewhere 16 = .ok (.if_icmp .ne 5, 3) := by decide +kernel
theorem dX1_holdsSomewhere_19 : decode cX1_holdsSomewhere 19 = .ok (.iconst 1, 1) := by decide +kernel
theorem dX1_holdsSomewhere_20 : decode cX1_holdsSomewhere 20 = .ok (.ireturn, 1) := by decide +kernel
theorem dX1_holdsSomewhere_21 : decode cX1_holdsSomewhere 21 = .ok (.iinc 2 1, 3) := by decide +kernel
theorem dX1_holdsSomewhere_24 : decode cX1_holdsSomewhere 24 = .ok (.goto (-22), 3) := by decide +kernel
theorem dX1_holdsSomewhere_27 : decode cX1_holdsSomewhere 27 = .ok (.iconst 0, 1) := by decide +kernel
theorem dX1_holdsSomewhere_28 : decode cX1_holdsSomewhere 28 = .ok (.ireturn, 1) := by decide +kernel
theorem dX1_state_0 : decode cX1_state 0 = .ok (.aload_n 0, 1) := by decide +kernel
theorem dX1_state_1 : decode cX1_state 1 = .ok (.getfield 15, 3) := by decide +kernel
theorem dX1_state_4 : decode cX1_state 4 = .ok (.iconst 0, 1) := by decide +kernel
theorem dX1_state_5 : decode cX1_state 5 = .ok (.iaload, 1) := by decide +kernel
theorem dX1_state_6 : decode cX1_state 6 = .ok (.bipush 10, 2) := by decide +kernel
theorem dX1_state_8 : decode cX1_state 8 = .ok (.aload_n 0, 1) := by decide +kernel
theorem dX1_state_9 : decode cX1_state 9 = .ok (.getfield 15, 3) := by decide +kernel
theorem dX1_state_12 : decode cX1_state 12 = .ok (.iconst 1, 1) := by decide +kernel
theorem dX1_state_13 : decode cX1_state 13 = .ok (.iaload, 1) := by decide +kernel
theorem dX1_state_14 : decode cX1_state 14 = .ok (.imul, 1) := by decide +kernel
theorem dX1_state_15 : decode cX1_state 15 = .ok (.iadd, 1) := by decide +kernel
theorem dX1_state_16 : decode cX1_state 16 = .ok (.bipush 100, 2) := by decide +kernel
theorem dX1_state_18 : decode cX1_state 18 = .ok (.aload_n 0, 1) := by decide +kernel
theorem dX1_state_19 : decode cX1_state 19 = .ok (.getfield 15, 3) := by decide +kernel
theorem dX1_state_22 : decode cX1_state 22 = .ok (.iconst 2, 1) := by decide +kernel
theorem dX1_state_23 : decode cX1_state 23 = .ok (.iaload, 1) := by decide +kernel
theorem dX1_state_24 : decode cX1_state 24 = .ok (.imul, 1) := by decide +kernel
theorem dX1_state_25 : decode cX1_state 25 = .ok (.iadd, 1) := by decide +kernel
theorem dX1_state_26 : decode cX1_state 26 = .ok (.ireturn, 1) := by decide +kernel
theorem dX1_hold_0 : decode cX1_hold 0 = .ok (.aload_n 0, 1) := by decide +kernel
theorem dX1_hold_1 : decode cX1_hold 1 = .ok (.getfield 15, 3) := by decide +kernel
theorem dX1_hold_4 : decode cX1_hold 4 = .ok (.iconst 0, 1) := by decide +kernel
theorem dX1_hold_5 : decode cX1_hold 5 = .ok (.iload_n 1, 1) := by decide +kernel
theorem dX1_hold_6 : decode cX1_hold 6 = .ok (.bipush 10, 2) := by decide +kernel
theorem dX1_hold_8 : decode cX1_hold 8 = .ok (.irem, 1) := by decide +kernel
theorem dX1_hold_9 : decode cX1_hold 9 = .ok (.iastore, 1) := by decide +kernel
theorem dX1_hold_10 : decode cX1_hold 10 = .ok (.aload_n 0, 1) := by decide +kernel
theorem dX1_hold_11 : decode cX1_hold 11 = .ok (.getfield 15, 3) := by decide +kernel
theorem dX1_hold_14 : decode cX1_hold 14 = .ok (.iconst 1, 1) := by decide +kernel
theorem dX1_hold_15 : decode cX1_hold 15 = .ok (.iload_n 1, 1) := by decide +kernel
theorem dX1_hold_16 : decode cX1_hold 16 = .ok (.bipush 10, 2) := by decide +kernel
theorem dX1_hold_18 : decode cX1_hold 18 = .ok (.idiv, 1) := by decide +kernel
theorem dX1_hold_19 : decode cX1_hold 19 = .ok (.bipush 10, 2) := by decide +kernel
theorem dX1_hold_21 : decode cX1_hold 21 = .ok (.irem, 1) := by decide +kernel
theorem dX1_hold_22 : decode cX1_hold 22 = .ok (.iastore, 1) := by decide +kernel
theorem dX1_hold_23 : decode cX1_hold 23 = .ok (.aload_n 0, 1) := by decide +kernel
theorem dX1_hold_24 : decode cX1_hold 24 = .ok (.getfield 15, 3) := by decide +kernel
theorem dX1_hold_27 : decode cX1_hold 27 = .ok (.iconst 2, 1) := by decide +kernel
theorem dX1_hold_28 : decode cX1_hold 28 = .ok (.iload_n 1, 1) := by decide +kernel
theorem dX1_hold_29 : decode cX1_hold 29 = .ok (.bipush 100, 2) := by decide +kernel
theorem dX1_hold_31 : decode cX1_hold 31 = .ok (.idiv, 1) := by decide +kernel
theorem dX1_hold_32 : decode cX1_hold 32 = .ok (.bipush 10, 2) := by decide +kernel
theorem dX1_hold_34 : decode cX1_hold 34 = .ok (.irem, 1) := by decide +kernel
theorem dX1_hold_35 : decode cX1_hold 35 = .ok (.iastore, 1) := by decide +kernel
theorem dX1_hold_36 : decode cX1_hold 36 = .ok (.return_, 1) := by decide +kernel
set_option maxRecDepth 20000 in
theorem ggX1_look_X1_emptyAt : GoodIn wsX1_look wsX1_emptyAt := goodIn_r _ [5, 6, 7, 8, 4, 9, 10, 23, 24] (by decide +kernel) (by decide +kernel)
set_option maxRecDepth 20000 in
theorem gX1_look_X1_emptyAt : GoodIn wsX1_look (wsV RX1 35 RX1 yX1_emptyAt wsX1_emptyAt) := goodIn_app (goodIn_of _ (by decide +kernel)) ggX1_look_X1_emptyAt
set_option maxRecDepth 20000 in
theorem ggX1_look_X3_oneIf : GoodIn wsX1_look wsX3_oneIf := goodIn_r _ [13] (by decide +kernel) (by decide +kernel)
set_option maxRecDepth 20000 in
theorem gX1_look_X3_oneIf_n39 : GoodIn wsX1_look (wsX3_oneIf) := ggX1_look_X3_oneIf
set_option maxRecDepth 20000 in
theorem ggX1_look_X1_fullAt : GoodIn wsX1_look wsX1_fullAt := goodIn_r _ [17, 6, 7, 8, 4, 9, 10, 18, 19, 20, 21, 22, 23, 24] (by decide +kernel) (by decide +kernel)
set_option maxRecDepth 20000 in
theorem gX1_look_X1_fullAt : GoodIn wsX1_look (wsV RX1 43 RX1 yX1_fullAt wsX1_fullAt) := goodIn_app (goodIn_of _ (by decide +kernel)) ggX1_look_X1_fullAt
theorem dX1_look_0 : decode cX1_look 0 = .ok (.iconst 0, 1) := by decide +kernel
theorem dX1_look_1 : decode cX1_look 1 = .ok (.istore_n 1, 1) := by decide +kernel
theorem dX1_look_2 : decode cX1_look 2 = .ok (.iconst 0, 1) := by decide +kernel
theorem dX1_look_3 : decode cX1_look 3 = .ok (.istore_n 2, 1) := by decide +kernel
theorem dX1_look_4 : decode cX1_look 4 = .ok (.iload_n 2, 1) := by decide +kernel
theorem dX1_look_5 : decode cX1_look 5 = .ok (.iconst 3, 1) := by decide +kernel
theorem dX1_look_6 : decode cX1_look 6 = .ok (.if_icmp .ge 33, 3) := by decide +kernel
theorem dX1_look_9 : decode cX1_look 9 = .ok (.iload_n 1, 1) := by decide +kernel
theorem dX1_look_10 : decode cX1_look 10 = .ok (.iconst 4, 1) := by decide +kernel
theorem dX1_look_11 : decode cX1_look 11 = .ok (.imul, 1) := by decide +kernel
theorem dX1_look_12 : decode cX1_look 12 = .ok (.aload_n 0, 1) := by decide +kernel
theorem dX1_look_13 : decode cX1_look 13 = .ok (.iload_n 2, 1) := by decide +kernel
theorem dX1_look_14 : decode cX1_look 14 = .ok (.invokevirtual 35, 3) := by decide +kernel
theorem dX1_look_17 : decode cX1_look 17 = .ok (.invokestatic 39, 3) := by decide +kernel
theorem dX1_look_20 : decode cX1_look 20 = .ok (.iconst 2, 1) := by decide +kernel
theorem dX1_look_21 : decode cX1_look 21 = .ok (.imul, 1) := by decide +kernel
theorem dX1_look_22 : decode cX1_look 22 = .ok (.iadd, 1) := by decide +kernel
theorem dX1_look_23 : decode cX1_look 23 = .ok (.aload_n 0, 1) := by decide +kernel
theorem dX1_look_24 : decode cX1_look 24 = .ok (.iload_n 2, 1) := by decide +kernel
theorem dX1_look_25 : decode cX1_look 25 = .ok (.invokevirtual 43, 3) := by decide +kernel
theorem dX1_look_28 : decode cX1_look 28 = .ok (.invokestatic 39, 3) := by decide +kernel
theorem dX1_look_31 : decode cX1_look 31 = .ok (.iadd, 1) := by decide +kernel
theorem dX1_look_32 : decode cX1_look 32 = .ok (.istore_n 1, 1) := by decide +kernel
theorem dX1_look_33 : decode cX1_look 33 = .ok (.iinc 2 1, 3) := by decide +kernel
theorem dX1_look_36 : decode cX1_look 36 = .ok (.goto (-32), 3) := by decide +kernel
theorem dX1_look_39 : decode cX1_look 39 = .ok (.iload_n 1, 1) := by decide +kernel
theorem dX1_look_40 : decode cX1_look 40 = .ok (.ireturn, 1) := by decide +kernel
set_option maxRecDepth 20000 in
theorem ggX1_allows_X1_has : GoodIn wsX1_allows wsX1_has := goodIn_r _ [5, 6, 7, 8] (by decide +kernel) (by decide +kernel)
set_option maxRecDepth 20000 in
theorem gX1_allows_X1_has : GoodIn wsX1_allows (wsV RX1 46 RX1 yX1_has wsX1_has) := goodIn_app (goodIn_of _ (by decide +kernel)) ggX1_allows_X1_has
theorem dX1_allows_0 : decode cX1_allows 0 = .ok (.iload_n 1, 1) := by decide +kernel
theorem dX1_allows_1 : decode cX1_allows 1 = .ok (.iconst 3, 1) := by decide +kernel
theorem dX1_allows_2 : decode cX1_allows 2 = .ok (.if_icmp .ge 9, 3) := by decide +kernel
theorem dX1_allows_5 : decode cX1_allows 5 = .ok (.aload_n 0, 1) := by decide +kernel
theorem dX1_allows_6 : decode cX1_allows 6 = .ok (.iload_n 1, 1) := by decide +kernel
theorem dX1_allows_7 : decode cX1_allows 7 = .ok (.invokevirtual 46, 3) := by decide +kernel
theorem dX1_allows_10 : decode cX1_allows 10 = .ok (.ireturn, 1) := by decide +kernel
theorem dX1_allows_11 : decode cX1_allows 11 = .ok (.iload_n 1, 1) := by decide +kernel
theorem dX1_allows_12 : decode cX1_allows 12 = .ok (.bipush 6, 2) := by decide +kernel
theorem dX1_allows_14 : decode cX1_allows 14 = .ok (.if_icmp .ge 11, 3) := by decide +kernel
theorem dX1_allows_17 : decode cX1_allows 17 = .ok (.aload_n 0, 1) := by decide +kernel
theorem dX1_allows_18 : decode cX1_allows 18 = .ok (.iload_n 1, 1) := by decide +kernel
theorem dX1_allows_19 : decode cX1_allows 19 = .ok (.iconst 3, 1) := by decide +kernel
theorem dX1_allows_20 : decode cX1_allows 20 = .ok (.isub, 1) := by decide +kernel
theorem dX1_allows_21 : decode cX1_allows 21 = .ok (.invokevirtual 46, 3) := by decide +kernel
theorem dX1_allows_24 : decode cX1_allows 24 = .ok (.ireturn, 1) := by decide +kernel
theorem dX1_allows_25 : decode cX1_allows 25 = .ok (.iload_n 1, 1) := by decide +kernel
theorem dX1_allows_26 : decode cX1_allows 26 = .ok (.bipush 6, 2) := by decide +kernel
theorem dX1_allows_28 : decode cX1_allows 28 = .ok (.isub, 1) := by decide +kernel
theorem dX1_allows_29 : decode cX1_allows 29 = .ok (.iconst 3, 1) := by decide +kernel
theorem dX1_allows_30 : decode cX1_allows 30 = .ok (.idiv, 1) := by decide +kernel
theorem dX1_allows_31 : decode cX1_allows 31 = .ok (.istore_n 2, 1) := by decide +kernel
theorem dX1_allows_32 : decode cX1_allows 32 = .ok (.iload_n 1, 1) := by decide +kernel
theorem dX1_allows_33 : decode cX1_allows 33 = .ok (.bipush 6, 2) := by decide +kernel
theorem dX1_allows_35 : decode cX1_allows 35 = .ok (.isub, 1) := by decide +kernel
theorem dX1_allows_36 : decode cX1_allows 36 = .ok (.iconst 3, 1) := by decide +kernel
theorem dX1_allows_37 : decode cX1_allows 37 = .ok (.irem, 1) := by decide +kernel
theorem dX1_allows_38 : decode cX1_allows 38 = .ok (.istore_n 3, 1) := by decide +kernel
theorem dX1_allows_39 : decode cX1_allows 39 = .ok (.aload_n 0, 1) := by decide +kernel
theorem dX1_allows_40 : decode cX1_allows 40 = .ok (.iload_n 2, 1) := by decide +kernel
theorem dX1_allows_41 : decode cX1_allows 41 = .ok (.invokevirtual 46, 3) := by decide +kernel
theorem dX1_allows_44 : decode cX1_allows 44 = .ok (.ifCond .eq 20, 3) := by decide +kernel
theorem dX1_allows_47 : decode cX1_allows 47 = .ok (.aload_n 0, 1) := by decide +kernel
theorem dX1_allows_48 : decode cX1_allows 48 = .ok (.iload_n 3, 1) := by decide +kernel
theorem dX1_allows_49 : decode cX1_allows 49 = .ok (.invokevirtual 46, 3) := by decide +kernel
theorem dX1_allows_52 : decode cX1_allows 52 = .ok (.ifCond .eq 12, 3) := by decide +kernel
theorem dX1_allows_55 : decode cX1_allows 55 = .ok (.iload_n 2, 1) := by decide +kernel
theorem dX1_allows_56 : decode cX1_allows 56 = .ok (.iload_n 3, 1) := by decide +kernel
theorem dX1_allows_57 : decode cX1_allows 57 = .ok (.if_icmp .eq 7, 3) := by decide +kernel
theorem dX1_allows_60 : decode cX1_allows 60 = .ok (.iconst 1, 1) := by decide +kernel
theorem dX1_allows_61 : decode cX1_allows 61 = .ok (.goto 4, 3) := by decide +kernel
theorem dX1_allows_64 : decode cX1_allows 64 = .ok (.iconst 0, 1) := by decide +kernel
theorem dX1_allows_65 : decode cX1_allows 65 = .ok (.ireturn, 1) := by decide +kernel
set_option maxRecDepth 20000 in
theorem ggX1_change_X1_volumeAt : GoodIn wsX1_change wsX1_volumeAt := goodIn_r _ [9, 10, 20, 21] (by decide +kernel) (by decide +kernel)
set_option maxRecDepth 20000 in
theorem gX1_change_X1_volumeAt : GoodIn wsX1_change (wsV RX1 28 RX1 yX1_volumeAt wsX1_volumeAt) := goodIn_app (goodIn_of _ (by decide +kernel)) ggX1_change_X1_volumeAt
set_option maxRecDepth 20000 in
theorem ggX1_change_X1_amountAt : GoodIn wsX1_change wsX1_amountAt := goodIn_r _ [14, 15, 20, 21] (by decide +kernel) (by decide +kernel)
set_option maxRecDepth 20000 in
theorem gX1_change_X1_amountAt : GoodIn wsX1_change (wsV RX1 24 RX1 yX1_amountAt wsX1_amountAt) := goodIn_app (goodIn_of _ (by decide +kernel)) ggX1_change_X1_amountAt
set_option maxRecDepth 20000 in
theorem ggX1_change_X1_add : GoodIn wsX1_change wsX1_add := goodIn_r _ [19, 15, 20, 21] (by decide +kernel) (by decide +kernel)
set_option maxRecDepth 20000 in
theorem gX1_change_X1_add : GoodIn wsX1_change (wsV RX1 49 RX1 yX1_add wsX1_add) := goodIn_app (goodIn_of _ (by decide +kernel)) ggX1_change_X1_add
theorem dX1_change_0 : decode cX1_change 0 = .ok (.iload_n 1, 1) := by decide +kernel
theorem dX1_change_1 : decode cX1_change 1 = .ok (.iconst 3, 1) := by decide +kernel
theorem dX1_change_2 : decode cX1_change 2 = .ok (.if_icmp .ge 20, 3) := by decide +kernel
theorem dX1_change_5 : decode cX1_change 5 = .ok (.aload_n 0, 1) := by decide +kernel
theorem dX1_change_6 : decode cX1_change 6 = .ok (.iload_n 1, 1) := by decide +kernel
theorem dX1_change_7 : decode cX1_change 7 = .ok (.aload_n 0, 1) := by decide +kernel
theorem dX1_change_8 : decode cX1_change 8 = .ok (.iload_n 1, 1) := by decide +kernel
theorem dX1_change_9 : decode cX1_change 9 = .ok (.invokevirtual 28, 3) := by decide +kernel
theorem dX1_change_12 : decode cX1_change 12 = .ok (.aload_n 0, 1) := by decide +kernel
theorem dX1_change_13 : decode cX1_change 13 = .ok (.iload_n 1, 1) := by decide +kernel
theorem dX1_change_14 : decode cX1_change 14 = .ok (.invokevirtual 24, 3) := by decide +kernel
theorem dX1_change_17 : decode cX1_change 17 = .ok (.isub, 1) := by decide +kernel
theorem dX1_change_18 : decode cX1_change 18 = .ok (.invokevirtual 49, 3) := by decide +kernel
theorem dX1_change_21 : decode cX1_change 21 = .ok (.ireturn, 1) := by decide +kernel
theorem dX1_change_22 : decode cX1_change 22 = .ok (.iload_n 1, 1) := by decide +kernel
theorem dX1_change_23 : decode cX1_change 23 = .ok (.bipush 6, 2) := by decide +kernel
theorem dX1_change_25 : decode cX1_change 25 = .ok (.if_icmp .ge 20, 3) := by decide +kernel
theorem dX1_change_28 : decode cX1_change 28 = .ok (.iload_n 1, 1) := by decide +kernel
theorem dX1_change_29 : decode cX1_change 29 = .ok (.iconst 3, 1) := by decide +kernel
theorem dX1_change_30 : decode cX1_change 30 = .ok (.isub, 1) := by decide +kernel
theorem dX1_change_31 : decode cX1_change 31 = .ok (.istore_n 2, 1) := by decide +kernel
theorem dX1_change_32 : decode cX1_change 32 = .ok (.aload_n 0, 1) := by decide +kernel
theorem dX1_change_33 : decode cX1_change 33 = .ok (.iload_n 2, 1) := by decide +kernel
theorem dX1_change_34 : decode cX1_change 34 = .ok (.aload_n 0, 1) := by decide +kernel
theorem dX1_change_35 : decode cX1_change 35 = .ok (.iload_n 2, 1) := by decide +kernel
theorem dX1_change_36 : decode cX1_change 36 = .ok (.invokevirtual 24, 3) := by decide +kernel
theorem dX1_change_39 : decode cX1_change 39 = .ok (.ineg, 1) := by decide +kernel
theorem dX1_change_40 : decode cX1_change 40 = .ok (.invokevirtual 49, 3) := by decide +kernel
theorem dX1_change_43 : decode cX1_change 43 = .ok (.ineg, 1) := by decide +kernel
theorem dX1_change_44 : decode cX1_change 44 = .ok (.ireturn, 1) := by decide +kernel
theorem dX1_change_45 : decode cX1_change 45 = .ok (.iload_n 1, 1) := by decide +kernel
theorem dX1_change_46 : decode cX1_change 46 = .ok (.bipush 6, 2) := by decide +kernel
theorem dX1_change_48 : decode cX1_change 48 = .ok (.isub, 1) := by decide +kernel
theorem dX1_change_49 : decode cX1_change 49 = .ok (.iconst 3, 1) := by decide +kernel
theorem dX1_change_50 : decode cX1_change 50 = .ok (.idiv, 1) := by decide +kernel
theorem dX1_change_51 : decode cX1_change 51 = .ok (.istore_n 2, 1) := by decide +kernel
theorem dX1_change_52 : decode cX1_change 52 = .ok (.iload_n 1, 1) := by decide +kernel
theorem dX1_change_53 : decode cX1_change 53 = .ok (.bipush 6, 2) := by decide +kernel
theorem dX1_change_55 : decode cX1_change 55 = .ok (.isub, 1) := by decide +kernel
theorem dX1_change_56 : decode cX1_change 56 = .ok (.iconst 3, 1) := by decide +kernel
theorem dX1_change_57 : decode cX1_change 57 = .ok (.irem, 1) := by decide +kernel
theorem dX1_change_58 : decode cX1_change 58 = .ok (.istore_n 3, 1) := by decide +kernel
theorem dX1_change_59 : decode cX1_change 59 = .ok (.aload_n 0, 1) := by decide +kernel
theorem dX1_change_60 : decode cX1_change 60 = .ok (.iload_n 2, 1) := by decide +kernel
theorem dX1_change_61 : decode cX1_change 61 = .ok (.invokevirtual 24, 3) := by decide +kernel
theorem dX1_change_64 : decode cX1_change 64 = .ok (.aload_n 0, 1) := by decide +kernel
theorem dX1_change_65 : decode cX1_change 65 = .ok (.iload_n 3, 1) := by decide +kernel
theorem dX1_change_66 : decode cX1_change 66 = .ok (.invokevirtual 28, 3) := by decide +kernel
theorem dX1_change_69 : decode cX1_change 69 = .ok (.aload_n 0, 1) := by decide +kernel
theorem dX1_change_70 : decode cX1_change 70 = .ok (.iload_n 3, 1) := by decide +kernel
theorem dX1_change_71 : decode cX1_change 71 = .ok (.invokevirtual 24, 3) := by decide +kernel
theorem dX1_change_74 : decode cX1_change 74 = .ok (.isub, 1) := by decide +kernel
theorem dX1_change_75 : decode cX1_change 75 = .ok (.invokestatic 53, 3) := by decide +kernel
theorem dX1_change_78 : decode cX1_change 78 = .ok (.istore 4, 2) := by decide +kernel
theorem dX1_change_80 : decode cX1_change 80 = .ok (.aload_n 0, 1) := by decide +kernel
theorem dX1_change_81 : decode cX1_change 81 = .ok (.iload_n 2, 1) := by decide +kernel
theorem dX1_change_82 : decode cX1_change 82 = .ok (.iload 4, 2) := by decide +kernel
theorem dX1_change_84 : decode cX1_change 84 = .ok (.ineg, 1) := by decide +kernel
theorem dX1_change_85 : decode cX1_change 85 = .ok (.invokevirtual 49, 3) := by decide +kernel
theorem dX1_change_88 : decode cX1_change 88 = .ok (.pop, 1) := by decide +kernel
theorem dX1_change_89 : decode cX1_change 89 = .ok (.aload_n 0, 1) := by decide +kernel
theorem dX1_change_90 : decode cX1_change 90 = .ok (.iload_n 3, 1) := by decide +kernel
theorem dX1_change_91 : decode cX1_change 91 = .ok (.iload 4, 2) := by decide +kernel
theorem dX1_change_93 : decode cX1_change 93 = .ok (.invokevirtual 49, 3) := by decide +kernel
theorem dX1_change_96 : decode cX1_change 96 = .ok (.ireturn, 1) := by decide +kernel
theorem dX1_add_0 : decode cX1_add 0 = .ok (.iload_n 1, 1) := by decide +kernel
theorem dX1_add_1 : decode cX1_add 1 = .ok (.ifCond .lt 22, 3) := by decide +kernel
theorem dX1_add_4 : decode cX1_add 4 = .ok (.iload_n 1, 1) := by decide +kernel
theorem dX1_add_5 : decode cX1_add 5 = .ok (.aload_n 0, 1) := by decide +kernel
theorem dX1_add_6 : decode cX1_add 6 = .ok (.getfield 15, 3) := by decide +kernel
theorem dX1_add_9 : decode cX1_add 9 = .ok (.arraylength, 1) := by decide +kernel
theorem dX1_add_10 : decode cX1_add 10 = .ok (.if_icmp .ge 13, 3) := by decide +kernel
theorem dX1_add_13 : decode cX1_add 13 = .ok (.aload_n 0, 1) := by decide +kernel
theorem dX1_add_14 : decode cX1_add 14 = .ok (.getfield 15, 3) := by decide +kernel
theorem dX1_add_17 : decode cX1_add 17 = .ok (.iload_n 1, 1) := by decide +kernel
theorem dX1_add_18 : decode cX1_add 18 = .ok (.dup2, 1) := by decide +kernel
theorem dX1_add_19 : decode cX1_add 19 = .ok (.iaload, 1) := by decide +kernel
theorem dX1_add_20 : decode cX1_add 20 = .ok (.iload_n 2, 1) := by decide +kernel
theorem dX1_add_21 : decode cX1_add 21 = .ok (.iadd, 1) := by decide +kernel
theorem dX1_add_22 : decode cX1_add 22 = .ok (.iastore, 1) := by decide +kernel
theorem dX1_add_23 : decode cX1_add 23 = .ok (.iload_n 2, 1) := by decide +kernel
theorem dX1_add_24 : decode cX1_add 24 = .ok (.ireturn, 1) := by decide +kernel
set_option maxRecDepth 20000 in
theorem ggX2_init_X1_init : GoodIn wsX2_init wsX1_init := goodIn_r _ [13, 14, 2, 3, 8, 15, 16, 17, 18] (by decide +kernel) (by decide +kernel)
set_option maxRecDepth 20000 in
theorem gX2_init_X1_init_n11 : GoodIn wsX2_init (wsX1_init) := ggX2_init_X1_init
theorem dX2_init_0 : decode cX2_init 0 = .ok (.aload_n 0, 1) := by decide +kernel
theorem dX2_init_1 : decode cX2_init 1 = .ok (.invokespecial 3, 3) := by decide +kernel
theorem dX2_init_4 : decode cX2_init 4 = .ok (.aload_n 0, 1) := by decide +kernel
theorem dX2_init_5 : decode cX2_init 5 = .ok (.new 9, 3) := by decide +kernel
theorem dX2_init_8 : decode cX2_init 8 = .ok (.dup, 1) := by decide +kernel
theorem dX2_init_9 : decode cX2_init 9 = .ok (.invokespecial 11, 3) := by decide +kernel
theorem dX2_init_12 : decode cX2_init 12 = .ok (.putfield 12, 3) := by decide +kernel
theorem dX2_init_15 : decode cX2_init 15 = .ok (.aload_n 0, 1) := by decide +kernel
theorem dX2_init_16 : decode cX2_init 16 = .ok (.sipush 1000, 3) := by decide +kernel
theorem dX2_init_19 : decode cX2_init 19 = .ok (.newarray .int, 2) := by decide +kernel
theorem dX2_init_21 : decode cX2_init 21 = .ok (.putfield 18, 3) := by decide +kernel
theorem dX2_init_24 : decode cX2_init 24 = .ok (.aload_n 0, 1) := by decide +kernel
theorem dX2_init_25 : decode cX2_init 25 = .ok (.sipush 1000, 3) := by decide +kernel
theorem dX2_init_28 : decode cX2_init 28 = .ok (.newarray .int, 2) := by decide +kernel
theorem dX2_init_30 : decode cX2_init 30 = .ok (.putfield 22, 3) := by decide +kernel
theorem dX2_init_33 : decode cX2_init 33 = .ok (.aload_n 0, 1) := by decide +kernel
theorem dX2_init_34 : decode cX2_init 34 = .ok (.sipush 1000, 3) := by decide +kernel
theorem dX2_init_37 : decode cX2_init 37 = .ok (.newarray .int, 2) := by decide +kernel
theorem dX2_init_39 : decode cX2_init 39 = .ok (.putfield 25, 3) := by decide +kernel
theorem dX2_init_42 : decode cX2_init 42 = .ok (.return_, 1) := by decide +kernel
theorem dX2_forget_0 : decode cX2_forget 0 = .ok (.aload_n 0, 1) := by decide +kernel
theorem dX2_forget_1 : decode cX2_forget 1 = .ok (.iconst 0, 1) := by decide +kernel
theorem dX2_forget_2 : decode cX2_forget 2 = .ok (.putfield 28, 3) := by decide +kernel
theorem dX2_forget_5 : decode cX2_forget 5 = .ok (.return_, 1) := by decide +kernel
set_option maxRecDepth 20000 in
theorem ggX2_explore_J7_fill_53178 : GoodIn wsX2_explore wsJ7_fill_53178 := goodIn_r _ [7] (by decide +kernel) (by decide +kernel)
set_option maxRecDepth 20000 in
theorem gX2_explore_J7_fill_53178 : GoodIn wsX2_explore (va_wsS RX2 32 yJ7_fill_53178 wsJ7_fill_53178) := goodIn_app (goodIn_of _ (by decide +kernel)) ggX2_explore_J7_fill_53178
set_option maxRecDepth 20000 in
theorem ggX2_explore_X1_volumeAt : GoodIn wsX2_explore wsX1_volumeAt := goodIn_r _ [12, 13, 81, 82] (by decide +kernel) (by decide +kernel)
set_option maxRecDepth 20000 in
theorem gX2_explore_X1_volumeAt : GoodIn wsX2_explore (wsV RX2 38 RX1 yX1_volumeAt wsX1_volumeAt) := goodIn_app (goodIn_of _ (by decide +kernel)) ggX2_explore_X1_volumeAt
set_option maxRecDepth 20000 in
theorem ggX2_explore_X1_layEmpty : GoodIn wsX2_explore wsX1_layEmpty := goodIn_r _ [17, 13, 18, 19, 5, 6, 7, 81, 82] (by decide +kernel) (by decide +kernel)
set_option maxRecDepth 20000 in
theorem gX2_explore_X1_layEmpty : GoodIn wsX2_explore (wsV RX2 42 RX1 yX1_layEmpty wsX1_layEmpty) := goodIn_app (goodIn_of _ (by decide +kernel)) ggX2_explore_X1_layEmpty
set_option maxRecDepth 20000 in
theorem ggX2_explore_X1_state : GoodIn wsX2_explore wsX1_state := goodIn_r _ [23, 18, 81, 82] (by decide +kernel) (by decide +kernel)
set_option maxRecDepth 20000 in
theorem gX2_explore_X1_state : GoodIn wsX2_explore (wsV RX2 46 RX1 yX1_state wsX1_state) := goodIn_app (goodIn_of _ (by decide +kernel)) ggX2_explore_X1_state
set_option maxRecDepth 20000 in
theorem ggX2_explore_X2_reach : GoodIn wsX2_explore wsX2_reach := goodIn_r _ [28, 1, 2, 29, 30, 76, 77, 78, 79, 80] (by decide +kernel) (by decide +kernel)
set_option maxRecDepth 20000 in
theorem gX2_explore_X2_reach : GoodIn wsX2_explore (wsV RX2 50 RX2 yX2_reach wsX2_reach) := goodIn_app (goodIn_of _ (by decide +kernel)) ggX2_explore_X2_reach
set_option maxRecDepth 20000 in
theorem ggX2_explore_X2_stateAt : GoodIn wsX2_explore wsX2_stateAt := goodIn_r _ [34, 1, 30, 76, 77, 78, 79, 80] (by decide +kernel) (by decide +kernel)
set_option maxRecDepth 20000 in
theorem gX2_explore_X2_stateAt : GoodIn wsX2_explore (wsV RX2 53 RX2 yX2_stateAt wsX2_stateAt) := goodIn_app (goodIn_of _ (by decide +kernel)) ggX2_explore_X2_stateAt
set_option maxRecDepth 20000 in
theorem ggX2_explore_X2_spread : GoodIn wsX2_explore wsX2_spread := goodIn_r _ [38, 3, 39, 40, 41, 27, 42, 2, 43, 44, 45, 11, 46, 47, 48, 49, 50, 13, 51, 52, 53, 54, 18, 55, 56, 57, 58, 59, 60, 61, 62, 63, 9, 10, 12, 64, 65, 66, 67, 68, 69, 70, 71, 20, 21, 22, 23, 72, 73, 74, 75, 29, 24, 25, 26, 28, 1, 30, 76, 77, 78, 79, 80, 81, 82] (by decide +kernel) (by decide +kernel)
set_option maxRecDepth 20000 in
theorem gX2_explore_X2_spread : GoodIn wsX2_explore (wsV RX2 56 RX2 yX2_spread wsX2_spread) := goodIn_app (goodIn_of _ (by decide +kernel)) ggX2_explore_X2_spread
theorem dX2_explore_0 : decode cX2_explore 0 = .ok (.aload_n 0, 1) := by decide +kernel
theorem dX2_explore_1 : decode cX2_explore 1 = .ok (.getfield 28, 3) := by decide +kernel
theorem dX2_explore_4 : decode cX2_explore 4 = .ok (.ifCond .le 4, 3) := by decide +kernel
theorem dX2_explore_7 : decode cX2_explore 7 = .ok (.return_, 1) := by decide +kernel
theorem dX2_explore_8 : decode cX2_explore 8 = .ok (.aload_n 0, 1) := by decide +kernel
theorem dX2_explore_9 : decode cX2_explore 9 = .ok (.getfield 18, 3) := by decide +kernel
theorem dX2_explore_12 : decode cX2_explore 12 = .ok (.iconst (-1), 1) := by decide +kernel
theorem dX2_explore_13 : decode cX2_explore 13 = .ok (.invokestatic 32, 3) := by decide +kernel
theorem dX2_explore_16 : decode cX2_explore 16 = .ok (.aload_n 0, 1) := by decide +kernel
theorem dX2_explore_17 : decode cX2_explore 17 = .ok (.getfield 12, 3) := by decide +kernel
theorem dX2_explore_20 : decode cX2_explore 20 = .ok (.aload_n 1, 1) := by decide +kernel
theorem dX2_explore_21 : decode cX2_explore 21 = .ok (.iconst 0, 1) := by decide +kernel
theorem dX2_explore_22 : decode cX2_explore 22 = .ok (.invokevirtual 38, 3) := by decide +kernel
theorem dX2_explore_25 : decode cX2_explore 25 = .ok (.aload_n 1, 1) := by decide +kernel
theorem dX2_explore_26 : decode cX2_explore 26 = .ok (.iconst 1, 1) := by decide +kernel
theorem dX2_explore_27 : decode cX2_explore 27 = .ok (.invokevirtual 38, 3) := by decide +kernel
theorem dX2_explore_30 : decode cX2_explore 30 = .ok (.aload_n 1, 1) := by decide +kernel
theorem dX2_explore_31 : decode cX2_explore 31 = .ok (.iconst 2, 1) := by decide +kernel
theorem dX2_explore_32 : decode cX2_explore 32 = .ok (.invokevirtual 38, 3) := by decide +kernel
theorem dX2_explore_35 : decode cX2_explore 35 = .ok (.invokevirtual 42, 3) := by decide +kernel
theorem dX2_explore_38 : decode cX2_explore 38 = .ok (.aload_n 0, 1) := by decide +kernel
theorem dX2_explore_39 : decode cX2_explore 39 = .ok (.aload_n 1, 1) := by decide +kernel
theorem dX2_explore_40 : decode cX2_explore 40 = .ok (.invokevirtual 46, 3) := by decide +kernel
theorem dX2_explore_43 : decode cX2_explore 43 = .ok (.iconst 0, 1) := by decide +kernel
theorem dX2_explore_44 : decode cX2_explore 44 = .ok (.iconst (-1), 1) := by decide +kernel
theorem dX2_explore_45 : decode cX2_explore 45 = .ok (.invokevirtual 50, 3) := by decide +kernel
theorem dX2_explore_48 : decode cX2_explore 48 = .ok (.iconst 0, 1) := by decide +kernel
theorem dX2_explore_49 : decode cX2_explore 49 = .ok (.istore_n 2, 1) := by decide +kernel
theorem dX2_explore_50 : decode cX2_explore 50 = .ok (.iload_n 2, 1) := by decide +kernel
theorem dX2_explore_51 : decode cX2_explore 51 = .ok (.aload_n 0, 1) := by decide +kernel
theorem dX2_explore_52 : decode cX2_explore 52 = .ok (.getfield 28, 3) := by decide +kernel
theorem dX2_explore_55 : decode cX2_explore 55 = .ok (.if_icmp .ge 25, 3) := by decide +kernel
theorem dX2_explore_58 : decode cX2_explore 58 = .ok (.iload_n 2, 1) := by decide +kernel
theorem dX2_explore_59 : decode cX2_explore 59 = .ok (.sipush 1000, 3) := by decide +kernel
theorem dX2_explore_62 : decode cX2_explore 62 = .ok (.if_icmp .ge 18, 3) := by decide +kernel
theorem dX2_explore_65 : decode cX2_explore 65 = .ok (.aload_n 0, 1) := by decide +kernel
theorem dX2_explore_66 : decode cX2_explore 66 = .ok (.aload_n 0, 1) := by decide +kernel
theorem dX2_explore_67 : decode cX2_explore 67 = .ok (.iload_n 2, 1) := by decide +kernel
theorem dX2_explore_68 : decode cX2_explore 68 = .ok (.invokevirtual 53, 3) := by decide +kernel
theorem dX2_explore_71 : decode cX2_explore 71 = .ok (.invokevirtual 56, 3) := by decide +kernel
theorem dX2_explore_74 : decode cX2_explore 74 = .ok (.iinc 2 1, 3) := by decide +kernel
theorem dX2_explore_77 : decode cX2_explore 77 = .ok (.goto (-27), 3) := by decide +kernel
theorem dX2_explore_80 : decode cX2_explore 80 = .ok (.return_, 1) := by decide +kernel
set_option maxRecDepth 20000 in
theorem ggX2_spread_X2_distanceOf : GoodIn wsX2_spread wsX2_distanceOf := goodIn_r _ [6, 7, 58, 59, 60, 61, 62] (by decide +kernel) (by decide +kernel)
set_option maxRecDepth 20000 in
theorem gX2_spread_X2_distanceOf : GoodIn wsX2_spread (wsV RX2 60 RX2 yX2_distanceOf wsX2_distanceOf) := goodIn_app (goodIn_of _ (by decide +kernel)) ggX2_spread_X2_distanceOf
set_option maxRecDepth 20000 in
theorem ggX2_spread_X1_allows : GoodIn wsX2_spread wsX1_allows := goodIn_r _ [12, 13, 14, 15, 11, 16, 17, 63, 64] (by decide +kernel) (by decide +kernel)
set_option maxRecDepth 20000 in
theorem gX2_spread_X1_allows : GoodIn wsX2_spread (wsV RX2 63 RX1 yX1_allows wsX1_allows) := goodIn_app (goodIn_of _ (by decide +kernel)) ggX2_spread_X1_allows
set_option maxRecDepth 20000 in
theorem ggX2_spread_X1_hold : GoodIn wsX2_spread wsX1_hold := goodIn_r _ [21, 22, 63, 64] (by decide +kernel) (by decide +kernel)
set_option maxRecDepth 20000 in
theorem gX2_spread_X1_hold : GoodIn wsX2_spread (wsV RX2 67 RX1 yX1_hold wsX1_hold) := goodIn_app (goodIn_of _ (by decide +kernel)) ggX2_spread_X1_hold
set_option maxRecDepth 20000 in
theorem ggX2_spread_X1_change : GoodIn wsX2_spread wsX1_change := goodIn_r _ [26, 27, 28, 29, 30, 31, 32, 33, 11, 34, 17, 35, 36, 37, 38, 22, 39, 40, 41, 42, 63, 64] (by decide +kernel) (by decide +kernel)
set_option maxRecDepth 20000 in
theorem gX2_spread_X1_change : GoodIn wsX2_spread (wsV RX2 70 RX1 yX1_change wsX1_change) := goodIn_app (goodIn_of _ (by decide +kernel)) ggX2_spread_X1_change
set_option maxRecDepth 20000 in
theorem ggX2_spread_X1_state : GoodIn wsX2_spread wsX1_state := goodIn_r _ [46, 22, 63, 64] (by decide +kernel) (by decide +kernel)
set_option maxRecDepth 20000 in
theorem gX2_spread_X1_state : GoodIn wsX2_spread (wsV RX2 46 RX1 yX1_state wsX1_state) := goodIn_app (goodIn_of _ (by decide +kernel)) ggX2_spread_X1_state
set_option maxRecDepth 20000 in
theorem ggX2_spread_X2_firstActOf : GoodIn wsX2_spread wsX2_firstActOf := goodIn_r _ [50, 51, 58, 59, 60, 61, 62] (by decide +kernel) (by decide +kernel)
set_option maxRecDepth 20000 in
theorem gX2_spread_X2_firstActOf : GoodIn wsX2_spread (wsV RX2 73 RX2 yX2_firstActOf wsX2_firstActOf) := goodIn_app (goodIn_of _ (by decide +kernel)) ggX2_spread_X2_firstActOf
set_option maxRecDepth 20000 in
theorem ggX2_spread_X2_reach : GoodIn wsX2_spread wsX2_reach := goodIn_r _ [55, 56, 7, 51, 57, 58, 59, 60, 61, 62] (by decide +kernel) (by decide +kernel)
set_option maxRecDepth 20000 in
theorem gX2_spread_X2_reach : GoodIn wsX2_spread (wsV RX2 50 RX2 yX2_reach wsX2_reach) := goodIn_app (goodIn_of _ (by decide +kernel)) ggX2_spread_X2_reach
theorem dX2_spread_0 : decode cX2_spread 0 = .ok (.aload_n 0, 1) := by decide +kernel
theorem dX2_spread_1 : decode cX2_spread 1 = .ok (.iload_n 1, 1) := by decide +kernel
theorem dX2_spread_2 : decode cX2_spread 2 = .ok (.invokevirtual 60, 3) := by decide +kernel
theorem dX2_spread_5 : decode cX2_spread 5 = .ok (.istore_n 2, 1) := by decide +kernel
theorem dX2_spread_6 : decode cX2_spread 6 = .ok (.iconst 0, 1) := by decide +kernel
theorem dX2_spread_7 : decode cX2_spread 7 = .ok (.istore_n 3, 1) := by decide +kernel
theorem dX2_spread_8 : decode cX2_spread 8 = .ok (.iload_n 3, 1) := by decide +kernel
theorem dX2_spread_9 : decode cX2_spread 9 = .ok (.bipush 15, 2) := by decide +kernel
theorem dX2_spread_11 : decode cX2_spread 11 = .ok (.if_icmp .ge 64, 3) := by decide +kernel
theorem dX2_spread_14 : decode cX2_spread 14 = .ok (.aload_n 0, 1) := by decide +kernel
theorem dX2_spread_15 : decode cX2_spread 15 = .ok (.getfield 12, 3) := by decide +kernel
theorem dX2_spread_18 : decode cX2_spread 18 = .ok (.iload_n 3, 1) := by decide +kernel
theorem dX2_spread_19 : decode cX2_spread 19 = .ok (.invokevirtual 63, 3) := by decide +kernel
theorem dX2_spread_22 : decode cX2_spread 22 = .ok (.ifCond .eq 47, 3) := by decide +kernel
theorem dX2_spread_25 : decode cX2_spread 25 = .ok (.aload_n 0, 1) := by decide +kernel
theorem dX2_spread_26 : decode cX2_spread 26 = .ok (.getfield 12, 3) := by decide +kernel
theorem dX2_spread_29 : decode cX2_spread 29 = .ok (.iload_n 1, 1) := by decide +kernel
theorem dX2_spread_30 : decode cX2_spread 30 = .ok (.invokevirtual 67, 3) := by decide +kernel
theorem dX2_spread_33 : decode cX2_spread 33 = .ok (.aload_n 0, 1) := by decide +kernel
theorem dX2_spread_34 : decode cX2_spread 34 = .ok (.getfield 12, 3) := by decide +kernel
theorem dX2_spread_37 : decode cX2_spread 37 = .ok (.iload_n 3, 1) := by decide +kernel
theorem dX2_spread_38 : decode cX2_spread 38 = .ok (.invokevirtual 70, 3) := by decide +kernel
theorem dX2_spread_41 : decode cX2_spread 41 = .ok (.pop, 1) := by decide +kernel
theorem dX2_spread_42 : decode cX2_spread 42 = .ok (.aload_n 0, 1) := by decide +kernel
theorem dX2_spread_43 : decode cX2_spread 43 = .ok (.aload_n 0, 1) := by decide +kernel
theorem dX2_spread_44 : decode cX2_spread 44 = .ok (.getfield 12, 3) := by decide +kernel
theorem dX2_spread_47 : decode cX2_spread 47 = .ok (.invokevirtual 46, 3) := by decide +kernel
theorem dX2_spread_50 : decode cX2_spread 50 = .ok (.iload_n 2, 1) := by decide +kernel
theorem dX2_spread_51 : decode cX2_spread 51 = .ok (.iconst 1, 1) := by decide +kernel
theorem dX2_spread_52 : decode cX2_spread 52 = .ok (.iadd, 1) := by decide +kernel
theorem dX2_spread_53 : decode cX2_spread 53 = .ok (.iload_n 2, 1) := by decide +kernel
theorem dX2_spread_54 : decode cX2_spread 54 = .ok (.ifCond .ne 7, 3) := by decide +kernel
theorem dX2_spread_57 : decode cX2_spread 57 = .ok (.iload_n 3, 1) := by decide +kernel
theorem dX2_spread_58 : decode cX2_spread 58 = .ok (.goto 8, 3) := by decide +kernel
theorem dX2_spread_61 : decode cX2_spread 61 = .ok (.aload_n 0, 1) := by decide +kernel
theorem dX2_spread_62 : decode cX2_spread 62 = .ok (.iload_n 1, 1) := by decide +kernel
theorem dX2_spread_63 : decode cX2_spread 63 = .ok (.invokevirtual 73, 3) := by decide +kernel
theorem dX2_spread_66 : decode cX2_spread 66 = .ok (.invokevirtual 50, 3) := by decide +kernel
theorem dX2_spread_69 : decode cX2_spread 69 = .ok (.iinc 3 1, 3) := by decide +kernel
theorem dX2_spread_72 : decode cX2_spread 72 = .ok (.goto (-64), 3) := by decide +kernel
theorem dX2_spread_75 : decode cX2_spread 75 = .ok (.return_, 1) := by decide +kernel
theorem dX2_reach_0 : decode cX2_reach 0 = .ok (.iload_n 1, 1) := by decide +kernel
theorem dX2_reach_1 : decode cX2_reach 1 = .ok (.ifCond .lt 27, 3) := by decide +kernel
theorem dX2_reach_4 : decode cX2_reach 4 = .ok (.iload_n 1, 1) := by decide +kernel
theorem dX2_reach_5 : decode cX2_reach 5 = .ok (.sipush 1000, 3) := by decide +kernel
theorem dX2_reach_8 : decode cX2_reach 8 = .ok (.if_icmp .ge 20, 3) := by decide +kernel
theorem dX2_reach_11 : decode cX2_reach 11 = .ok (.aload_n 0, 1) := by decide +kernel
theorem dX2_reach_12 : decode cX2_reach 12 = .ok (.getfield 28, 3) := by decide +kernel
theorem dX2_reach_15 : decode cX2_reach 15 = .ok (.ifCond .lt 13, 3) := by decide +kernel
theorem dX2_reach_18 : decode cX2_reach 18 = .ok (.aload_n 0, 1) := by decide +kernel
theorem dX2_reach_19 : decode cX2_reach 19 = .ok (.getfield 28, 3) := by decide +kernel
theorem dX2_reach_22 : decode cX2_reach 22 = .ok (.sipush 1000, 3) := by decide +kernel
theorem dX2_reach_25 : decode cX2_reach 25 = .ok (.if_icmp .lt 4, 3) := by decide +kernel
theorem dX2_reach_28 : decode cX2_reach 28 = .ok (.return_, 1) := by decide +kernel
theorem dX2_reach_29 : decode cX2_reach 29 = .ok (.aload_n 0, 1) := by decide +kernel
theorem dX2_reach_30 : decode cX2_reach 30 = .ok (.getfield 18, 3) := by decide +kernel
theorem dX2_reach_33 : decode cX2_reach 33 = .ok (.iload_n 1, 1) := by decide +kernel
theorem dX2_reach_34 : decode cX2_reach 34 = .ok (.iaload, 1) := by decide +kernel
theorem dX2_reach_35 : decode cX2_reach 35 = .ok (.iconst (-1), 1) := by decide +kernel
theorem dX2_reach_36 : decode cX2_reach 36 = .ok (.if_icmp .ne 37, 3) := by decide +kernel
theorem dX2_reach_39 : decode cX2_reach 39 = .ok (.aload_n 0, 1) := by decide +kernel
theorem dX2_reach_40 : decode cX2_reach 40 = .ok (.getfield 18, 3) := by decide +kernel
theorem dX2_reach_43 : decode cX2_reach 43 = .ok (.iload_n 1, 1) := by decide +kernel
theorem dX2_reach_44 : decode cX2_reach 44 = .ok (.iload_n 2, 1) := by decide +kernel
theorem dX2_reach_45 : decode cX2_reach 45 = .ok (.iastore, 1) := by decide +kernel
theorem dX2_reach_46 : decode cX2_reach 46 = .ok (.aload_n 0, 1) := by decide +kernel
theorem dX2_reach_47 : decode cX2_reach 47 = .ok (.getfield 22, 3) := by decide +kernel
theorem dX2_reach_50 : decode cX2_reach 50 = .ok (.iload_n 1, 1) := by decide +kernel
theorem dX2_reach_51 : decode cX2_reach 51 = .ok (.iload_n 3, 1) := by decide +kernel
theorem dX2_reach_52 : decode cX2_reach 52 = .ok (.iastore, 1) := by decide +kernel
theorem dX2_reach_53 : decode cX2_reach 53 = .ok (.aload_n 0, 1) := by decide +kernel
theorem dX2_reach_54 : decode cX2_reach 54 = .ok (.getfield 25, 3) := by decide +kernel
theorem dX2_reach_57 : decode cX2_reach 57 = .ok (.aload_n 0, 1) := by decide +kernel
theorem dX2_reach_58 : decode cX2_reach 58 = .ok (.getfield 28, 3) := by decide +kernel
theorem dX2_reach_61 : decode cX2_reach 61 = .ok (.iload_n 1, 1) := by decide +kernel
theorem dX2_reach_62 : decode cX2_reach 62 = .ok (.iastore, 1) := by decide +kernel
theorem dX2_reach_63 : decode cX2_reach 63 = .ok (.aload_n 0, 1) := by decide +kernel
theorem dX2_reach_64 : decode cX2_reach 64 = .ok (.dup, 1) := by decide +kernel
theorem dX2_reach_65 : decode cX2_reach 65 = .ok (.getfield 28, 3) := by decide +kernel
theorem dX2_reach_68 : decode cX2_reach 68 = .ok (.iconst 1, 1) := by decide +kernel
theorem dX2_reach_69 : decode cX2_reach 69 = .ok (.iadd, 1) := by decide +kernel
theorem dX2_reach_70 : decode cX2_reach 70 = .ok (.putfield 28, 3) := by decide +kernel
theorem dX2_reach_73 : decode cX2_reach 73 = .ok (.return_, 1) := by decide +kernel
theorem dX2_stateAt_0 : decode cX2_stateAt 0 = .ok (.iload_n 1, 1) := by decide +kernel
theorem dX2_stateAt_1 : decode cX2_stateAt 1 = .ok (.ifCond .lt 27, 3) := by decide +kernel
theorem dX2_stateAt_4 : decode cX2_stateAt 4 = .ok (.iload_n 1, 1) := by decide +kernel
theorem dX2_stateAt_5 : decode cX2_stateAt 5 = .ok (.aload_n 0, 1) := by decide +kernel
theorem dX2_stateAt_6 : decode cX2_stateAt 6 = .ok (.getfield 28, 3) := by decide +kernel
theorem dX2_stateAt_9 : decode cX2_stateAt 9 = .ok (.if_icmp .ge 19, 3) := by decide +kernel
theorem dX2_stateAt_12 : decode cX2_stateAt 12 = .ok (.iload_n 1, 1) := by decide +kernel
theorem dX2_stateAt_13 : decode cX2_stateAt 13 = .ok (.sipush 1000, 3) := by decide +kernel
theorem dX2_stateAt_16 : decode cX2_stateAt 16 = .ok (.if_icmp .ge 12, 3) := by decide +kernel
theorem dX2_stateAt_19 : decode cX2_stateAt 19 = .ok (.aload_n 0, 1) := by decide +kernel
theorem dX2_stateAt_20 : decode cX2_stateAt 20 = .ok (.getfield 25, 3) := by decide +kernel
theorem dX2_stateAt_23 : decode cX2_stateAt 23 = .ok (.iload_n 1, 1) := by decide +kernel
theorem dX2_stateAt_24 : decode cX2_stateAt 24 = .ok (.iaload, 1) := by decide +kernel
theorem dX2_stateAt_25 : decode cX2_stateAt 25 = .ok (.goto 4, 3) := by decide +kernel
theorem dX2_stateAt_28 : decode cX2_stateAt 28 = .ok (.iconst (-1), 1) := by decide +kernel
theorem dX2_stateAt_29 : decode cX2_stateAt 29 = .ok (.ireturn, 1) := by decide +kernel
theorem dX2_distanceOf_0 : decode cX2_distanceOf 0 = .ok (.iload_n 1, 1) := by decide +kernel
theorem dX2_distanceOf_1 : decode cX2_distanceOf 1 = .ok (.ifCond .lt 19, 3) := by decide +kernel
theorem dX2_distanceOf_4 : decode cX2_distanceOf 4 = .ok (.iload_n 1, 1) := by decide +kernel
theorem dX2_distanceOf_5 : decode cX2_distanceOf 5 = .ok (.sipush 1000, 3) := by decide +kernel
theorem dX2_distanceOf_8 : decode cX2_distanceOf 8 = .ok (.if_icmp .ge 12, 3) := by decide +kernel
theorem dX2_distanceOf_11 : decode cX2_distanceOf 11 = .ok (.aload_n 0, 1) := by decide +kernel
theorem dX2_distanceOf_12 : decode cX2_distanceOf 12 = .ok (.getfield 18, 3) := by decide +kernel
theorem dX2_distanceOf_15 : decode cX2_distanceOf 15 = .ok (.iload_n 1, 1) := by decide +kernel
theorem dX2_distanceOf_16 : decode cX2_distanceOf 16 = .ok (.iaload, 1) := by decide +kernel
theorem dX2_distanceOf_17 : decode cX2_distanceOf 17 = .ok (.goto 4, 3) := by decide +kernel
theorem dX2_distanceOf_20 : decode cX2_distanceOf 20 = .ok (.iconst (-1), 1) := by decide +kernel
theorem dX2_distanceOf_21 : decode cX2_distanceOf 21 = .ok (.ireturn, 1) := by decide +kernel
theorem dX2_firstActOf_0 : decode cX2_firstActOf 0 = .ok (.iload_n 1, 1) := by decide +kernel
theorem dX2_firstActOf_1 : decode cX2_firstActOf 1 = .ok (.ifCond .lt 19, 3) := by decide +kernel
theorem dX2_firstActOf_4 : decode cX2_firstActOf 4 = .ok (.iload_n 1, 1) := by decide +kernel
theorem dX2_firstActOf_5 : decode cX2_firstActOf 5 = .ok (.sipush 1000, 3) := by decide +kernel
theorem dX2_firstActOf_8 : decode cX2_firstActOf 8 = .ok (.if_icmp .ge 12, 3) := by decide +kernel
theorem dX2_firstActOf_11 : decode cX2_firstActOf 11 = .ok (.aload_n 0, 1) := by decide +kernel
theorem dX2_firstActOf_12 : decode cX2_firstActOf 12 = .ok (.getfield 22, 3) := by decide +kernel
theorem dX2_firstActOf_15 : decode cX2_firstActOf 15 = .ok (.iload_n 1, 1) := by decide +kernel
theorem dX2_firstActOf_16 : decode cX2_firstActOf 16 = .ok (.iaload, 1) := by decide +kernel
theorem dX2_firstActOf_17 : decode cX2_firstActOf 17 = .ok (.goto 4, 3) := by decide +kernel
theorem dX2_firstActOf_20 : decode cX2_firstActOf 20 = .ok (.iconst (-1), 1) := by decide +kernel
theorem dX2_firstActOf_21 : decode cX2_firstActOf 21 = .ok (.ireturn, 1) := by decide +kernel
set_option maxRecDepth 20000 in
theorem ggX2_nearestWith_X2_stateAt : GoodIn wsX2_nearestWith wsX2_stateAt := goodIn_r _ [7, 1, 8, 28, 29, 30, 31, 32] (by decide +kernel) (by decide +kernel)
set_option maxRecDepth 20000 in
theorem gX2_nearestWith_X2_stateAt : GoodIn wsX2_nearestWith (wsV RX2 53 RX2 yX2_stateAt wsX2_stateAt) := goodIn_app (goodIn_of _ (by decide +kernel)) ggX2_nearestWith_X2_stateAt
set_option maxRecDepth 20000 in
theorem ggX2_nearestWith_X1_hold : GoodIn wsX2_nearestWith wsX1_hold := goodIn_r _ [13, 14, 33, 34] (by decide +kernel) (by decide +kernel)
set_option maxRecDepth 20000 in
theorem gX2_nearestWith_X1_hold : GoodIn wsX2_nearestWith (wsV RX2 67 RX1 yX1_hold wsX1_hold) := goodIn_app (goodIn_of _ (by decide +kernel)) ggX2_nearestWith_X1_hold
set_option maxRecDepth 20000 in
theorem ggX2_nearestWith_X1_holdsSomewhere : GoodIn wsX2_nearestWith wsX1_holdsSomewhere := goodIn_r _ [18, 19, 20, 21, 12, 22, 23, 24, 25, 26, 27, 14, 33, 34] (by decide +kernel) (by decide +kernel)
set_option maxRecDepth 20000 in
theorem gX2_nearestWith_X1_holdsSomewhere : GoodIn wsX2_nearestWith (wsV RX2 76 RX1 yX1_holdsSomewhere wsX1_holdsSomewhere) := goodIn_app (goodIn_of _ (by decide +kernel)) ggX2_nearestWith_X1_holdsSomewhere
theorem dX2_nearestWith_0 : decode cX2_nearestWith 0 = .ok (.iconst 0, 1) := by decide +kernel
theorem dX2_nearestWith_1 : decode cX2_nearestWith 1 = .ok (.istore_n 2, 1) := by decide +kernel
theorem dX2_nearestWith_2 : decode cX2_nearestWith 2 = .ok (.iload_n 2, 1) := by decide +kernel
theorem dX2_nearestWith_3 : decode cX2_nearestWith 3 = .ok (.aload_n 0, 1) := by decide +kernel
theorem dX2_nearestWith_4 : decode cX2_nearestWith 4 = .ok (.getfield 28, 3) := by decide +kernel
theorem dX2_nearestWith_7 : decode cX2_nearestWith 7 = .ok (.if_icmp .ge 38, 3) := by decide +kernel
theorem dX2_nearestWith_10 : decode cX2_nearestWith 10 = .ok (.aload_n 0, 1) := by decide +kernel
theorem dX2_nearestWith_11 : decode cX2_nearestWith 11 = .ok (.getfield 12, 3) := by decide +kernel
theorem dX2_nearestWith_14 : decode cX2_nearestWith 14 = .ok (.aload_n 0, 1) := by decide +kernel
theorem dX2_nearestWith_15 : decode cX2_nearestWith 15 = .ok (.iload_n 2, 1) := by decide +kernel
theorem dX2_nearestWith_16 : decode cX2_nearestWith 16 = .ok (.invokevirtual 53, 3) := by decide +kernel
theorem dX2_nearestWith_19 : decode cX2_nearestWith 19 = .ok (.invokevirtual 67, 3) := by decide +kernel
theorem dX2_nearestWith_22 : decode cX2_nearestWith 22 = .ok (.aload_n 0, 1) := by decide +kernel
theorem dX2_nearestWith_23 : decode cX2_nearestWith 23 = .ok (.getfield 12, 3) := by decide +kernel
theorem dX2_nearestWith_26 : decode cX2_nearestWith 26 = .ok (.iload_n 1, 1) := by decide +kernel
theorem dX2_nearestWith_27 : decode cX2_nearestWith 27 = .ok (.invokevirtual 76, 3) := by decide +kernel
theorem dX2_nearestWith_30 : decode cX2_nearestWith 30 = .ok (.ifCond .eq 9, 3) := by decide +kernel
theorem dX2_nearestWith_33 : decode cX2_nearestWith 33 = .ok (.aload_n 0, 1) := by decide +kernel
theorem dX2_nearestWith_34 : decode cX2_nearestWith 34 = .ok (.iload_n 2, 1) := by decide +kernel
theorem dX2_nearestWith_35 : decode cX2_nearestWith 35 = .ok (.invokevirtual 53, 3) := by decide +kernel
theorem dX2_nearestWith_38 : decode cX2_nearestWith 38 = .ok (.ireturn, 1) := by decide +kernel
theorem dX2_nearestWith_39 : decode cX2_nearestWith 39 = .ok (.iinc 2 1, 3) := by decide +kernel
theorem dX2_nearestWith_42 : decode cX2_nearestWith 42 = .ok (.goto (-40), 3) := by decide +kernel
theorem dX2_nearestWith_45 : decode cX2_nearestWith 45 = .ok (.iconst (-1), 1) := by decide +kernel
theorem dX2_nearestWith_46 : decode cX2_nearestWith 46 = .ok (.ireturn, 1) := by decide +kernel
set_option maxRecDepth 20000 in
theorem ggX2_leastActsTo_X2_nearestWith : GoodIn wsX2_leastActsTo wsX2_nearestWith := goodIn_r _ [5, 6, 7, 8, 9, 10, 4, 11, 12, 13, 14, 15, 16, 17, 18, 19, 20, 21, 22, 23, 24, 25, 26, 27, 28, 29, 30, 31, 37, 38, 39, 40, 41, 42, 43] (by decide +kernel) (by decide +kernel)
set_option maxRecDepth 20000 in
theorem gX2_leastActsTo_X2_nearestWith : GoodIn wsX2_leastActsTo (wsV RX2 79 RX2 yX2_nearestWith wsX2_nearestWith) := goodIn_app (goodIn_of _ (by decide +kernel)) ggX2_leastActsTo_X2_nearestWith
set_option maxRecDepth 20000 in
theorem ggX2_leastActsTo_X2_distanceOf : GoodIn wsX2_leastActsTo wsX2_distanceOf := goodIn_r _ [35, 36, 37, 38, 39, 40, 41] (by decide +kernel) (by decide +kernel)
set_option maxRecDepth 20000 in
theorem gX2_leastActsTo_X2_distanceOf : GoodIn wsX2_leastActsTo (wsV RX2 60 RX2 yX2_distanceOf wsX2_distanceOf) := goodIn_app (goodIn_of _ (by decide +kernel)) ggX2_leastActsTo_X2_distanceOf
theorem dX2_leastActsTo_0 : decode cX2_leastActsTo 0 = .ok (.aload_n 0, 1) := by decide +kernel
theorem dX2_leastActsTo_1 : decode cX2_leastActsTo 1 = .ok (.aload_n 0, 1) := by decide +kernel
theorem dX2_leastActsTo_2 : decode cX2_leastActsTo 2 = .ok (.iload_n 1, 1) := by decide +kernel
theorem dX2_leastActsTo_3 : decode cX2_leastActsTo 3 = .ok (.invokevirtual 79, 3) := by decide +kernel
theorem dX2_leastActsTo_6 : decode cX2_leastActsTo 6 = .ok (.invokevirtual 60, 3) := by decide +kernel
theorem dX2_leastActsTo_9 : decode cX2_leastActsTo 9 = .ok (.ireturn, 1) := by decide +kernel
set_option maxRecDepth 20000 in
theorem ggX2_leastActsWith_X2_stateAt : GoodIn wsX2_leastActsWith wsX2_stateAt := goodIn_r _ [7, 1, 8, 24, 25, 26, 27, 28] (by decide +kernel) (by decide +kernel)
set_option maxRecDepth 20000 in
theorem gX2_leastActsWith_X2_stateAt : GoodIn wsX2_leastActsWith (wsV RX2 53 RX2 yX2_stateAt wsX2_stateAt) := goodIn_app (goodIn_of _ (by decide +kernel)) ggX2_leastActsWith_X2_stateAt
set_option maxRecDepth 20000 in
theorem ggX2_leastActsWith_X1_hold : GoodIn wsX2_leastActsWith wsX1_hold := goodIn_r _ [13, 14, 29, 30] (by decide +kernel) (by decide +kernel)
set_option maxRecDepth 20000 in
theorem gX2_leastActsWith_X1_hold : GoodIn wsX2_leastActsWith (wsV RX2 67 RX1 yX1_hold wsX1_hold) := goodIn_app (goodIn_of _ (by decide +kernel)) ggX2_leastActsWith_X1_hold
set_option maxRecDepth 20000 in
theorem ggX2_leastActsWith_X1_amountAt : GoodIn wsX2_leastActsWith wsX1_amountAt := goodIn_r _ [18, 14, 29, 30] (by decide +kernel) (by decide +kernel)
set_option maxRecDepth 20000 in
theorem gX2_leastActsWith_X1_amountAt : GoodIn wsX2_leastActsWith (wsV RX2 82 RX1 yX1_amountAt wsX1_amountAt) := goodIn_app (goodIn_of _ (by decide +kernel)) ggX2_leastActsWith_X1_amountAt
set_option maxRecDepth 20000 in
theorem ggX2_leastActsWith_X2_distanceOf : GoodIn wsX2_leastActsWith wsX2_distanceOf := goodIn_r _ [22, 23, 24, 25, 26, 27, 28] (by decide +kernel) (by decide +kernel)
set_option maxRecDepth 20000 in
theorem gX2_leastActsWith_X2_distanceOf : GoodIn wsX2_leastActsWith (wsV RX2 60 RX2 yX2_distanceOf wsX2_distanceOf) := goodIn_app (goodIn_of _ (by decide +kernel)) ggX2_leastActsWith_X2_distanceOf
theorem dX2_leastActsWith_0 : decode cX2_leastActsWith 0 = .ok (.iconst 0, 1) := by decide +kernel
theorem dX2_leastActsWith_1 : decode cX2_leastActsWith 1 = .ok (.istore_n 3, 1) := by decide +kernel
theorem dX2_leastActsWith_2 : decode cX2_leastActsWith 2 = .ok (.iload_n 3, 1) := by decide +kernel
theorem dX2_leastActsWith_3 : decode cX2_leastActsWith 3 = .ok (.aload_n 0, 1) := by decide +kernel
theorem dX2_leastActsWith_4 : decode cX2_leastActsWith 4 = .ok (.getfield 28, 3) := by decide +kernel
theorem dX2_leastActsWith_7 : decode cX2_leastActsWith 7 = .ok (.if_icmp .ge 43, 3) := by decide +kernel
theorem dX2_leastActsWith_10 : decode cX2_leastActsWith 10 = .ok (.aload_n 0, 1) := by decide +kernel
theorem dX2_leastActsWith_11 : decode cX2_leastActsWith 11 = .ok (.getfield 12, 3) := by decide +kernel
theorem dX2_leastActsWith_14 : decode cX2_leastActsWith 14 = .ok (.aload_n 0, 1) := by decide +kernel
theorem dX2_leastActsWith_15 : decode cX2_leastActsWith 15 = .ok (.iload_n 3, 1) := by decide +kernel
theorem dX2_leastActsWith_16 : decode cX2_leastActsWith 16 = .ok (.invokevirtual 53, 3) := by decide +kernel
theorem dX2_leastActsWith_19 : decode cX2_leastActsWith 19 = .ok (.invokevirtual 67, 3) := by decide +kernel
theorem dX2_leastActsWith_22 : decode cX2_leastActsWith 22 = .ok (.aload_n 0, 1) := by decide +kernel
theorem dX2_leastActsWith_23 : decode cX2_leastActsWith 23 = .ok (.getfield 12, 3) := by decide +kernel
theorem dX2_leastActsWith_26 : decode cX2_leastActsWith 26 = .ok (.iload_n 1, 1) := by decide +kernel
theorem dX2_leastActsWith_27 : decode cX2_leastActsWith 27 = .ok (.invokevirtual 82, 3) := by decide +kernel
theorem dX2_leastActsWith_30 : decode cX2_leastActsWith 30 = .ok (.iload_n 2, 1) := by decide +kernel
theorem dX2_leastActsWith_31 : decode cX2_leastActsWith 31 = .ok (.if_icmp .ne 13, 3) := by decide +kernel
theorem dX2_leastActsWith_34 : decode cX2_leastActsWith 34 = .ok (.aload_n 0, 1) := by decide +kernel
theorem dX2_leastActsWith_35 : decode cX2_leastActsWith 35 = .ok (.aload_n 0, 1) := by decide +kernel
theorem dX2_leastActsWith_36 : decode cX2_leastActsWith 36 = .ok (.iload_n 3, 1) := by decide +kernel
theorem dX2_leastActsWith_37 : decode cX2_leastActsWith 37 = .ok (.invokevirtual 53, 3) := by decide +kernel
theorem dX2_leastActsWith_40 : decode cX2_leastActsWith 40 = .ok (.invokevirtual 60, 3) := by decide +kernel
theorem dX2_leastActsWith_43 : decode cX2_leastActsWith 43 = .ok (.ireturn, 1) := by decide +kernel
theorem dX2_leastActsWith_44 : decode cX2_leastActsWith 44 = .ok (.iinc 3 1, 3) := by decide +kernel
theorem dX2_leastActsWith_47 : decode cX2_leastActsWith 47 = .ok (.goto (-45), 3) := by decide +kernel
theorem dX2_leastActsWith_50 : decode cX2_leastActsWith 50 = .ok (.iconst (-1), 1) := by decide +kernel
theorem dX2_leastActsWith_51 : decode cX2_leastActsWith 51 = .ok (.ireturn, 1) := by decide +kernel
set_option maxRecDepth 20000 in
theorem ggX2_firstActTo_X2_nearestWith : GoodIn wsX2_firstActTo wsX2_nearestWith := goodIn_r _ [5, 6, 7, 8, 9, 10, 4, 11, 12, 13, 14, 15, 16, 17, 18, 19, 20, 21, 22, 23, 24, 25, 26, 27, 28, 29, 30, 31, 37, 38, 39, 40, 41, 42, 43] (by decide +kernel) (by decide +kernel)
set_option maxRecDepth 20000 in
theorem gX2_firstActTo_X2_nearestWith : GoodIn wsX2_firstActTo (wsV RX2 79 RX2 yX2_nearestWith wsX2_nearestWith) := goodIn_app (goodIn_of _ (by decide +kernel)) ggX2_firstActTo_X2_nearestWith
set_option maxRecDepth 20000 in
theorem ggX2_firstActTo_X2_firstActOf : GoodIn wsX2_firstActTo wsX2_firstActOf := goodIn_r _ [35, 36, 37, 38, 39, 40, 41] (by decide +kernel) (by decide +kernel)
set_option maxRecDepth 20000 in
theorem gX2_firstActTo_X2_firstActOf : GoodIn wsX2_firstActTo (wsV RX2 73 RX2 yX2_firstActOf wsX2_firstActOf) := goodIn_app (goodIn_of _ (by decide +kernel)) ggX2_firstActTo_X2_firstActOf
theorem dX2_firstActTo_0 : decode cX2_firstActTo 0 = .ok (.aload_n 0, 1) := by decide +kernel
theorem dX2_firstActTo_1 : decode cX2_firstActTo 1 = .ok (.aload_n 0, 1) := by decide +kernel
theorem dX2_firstActTo_2 : decode cX2_firstActTo 2 = .ok (.iload_n 1, 1) := by decide +kernel
theorem dX2_firstActTo_3 : decode cX2_firstActTo 3 = .ok (.invokevirtual 79, 3) := by decide +kernel
theorem dX2_firstActTo_6 : decode cX2_firstActTo 6 = .ok (.invokevirtual 73, 3) := by decide +kernel
theorem dX2_firstActTo_9 : decode cX2_firstActTo 9 = .ok (.ireturn, 1) := by decide +kernel
theorem dX2_statesReached_0 : decode cX2_statesReached 0 = .ok (.aload_n 0, 1) := by decide +kernel
theorem dX2_statesReached_1 : decode cX2_statesReached 1 = .ok (.getfield 28, 3) := by decide +kernel
theorem dX2_statesReached_4 : decode cX2_statesReached 4 = .ok (.ireturn, 1) := by decide +kernel
set_option maxRecDepth 20000 in
theorem ggX2_statesAt_X2_stateAt : GoodIn wsX2_statesAt wsX2_stateAt := goodIn_r _ [6, 1, 7, 13, 14, 15, 16, 17] (by decide +kernel) (by decide +kernel)
set_option maxRecDepth 20000 in
theorem gX2_statesAt_X2_stateAt : GoodIn wsX2_statesAt (wsV RX2 53 RX2 yX2_stateAt wsX2_stateAt) := goodIn_app (goodIn_of _ (by decide +kernel)) ggX2_statesAt_X2_stateAt
set_option maxRecDepth 20000 in
theorem ggX2_statesAt_X2_distanceOf : GoodIn wsX2_statesAt wsX2_distanceOf := goodIn_r _ [11, 12, 13, 14, 15, 16, 17] (by decide +kernel) (by decide +kernel)
set_option maxRecDepth 20000 in
theorem gX2_statesAt_X2_distanceOf : GoodIn wsX2_statesAt (wsV RX2 60 RX2 yX2_distanceOf wsX2_distanceOf) := goodIn_app (goodIn_of _ (by decide +kernel)) ggX2_statesAt_X2_distanceOf
theorem dX2_statesAt_0 : decode cX2_statesAt 0 = .ok (.iconst 0, 1) := by decide +kernel
theorem dX2_statesAt_1 : decode cX2_statesAt 1 = .ok (.istore_n 2, 1) := by decide +kernel
theorem dX2_statesAt_2 : decode cX2_statesAt 2 = .ok (.iconst 0, 1) := by decide +kernel
theorem dX2_statesAt_3 : decode cX2_statesAt 3 = .ok (.istore_n 3, 1) := by decide +kernel
theorem dX2_statesAt_4 : decode cX2_statesAt 4 = .ok (.iload_n 3, 1) := by decide +kernel
theorem dX2_statesAt_5 : decode cX2_statesAt 5 = .ok (.aload_n 0, 1) := by decide +kernel
theorem dX2_statesAt_6 : decode cX2_statesAt 6 = .ok (.getfield 28, 3) := by decide +kernel
theorem dX2_statesAt_9 : decode cX2_statesAt 9 = .ok (.if_icmp .ge 25, 3) := by decide +kernel
theorem dX2_statesAt_12 : decode cX2_statesAt 12 = .ok (.aload_n 0, 1) := by decide +kernel
theorem dX2_statesAt_13 : decode cX2_statesAt 13 = .ok (.aload_n 0, 1) := by decide +kernel
theorem dX2_statesAt_14 : decode cX2_statesAt 14 = .ok (.iload_n 3, 1) := by decide +kernel
theorem dX2_statesAt_15 : decode cX2_statesAt 15 = .ok (.invokevirtual 53, 3) := by decide +kernel
theorem dX2_statesAt_18 : decode cX2_statesAt 18 = .ok (.invokevirtual 60, 3) := by decide +kernel
theorem dX2_statesAt_21 : decode cX2_statesAt 21 = .ok (.iload_n 1, 1) := by decide +kernel
theorem dX2_statesAt_22 : decode cX2_statesAt 22 = .ok (.if_icmp .ne 6, 3) := by decide +kernel
theorem dX2_statesAt_25 : decode cX2_statesAt 25 = .ok (.iinc 2 1, 3) := by decide +kernel
theorem dX2_statesAt_28 : decode cX2_statesAt 28 = .ok (.iinc 3 1, 3) := by decide +kernel
theorem dX2_statesAt_31 : decode cX2_statesAt 31 = .ok (.goto (-27), 3) := by decide +kernel
theorem dX2_statesAt_34 : decode cX2_statesAt 34 = .ok (.iload_n 2, 1) := by decide +kernel
theorem dX2_statesAt_35 : decode cX2_statesAt 35 = .ok (.ireturn, 1) := by decide +kernel
set_option maxRecDepth 20000 in
theorem ggX2_greatestDistance_X2_stateAt : GoodIn wsX2_greatestDistance wsX2_stateAt := goodIn_r _ [6, 1, 7, 13, 14, 15, 16, 17] (by decide +kernel) (by decide +kernel)
set_option maxRecDepth 20000 in
theorem gX2_greatestDistance_X2_stateAt : GoodIn wsX2_greatestDistance (wsV RX2 53 RX2 yX2_stateAt wsX2_stateAt) := goodIn_app (goodIn_of _ (by decide +kernel)) ggX2_greatestDistance_X2_stateAt
set_option maxRecDepth 20000 in
theorem ggX2_greatestDistance_X2_distanceOf : GoodIn wsX2_greatestDistance wsX2_distanceOf := goodIn_r _ [11, 12, 13, 14, 15, 16, 17] (by decide +kernel) (by decide +kernel)
set_option maxRecDepth 20000 in
theorem gX2_greatestDistance_X2_distanceOf : GoodIn wsX2_greatestDistance (wsV RX2 60 RX2 yX2_distanceOf wsX2_distanceOf) := goodIn_app (goodIn_of _ (by decide +kernel)) ggX2_greatestDistance_X2_distanceOf
theorem dX2_greatestDistance_0 : decode cX2_greatestDistance 0 = .ok (.aload_n 0, 1) := by decide +kernel
theorem dX2_greatestDistance_1 : decode cX2_greatestDistance 1 = .ok (.aload_n 0, 1) := by decide +kernel
theorem dX2_greatestDistance_2 : decode cX2_greatestDistance 2 = .ok (.aload_n 0, 1) := by decide +kernel
theorem dX2_greatestDistance_3 : decode cX2_greatestDistance 3 = .ok (.getfield 28, 3) := by decide +kernel
theorem dX2_greatestDistance_6 : decode cX2_greatestDistance 6 = .ok (.iconst 1, 1) := by decide +kernel
theorem dX2_greatestDistance_7 : decode cX2_greatestDistance 7 = .ok (.isub, 1) := by decide +kernel
theorem dX2_greatestDistance_8 : decode cX2_greatestDistance 8 = .ok (.invokevirtual 53, 3) := by decide +kernel
theorem dX2_greatestDistance_11 : decode cX2_greatestDistance 11 = .ok (.invokevirtual 60, 3) := by decide +kernel
theorem dX2_greatestDistance_14 : decode cX2_greatestDistance 14 = .ok (.ireturn, 1) := by decide +kernel
theorem dJ6_bitCount_0f7a4_0 : decode cJ6_bitCount_0f7a4 0 = .ok (.iload_n 0, 1) := by decide +kernel
theorem dJ6_bitCount_0f7a4_1 : decode cJ6_bitCount_0f7a4 1 = .ok (.iload_n 0, 1) := by decide +kernel
theorem dJ6_bitCount_0f7a4_2 : decode cJ6_bitCount_0f7a4 2 = .ok (.iconst 1, 1) := by decide +kernel
theorem dJ6_bitCount_0f7a4_3 : decode cJ6_bitCount_0f7a4 3 = .ok (.iushr, 1) := by decide +kernel
theorem dJ6_bitCount_0f7a4_4 : decode cJ6_bitCount_0f7a4 4 = .ok (.ldc_w 265, 3) := by decide +kernel
theorem dJ6_bitCount_0f7a4_7 : decode cJ6_bitCount_0f7a4 7 = .ok (.iand, 1) := by decide +kernel
theorem dJ6_bitCount_0f7a4_8 : decode cJ6_bitCount_0f7a4 8 = .ok (.isub, 1) := by decide +kernel
theorem dJ6_bitCount_0f7a4_9 : decode cJ6_bitCount_0f7a4 9 = .ok (.istore_n 0, 1) := by decide +kernel
theorem dJ6_bitCount_0f7a4_10 : decode cJ6_bitCount_0f7a4 10 = .ok (.iload_n 0, 1) := by decide +kernel
theorem dJ6_bitCount_0f7a4_11 : decode cJ6_bitCount_0f7a4 11 = .ok (.ldc_w 266, 3) := by decide +kernel
theorem dJ6_bitCount_0f7a4_14 : decode cJ6_bitCount_0f7a4 14 = .ok (.iand, 1) := by decide +kernel
theorem dJ6_bitCount_0f7a4_15 : decode cJ6_bitCount_0f7a4 15 = .ok (.iload_n 0, 1) := by decide +kernel
theorem dJ6_bitCount_0f7a4_16 : decode cJ6_bitCount_0f7a4 16 = .ok (.iconst 2, 1) := by decide +kernel
theorem dJ6_bitCount_0f7a4_17 : decode cJ6_bitCount_0f7a4 17 = .ok (.iushr, 1) := by decide +kernel
theorem dJ6_bitCount_0f7a4_18 : decode cJ6_bitCount_0f7a4 18 = .ok (.ldc_w 266, 3) := by decide +kernel
theorem dJ6_bitCount_0f7a4_21 : decode cJ6_bitCount_0f7a4 21 = .ok (.iand, 1) := by decide +kernel
theorem dJ6_bitCount_0f7a4_22 : decode cJ6_bitCount_0f7a4 22 = .ok (.iadd, 1) := by decide +kernel
theorem dJ6_bitCount_0f7a4_23 : decode cJ6_bitCount_0f7a4 23 = .ok (.istore_n 0, 1) := by decide +kernel
theorem dJ6_bitCount_0f7a4_24 : decode cJ6_bitCount_0f7a4 24 = .ok (.iload_n 0, 1) := by decide +kernel
theorem dJ6_bitCount_0f7a4_25 : decode cJ6_bitCount_0f7a4 25 = .ok (.iload_n 0, 1) := by decide +kernel
theorem dJ6_bitCount_0f7a4_26 : decode cJ6_bitCount_0f7a4 26 = .ok (.iconst 4, 1) := by decide +kernel
theorem dJ6_bitCount_0f7a4_27 : decode cJ6_bitCount_0f7a4 27 = .ok (.iushr, 1) := by decide +kernel
theorem dJ6_bitCount_0f7a4_28 : decode cJ6_bitCount_0f7a4 28 = .ok (.iadd, 1) := by decide +kernel
theorem dJ6_bitCount_0f7a4_29 : decode cJ6_bitCount_0f7a4 29 = .ok (.ldc_w 267, 3) := by decide +kernel
theorem dJ6_bitCount_0f7a4_32 : decode cJ6_bitCount_0f7a4 32 = .ok (.iand, 1) := by decide +kernel
theorem dJ6_bitCount_0f7a4_33 : decode cJ6_bitCount_0f7a4 33 = .ok (.istore_n 0, 1) := by decide +kernel
theorem dJ6_bitCount_0f7a4_34 : decode cJ6_bitCount_0f7a4 34 = .ok (.iload_n 0, 1) := by decide +kernel
theorem dJ6_bitCount_0f7a4_35 : decode cJ6_bitCount_0f7a4 35 = .ok (.iload_n 0, 1) := by decide +kernel
theorem dJ6_bitCount_0f7a4_36 : decode cJ6_bitCount_0f7a4 36 = .ok (.bipush 8, 2) := by decide +kernel
theorem dJ6_bitCount_0f7a4_38 : decode cJ6_bitCount_0f7a4 38 = .ok (.iushr, 1) := by decide +kernel
theorem dJ6_bitCount_0f7a4_39 : decode cJ6_bitCount_0f7a4 39 = .ok (.iadd, 1) := by decide +kernel
theorem dJ6_bitCount_0f7a4_40 : decode cJ6_bitCount_0f7a4 40 = .ok (.istore_n 0, 1) := by decide +kernel
theorem dJ6_bitCount_0f7a4_41 : decode cJ6_bitCount_0f7a4 41 = .ok (.iload_n 0, 1) := by decide +kernel
theorem dJ6_bitCount_0f7a4_42 : decode cJ6_bitCount_0f7a4 42 = .ok (.iload_n 0, 1) := by decide +kernel
theorem dJ6_bitCount_0f7a4_43 : decode cJ6_bitCount_0f7a4 43 = .ok (.bipush 16, 2) := by decide +kernel
theorem dJ6_bitCount_0f7a4_45 : decode cJ6_bitCount_0f7a4 45 = .ok (.iushr, 1) := by decide +kernel
theorem dJ6_bitCount_0f7a4_46 : decode cJ6_bitCount_0f7a4 46 = .ok (.iadd, 1) := by decide +kernel
theorem dJ6_bitCount_0f7a4_47 : decode cJ6_bitCount_0f7a4 47 = .ok (.istore_n 0, 1) := by decide +kernel
theorem dJ6_bitCount_0f7a4_48 : decode cJ6_bitCount_0f7a4 48 = .ok (.iload_n 0, 1) := by decide +kernel
theorem dJ6_bitCount_0f7a4_49 : decode cJ6_bitCount_0f7a4 49 = .ok (.bipush 63, 2) := by decide +kernel
theorem dJ6_bitCount_0f7a4_51 : decode cJ6_bitCount_0f7a4 51 = .ok (.iand, 1) := by decide +kernel
theorem dJ6_bitCount_0f7a4_52 : decode cJ6_bitCount_0f7a4 52 = .ok (.ireturn, 1) := by decide +kernel
theorem dJ9_max_7cf53_0 : decode cJ9_max_7cf53 0 = .ok (.iload_n 0, 1) := by decide +kernel
theorem dJ9_max_7cf53_1 : decode cJ9_max_7cf53 1 = .ok (.iload_n 1, 1) := by decide +kernel
theorem dJ9_max_7cf53_2 : decode cJ9_max_7cf53 2 = .ok (.if_icmp .lt 7, 3) := by decide +kernel
theorem dJ9_max_7cf53_5 : decode cJ9_max_7cf53 5 = .ok (.iload_n 0, 1) := by decide +kernel
theorem dJ9_max_7cf53_6 : decode cJ9_max_7cf53 6 = .ok (.goto 4, 3) := by decide +kernel
theorem dJ9_max_7cf53_9 : decode cJ9_max_7cf53 9 = .ok (.iload_n 1, 1) := by decide +kernel
theorem dJ9_max_7cf53_10 : decode cJ9_max_7cf53 10 = .ok (.ireturn, 1) := by decide +kernel
theorem dJ9_min_7cf53_0 : decode cJ9_min_7cf53 0 = .ok (.iload_n 0, 1) := by decide +kernel
theorem dJ9_min_7cf53_1 : decode cJ9_min_7cf53 1 = .ok (.iload_n 1, 1) := by decide +kernel
theorem dJ9_min_7cf53_2 : decode cJ9_min_7cf53 2 = .ok (.if_icmp .gt 7, 3) := by decide +kernel
theorem dJ9_min_7cf53_5 : decode cJ9_min_7cf53 5 = .ok (.iload_n 0, 1) := by decide +kernel
theorem dJ9_min_7cf53_6 : decode cJ9_min_7cf53 6 = .ok (.goto 4, 3) := by decide +kernel
theorem dJ9_min_7cf53_9 : decode cJ9_min_7cf53 9 = .ok (.iload_n 1, 1) := by decide +kernel
theorem dJ9_min_7cf53_10 : decode cJ9_min_7cf53 10 = .ok (.ireturn, 1) := by decide +kernel
theorem dJ7_fill_53178_0 : decode cJ7_fill_53178 0 = .ok (.iconst 0, 1) := by decide +kernel
theorem dJ7_fill_53178_1 : decode cJ7_fill_53178 1 = .ok (.istore_n 2, 1) := by decide +kernel
theorem dJ7_fill_53178_2 : decode cJ7_fill_53178 2 = .ok (.aload_n 0, 1) := by decide +kernel
theorem dJ7_fill_53178_3 : decode cJ7_fill_53178 3 = .ok (.arraylength, 1) := by decide +kernel
theorem dJ7_fill_53178_4 : decode cJ7_fill_53178 4 = .ok (.istore_n 3, 1) := by decide +kernel
theorem dJ7_fill_53178_5 : decode cJ7_fill_53178 5 = .ok (.iload_n 2, 1) := by decide +kernel
theorem dJ7_fill_53178_6 : decode cJ7_fill_53178 6 = .ok (.iload_n 3, 1) := by decide +kernel
theorem dJ7_fill_53178_7 : decode cJ7_fill_53178 7 = .ok (.if_icmp .ge 13, 3) := by decide +kernel
theorem dJ7_fill_53178_10 : decode cJ7_fill_53178 10 = .ok (.aload_n 0, 1) := by decide +kernel
theorem dJ7_fill_53178_11 : decode cJ7_fill_53178 11 = .ok (.iload_n 2, 1) := by decide +kernel
theorem dJ7_fill_53178_12 : decode cJ7_fill_53178 12 = .ok (.iload_n 1, 1) := by decide +kernel
theorem dJ7_fill_53178_13 : decode cJ7_fill_53178 13 = .ok (.iastore, 1) := by decide +kernel
theorem dJ7_fill_53178_14 : decode cJ7_fill_53178 14 = .ok (.iinc 2 1, 3) := by decide +kernel
theorem dJ7_fill_53178_17 : decode cJ7_fill_53178 17 = .ok (.goto (-12), 3) := by decide +kernel
theorem dJ7_fill_53178_20 : decode cJ7_fill_53178 20 = .ok (.return_, 1) := by decide +kernel
