theorem dX1_init_0 : decode cX1_init 0 = .ok (.aload_n 0, 1) := by decide +kernel
theorem dX1_init_1 : decode cX1_init 1 = .ok (.invokespecial 1, 3) := by decide +kernel
theorem dX1_init_4 : decode cX1_init 4 = .ok (.aload_n 0, 1) := by decide +kernel
theorem dX1_init_5 : decode cX1_init 5 = .ok (.iconst 0, 1) := by decide +kernel
theorem dX1_init_6 : decode cX1_init 6 = .ok (.putfield 7, 3) := by decide +kernel
theorem dX1_init_9 : decode cX1_init 9 = .ok (.aload_n 0, 1) := by decide +kernel
theorem dX1_init_10 : decode cX1_init 10 = .ok (.iconst 0, 1) := by decide +kernel
theorem dX1_init_11 : decode cX1_init 11 = .ok (.putfield 13, 3) := by decide +kernel
theorem dX1_init_14 : decode cX1_init 14 = .ok (.aload_n 0, 1) := by decide +kernel
theorem dX1_init_15 : decode cX1_init 15 = .ok (.iconst 0, 1) := by decide +kernel
theorem dX1_init_16 : decode cX1_init 16 = .ok (.putfield 16, 3) := by decide +kernel
theorem dX1_init_19 : decode cX1_init 19 = .ok (.aload_n 0, 1) := by decide +kernel
theorem dX1_init_20 : decode cX1_init 20 = .ok (.iconst 0, 1) := by decide +kernel
theorem dX1_init_21 : decode cX1_init 21 = .ok (.putfield 20, 3) := by decide +kernel
theorem dX1_init_24 : decode cX1_init 24 = .ok (.aload_n 0, 1) := by decide +kernel
theorem dX1_init_25 : decode cX1_init 25 = .ok (.iconst 0, 1) := by decide +kernel
theorem dX1_init_26 : decode cX1_init 26 = .ok (.putfield 23, 3) := by decide +kernel
theorem dX1_init_29 : decode cX1_init 29 = .ok (.aload_n 0, 1) := by decide +kernel
theorem dX1_init_30 : decode cX1_init 30 = .ok (.iconst 0, 1) := by decide +kernel
theorem dX1_init_31 : decode cX1_init 31 = .ok (.putfield 26, 3) := by decide +kernel
theorem dX1_init_34 : decode cX1_init 34 = .ok (.aload_n 0, 1) := by decide +kernel
theorem dX1_init_35 : decode cX1_init 35 = .ok (.aload_n 1, 1) := by decide +kernel
theorem dX1_init_36 : decode cX1_init 36 = .ok (.putfield 29, 3) := by decide +kernel
theorem dX1_init_39 : decode cX1_init 39 = .ok (.aload_n 0, 1) := by decide +kernel
theorem dX1_init_40 : decode cX1_init 40 = .ok (.iload_n 2, 1) := by decide +kernel
theorem dX1_init_41 : decode cX1_init 41 = .ok (.putfield 33, 3) := by decide +kernel
theorem dX1_init_44 : decode cX1_init 44 = .ok (.return_, 1) := by decide +kernel
set_option maxRecDepth 20000 in
theorem ggX1_start_X1_forgetPlace : GoodIn wsX1_start wsX1_forgetPlace := goodIn_r _ [7, 8, 9, 10, 11, 12, 13, 14, 15, 16, 17, 18, 19] (by decide +kernel) (by decide +kernel)
set_option maxRecDepth 20000 in
theorem gX1_start_X1_forgetPlace : GoodIn wsX1_start (wsV RX1 36 RX1 yX1_forgetPlace wsX1_forgetPlace) := goodIn_app (goodIn_of _ (by decide +kernel)) ggX1_start_X1_forgetPlace
theorem dX1_start_0 : decode cX1_start 0 = .ok (.aload_n 0, 1) := by decide +kernel
theorem dX1_start_1 : decode cX1_start 1 = .ok (.iconst 0, 1) := by decide +kernel
theorem dX1_start_2 : decode cX1_start 2 = .ok (.putfield 7, 3) := by decide +kernel
theorem dX1_start_5 : decode cX1_start 5 = .ok (.aload_n 0, 1) := by decide +kernel
theorem dX1_start_6 : decode cX1_start 6 = .ok (.iconst 0, 1) := by decide +kernel
theorem dX1_start_7 : decode cX1_start 7 = .ok (.putfield 23, 3) := by decide +kernel
theorem dX1_start_10 : decode cX1_start 10 = .ok (.aload_n 0, 1) := by decide +kernel
theorem dX1_start_11 : decode cX1_start 11 = .ok (.invokevirtual 36, 3) := by decide +kernel
theorem dX1_start_14 : decode cX1_start 14 = .ok (.return_, 1) := by decide +kernel
theorem dX1_turnAhead_0 : decode cX1_turnAhead 0 = .ok (.aload_n 0, 1) := by decide +kernel
theorem dX1_turnAhead_1 : decode cX1_turnAhead 1 = .ok (.dup, 1) := by decide +kernel
theorem dX1_turnAhead_2 : decode cX1_turnAhead 2 = .ok (.getfield 23, 3) := by decide +kernel
theorem dX1_turnAhead_5 : decode cX1_turnAhead 5 = .ok (.iload_n 1, 1) := by decide +kernel
theorem dX1_turnAhead_6 : decode cX1_turnAhead 6 = .ok (.ixor, 1) := by decide +kernel
theorem dX1_turnAhead_7 : decode cX1_turnAhead 7 = .ok (.putfield 23, 3) := by decide +kernel
theorem dX1_turnAhead_10 : decode cX1_turnAhead 10 = .ok (.return_, 1) := by decide +kernel
theorem dX1_arrive_0 : decode cX1_arrive 0 = .ok (.aload_n 0, 1) := by decide +kernel
theorem dX1_arrive_1 : decode cX1_arrive 1 = .ok (.aload_n 0, 1) := by decide +kernel
theorem dX1_arrive_2 : decode cX1_arrive 2 = .ok (.getfield 16, 3) := by decide +kernel
theorem dX1_arrive_5 : decode cX1_arrive 5 = .ok (.ifCond .ne 9, 3) := by decide +kernel
theorem dX1_arrive_8 : decode cX1_arrive 8 = .ok (.iload_n 1, 1) := by decide +kernel
theorem dX1_arrive_9 : decode cX1_arrive 9 = .ok (.iconst 1, 1) := by decide +kernel
theorem dX1_arrive_10 : decode cX1_arrive 10 = .ok (.iand, 1) := by decide +kernel
theorem dX1_arrive_11 : decode cX1_arrive 11 = .ok (.ifCond .eq 7, 3) := by decide +kernel
theorem dX1_arrive_14 : decode cX1_arrive 14 = .ok (.iconst 1, 1) := by decide +kernel
theorem dX1_arrive_15 : decode cX1_arrive 15 = .ok (.goto 4, 3) := by decide +kernel
theorem dX1_arrive_18 : decode cX1_arrive 18 = .ok (.iconst 0, 1) := by decide +kernel
theorem dX1_arrive_19 : decode cX1_arrive 19 = .ok (.putfield 16, 3) := by decide +kernel
theorem dX1_arrive_22 : decode cX1_arrive 22 = .ok (.aload_n 0, 1) := by decide +kernel
theorem dX1_arrive_23 : decode cX1_arrive 23 = .ok (.aload_n 0, 1) := by decide +kernel
theorem dX1_arrive_24 : decode cX1_arrive 24 = .ok (.getfield 20, 3) := by decide +kernel
theorem dX1_arrive_27 : decode cX1_arrive 27 = .ok (.ifCond .ne 9, 3) := by decide +kernel
theorem dX1_arrive_30 : decode cX1_arrive 30 = .ok (.iload_n 1, 1) := by decide +kernel
theorem dX1_arrive_31 : decode cX1_arrive 31 = .ok (.iconst 2, 1) := by decide +kernel
theorem dX1_arrive_32 : decode cX1_arrive 32 = .ok (.iand, 1) := by decide +kernel
theorem dX1_arrive_33 : decode cX1_arrive 33 = .ok (.ifCond .eq 7, 3) := by decide +kernel
theorem dX1_arrive_36 : decode cX1_arrive 36 = .ok (.iconst 1, 1) := by decide +kernel
theorem dX1_arrive_37 : decode cX1_arrive 37 = .ok (.goto 4, 3) := by decide +kernel
theorem dX1_arrive_40 : decode cX1_arrive 40 = .ok (.iconst 0, 1) := by decide +kernel
theorem dX1_arrive_41 : decode cX1_arrive 41 = .ok (.putfield 20, 3) := by decide +kernel
theorem dX1_arrive_44 : decode cX1_arrive 44 = .ok (.iload_n 1, 1) := by decide +kernel
theorem dX1_arrive_45 : decode cX1_arrive 45 = .ok (.iconst 4, 1) := by decide +kernel
theorem dX1_arrive_46 : decode cX1_arrive 46 = .ok (.iand, 1) := by decide +kernel
theorem dX1_arrive_47 : decode cX1_arrive 47 = .ok (.ifCond .eq 13, 3) := by decide +kernel
theorem dX1_arrive_50 : decode cX1_arrive 50 = .ok (.aload_n 0, 1) := by decide +kernel
theorem dX1_arrive_51 : decode cX1_arrive 51 = .ok (.dup, 1) := by decide +kernel
theorem dX1_arrive_52 : decode cX1_arrive 52 = .ok (.getfield 13, 3) := by decide +kernel
theorem dX1_arrive_55 : decode cX1_arrive 55 = .ok (.iconst 1, 1) := by decide +kernel
theorem dX1_arrive_56 : decode cX1_arrive 56 = .ok (.iadd, 1) := by decide +kernel
theorem dX1_arrive_57 : decode cX1_arrive 57 = .ok (.putfield 13, 3) := by decide +kernel
theorem dX1_arrive_60 : decode cX1_arrive 60 = .ok (.iload_n 1, 1) := by decide +kernel
theorem dX1_arrive_61 : decode cX1_arrive 61 = .ok (.bipush 8, 2) := by decide +kernel
theorem dX1_arrive_63 : decode cX1_arrive 63 = .ok (.iand, 1) := by decide +kernel
theorem dX1_arrive_64 : decode cX1_arrive 64 = .ok (.ifCond .eq 13, 3) := by decide +kernel
theorem dX1_arrive_67 : decode cX1_arrive 67 = .ok (.aload_n 0, 1) := by decide +kernel
theorem dX1_arrive_68 : decode cX1_arrive 68 = .ok (.dup, 1) := by decide +kernel
theorem dX1_arrive_69 : decode cX1_arrive 69 = .ok (.getfield 13, 3) := by decide +kernel
theorem dX1_arrive_72 : decode cX1_arrive 72 = .ok (.iconst 1, 1) := by decide +kernel
theorem dX1_arrive_73 : decode cX1_arrive 73 = .ok (.isub, 1) := by decide +kernel
theorem dX1_arrive_74 : decode cX1_arrive 74 = .ok (.putfield 13, 3) := by decide +kernel
theorem dX1_arrive_77 : decode cX1_arrive 77 = .ok (.aload_n 0, 1) := by decide +kernel
theorem dX1_arrive_78 : decode cX1_arrive 78 = .ok (.dup, 1) := by decide +kernel
theorem dX1_arrive_79 : decode cX1_arrive 79 = .ok (.getfield 26, 3) := by decide +kernel
theorem dX1_arrive_82 : decode cX1_arrive 82 = .ok (.iload_n 1, 1) := by decide +kernel
theorem dX1_arrive_83 : decode cX1_arrive 83 = .ok (.bipush 48, 2) := by decide +kernel
theorem dX1_arrive_85 : decode cX1_arrive 85 = .ok (.iand, 1) := by decide +kernel
theorem dX1_arrive_86 : decode cX1_arrive 86 = .ok (.ixor, 1) := by decide +kernel
theorem dX1_arrive_87 : decode cX1_arrive 87 = .ok (.putfield 26, 3) := by decide +kernel
theorem dX1_arrive_90 : decode cX1_arrive 90 = .ok (.return_, 1) := by decide +kernel
set_option maxRecDepth 20000 in
theorem ggX1_depart_X1_forgetPlace : GoodIn wsX1_depart wsX1_forgetPlace := goodIn_r _ [9, 2, 10, 11, 4, 12, 13, 14, 15, 16, 17, 18, 19] (by decide +kernel) (by decide +kernel)
set_option maxRecDepth 20000 in
theorem gX1_depart_X1_forgetPlace : GoodIn wsX1_depart (wsV RX1 36 RX1 yX1_forgetPlace wsX1_forgetPlace) := goodIn_app (goodIn_of _ (by decide +kernel)) ggX1_depart_X1_forgetPlace
theorem dX1_depart_0 : decode cX1_depart 0 = .ok (.aload_n 0, 1) := by decide +kernel
theorem dX1_depart_1 : decode cX1_depart 1 = .ok (.dup, 1) := by decide +kernel
theorem dX1_depart_2 : decode cX1_depart 2 = .ok (.getfield 7, 3) := by decide +kernel
theorem dX1_depart_5 : decode cX1_depart 5 = .ok (.aload_n 0, 1) := by decide +kernel
theorem dX1_depart_6 : decode cX1_depart 6 = .ok (.getfield 13, 3) := by decide +kernel
theorem dX1_depart_9 : decode cX1_depart 9 = .ok (.iadd, 1) := by decide +kernel
theorem dX1_depart_10 : decode cX1_depart 10 = .ok (.putfield 7, 3) := by decide +kernel
theorem dX1_depart_13 : decode cX1_depart 13 = .ok (.aload_n 0, 1) := by decide +kernel
theorem dX1_depart_14 : decode cX1_depart 14 = .ok (.dup, 1) := by decide +kernel
theorem dX1_depart_15 : decode cX1_depart 15 = .ok (.getfield 23, 3) := by decide +kernel
theorem dX1_depart_18 : decode cX1_depart 18 = .ok (.aload_n 0, 1) := by decide +kernel
theorem dX1_depart_19 : decode cX1_depart 19 = .ok (.getfield 26, 3) := by decide +kernel
theorem dX1_depart_22 : decode cX1_depart 22 = .ok (.ixor, 1) := by decide +kernel
theorem dX1_depart_23 : decode cX1_depart 23 = .ok (.putfield 23, 3) := by decide +kernel
theorem dX1_depart_26 : decode cX1_depart 26 = .ok (.aload_n 0, 1) := by decide +kernel
theorem dX1_depart_27 : decode cX1_depart 27 = .ok (.invokevirtual 36, 3) := by decide +kernel
theorem dX1_depart_30 : decode cX1_depart 30 = .ok (.return_, 1) := by decide +kernel
theorem dX1_forgetPlace_0 : decode cX1_forgetPlace 0 = .ok (.aload_n 0, 1) := by decide +kernel
theorem dX1_forgetPlace_1 : decode cX1_forgetPlace 1 = .ok (.iconst 0, 1) := by decide +kernel
theorem dX1_forgetPlace_2 : decode cX1_forgetPlace 2 = .ok (.putfield 13, 3) := by decide +kernel
theorem dX1_forgetPlace_5 : decode cX1_forgetPlace 5 = .ok (.aload_n 0, 1) := by decide +kernel
theorem dX1_forgetPlace_6 : decode cX1_forgetPlace 6 = .ok (.iconst 0, 1) := by decide +kernel
theorem dX1_forgetPlace_7 : decode cX1_forgetPlace 7 = .ok (.putfield 16, 3) := by decide +kernel
theorem dX1_forgetPlace_10 : decode cX1_forgetPlace 10 = .ok (.aload_n 0, 1) := by decide +kernel
theorem dX1_forgetPlace_11 : decode cX1_forgetPlace 11 = .ok (.iconst 0, 1) := by decide +kernel
theorem dX1_forgetPlace_12 : decode cX1_forgetPlace 12 = .ok (.putfield 20, 3) := by decide +kernel
theorem dX1_forgetPlace_15 : decode cX1_forgetPlace 15 = .ok (.aload_n 0, 1) := by decide +kernel
theorem dX1_forgetPlace_16 : decode cX1_forgetPlace 16 = .ok (.iconst 0, 1) := by decide +kernel
theorem dX1_forgetPlace_17 : decode cX1_forgetPlace 17 = .ok (.putfield 26, 3) := by decide +kernel
theorem dX1_forgetPlace_20 : decode cX1_forgetPlace 20 = .ok (.return_, 1) := by decide +kernel
set_option maxRecDepth 20000 in
theorem ggX1_placeHere_X3_placeOnMark : GoodIn wsX1_placeHere wsX3_placeOnMark := goodIn_r _ [8, 9, 37, 38, 39, 40, 41, 42, 43, 44, 45, 46, 47, 48, 49] (by decide +kernel) (by decide +kernel)
set_option maxRecDepth 20000 in
theorem gX1_placeHere_X3_placeOnMark : GoodIn wsX1_placeHere (wsV RX1 41 RX3 yX3_placeOnMark wsX3_placeOnMark) := goodIn_app (goodIn_of _ (by decide +kernel)) ggX1_placeHere_X3_placeOnMark
set_option maxRecDepth 20000 in
theorem ggX1_placeHere_X3_placeOnSegment : GoodIn wsX1_placeHere wsX3_placeOnSegment := goodIn_r _ [13, 9, 37, 38, 39, 40, 41, 42, 43, 44, 45, 46, 47, 48, 49] (by decide +kernel) (by decide +kernel)
set_option maxRecDepth 20000 in
theorem gX1_placeHere_X3_placeOnSegment : GoodIn wsX1_placeHere (wsV RX1 47 RX3 yX3_placeOnSegment wsX3_placeOnSegment) := goodIn_app (goodIn_of _ (by decide +kernel)) ggX1_placeHere_X3_placeOnSegment
set_option maxRecDepth 20000 in
theorem ggX1_placeHere_X1_placeAhead : GoodIn wsX1_placeHere wsX1_placeAhead := goodIn_r _ [18, 19, 2, 10, 11, 12, 7, 13, 9, 20, 21, 22, 17, 23, 24, 25, 26, 27, 28, 29, 30, 31, 32, 33, 34, 35, 36, 37, 38, 39, 40, 41, 42, 43, 44, 45, 46, 47, 48, 49] (by decide +kernel) (by decide +kernel)
set_option maxRecDepth 20000 in
theorem gX1_placeHere_X1_placeAhead : GoodIn wsX1_placeHere (wsV RX1 50 RX1 yX1_placeAhead wsX1_placeAhead) := goodIn_app (goodIn_of _ (by decide +kernel)) ggX1_placeHere_X1_placeAhead
theorem dX1_placeHere_0 : decode cX1_placeHere 0 = .ok (.aload_n 0, 1) := by decide +kernel
theorem dX1_placeHere_1 : decode cX1_placeHere 1 = .ok (.getfield 20, 3) := by decide +kernel
theorem dX1_placeHere_4 : decode cX1_placeHere 4 = .ok (.ifCond .eq 11, 3) := by decide +kernel
theorem dX1_placeHere_7 : decode cX1_placeHere 7 = .ok (.aload_n 0, 1) := by decide +kernel
theorem dX1_placeHere_8 : decode cX1_placeHere 8 = .ok (.getfield 29, 3) := by decide +kernel
theorem dX1_placeHere_11 : decode cX1_placeHere 11 = .ok (.invokevirtual 41, 3) := by decide +kernel
theorem dX1_placeHere_14 : decode cX1_placeHere 14 = .ok (.ireturn, 1) := by decide +kernel
theorem dX1_placeHere_15 : decode cX1_placeHere 15 = .ok (.aload_n 0, 1) := by decide +kernel
theorem dX1_placeHere_16 : decode cX1_placeHere 16 = .ok (.getfield 16, 3) := by decide +kernel
theorem dX1_placeHere_19 : decode cX1_placeHere 19 = .ok (.ifCond .eq 13, 3) := by decide +kernel
theorem dX1_placeHere_22 : decode cX1_placeHere 22 = .ok (.aload_n 0, 1) := by decide +kernel
theorem dX1_placeHere_23 : decode cX1_placeHere 23 = .ok (.getfield 29, 3) := by decide +kernel
theorem dX1_placeHere_26 : decode cX1_placeHere 26 = .ok (.invokevirtual 47, 3) := by decide +kernel
theorem dX1_placeHere_29 : decode cX1_placeHere 29 = .ok (.goto 7, 3) := by decide +kernel
theorem dX1_placeHere_32 : decode cX1_placeHere 32 = .ok (.aload_n 0, 1) := by decide +kernel
theorem dX1_placeHere_33 : decode cX1_placeHere 33 = .ok (.invokevirtual 50, 3) := by decide +kernel
theorem dX1_placeHere_36 : decode cX1_placeHere 36 = .ok (.ireturn, 1) := by decide +kernel
set_option maxRecDepth 20000 in
theorem ggX1_placeAhead_X3_placeOnSegment : GoodIn wsX1_placeAhead wsX3_placeOnSegment := goodIn_r _ [7, 8, 27, 28, 29, 30, 31, 32, 33, 34, 35, 36, 37, 38, 39] (by decide +kernel) (by decide +kernel)
set_option maxRecDepth 20000 in
theorem gX1_placeAhead_X3_placeOnSegment : GoodIn wsX1_placeAhead (wsV RX1 47 RX3 yX3_placeOnSegment wsX3_placeOnSegment) := goodIn_app (goodIn_of _ (by decide +kernel)) ggX1_placeAhead_X3_placeOnSegment
set_option maxRecDepth 20000 in
theorem ggX1_placeAhead_X1_placeBeside : GoodIn wsX1_placeAhead wsX1_placeBeside := goodIn_r _ [13, 2, 14, 15, 16, 17, 6, 18, 8, 19, 20, 21, 22, 23, 24, 25, 26, 27, 28, 29, 30, 31, 32, 33, 34, 35, 36, 37, 38, 39] (by decide +kernel) (by decide +kernel)
set_option maxRecDepth 20000 in
theorem gX1_placeAhead_X1_placeBeside : GoodIn wsX1_placeAhead (wsV RX1 53 RX1 yX1_placeBeside wsX1_placeBeside) := goodIn_app (goodIn_of _ (by decide +kernel)) ggX1_placeAhead_X1_placeBeside
theorem dX1_placeAhead_0 : decode cX1_placeAhead 0 = .ok (.aload_n 0, 1) := by decide +kernel
theorem dX1_placeAhead_1 : decode cX1_placeAhead 1 = .ok (.getfield 7, 3) := by decide +kernel
theorem dX1_placeAhead_4 : decode cX1_placeAhead 4 = .ok (.ifCond .le 13, 3) := by decide +kernel
theorem dX1_placeAhead_7 : decode cX1_placeAhead 7 = .ok (.aload_n 0, 1) := by decide +kernel
theorem dX1_placeAhead_8 : decode cX1_placeAhead 8 = .ok (.getfield 29, 3) := by decide +kernel
theorem dX1_placeAhead_11 : decode cX1_placeAhead 11 = .ok (.invokevirtual 47, 3) := by decide +kernel
theorem dX1_placeAhead_14 : decode cX1_placeAhead 14 = .ok (.goto 9, 3) := by decide +kernel
theorem dX1_placeAhead_17 : decode cX1_placeAhead 17 = .ok (.aload_n 0, 1) := by decide +kernel
theorem dX1_placeAhead_18 : decode cX1_placeAhead 18 = .ok (.bipush 16, 2) := by decide +kernel
theorem dX1_placeAhead_20 : decode cX1_placeAhead 20 = .ok (.invokevirtual 53, 3) := by decide +kernel
theorem dX1_placeAhead_23 : decode cX1_placeAhead 23 = .ok (.ireturn, 1) := by decide +kernel
set_option maxRecDepth 20000 in
theorem ggX1_placeBeside_X3_placeOffSegments : GoodIn wsX1_placeBeside wsX3_placeOffSegments := goodIn_r _ [7, 8, 17, 18, 19, 20, 21, 22, 23, 24, 25, 26, 27, 28, 29] (by decide +kernel) (by decide +kernel)
set_option maxRecDepth 20000 in
theorem gX1_placeBeside_X3_placeOffSegments : GoodIn wsX1_placeBeside (wsV RX1 57 RX3 yX3_placeOffSegments wsX3_placeOffSegments) := goodIn_app (goodIn_of _ (by decide +kernel)) ggX1_placeBeside_X3_placeOffSegments
theorem dX1_placeBeside_0 : decode cX1_placeBeside 0 = .ok (.aload_n 0, 1) := by decide +kernel
theorem dX1_placeBeside_1 : decode cX1_placeBeside 1 = .ok (.getfield 29, 3) := by decide +kernel
theorem dX1_placeBeside_4 : decode cX1_placeBeside 4 = .ok (.aload_n 0, 1) := by decide +kernel
theorem dX1_placeBeside_5 : decode cX1_placeBeside 5 = .ok (.getfield 23, 3) := by decide +kernel
theorem dX1_placeBeside_8 : decode cX1_placeBeside 8 = .ok (.iload_n 1, 1) := by decide +kernel
theorem dX1_placeBeside_9 : decode cX1_placeBeside 9 = .ok (.iand, 1) := by decide +kernel
theorem dX1_placeBeside_10 : decode cX1_placeBeside 10 = .ok (.ifCond .eq 7, 3) := by decide +kernel
theorem dX1_placeBeside_13 : decode cX1_placeBeside 13 = .ok (.iconst 1, 1) := by decide +kernel
theorem dX1_placeBeside_14 : decode cX1_placeBeside 14 = .ok (.goto 4, 3) := by decide +kernel
theorem dX1_placeBeside_17 : decode cX1_placeBeside 17 = .ok (.iconst 0, 1) := by decide +kernel
theorem dX1_placeBeside_18 : decode cX1_placeBeside 18 = .ok (.invokevirtual 57, 3) := by decide +kernel
theorem dX1_placeBeside_21 : decode cX1_placeBeside 21 = .ok (.ireturn, 1) := by decide +kernel
