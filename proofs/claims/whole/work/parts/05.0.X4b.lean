theorem dX4_dimensionInFirst_18 : decode cX4_dimensionInFirst 18 = .ok (.invokestatic 212, 3) := by decide +kernel
theorem dX4_dimensionInFirst_21 : decode cX4_dimensionInFirst 21 = .ok (.invokestatic 212, 3) := by decide +kernel
theorem dX4_dimensionInFirst_24 : decode cX4_dimensionInFirst 24 = .ok (.ireturn, 1) := by decide +kernel
set_option maxRecDepth 20000 in
theorem ggX4_dimensionInSecond_X4_at : GoodIn wsX4_dimensionInSecond wsX4_at := goodIn_r _ [9, 10, 11, 12, 13, 14, 15, 16] (by decide +kernel) (by decide +kernel)
set_option maxRecDepth 20000 in
theorem gX4_dimensionInSecond_X4_at : GoodIn wsX4_dimensionInSecond (wsV RX4 209 RX4 yX4_at wsX4_at) := goodIn_app (goodIn_of _ (by decide +kernel)) ggX4_dimensionInSecond_X4_at
theorem dX4_dimensionInSecond_0 : decode cX4_dimensionInSecond 0 = .ok (.aload_n 0, 1) := by decide +kernel
theorem dX4_dimensionInSecond_1 : decode cX4_dimensionInSecond 1 = .ok (.iconst 0, 1) := by decide +kernel
theorem dX4_dimensionInSecond_2 : decode cX4_dimensionInSecond 2 = .ok (.iload_n 1, 1) := by decide +kernel
theorem dX4_dimensionInSecond_3 : decode cX4_dimensionInSecond 3 = .ok (.invokevirtual 209, 3) := by decide +kernel
theorem dX4_dimensionInSecond_6 : decode cX4_dimensionInSecond 6 = .ok (.aload_n 0, 1) := by decide +kernel
theorem dX4_dimensionInSecond_7 : decode cX4_dimensionInSecond 7 = .ok (.iconst 1, 1) := by decide +kernel
theorem dX4_dimensionInSecond_8 : decode cX4_dimensionInSecond 8 = .ok (.iload_n 1, 1) := by decide +kernel
theorem dX4_dimensionInSecond_9 : decode cX4_dimensionInSecond 9 = .ok (.invokevirtual 209, 3) := by decide +kernel
theorem dX4_dimensionInSecond_12 : decode cX4_dimensionInSecond 12 = .ok (.aload_n 0, 1) := by decide +kernel
theorem dX4_dimensionInSecond_13 : decode cX4_dimensionInSecond 13 = .ok (.iconst 2, 1) := by decide +kernel
theorem dX4_dimensionInSecond_14 : decode cX4_dimensionInSecond 14 = .ok (.iload_n 1, 1) := by decide +kernel
theorem dX4_dimensionInSecond_15 : decode cX4_dimensionInSecond 15 = .ok (.invokevirtual 209, 3) := by decide +kernel
theorem dX4_dimensionInSecond_18 : decode cX4_dimensionInSecond 18 = .ok (.invokestatic 212, 3) := by decide +kernel
theorem dX4_dimensionInSecond_21 : decode cX4_dimensionInSecond 21 = .ok (.invokestatic 212, 3) := by decide +kernel
theorem dX4_dimensionInSecond_24 : decode cX4_dimensionInSecond 24 = .ok (.ireturn, 1) := by decide +kernel
set_option maxRecDepth 20000 in
theorem ggX4_haveCommonPlace_X4_has : GoodIn wsX4_haveCommonPlace wsX4_has := goodIn_r _ [5, 6, 7, 8, 4, 9, 10, 11, 12, 13, 14, 15, 16] (by decide +kernel) (by decide +kernel)
set_option maxRecDepth 20000 in
theorem gX4_haveCommonPlace_X4_has : GoodIn wsX4_haveCommonPlace (wsV RX4 214 RX4 yX4_has wsX4_has) := goodIn_app (goodIn_of _ (by decide +kernel)) ggX4_haveCommonPlace_X4_has
theorem dX4_haveCommonPlace_0 : decode cX4_haveCommonPlace 0 = .ok (.aload_n 0, 1) := by decide +kernel
theorem dX4_haveCommonPlace_1 : decode cX4_haveCommonPlace 1 = .ok (.iconst 0, 1) := by decide +kernel
theorem dX4_haveCommonPlace_2 : decode cX4_haveCommonPlace 2 = .ok (.iconst 0, 1) := by decide +kernel
theorem dX4_haveCommonPlace_3 : decode cX4_haveCommonPlace 3 = .ok (.invokevirtual 214, 3) := by decide +kernel
theorem dX4_haveCommonPlace_6 : decode cX4_haveCommonPlace 6 = .ok (.ifCond .ne 30, 3) := by decide +kernel
theorem dX4_haveCommonPlace_9 : decode cX4_haveCommonPlace 9 = .ok (.aload_n 0, 1) := by decide +kernel
theorem dX4_haveCommonPlace_10 : decode cX4_haveCommonPlace 10 = .ok (.iconst 0, 1) := by decide +kernel
theorem dX4_haveCommonPlace_11 : decode cX4_haveCommonPlace 11 = .ok (.iconst 1, 1) := by decide +kernel
theorem dX4_haveCommonPlace_12 : decode cX4_haveCommonPlace 12 = .ok (.invokevirtual 214, 3) := by decide +kernel
theorem dX4_haveCommonPlace_15 : decode cX4_haveCommonPlace 15 = .ok (.ifCond .ne 21, 3) := by decide +kernel
theorem dX4_haveCommonPlace_18 : decode cX4_haveCommonPlace 18 = .ok (.aload_n 0, 1) := by decide +kernel
theorem dX4_haveCommonPlace_19 : decode cX4_haveCommonPlace 19 = .ok (.iconst 1, 1) := by decide +kernel
theorem dX4_haveCommonPlace_20 : decode cX4_haveCommonPlace 20 = .ok (.iconst 0, 1) := by decide +kernel
theorem dX4_haveCommonPlace_21 : decode cX4_haveCommonPlace 21 = .ok (.invokevirtual 214, 3) := by decide +kernel
theorem dX4_haveCommonPlace_24 : decode cX4_haveCommonPlace 24 = .ok (.ifCond .ne 12, 3) := by decide +kernel
theorem dX4_haveCommonPlace_27 : decode cX4_haveCommonPlace 27 = .ok (.aload_n 0, 1) := by decide +kernel
theorem dX4_haveCommonPlace_28 : decode cX4_haveCommonPlace 28 = .ok (.iconst 1, 1) := by decide +kernel
theorem dX4_haveCommonPlace_29 : decode cX4_haveCommonPlace 29 = .ok (.iconst 1, 1) := by decide +kernel
theorem dX4_haveCommonPlace_30 : decode cX4_haveCommonPlace 30 = .ok (.invokevirtual 214, 3) := by decide +kernel
theorem dX4_haveCommonPlace_33 : decode cX4_haveCommonPlace 33 = .ok (.ifCond .eq 7, 3) := by decide +kernel
theorem dX4_haveCommonPlace_36 : decode cX4_haveCommonPlace 36 = .ok (.iconst 1, 1) := by decide +kernel
theorem dX4_haveCommonPlace_37 : decode cX4_haveCommonPlace 37 = .ok (.goto 4, 3) := by decide +kernel
theorem dX4_haveCommonPlace_40 : decode cX4_haveCommonPlace 40 = .ok (.iconst 0, 1) := by decide +kernel
theorem dX4_haveCommonPlace_41 : decode cX4_haveCommonPlace 41 = .ok (.ireturn, 1) := by decide +kernel
set_option maxRecDepth 20000 in
theorem ggX4_firstLeavesSecond_X4_has : GoodIn wsX4_firstLeavesSecond wsX4_has := goodIn_r _ [5, 6, 7, 8, 4, 9, 10, 11, 12, 13, 14, 15, 16] (by decide +kernel) (by decide +kernel)
set_option maxRecDepth 20000 in
theorem gX4_firstLeavesSecond_X4_has : GoodIn wsX4_firstLeavesSecond (wsV RX4 214 RX4 yX4_has wsX4_has) := goodIn_app (goodIn_of _ (by decide +kernel)) ggX4_firstLeavesSecond_X4_has
theorem dX4_firstLeavesSecond_0 : decode cX4_firstLeavesSecond 0 = .ok (.aload_n 0, 1) := by decide +kernel
theorem dX4_firstLeavesSecond_1 : decode cX4_firstLeavesSecond 1 = .ok (.iconst 0, 1) := by decide +kernel
theorem dX4_firstLeavesSecond_2 : decode cX4_firstLeavesSecond 2 = .ok (.iconst 2, 1) := by decide +kernel
theorem dX4_firstLeavesSecond_3 : decode cX4_firstLeavesSecond 3 = .ok (.invokevirtual 214, 3) := by decide +kernel
theorem dX4_firstLeavesSecond_6 : decode cX4_firstLeavesSecond 6 = .ok (.ifCond .ne 12, 3) := by decide +kernel
theorem dX4_firstLeavesSecond_9 : decode cX4_firstLeavesSecond 9 = .ok (.aload_n 0, 1) := by decide +kernel
theorem dX4_firstLeavesSecond_10 : decode cX4_firstLeavesSecond 10 = .ok (.iconst 1, 1) := by decide +kernel
theorem dX4_firstLeavesSecond_11 : decode cX4_firstLeavesSecond 11 = .ok (.iconst 2, 1) := by decide +kernel
theorem dX4_firstLeavesSecond_12 : decode cX4_firstLeavesSecond 12 = .ok (.invokevirtual 214, 3) := by decide +kernel
theorem dX4_firstLeavesSecond_15 : decode cX4_firstLeavesSecond 15 = .ok (.ifCond .eq 7, 3) := by decide +kernel
theorem dX4_firstLeavesSecond_18 : decode cX4_firstLeavesSecond 18 = .ok (.iconst 1, 1) := by decide +kernel
theorem dX4_firstLeavesSecond_19 : decode cX4_firstLeavesSecond 19 = .ok (.goto 4, 3) := by decide +kernel
theorem dX4_firstLeavesSecond_22 : decode cX4_firstLeavesSecond 22 = .ok (.iconst 0, 1) := by decide +kernel
theorem dX4_firstLeavesSecond_23 : decode cX4_firstLeavesSecond 23 = .ok (.ireturn, 1) := by decide +kernel
set_option maxRecDepth 20000 in
theorem ggX4_secondLeavesFirst_X4_has : GoodIn wsX4_secondLeavesFirst wsX4_has := goodIn_r _ [5, 6, 7, 8, 4, 9, 10, 11, 12, 13, 14, 15, 16] (by decide +kernel) (by decide +kernel)
set_option maxRecDepth 20000 in
theorem gX4_secondLeavesFirst_X4_has : GoodIn wsX4_secondLeavesFirst (wsV RX4 214 RX4 yX4_has wsX4_has) := goodIn_app (goodIn_of _ (by decide +kernel)) ggX4_secondLeavesFirst_X4_has
theorem dX4_secondLeavesFirst_0 : decode cX4_secondLeavesFirst 0 = .ok (.aload_n 0, 1) := by decide +kernel
theorem dX4_secondLeavesFirst_1 : decode cX4_secondLeavesFirst 1 = .ok (.iconst 2, 1) := by decide +kernel
theorem dX4_secondLeavesFirst_2 : decode cX4_secondLeavesFirst 2 = .ok (.iconst 0, 1) := by decide +kernel
theorem dX4_secondLeavesFirst_3 : decode cX4_secondLeavesFirst 3 = .ok (.invokevirtual 214, 3) := by decide +kernel
theorem dX4_secondLeavesFirst_6 : decode cX4_secondLeavesFirst 6 = .ok (.ifCond .ne 12, 3) := by decide +kernel
theorem dX4_secondLeavesFirst_9 : decode cX4_secondLeavesFirst 9 = .ok (.aload_n 0, 1) := by decide +kernel
theorem dX4_secondLeavesFirst_10 : decode cX4_secondLeavesFirst 10 = .ok (.iconst 2, 1) := by decide +kernel
theorem dX4_secondLeavesFirst_11 : decode cX4_secondLeavesFirst 11 = .ok (.iconst 1, 1) := by decide +kernel
theorem dX4_secondLeavesFirst_12 : decode cX4_secondLeavesFirst 12 = .ok (.invokevirtual 214, 3) := by decide +kernel
theorem dX4_secondLeavesFirst_15 : decode cX4_secondLeavesFirst 15 = .ok (.ifCond .eq 7, 3) := by decide +kernel
theorem dX4_secondLeavesFirst_18 : decode cX4_secondLeavesFirst 18 = .ok (.iconst 1, 1) := by decide +kernel
theorem dX4_secondLeavesFirst_19 : decode cX4_secondLeavesFirst 19 = .ok (.goto 4, 3) := by decide +kernel
theorem dX4_secondLeavesFirst_22 : decode cX4_secondLeavesFirst 22 = .ok (.iconst 0, 1) := by decide +kernel
theorem dX4_secondLeavesFirst_23 : decode cX4_secondLeavesFirst 23 = .ok (.ireturn, 1) := by decide +kernel
set_option maxRecDepth 20000 in
theorem ggX4_areEqual_X4_dimensionInFirst : GoodIn wsX4_areEqual wsX4_dimensionInFirst := goodIn_r _ [5, 6, 7, 8, 9, 10, 11, 12, 4, 13, 14, 31, 32, 33, 34, 35, 36] (by decide +kernel) (by decide +kernel)
set_option maxRecDepth 20000 in
theorem gX4_areEqual_X4_dimensionInFirst : GoodIn wsX4_areEqual (wsV RX4 218 RX4 yX4_dimensionInFirst wsX4_dimensionInFirst) := goodIn_app (goodIn_of _ (by decide +kernel)) ggX4_areEqual_X4_dimensionInFirst
set_option maxRecDepth 20000 in
theorem ggX4_areEqual_X4_dimensionInSecond : GoodIn wsX4_areEqual wsX4_dimensionInSecond := goodIn_r _ [18, 6, 7, 8, 9, 10, 11, 12, 4, 13, 14, 31, 32, 33, 34, 35, 36] (by decide +kernel) (by decide +kernel)
set_option maxRecDepth 20000 in
theorem gX4_areEqual_X4_dimensionInSecond : GoodIn wsX4_areEqual (wsV RX4 221 RX4 yX4_dimensionInSecond wsX4_dimensionInSecond) := goodIn_app (goodIn_of _ (by decide +kernel)) ggX4_areEqual_X4_dimensionInSecond
set_option maxRecDepth 20000 in
theorem ggX4_areEqual_X4_has : GoodIn wsX4_areEqual wsX4_has := goodIn_r _ [22, 10, 11, 12, 4, 13, 14, 31, 32, 33, 34, 35, 36] (by decide +kernel) (by decide +kernel)
set_option maxRecDepth 20000 in
theorem gX4_areEqual_X4_has : GoodIn wsX4_areEqual (wsV RX4 214 RX4 yX4_has wsX4_has) := goodIn_app (goodIn_of _ (by decide +kernel)) ggX4_areEqual_X4_has
set_option maxRecDepth 20000 in
theorem ggX4_areEqual_X4_firstLeavesSecond : GoodIn wsX4_areEqual wsX4_firstLeavesSecond := goodIn_r _ [26, 19, 20, 21, 4, 22, 10, 11, 12, 13, 14, 31, 32, 33, 34, 35, 36] (by decide +kernel) (by decide +kernel)
set_option maxRecDepth 20000 in
theorem gX4_areEqual_X4_firstLeavesSecond : GoodIn wsX4_areEqual (wsV RX4 224 RX4 yX4_firstLeavesSecond wsX4_firstLeavesSecond) := goodIn_app (goodIn_of _ (by decide +kernel)) ggX4_areEqual_X4_firstLeavesSecond
set_option maxRecDepth 20000 in
theorem ggX4_areEqual_X4_secondLeavesFirst : GoodIn wsX4_areEqual wsX4_secondLeavesFirst := goodIn_r _ [30, 19, 20, 21, 4, 22, 10, 11, 12, 13, 14, 31, 32, 33, 34, 35, 36] (by decide +kernel) (by decide +kernel)
set_option maxRecDepth 20000 in
theorem gX4_areEqual_X4_secondLeavesFirst : GoodIn wsX4_areEqual (wsV RX4 228 RX4 yX4_secondLeavesFirst wsX4_secondLeavesFirst) := goodIn_app (goodIn_of _ (by decide +kernel)) ggX4_areEqual_X4_secondLeavesFirst
theorem dX4_areEqual_0 : decode cX4_areEqual 0 = .ok (.aload_n 0, 1) := by decide +kernel
theorem dX4_areEqual_1 : decode cX4_areEqual 1 = .ok (.iconst 0, 1) := by decide +kernel
theorem dX4_areEqual_2 : decode cX4_areEqual 2 = .ok (.invokevirtual 218, 3) := by decide +kernel
theorem dX4_areEqual_5 : decode cX4_areEqual 5 = .ok (.iconst (-1), 1) := by decide +kernel
theorem dX4_areEqual_6 : decode cX4_areEqual 6 = .ok (.if_icmp .ne 14, 3) := by decide +kernel
theorem dX4_areEqual_9 : decode cX4_areEqual 9 = .ok (.aload_n 0, 1) := by decide +kernel
theorem dX4_areEqual_10 : decode cX4_areEqual 10 = .ok (.iconst 0, 1) := by decide +kernel
theorem dX4_areEqual_11 : decode cX4_areEqual 11 = .ok (.invokevirtual 221, 3) := by decide +kernel
theorem dX4_areEqual_14 : decode cX4_areEqual 14 = .ok (.iconst (-1), 1) := by decide +kernel
theorem dX4_areEqual_15 : decode cX4_areEqual 15 = .ok (.if_icmp .ne 5, 3) := by decide +kernel
theorem dX4_areEqual_18 : decode cX4_areEqual 18 = .ok (.iconst 1, 1) := by decide +kernel
theorem dX4_areEqual_19 : decode cX4_areEqual 19 = .ok (.ireturn, 1) := by decide +kernel
theorem dX4_areEqual_20 : decode cX4_areEqual 20 = .ok (.aload_n 0, 1) := by decide +kernel
theorem dX4_areEqual_21 : decode cX4_areEqual 21 = .ok (.iconst 0, 1) := by decide +kernel
theorem dX4_areEqual_22 : decode cX4_areEqual 22 = .ok (.iconst 0, 1) := by decide +kernel
theorem dX4_areEqual_23 : decode cX4_areEqual 23 = .ok (.invokevirtual 214, 3) := by decide +kernel
theorem dX4_areEqual_26 : decode cX4_areEqual 26 = .ok (.ifCond .eq 21, 3) := by decide +kernel
theorem dX4_areEqual_29 : decode cX4_areEqual 29 = .ok (.aload_n 0, 1) := by decide +kernel
theorem dX4_areEqual_30 : decode cX4_areEqual 30 = .ok (.invokevirtual 224, 3) := by decide +kernel
theorem dX4_areEqual_33 : decode cX4_areEqual 33 = .ok (.ifCond .ne 14, 3) := by decide +kernel
theorem dX4_areEqual_36 : decode cX4_areEqual 36 = .ok (.aload_n 0, 1) := by decide +kernel
theorem dX4_areEqual_37 : decode cX4_areEqual 37 = .ok (.invokevirtual 228, 3) := by decide +kernel
theorem dX4_areEqual_40 : decode cX4_areEqual 40 = .ok (.ifCond .ne 7, 3) := by decide +kernel
theorem dX4_areEqual_43 : decode cX4_areEqual 43 = .ok (.iconst 1, 1) := by decide +kernel
theorem dX4_areEqual_44 : decode cX4_areEqual 44 = .ok (.goto 4, 3) := by decide +kernel
theorem dX4_areEqual_47 : decode cX4_areEqual 47 = .ok (.iconst 0, 1) := by decide +kernel
theorem dX4_areEqual_48 : decode cX4_areEqual 48 = .ok (.ireturn, 1) := by decide +kernel
set_option maxRecDepth 20000 in
theorem ggX4_doCross_X4_dimensionInFirst : GoodIn wsX4_doCross wsX4_dimensionInFirst := goodIn_r _ [5, 6, 7, 8, 9, 10, 11, 12, 4, 13, 14, 23, 24, 25, 26, 27, 28] (by decide +kernel) (by decide +kernel)
set_option maxRecDepth 20000 in
theorem gX4_doCross_X4_dimensionInFirst : GoodIn wsX4_doCross (wsV RX4 218 RX4 yX4_dimensionInFirst wsX4_dimensionInFirst) := goodIn_app (goodIn_of _ (by decide +kernel)) ggX4_doCross_X4_dimensionInFirst
set_option maxRecDepth 20000 in
theorem ggX4_doCross_X4_dimensionInSecond : GoodIn wsX4_doCross wsX4_dimensionInSecond := goodIn_r _ [18, 6, 7, 8, 9, 10, 11, 12, 4, 13, 14, 23, 24, 25, 26, 27, 28] (by decide +kernel) (by decide +kernel)
set_option maxRecDepth 20000 in
theorem gX4_doCross_X4_dimensionInSecond : GoodIn wsX4_doCross (wsV RX4 221 RX4 yX4_dimensionInSecond wsX4_dimensionInSecond) := goodIn_app (goodIn_of _ (by decide +kernel)) ggX4_doCross_X4_dimensionInSecond
set_option maxRecDepth 20000 in
theorem ggX4_doCross_X4_has : GoodIn wsX4_doCross wsX4_has := goodIn_r _ [22, 10, 11, 12, 4, 13, 14, 23, 24, 25, 26, 27, 28] (by decide +kernel) (by decide +kernel)
set_option maxRecDepth 20000 in
theorem gX4_doCross_X4_has : GoodIn wsX4_doCross (wsV RX4 214 RX4 yX4_has wsX4_has) := goodIn_app (goodIn_of _ (by decide +kernel)) ggX4_doCross_X4_has
set_option maxRecDepth 20000 in
theorem ggX4_doCross_X4_at : GoodIn wsX4_doCross wsX4_at := goodIn_r _ [13, 14, 23, 24, 25, 26, 27, 28] (by decide +kernel) (by decide +kernel)
set_option maxRecDepth 20000 in
theorem gX4_doCross_X4_at : GoodIn wsX4_doCross (wsV RX4 209 RX4 yX4_at wsX4_at) := goodIn_app (goodIn_of _ (by decide +kernel)) ggX4_doCross_X4_at
theorem dX4_doCross_0 : decode cX4_doCross 0 = .ok (.aload_n 0, 1) := by decide +kernel
theorem dX4_doCross_1 : decode cX4_doCross 1 = .ok (.iconst 0, 1) := by decide +kernel
theorem dX4_doCross_2 : decode cX4_doCross 2 = .ok (.invokevirtual 218, 3) := by decide +kernel
theorem dX4_doCross_5 : decode cX4_doCross 5 = .ok (.istore_n 1, 1) := by decide +kernel
theorem dX4_doCross_6 : decode cX4_doCross 6 = .ok (.aload_n 0, 1) := by decide +kernel
theorem dX4_doCross_7 : decode cX4_doCross 7 = .ok (.iconst 0, 1) := by decide +kernel
theorem dX4_doCross_8 : decode cX4_doCross 8 = .ok (.invokevirtual 221, 3) := by decide +kernel
theorem dX4_doCross_11 : decode cX4_doCross 11 = .ok (.istore_n 2, 1) := by decide +kernel
theorem dX4_doCross_12 : decode cX4_doCross 12 = .ok (.iload_n 1, 1) := by decide +kernel
theorem dX4_doCross_13 : decode cX4_doCross 13 = .ok (.iload_n 2, 1) := by decide +kernel
theorem dX4_doCross_14 : decode cX4_doCross 14 = .ok (.if_icmp .ge 27, 3) := by decide +kernel
theorem dX4_doCross_17 : decode cX4_doCross 17 = .ok (.aload_n 0, 1) := by decide +kernel
theorem dX4_doCross_18 : decode cX4_doCross 18 = .ok (.iconst 0, 1) := by decide +kernel
theorem dX4_doCross_19 : decode cX4_doCross 19 = .ok (.iconst 0, 1) := by decide +kernel
theorem dX4_doCross_20 : decode cX4_doCross 20 = .ok (.invokevirtual 214, 3) := by decide +kernel
theorem dX4_doCross_23 : decode cX4_doCross 23 = .ok (.ifCond .eq 16, 3) := by decide +kernel
theorem dX4_doCross_26 : decode cX4_doCross 26 = .ok (.aload_n 0, 1) := by decide +kernel
theorem dX4_doCross_27 : decode cX4_doCross 27 = .ok (.iconst 0, 1) := by decide +kernel
theorem dX4_doCross_28 : decode cX4_doCross 28 = .ok (.iconst 2, 1) := by decide +kernel
theorem dX4_doCross_29 : decode cX4_doCross 29 = .ok (.invokevirtual 214, 3) := by decide +kernel
theorem dX4_doCross_32 : decode cX4_doCross 32 = .ok (.ifCond .eq 7, 3) := by decide +kernel
theorem dX4_doCross_35 : decode cX4_doCross 35 = .ok (.iconst 1, 1) := by decide +kernel
theorem dX4_doCross_36 : decode cX4_doCross 36 = .ok (.goto 4, 3) := by decide +kernel
theorem dX4_doCross_39 : decode cX4_doCross 39 = .ok (.iconst 0, 1) := by decide +kernel
theorem dX4_doCross_40 : decode cX4_doCross 40 = .ok (.ireturn, 1) := by decide +kernel
theorem dX4_doCross_41 : decode cX4_doCross 41 = .ok (.iload_n 1, 1) := by decide +kernel
theorem dX4_doCross_42 : decode cX4_doCross 42 = .ok (.iload_n 2, 1) := by decide +kernel
theorem dX4_doCross_43 : decode cX4_doCross 43 = .ok (.if_icmp .le 27, 3) := by decide +kernel
theorem dX4_doCross_46 : decode cX4_doCross 46 = .ok (.aload_n 0, 1) := by decide +kernel
theorem dX4_doCross_47 : decode cX4_doCross 47 = .ok (.iconst 0, 1) := by decide +kernel
theorem dX4_doCross_48 : decode cX4_doCross 48 = .ok (.iconst 0, 1) := by decide +kernel
theorem dX4_doCross_49 : decode cX4_doCross 49 = .ok (.invokevirtual 214, 3) := by decide +kernel
theorem dX4_doCross_52 : decode cX4_doCross 52 = .ok (.ifCond .eq 16, 3) := by decide +kernel
theorem dX4_doCross_55 : decode cX4_doCross 55 = .ok (.aload_n 0, 1) := by decide +kernel
theorem dX4_doCross_56 : decode cX4_doCross 56 = .ok (.iconst 2, 1) := by decide +kernel
theorem dX4_doCross_57 : decode cX4_doCross 57 = .ok (.iconst 0, 1) := by decide +kernel
theorem dX4_doCross_58 : decode cX4_doCross 58 = .ok (.invokevirtual 214, 3) := by decide +kernel
theorem dX4_doCross_61 : decode cX4_doCross 61 = .ok (.ifCond .eq 7, 3) := by decide +kernel
theorem dX4_doCross_64 : decode cX4_doCross 64 = .ok (.iconst 1, 1) := by decide +kernel
theorem dX4_doCross_65 : decode cX4_doCross 65 = .ok (.goto 4, 3) := by decide +kernel
theorem dX4_doCross_68 : decode cX4_doCross 68 = .ok (.iconst 0, 1) := by decide +kernel
theorem dX4_doCross_69 : decode cX4_doCross 69 = .ok (.ireturn, 1) := by decide +kernel
theorem dX4_doCross_70 : decode cX4_doCross 70 = .ok (.iload_n 1, 1) := by decide +kernel
theorem dX4_doCross_71 : decode cX4_doCross 71 = .ok (.iconst 1, 1) := by decide +kernel
theorem dX4_doCross_72 : decode cX4_doCross 72 = .ok (.if_icmp .ne 16, 3) := by decide +kernel
theorem dX4_doCross_75 : decode cX4_doCross 75 = .ok (.aload_n 0, 1) := by decide +kernel
theorem dX4_doCross_76 : decode cX4_doCross 76 = .ok (.iconst 0, 1) := by decide +kernel
theorem dX4_doCross_77 : decode cX4_doCross 77 = .ok (.iconst 0, 1) := by decide +kernel
theorem dX4_doCross_78 : decode cX4_doCross 78 = .ok (.invokevirtual 209, 3) := by decide +kernel
theorem dX4_doCross_81 : decode cX4_doCross 81 = .ok (.ifCond .ne 7, 3) := by decide +kernel
theorem dX4_doCross_84 : decode cX4_doCross 84 = .ok (.iconst 1, 1) := by decide +kernel
theorem dX4_doCross_85 : decode cX4_doCross 85 = .ok (.goto 4, 3) := by decide +kernel
theorem dX4_doCross_88 : decode cX4_doCross 88 = .ok (.iconst 0, 1) := by decide +kernel
theorem dX4_doCross_89 : decode cX4_doCross 89 = .ok (.ireturn, 1) := by decide +kernel
set_option maxRecDepth 20000 in
theorem ggX4_doOverlap_X4_dimensionInFirst : GoodIn wsX4_doOverlap wsX4_dimensionInFirst := goodIn_r _ [5, 6, 7, 8, 9, 10, 11, 12, 4, 13, 14, 23, 24, 25, 26, 27, 28] (by decide +kernel) (by decide +kernel)
set_option maxRecDepth 20000 in
theorem gX4_doOverlap_X4_dimensionInFirst : GoodIn wsX4_doOverlap (wsV RX4 218 RX4 yX4_dimensionInFirst wsX4_dimensionInFirst) := goodIn_app (goodIn_of _ (by decide +kernel)) ggX4_doOverlap_X4_dimensionInFirst
set_option maxRecDepth 20000 in
theorem ggX4_doOverlap_X4_dimensionInSecond : GoodIn wsX4_doOverlap wsX4_dimensionInSecond := goodIn_r _ [18, 6, 7, 8, 9, 10, 11, 12, 4, 13, 14, 23, 24, 25, 26, 27, 28] (by decide +kernel) (by decide +kernel)
set_option maxRecDepth 20000 in
theorem gX4_doOverlap_X4_dimensionInSecond : GoodIn wsX4_doOverlap (wsV RX4 221 RX4 yX4_dimensionInSecond wsX4_dimensionInSecond) := goodIn_app (goodIn_of _ (by decide +kernel)) ggX4_doOverlap_X4_dimensionInSecond
set_option maxRecDepth 20000 in
theorem ggX4_doOverlap_X4_at : GoodIn wsX4_doOverlap wsX4_at := goodIn_r _ [13, 14, 23, 24, 25, 26, 27, 28] (by decide +kernel) (by decide +kernel)
set_option maxRecDepth 20000 in
theorem gX4_doOverlap_X4_at : GoodIn wsX4_doOverlap (wsV RX4 209 RX4 yX4_at wsX4_at) := goodIn_app (goodIn_of _ (by decide +kernel)) ggX4_doOverlap_X4_at
set_option maxRecDepth 20000 in
theorem ggX4_doOverlap_X4_has : GoodIn wsX4_doOverlap wsX4_has := goodIn_r _ [22, 10, 11, 12, 4, 13, 14, 23, 24, 25, 26, 27, 28] (by decide +kernel) (by decide +kernel)
set_option maxRecDepth 20000 in
theorem gX4_doOverlap_X4_has : GoodIn wsX4_doOverlap (wsV RX4 214 RX4 yX4_has wsX4_has) := goodIn_app (goodIn_of _ (by decide +kernel)) ggX4_doOverlap_X4_has
theorem dX4_doOverlap_0 : decode cX4_doOverlap 0 = .ok (.aload_n 0, 1) := by decide +kernel
theorem dX4_doOverlap_1 : decode cX4_doOverlap 1 = .ok (.iconst 0, 1) := by decide +kernel
theorem dX4_doOverlap_2 : decode cX4_doOverlap 2 = .ok (.invokevirtual 218, 3) := by decide +kernel
theorem dX4_doOverlap_5 : decode cX4_doOverlap 5 = .ok (.istore_n 1, 1) := by decide +kernel
theorem dX4_doOverlap_6 : decode cX4_doOverlap 6 = .ok (.iload_n 1, 1) := by decide +kernel
theorem dX4_doOverlap_7 : decode cX4_doOverlap 7 = .ok (.iconst (-1), 1) := by decide +kernel
theorem dX4_doOverlap_8 : decode cX4_doOverlap 8 = .ok (.if_icmp .eq 44, 3) := by decide +kernel
theorem dX4_doOverlap_11 : decode cX4_doOverlap 11 = .ok (.iload_n 1, 1) := by decide +kernel
theorem dX4_doOverlap_12 : decode cX4_doOverlap 12 = .ok (.aload_n 0, 1) := by decide +kernel
theorem dX4_doOverlap_13 : decode cX4_doOverlap 13 = .ok (.iconst 0, 1) := by decide +kernel
theorem dX4_doOverlap_14 : decode cX4_doOverlap 14 = .ok (.invokevirtual 221, 3) := by decide +kernel
theorem dX4_doOverlap_17 : decode cX4_doOverlap 17 = .ok (.if_icmp .ne 35, 3) := by decide +kernel
theorem dX4_doOverlap_20 : decode cX4_doOverlap 20 = .ok (.aload_n 0, 1) := by decide +kernel
theorem dX4_doOverlap_21 : decode cX4_doOverlap 21 = .ok (.iconst 0, 1) := by decide +kernel
theorem dX4_doOverlap_22 : decode cX4_doOverlap 22 = .ok (.iconst 0, 1) := by decide +kernel
theorem dX4_doOverlap_23 : decode cX4_doOverlap 23 = .ok (.invokevirtual 209, 3) := by decide +kernel
theorem dX4_doOverlap_26 : decode cX4_doOverlap 26 = .ok (.iload_n 1, 1) := by decide +kernel
theorem dX4_doOverlap_27 : decode cX4_doOverlap 27 = .ok (.if_icmp .ne 25, 3) := by decide +kernel
theorem dX4_doOverlap_30 : decode cX4_doOverlap 30 = .ok (.aload_n 0, 1) := by decide +kernel
theorem dX4_doOverlap_31 : decode cX4_doOverlap 31 = .ok (.iconst 0, 1) := by decide +kernel
theorem dX4_doOverlap_32 : decode cX4_doOverlap 32 = .ok (.iconst 2, 1) := by decide +kernel
theorem dX4_doOverlap_33 : decode cX4_doOverlap 33 = .ok (.invokevirtual 214, 3) := by decide +kernel
theorem dX4_doOverlap_36 : decode cX4_doOverlap 36 = .ok (.ifCond .eq 16, 3) := by decide +kernel
theorem dX4_doOverlap_39 : decode cX4_doOverlap 39 = .ok (.aload_n 0, 1) := by decide +kernel
theorem dX4_doOverlap_40 : decode cX4_doOverlap 40 = .ok (.iconst 2, 1) := by decide +kernel
theorem dX4_doOverlap_41 : decode cX4_doOverlap 41 = .ok (.iconst 0, 1) := by decide +kernel
theorem dX4_doOverlap_42 : decode cX4_doOverlap 42 = .ok (.invokevirtual 214, 3) := by decide +kernel
theorem dX4_doOverlap_45 : decode cX4_doOverlap 45 = .ok (.ifCond .eq 7, 3) := by decide +kernel
theorem dX4_doOverlap_48 : decode cX4_doOverlap 48 = .ok (.iconst 1, 1) := by decide +kernel
theorem dX4_doOverlap_49 : decode cX4_doOverlap 49 = .ok (.goto 4, 3) := by decide +kernel
theorem dX4_doOverlap_52 : decode cX4_doOverlap 52 = .ok (.iconst 0, 1) := by decide +kernel
theorem dX4_doOverlap_53 : decode cX4_doOverlap 53 = .ok (.ireturn, 1) := by decide +kernel
