theorem dX3_init_0 : decode cX3_init 0 = .ok (.aload_n 0, 1) := by decide +kernel
theorem dX3_init_1 : decode cX3_init 1 = .ok (.invokespecial 3, 3) := by decide +kernel
theorem dX3_init_4 : decode cX3_init 4 = .ok (.aload_n 0, 1) := by decide +kernel
theorem dX3_init_5 : decode cX3_init 5 = .ok (.iconst 1, 1) := by decide +kernel
theorem dX3_init_6 : decode cX3_init 6 = .ok (.putfield 9, 3) := by decide +kernel
theorem dX3_init_9 : decode cX3_init 9 = .ok (.aload_n 0, 1) := by decide +kernel
theorem dX3_init_10 : decode cX3_init 10 = .ok (.iconst 0, 1) := by decide +kernel
theorem dX3_init_11 : decode cX3_init 11 = .ok (.putfield 15, 3) := by decide +kernel
theorem dX3_init_14 : decode cX3_init 14 = .ok (.aload_n 0, 1) := by decide +kernel
theorem dX3_init_15 : decode cX3_init 15 = .ok (.iconst 0, 1) := by decide +kernel
theorem dX3_init_16 : decode cX3_init 16 = .ok (.putfield 18, 3) := by decide +kernel
theorem dX3_init_19 : decode cX3_init 19 = .ok (.aload_n 0, 1) := by decide +kernel
theorem dX3_init_20 : decode cX3_init 20 = .ok (.bipush 16, 2) := by decide +kernel
theorem dX3_init_22 : decode cX3_init 22 = .ok (.newarray .int, 2) := by decide +kernel
theorem dX3_init_24 : decode cX3_init 24 = .ok (.putfield 21, 3) := by decide +kernel
theorem dX3_init_27 : decode cX3_init 27 = .ok (.aload_n 0, 1) := by decide +kernel
theorem dX3_init_28 : decode cX3_init 28 = .ok (.bipush 16, 2) := by decide +kernel
theorem dX3_init_30 : decode cX3_init 30 = .ok (.newarray .int, 2) := by decide +kernel
theorem dX3_init_32 : decode cX3_init 32 = .ok (.putfield 25, 3) := by decide +kernel
theorem dX3_init_35 : decode cX3_init 35 = .ok (.aload_n 0, 1) := by decide +kernel
theorem dX3_init_36 : decode cX3_init 36 = .ok (.bipush 16, 2) := by decide +kernel
theorem dX3_init_38 : decode cX3_init 38 = .ok (.newarray .int, 2) := by decide +kernel
theorem dX3_init_40 : decode cX3_init 40 = .ok (.putfield 28, 3) := by decide +kernel
theorem dX3_init_43 : decode cX3_init 43 = .ok (.aload_n 0, 1) := by decide +kernel
theorem dX3_init_44 : decode cX3_init 44 = .ok (.iconst 0, 1) := by decide +kernel
theorem dX3_init_45 : decode cX3_init 45 = .ok (.putfield 31, 3) := by decide +kernel
theorem dX3_init_48 : decode cX3_init 48 = .ok (.aload_n 0, 1) := by decide +kernel
theorem dX3_init_49 : decode cX3_init 49 = .ok (.iconst 0, 1) := by decide +kernel
theorem dX3_init_50 : decode cX3_init 50 = .ok (.putfield 35, 3) := by decide +kernel
theorem dX3_init_53 : decode cX3_init 53 = .ok (.aload_n 0, 1) := by decide +kernel
theorem dX3_init_54 : decode cX3_init 54 = .ok (.bipush 16, 2) := by decide +kernel
theorem dX3_init_56 : decode cX3_init 56 = .ok (.newarray .int, 2) := by decide +kernel
theorem dX3_init_58 : decode cX3_init 58 = .ok (.putfield 38, 3) := by decide +kernel
theorem dX3_init_61 : decode cX3_init 61 = .ok (.aload_n 0, 1) := by decide +kernel
theorem dX3_init_62 : decode cX3_init 62 = .ok (.bipush 16, 2) := by decide +kernel
theorem dX3_init_64 : decode cX3_init 64 = .ok (.newarray .int, 2) := by decide +kernel
theorem dX3_init_66 : decode cX3_init 66 = .ok (.putfield 41, 3) := by decide +kernel
theorem dX3_init_69 : decode cX3_init 69 = .ok (.aload_n 0, 1) := by decide +kernel
theorem dX3_init_70 : decode cX3_init 70 = .ok (.iconst 0, 1) := by decide +kernel
theorem dX3_init_71 : decode cX3_init 71 = .ok (.putfield 44, 3) := by decide +kernel
theorem dX3_init_74 : decode cX3_init 74 = .ok (.aload_n 0, 1) := by decide +kernel
theorem dX3_init_75 : decode cX3_init 75 = .ok (.bipush 16, 2) := by decide +kernel
theorem dX3_init_77 : decode cX3_init 77 = .ok (.newarray .int, 2) := by decide +kernel
theorem dX3_init_79 : decode cX3_init 79 = .ok (.putfield 47, 3) := by decide +kernel
theorem dX3_init_82 : decode cX3_init 82 = .ok (.aload_n 0, 1) := by decide +kernel
theorem dX3_init_83 : decode cX3_init 83 = .ok (.bipush 16, 2) := by decide +kernel
theorem dX3_init_85 : decode cX3_init 85 = .ok (.newarray .long, 2) := by decide +kernel
theorem dX3_init_87 : decode cX3_init 87 = .ok (.putfield 50, 3) := by decide +kernel
theorem dX3_init_90 : decode cX3_init 90 = .ok (.return_, 1) := by decide +kernel
theorem dX3_beginAnew_0 : decode cX3_beginAnew 0 = .ok (.aload_n 0, 1) := by decide +kernel
theorem dX3_beginAnew_1 : decode cX3_beginAnew 1 = .ok (.iload_n 1, 1) := by decide +kernel
theorem dX3_beginAnew_2 : decode cX3_beginAnew 2 = .ok (.putfield 9, 3) := by decide +kernel
theorem dX3_beginAnew_5 : decode cX3_beginAnew 5 = .ok (.aload_n 0, 1) := by decide +kernel
theorem dX3_beginAnew_6 : decode cX3_beginAnew 6 = .ok (.iconst 0, 1) := by decide +kernel
theorem dX3_beginAnew_7 : decode cX3_beginAnew 7 = .ok (.putfield 15, 3) := by decide +kernel
theorem dX3_beginAnew_10 : decode cX3_beginAnew 10 = .ok (.aload_n 0, 1) := by decide +kernel
theorem dX3_beginAnew_11 : decode cX3_beginAnew 11 = .ok (.iconst 0, 1) := by decide +kernel
theorem dX3_beginAnew_12 : decode cX3_beginAnew 12 = .ok (.putfield 18, 3) := by decide +kernel
theorem dX3_beginAnew_15 : decode cX3_beginAnew 15 = .ok (.aload_n 0, 1) := by decide +kernel
theorem dX3_beginAnew_16 : decode cX3_beginAnew 16 = .ok (.iconst 0, 1) := by decide +kernel
theorem dX3_beginAnew_17 : decode cX3_beginAnew 17 = .ok (.putfield 31, 3) := by decide +kernel
theorem dX3_beginAnew_20 : decode cX3_beginAnew 20 = .ok (.return_, 1) := by decide +kernel
set_option maxRecDepth 20000 in
theorem ggX3_beginPart_J7_copyOf_59c91 : GoodIn wsX3_beginPart wsJ7_copyOf_59c91 := goodIn_r _ [8, 9, 10, 11, 12, 13, 14, 15, 16, 17, 18, 19, 20, 21, 22, 23] (by decide +kernel) (by decide +kernel)
set_option maxRecDepth 20000 in
theorem gX3_beginPart_J7_copyOf_59c91 : GoodIn wsX3_beginPart (va_wsS RX3 54 yJ7_copyOf_59c91 wsJ7_copyOf_59c91) := goodIn_app (goodIn_of _ (by decide +kernel)) ggX3_beginPart_J7_copyOf_59c91
theorem dX3_beginPart_0 : decode cX3_beginPart 0 = .ok (.aload_n 0, 1) := by decide +kernel
theorem dX3_beginPart_1 : decode cX3_beginPart 1 = .ok (.getfield 15, 3) := by decide +kernel
theorem dX3_beginPart_4 : decode cX3_beginPart 4 = .ok (.aload_n 0, 1) := by decide +kernel
theorem dX3_beginPart_5 : decode cX3_beginPart 5 = .ok (.getfield 28, 3) := by decide +kernel
theorem dX3_beginPart_8 : decode cX3_beginPart 8 = .ok (.arraylength, 1) := by decide +kernel
theorem dX3_beginPart_9 : decode cX3_beginPart 9 = .ok (.if_icmp .ne 20, 3) := by decide +kernel
theorem dX3_beginPart_12 : decode cX3_beginPart 12 = .ok (.aload_n 0, 1) := by decide +kernel
theorem dX3_beginPart_13 : decode cX3_beginPart 13 = .ok (.aload_n 0, 1) := by decide +kernel
theorem dX3_beginPart_14 : decode cX3_beginPart 14 = .ok (.getfield 28, 3) := by decide +kernel
theorem dX3_beginPart_17 : decode cX3_beginPart 17 = .ok (.iconst 2, 1) := by decide +kernel
theorem dX3_beginPart_18 : decode cX3_beginPart 18 = .ok (.aload_n 0, 1) := by decide +kernel
theorem dX3_beginPart_19 : decode cX3_beginPart 19 = .ok (.getfield 15, 3) := by decide +kernel
theorem dX3_beginPart_22 : decode cX3_beginPart 22 = .ok (.imul, 1) := by decide +kernel
theorem dX3_beginPart_23 : decode cX3_beginPart 23 = .ok (.invokestatic 54, 3) := by decide +kernel
theorem dX3_beginPart_26 : decode cX3_beginPart 26 = .ok (.putfield 28, 3) := by decide +kernel
theorem dX3_beginPart_29 : decode cX3_beginPart 29 = .ok (.aload_n 0, 1) := by decide +kernel
theorem dX3_beginPart_30 : decode cX3_beginPart 30 = .ok (.getfield 28, 3) := by decide +kernel
theorem dX3_beginPart_33 : decode cX3_beginPart 33 = .ok (.aload_n 0, 1) := by decide +kernel
theorem dX3_beginPart_34 : decode cX3_beginPart 34 = .ok (.getfield 15, 3) := by decide +kernel
theorem dX3_beginPart_37 : decode cX3_beginPart 37 = .ok (.aload_n 0, 1) := by decide +kernel
theorem dX3_beginPart_38 : decode cX3_beginPart 38 = .ok (.getfield 18, 3) := by decide +kernel
theorem dX3_beginPart_41 : decode cX3_beginPart 41 = .ok (.iastore, 1) := by decide +kernel
theorem dX3_beginPart_42 : decode cX3_beginPart 42 = .ok (.aload_n 0, 1) := by decide +kernel
theorem dX3_beginPart_43 : decode cX3_beginPart 43 = .ok (.dup, 1) := by decide +kernel
theorem dX3_beginPart_44 : decode cX3_beginPart 44 = .ok (.getfield 15, 3) := by decide +kernel
theorem dX3_beginPart_47 : decode cX3_beginPart 47 = .ok (.iconst 1, 1) := by decide +kernel
theorem dX3_beginPart_48 : decode cX3_beginPart 48 = .ok (.iadd, 1) := by decide +kernel
theorem dX3_beginPart_49 : decode cX3_beginPart 49 = .ok (.putfield 15, 3) := by decide +kernel
theorem dX3_beginPart_52 : decode cX3_beginPart 52 = .ok (.aload_n 0, 1) := by decide +kernel
theorem dX3_beginPart_53 : decode cX3_beginPart 53 = .ok (.iconst 0, 1) := by decide +kernel
theorem dX3_beginPart_54 : decode cX3_beginPart 54 = .ok (.putfield 31, 3) := by decide +kernel
theorem dX3_beginPart_57 : decode cX3_beginPart 57 = .ok (.return_, 1) := by decide +kernel
set_option maxRecDepth 20000 in
theorem ggX3_addPoint_J7_copyOf_59c91 : GoodIn wsX3_addPoint wsJ7_copyOf_59c91 := goodIn_r _ [8, 9, 10, 11, 12, 13, 14, 15, 16, 17, 18, 19, 20, 21, 22, 23] (by decide +kernel) (by decide +kernel)
set_option maxRecDepth 20000 in
theorem gX3_addPoint_J7_copyOf_59c91 : GoodIn wsX3_addPoint (va_wsS RX3 54 yJ7_copyOf_59c91 wsJ7_copyOf_59c91) := goodIn_app (goodIn_of _ (by decide +kernel)) ggX3_addPoint_J7_copyOf_59c91
theorem dX3_addPoint_0 : decode cX3_addPoint 0 = .ok (.aload_n 0, 1) := by decide +kernel
theorem dX3_addPoint_1 : decode cX3_addPoint 1 = .ok (.getfield 18, 3) := by decide +kernel
theorem dX3_addPoint_4 : decode cX3_addPoint 4 = .ok (.aload_n 0, 1) := by decide +kernel
theorem dX3_addPoint_5 : decode cX3_addPoint 5 = .ok (.getfield 21, 3) := by decide +kernel
theorem dX3_addPoint_8 : decode cX3_addPoint 8 = .ok (.arraylength, 1) := by decide +kernel
theorem dX3_addPoint_9 : decode cX3_addPoint 9 = .ok (.if_icmp .ne 37, 3) := by decide +kernel
theorem dX3_addPoint_12 : decode cX3_addPoint 12 = .ok (.aload_n 0, 1) := by decide +kernel
theorem dX3_addPoint_13 : decode cX3_addPoint 13 = .ok (.aload_n 0, 1) := by decide +kernel
theorem dX3_addPoint_14 : decode cX3_addPoint 14 = .ok (.getfield 21, 3) := by decide +kernel
theorem dX3_addPoint_17 : decode cX3_addPoint 17 = .ok (.iconst 2, 1) := by decide +kernel
theorem dX3_addPoint_18 : decode cX3_addPoint 18 = .ok (.aload_n 0, 1) := by decide +kernel
theorem dX3_addPoint_19 : decode cX3_addPoint 19 = .ok (.getfield 18, 3) := by decide +kernel
theorem dX3_addPoint_22 : decode cX3_addPoint 22 = .ok (.imul, 1) := by decide +kernel
theorem dX3_addPoint_23 : decode cX3_addPoint 23 = .ok (.invokestatic 54, 3) := by decide +kernel
theorem dX3_addPoint_26 : decode cX3_addPoint 26 = .ok (.putfield 21, 3) := by decide +kernel
theorem dX3_addPoint_29 : decode cX3_addPoint 29 = .ok (.aload_n 0, 1) := by decide +kernel
theorem dX3_addPoint_30 : decode cX3_addPoint 30 = .ok (.aload_n 0, 1) := by decide +kernel
theorem dX3_addPoint_31 : decode cX3_addPoint 31 = .ok (.getfield 25, 3) := by decide +kernel
theorem dX3_addPoint_34 : decode cX3_addPoint 34 = .ok (.iconst 2, 1) := by decide +kernel
theorem dX3_addPoint_35 : decode cX3_addPoint 35 = .ok (.aload_n 0, 1) := by decide +kernel
theorem dX3_addPoint_36 : decode cX3_addPoint 36 = .ok (.getfield 18, 3) := by decide +kernel
theorem dX3_addPoint_39 : decode cX3_addPoint 39 = .ok (.imul, 1) := by decide +kernel
theorem dX3_addPoint_40 : decode cX3_addPoint 40 = .ok (.invokestatic 54, 3) := by decide +kernel
theorem dX3_addPoint_43 : decode cX3_addPoint 43 = .ok (.putfield 25, 3) := by decide +kernel
theorem dX3_addPoint_46 : decode cX3_addPoint 46 = .ok (.aload_n 0, 1) := by decide +kernel
theorem dX3_addPoint_47 : decode cX3_addPoint 47 = .ok (.getfield 21, 3) := by decide +kernel
theorem dX3_addPoint_50 : decode cX3_addPoint 50 = .ok (.aload_n 0, 1) := by decide +kernel
theorem dX3_addPoint_51 : decode cX3_addPoint 51 = .ok (.getfield 18, 3) := by decide +kernel
theorem dX3_addPoint_54 : decode cX3_addPoint 54 = .ok (.iload_n 1, 1) := by decide +kernel
theorem dX3_addPoint_55 : decode cX3_addPoint 55 = .ok (.iastore, 1) := by decide +kernel
theorem dX3_addPoint_56 : decode cX3_addPoint 56 = .ok (.aload_n 0, 1) := by decide +kernel
theorem dX3_addPoint_57 : decode cX3_addPoint 57 = .ok (.getfield 25, 3) := by decide +kernel
theorem dX3_addPoint_60 : decode cX3_addPoint 60 = .ok (.aload_n 0, 1) := by decide +kernel
theorem dX3_addPoint_61 : decode cX3_addPoint 61 = .ok (.getfield 18, 3) := by decide +kernel
theorem dX3_addPoint_64 : decode cX3_addPoint 64 = .ok (.iload_n 2, 1) := by decide +kernel
theorem dX3_addPoint_65 : decode cX3_addPoint 65 = .ok (.iastore, 1) := by decide +kernel
theorem dX3_addPoint_66 : decode cX3_addPoint 66 = .ok (.aload_n 0, 1) := by decide +kernel
theorem dX3_addPoint_67 : decode cX3_addPoint 67 = .ok (.dup, 1) := by decide +kernel
theorem dX3_addPoint_68 : decode cX3_addPoint 68 = .ok (.getfield 18, 3) := by decide +kernel
theorem dX3_addPoint_71 : decode cX3_addPoint 71 = .ok (.iconst 1, 1) := by decide +kernel
theorem dX3_addPoint_72 : decode cX3_addPoint 72 = .ok (.iadd, 1) := by decide +kernel
theorem dX3_addPoint_73 : decode cX3_addPoint 73 = .ok (.putfield 18, 3) := by decide +kernel
theorem dX3_addPoint_76 : decode cX3_addPoint 76 = .ok (.aload_n 0, 1) := by decide +kernel
theorem dX3_addPoint_77 : decode cX3_addPoint 77 = .ok (.iconst 0, 1) := by decide +kernel
theorem dX3_addPoint_78 : decode cX3_addPoint 78 = .ok (.putfield 31, 3) := by decide +kernel
theorem dX3_addPoint_81 : decode cX3_addPoint 81 = .ok (.return_, 1) := by decide +kernel
set_option maxRecDepth 20000 in
theorem ggX3_prepare_X3_makeRoomForPrepared : GoodIn wsX3_prepare wsX3_makeRoomForPrepared := goodIn_r _ [11, 12, 13, 14, 15, 16, 17, 18, 41, 42, 43, 44, 45, 46, 47, 48, 49, 50, 51, 52, 53] (by decide +kernel) (by decide +kernel)
set_option maxRecDepth 20000 in
theorem gX3_prepare_X3_makeRoomForPrepared : GoodIn wsX3_prepare (wsV RX3 60 RX3 yX3_makeRoomForPrepared wsX3_makeRoomForPrepared) := goodIn_app (goodIn_of _ (by decide +kernel)) ggX3_prepare_X3_makeRoomForPrepared
set_option maxRecDepth 20000 in
theorem ggX3_prepare_X3_preparePart : GoodIn wsX3_prepare wsX3_preparePart := goodIn_r _ [22, 23, 24, 25, 26, 10, 27, 16, 3, 28, 29, 30, 31, 13, 32, 12, 2, 15, 33, 34, 35, 36, 37, 38, 39, 40, 41, 42, 43, 44, 45, 46, 47, 48, 49, 50, 51, 52, 53] (by decide +kernel) (by decide +kernel)
set_option maxRecDepth 20000 in
theorem gX3_prepare_X3_preparePart : GoodIn wsX3_prepare (wsV RX3 63 RX3 yX3_preparePart wsX3_preparePart) := goodIn_app (goodIn_of _ (by decide +kernel)) ggX3_prepare_X3_preparePart
theorem dX3_prepare_0 : decode cX3_prepare 0 = .ok (.aload_n 0, 1) := by decide +kernel
theorem dX3_prepare_1 : decode cX3_prepare 1 = .ok (.getfield 31, 3) := by decide +kernel
theorem dX3_prepare_4 : decode cX3_prepare 4 = .ok (.ifCond .eq 4, 3) := by decide +kernel
theorem dX3_prepare_7 : decode cX3_prepare 7 = .ok (.return_, 1) := by decide +kernel
theorem dX3_prepare_8 : decode cX3_prepare 8 = .ok (.aload_n 0, 1) := by decide +kernel
theorem dX3_prepare_9 : decode cX3_prepare 9 = .ok (.invokevirtual 60, 3) := by decide +kernel
theorem dX3_prepare_12 : decode cX3_prepare 12 = .ok (.aload_n 0, 1) := by decide +kernel
theorem dX3_prepare_13 : decode cX3_prepare 13 = .ok (.iconst 0, 1) := by decide +kernel
theorem dX3_prepare_14 : decode cX3_prepare 14 = .ok (.putfield 35, 3) := by decide +kernel
theorem dX3_prepare_17 : decode cX3_prepare 17 = .ok (.aload_n 0, 1) := by decide +kernel
theorem dX3_prepare_18 : decode cX3_prepare 18 = .ok (.iconst 0, 1) := by decide +kernel
theorem dX3_prepare_19 : decode cX3_prepare 19 = .ok (.putfield 44, 3) := by decide +kernel
theorem dX3_prepare_22 : decode cX3_prepare 22 = .ok (.iconst 0, 1) := by decide +kernel
theorem dX3_prepare_23 : decode cX3_prepare 23 = .ok (.istore_n 1, 1) := by decide +kernel
theorem dX3_prepare_24 : decode cX3_prepare 24 = .ok (.iload_n 1, 1) := by decide +kernel
theorem dX3_prepare_25 : decode cX3_prepare 25 = .ok (.aload_n 0, 1) := by decide +kernel
theorem dX3_prepare_26 : decode cX3_prepare 26 = .ok (.getfield 15, 3) := by decide +kernel
theorem dX3_prepare_29 : decode cX3_prepare 29 = .ok (.if_icmp .ge 55, 3) := by decide +kernel
theorem dX3_prepare_32 : decode cX3_prepare 32 = .ok (.aload_n 0, 1) := by decide +kernel
theorem dX3_prepare_33 : decode cX3_prepare 33 = .ok (.getfield 28, 3) := by decide +kernel
theorem dX3_prepare_36 : decode cX3_prepare 36 = .ok (.iload_n 1, 1) := by decide +kernel
theorem dX3_prepare_37 : decode cX3_prepare 37 = .ok (.iaload, 1) := by decide +kernel
theorem dX3_prepare_38 : decode cX3_prepare 38 = .ok (.istore_n 2, 1) := by decide +kernel
theorem dX3_prepare_39 : decode cX3_prepare 39 = .ok (.iload_n 1, 1) := by decide +kernel
theorem dX3_prepare_40 : decode cX3_prepare 40 = .ok (.iconst 1, 1) := by decide +kernel
theorem dX3_prepare_41 : decode cX3_prepare 41 = .ok (.iadd, 1) := by decide +kernel
theorem dX3_prepare_42 : decode cX3_prepare 42 = .ok (.aload_n 0, 1) := by decide +kernel
theorem dX3_prepare_43 : decode cX3_prepare 43 = .ok (.getfield 15, 3) := by decide +kernel
theorem dX3_prepare_46 : decode cX3_prepare 46 = .ok (.if_icmp .ge 14, 3) := by decide +kernel
theorem dX3_prepare_49 : decode cX3_prepare 49 = .ok (.aload_n 0, 1) := by decide +kernel
theorem dX3_prepare_50 : decode cX3_prepare 50 = .ok (.getfield 28, 3) := by decide +kernel
theorem dX3_prepare_53 : decode cX3_prepare 53 = .ok (.iload_n 1, 1) := by decide +kernel
theorem dX3_prepare_54 : decode cX3_prepare 54 = .ok (.iconst 1, 1) := by decide +kernel
theorem dX3_prepare_55 : decode cX3_prepare 55 = .ok (.iadd, 1) := by decide +kernel
theorem dX3_prepare_56 : decode cX3_prepare 56 = .ok (.iaload, 1) := by decide +kernel
theorem dX3_prepare_57 : decode cX3_prepare 57 = .ok (.goto 7, 3) := by decide +kernel
theorem dX3_prepare_60 : decode cX3_prepare 60 = .ok (.aload_n 0, 1) := by decide +kernel
theorem dX3_prepare_61 : decode cX3_prepare 61 = .ok (.getfield 18, 3) := by decide +kernel
theorem dX3_prepare_64 : decode cX3_prepare 64 = .ok (.istore_n 3, 1) := by decide +kernel
theorem dX3_prepare_65 : decode cX3_prepare 65 = .ok (.iload_n 2, 1) := by decide +kernel
theorem dX3_prepare_66 : decode cX3_prepare 66 = .ok (.iload_n 3, 1) := by decide +kernel
theorem dX3_prepare_67 : decode cX3_prepare 67 = .ok (.if_icmp .ge 11, 3) := by decide +kernel
theorem dX3_prepare_70 : decode cX3_prepare 70 = .ok (.aload_n 0, 1) := by decide +kernel
theorem dX3_prepare_71 : decode cX3_prepare 71 = .ok (.iload_n 2, 1) := by decide +kernel
theorem dX3_prepare_72 : decode cX3_prepare 72 = .ok (.iload_n 3, 1) := by decide +kernel
theorem dX3_prepare_73 : decode cX3_prepare 73 = .ok (.iconst 1, 1) := by decide +kernel
theorem dX3_prepare_74 : decode cX3_prepare 74 = .ok (.isub, 1) := by decide +kernel
theorem dX3_prepare_75 : decode cX3_prepare 75 = .ok (.invokevirtual 63, 3) := by decide +kernel
theorem dX3_prepare_78 : decode cX3_prepare 78 = .ok (.iinc 1 1, 3) := by decide +kernel
theorem dX3_prepare_81 : decode cX3_prepare 81 = .ok (.goto (-57), 3) := by decide +kernel
theorem dX3_prepare_84 : decode cX3_prepare 84 = .ok (.aload_n 0, 1) := by decide +kernel
theorem dX3_prepare_85 : decode cX3_prepare 85 = .ok (.iconst 1, 1) := by decide +kernel
theorem dX3_prepare_86 : decode cX3_prepare 86 = .ok (.putfield 31, 3) := by decide +kernel
theorem dX3_prepare_89 : decode cX3_prepare 89 = .ok (.return_, 1) := by decide +kernel
theorem dX3_makeRoomForPrepared_0 : decode cX3_makeRoomForPrepared 0 = .ok (.aload_n 0, 1) := by decide +kernel
theorem dX3_makeRoomForPrepared_1 : decode cX3_makeRoomForPrepared 1 = .ok (.getfield 38, 3) := by decide +kernel
theorem dX3_makeRoomForPrepared_4 : decode cX3_makeRoomForPrepared 4 = .ok (.arraylength, 1) := by decide +kernel
theorem dX3_makeRoomForPrepared_5 : decode cX3_makeRoomForPrepared 5 = .ok (.aload_n 0, 1) := by decide +kernel
theorem dX3_makeRoomForPrepared_6 : decode cX3_makeRoomForPrepared 6 = .ok (.getfield 21, 3) := by decide +kernel
theorem dX3_makeRoomForPrepared_9 : decode cX3_makeRoomForPrepared 9 = .ok (.arraylength, 1) := by decide +kernel
theorem dX3_makeRoomForPrepared_10 : decode cX3_makeRoomForPrepared 10 = .ok (.if_icmp .ge 47, 3) := by decide +kernel
theorem dX3_makeRoomForPrepared_13 : decode cX3_makeRoomForPrepared 13 = .ok (.aload_n 0, 1) := by decide +kernel
theorem dX3_makeRoomForPrepared_14 : decode cX3_makeRoomForPrepared 14 = .ok (.aload_n 0, 1) := by decide +kernel
theorem dX3_makeRoomForPrepared_15 : decode cX3_makeRoomForPrepared 15 = .ok (.getfield 21, 3) := by decide +kernel
theorem dX3_makeRoomForPrepared_18 : decode cX3_makeRoomForPrepared 18 = .ok (.arraylength, 1) := by decide +kernel
theorem dX3_makeRoomForPrepared_19 : decode cX3_makeRoomForPrepared 19 = .ok (.newarray .int, 2) := by decide +kernel
theorem dX3_makeRoomForPrepared_21 : decode cX3_makeRoomForPrepared 21 = .ok (.putfield 38, 3) := by decide +kernel
theorem dX3_makeRoomForPrepared_24 : decode cX3_makeRoomForPrepared 24 = .ok (.aload_n 0, 1) := by decide +kernel
theorem dX3_makeRoomForPrepared_25 : decode cX3_makeRoomForPrepared 25 = .ok (.aload_n 0, 1) := by decide +kernel
theorem dX3_makeRoomForPrepared_26 : decode cX3_makeRoomForPrepared 26 = .ok (.getfield 21, 3) := by decide +kernel
theorem dX3_makeRoomForPrepared_29 : decode cX3_makeRoomForPrepared 29 = .ok (.arraylength, 1) := by decide +kernel
theorem dX3_makeRoomForPrepared_30 : decode cX3_makeRoomForPrepared 30 = .ok (.newarray .int, 2) := by decide +kernel
theorem dX3_makeRoomForPrepared_32 : decode cX3_makeRoomForPrepared 32 = .ok (.putfield 41, 3) := by decide +kernel
theorem dX3_makeRoomForPrepared_35 : decode cX3_makeRoomForPrepared 35 = .ok (.aload_n 0, 1) := by decide +kernel
theorem dX3_makeRoomForPrepared_36 : decode cX3_makeRoomForPrepared 36 = .ok (.aload_n 0, 1) := by decide +kernel
theorem dX3_makeRoomForPrepared_37 : decode cX3_makeRoomForPrepared 37 = .ok (.getfield 21, 3) := by decide +kernel
theorem dX3_makeRoomForPrepared_40 : decode cX3_makeRoomForPrepared 40 = .ok (.arraylength, 1) := by decide +kernel
theorem dX3_makeRoomForPrepared_41 : decode cX3_makeRoomForPrepared 41 = .ok (.newarray .int, 2) := by decide +kernel
theorem dX3_makeRoomForPrepared_43 : decode cX3_makeRoomForPrepared 43 = .ok (.putfield 47, 3) := by decide +kernel
theorem dX3_makeRoomForPrepared_46 : decode cX3_makeRoomForPrepared 46 = .ok (.aload_n 0, 1) := by decide +kernel
theorem dX3_makeRoomForPrepared_47 : decode cX3_makeRoomForPrepared 47 = .ok (.aload_n 0, 1) := by decide +kernel
theorem dX3_makeRoomForPrepared_48 : decode cX3_makeRoomForPrepared 48 = .ok (.getfield 21, 3) := by decide +kernel
theorem dX3_makeRoomForPrepared_51 : decode cX3_makeRoomForPrepared 51 = .ok (.arraylength, 1) := by decide +kernel
theorem dX3_makeRoomForPrepared_52 : decode cX3_makeRoomForPrepared 52 = .ok (.newarray .long, 2) := by decide +kernel
theorem dX3_makeRoomForPrepared_54 : decode cX3_makeRoomForPrepared 54 = .ok (.putfield 50, 3) := by decide +kernel
theorem dX3_makeRoomForPrepared_57 : decode cX3_makeRoomForPrepared 57 = .ok (.return_, 1) := by decide +kernel
set_option maxRecDepth 20000 in
theorem ggX3_preparePart_X3_addMark : GoodIn wsX3_preparePart wsX3_addMark := goodIn_r _ [6, 7, 8, 26, 27, 28, 29, 30, 31, 32, 33, 34, 35, 36, 37, 38] (by decide +kernel) (by decide +kernel)
set_option maxRecDepth 20000 in
theorem gX3_preparePart_X3_addMark : GoodIn wsX3_preparePart (wsV RX3 67 RX3 yX3_addMark wsX3_addMark) := goodIn_app (goodIn_of _ (by decide +kernel)) ggX3_preparePart_X3_addMark
set_option maxRecDepth 20000 in
theorem ggX3_preparePart_X3_addSegment : GoodIn wsX3_preparePart wsX3_addSegment := goodIn_r _ [12, 13, 14, 15, 16, 17, 26, 27, 28, 29, 30, 31, 32, 33, 34, 35, 36, 37, 38] (by decide +kernel) (by decide +kernel)
set_option maxRecDepth 20000 in
theorem gX3_preparePart_X3_addSegment : GoodIn wsX3_preparePart (wsV RX3 71 RX3 yX3_addSegment wsX3_addSegment) := goodIn_app (goodIn_of _ (by decide +kernel)) ggX3_preparePart_X3_addSegment
set_option maxRecDepth 20000 in
theorem ggX3_preparePart_X3_turnMark : GoodIn wsX3_preparePart wsX3_turnMark := goodIn_r _ [21, 13, 14, 8, 7, 22, 23, 24, 5, 25, 2, 3, 4, 6, 26, 27, 28, 29, 30, 31, 32, 33, 34, 35, 36, 37, 38] (by decide +kernel) (by decide +kernel)
set_option maxRecDepth 20000 in
theorem gX3_preparePart_X3_turnMark : GoodIn wsX3_preparePart (wsV RX3 74 RX3 yX3_turnMark wsX3_turnMark) := goodIn_app (goodIn_of _ (by decide +kernel)) ggX3_preparePart_X3_turnMark
theorem dX3_preparePart_0 : decode cX3_preparePart 0 = .ok (.aload_n 0, 1) := by decide +kernel
theorem dX3_preparePart_1 : decode cX3_preparePart 1 = .ok (.getfield 9, 3) := by decide +kernel
theorem dX3_preparePart_4 : decode cX3_preparePart 4 = .ok (.iconst 1, 1) := by decide +kernel
theorem dX3_preparePart_5 : decode cX3_preparePart 5 = .ok (.if_icmp .ne 22, 3) := by decide +kernel
theorem dX3_preparePart_8 : decode cX3_preparePart 8 = .ok (.iload_n 1, 1) := by decide +kernel
theorem dX3_preparePart_9 : decode cX3_preparePart 9 = .ok (.istore_n 3, 1) := by decide +kernel
theorem dX3_preparePart_10 : decode cX3_preparePart 10 = .ok (.iload_n 3, 1) := by decide +kernel
theorem dX3_preparePart_11 : decode cX3_preparePart 11 = .ok (.iload_n 2, 1) := by decide +kernel
theorem dX3_preparePart_12 : decode cX3_preparePart 12 = .ok (.if_icmp .gt 14, 3) := by decide +kernel
theorem dX3_preparePart_15 : decode cX3_preparePart 15 = .ok (.aload_n 0, 1) := by decide +kernel
theorem dX3_preparePart_16 : decode cX3_preparePart 16 = .ok (.iload_n 3, 1) := by decide +kernel
theorem dX3_preparePart_17 : decode cX3_preparePart 17 = .ok (.invokevirtual 67, 3) := by decide +kernel
theorem dX3_preparePart_20 : decode cX3_preparePart 20 = .ok (.iinc 3 1, 3) := by decide +kernel
theorem dX3_preparePart_23 : decode cX3_preparePart 23 = .ok (.goto (-13), 3) := by decide +kernel
theorem dX3_preparePart_26 : decode cX3_preparePart 26 = .ok (.return_, 1) := by decide +kernel
theorem dX3_preparePart_27 : decode cX3_preparePart 27 = .ok (.iload_n 1, 1) := by decide +kernel
theorem dX3_preparePart_28 : decode cX3_preparePart 28 = .ok (.istore_n 3, 1) := by decide +kernel
theorem dX3_preparePart_29 : decode cX3_preparePart 29 = .ok (.iload_n 3, 1) := by decide +kernel
theorem dX3_preparePart_30 : decode cX3_preparePart 30 = .ok (.iload_n 2, 1) := by decide +kernel
theorem dX3_preparePart_31 : decode cX3_preparePart 31 = .ok (.if_icmp .ge 17, 3) := by decide +kernel
theorem dX3_preparePart_34 : decode cX3_preparePart 34 = .ok (.aload_n 0, 1) := by decide +kernel
theorem dX3_preparePart_35 : decode cX3_preparePart 35 = .ok (.iload_n 3, 1) := by decide +kernel
theorem dX3_preparePart_36 : decode cX3_preparePart 36 = .ok (.iload_n 3, 1) := by decide +kernel
theorem dX3_preparePart_37 : decode cX3_preparePart 37 = .ok (.iconst 1, 1) := by decide +kernel
theorem dX3_preparePart_38 : decode cX3_preparePart 38 = .ok (.iadd, 1) := by decide +kernel
theorem dX3_preparePart_39 : decode cX3_preparePart 39 = .ok (.invokevirtual 71, 3) := by decide +kernel
theorem dX3_preparePart_42 : decode cX3_preparePart 42 = .ok (.iinc 3 1, 3) := by decide +kernel
theorem dX3_preparePart_45 : decode cX3_preparePart 45 = .ok (.goto (-16), 3) := by decide +kernel
theorem dX3_preparePart_48 : decode cX3_preparePart 48 = .ok (.aload_n 0, 1) := by decide +kernel
theorem dX3_preparePart_49 : decode cX3_preparePart 49 = .ok (.getfield 9, 3) := by decide +kernel
theorem dX3_preparePart_52 : decode cX3_preparePart 52 = .ok (.iconst 3, 1) := by decide +kernel
theorem dX3_preparePart_53 : decode cX3_preparePart 53 = .ok (.if_icmp .ne 12, 3) := by decide +kernel
theorem dX3_preparePart_56 : decode cX3_preparePart 56 = .ok (.aload_n 0, 1) := by decide +kernel
theorem dX3_preparePart_57 : decode cX3_preparePart 57 = .ok (.iload_n 2, 1) := by decide +kernel
theorem dX3_preparePart_58 : decode cX3_preparePart 58 = .ok (.iload_n 1, 1) := by decide +kernel
theorem dX3_preparePart_59 : decode cX3_preparePart 59 = .ok (.invokevirtual 71, 3) := by decide +kernel
theorem dX3_preparePart_62 : decode cX3_preparePart 62 = .ok (.goto 13, 3) := by decide +kernel
theorem dX3_preparePart_65 : decode cX3_preparePart 65 = .ok (.aload_n 0, 1) := by decide +kernel
theorem dX3_preparePart_66 : decode cX3_preparePart 66 = .ok (.iload_n 1, 1) := by decide +kernel
theorem dX3_preparePart_67 : decode cX3_preparePart 67 = .ok (.invokevirtual 74, 3) := by decide +kernel
theorem dX3_preparePart_70 : decode cX3_preparePart 70 = .ok (.aload_n 0, 1) := by decide +kernel
theorem dX3_preparePart_71 : decode cX3_preparePart 71 = .ok (.iload_n 2, 1) := by decide +kernel
theorem dX3_preparePart_72 : decode cX3_preparePart 72 = .ok (.invokevirtual 74, 3) := by decide +kernel
theorem dX3_preparePart_75 : decode cX3_preparePart 75 = .ok (.return_, 1) := by decide +kernel
theorem dX3_addMark_0 : decode cX3_addMark 0 = .ok (.aload_n 0, 1) := by decide +kernel
theorem dX3_addMark_1 : decode cX3_addMark 1 = .ok (.getfield 47, 3) := by decide +kernel
theorem dX3_addMark_4 : decode cX3_addMark 4 = .ok (.aload_n 0, 1) := by decide +kernel
theorem dX3_addMark_5 : decode cX3_addMark 5 = .ok (.getfield 44, 3) := by decide +kernel
theorem dX3_addMark_8 : decode cX3_addMark 8 = .ok (.iload_n 1, 1) := by decide +kernel
theorem dX3_addMark_9 : decode cX3_addMark 9 = .ok (.iastore, 1) := by decide +kernel
theorem dX3_addMark_10 : decode cX3_addMark 10 = .ok (.aload_n 0, 1) := by decide +kernel
theorem dX3_addMark_11 : decode cX3_addMark 11 = .ok (.dup, 1) := by decide +kernel
theorem dX3_addMark_12 : decode cX3_addMark 12 = .ok (.getfield 44, 3) := by decide +kernel
theorem dX3_addMark_15 : decode cX3_addMark 15 = .ok (.iconst 1, 1) := by decide +kernel
theorem dX3_addMark_16 : decode cX3_addMark 16 = .ok (.iadd, 1) := by decide +kernel
theorem dX3_addMark_17 : decode cX3_addMark 17 = .ok (.putfield 44, 3) := by decide +kernel
theorem dX3_addMark_20 : decode cX3_addMark 20 = .ok (.return_, 1) := by decide +kernel
set_option maxRecDepth 20000 in
theorem ggX3_turnMark_X3_markAt : GoodIn wsX3_turnMark wsX3_markAt := goodIn_r _ [9, 3, 4, 1, 2, 14, 15, 16, 17, 18, 19, 20, 21, 22, 23, 24, 25, 26] (by decide +kernel) (by decide +kernel)
set_option maxRecDepth 20000 in
theorem gX3_turnMark_X3_markAt : GoodIn wsX3_turnMark (wsV RX3 77 RX3 yX3_markAt wsX3_markAt) := goodIn_app (goodIn_of _ (by decide +kernel)) ggX3_turnMark_X3_markAt
set_option maxRecDepth 20000 in
theorem ggX3_turnMark_X3_addMark : GoodIn wsX3_turnMark wsX3_addMark := goodIn_r _ [13, 4, 3, 14, 15, 16, 17, 18, 19, 20, 21, 22, 23, 24, 25, 26] (by decide +kernel) (by decide +kernel)
set_option maxRecDepth 20000 in
theorem gX3_turnMark_X3_addMark : GoodIn wsX3_turnMark (wsV RX3 67 RX3 yX3_addMark wsX3_addMark) := goodIn_app (goodIn_of _ (by decide +kernel)) ggX3_turnMark_X3_addMark
theorem dX3_turnMark_0 : decode cX3_turnMark 0 = .ok (.aload_n 0, 1) := by decide +kernel
theorem dX3_turnMark_1 : decode cX3_turnMark 1 = .ok (.aload_n 0, 1) := by decide +kernel
theorem dX3_turnMark_2 : decode cX3_turnMark 2 = .ok (.getfield 21, 3) := by decide +kernel
theorem dX3_turnMark_5 : decode cX3_turnMark 5 = .ok (.iload_n 1, 1) := by decide +kernel
theorem dX3_turnMark_6 : decode cX3_turnMark 6 = .ok (.iaload, 1) := by decide +kernel
theorem dX3_turnMark_7 : decode cX3_turnMark 7 = .ok (.aload_n 0, 1) := by decide +kernel
theorem dX3_turnMark_8 : decode cX3_turnMark 8 = .ok (.getfield 25, 3) := by decide +kernel
theorem dX3_turnMark_11 : decode cX3_turnMark 11 = .ok (.iload_n 1, 1) := by decide +kernel
theorem dX3_turnMark_12 : decode cX3_turnMark 12 = .ok (.iaload, 1) := by decide +kernel
theorem dX3_turnMark_13 : decode cX3_turnMark 13 = .ok (.invokevirtual 77, 3) := by decide +kernel
theorem dX3_turnMark_16 : decode cX3_turnMark 16 = .ok (.istore_n 2, 1) := by decide +kernel
theorem dX3_turnMark_17 : decode cX3_turnMark 17 = .ok (.iload_n 2, 1) := by decide +kernel
theorem dX3_turnMark_18 : decode cX3_turnMark 18 = .ok (.iconst (-1), 1) := by decide +kernel
theorem dX3_turnMark_19 : decode cX3_turnMark 19 = .ok (.if_icmp .ne 11, 3) := by decide +kernel
theorem dX3_turnMark_22 : decode cX3_turnMark 22 = .ok (.aload_n 0, 1) := by decide +kernel
theorem dX3_turnMark_23 : decode cX3_turnMark 23 = .ok (.iload_n 1, 1) := by decide +kernel
theorem dX3_turnMark_24 : decode cX3_turnMark 24 = .ok (.invokevirtual 67, 3) := by decide +kernel
theorem dX3_turnMark_27 : decode cX3_turnMark 27 = .ok (.goto 28, 3) := by decide +kernel
theorem dX3_turnMark_30 : decode cX3_turnMark 30 = .ok (.aload_n 0, 1) := by decide +kernel
theorem dX3_turnMark_31 : decode cX3_turnMark 31 = .ok (.dup, 1) := by decide +kernel
theorem dX3_turnMark_32 : decode cX3_turnMark 32 = .ok (.getfield 44, 3) := by decide +kernel
theorem dX3_turnMark_35 : decode cX3_turnMark 35 = .ok (.iconst 1, 1) := by decide +kernel
theorem dX3_turnMark_36 : decode cX3_turnMark 36 = .ok (.isub, 1) := by decide +kernel
theorem dX3_turnMark_37 : decode cX3_turnMark 37 = .ok (.putfield 44, 3) := by decide +kernel
theorem dX3_turnMark_40 : decode cX3_turnMark 40 = .ok (.aload_n 0, 1) := by decide +kernel
theorem dX3_turnMark_41 : decode cX3_turnMark 41 = .ok (.getfield 47, 3) := by decide +kernel
theorem dX3_turnMark_44 : decode cX3_turnMark 44 = .ok (.iload_n 2, 1) := by decide +kernel
theorem dX3_turnMark_45 : decode cX3_turnMark 45 = .ok (.aload_n 0, 1) := by decide +kernel
theorem dX3_turnMark_46 : decode cX3_turnMark 46 = .ok (.getfield 47, 3) := by decide +kernel
theorem dX3_turnMark_49 : decode cX3_turnMark 49 = .ok (.aload_n 0, 1) := by decide +kernel
theorem dX3_turnMark_50 : decode cX3_turnMark 50 = .ok (.getfield 44, 3) := by decide +kernel
theorem dX3_turnMark_53 : decode cX3_turnMark 53 = .ok (.iaload, 1) := by decide +kernel
theorem dX3_turnMark_54 : decode cX3_turnMark 54 = .ok (.iastore, 1) := by decide +kernel
theorem dX3_turnMark_55 : decode cX3_turnMark 55 = .ok (.return_, 1) := by decide +kernel
theorem dX3_markAt_0 : decode cX3_markAt 0 = .ok (.iconst 0, 1) := by decide +kernel
theorem dX3_markAt_1 : decode cX3_markAt 1 = .ok (.istore_n 3, 1) := by decide +kernel
theorem dX3_markAt_2 : decode cX3_markAt 2 = .ok (.iload_n 3, 1) := by decide +kernel
theorem dX3_markAt_3 : decode cX3_markAt 3 = .ok (.aload_n 0, 1) := by decide +kernel
theorem dX3_markAt_4 : decode cX3_markAt 4 = .ok (.getfield 44, 3) := by decide +kernel
theorem dX3_markAt_7 : decode cX3_markAt 7 = .ok (.if_icmp .ge 41, 3) := by decide +kernel
theorem dX3_markAt_10 : decode cX3_markAt 10 = .ok (.aload_n 0, 1) := by decide +kernel
theorem dX3_markAt_11 : decode cX3_markAt 11 = .ok (.getfield 47, 3) := by decide +kernel
theorem dX3_markAt_14 : decode cX3_markAt 14 = .ok (.iload_n 3, 1) := by decide +kernel
theorem dX3_markAt_15 : decode cX3_markAt 15 = .ok (.iaload, 1) := by decide +kernel
theorem dX3_markAt_16 : decode cX3_markAt 16 = .ok (.istore 4, 2) := by decide +kernel
theorem dX3_markAt_18 : decode cX3_markAt 18 = .ok (.aload_n 0, 1) := by decide +kernel
theorem dX3_markAt_19 : decode cX3_markAt 19 = .ok (.getfield 21, 3) := by decide +kernel
theorem dX3_markAt_22 : decode cX3_markAt 22 = .ok (.iload 4, 2) := by decide +kernel
theorem dX3_markAt_24 : decode cX3_markAt 24 = .ok (.iaload, 1) := by decide +kernel
theorem dX3_markAt_25 : decode cX3_markAt 25 = .ok (.iload_n 1, 1) := by decide +kernel
theorem dX3_markAt_26 : decode cX3_markAt 26 = .ok (.if_icmp .ne 16, 3) := by decide +kernel
theorem dX3_markAt_29 : decode cX3_markAt 29 = .ok (.aload_n 0, 1) := by decide +kernel
theorem dX3_markAt_30 : decode cX3_markAt 30 = .ok (.getfield 25, 3) := by decide +kernel
theorem dX3_markAt_33 : decode cX3_markAt 33 = .ok (.iload 4, 2) := by decide +kernel
theorem dX3_markAt_35 : decode cX3_markAt 35 = .ok (.iaload, 1) := by decide +kernel
theorem dX3_markAt_36 : decode cX3_markAt 36 = .ok (.iload_n 2, 1) := by decide +kernel
theorem dX3_markAt_37 : decode cX3_markAt 37 = .ok (.if_icmp .ne 5, 3) := by decide +kernel
theorem dX3_markAt_40 : decode cX3_markAt 40 = .ok (.iload_n 3, 1) := by decide +kernel
theorem dX3_markAt_41 : decode cX3_markAt 41 = .ok (.ireturn, 1) := by decide +kernel
theorem dX3_markAt_42 : decode cX3_markAt 42 = .ok (.iinc 3 1, 3) := by decide +kernel
theorem dX3_markAt_45 : decode cX3_markAt 45 = .ok (.goto (-43), 3) := by decide +kernel
theorem dX3_markAt_48 : decode cX3_markAt 48 = .ok (.iconst (-1), 1) := by decide +kernel
theorem dX3_markAt_49 : decode cX3_markAt 49 = .ok (.ireturn, 1) := by decide +kernel
theorem dX3_addSegment_0 : decode cX3_addSegment 0 = .ok (.aload_n 0, 1) := by decide +kernel
theorem dX3_addSegment_1 : decode cX3_addSegment 1 = .ok (.getfield 21, 3) := by decide +kernel
theorem dX3_addSegment_4 : decode cX3_addSegment 4 = .ok (.iload_n 1, 1) := by decide +kernel
theorem dX3_addSegment_5 : decode cX3_addSegment 5 = .ok (.iaload, 1) := by decide +kernel
theorem dX3_addSegment_6 : decode cX3_addSegment 6 = .ok (.aload_n 0, 1) := by decide +kernel
theorem dX3_addSegment_7 : decode cX3_addSegment 7 = .ok (.getfield 21, 3) := by decide +kernel
theorem dX3_addSegment_10 : decode cX3_addSegment 10 = .ok (.iload_n 2, 1) := by decide +kernel
theorem dX3_addSegment_11 : decode cX3_addSegment 11 = .ok (.iaload, 1) := by decide +kernel
theorem dX3_addSegment_12 : decode cX3_addSegment 12 = .ok (.if_icmp .ne 19, 3) := by decide +kernel
theorem dX3_addSegment_15 : decode cX3_addSegment 15 = .ok (.aload_n 0, 1) := by decide +kernel
theorem dX3_addSegment_16 : decode cX3_addSegment 16 = .ok (.getfield 25, 3) := by decide +kernel
theorem dX3_addSegment_19 : decode cX3_addSegment 19 = .ok (.iload_n 1, 1) := by decide +kernel
theorem dX3_addSegment_20 : decode cX3_addSegment 20 = .ok (.iaload, 1) := by decide +kernel
theorem dX3_addSegment_21 : decode cX3_addSegment 21 = .ok (.aload_n 0, 1) := by decide +kernel
theorem dX3_addSegment_22 : decode cX3_addSegment 22 = .ok (.getfield 25, 3) := by decide +kernel
theorem dX3_addSegment_25 : decode cX3_addSegment 25 = .ok (.iload_n 2, 1) := by decide +kernel
theorem dX3_addSegment_26 : decode cX3_addSegment 26 = .ok (.iaload, 1) := by decide +kernel
theorem dX3_addSegment_27 : decode cX3_addSegment 27 = .ok (.if_icmp .ne 4, 3) := by decide +kernel
theorem dX3_addSegment_30 : decode cX3_addSegment 30 = .ok (.return_, 1) := by decide +kernel
theorem dX3_addSegment_31 : decode cX3_addSegment 31 = .ok (.aload_n 0, 1) := by decide +kernel
theorem dX3_addSegment_32 : decode cX3_addSegment 32 = .ok (.getfield 38, 3) := by decide +kernel
theorem dX3_addSegment_35 : decode cX3_addSegment 35 = .ok (.aload_n 0, 1) := by decide +kernel
theorem dX3_addSegment_36 : decode cX3_addSegment 36 = .ok (.getfield 35, 3) := by decide +kernel
theorem dX3_addSegment_39 : decode cX3_addSegment 39 = .ok (.iload_n 1, 1) := by decide +kernel
theorem dX3_addSegment_40 : decode cX3_addSegment 40 = .ok (.iastore, 1) := by decide +kernel
theorem dX3_addSegment_41 : decode cX3_addSegment 41 = .ok (.aload_n 0, 1) := by decide +kernel
theorem dX3_addSegment_42 : decode cX3_addSegment 42 = .ok (.getfield 41, 3) := by decide +kernel
theorem dX3_addSegment_45 : decode cX3_addSegment 45 = .ok (.aload_n 0, 1) := by decide +kernel
theorem dX3_addSegment_46 : decode cX3_addSegment 46 = .ok (.getfield 35, 3) := by decide +kernel
theorem dX3_addSegment_49 : decode cX3_addSegment 49 = .ok (.iload_n 2, 1) := by decide +kernel
theorem dX3_addSegment_50 : decode cX3_addSegment 50 = .ok (.iastore, 1) := by decide +kernel
theorem dX3_addSegment_51 : decode cX3_addSegment 51 = .ok (.aload_n 0, 1) := by decide +kernel
theorem dX3_addSegment_52 : decode cX3_addSegment 52 = .ok (.dup, 1) := by decide +kernel
theorem dX3_addSegment_53 : decode cX3_addSegment 53 = .ok (.getfield 35, 3) := by decide +kernel
theorem dX3_addSegment_56 : decode cX3_addSegment 56 = .ok (.iconst 1, 1) := by decide +kernel
theorem dX3_addSegment_57 : decode cX3_addSegment 57 = .ok (.iadd, 1) := by decide +kernel
theorem dX3_addSegment_58 : decode cX3_addSegment 58 = .ok (.putfield 35, 3) := by decide +kernel
theorem dX3_addSegment_61 : decode cX3_addSegment 61 = .ok (.return_, 1) := by decide +kernel
set_option maxRecDepth 20000 in
theorem ggX3_whereIs_X3_markAt : GoodIn wsX3_whereIs wsX3_markAt := goodIn_r _ [9, 10, 11, 12, 4, 41, 42, 43, 44, 45, 46, 47, 48, 49, 50, 51, 52, 53] (by decide +kernel) (by decide +kernel)
set_option maxRecDepth 20000 in
theorem gX3_whereIs_X3_markAt : GoodIn wsX3_whereIs (wsV RX3 77 RX3 yX3_markAt wsX3_markAt) := goodIn_app (goodIn_of _ (by decide +kernel)) ggX3_whereIs_X3_markAt
set_option maxRecDepth 20000 in
theorem ggX3_whereIs_X3_placeOnMark : GoodIn wsX3_whereIs wsX3_placeOnMark := goodIn_r _ [16, 17, 41, 42, 43, 44, 45, 46, 47, 48, 49, 50, 51, 52, 53] (by decide +kernel) (by decide +kernel)
set_option maxRecDepth 20000 in
theorem gX3_whereIs_X3_placeOnMark : GoodIn wsX3_whereIs (wsV RX3 81 RX3 yX3_placeOnMark wsX3_placeOnMark) := goodIn_app (goodIn_of _ (by decide +kernel)) ggX3_whereIs_X3_placeOnMark
set_option maxRecDepth 20000 in
theorem ggX3_whereIs_X3_sideOfSegment : GoodIn wsX3_whereIs wsX3_sideOfSegment := goodIn_r _ [21, 12, 4, 41, 42, 43, 44, 45, 46, 47, 48, 49, 50, 51, 52, 53] (by decide +kernel) (by decide +kernel)
set_option maxRecDepth 20000 in
theorem gX3_whereIs_X3_sideOfSegment : GoodIn wsX3_whereIs (wsV RX3 85 RX3 yX3_sideOfSegment wsX3_sideOfSegment) := goodIn_app (goodIn_of _ (by decide +kernel)) ggX3_whereIs_X3_sideOfSegment
set_option maxRecDepth 20000 in
theorem ggX3_whereIs_X3_isInBox : GoodIn wsX3_whereIs wsX3_isInBox := goodIn_r _ [25, 12, 26, 27, 28, 29, 30, 31, 32, 4, 41, 42, 43, 44, 45, 46, 47, 48, 49, 50, 51, 52, 53] (by decide +kernel) (by decide +kernel)
set_option maxRecDepth 20000 in
theorem gX3_whereIs_X3_isInBox : GoodIn wsX3_whereIs (wsV RX3 89 RX3 yX3_isInBox wsX3_isInBox) := goodIn_app (goodIn_of _ (by decide +kernel)) ggX3_whereIs_X3_isInBox
set_option maxRecDepth 20000 in
theorem ggX3_whereIs_X3_placeOnSegment : GoodIn wsX3_whereIs wsX3_placeOnSegment := goodIn_r _ [36, 17, 41, 42, 43, 44, 45, 46, 47, 48, 49, 50, 51, 52, 53] (by decide +kernel) (by decide +kernel)
set_option maxRecDepth 20000 in
theorem gX3_whereIs_X3_placeOnSegment : GoodIn wsX3_whereIs (wsV RX3 93 RX3 yX3_placeOnSegment wsX3_placeOnSegment) := goodIn_app (goodIn_of _ (by decide +kernel)) ggX3_whereIs_X3_placeOnSegment
set_option maxRecDepth 20000 in
theorem ggX3_whereIs_X3_placeOffSegments : GoodIn wsX3_whereIs wsX3_placeOffSegments := goodIn_r _ [40, 17, 41, 42, 43, 44, 45, 46, 47, 48, 49, 50, 51, 52, 53] (by decide +kernel) (by decide +kernel)
set_option maxRecDepth 20000 in
theorem gX3_whereIs_X3_placeOffSegments : GoodIn wsX3_whereIs (wsV RX3 96 RX3 yX3_placeOffSegments wsX3_placeOffSegments) := goodIn_app (goodIn_of _ (by decide +kernel)) ggX3_whereIs_X3_placeOffSegments
theorem dX3_whereIs_0 : decode cX3_whereIs 0 = .ok (.aload_n 0, 1) := by decide +kernel
theorem dX3_whereIs_1 : decode cX3_whereIs 1 = .ok (.iload_n 1, 1) := by decide +kernel
theorem dX3_whereIs_2 : decode cX3_whereIs 2 = .ok (.iload_n 2, 1) := by decide +kernel
theorem dX3_whereIs_3 : decode cX3_whereIs 3 = .ok (.invokevirtual 77, 3) := by decide +kernel
theorem dX3_whereIs_6 : decode cX3_whereIs 6 = .ok (.iconst (-1), 1) := by decide +kernel
theorem dX3_whereIs_7 : decode cX3_whereIs 7 = .ok (.if_icmp .eq 8, 3) := by decide +kernel
theorem dX3_whereIs_10 : decode cX3_whereIs 10 = .ok (.aload_n 0, 1) := by decide +kernel
theorem dX3_whereIs_11 : decode cX3_whereIs 11 = .ok (.invokevirtual 81, 3) := by decide +kernel
theorem dX3_whereIs_14 : decode cX3_whereIs 14 = .ok (.ireturn, 1) := by decide +kernel
theorem dX3_whereIs_15 : decode cX3_whereIs 15 = .ok (.iconst 0, 1) := by decide +kernel
theorem dX3_whereIs_16 : decode cX3_whereIs 16 = .ok (.istore_n 3, 1) := by decide +kernel
theorem dX3_whereIs_17 : decode cX3_whereIs 17 = .ok (.iconst 0, 1) := by decide +kernel
theorem dX3_whereIs_18 : decode cX3_whereIs 18 = .ok (.istore 4, 2) := by decide +kernel
theorem dX3_whereIs_20 : decode cX3_whereIs 20 = .ok (.iload 4, 2) := by decide +kernel
theorem dX3_whereIs_22 : decode cX3_whereIs 22 = .ok (.aload_n 0, 1) := by decide +kernel
theorem dX3_whereIs_23 : decode cX3_whereIs 23 = .ok (.getfield 35, 3) := by decide +kernel
theorem dX3_whereIs_26 : decode cX3_whereIs 26 = .ok (.if_icmp .ge 130, 3) := by decide +kernel
theorem dX3_whereIs_29 : decode cX3_whereIs 29 = .ok (.aload_n 0, 1) := by decide +kernel
theorem dX3_whereIs_30 : decode cX3_whereIs 30 = .ok (.getfield 38, 3) := by decide +kernel
theorem dX3_whereIs_33 : decode cX3_whereIs 33 = .ok (.iload 4, 2) := by decide +kernel
theorem dX3_whereIs_35 : decode cX3_whereIs 35 = .ok (.iaload, 1) := by decide +kernel
theorem dX3_whereIs_36 : decode cX3_whereIs 36 = .ok (.istore 5, 2) := by decide +kernel
theorem dX3_whereIs_38 : decode cX3_whereIs 38 = .ok (.aload_n 0, 1) := by decide +kernel
theorem dX3_whereIs_39 : decode cX3_whereIs 39 = .ok (.getfield 41, 3) := by decide +kernel
theorem dX3_whereIs_42 : decode cX3_whereIs 42 = .ok (.iload 4, 2) := by decide +kernel
theorem dX3_whereIs_44 : decode cX3_whereIs 44 = .ok (.iaload, 1) := by decide +kernel
theorem dX3_whereIs_45 : decode cX3_whereIs 45 = .ok (.istore 6, 2) := by decide +kernel
theorem dX3_whereIs_47 : decode cX3_whereIs 47 = .ok (.aload_n 0, 1) := by decide +kernel
theorem dX3_whereIs_48 : decode cX3_whereIs 48 = .ok (.iload 5, 2) := by decide +kernel
theorem dX3_whereIs_50 : decode cX3_whereIs 50 = .ok (.iload 6, 2) := by decide +kernel
theorem dX3_whereIs_52 : decode cX3_whereIs 52 = .ok (.iload_n 1, 1) := by decide +kernel
theorem dX3_whereIs_53 : decode cX3_whereIs 53 = .ok (.iload_n 2, 1) := by decide +kernel
theorem dX3_whereIs_54 : decode cX3_whereIs 54 = .ok (.invokevirtual 85, 3) := by decide +kernel
theorem dX3_whereIs_57 : decode cX3_whereIs 57 = .ok (.lstore 7, 2) := by decide +kernel
theorem dX3_whereIs_59 : decode cX3_whereIs 59 = .ok (.lload 7, 2) := by decide +kernel
theorem dX3_whereIs_61 : decode cX3_whereIs 61 = .ok (.lconst 0, 1) := by decide +kernel
theorem dX3_whereIs_62 : decode cX3_whereIs 62 = .ok (.lcmp, 1) := by decide +kernel
theorem dX3_whereIs_63 : decode cX3_whereIs 63 = .ok (.ifCond .ne 21, 3) := by decide +kernel
theorem dX3_whereIs_66 : decode cX3_whereIs 66 = .ok (.aload_n 0, 1) := by decide +kernel
theorem dX3_whereIs_67 : decode cX3_whereIs 67 = .ok (.iload 5, 2) := by decide +kernel
theorem dX3_whereIs_69 : decode cX3_whereIs 69 = .ok (.iload 6, 2) := by decide +kernel
theorem dX3_whereIs_71 : decode cX3_whereIs 71 = .ok (.iload_n 1, 1) := by decide +kernel
theorem dX3_whereIs_72 : decode cX3_whereIs 72 = .ok (.iload_n 2, 1) := by decide +kernel
theorem dX3_whereIs_73 : decode cX3_whereIs 73 = .ok (.invokevirtual 89, 3) := by decide +kernel
theorem dX3_whereIs_76 : decode cX3_whereIs 76 = .ok (.ifCond .eq 8, 3) := by decide +kernel
theorem dX3_whereIs_79 : decode cX3_whereIs 79 = .ok (.aload_n 0, 1) := by decide +kernel
theorem dX3_whereIs_80 : decode cX3_whereIs 80 = .ok (.invokevirtual 93, 3) := by decide +kernel
theorem dX3_whereIs_83 : decode cX3_whereIs 83 = .ok (.ireturn, 1) := by decide +kernel
theorem dX3_whereIs_84 : decode cX3_whereIs 84 = .ok (.aload_n 0, 1) := by decide +kernel
theorem dX3_whereIs_85 : decode cX3_whereIs 85 = .ok (.getfield 25, 3) := by decide +kernel
theorem dX3_whereIs_88 : decode cX3_whereIs 88 = .ok (.iload 6, 2) := by decide +kernel
theorem dX3_whereIs_90 : decode cX3_whereIs 90 = .ok (.iaload, 1) := by decide +kernel
theorem dX3_whereIs_91 : decode cX3_whereIs 91 = .ok (.iload_n 2, 1) := by decide +kernel
theorem dX3_whereIs_92 : decode cX3_whereIs 92 = .ok (.if_icmp .le 7, 3) := by decide +kernel
theorem dX3_whereIs_95 : decode cX3_whereIs 95 = .ok (.iconst 1, 1) := by decide +kernel
theorem dX3_whereIs_96 : decode cX3_whereIs 96 = .ok (.goto 4, 3) := by decide +kernel
theorem dX3_whereIs_99 : decode cX3_whereIs 99 = .ok (.iconst 0, 1) := by decide +kernel
theorem dX3_whereIs_100 : decode cX3_whereIs 100 = .ok (.istore 9, 2) := by decide +kernel
theorem dX3_whereIs_102 : decode cX3_whereIs 102 = .ok (.iload 9, 2) := by decide +kernel
theorem dX3_whereIs_104 : decode cX3_whereIs 104 = .ok (.aload_n 0, 1) := by decide +kernel
theorem dX3_whereIs_105 : decode cX3_whereIs 105 = .ok (.getfield 25, 3) := by decide +kernel
theorem dX3_whereIs_108 : decode cX3_whereIs 108 = .ok (.iload 5, 2) := by decide +kernel
theorem dX3_whereIs_110 : decode cX3_whereIs 110 = .ok (.iaload, 1) := by decide +kernel
theorem dX3_whereIs_111 : decode cX3_whereIs 111 = .ok (.iload_n 2, 1) := by decide +kernel
theorem dX3_whereIs_112 : decode cX3_whereIs 112 = .ok (.if_icmp .le 7, 3) := by decide +kernel
theorem dX3_whereIs_115 : decode cX3_whereIs 115 = .ok (.iconst 1, 1) := by decide +kernel
theorem dX3_whereIs_116 : decode cX3_whereIs 116 = .ok (.goto 4, 3) := by decide +kernel
theorem dX3_whereIs_119 : decode cX3_whereIs 119 = .ok (.iconst 0, 1) := by decide +kernel
theorem dX3_whereIs_120 : decode cX3_whereIs 120 = .ok (.if_icmp .eq 30, 3) := by decide +kernel
theorem dX3_whereIs_123 : decode cX3_whereIs 123 = .ok (.iload 9, 2) := by decide +kernel
theorem dX3_whereIs_125 : decode cX3_whereIs 125 = .ok (.lload 7, 2) := by decide +kernel
theorem dX3_whereIs_127 : decode cX3_whereIs 127 = .ok (.lconst 0, 1) := by decide +kernel
theorem dX3_whereIs_128 : decode cX3_whereIs 128 = .ok (.lcmp, 1) := by decide +kernel
theorem dX3_whereIs_129 : decode cX3_whereIs 129 = .ok (.ifCond .le 7, 3) := by decide +kernel
theorem dX3_whereIs_132 : decode cX3_whereIs 132 = .ok (.iconst 1, 1) := by decide +kernel
theorem dX3_whereIs_133 : decode cX3_whereIs 133 = .ok (.goto 4, 3) := by decide +kernel
theorem dX3_whereIs_136 : decode cX3_whereIs 136 = .ok (.iconst 0, 1) := by decide +kernel
theorem dX3_whereIs_137 : decode cX3_whereIs 137 = .ok (.if_icmp .ne 13, 3) := by decide +kernel
theorem dX3_whereIs_140 : decode cX3_whereIs 140 = .ok (.iload_n 3, 1) := by decide +kernel
theorem dX3_whereIs_141 : decode cX3_whereIs 141 = .ok (.ifCond .ne 7, 3) := by decide +kernel
theorem dX3_whereIs_144 : decode cX3_whereIs 144 = .ok (.iconst 1, 1) := by decide +kernel
theorem dX3_whereIs_145 : decode cX3_whereIs 145 = .ok (.goto 4, 3) := by decide +kernel
theorem dX3_whereIs_148 : decode cX3_whereIs 148 = .ok (.iconst 0, 1) := by decide +kernel
theorem dX3_whereIs_149 : decode cX3_whereIs 149 = .ok (.istore_n 3, 1) := by decide +kernel
theorem dX3_whereIs_150 : decode cX3_whereIs 150 = .ok (.iinc 4 1, 3) := by decide +kernel
theorem dX3_whereIs_153 : decode cX3_whereIs 153 = .ok (.goto (-133), 3) := by decide +kernel
theorem dX3_whereIs_156 : decode cX3_whereIs 156 = .ok (.aload_n 0, 1) := by decide +kernel
theorem dX3_whereIs_157 : decode cX3_whereIs 157 = .ok (.iload_n 3, 1) := by decide +kernel
theorem dX3_whereIs_158 : decode cX3_whereIs 158 = .ok (.invokevirtual 96, 3) := by decide +kernel
theorem dX3_whereIs_161 : decode cX3_whereIs 161 = .ok (.ireturn, 1) := by decide +kernel
theorem dX3_sideOfSegment_0 : decode cX3_sideOfSegment 0 = .ok (.aload_n 0, 1) := by decide +kernel
theorem dX3_sideOfSegment_1 : decode cX3_sideOfSegment 1 = .ok (.getfield 21, 3) := by decide +kernel
theorem dX3_sideOfSegment_4 : decode cX3_sideOfSegment 4 = .ok (.iload_n 1, 1) := by decide +kernel
theorem dX3_sideOfSegment_5 : decode cX3_sideOfSegment 5 = .ok (.iaload, 1) := by decide +kernel
theorem dX3_sideOfSegment_6 : decode cX3_sideOfSegment 6 = .ok (.i2l, 1) := by decide +kernel
theorem dX3_sideOfSegment_7 : decode cX3_sideOfSegment 7 = .ok (.lstore 5, 2) := by decide +kernel
theorem dX3_sideOfSegment_9 : decode cX3_sideOfSegment 9 = .ok (.aload_n 0, 1) := by decide +kernel
theorem dX3_sideOfSegment_10 : decode cX3_sideOfSegment 10 = .ok (.getfield 25, 3) := by decide +kernel
theorem dX3_sideOfSegment_13 : decode cX3_sideOfSegment 13 = .ok (.iload_n 1, 1) := by decide +kernel
theorem dX3_sideOfSegment_14 : decode cX3_sideOfSegment 14 = .ok (.iaload, 1) := by decide +kernel
theorem dX3_sideOfSegment_15 : decode cX3_sideOfSegment 15 = .ok (.i2l, 1) := by decide +kernel
theorem dX3_sideOfSegment_16 : decode cX3_sideOfSegment 16 = .ok (.lstore 7, 2) := by decide +kernel
theorem dX3_sideOfSegment_18 : decode cX3_sideOfSegment 18 = .ok (.aload_n 0, 1) := by decide +kernel
theorem dX3_sideOfSegment_19 : decode cX3_sideOfSegment 19 = .ok (.getfield 21, 3) := by decide +kernel
theorem dX3_sideOfSegment_22 : decode cX3_sideOfSegment 22 = .ok (.iload_n 2, 1) := by decide +kernel
theorem dX3_sideOfSegment_23 : decode cX3_sideOfSegment 23 = .ok (.iaload, 1) := by decide +kernel
theorem dX3_sideOfSegment_24 : decode cX3_sideOfSegment 24 = .ok (.i2l, 1) := by decide +kernel
theorem dX3_sideOfSegment_25 : decode cX3_sideOfSegment 25 = .ok (.lload 5, 2) := by decide +kernel
theorem dX3_sideOfSegment_27 : decode cX3_sideOfSegment 27 = .ok (.lsub, 1) := by decide +kernel
theorem dX3_sideOfSegment_28 : decode cX3_sideOfSegment 28 = .ok (.iload 4, 2) := by decide +kernel
theorem dX3_sideOfSegment_30 : decode cX3_sideOfSegment 30 = .ok (.i2l, 1) := by decide +kernel
theorem dX3_sideOfSegment_31 : decode cX3_sideOfSegment 31 = .ok (.lload 7, 2) := by decide +kernel
theorem dX3_sideOfSegment_33 : decode cX3_sideOfSegment 33 = .ok (.lsub, 1) := by decide +kernel
theorem dX3_sideOfSegment_34 : decode cX3_sideOfSegment 34 = .ok (.lmul, 1) := by decide +kernel
theorem dX3_sideOfSegment_35 : decode cX3_sideOfSegment 35 = .ok (.aload_n 0, 1) := by decide +kernel
theorem dX3_sideOfSegment_36 : decode cX3_sideOfSegment 36 = .ok (.getfield 25, 3) := by decide +kernel
theorem dX3_sideOfSegment_39 : decode cX3_sideOfSegment 39 = .ok (.iload_n 2, 1) := by decide +kernel
theorem dX3_sideOfSegment_40 : decode cX3_sideOfSegment 40 = .ok (.iaload, 1) := by decide +kernel
theorem dX3_sideOfSegment_41 : decode cX3_sideOfSegment 41 = .ok (.i2l, 1) := by decide +kernel
theorem dX3_sideOfSegment_42 : decode cX3_sideOfSegment 42 = .ok (.lload 7, 2) := by decide +kernel
theorem dX3_sideOfSegment_44 : decode cX3_sideOfSegment 44 = .ok (.lsub, 1) := by decide +kernel
theorem dX3_sideOfSegment_45 : decode cX3_sideOfSegment 45 = .ok (.iload_n 3, 1) := by decide +kernel
theorem dX3_sideOfSegment_46 : decode cX3_sideOfSegment 46 = .ok (.i2l, 1) := by decide +kernel
theorem dX3_sideOfSegment_47 : decode cX3_sideOfSegment 47 = .ok (.lload 5, 2) := by decide +kernel
theorem dX3_sideOfSegment_49 : decode cX3_sideOfSegment 49 = .ok (.lsub, 1) := by decide +kernel
theorem dX3_sideOfSegment_50 : decode cX3_sideOfSegment 50 = .ok (.lmul, 1) := by decide +kernel
theorem dX3_sideOfSegment_51 : decode cX3_sideOfSegment 51 = .ok (.lsub, 1) := by decide +kernel
theorem dX3_sideOfSegment_52 : decode cX3_sideOfSegment 52 = .ok (.lreturn, 1) := by decide +kernel
theorem dX3_isInBox_0 : decode cX3_isInBox 0 = .ok (.aload_n 0, 1) := by decide +kernel
theorem dX3_isInBox_1 : decode cX3_isInBox 1 = .ok (.getfield 21, 3) := by decide +kernel
theorem dX3_isInBox_4 : decode cX3_isInBox 4 = .ok (.iload_n 1, 1) := by decide +kernel
theorem dX3_isInBox_5 : decode cX3_isInBox 5 = .ok (.iaload, 1) := by decide +kernel
theorem dX3_isInBox_6 : decode cX3_isInBox 6 = .ok (.aload_n 0, 1) := by decide +kernel
theorem dX3_isInBox_7 : decode cX3_isInBox 7 = .ok (.getfield 21, 3) := by decide +kernel
theorem dX3_isInBox_10 : decode cX3_isInBox 10 = .ok (.iload_n 2, 1) := by decide +kernel
theorem dX3_isInBox_11 : decode cX3_isInBox 11 = .ok (.iaload, 1) := by decide +kernel
theorem dX3_isInBox_12 : decode cX3_isInBox 12 = .ok (.invokestatic 100, 3) := by decide +kernel
theorem dX3_isInBox_15 : decode cX3_isInBox 15 = .ok (.iload_n 3, 1) := by decide +kernel
theorem dX3_isInBox_16 : decode cX3_isInBox 16 = .ok (.if_icmp .gt 66, 3) := by decide +kernel
theorem dX3_isInBox_19 : decode cX3_isInBox 19 = .ok (.iload_n 3, 1) := by decide +kernel
theorem dX3_isInBox_20 : decode cX3_isInBox 20 = .ok (.aload_n 0, 1) := by decide +kernel
theorem dX3_isInBox_21 : decode cX3_isInBox 21 = .ok (.getfield 21, 3) := by decide +kernel
theorem dX3_isInBox_24 : decode cX3_isInBox 24 = .ok (.iload_n 1, 1) := by decide +kernel
theorem dX3_isInBox_25 : decode cX3_isInBox 25 = .ok (.iaload, 1) := by decide +kernel
theorem dX3_isInBox_26 : decode cX3_isInBox 26 = .ok (.aload_n 0, 1) := by decide +kernel
theorem dX3_isInBox_27 : decode cX3_isInBox 27 = .ok (.getfield 21, 3) := by decide +kernel
theorem dX3_isInBox_30 : decode cX3_isInBox 30 = .ok (.iload_n 2, 1) := by decide +kernel
theorem dX3_isInBox_31 : decode cX3_isInBox 31 = .ok (.iaload, 1) := by decide +kernel
theorem dX3_isInBox_32 : decode cX3_isInBox 32 = .ok (.invokestatic 105, 3) := by decide +kernel
theorem dX3_isInBox_35 : decode cX3_isInBox 35 = .ok (.if_icmp .gt 47, 3) := by decide +kernel
theorem dX3_isInBox_38 : decode cX3_isInBox 38 = .ok (.aload_n 0, 1) := by decide +kernel
theorem dX3_isInBox_39 : decode cX3_isInBox 39 = .ok (.getfield 25, 3) := by decide +kernel
theorem dX3_isInBox_42 : decode cX3_isInBox 42 = .ok (.iload_n 1, 1) := by decide +kernel
theorem dX3_isInBox_43 : decode cX3_isInBox 43 = .ok (.iaload, 1) := by decide +kernel
theorem dX3_isInBox_44 : decode cX3_isInBox 44 = .ok (.aload_n 0, 1) := by decide +kernel
theorem dX3_isInBox_45 : decode cX3_isInBox 45 = .ok (.getfield 25, 3) := by decide +kernel
theorem dX3_isInBox_48 : decode cX3_isInBox 48 = .ok (.iload_n 2, 1) := by decide +kernel
theorem dX3_isInBox_49 : decode cX3_isInBox 49 = .ok (.iaload, 1) := by decide +kernel
theorem dX3_isInBox_50 : decode cX3_isInBox 50 = .ok (.invokestatic 100, 3) := by decide +kernel
theorem dX3_isInBox_53 : decode cX3_isInBox 53 = .ok (.iload 4, 2) := by decide +kernel
theorem dX3_isInBox_55 : decode cX3_isInBox 55 = .ok (.if_icmp .gt 27, 3) := by decide +kernel
theorem dX3_isInBox_58 : decode cX3_isInBox 58 = .ok (.iload 4, 2) := by decide +kernel
theorem dX3_isInBox_60 : decode cX3_isInBox 60 = .ok (.aload_n 0, 1) := by decide +kernel
theorem dX3_isInBox_61 : decode cX3_isInBox 61 = .ok (.getfield 25, 3) := by decide +kernel
theorem dX3_isInBox_64 : decode cX3_isInBox 64 = .ok (.iload_n 1, 1) := by decide +kernel
theorem dX3_isInBox_65 : decode cX3_isInBox 65 = .ok (.iaload, 1) := by decide +kernel
theorem dX3_isInBox_66 : decode cX3_isInBox 66 = .ok (.aload_n 0, 1) := by decide +kernel
theorem dX3_isInBox_67 : decode cX3_isInBox 67 = .ok (.getfield 25, 3) := by decide +kernel
theorem dX3_isInBox_70 : decode cX3_isInBox 70 = .ok (.iload_n 2, 1) := by decide +kernel
theorem dX3_isInBox_71 : decode cX3_isInBox 71 = .ok (.iaload, 1) := by decide +kernel
theorem dX3_isInBox_72 : decode cX3_isInBox 72 = .ok (.invokestatic 105, 3) := by decide +kernel
theorem dX3_isInBox_75 : decode cX3_isInBox 75 = .ok (.if_icmp .gt 7, 3) := by decide +kernel
theorem dX3_isInBox_78 : decode cX3_isInBox 78 = .ok (.iconst 1, 1) := by decide +kernel
theorem dX3_isInBox_79 : decode cX3_isInBox 79 = .ok (.goto 4, 3) := by decide +kernel
theorem dX3_isInBox_82 : decode cX3_isInBox 82 = .ok (.iconst 0, 1) := by decide +kernel
theorem dX3_isInBox_83 : decode cX3_isInBox 83 = .ok (.ireturn, 1) := by decide +kernel
theorem dX3_placeOnMark_0 : decode cX3_placeOnMark 0 = .ok (.aload_n 0, 1) := by decide +kernel
theorem dX3_placeOnMark_1 : decode cX3_placeOnMark 1 = .ok (.getfield 9, 3) := by decide +kernel
theorem dX3_placeOnMark_4 : decode cX3_placeOnMark 4 = .ok (.iconst 2, 1) := by decide +kernel
theorem dX3_placeOnMark_5 : decode cX3_placeOnMark 5 = .ok (.if_icmp .ne 7, 3) := by decide +kernel
theorem dX3_placeOnMark_8 : decode cX3_placeOnMark 8 = .ok (.iconst 1, 1) := by decide +kernel
theorem dX3_placeOnMark_9 : decode cX3_placeOnMark 9 = .ok (.goto 4, 3) := by decide +kernel
theorem dX3_placeOnMark_12 : decode cX3_placeOnMark 12 = .ok (.iconst 0, 1) := by decide +kernel
theorem dX3_placeOnMark_13 : decode cX3_placeOnMark 13 = .ok (.ireturn, 1) := by decide +kernel
theorem dX3_placeOnSegment_0 : decode cX3_placeOnSegment 0 = .ok (.aload_n 0, 1) := by decide +kernel
theorem dX3_placeOnSegment_1 : decode cX3_placeOnSegment 1 = .ok (.getfield 9, 3) := by decide +kernel
theorem dX3_placeOnSegment_4 : decode cX3_placeOnSegment 4 = .ok (.iconst 2, 1) := by decide +kernel
theorem dX3_placeOnSegment_5 : decode cX3_placeOnSegment 5 = .ok (.if_icmp .ne 7, 3) := by decide +kernel
theorem dX3_placeOnSegment_8 : decode cX3_placeOnSegment 8 = .ok (.iconst 0, 1) := by decide +kernel
theorem dX3_placeOnSegment_9 : decode cX3_placeOnSegment 9 = .ok (.goto 4, 3) := by decide +kernel
theorem dX3_placeOnSegment_12 : decode cX3_placeOnSegment 12 = .ok (.iconst 1, 1) := by decide +kernel
theorem dX3_placeOnSegment_13 : decode cX3_placeOnSegment 13 = .ok (.ireturn, 1) := by decide +kernel
theorem dX3_placeOffSegments_0 : decode cX3_placeOffSegments 0 = .ok (.aload_n 0, 1) := by decide +kernel
theorem dX3_placeOffSegments_1 : decode cX3_placeOffSegments 1 = .ok (.getfield 9, 3) := by decide +kernel
theorem dX3_placeOffSegments_4 : decode cX3_placeOffSegments 4 = .ok (.iconst 3, 1) := by decide +kernel
theorem dX3_placeOffSegments_5 : decode cX3_placeOffSegments 5 = .ok (.if_icmp .ne 11, 3) := by decide +kernel
theorem dX3_placeOffSegments_8 : decode cX3_placeOffSegments 8 = .ok (.iload_n 1, 1) := by decide +kernel
theorem dX3_placeOffSegments_9 : decode cX3_placeOffSegments 9 = .ok (.ifCond .eq 7, 3) := by decide +kernel
theorem dX3_placeOffSegments_12 : decode cX3_placeOffSegments 12 = .ok (.iconst 0, 1) := by decide +kernel
theorem dX3_placeOffSegments_13 : decode cX3_placeOffSegments 13 = .ok (.goto 4, 3) := by decide +kernel
theorem dX3_placeOffSegments_16 : decode cX3_placeOffSegments 16 = .ok (.iconst 2, 1) := by decide +kernel
theorem dX3_placeOffSegments_17 : decode cX3_placeOffSegments 17 = .ok (.ireturn, 1) := by decide +kernel
