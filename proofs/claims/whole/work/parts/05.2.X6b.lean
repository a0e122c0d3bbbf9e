theorem dX6_between_33 : decode cX6_between 33 = .ok (.iconst 2, 1) := by decide +kernel
theorem dX6_between_34 : decode cX6_between 34 = .ok (.iconst 5, 1) := by decide +kernel
theorem dX6_between_35 : decode cX6_between 35 = .ok (.invokevirtual 121, 3) := by decide +kernel
theorem dX6_between_38 : decode cX6_between 38 = .ok (.aload_n 0, 1) := by decide +kernel
theorem dX6_between_39 : decode cX6_between 39 = .ok (.iconst 0, 1) := by decide +kernel
theorem dX6_between_40 : decode cX6_between 40 = .ok (.iconst 4, 1) := by decide +kernel
theorem dX6_between_41 : decode cX6_between 41 = .ok (.iconst 3, 1) := by decide +kernel
theorem dX6_between_42 : decode cX6_between 42 = .ok (.invokevirtual 121, 3) := by decide +kernel
theorem dX6_between_45 : decode cX6_between 45 = .ok (.aload_n 0, 1) := by decide +kernel
theorem dX6_between_46 : decode cX6_between 46 = .ok (.iconst 0, 1) := by decide +kernel
theorem dX6_between_47 : decode cX6_between 47 = .ok (.invokevirtual 101, 3) := by decide +kernel
theorem dX6_between_50 : decode cX6_between 50 = .ok (.aload_n 0, 1) := by decide +kernel
theorem dX6_between_51 : decode cX6_between 51 = .ok (.iconst 1, 1) := by decide +kernel
theorem dX6_between_52 : decode cX6_between 52 = .ok (.invokevirtual 97, 3) := by decide +kernel
theorem dX6_between_55 : decode cX6_between 55 = .ok (.aload_n 0, 1) := by decide +kernel
theorem dX6_between_56 : decode cX6_between 56 = .ok (.iconst 1, 1) := by decide +kernel
theorem dX6_between_57 : decode cX6_between 57 = .ok (.iconst 3, 1) := by decide +kernel
theorem dX6_between_58 : decode cX6_between 58 = .ok (.iconst 5, 1) := by decide +kernel
theorem dX6_between_59 : decode cX6_between 59 = .ok (.invokevirtual 121, 3) := by decide +kernel
theorem dX6_between_62 : decode cX6_between 62 = .ok (.aload_n 0, 1) := by decide +kernel
theorem dX6_between_63 : decode cX6_between 63 = .ok (.iconst 1, 1) := by decide +kernel
theorem dX6_between_64 : decode cX6_between 64 = .ok (.iconst 3, 1) := by decide +kernel
theorem dX6_between_65 : decode cX6_between 65 = .ok (.iconst 5, 1) := by decide +kernel
theorem dX6_between_66 : decode cX6_between 66 = .ok (.invokevirtual 121, 3) := by decide +kernel
theorem dX6_between_69 : decode cX6_between 69 = .ok (.aload_n 0, 1) := by decide +kernel
theorem dX6_between_70 : decode cX6_between 70 = .ok (.iconst 1, 1) := by decide +kernel
theorem dX6_between_71 : decode cX6_between 71 = .ok (.invokevirtual 101, 3) := by decide +kernel
theorem dX6_between_74 : decode cX6_between 74 = .ok (.return_, 1) := by decide +kernel
set_option maxRecDepth 20000 in
theorem ggX6_sgn_X6_set : GoodIn wsX6_sgn wsX6_set := goodIn_r _ [5, 6, 7, 8, 9, 10, 4, 11, 12, 13, 14, 15, 16, 25, 26, 27, 28, 29, 30, 31, 32, 33, 34, 35, 36, 37, 38, 39, 40, 41, 42, 43, 44, 45] (by decide +kernel) (by decide +kernel)
set_option maxRecDepth 20000 in
theorem gX6_sgn_X6_set : GoodIn wsX6_sgn (wsV RX6 117 RX6 yX6_set wsX6_set) := goodIn_app (goodIn_of _ (by decide +kernel)) ggX6_sgn_X6_set
set_option maxRecDepth 20000 in
theorem ggX6_sgn_X6_clear : GoodIn wsX6_sgn wsX6_clear := goodIn_r _ [11, 6, 25, 26, 27, 28, 29, 30, 31, 32, 33, 34, 35, 36, 37, 38, 39, 40, 41, 42, 43, 44, 45] (by decide +kernel) (by decide +kernel)
set_option maxRecDepth 20000 in
theorem gX6_sgn_X6_clear : GoodIn wsX6_sgn (wsV RX6 97 RX6 yX6_clear wsX6_clear) := goodIn_app (goodIn_of _ (by decide +kernel)) ggX6_sgn_X6_clear
set_option maxRecDepth 20000 in
theorem ggX6_sgn_X6_product : GoodIn wsX6_sgn wsX6_product := goodIn_r _ [20, 6, 25, 26, 27, 28, 29, 30, 31, 32, 33, 34, 35, 36, 37, 38, 39, 40, 41, 42, 43, 44, 45] (by decide +kernel) (by decide +kernel)
set_option maxRecDepth 20000 in
theorem gX6_sgn_X6_product : GoodIn wsX6_sgn (wsV RX6 121 RX6 yX6_product wsX6_product) := goodIn_app (goodIn_of _ (by decide +kernel)) ggX6_sgn_X6_product
set_option maxRecDepth 20000 in
theorem ggX6_sgn_X6_settle : GoodIn wsX6_sgn wsX6_settle := goodIn_r _ [15, 6, 16, 7, 25, 26, 27, 28, 29, 30, 31, 32, 33, 34, 35, 36, 37, 38, 39, 40, 41, 42, 43, 44, 45] (by decide +kernel) (by decide +kernel)
set_option maxRecDepth 20000 in
theorem gX6_sgn_X6_settle : GoodIn wsX6_sgn (wsV RX6 101 RX6 yX6_settle wsX6_settle) := goodIn_app (goodIn_of _ (by decide +kernel)) ggX6_sgn_X6_settle
set_option maxRecDepth 20000 in
theorem ggX6_sgn_X6_signOf : GoodIn wsX6_sgn wsX6_signOf := goodIn_r _ [24, 6, 25, 26, 27, 28, 29, 30, 31, 32, 33, 34, 35, 36, 37, 38, 39, 40, 41, 42, 43, 44, 45] (by decide +kernel) (by decide +kernel)
set_option maxRecDepth 20000 in
theorem gX6_sgn_X6_signOf : GoodIn wsX6_sgn (wsV RX6 124 RX6 yX6_signOf wsX6_signOf) := goodIn_app (goodIn_of _ (by decide +kernel)) ggX6_sgn_X6_signOf
theorem dX6_sgn_0 : decode cX6_sgn 0 = .ok (.aload_n 0, 1) := by decide +kernel
theorem dX6_sgn_1 : decode cX6_sgn 1 = .ok (.bipush 6, 2) := by decide +kernel
theorem dX6_sgn_3 : decode cX6_sgn 3 = .ok (.lload_n 1, 1) := by decide +kernel
theorem dX6_sgn_4 : decode cX6_sgn 4 = .ok (.invokevirtual 117, 3) := by decide +kernel
theorem dX6_sgn_7 : decode cX6_sgn 7 = .ok (.aload_n 0, 1) := by decide +kernel
theorem dX6_sgn_8 : decode cX6_sgn 8 = .ok (.bipush 7, 2) := by decide +kernel
theorem dX6_sgn_10 : decode cX6_sgn 10 = .ok (.lload_n 3, 1) := by decide +kernel
theorem dX6_sgn_11 : decode cX6_sgn 11 = .ok (.invokevirtual 117, 3) := by decide +kernel
theorem dX6_sgn_14 : decode cX6_sgn 14 = .ok (.aload_n 0, 1) := by decide +kernel
theorem dX6_sgn_15 : decode cX6_sgn 15 = .ok (.bipush 8, 2) := by decide +kernel
theorem dX6_sgn_17 : decode cX6_sgn 17 = .ok (.invokevirtual 97, 3) := by decide +kernel
theorem dX6_sgn_20 : decode cX6_sgn 20 = .ok (.aload_n 0, 1) := by decide +kernel
theorem dX6_sgn_21 : decode cX6_sgn 21 = .ok (.bipush 8, 2) := by decide +kernel
theorem dX6_sgn_23 : decode cX6_sgn 23 = .ok (.bipush 6, 2) := by decide +kernel
theorem dX6_sgn_25 : decode cX6_sgn 25 = .ok (.iconst 1, 1) := by decide +kernel
theorem dX6_sgn_26 : decode cX6_sgn 26 = .ok (.invokevirtual 121, 3) := by decide +kernel
theorem dX6_sgn_29 : decode cX6_sgn 29 = .ok (.aload_n 0, 1) := by decide +kernel
theorem dX6_sgn_30 : decode cX6_sgn 30 = .ok (.bipush 8, 2) := by decide +kernel
theorem dX6_sgn_32 : decode cX6_sgn 32 = .ok (.bipush 7, 2) := by decide +kernel
theorem dX6_sgn_34 : decode cX6_sgn 34 = .ok (.iconst 0, 1) := by decide +kernel
theorem dX6_sgn_35 : decode cX6_sgn 35 = .ok (.invokevirtual 121, 3) := by decide +kernel
theorem dX6_sgn_38 : decode cX6_sgn 38 = .ok (.aload_n 0, 1) := by decide +kernel
theorem dX6_sgn_39 : decode cX6_sgn 39 = .ok (.bipush 8, 2) := by decide +kernel
theorem dX6_sgn_41 : decode cX6_sgn 41 = .ok (.invokevirtual 101, 3) := by decide +kernel
theorem dX6_sgn_44 : decode cX6_sgn 44 = .ok (.aload_n 0, 1) := by decide +kernel
theorem dX6_sgn_45 : decode cX6_sgn 45 = .ok (.bipush 8, 2) := by decide +kernel
theorem dX6_sgn_47 : decode cX6_sgn 47 = .ok (.invokevirtual 124, 3) := by decide +kernel
theorem dX6_sgn_50 : decode cX6_sgn 50 = .ok (.ireturn, 1) := by decide +kernel
set_option maxRecDepth 20000 in
theorem ggX6_overX_X6_sgn : GoodIn wsX6_overX wsX6_sgn := goodIn_r _ [7, 8, 9, 10, 6, 11, 12, 13, 14, 15, 16, 17, 18, 19, 20, 21, 22, 23, 24, 25, 26, 27, 28, 29, 30, 31, 32, 33, 34, 35, 36, 37, 38, 39, 40, 41, 42, 43, 44, 45, 46, 47, 48, 49, 50, 51] (by decide +kernel) (by decide +kernel)
set_option maxRecDepth 20000 in
theorem gX6_overX_X6_sgn : GoodIn wsX6_overX (wsV RX6 127 RX6 yX6_sgn wsX6_sgn) := goodIn_app (goodIn_of _ (by decide +kernel)) ggX6_overX_X6_sgn
theorem dX6_overX_0 : decode cX6_overX 0 = .ok (.aload_n 0, 1) := by decide +kernel
theorem dX6_overX_1 : decode cX6_overX 1 = .ok (.aload_n 0, 1) := by decide +kernel
theorem dX6_overX_2 : decode cX6_overX 2 = .ok (.getfield 104, 3) := by decide +kernel
theorem dX6_overX_5 : decode cX6_overX 5 = .ok (.lload_n 1, 1) := by decide +kernel
theorem dX6_overX_6 : decode cX6_overX 6 = .ok (.lsub, 1) := by decide +kernel
theorem dX6_overX_7 : decode cX6_overX 7 = .ok (.aload_n 0, 1) := by decide +kernel
theorem dX6_overX_8 : decode cX6_overX 8 = .ok (.getfield 111, 3) := by decide +kernel
theorem dX6_overX_11 : decode cX6_overX 11 = .ok (.invokevirtual 127, 3) := by decide +kernel
theorem dX6_overX_14 : decode cX6_overX 14 = .ok (.ireturn, 1) := by decide +kernel
set_option maxRecDepth 20000 in
theorem ggX6_overY_X6_sgn : GoodIn wsX6_overY wsX6_sgn := goodIn_r _ [7, 8, 9, 10, 6, 11, 12, 13, 14, 15, 16, 17, 18, 19, 20, 21, 22, 23, 24, 25, 26, 27, 28, 29, 30, 31, 32, 33, 34, 35, 36, 37, 38, 39, 40, 41, 42, 43, 44, 45, 46, 47, 48, 49, 50, 51] (by decide +kernel) (by decide +kernel)
set_option maxRecDepth 20000 in
theorem gX6_overY_X6_sgn : GoodIn wsX6_overY (wsV RX6 127 RX6 yX6_sgn wsX6_sgn) := goodIn_app (goodIn_of _ (by decide +kernel)) ggX6_overY_X6_sgn
theorem dX6_overY_0 : decode cX6_overY 0 = .ok (.aload_n 0, 1) := by decide +kernel
theorem dX6_overY_1 : decode cX6_overY 1 = .ok (.aload_n 0, 1) := by decide +kernel
theorem dX6_overY_2 : decode cX6_overY 2 = .ok (.getfield 108, 3) := by decide +kernel
theorem dX6_overY_5 : decode cX6_overY 5 = .ok (.lload_n 1, 1) := by decide +kernel
theorem dX6_overY_6 : decode cX6_overY 6 = .ok (.lsub, 1) := by decide +kernel
theorem dX6_overY_7 : decode cX6_overY 7 = .ok (.aload_n 0, 1) := by decide +kernel
theorem dX6_overY_8 : decode cX6_overY 8 = .ok (.getfield 114, 3) := by decide +kernel
theorem dX6_overY_11 : decode cX6_overY 11 = .ok (.invokevirtual 127, 3) := by decide +kernel
theorem dX6_overY_14 : decode cX6_overY 14 = .ok (.ireturn, 1) := by decide +kernel
set_option maxRecDepth 20000 in
theorem ggX6_side_X6_sgn : GoodIn wsX6_side wsX6_sgn := goodIn_r _ [11, 12, 13, 14, 10, 15, 16, 17, 18, 19, 20, 21, 22, 23, 24, 25, 26, 27, 28, 29, 30, 31, 32, 33, 34, 35, 36, 37, 38, 39, 40, 41, 42, 43, 44, 45, 46, 47, 48, 49, 50, 51, 52, 53, 54, 55] (by decide +kernel) (by decide +kernel)
set_option maxRecDepth 20000 in
theorem gX6_side_X6_sgn : GoodIn wsX6_side (wsV RX6 127 RX6 yX6_sgn wsX6_sgn) := goodIn_app (goodIn_of _ (by decide +kernel)) ggX6_side_X6_sgn
theorem dX6_side_0 : decode cX6_side 0 = .ok (.aload_n 0, 1) := by decide +kernel
theorem dX6_side_1 : decode cX6_side 1 = .ok (.getfield 22, 3) := by decide +kernel
theorem dX6_side_4 : decode cX6_side 4 = .ok (.iload_n 2, 1) := by decide +kernel
theorem dX6_side_5 : decode cX6_side 5 = .ok (.iaload, 1) := by decide +kernel
theorem dX6_side_6 : decode cX6_side 6 = .ok (.i2l, 1) := by decide +kernel
theorem dX6_side_7 : decode cX6_side 7 = .ok (.aload_n 0, 1) := by decide +kernel
theorem dX6_side_8 : decode cX6_side 8 = .ok (.getfield 22, 3) := by decide +kernel
theorem dX6_side_11 : decode cX6_side 11 = .ok (.iload_n 1, 1) := by decide +kernel
theorem dX6_side_12 : decode cX6_side 12 = .ok (.iaload, 1) := by decide +kernel
theorem dX6_side_13 : decode cX6_side 13 = .ok (.i2l, 1) := by decide +kernel
theorem dX6_side_14 : decode cX6_side 14 = .ok (.lsub, 1) := by decide +kernel
theorem dX6_side_15 : decode cX6_side 15 = .ok (.lstore_n 3, 1) := by decide +kernel
theorem dX6_side_16 : decode cX6_side 16 = .ok (.aload_n 0, 1) := by decide +kernel
theorem dX6_side_17 : decode cX6_side 17 = .ok (.getfield 25, 3) := by decide +kernel
theorem dX6_side_20 : decode cX6_side 20 = .ok (.iload_n 2, 1) := by decide +kernel
theorem dX6_side_21 : decode cX6_side 21 = .ok (.iaload, 1) := by decide +kernel
theorem dX6_side_22 : decode cX6_side 22 = .ok (.i2l, 1) := by decide +kernel
theorem dX6_side_23 : decode cX6_side 23 = .ok (.aload_n 0, 1) := by decide +kernel
theorem dX6_side_24 : decode cX6_side 24 = .ok (.getfield 25, 3) := by decide +kernel
theorem dX6_side_27 : decode cX6_side 27 = .ok (.iload_n 1, 1) := by decide +kernel
theorem dX6_side_28 : decode cX6_side 28 = .ok (.iaload, 1) := by decide +kernel
theorem dX6_side_29 : decode cX6_side 29 = .ok (.i2l, 1) := by decide +kernel
theorem dX6_side_30 : decode cX6_side 30 = .ok (.lsub, 1) := by decide +kernel
theorem dX6_side_31 : decode cX6_side 31 = .ok (.lstore 5, 2) := by decide +kernel
theorem dX6_side_33 : decode cX6_side 33 = .ok (.aload_n 0, 1) := by decide +kernel
theorem dX6_side_34 : decode cX6_side 34 = .ok (.lload_n 3, 1) := by decide +kernel
theorem dX6_side_35 : decode cX6_side 35 = .ok (.aload_n 0, 1) := by decide +kernel
theorem dX6_side_36 : decode cX6_side 36 = .ok (.getfield 108, 3) := by decide +kernel
theorem dX6_side_39 : decode cX6_side 39 = .ok (.aload_n 0, 1) := by decide +kernel
theorem dX6_side_40 : decode cX6_side 40 = .ok (.getfield 25, 3) := by decide +kernel
theorem dX6_side_43 : decode cX6_side 43 = .ok (.iload_n 1, 1) := by decide +kernel
theorem dX6_side_44 : decode cX6_side 44 = .ok (.iaload, 1) := by decide +kernel
theorem dX6_side_45 : decode cX6_side 45 = .ok (.i2l, 1) := by decide +kernel
theorem dX6_side_46 : decode cX6_side 46 = .ok (.lsub, 1) := by decide +kernel
theorem dX6_side_47 : decode cX6_side 47 = .ok (.lmul, 1) := by decide +kernel
theorem dX6_side_48 : decode cX6_side 48 = .ok (.lload 5, 2) := by decide +kernel
theorem dX6_side_50 : decode cX6_side 50 = .ok (.aload_n 0, 1) := by decide +kernel
theorem dX6_side_51 : decode cX6_side 51 = .ok (.getfield 104, 3) := by decide +kernel
theorem dX6_side_54 : decode cX6_side 54 = .ok (.aload_n 0, 1) := by decide +kernel
theorem dX6_side_55 : decode cX6_side 55 = .ok (.getfield 22, 3) := by decide +kernel
theorem dX6_side_58 : decode cX6_side 58 = .ok (.iload_n 1, 1) := by decide +kernel
theorem dX6_side_59 : decode cX6_side 59 = .ok (.iaload, 1) := by decide +kernel
theorem dX6_side_60 : decode cX6_side 60 = .ok (.i2l, 1) := by decide +kernel
theorem dX6_side_61 : decode cX6_side 61 = .ok (.lsub, 1) := by decide +kernel
theorem dX6_side_62 : decode cX6_side 62 = .ok (.lmul, 1) := by decide +kernel
theorem dX6_side_63 : decode cX6_side 63 = .ok (.lsub, 1) := by decide +kernel
theorem dX6_side_64 : decode cX6_side 64 = .ok (.lload_n 3, 1) := by decide +kernel
theorem dX6_side_65 : decode cX6_side 65 = .ok (.aload_n 0, 1) := by decide +kernel
theorem dX6_side_66 : decode cX6_side 66 = .ok (.getfield 114, 3) := by decide +kernel
theorem dX6_side_69 : decode cX6_side 69 = .ok (.lmul, 1) := by decide +kernel
theorem dX6_side_70 : decode cX6_side 70 = .ok (.lload 5, 2) := by decide +kernel
theorem dX6_side_72 : decode cX6_side 72 = .ok (.aload_n 0, 1) := by decide +kernel
theorem dX6_side_73 : decode cX6_side 73 = .ok (.getfield 111, 3) := by decide +kernel
theorem dX6_side_76 : decode cX6_side 76 = .ok (.lmul, 1) := by decide +kernel
theorem dX6_side_77 : decode cX6_side 77 = .ok (.lsub, 1) := by decide +kernel
theorem dX6_side_78 : decode cX6_side 78 = .ok (.invokevirtual 127, 3) := by decide +kernel
theorem dX6_side_81 : decode cX6_side 81 = .ok (.ireturn, 1) := by decide +kernel
set_option maxRecDepth 20000 in
theorem ggX6_isPoint_X6_overX : GoodIn wsX6_isPoint wsX6_overX := goodIn_r _ [7, 8, 9, 10, 11, 12, 6, 13, 14, 15, 16, 17, 18, 19, 20, 21, 22, 23, 24, 25, 26, 27, 28, 29, 30, 31, 32, 33, 34, 35, 36, 43, 44, 45, 46, 47, 48, 49, 50, 51, 52, 53, 54, 55, 56, 57, 58, 59, 60, 61, 62, 63] (by decide +kernel) (by decide +kernel)
set_option maxRecDepth 20000 in
theorem gX6_isPoint_X6_overX : GoodIn wsX6_isPoint (wsV RX6 131 RX6 yX6_overX wsX6_overX) := goodIn_app (goodIn_of _ (by decide +kernel)) ggX6_isPoint_X6_overX
set_option maxRecDepth 20000 in
theorem ggX6_isPoint_X6_overY : GoodIn wsX6_isPoint wsX6_overY := goodIn_r _ [40, 41, 42, 10, 11, 12, 6, 13, 14, 15, 16, 17, 18, 19, 20, 21, 22, 23, 24, 25, 26, 27, 28, 29, 30, 31, 32, 33, 34, 35, 36, 43, 44, 45, 46, 47, 48, 49, 50, 51, 52, 53, 54, 55, 56, 57, 58, 59, 60, 61, 62, 63] (by decide +kernel) (by decide +kernel)
set_option maxRecDepth 20000 in
theorem gX6_isPoint_X6_overY : GoodIn wsX6_isPoint (wsV RX6 135 RX6 yX6_overY wsX6_overY) := goodIn_app (goodIn_of _ (by decide +kernel)) ggX6_isPoint_X6_overY
theorem dX6_isPoint_0 : decode cX6_isPoint 0 = .ok (.aload_n 0, 1) := by decide +kernel
theorem dX6_isPoint_1 : decode cX6_isPoint 1 = .ok (.aload_n 0, 1) := by decide +kernel
theorem dX6_isPoint_2 : decode cX6_isPoint 2 = .ok (.getfield 22, 3) := by decide +kernel
theorem dX6_isPoint_5 : decode cX6_isPoint 5 = .ok (.iload_n 1, 1) := by decide +kernel
theorem dX6_isPoint_6 : decode cX6_isPoint 6 = .ok (.iaload, 1) := by decide +kernel
theorem dX6_isPoint_7 : decode cX6_isPoint 7 = .ok (.i2l, 1) := by decide +kernel
theorem dX6_isPoint_8 : decode cX6_isPoint 8 = .ok (.invokevirtual 131, 3) := by decide +kernel
theorem dX6_isPoint_11 : decode cX6_isPoint 11 = .ok (.ifCond .ne 21, 3) := by decide +kernel
theorem dX6_isPoint_14 : decode cX6_isPoint 14 = .ok (.aload_n 0, 1) := by decide +kernel
theorem dX6_isPoint_15 : decode cX6_isPoint 15 = .ok (.aload_n 0, 1) := by decide +kernel
theorem dX6_isPoint_16 : decode cX6_isPoint 16 = .ok (.getfield 25, 3) := by decide +kernel
theorem dX6_isPoint_19 : decode cX6_isPoint 19 = .ok (.iload_n 1, 1) := by decide +kernel
theorem dX6_isPoint_20 : decode cX6_isPoint 20 = .ok (.iaload, 1) := by decide +kernel
theorem dX6_isPoint_21 : decode cX6_isPoint 21 = .ok (.i2l, 1) := by decide +kernel
theorem dX6_isPoint_22 : decode cX6_isPoint 22 = .ok (.invokevirtual 135, 3) := by decide +kernel
theorem dX6_isPoint_25 : decode cX6_isPoint 25 = .ok (.ifCond .ne 7, 3) := by decide +kernel
theorem dX6_isPoint_28 : decode cX6_isPoint 28 = .ok (.iconst 1, 1) := by decide +kernel
theorem dX6_isPoint_29 : decode cX6_isPoint 29 = .ok (.goto 4, 3) := by decide +kernel
theorem dX6_isPoint_32 : decode cX6_isPoint 32 = .ok (.iconst 0, 1) := by decide +kernel
theorem dX6_isPoint_33 : decode cX6_isPoint 33 = .ok (.ireturn, 1) := by decide +kernel
set_option maxRecDepth 20000 in
theorem ggX6_isOn_X6_overX : GoodIn wsX6_isOn wsX6_overX := goodIn_r _ [9, 10, 11, 12, 13, 14, 8, 15, 16, 17, 18, 19, 20, 21, 22, 23, 24, 25, 26, 27, 28, 29, 30, 31, 32, 33, 34, 35, 36, 37, 38, 49, 50, 51, 52, 53, 54, 55, 56, 57, 58, 59, 60, 61, 62, 63, 64, 65, 66, 67, 68, 69] (by decide +kernel) (by decide +kernel)
set_option maxRecDepth 20000 in
theorem gX6_isOn_X6_overX : GoodIn wsX6_isOn (wsV RX6 131 RX6 yX6_overX wsX6_overX) := goodIn_app (goodIn_of _ (by decide +kernel)) ggX6_isOn_X6_overX
set_option maxRecDepth 20000 in
theorem ggX6_isOn_X6_overY : GoodIn wsX6_isOn wsX6_overY := goodIn_r _ [42, 43, 44, 12, 13, 14, 8, 15, 16, 17, 18, 19, 20, 21, 22, 23, 24, 25, 26, 27, 28, 29, 30, 31, 32, 33, 34, 35, 36, 37, 38, 49, 50, 51, 52, 53, 54, 55, 56, 57, 58, 59, 60, 61, 62, 63, 64, 65, 66, 67, 68, 69] (by decide +kernel) (by decide +kernel)
set_option maxRecDepth 20000 in
theorem gX6_isOn_X6_overY : GoodIn wsX6_isOn (wsV RX6 135 RX6 yX6_overY wsX6_overY) := goodIn_app (goodIn_of _ (by decide +kernel)) ggX6_isOn_X6_overY
set_option maxRecDepth 20000 in
theorem ggX6_isOn_X6_side : GoodIn wsX6_isOn wsX6_side := goodIn_r _ [48, 3, 4, 43, 10, 44, 11, 12, 13, 14, 8, 15, 16, 17, 18, 19, 20, 21, 22, 23, 24, 25, 26, 27, 28, 29, 30, 31, 32, 33, 34, 35, 36, 37, 38, 49, 50, 51, 52, 53, 54, 55, 56, 57, 58, 59, 60, 61, 62, 63, 64, 65, 66, 67, 68, 69] (by decide +kernel) (by decide +kernel)
set_option maxRecDepth 20000 in
theorem gX6_isOn_X6_side : GoodIn wsX6_isOn (wsV RX6 138 RX6 yX6_side wsX6_side) := goodIn_app (goodIn_of _ (by decide +kernel)) ggX6_isOn_X6_side
theorem dX6_isOn_0 : decode cX6_isOn 0 = .ok (.aload_n 0, 1) := by decide +kernel
theorem dX6_isOn_1 : decode cX6_isOn 1 = .ok (.getfield 28, 3) := by decide +kernel
theorem dX6_isOn_4 : decode cX6_isOn 4 = .ok (.iload_n 1, 1) := by decide +kernel
theorem dX6_isOn_5 : decode cX6_isOn 5 = .ok (.iaload, 1) := by decide +kernel
theorem dX6_isOn_6 : decode cX6_isOn 6 = .ok (.istore_n 2, 1) := by decide +kernel
theorem dX6_isOn_7 : decode cX6_isOn 7 = .ok (.aload_n 0, 1) := by decide +kernel
theorem dX6_isOn_8 : decode cX6_isOn 8 = .ok (.getfield 31, 3) := by decide +kernel
theorem dX6_isOn_11 : decode cX6_isOn 11 = .ok (.iload_n 1, 1) := by decide +kernel
theorem dX6_isOn_12 : decode cX6_isOn 12 = .ok (.iaload, 1) := by decide +kernel
theorem dX6_isOn_13 : decode cX6_isOn 13 = .ok (.istore_n 3, 1) := by decide +kernel
theorem dX6_isOn_14 : decode cX6_isOn 14 = .ok (.aload_n 0, 1) := by decide +kernel
theorem dX6_isOn_15 : decode cX6_isOn 15 = .ok (.aload_n 0, 1) := by decide +kernel
theorem dX6_isOn_16 : decode cX6_isOn 16 = .ok (.getfield 22, 3) := by decide +kernel
theorem dX6_isOn_19 : decode cX6_isOn 19 = .ok (.iload_n 2, 1) := by decide +kernel
theorem dX6_isOn_20 : decode cX6_isOn 20 = .ok (.iaload, 1) := by decide +kernel
theorem dX6_isOn_21 : decode cX6_isOn 21 = .ok (.i2l, 1) := by decide +kernel
theorem dX6_isOn_22 : decode cX6_isOn 22 = .ok (.invokevirtual 131, 3) := by decide +kernel
theorem dX6_isOn_25 : decode cX6_isOn 25 = .ok (.aload_n 0, 1) := by decide +kernel
theorem dX6_isOn_26 : decode cX6_isOn 26 = .ok (.aload_n 0, 1) := by decide +kernel
theorem dX6_isOn_27 : decode cX6_isOn 27 = .ok (.getfield 22, 3) := by decide +kernel
theorem dX6_isOn_30 : decode cX6_isOn 30 = .ok (.iload_n 3, 1) := by decide +kernel
theorem dX6_isOn_31 : decode cX6_isOn 31 = .ok (.iaload, 1) := by decide +kernel
theorem dX6_isOn_32 : decode cX6_isOn 32 = .ok (.i2l, 1) := by decide +kernel
theorem dX6_isOn_33 : decode cX6_isOn 33 = .ok (.invokevirtual 131, 3) := by decide +kernel
theorem dX6_isOn_36 : decode cX6_isOn 36 = .ok (.imul, 1) := by decide +kernel
theorem dX6_isOn_37 : decode cX6_isOn 37 = .ok (.ifCond .gt 42, 3) := by decide +kernel
theorem dX6_isOn_40 : decode cX6_isOn 40 = .ok (.aload_n 0, 1) := by decide +kernel
theorem dX6_isOn_41 : decode cX6_isOn 41 = .ok (.aload_n 0, 1) := by decide +kernel
theorem dX6_isOn_42 : decode cX6_isOn 42 = .ok (.getfield 25, 3) := by decide +kernel
theorem dX6_isOn_45 : decode cX6_isOn 45 = .ok (.iload_n 2, 1) := by decide +kernel
theorem dX6_isOn_46 : decode cX6_isOn 46 = .ok (.iaload, 1) := by decide +kernel
theorem dX6_isOn_47 : decode cX6_isOn 47 = .ok (.i2l, 1) := by decide +kernel
theorem dX6_isOn_48 : decode cX6_isOn 48 = .ok (.invokevirtual 135, 3) := by decide +kernel
theorem dX6_isOn_51 : decode cX6_isOn 51 = .ok (.aload_n 0, 1) := by decide +kernel
theorem dX6_isOn_52 : decode cX6_isOn 52 = .ok (.aload_n 0, 1) := by decide +kernel
theorem dX6_isOn_53 : decode cX6_isOn 53 = .ok (.getfield 25, 3) := by decide +kernel
theorem dX6_isOn_56 : decode cX6_isOn 56 = .ok (.iload_n 3, 1) := by decide +kernel
theorem dX6_isOn_57 : decode cX6_isOn 57 = .ok (.iaload, 1) := by decide +kernel
theorem dX6_isOn_58 : decode cX6_isOn 58 = .ok (.i2l, 1) := by decide +kernel
theorem dX6_isOn_59 : decode cX6_isOn 59 = .ok (.invokevirtual 135, 3) := by decide +kernel
theorem dX6_isOn_62 : decode cX6_isOn 62 = .ok (.imul, 1) := by decide +kernel
theorem dX6_isOn_63 : decode cX6_isOn 63 = .ok (.ifCond .gt 16, 3) := by decide +kernel
theorem dX6_isOn_66 : decode cX6_isOn 66 = .ok (.aload_n 0, 1) := by decide +kernel
theorem dX6_isOn_67 : decode cX6_isOn 67 = .ok (.iload_n 2, 1) := by decide +kernel
theorem dX6_isOn_68 : decode cX6_isOn 68 = .ok (.iload_n 3, 1) := by decide +kernel
theorem dX6_isOn_69 : decode cX6_isOn 69 = .ok (.invokevirtual 138, 3) := by decide +kernel
theorem dX6_isOn_72 : decode cX6_isOn 72 = .ok (.ifCond .ne 7, 3) := by decide +kernel
theorem dX6_isOn_75 : decode cX6_isOn 75 = .ok (.iconst 1, 1) := by decide +kernel
theorem dX6_isOn_76 : decode cX6_isOn 76 = .ok (.goto 4, 3) := by decide +kernel
theorem dX6_isOn_79 : decode cX6_isOn 79 = .ok (.iconst 0, 1) := by decide +kernel
theorem dX6_isOn_80 : decode cX6_isOn 80 = .ok (.ireturn, 1) := by decide +kernel
set_option maxRecDepth 20000 in
theorem ggX6_crosses_X6_overY : GoodIn wsX6_crosses wsX6_overY := goodIn_r _ [8, 9, 10, 11, 12, 13, 7, 14, 15, 16, 17, 18, 19, 20, 21, 22, 23, 24, 25, 26, 27, 28, 29, 30, 31, 32, 33, 34, 35, 36, 37, 45, 46, 47, 48, 49, 50, 51, 52, 53, 54, 55, 56, 57, 58, 59, 60, 61, 62, 63, 64, 65] (by decide +kernel) (by decide +kernel)
set_option maxRecDepth 20000 in
theorem gX6_crosses_X6_overY : GoodIn wsX6_crosses (wsV RX6 135 RX6 yX6_overY wsX6_overY) := goodIn_app (goodIn_of _ (by decide +kernel)) ggX6_crosses_X6_overY
set_option maxRecDepth 20000 in
theorem ggX6_crosses_X6_side : GoodIn wsX6_crosses wsX6_side := goodIn_r _ [41, 42, 1, 9, 43, 10, 44, 11, 12, 13, 7, 14, 15, 16, 17, 18, 19, 20, 21, 22, 23, 24, 25, 26, 27, 28, 29, 30, 31, 32, 33, 34, 35, 36, 37, 45, 46, 47, 48, 49, 50, 51, 52, 53, 54, 55, 56, 57, 58, 59, 60, 61, 62, 63, 64, 65] (by decide +kernel) (by decide +kernel)
set_option maxRecDepth 20000 in
theorem gX6_crosses_X6_side : GoodIn wsX6_crosses (wsV RX6 138 RX6 yX6_side wsX6_side) := goodIn_app (goodIn_of _ (by decide +kernel)) ggX6_crosses_X6_side
theorem dX6_crosses_0 : decode cX6_crosses 0 = .ok (.aload_n 0, 1) := by decide +kernel
theorem dX6_crosses_1 : decode cX6_crosses 1 = .ok (.aload_n 0, 1) := by decide +kernel
theorem dX6_crosses_2 : decode cX6_crosses 2 = .ok (.getfield 25, 3) := by decide +kernel
theorem dX6_crosses_5 : decode cX6_crosses 5 = .ok (.aload_n 0, 1) := by decide +kernel
theorem dX6_crosses_6 : decode cX6_crosses 6 = .ok (.getfield 28, 3) := by decide +kernel
theorem dX6_crosses_9 : decode cX6_crosses 9 = .ok (.iload_n 1, 1) := by decide +kernel
theorem dX6_crosses_10 : decode cX6_crosses 10 = .ok (.iaload, 1) := by decide +kernel
theorem dX6_crosses_11 : decode cX6_crosses 11 = .ok (.iaload, 1) := by decide +kernel
theorem dX6_crosses_12 : decode cX6_crosses 12 = .ok (.i2l, 1) := by decide +kernel
theorem dX6_crosses_13 : decode cX6_crosses 13 = .ok (.invokevirtual 135, 3) := by decide +kernel
theorem dX6_crosses_16 : decode cX6_crosses 16 = .ok (.ifCond .ge 7, 3) := by decide +kernel
theorem dX6_crosses_19 : decode cX6_crosses 19 = .ok (.iconst 1, 1) := by decide +kernel
theorem dX6_crosses_20 : decode cX6_crosses 20 = .ok (.goto 4, 3) := by decide +kernel
theorem dX6_crosses_23 : decode cX6_crosses 23 = .ok (.iconst 0, 1) := by decide +kernel
theorem dX6_crosses_24 : decode cX6_crosses 24 = .ok (.istore_n 2, 1) := by decide +kernel
theorem dX6_crosses_25 : decode cX6_crosses 25 = .ok (.aload_n 0, 1) := by decide +kernel
theorem dX6_crosses_26 : decode cX6_crosses 26 = .ok (.aload_n 0, 1) := by decide +kernel
theorem dX6_crosses_27 : decode cX6_crosses 27 = .ok (.getfield 25, 3) := by decide +kernel
theorem dX6_crosses_30 : decode cX6_crosses 30 = .ok (.aload_n 0, 1) := by decide +kernel
theorem dX6_crosses_31 : decode cX6_crosses 31 = .ok (.getfield 31, 3) := by decide +kernel
theorem dX6_crosses_34 : decode cX6_crosses 34 = .ok (.iload_n 1, 1) := by decide +kernel
theorem dX6_crosses_35 : decode cX6_crosses 35 = .ok (.iaload, 1) := by decide +kernel
theorem dX6_crosses_36 : decode cX6_crosses 36 = .ok (.iaload, 1) := by decide +kernel
theorem dX6_crosses_37 : decode cX6_crosses 37 = .ok (.i2l, 1) := by decide +kernel
theorem dX6_crosses_38 : decode cX6_crosses 38 = .ok (.invokevirtual 135, 3) := by decide +kernel
theorem dX6_crosses_41 : decode cX6_crosses 41 = .ok (.ifCond .ge 7, 3) := by decide +kernel
theorem dX6_crosses_44 : decode cX6_crosses 44 = .ok (.iconst 1, 1) := by decide +kernel
theorem dX6_crosses_45 : decode cX6_crosses 45 = .ok (.goto 4, 3) := by decide +kernel
theorem dX6_crosses_48 : decode cX6_crosses 48 = .ok (.iconst 0, 1) := by decide +kernel
theorem dX6_crosses_49 : decode cX6_crosses 49 = .ok (.istore_n 3, 1) := by decide +kernel
theorem dX6_crosses_50 : decode cX6_crosses 50 = .ok (.iload_n 2, 1) := by decide +kernel
theorem dX6_crosses_51 : decode cX6_crosses 51 = .ok (.iload_n 3, 1) := by decide +kernel
theorem dX6_crosses_52 : decode cX6_crosses 52 = .ok (.if_icmp .ne 5, 3) := by decide +kernel
theorem dX6_crosses_55 : decode cX6_crosses 55 = .ok (.iconst 0, 1) := by decide +kernel
theorem dX6_crosses_56 : decode cX6_crosses 56 = .ok (.ireturn, 1) := by decide +kernel
theorem dX6_crosses_57 : decode cX6_crosses 57 = .ok (.iload_n 2, 1) := by decide +kernel
theorem dX6_crosses_58 : decode cX6_crosses 58 = .ok (.ifCond .eq 30, 3) := by decide +kernel
theorem dX6_crosses_61 : decode cX6_crosses 61 = .ok (.aload_n 0, 1) := by decide +kernel
theorem dX6_crosses_62 : decode cX6_crosses 62 = .ok (.aload_n 0, 1) := by decide +kernel
theorem dX6_crosses_63 : decode cX6_crosses 63 = .ok (.getfield 31, 3) := by decide +kernel
theorem dX6_crosses_66 : decode cX6_crosses 66 = .ok (.iload_n 1, 1) := by decide +kernel
theorem dX6_crosses_67 : decode cX6_crosses 67 = .ok (.iaload, 1) := by decide +kernel
theorem dX6_crosses_68 : decode cX6_crosses 68 = .ok (.aload_n 0, 1) := by decide +kernel
theorem dX6_crosses_69 : decode cX6_crosses 69 = .ok (.getfield 28, 3) := by decide +kernel
theorem dX6_crosses_72 : decode cX6_crosses 72 = .ok (.iload_n 1, 1) := by decide +kernel
theorem dX6_crosses_73 : decode cX6_crosses 73 = .ok (.iaload, 1) := by decide +kernel
theorem dX6_crosses_74 : decode cX6_crosses 74 = .ok (.invokevirtual 138, 3) := by decide +kernel
theorem dX6_crosses_77 : decode cX6_crosses 77 = .ok (.ifCond .le 7, 3) := by decide +kernel
theorem dX6_crosses_80 : decode cX6_crosses 80 = .ok (.iconst 1, 1) := by decide +kernel
theorem dX6_crosses_81 : decode cX6_crosses 81 = .ok (.goto 31, 3) := by decide +kernel
theorem dX6_crosses_84 : decode cX6_crosses 84 = .ok (.iconst 0, 1) := by decide +kernel
theorem dX6_crosses_85 : decode cX6_crosses 85 = .ok (.goto 27, 3) := by decide +kernel
theorem dX6_crosses_88 : decode cX6_crosses 88 = .ok (.aload_n 0, 1) := by decide +kernel
theorem dX6_crosses_89 : decode cX6_crosses 89 = .ok (.aload_n 0, 1) := by decide +kernel
theorem dX6_crosses_90 : decode cX6_crosses 90 = .ok (.getfield 28, 3) := by decide +kernel
theorem dX6_crosses_93 : decode cX6_crosses 93 = .ok (.iload_n 1, 1) := by decide +kernel
theorem dX6_crosses_94 : decode cX6_crosses 94 = .ok (.iaload, 1) := by decide +kernel
theorem dX6_crosses_95 : decode cX6_crosses 95 = .ok (.aload_n 0, 1) := by decide +kernel
theorem dX6_crosses_96 : decode cX6_crosses 96 = .ok (.getfield 31, 3) := by decide +kernel
theorem dX6_crosses_99 : decode cX6_crosses 99 = .ok (.iload_n 1, 1) := by decide +kernel
theorem dX6_crosses_100 : decode cX6_crosses 100 = .ok (.iaload, 1) := by decide +kernel
theorem dX6_crosses_101 : decode cX6_crosses 101 = .ok (.invokevirtual 138, 3) := by decide +kernel
theorem dX6_crosses_104 : decode cX6_crosses 104 = .ok (.ifCond .le 7, 3) := by decide +kernel
theorem dX6_crosses_107 : decode cX6_crosses 107 = .ok (.iconst 1, 1) := by decide +kernel
theorem dX6_crosses_108 : decode cX6_crosses 108 = .ok (.goto 4, 3) := by decide +kernel
theorem dX6_crosses_111 : decode cX6_crosses 111 = .ok (.iconst 0, 1) := by decide +kernel
theorem dX6_crosses_112 : decode cX6_crosses 112 = .ok (.ireturn, 1) := by decide +kernel
set_option maxRecDepth 20000 in
theorem ggX6_crossed_X6_isOn : GoodIn wsX6_crossed wsX6_isOn := goodIn_r _ [7, 8, 9, 10, 11, 12, 13, 14, 6, 15, 16, 17, 18, 19, 20, 21, 22, 23, 24, 25, 26, 27, 28, 29, 30, 31, 32, 33, 34, 35, 36, 37, 38, 39, 40, 41, 42, 43, 44, 45, 46, 47, 48, 49, 50, 51, 52, 53, 54, 59, 60, 61, 62, 63, 64, 65, 66, 67, 68, 69, 70, 71, 72, 73, 74, 75, 76, 77, 78, 79] (by decide +kernel) (by decide +kernel)
set_option maxRecDepth 20000 in
theorem gX6_crossed_X6_isOn : GoodIn wsX6_crossed (wsV RX6 141 RX6 yX6_isOn wsX6_isOn) := goodIn_app (goodIn_of _ (by decide +kernel)) ggX6_crossed_X6_isOn
set_option maxRecDepth 20000 in
theorem ggX6_crossed_X6_crosses : GoodIn wsX6_crossed wsX6_crosses := goodIn_r _ [58, 11, 8, 9, 45, 46, 47, 6, 48, 49, 50, 18, 19, 20, 21, 22, 23, 24, 25, 26, 27, 28, 29, 30, 31, 32, 33, 34, 35, 36, 37, 38, 39, 40, 41, 42, 43, 44, 51, 52, 53, 54, 10, 16, 17, 59, 60, 61, 62, 63, 64, 65, 66, 67, 68, 69, 70, 71, 72, 73, 74, 75, 76, 77, 78, 79] (by decide +kernel) (by decide +kernel)
set_option maxRecDepth 20000 in
theorem gX6_crossed_X6_crosses : GoodIn wsX6_crossed (wsV RX6 144 RX6 yX6_crosses wsX6_crosses) := goodIn_app (goodIn_of _ (by decide +kernel)) ggX6_crossed_X6_crosses
theorem dX6_crossed_0 : decode cX6_crossed 0 = .ok (.iconst 0, 1) := by decide +kernel
theorem dX6_crossed_1 : decode cX6_crossed 1 = .ok (.istore_n 2, 1) := by decide +kernel
theorem dX6_crossed_2 : decode cX6_crossed 2 = .ok (.iconst 0, 1) := by decide +kernel
theorem dX6_crossed_3 : decode cX6_crossed 3 = .ok (.istore_n 3, 1) := by decide +kernel
theorem dX6_crossed_4 : decode cX6_crossed 4 = .ok (.iload_n 3, 1) := by decide +kernel
theorem dX6_crossed_5 : decode cX6_crossed 5 = .ok (.aload_n 0, 1) := by decide +kernel
theorem dX6_crossed_6 : decode cX6_crossed 6 = .ok (.getfield 79, 3) := by decide +kernel
theorem dX6_crossed_9 : decode cX6_crossed 9 = .ok (.if_icmp .ge 43, 3) := by decide +kernel
theorem dX6_crossed_12 : decode cX6_crossed 12 = .ok (.iload_n 2, 1) := by decide +kernel
theorem dX6_crossed_13 : decode cX6_crossed 13 = .ok (.aload_n 0, 1) := by decide +kernel
theorem dX6_crossed_14 : decode cX6_crossed 14 = .ok (.getfield 34, 3) := by decide +kernel
theorem dX6_crossed_17 : decode cX6_crossed 17 = .ok (.iload_n 3, 1) := by decide +kernel
theorem dX6_crossed_18 : decode cX6_crossed 18 = .ok (.iaload, 1) := by decide +kernel
theorem dX6_crossed_19 : decode cX6_crossed 19 = .ok (.iload_n 1, 1) := by decide +kernel
theorem dX6_crossed_20 : decode cX6_crossed 20 = .ok (.if_icmp .ne 23, 3) := by decide +kernel
theorem dX6_crossed_23 : decode cX6_crossed 23 = .ok (.aload_n 0, 1) := by decide +kernel
theorem dX6_crossed_24 : decode cX6_crossed 24 = .ok (.iload_n 3, 1) := by decide +kernel
theorem dX6_crossed_25 : decode cX6_crossed 25 = .ok (.invokevirtual 141, 3) := by decide +kernel
theorem dX6_crossed_28 : decode cX6_crossed 28 = .ok (.ifCond .ne 15, 3) := by decide +kernel
theorem dX6_crossed_31 : decode cX6_crossed 31 = .ok (.aload_n 0, 1) := by decide +kernel
theorem dX6_crossed_32 : decode cX6_crossed 32 = .ok (.iload_n 3, 1) := by decide +kernel
theorem dX6_crossed_33 : decode cX6_crossed 33 = .ok (.invokevirtual 144, 3) := by decide +kernel
theorem dX6_crossed_36 : decode cX6_crossed 36 = .ok (.ifCond .eq 7, 3) := by decide +kernel
theorem dX6_crossed_39 : decode cX6_crossed 39 = .ok (.iconst 1, 1) := by decide +kernel
theorem dX6_crossed_40 : decode cX6_crossed 40 = .ok (.goto 4, 3) := by decide +kernel
theorem dX6_crossed_43 : decode cX6_crossed 43 = .ok (.iconst 0, 1) := by decide +kernel
theorem dX6_crossed_44 : decode cX6_crossed 44 = .ok (.iadd, 1) := by decide +kernel
theorem dX6_crossed_45 : decode cX6_crossed 45 = .ok (.istore_n 2, 1) := by decide +kernel
theorem dX6_crossed_46 : decode cX6_crossed 46 = .ok (.iinc 3 1, 3) := by decide +kernel
theorem dX6_crossed_49 : decode cX6_crossed 49 = .ok (.goto (-45), 3) := by decide +kernel
theorem dX6_crossed_52 : decode cX6_crossed 52 = .ok (.iload_n 2, 1) := by decide +kernel
theorem dX6_crossed_53 : decode cX6_crossed 53 = .ok (.iconst 2, 1) := by decide +kernel
theorem dX6_crossed_54 : decode cX6_crossed 54 = .ok (.irem, 1) := by decide +kernel
theorem dX6_crossed_55 : decode cX6_crossed 55 = .ok (.ireturn, 1) := by decide +kernel
set_option maxRecDepth 20000 in
theorem ggX6_having_X6_isOn : GoodIn wsX6_having wsX6_isOn := goodIn_r _ [7, 8, 9, 10, 11, 12, 13, 14, 6, 15, 16, 17, 18, 19, 20, 21, 22, 23, 24, 25, 26, 27, 28, 29, 30, 31, 32, 33, 34, 35, 36, 37, 38, 39, 40, 41, 42, 43, 44, 45, 46, 47, 48, 49, 50, 51, 52, 53, 54, 55, 56, 57, 58, 59, 60, 61, 62, 63, 64, 65, 66, 67, 68, 69, 70, 71, 72, 73, 74, 75] (by decide +kernel) (by decide +kernel)
set_option maxRecDepth 20000 in
theorem gX6_having_X6_isOn : GoodIn wsX6_having (wsV RX6 141 RX6 yX6_isOn wsX6_isOn) := goodIn_app (goodIn_of _ (by decide +kernel)) ggX6_having_X6_isOn
theorem dX6_having_0 : decode cX6_having 0 = .ok (.iconst 0, 1) := by decide +kernel
theorem dX6_having_1 : decode cX6_having 1 = .ok (.istore_n 2, 1) := by decide +kernel
theorem dX6_having_2 : decode cX6_having 2 = .ok (.iconst 0, 1) := by decide +kernel
theorem dX6_having_3 : decode cX6_having 3 = .ok (.istore_n 3, 1) := by decide +kernel
theorem dX6_having_4 : decode cX6_having 4 = .ok (.iload_n 3, 1) := by decide +kernel
theorem dX6_having_5 : decode cX6_having 5 = .ok (.aload_n 0, 1) := by decide +kernel
theorem dX6_having_6 : decode cX6_having 6 = .ok (.getfield 79, 3) := by decide +kernel
theorem dX6_having_9 : decode cX6_having 9 = .ok (.if_icmp .ge 35, 3) := by decide +kernel
theorem dX6_having_12 : decode cX6_having 12 = .ok (.iload_n 2, 1) := by decide +kernel
theorem dX6_having_13 : decode cX6_having 13 = .ok (.aload_n 0, 1) := by decide +kernel
theorem dX6_having_14 : decode cX6_having 14 = .ok (.getfield 34, 3) := by decide +kernel
theorem dX6_having_17 : decode cX6_having 17 = .ok (.iload_n 3, 1) := by decide +kernel
theorem dX6_having_18 : decode cX6_having 18 = .ok (.iaload, 1) := by decide +kernel
theorem dX6_having_19 : decode cX6_having 19 = .ok (.iload_n 1, 1) := by decide +kernel
theorem dX6_having_20 : decode cX6_having 20 = .ok (.if_icmp .ne 15, 3) := by decide +kernel
theorem dX6_having_23 : decode cX6_having 23 = .ok (.aload_n 0, 1) := by decide +kernel
theorem dX6_having_24 : decode cX6_having 24 = .ok (.iload_n 3, 1) := by decide +kernel
theorem dX6_having_25 : decode cX6_having 25 = .ok (.invokevirtual 141, 3) := by decide +kernel
theorem dX6_having_28 : decode cX6_having 28 = .ok (.ifCond .eq 7, 3) := by decide +kernel
theorem dX6_having_31 : decode cX6_having 31 = .ok (.iconst 1, 1) := by decide +kernel
theorem dX6_having_32 : decode cX6_having 32 = .ok (.goto 4, 3) := by decide +kernel
theorem dX6_having_35 : decode cX6_having 35 = .ok (.iconst 0, 1) := by decide +kernel
theorem dX6_having_36 : decode cX6_having 36 = .ok (.iadd, 1) := by decide +kernel
theorem dX6_having_37 : decode cX6_having 37 = .ok (.istore_n 2, 1) := by decide +kernel
theorem dX6_having_38 : decode cX6_having 38 = .ok (.iinc 3 1, 3) := by decide +kernel
theorem dX6_having_41 : decode cX6_having 41 = .ok (.goto (-37), 3) := by decide +kernel
theorem dX6_having_44 : decode cX6_having 44 = .ok (.iload_n 2, 1) := by decide +kernel
theorem dX6_having_45 : decode cX6_having 45 = .ok (.ireturn, 1) := by decide +kernel
set_option maxRecDepth 20000 in
theorem ggX6_hasPoint_X6_isPoint : GoodIn wsX6_hasPoint wsX6_isPoint := goodIn_r _ [6, 7, 8, 9, 10, 11, 5, 12, 13, 14, 15, 16, 17, 18, 19, 20, 21, 22, 23, 24, 25, 26, 27, 28, 29, 30, 31, 32, 33, 34, 35, 36, 37, 38, 39, 40, 41, 42, 43, 44, 45, 46, 47, 48, 49, 50, 51, 52, 53, 54, 55, 56, 57, 58, 59, 60, 61, 62, 63, 64, 65, 66, 67, 68] (by decide +kernel) (by decide +kernel)
set_option maxRecDepth 20000 in
theorem gX6_hasPoint_X6_isPoint : GoodIn wsX6_hasPoint (wsV RX6 147 RX6 yX6_isPoint wsX6_isPoint) := goodIn_app (goodIn_of _ (by decide +kernel)) ggX6_hasPoint_X6_isPoint
theorem dX6_hasPoint_0 : decode cX6_hasPoint 0 = .ok (.iconst 0, 1) := by decide +kernel
theorem dX6_hasPoint_1 : decode cX6_hasPoint 1 = .ok (.istore_n 2, 1) := by decide +kernel
theorem dX6_hasPoint_2 : decode cX6_hasPoint 2 = .ok (.sipush 2048, 3) := by decide +kernel
theorem dX6_hasPoint_5 : decode cX6_hasPoint 5 = .ok (.iload_n 1, 1) := by decide +kernel
theorem dX6_hasPoint_6 : decode cX6_hasPoint 6 = .ok (.imul, 1) := by decide +kernel
theorem dX6_hasPoint_7 : decode cX6_hasPoint 7 = .ok (.istore_n 3, 1) := by decide +kernel
theorem dX6_hasPoint_8 : decode cX6_hasPoint 8 = .ok (.iload_n 3, 1) := by decide +kernel
theorem dX6_hasPoint_9 : decode cX6_hasPoint 9 = .ok (.sipush 2048, 3) := by decide +kernel
theorem dX6_hasPoint_12 : decode cX6_hasPoint 12 = .ok (.iload_n 1, 1) := by decide +kernel
theorem dX6_hasPoint_13 : decode cX6_hasPoint 13 = .ok (.imul, 1) := by decide +kernel
theorem dX6_hasPoint_14 : decode cX6_hasPoint 14 = .ok (.aload_n 0, 1) := by decide +kernel
theorem dX6_hasPoint_15 : decode cX6_hasPoint 15 = .ok (.getfield 13, 3) := by decide +kernel
theorem dX6_hasPoint_18 : decode cX6_hasPoint 18 = .ok (.iload_n 1, 1) := by decide +kernel
theorem dX6_hasPoint_19 : decode cX6_hasPoint 19 = .ok (.iaload, 1) := by decide +kernel
theorem dX6_hasPoint_20 : decode cX6_hasPoint 20 = .ok (.iadd, 1) := by decide +kernel
theorem dX6_hasPoint_21 : decode cX6_hasPoint 21 = .ok (.if_icmp .ge 19, 3) := by decide +kernel
theorem dX6_hasPoint_24 : decode cX6_hasPoint 24 = .ok (.iload_n 2, 1) := by decide +kernel
theorem dX6_hasPoint_25 : decode cX6_hasPoint 25 = .ok (.ifCond .ne 15, 3) := by decide +kernel
theorem dX6_hasPoint_28 : decode cX6_hasPoint 28 = .ok (.aload_n 0, 1) := by decide +kernel
theorem dX6_hasPoint_29 : decode cX6_hasPoint 29 = .ok (.iload_n 3, 1) := by decide +kernel
theorem dX6_hasPoint_30 : decode cX6_hasPoint 30 = .ok (.invokevirtual 147, 3) := by decide +kernel
theorem dX6_hasPoint_33 : decode cX6_hasPoint 33 = .ok (.istore_n 2, 1) := by decide +kernel
theorem dX6_hasPoint_34 : decode cX6_hasPoint 34 = .ok (.iinc 3 1, 3) := by decide +kernel
theorem dX6_hasPoint_37 : decode cX6_hasPoint 37 = .ok (.goto (-29), 3) := by decide +kernel
theorem dX6_hasPoint_40 : decode cX6_hasPoint 40 = .ok (.iload_n 2, 1) := by decide +kernel
theorem dX6_hasPoint_41 : decode cX6_hasPoint 41 = .ok (.ireturn, 1) := by decide +kernel
set_option maxRecDepth 20000 in
theorem ggX6_isEnd_X6_first : GoodIn wsX6_isEnd wsX6_first := goodIn_r _ [6, 7, 58, 59, 60, 61, 62, 63, 64, 65, 66, 67, 68, 69, 70, 71, 72, 73, 74, 75, 76, 77, 78] (by decide +kernel) (by decide +kernel)
set_option maxRecDepth 20000 in
theorem gX6_isEnd_X6_first : GoodIn wsX6_isEnd (wsV RX6 82 RX6 yX6_first wsX6_first) := goodIn_app (goodIn_of _ (by decide +kernel)) ggX6_isEnd_X6_first
set_option maxRecDepth 20000 in
theorem ggX6_isEnd_X6_end : GoodIn wsX6_isEnd wsX6_end := goodIn_r _ [11, 1, 7, 12, 58, 59, 60, 61, 62, 63, 64, 65, 66, 67, 68, 69, 70, 71, 72, 73, 74, 75, 76, 77, 78] (by decide +kernel) (by decide +kernel)
set_option maxRecDepth 20000 in
theorem gX6_isEnd_X6_end : GoodIn wsX6_isEnd (wsV RX6 86 RX6 yX6_end wsX6_end) := goodIn_app (goodIn_of _ (by decide +kernel)) ggX6_isEnd_X6_end
set_option maxRecDepth 20000 in
theorem ggX6_isEnd_X6_isPoint : GoodIn wsX6_isEnd wsX6_isPoint := goodIn_r _ [16, 17, 18, 19, 20, 21, 5, 22, 23, 24, 25, 26, 27, 28, 29, 30, 31, 32, 33, 34, 35, 36, 37, 38, 39, 40, 41, 42, 43, 44, 45, 46, 47, 48, 49, 50, 51, 52, 53, 54, 55, 56, 57, 58, 59, 60, 61, 62, 63, 64, 65, 66, 67, 68, 69, 70, 71, 72, 73, 74, 75, 76, 77, 78] (by decide +kernel) (by decide +kernel)
set_option maxRecDepth 20000 in
theorem gX6_isEnd_X6_isPoint : GoodIn wsX6_isEnd (wsV RX6 147 RX6 yX6_isPoint wsX6_isPoint) := goodIn_app (goodIn_of _ (by decide +kernel)) ggX6_isEnd_X6_isPoint
theorem dX6_isEnd_0 : decode cX6_isEnd 0 = .ok (.iconst 0, 1) := by decide +kernel
theorem dX6_isEnd_1 : decode cX6_isEnd 1 = .ok (.istore_n 2, 1) := by decide +kernel
theorem dX6_isEnd_2 : decode cX6_isEnd 2 = .ok (.iconst 0, 1) := by decide +kernel
theorem dX6_isEnd_3 : decode cX6_isEnd 3 = .ok (.istore_n 3, 1) := by decide +kernel
theorem dX6_isEnd_4 : decode cX6_isEnd 4 = .ok (.iload_n 3, 1) := by decide +kernel
theorem dX6_isEnd_5 : decode cX6_isEnd 5 = .ok (.aload_n 0, 1) := by decide +kernel
theorem dX6_isEnd_6 : decode cX6_isEnd 6 = .ok (.getfield 16, 3) := by decide +kernel
theorem dX6_isEnd_9 : decode cX6_isEnd 9 = .ok (.iload_n 1, 1) := by decide +kernel
theorem dX6_isEnd_10 : decode cX6_isEnd 10 = .ok (.iaload, 1) := by decide +kernel
theorem dX6_isEnd_11 : decode cX6_isEnd 11 = .ok (.if_icmp .ge 66, 3) := by decide +kernel
theorem dX6_isEnd_14 : decode cX6_isEnd 14 = .ok (.aload_n 0, 1) := by decide +kernel
theorem dX6_isEnd_15 : decode cX6_isEnd 15 = .ok (.iload_n 1, 1) := by decide +kernel
theorem dX6_isEnd_16 : decode cX6_isEnd 16 = .ok (.iload_n 3, 1) := by decide +kernel
theorem dX6_isEnd_17 : decode cX6_isEnd 17 = .ok (.invokevirtual 82, 3) := by decide +kernel
theorem dX6_isEnd_20 : decode cX6_isEnd 20 = .ok (.istore 4, 2) := by decide +kernel
theorem dX6_isEnd_22 : decode cX6_isEnd 22 = .ok (.aload_n 0, 1) := by decide +kernel
theorem dX6_isEnd_23 : decode cX6_isEnd 23 = .ok (.iload_n 1, 1) := by decide +kernel
theorem dX6_isEnd_24 : decode cX6_isEnd 24 = .ok (.iload_n 3, 1) := by decide +kernel
theorem dX6_isEnd_25 : decode cX6_isEnd 25 = .ok (.invokevirtual 86, 3) := by decide +kernel
theorem dX6_isEnd_28 : decode cX6_isEnd 28 = .ok (.istore 5, 2) := by decide +kernel
theorem dX6_isEnd_30 : decode cX6_isEnd 30 = .ok (.iload 5, 2) := by decide +kernel
theorem dX6_isEnd_32 : decode cX6_isEnd 32 = .ok (.iload 4, 2) := by decide +kernel
theorem dX6_isEnd_34 : decode cX6_isEnd 34 = .ok (.if_icmp .le 37, 3) := by decide +kernel
theorem dX6_isEnd_37 : decode cX6_isEnd 37 = .ok (.iload_n 2, 1) := by decide +kernel
theorem dX6_isEnd_38 : decode cX6_isEnd 38 = .ok (.aload_n 0, 1) := by decide +kernel
theorem dX6_isEnd_39 : decode cX6_isEnd 39 = .ok (.iload 4, 2) := by decide +kernel
theorem dX6_isEnd_41 : decode cX6_isEnd 41 = .ok (.invokevirtual 147, 3) := by decide +kernel
theorem dX6_isEnd_44 : decode cX6_isEnd 44 = .ok (.ifCond .eq 7, 3) := by decide +kernel
theorem dX6_isEnd_47 : decode cX6_isEnd 47 = .ok (.iconst 1, 1) := by decide +kernel
theorem dX6_isEnd_48 : decode cX6_isEnd 48 = .ok (.goto 4, 3) := by decide +kernel
theorem dX6_isEnd_51 : decode cX6_isEnd 51 = .ok (.iconst 0, 1) := by decide +kernel
theorem dX6_isEnd_52 : decode cX6_isEnd 52 = .ok (.aload_n 0, 1) := by decide +kernel
theorem dX6_isEnd_53 : decode cX6_isEnd 53 = .ok (.iload 5, 2) := by decide +kernel
theorem dX6_isEnd_55 : decode cX6_isEnd 55 = .ok (.iconst 1, 1) := by decide +kernel
theorem dX6_isEnd_56 : decode cX6_isEnd 56 = .ok (.isub, 1) := by decide +kernel
theorem dX6_isEnd_57 : decode cX6_isEnd 57 = .ok (.invokevirtual 147, 3) := by decide +kernel
theorem dX6_isEnd_60 : decode cX6_isEnd 60 = .ok (.ifCond .eq 7, 3) := by decide +kernel
theorem dX6_isEnd_63 : decode cX6_isEnd 63 = .ok (.iconst 1, 1) := by decide +kernel
theorem dX6_isEnd_64 : decode cX6_isEnd 64 = .ok (.goto 4, 3) := by decide +kernel
theorem dX6_isEnd_67 : decode cX6_isEnd 67 = .ok (.iconst 0, 1) := by decide +kernel
theorem dX6_isEnd_68 : decode cX6_isEnd 68 = .ok (.iadd, 1) := by decide +kernel
theorem dX6_isEnd_69 : decode cX6_isEnd 69 = .ok (.iadd, 1) := by decide +kernel
theorem dX6_isEnd_70 : decode cX6_isEnd 70 = .ok (.istore_n 2, 1) := by decide +kernel
theorem dX6_isEnd_71 : decode cX6_isEnd 71 = .ok (.iinc 3 1, 3) := by decide +kernel
theorem dX6_isEnd_74 : decode cX6_isEnd 74 = .ok (.goto (-70), 3) := by decide +kernel
theorem dX6_isEnd_77 : decode cX6_isEnd 77 = .ok (.iload_n 2, 1) := by decide +kernel
theorem dX6_isEnd_78 : decode cX6_isEnd 78 = .ok (.iconst 2, 1) := by decide +kernel
theorem dX6_isEnd_79 : decode cX6_isEnd 79 = .ok (.irem, 1) := by decide +kernel
theorem dX6_isEnd_80 : decode cX6_isEnd 80 = .ok (.iconst 1, 1) := by decide +kernel
theorem dX6_isEnd_81 : decode cX6_isEnd 81 = .ok (.if_icmp .ne 7, 3) := by decide +kernel
theorem dX6_isEnd_84 : decode cX6_isEnd 84 = .ok (.iconst 1, 1) := by decide +kernel
theorem dX6_isEnd_85 : decode cX6_isEnd 85 = .ok (.goto 4, 3) := by decide +kernel
theorem dX6_isEnd_88 : decode cX6_isEnd 88 = .ok (.iconst 0, 1) := by decide +kernel
theorem dX6_isEnd_89 : decode cX6_isEnd 89 = .ok (.ireturn, 1) := by decide +kernel
set_option maxRecDepth 20000 in
theorem ggX6_where_X6_hasPoint : GoodIn wsX6_where wsX6_hasPoint := goodIn_r _ [6, 7, 8, 9, 10, 5, 11, 12, 13, 14, 15, 16, 17, 18, 19, 20, 21, 22, 23, 24, 25, 26, 27, 28, 29, 30, 31, 32, 33, 34, 35, 36, 37, 38, 39, 40, 41, 42, 43, 44, 45, 46, 47, 48, 49, 50, 51, 52, 91, 92, 93, 94, 95, 96, 97, 98, 99, 100, 101, 102, 103, 104, 105, 106, 107, 108, 109, 110, 111] (by decide +kernel) (by decide +kernel)
set_option maxRecDepth 20000 in
theorem gX6_where_X6_hasPoint : GoodIn wsX6_where (wsV RX6 150 RX6 yX6_hasPoint wsX6_hasPoint) := goodIn_app (goodIn_of _ (by decide +kernel)) ggX6_where_X6_hasPoint
set_option maxRecDepth 20000 in
theorem ggX6_where_X6_having : GoodIn wsX6_where wsX6_having := goodIn_r _ [56, 57, 58, 59, 60, 61, 5, 62, 63, 64, 12, 13, 14, 15, 16, 17, 18, 19, 20, 21, 22, 23, 24, 25, 26, 27, 28, 29, 30, 31, 32, 33, 34, 35, 36, 37, 38, 39, 40, 41, 42, 43, 44, 45, 46, 47, 48, 49, 50, 51, 52, 65, 66, 67, 68, 91, 92, 93, 94, 95, 96, 97, 98, 99, 100, 101, 102, 103, 104, 105, 106, 107, 108, 109, 110, 111] (by decide +kernel) (by decide +kernel)
set_option maxRecDepth 20000 in
theorem gX6_where_X6_having : GoodIn wsX6_where (wsV RX6 153 RX6 yX6_having wsX6_having) := goodIn_app (goodIn_of _ (by decide +kernel)) ggX6_where_X6_having
set_option maxRecDepth 20000 in
theorem ggX6_where_X6_isEnd : GoodIn wsX6_where wsX6_isEnd := goodIn_r _ [72, 73, 74, 75, 76, 5, 77, 78, 79, 80, 81, 82, 7, 8, 9, 10, 11, 12, 13, 14, 15, 16, 17, 18, 19, 20, 21, 22, 23, 24, 25, 26, 27, 28, 29, 30, 31, 32, 33, 34, 35, 36, 37, 38, 39, 40, 41, 42, 43, 44, 45, 46, 47, 48, 49, 50, 51, 52, 91, 92, 93, 94, 95, 96, 97, 98, 99, 100, 101, 102, 103, 104, 105, 106, 107, 108, 109, 110, 111] (by decide +kernel) (by decide +kernel)
set_option maxRecDepth 20000 in
theorem gX6_where_X6_isEnd : GoodIn wsX6_where (wsV RX6 156 RX6 yX6_isEnd wsX6_isEnd) := goodIn_app (goodIn_of _ (by decide +kernel)) ggX6_where_X6_isEnd
set_option maxRecDepth 20000 in
theorem ggX6_where_X6_crossed : GoodIn wsX6_where wsX6_crossed := goodIn_r _ [86, 57, 58, 59, 60, 61, 5, 62, 63, 64, 12, 13, 14, 15, 16, 17, 18, 19, 20, 21, 22, 23, 24, 25, 26, 27, 28, 29, 30, 31, 32, 33, 34, 35, 36, 37, 38, 39, 40, 41, 42, 43, 44, 45, 46, 47, 48, 49, 50, 51, 52, 65, 66, 67, 68, 87, 88, 89, 90, 91, 92, 93, 94, 95, 96, 97, 98, 99, 100, 101, 102, 103, 104, 105, 106, 107, 108, 109, 110, 111] (by decide +kernel) (by decide +kernel)
set_option maxRecDepth 20000 in
theorem gX6_where_X6_crossed : GoodIn wsX6_where (wsV RX6 159 RX6 yX6_crossed wsX6_crossed) := goodIn_app (goodIn_of _ (by decide +kernel)) ggX6_where_X6_crossed
theorem dX6_where_0 : decode cX6_where 0 = .ok (.aload_n 0, 1) := by decide +kernel
theorem dX6_where_1 : decode cX6_where 1 = .ok (.getfield 7, 3) := by decide +kernel
theorem dX6_where_4 : decode cX6_where 4 = .ok (.iload_n 1, 1) := by decide +kernel
theorem dX6_where_5 : decode cX6_where 5 = .ok (.iaload, 1) := by decide +kernel
theorem dX6_where_6 : decode cX6_where 6 = .ok (.iconst 1, 1) := by decide +kernel
theorem dX6_where_7 : decode cX6_where 7 = .ok (.if_icmp .ne 17, 3) := by decide +kernel
theorem dX6_where_10 : decode cX6_where 10 = .ok (.aload_n 0, 1) := by decide +kernel
theorem dX6_where_11 : decode cX6_where 11 = .ok (.iload_n 1, 1) := by decide +kernel
theorem dX6_where_12 : decode cX6_where 12 = .ok (.invokevirtual 150, 3) := by decide +kernel
theorem dX6_where_15 : decode cX6_where 15 = .ok (.ifCond .eq 7, 3) := by decide +kernel
theorem dX6_where_18 : decode cX6_where 18 = .ok (.iconst 0, 1) := by decide +kernel
theorem dX6_where_19 : decode cX6_where 19 = .ok (.goto 4, 3) := by decide +kernel
theorem dX6_where_22 : decode cX6_where 22 = .ok (.iconst 2, 1) := by decide +kernel
theorem dX6_where_23 : decode cX6_where 23 = .ok (.ireturn, 1) := by decide +kernel
theorem dX6_where_24 : decode cX6_where 24 = .ok (.aload_n 0, 1) := by decide +kernel
theorem dX6_where_25 : decode cX6_where 25 = .ok (.iload_n 1, 1) := by decide +kernel
theorem dX6_where_26 : decode cX6_where 26 = .ok (.invokevirtual 153, 3) := by decide +kernel
theorem dX6_where_29 : decode cX6_where 29 = .ok (.ifCond .le 7, 3) := by decide +kernel
theorem dX6_where_32 : decode cX6_where 32 = .ok (.iconst 1, 1) := by decide +kernel
theorem dX6_where_33 : decode cX6_where 33 = .ok (.goto 4, 3) := by decide +kernel
theorem dX6_where_36 : decode cX6_where 36 = .ok (.iconst 0, 1) := by decide +kernel
theorem dX6_where_37 : decode cX6_where 37 = .ok (.istore_n 2, 1) := by decide +kernel
theorem dX6_where_38 : decode cX6_where 38 = .ok (.aload_n 0, 1) := by decide +kernel
theorem dX6_where_39 : decode cX6_where 39 = .ok (.getfield 7, 3) := by decide +kernel
theorem dX6_where_42 : decode cX6_where 42 = .ok (.iload_n 1, 1) := by decide +kernel
theorem dX6_where_43 : decode cX6_where 43 = .ok (.iaload, 1) := by decide +kernel
theorem dX6_where_44 : decode cX6_where 44 = .ok (.iconst 2, 1) := by decide +kernel
theorem dX6_where_45 : decode cX6_where 45 = .ok (.if_icmp .ne 25, 3) := by decide +kernel
theorem dX6_where_48 : decode cX6_where 48 = .ok (.aload_n 0, 1) := by decide +kernel
theorem dX6_where_49 : decode cX6_where 49 = .ok (.iload_n 1, 1) := by decide +kernel
theorem dX6_where_50 : decode cX6_where 50 = .ok (.invokevirtual 156, 3) := by decide +kernel
theorem dX6_where_53 : decode cX6_where 53 = .ok (.ifCond .eq 7, 3) := by decide +kernel
theorem dX6_where_56 : decode cX6_where 56 = .ok (.iconst 1, 1) := by decide +kernel
theorem dX6_where_57 : decode cX6_where 57 = .ok (.goto 12, 3) := by decide +kernel
theorem dX6_where_60 : decode cX6_where 60 = .ok (.iload_n 2, 1) := by decide +kernel
theorem dX6_where_61 : decode cX6_where 61 = .ok (.ifCond .eq 7, 3) := by decide +kernel
theorem dX6_where_64 : decode cX6_where 64 = .ok (.iconst 0, 1) := by decide +kernel
theorem dX6_where_65 : decode cX6_where 65 = .ok (.goto 4, 3) := by decide +kernel
theorem dX6_where_68 : decode cX6_where 68 = .ok (.iconst 2, 1) := by decide +kernel
theorem dX6_where_69 : decode cX6_where 69 = .ok (.ireturn, 1) := by decide +kernel
theorem dX6_where_70 : decode cX6_where 70 = .ok (.iload_n 2, 1) := by decide +kernel
theorem dX6_where_71 : decode cX6_where 71 = .ok (.ifCond .eq 7, 3) := by decide +kernel
theorem dX6_where_74 : decode cX6_where 74 = .ok (.iconst 1, 1) := by decide +kernel
theorem dX6_where_75 : decode cX6_where 75 = .ok (.goto 17, 3) := by decide +kernel
theorem dX6_where_78 : decode cX6_where 78 = .ok (.aload_n 0, 1) := by decide +kernel
theorem dX6_where_79 : decode cX6_where 79 = .ok (.iload_n 1, 1) := by decide +kernel
theorem dX6_where_80 : decode cX6_where 80 = .ok (.invokevirtual 159, 3) := by decide +kernel
theorem dX6_where_83 : decode cX6_where 83 = .ok (.iconst 1, 1) := by decide +kernel
theorem dX6_where_84 : decode cX6_where 84 = .ok (.if_icmp .ne 7, 3) := by decide +kernel
theorem dX6_where_87 : decode cX6_where 87 = .ok (.iconst 0, 1) := by decide +kernel
theorem dX6_where_88 : decode cX6_where 88 = .ok (.goto 4, 3) := by decide +kernel
theorem dX6_where_91 : decode cX6_where 91 = .ok (.iconst 2, 1) := by decide +kernel
theorem dX6_where_92 : decode cX6_where 92 = .ok (.ireturn, 1) := by decide +kernel
set_option maxRecDepth 20000 in
theorem ggX6_locate_X6_isShape : GoodIn wsX6_locate wsX6_isShape := goodIn_r _ [5, 6, 7, 4, 8] (by decide +kernel) (by decide +kernel)
set_option maxRecDepth 20000 in
theorem gX6_locate_X6_isShape : GoodIn wsX6_locate (va_wsS RX6 64 yX6_isShape wsX6_isShape) := goodIn_app (goodIn_of _ (by decide +kernel)) ggX6_locate_X6_isShape
set_option maxRecDepth 20000 in
theorem ggX6_locate_X6_fail : GoodIn wsX6_locate wsX6_fail := goodIn_r _ [12, 1, 131, 132, 133, 134, 135, 136, 137, 138, 139, 140, 141, 142, 143, 144, 145, 146, 147, 148, 149, 150, 151] (by decide +kernel) (by decide +kernel)
set_option maxRecDepth 20000 in
theorem gX6_locate_X6_fail : GoodIn wsX6_locate (wsV RX6 68 RX6 yX6_fail wsX6_fail) := goodIn_app (goodIn_of _ (by decide +kernel)) ggX6_locate_X6_fail
set_option maxRecDepth 20000 in
theorem ggX6_locate_X6_isFar : GoodIn wsX6_locate wsX6_isFar := goodIn_r _ [15, 16, 17, 6, 7, 4, 8] (by decide +kernel) (by decide +kernel)
set_option maxRecDepth 20000 in
theorem gX6_locate_X6_isFar : GoodIn wsX6_locate (va_wsS RX6 72 yX6_isFar wsX6_isFar) := goodIn_app (goodIn_of _ (by decide +kernel)) ggX6_locate_X6_isFar
set_option maxRecDepth 20000 in
theorem ggX6_locate_X6_gather : GoodIn wsX6_locate wsX6_gather := goodIn_r _ [21, 22, 23, 24, 25, 26, 27, 4, 28, 29, 30, 31, 32, 33, 34, 35, 36, 37, 38, 39, 40, 41, 42, 43, 44, 45, 46, 47, 131, 132, 133, 134, 135, 136, 137, 138, 139, 140, 141, 142, 143, 144, 145, 146, 147, 148, 149, 150, 151] (by decide +kernel) (by decide +kernel)
set_option maxRecDepth 20000 in
theorem gX6_locate_X6_gather : GoodIn wsX6_locate (wsV RX6 162 RX6 yX6_gather wsX6_gather) := goodIn_app (goodIn_of _ (by decide +kernel)) ggX6_locate_X6_gather
set_option maxRecDepth 20000 in
theorem ggX6_locate_X6_stand : GoodIn wsX6_locate wsX6_stand := goodIn_r _ [51, 52, 53, 54, 55, 131, 132, 133, 134, 135, 136, 137, 138, 139, 140, 141, 142, 143, 144, 145, 146, 147, 148, 149, 150, 151] (by decide +kernel) (by decide +kernel)
set_option maxRecDepth 20000 in
theorem gX6_locate_X6_stand : GoodIn wsX6_locate (wsV RX6 165 RX6 yX6_stand wsX6_stand) := goodIn_app (goodIn_of _ (by decide +kernel)) ggX6_locate_X6_stand
set_option maxRecDepth 20000 in
theorem ggX6_locate_X6_at : GoodIn wsX6_locate wsX6_at := goodIn_r _ [59, 60, 61, 62, 4, 63, 64, 65, 66, 67, 68, 69, 70, 71, 72, 73, 74, 131, 132, 133, 134, 135, 136, 137, 138, 139, 140, 141, 142, 143, 144, 145, 146, 147, 148, 149, 150, 151] (by decide +kernel) (by decide +kernel)
set_option maxRecDepth 20000 in
theorem gX6_locate_X6_at : GoodIn wsX6_locate (wsV RX6 169 RX6 yX6_at wsX6_at) := goodIn_app (goodIn_of _ (by decide +kernel)) ggX6_locate_X6_at
set_option maxRecDepth 20000 in
theorem ggX6_locate_X6_where : GoodIn wsX6_locate wsX6_where := goodIn_r _ [78, 24, 79, 80, 81, 4, 82, 34, 83, 84, 85, 86, 46, 47, 87, 88, 89, 90, 52, 54, 91, 92, 93, 94, 60, 61, 62, 63, 64, 65, 66, 67, 68, 69, 70, 71, 72, 73, 74, 95, 96, 97, 98, 99, 100, 101, 102, 103, 104, 105, 106, 53, 55, 107, 108, 109, 110, 22, 41, 111, 112, 113, 114, 39, 40, 115, 116, 117, 118, 119, 120, 121, 122, 23, 25, 26, 27, 28, 29, 30, 31, 32, 33, 123, 124, 125, 126, 127, 128, 129, 130, 131, 132, 133, 134, 135, 136, 137, 138, 139, 140, 141, 142, 143, 144, 145, 146, 147, 148, 149, 150, 151] (by decide +kernel) (by decide +kernel)
set_option maxRecDepth 20000 in
theorem gX6_locate_X6_where : GoodIn wsX6_locate (wsV RX6 173 RX6 yX6_where wsX6_where) := goodIn_app (goodIn_of _ (by decide +kernel)) ggX6_locate_X6_where
theorem dX6_locate_0 : decode cX6_locate 0 = .ok (.aload_n 0, 1) := by decide +kernel
theorem dX6_locate_1 : decode cX6_locate 1 = .ok (.iconst 0, 1) := by decide +kernel
theorem dX6_locate_2 : decode cX6_locate 2 = .ok (.putfield 54, 3) := by decide +kernel
theorem dX6_locate_5 : decode cX6_locate 5 = .ok (.iload_n 1, 1) := by decide +kernel
theorem dX6_locate_6 : decode cX6_locate 6 = .ok (.invokestatic 64, 3) := by decide +kernel
theorem dX6_locate_9 : decode cX6_locate 9 = .ok (.ifCond .ne 9, 3) := by decide +kernel
theorem dX6_locate_12 : decode cX6_locate 12 = .ok (.aload_n 0, 1) := by decide +kernel
theorem dX6_locate_13 : decode cX6_locate 13 = .ok (.iconst 1, 1) := by decide +kernel
theorem dX6_locate_14 : decode cX6_locate 14 = .ok (.invokevirtual 68, 3) := by decide +kernel
theorem dX6_locate_17 : decode cX6_locate 17 = .ok (.ireturn, 1) := by decide +kernel
theorem dX6_locate_18 : decode cX6_locate 18 = .ok (.iload_n 2, 1) := by decide +kernel
theorem dX6_locate_19 : decode cX6_locate 19 = .ok (.invokestatic 72, 3) := by decide +kernel
theorem dX6_locate_22 : decode cX6_locate 22 = .ok (.ifCond .ne 10, 3) := by decide +kernel
theorem dX6_locate_25 : decode cX6_locate 25 = .ok (.iload_n 3, 1) := by decide +kernel
theorem dX6_locate_26 : decode cX6_locate 26 = .ok (.invokestatic 72, 3) := by decide +kernel
theorem dX6_locate_29 : decode cX6_locate 29 = .ok (.ifCond .eq 9, 3) := by decide +kernel
theorem dX6_locate_32 : decode cX6_locate 32 = .ok (.aload_n 0, 1) := by decide +kernel
theorem dX6_locate_33 : decode cX6_locate 33 = .ok (.iconst 2, 1) := by decide +kernel
theorem dX6_locate_34 : decode cX6_locate 34 = .ok (.invokevirtual 68, 3) := by decide +kernel
theorem dX6_locate_37 : decode cX6_locate 37 = .ok (.ireturn, 1) := by decide +kernel
theorem dX6_locate_38 : decode cX6_locate 38 = .ok (.aload_n 0, 1) := by decide +kernel
theorem dX6_locate_39 : decode cX6_locate 39 = .ok (.invokevirtual 162, 3) := by decide +kernel
theorem dX6_locate_42 : decode cX6_locate 42 = .ok (.aload_n 0, 1) := by decide +kernel
theorem dX6_locate_43 : decode cX6_locate 43 = .ok (.iload_n 2, 1) := by decide +kernel
theorem dX6_locate_44 : decode cX6_locate 44 = .ok (.i2l, 1) := by decide +kernel
theorem dX6_locate_45 : decode cX6_locate 45 = .ok (.iload_n 3, 1) := by decide +kernel
theorem dX6_locate_46 : decode cX6_locate 46 = .ok (.i2l, 1) := by decide +kernel
theorem dX6_locate_47 : decode cX6_locate 47 = .ok (.lconst 0, 1) := by decide +kernel
theorem dX6_locate_48 : decode cX6_locate 48 = .ok (.lconst 0, 1) := by decide +kernel
theorem dX6_locate_49 : decode cX6_locate 49 = .ok (.invokevirtual 165, 3) := by decide +kernel
theorem dX6_locate_52 : decode cX6_locate 52 = .ok (.aload_n 0, 1) := by decide +kernel
theorem dX6_locate_53 : decode cX6_locate 53 = .ok (.lconst 0, 1) := by decide +kernel
theorem dX6_locate_54 : decode cX6_locate 54 = .ok (.lconst 1, 1) := by decide +kernel
theorem dX6_locate_55 : decode cX6_locate 55 = .ok (.invokevirtual 169, 3) := by decide +kernel
theorem dX6_locate_58 : decode cX6_locate 58 = .ok (.aload_n 0, 1) := by decide +kernel
theorem dX6_locate_59 : decode cX6_locate 59 = .ok (.iload_n 1, 1) := by decide +kernel
theorem dX6_locate_60 : decode cX6_locate 60 = .ok (.invokevirtual 173, 3) := by decide +kernel
theorem dX6_locate_63 : decode cX6_locate 63 = .ok (.ireturn, 1) := by decide +kernel
theorem dX6_compare_0 : decode cX6_compare 0 = .ok (.lload_n 0, 1) := by decide +kernel
theorem dX6_compare_1 : decode cX6_compare 1 = .ok (.lstore 8, 2) := by decide +kernel
theorem dX6_compare_3 : decode cX6_compare 3 = .ok (.lload_n 2, 1) := by decide +kernel
theorem dX6_compare_4 : decode cX6_compare 4 = .ok (.lstore 10, 2) := by decide +kernel
theorem dX6_compare_6 : decode cX6_compare 6 = .ok (.lload 4, 2) := by decide +kernel
theorem dX6_compare_8 : decode cX6_compare 8 = .ok (.lstore 12, 2) := by decide +kernel
theorem dX6_compare_10 : decode cX6_compare 10 = .ok (.lload 6, 2) := by decide +kernel
theorem dX6_compare_12 : decode cX6_compare 12 = .ok (.lstore 14, 2) := by decide +kernel
theorem dX6_compare_14 : decode cX6_compare 14 = .ok (.iconst 1, 1) := by decide +kernel
theorem dX6_compare_15 : decode cX6_compare 15 = .ok (.istore 16, 2) := by decide +kernel
theorem dX6_compare_17 : decode cX6_compare 17 = .ok (.iconst 1, 1) := by decide +kernel
theorem dX6_compare_18 : decode cX6_compare 18 = .ok (.istore 17, 2) := by decide +kernel
theorem dX6_compare_20 : decode cX6_compare 20 = .ok (.iconst 0, 1) := by decide +kernel
theorem dX6_compare_21 : decode cX6_compare 21 = .ok (.istore 18, 2) := by decide +kernel
theorem dX6_compare_23 : decode cX6_compare 23 = .ok (.iload 17, 2) := by decide +kernel
theorem dX6_compare_25 : decode cX6_compare 25 = .ok (.ifCond .eq 143, 3) := by decide +kernel
theorem dX6_compare_28 : decode cX6_compare 28 = .ok (.lload 8, 2) := by decide +kernel
theorem dX6_compare_30 : decode cX6_compare 30 = .ok (.lload 10, 2) := by decide +kernel
theorem dX6_compare_32 : decode cX6_compare 32 = .ok (.ldiv, 1) := by decide +kernel
theorem dX6_compare_33 : decode cX6_compare 33 = .ok (.lstore 19, 2) := by decide +kernel
theorem dX6_compare_35 : decode cX6_compare 35 = .ok (.lload 12, 2) := by decide +kernel
theorem dX6_compare_37 : decode cX6_compare 37 = .ok (.lload 14, 2) := by decide +kernel
theorem dX6_compare_39 : decode cX6_compare 39 = .ok (.ldiv, 1) := by decide +kernel
theorem dX6_compare_40 : decode cX6_compare 40 = .ok (.lstore 21, 2) := by decide +kernel
theorem dX6_compare_42 : decode cX6_compare 42 = .ok (.lload 19, 2) := by decide +kernel
theorem dX6_compare_44 : decode cX6_compare 44 = .ok (.lload 21, 2) := by decide +kernel
theorem dX6_compare_46 : decode cX6_compare 46 = .ok (.lcmp, 1) := by decide +kernel
theorem dX6_compare_47 : decode cX6_compare 47 = .ok (.ifCond .eq 20, 3) := by decide +kernel
theorem dX6_compare_50 : decode cX6_compare 50 = .ok (.lload 19, 2) := by decide +kernel
theorem dX6_compare_52 : decode cX6_compare 52 = .ok (.lload 21, 2) := by decide +kernel
theorem dX6_compare_54 : decode cX6_compare 54 = .ok (.lcmp, 1) := by decide +kernel
theorem dX6_compare_55 : decode cX6_compare 55 = .ok (.ifCond .ge 9, 3) := by decide +kernel
theorem dX6_compare_58 : decode cX6_compare 58 = .ok (.iload 16, 2) := by decide +kernel
theorem dX6_compare_60 : decode cX6_compare 60 = .ok (.ineg, 1) := by decide +kernel
theorem dX6_compare_61 : decode cX6_compare 61 = .ok (.goto 5, 3) := by decide +kernel
theorem dX6_compare_64 : decode cX6_compare 64 = .ok (.iload 16, 2) := by decide +kernel
theorem dX6_compare_66 : decode cX6_compare 66 = .ok (.ireturn, 1) := by decide +kernel
theorem dX6_compare_67 : decode cX6_compare 67 = .ok (.lload 8, 2) := by decide +kernel
theorem dX6_compare_69 : decode cX6_compare 69 = .ok (.lload 10, 2) := by decide +kernel
theorem dX6_compare_71 : decode cX6_compare 71 = .ok (.lrem, 1) := by decide +kernel
theorem dX6_compare_72 : decode cX6_compare 72 = .ok (.lstore 8, 2) := by decide +kernel
theorem dX6_compare_74 : decode cX6_compare 74 = .ok (.lload 12, 2) := by decide +kernel
theorem dX6_compare_76 : decode cX6_compare 76 = .ok (.lload 14, 2) := by decide +kernel
theorem dX6_compare_78 : decode cX6_compare 78 = .ok (.lrem, 1) := by decide +kernel
theorem dX6_compare_79 : decode cX6_compare 79 = .ok (.lstore 12, 2) := by decide +kernel
theorem dX6_compare_81 : decode cX6_compare 81 = .ok (.lload 8, 2) := by decide +kernel
theorem dX6_compare_83 : decode cX6_compare 83 = .ok (.lconst 0, 1) := by decide +kernel
theorem dX6_compare_84 : decode cX6_compare 84 = .ok (.lcmp, 1) := by decide +kernel
theorem dX6_compare_85 : decode cX6_compare 85 = .ok (.ifCond .eq 14, 3) := by decide +kernel
theorem dX6_compare_88 : decode cX6_compare 88 = .ok (.lload 12, 2) := by decide +kernel
theorem dX6_compare_90 : decode cX6_compare 90 = .ok (.lconst 0, 1) := by decide +kernel
theorem dX6_compare_91 : decode cX6_compare 91 = .ok (.lcmp, 1) := by decide +kernel
theorem dX6_compare_92 : decode cX6_compare 92 = .ok (.ifCond .eq 7, 3) := by decide +kernel
theorem dX6_compare_95 : decode cX6_compare 95 = .ok (.iconst 1, 1) := by decide +kernel
theorem dX6_compare_96 : decode cX6_compare 96 = .ok (.goto 4, 3) := by decide +kernel
theorem dX6_compare_99 : decode cX6_compare 99 = .ok (.iconst 0, 1) := by decide +kernel
theorem dX6_compare_100 : decode cX6_compare 100 = .ok (.istore 17, 2) := by decide +kernel
theorem dX6_compare_102 : decode cX6_compare 102 = .ok (.iload 17, 2) := by decide +kernel
theorem dX6_compare_104 : decode cX6_compare 104 = .ok (.ifCond .ne 32, 3) := by decide +kernel
theorem dX6_compare_107 : decode cX6_compare 107 = .ok (.lload 8, 2) := by decide +kernel
theorem dX6_compare_109 : decode cX6_compare 109 = .ok (.lload 12, 2) := by decide +kernel
theorem dX6_compare_111 : decode cX6_compare 111 = .ok (.lcmp, 1) := by decide +kernel
theorem dX6_compare_112 : decode cX6_compare 112 = .ok (.ifCond .ne 7, 3) := by decide +kernel
theorem dX6_compare_115 : decode cX6_compare 115 = .ok (.iconst 0, 1) := by decide +kernel
theorem dX6_compare_116 : decode cX6_compare 116 = .ok (.goto 18, 3) := by decide +kernel
theorem dX6_compare_119 : decode cX6_compare 119 = .ok (.lload 8, 2) := by decide +kernel
theorem dX6_compare_121 : decode cX6_compare 121 = .ok (.lconst 0, 1) := by decide +kernel
theorem dX6_compare_122 : decode cX6_compare 122 = .ok (.lcmp, 1) := by decide +kernel
theorem dX6_compare_123 : decode cX6_compare 123 = .ok (.ifCond .ne 9, 3) := by decide +kernel
theorem dX6_compare_126 : decode cX6_compare 126 = .ok (.iload 16, 2) := by decide +kernel
theorem dX6_compare_128 : decode cX6_compare 128 = .ok (.ineg, 1) := by decide +kernel
theorem dX6_compare_129 : decode cX6_compare 129 = .ok (.goto 5, 3) := by decide +kernel
theorem dX6_compare_132 : decode cX6_compare 132 = .ok (.iload 16, 2) := by decide +kernel
theorem dX6_compare_134 : decode cX6_compare 134 = .ok (.istore 18, 2) := by decide +kernel
theorem dX6_compare_136 : decode cX6_compare 136 = .ok (.lload 8, 2) := by decide +kernel
theorem dX6_compare_138 : decode cX6_compare 138 = .ok (.lstore 23, 2) := by decide +kernel
theorem dX6_compare_140 : decode cX6_compare 140 = .ok (.lload 10, 2) := by decide +kernel
theorem dX6_compare_142 : decode cX6_compare 142 = .ok (.lstore 8, 2) := by decide +kernel
theorem dX6_compare_144 : decode cX6_compare 144 = .ok (.lload 23, 2) := by decide +kernel
theorem dX6_compare_146 : decode cX6_compare 146 = .ok (.lstore 10, 2) := by decide +kernel
theorem dX6_compare_148 : decode cX6_compare 148 = .ok (.lload 12, 2) := by decide +kernel
theorem dX6_compare_150 : decode cX6_compare 150 = .ok (.lstore 23, 2) := by decide +kernel
theorem dX6_compare_152 : decode cX6_compare 152 = .ok (.lload 14, 2) := by decide +kernel
theorem dX6_compare_154 : decode cX6_compare 154 = .ok (.lstore 12, 2) := by decide +kernel
theorem dX6_compare_156 : decode cX6_compare 156 = .ok (.lload 23, 2) := by decide +kernel
theorem dX6_compare_158 : decode cX6_compare 158 = .ok (.lstore 14, 2) := by decide +kernel
theorem dX6_compare_160 : decode cX6_compare 160 = .ok (.iload 16, 2) := by decide +kernel
theorem dX6_compare_162 : decode cX6_compare 162 = .ok (.ineg, 1) := by decide +kernel
theorem dX6_compare_163 : decode cX6_compare 163 = .ok (.istore 16, 2) := by decide +kernel
theorem dX6_compare_165 : decode cX6_compare 165 = .ok (.goto (-142), 3) := by decide +kernel
theorem dX6_compare_168 : decode cX6_compare 168 = .ok (.iload 18, 2) := by decide +kernel
theorem dX6_compare_170 : decode cX6_compare 170 = .ok (.ireturn, 1) := by decide +kernel
set_option maxRecDepth 20000 in
theorem ggX6_cut_X6_compare : GoodIn wsX6_cut wsX6_compare := goodIn_r _ [7] (by decide +kernel) (by decide +kernel)
set_option maxRecDepth 20000 in
theorem gX6_cut_X6_compare : GoodIn wsX6_cut (va_wsS RX6 179 yX6_compare wsX6_compare) := goodIn_app (goodIn_of _ (by decide +kernel)) ggX6_cut_X6_compare
theorem dX6_cut_0 : decode cX6_cut 0 = .ok (.aload_n 0, 1) := by decide +kernel
theorem dX6_cut_1 : decode cX6_cut 1 = .ok (.getfield 176, 3) := by decide +kernel
theorem dX6_cut_4 : decode cX6_cut 4 = .ok (.istore 5, 2) := by decide +kernel
theorem dX6_cut_6 : decode cX6_cut 6 = .ok (.iconst 1, 1) := by decide +kernel
theorem dX6_cut_7 : decode cX6_cut 7 = .ok (.istore 6, 2) := by decide +kernel
theorem dX6_cut_9 : decode cX6_cut 9 = .ok (.iload 5, 2) := by decide +kernel
theorem dX6_cut_11 : decode cX6_cut 11 = .ok (.ifCond .le 62, 3) := by decide +kernel
theorem dX6_cut_14 : decode cX6_cut 14 = .ok (.iload 6, 2) := by decide +kernel
theorem dX6_cut_16 : decode cX6_cut 16 = .ok (.ifCond .eq 57, 3) := by decide +kernel
theorem dX6_cut_19 : decode cX6_cut 19 = .ok (.lload_n 1, 1) := by decide +kernel
theorem dX6_cut_20 : decode cX6_cut 20 = .ok (.lload_n 3, 1) := by decide +kernel
theorem dX6_cut_21 : decode cX6_cut 21 = .ok (.aload_n 0, 1) := by decide +kernel
theorem dX6_cut_22 : decode cX6_cut 22 = .ok (.getfield 48, 3) := by decide +kernel
theorem dX6_cut_25 : decode cX6_cut 25 = .ok (.iload 5, 2) := by decide +kernel
theorem dX6_cut_27 : decode cX6_cut 27 = .ok (.iconst 1, 1) := by decide +kernel
theorem dX6_cut_28 : decode cX6_cut 28 = .ok (.isub, 1) := by decide +kernel
theorem dX6_cut_29 : decode cX6_cut 29 = .ok (.laload, 1) := by decide +kernel
theorem dX6_cut_30 : decode cX6_cut 30 = .ok (.aload_n 0, 1) := by decide +kernel
theorem dX6_cut_31 : decode cX6_cut 31 = .ok (.getfield 51, 3) := by decide +kernel
theorem dX6_cut_34 : decode cX6_cut 34 = .ok (.iload 5, 2) := by decide +kernel
theorem dX6_cut_36 : decode cX6_cut 36 = .ok (.iconst 1, 1) := by decide +kernel
theorem dX6_cut_37 : decode cX6_cut 37 = .ok (.isub, 1) := by decide +kernel
theorem dX6_cut_38 : decode cX6_cut 38 = .ok (.laload, 1) := by decide +kernel
theorem dX6_cut_39 : decode cX6_cut 39 = .ok (.invokestatic 179, 3) := by decide +kernel
theorem dX6_cut_42 : decode cX6_cut 42 = .ok (.istore 7, 2) := by decide +kernel
theorem dX6_cut_44 : decode cX6_cut 44 = .ok (.iload 7, 2) := by decide +kernel
theorem dX6_cut_46 : decode cX6_cut 46 = .ok (.ifCond .ne 4, 3) := by decide +kernel
theorem dX6_cut_49 : decode cX6_cut 49 = .ok (.return_, 1) := by decide +kernel
theorem dX6_cut_50 : decode cX6_cut 50 = .ok (.iload 7, 2) := by decide +kernel
theorem dX6_cut_52 : decode cX6_cut 52 = .ok (.ifCond .ge 7, 3) := by decide +kernel
theorem dX6_cut_55 : decode cX6_cut 55 = .ok (.iconst 1, 1) := by decide +kernel
theorem dX6_cut_56 : decode cX6_cut 56 = .ok (.goto 4, 3) := by decide +kernel
theorem dX6_cut_59 : decode cX6_cut 59 = .ok (.iconst 0, 1) := by decide +kernel
theorem dX6_cut_60 : decode cX6_cut 60 = .ok (.istore 6, 2) := by decide +kernel
theorem dX6_cut_62 : decode cX6_cut 62 = .ok (.iload 6, 2) := by decide +kernel
theorem dX6_cut_64 : decode cX6_cut 64 = .ok (.ifCond .eq 6, 3) := by decide +kernel
theorem dX6_cut_67 : decode cX6_cut 67 = .ok (.iinc 5 (-1), 3) := by decide +kernel
theorem dX6_cut_70 : decode cX6_cut 70 = .ok (.goto (-61), 3) := by decide +kernel
