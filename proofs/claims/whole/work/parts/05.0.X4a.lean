set_option maxRecDepth 20000 in
theorem ggX4_init_X0_init : GoodIn wsX4_init wsX0_init := goodIn_r _ [21, 22, 2, 3] (by decide +kernel) (by decide +kernel)
set_option maxRecDepth 20000 in
theorem gX4_init_X0_init_n11 : GoodIn wsX4_init (wsX0_init) := ggX4_init_X0_init
set_option maxRecDepth 20000 in
theorem ggX4_init_X2_init : GoodIn wsX4_init wsX2_init := goodIn_r _ [24, 25, 2, 3, 26, 27, 28, 29, 12, 30, 31, 32, 55, 56, 57, 58, 59, 60] (by decide +kernel) (by decide +kernel)
set_option maxRecDepth 20000 in
theorem gX4_init_X2_init_n20 : GoodIn wsX4_init (wsX2_init) := ggX4_init_X2_init
set_option maxRecDepth 20000 in
theorem ggX4_init_X1_init : GoodIn wsX4_init wsX1_init := goodIn_r _ [35, 36, 2, 3, 37, 38, 39, 40, 41, 42, 43, 44, 61, 62, 63, 64, 65, 66, 67, 68] (by decide +kernel) (by decide +kernel)
set_option maxRecDepth 20000 in
theorem gX4_init_X1_init : GoodIn wsX4_init (wsX1_init) := ggX4_init_X1_init
theorem dX4_init_0 : decode cX4_init 0 = .ok (.aload_n 0, 1) := by decide +kernel
theorem dX4_init_1 : decode cX4_init 1 = .ok (.invokespecial 3, 3) := by decide +kernel
theorem dX4_init_4 : decode cX4_init 4 = .ok (.aload_n 0, 1) := by decide +kernel
theorem dX4_init_5 : decode cX4_init 5 = .ok (.new 9, 3) := by decide +kernel
theorem dX4_init_8 : decode cX4_init 8 = .ok (.dup, 1) := by decide +kernel
theorem dX4_init_9 : decode cX4_init 9 = .ok (.invokespecial 11, 3) := by decide +kernel
theorem dX4_init_12 : decode cX4_init 12 = .ok (.putfield 12, 3) := by decide +kernel
theorem dX4_init_15 : decode cX4_init 15 = .ok (.aload_n 0, 1) := by decide +kernel
theorem dX4_init_16 : decode cX4_init 16 = .ok (.new 18, 3) := by decide +kernel
theorem dX4_init_19 : decode cX4_init 19 = .ok (.dup, 1) := by decide +kernel
theorem dX4_init_20 : decode cX4_init 20 = .ok (.invokespecial 20, 3) := by decide +kernel
theorem dX4_init_23 : decode cX4_init 23 = .ok (.putfield 21, 3) := by decide +kernel
theorem dX4_init_26 : decode cX4_init 26 = .ok (.aload_n 0, 1) := by decide +kernel
theorem dX4_init_27 : decode cX4_init 27 = .ok (.bipush 9, 2) := by decide +kernel
theorem dX4_init_29 : decode cX4_init 29 = .ok (.newarray .int, 2) := by decide +kernel
theorem dX4_init_31 : decode cX4_init 31 = .ok (.putfield 25, 3) := by decide +kernel
theorem dX4_init_34 : decode cX4_init 34 = .ok (.aload_n 0, 1) := by decide +kernel
theorem dX4_init_35 : decode cX4_init 35 = .ok (.iconst 0, 1) := by decide +kernel
theorem dX4_init_36 : decode cX4_init 36 = .ok (.putfield 29, 3) := by decide +kernel
theorem dX4_init_39 : decode cX4_init 39 = .ok (.aload_n 0, 1) := by decide +kernel
theorem dX4_init_40 : decode cX4_init 40 = .ok (.new 33, 3) := by decide +kernel
theorem dX4_init_43 : decode cX4_init 43 = .ok (.dup, 1) := by decide +kernel
theorem dX4_init_44 : decode cX4_init 44 = .ok (.aload_n 1, 1) := by decide +kernel
theorem dX4_init_45 : decode cX4_init 45 = .ok (.iconst 0, 1) := by decide +kernel
theorem dX4_init_46 : decode cX4_init 46 = .ok (.invokespecial 35, 3) := by decide +kernel
theorem dX4_init_49 : decode cX4_init 49 = .ok (.putfield 38, 3) := by decide +kernel
theorem dX4_init_52 : decode cX4_init 52 = .ok (.aload_n 0, 1) := by decide +kernel
theorem dX4_init_53 : decode cX4_init 53 = .ok (.new 33, 3) := by decide +kernel
theorem dX4_init_56 : decode cX4_init 56 = .ok (.dup, 1) := by decide +kernel
theorem dX4_init_57 : decode cX4_init 57 = .ok (.aload_n 2, 1) := by decide +kernel
theorem dX4_init_58 : decode cX4_init 58 = .ok (.bipush 64, 2) := by decide +kernel
theorem dX4_init_60 : decode cX4_init 60 = .ok (.invokespecial 35, 3) := by decide +kernel
theorem dX4_init_63 : decode cX4_init 63 = .ok (.putfield 42, 3) := by decide +kernel
theorem dX4_init_66 : decode cX4_init 66 = .ok (.return_, 1) := by decide +kernel
theorem dX4_forget_0 : decode cX4_forget 0 = .ok (.aload_n 0, 1) := by decide +kernel
theorem dX4_forget_1 : decode cX4_forget 1 = .ok (.iconst 0, 1) := by decide +kernel
theorem dX4_forget_2 : decode cX4_forget 2 = .ok (.putfield 29, 3) := by decide +kernel
theorem dX4_forget_5 : decode cX4_forget 5 = .ok (.return_, 1) := by decide +kernel
set_option maxRecDepth 20000 in
theorem ggX4_refresh_X3_prepare : GoodIn wsX4_refresh wsX3_prepare := goodIn_r _ [10, 11, 12, 13, 14, 15, 16, 17, 18, 19, 9, 20, 21, 22, 23, 24, 25, 26, 27, 28, 29, 30, 31, 32, 33, 34, 35, 36, 37, 38, 39, 40, 41, 42, 43, 44, 45, 46, 47, 48, 49, 304, 305, 306, 307, 308, 309, 310, 311, 312, 313, 314, 315, 316] (by decide +kernel) (by decide +kernel)
set_option maxRecDepth 20000 in
theorem gX4_refresh_X3_prepare : GoodIn wsX4_refresh (wsV RX4 49 RX3 yX3_prepare wsX3_prepare) := goodIn_app (goodIn_of _ (by decide +kernel)) ggX4_refresh_X3_prepare
set_option maxRecDepth 20000 in
theorem ggX4_refresh_J7_fill_53178 : GoodIn wsX4_refresh wsJ7_fill_53178 := goodIn_r _ [53] (by decide +kernel) (by decide +kernel)
set_option maxRecDepth 20000 in
theorem gX4_refresh_J7_fill_53178 : GoodIn wsX4_refresh (va_wsS RX4 54 yJ7_fill_53178 wsJ7_fill_53178) := goodIn_app (goodIn_of _ (by decide +kernel)) ggX4_refresh_J7_fill_53178
set_option maxRecDepth 20000 in
theorem ggX4_refresh_X4_raise : GoodIn wsX4_refresh wsX4_raise := goodIn_r _ [58, 5, 290, 291, 292, 293, 294, 295] (by decide +kernel) (by decide +kernel)
set_option maxRecDepth 20000 in
theorem gX4_refresh_X4_raise : GoodIn wsX4_refresh (wsV RX4 60 RX4 yX4_raise wsX4_raise) := goodIn_app (goodIn_of _ (by decide +kernel)) ggX4_refresh_X4_raise
set_option maxRecDepth 20000 in
theorem ggX4_refresh_X4_visitPoints : GoodIn wsX4_refresh wsX4_visitPoints := goodIn_r _ [62, 63, 64, 65, 66, 2, 3, 4, 67, 68, 69, 9, 70, 12, 21, 24, 41, 46, 47, 48, 49, 13, 25, 22, 71, 72, 73, 74, 32, 75, 76, 77, 78, 79, 80, 81, 82, 83, 84, 85, 86, 87, 88, 89, 90, 91, 92, 93, 94, 95, 96, 97, 54, 55, 56, 57, 58, 5, 304, 305, 306, 307, 308, 309, 310, 311, 312, 313, 314, 315, 316, 290, 291, 292, 293, 294, 295, 296, 297, 298, 299, 300, 301, 302, 303] (by decide +kernel) (by decide +kernel)
set_option maxRecDepth 20000 in
theorem gX4_refresh_X4_visitPoints : GoodIn wsX4_refresh (wsV RX4 64 RX4 yX4_visitPoints wsX4_visitPoints) := goodIn_app (goodIn_of _ (by decide +kernel)) ggX4_refresh_X4_visitPoints
set_option maxRecDepth 20000 in
theorem ggX4_refresh_X4_walkSegments : GoodIn wsX4_refresh wsX4_walkSegments := goodIn_r _ [101, 102, 103, 104, 2, 4, 105, 106, 107, 108, 109, 110, 111, 112, 113, 114, 115, 116, 117, 118, 119, 120, 121, 122, 123, 124, 125, 126, 57, 127, 3, 64, 128, 65, 66, 129, 130, 131, 132, 133, 134, 135, 136, 137, 138, 139, 140, 141, 142, 143, 144, 145, 146, 147, 148, 149, 150, 151, 152, 153, 154, 155, 156, 157, 85, 158, 159, 160, 161, 162, 163, 164, 165, 166, 167, 168, 169, 170, 171, 172, 173, 174, 175, 176, 177, 178, 179, 23, 180, 181, 182, 52, 183, 184, 185, 186, 187, 188, 189, 26, 190, 84, 86, 191, 192, 193, 194, 195, 196, 197, 198, 199, 200, 201, 202, 203, 204, 205, 206, 207, 208, 209, 210, 211, 212, 213, 214, 215, 216, 217, 218, 219, 220, 221, 222, 223, 224, 225, 226, 227, 228, 229, 230, 231, 232, 233, 234, 235, 236, 237, 238, 239, 240, 241, 242, 243, 244, 245, 246, 247, 248, 249, 250, 251, 252, 253, 254, 255, 256, 257, 258, 259, 260, 261, 262, 263, 264, 265, 266, 267, 268, 269, 72, 73, 9, 74, 32, 270, 91, 92, 93, 271, 272, 273, 274, 275, 276, 277, 278, 279, 95, 96, 97, 54, 55, 56, 58, 5, 280, 281, 282, 283, 284, 285, 286, 287, 288, 289, 304, 305, 306, 307, 308, 309, 310, 311, 312, 313, 314, 315, 316, 290, 291, 292, 293, 294, 295, 317, 318, 319, 320, 321, 322, 323, 324, 325, 326, 296, 297, 298, 299, 300, 301, 302, 303] (by decide +kernel) (by decide +kernel)
set_option maxRecDepth 20000 in
theorem gX4_refresh_X4_walkSegments : GoodIn wsX4_refresh (wsV RX4 68 RX4 yX4_walkSegments wsX4_walkSegments) := goodIn_app (goodIn_of _ (by decide +kernel)) ggX4_refresh_X4_walkSegments
theorem dX4_refresh_0 : decode cX4_refresh 0 = .ok (.aload_n 0, 1) := by decide +kernel
theorem dX4_refresh_1 : decode cX4_refresh 1 = .ok (.getfield 29, 3) := by decide +kernel
theorem dX4_refresh_4 : decode cX4_refresh 4 = .ok (.ifCond .eq 4, 3) := by decide +kernel
theorem dX4_refresh_7 : decode cX4_refresh 7 = .ok (.return_, 1) := by decide +kernel
theorem dX4_refresh_8 : decode cX4_refresh 8 = .ok (.aload_n 0, 1) := by decide +kernel
theorem dX4_refresh_9 : decode cX4_refresh 9 = .ok (.getfield 38, 3) := by decide +kernel
theorem dX4_refresh_12 : decode cX4_refresh 12 = .ok (.getfield 45, 3) := by decide +kernel
theorem dX4_refresh_15 : decode cX4_refresh 15 = .ok (.invokevirtual 49, 3) := by decide +kernel
theorem dX4_refresh_18 : decode cX4_refresh 18 = .ok (.aload_n 0, 1) := by decide +kernel
theorem dX4_refresh_19 : decode cX4_refresh 19 = .ok (.getfield 42, 3) := by decide +kernel
theorem dX4_refresh_22 : decode cX4_refresh 22 = .ok (.getfield 45, 3) := by decide +kernel
theorem dX4_refresh_25 : decode cX4_refresh 25 = .ok (.invokevirtual 49, 3) := by decide +kernel
theorem dX4_refresh_28 : decode cX4_refresh 28 = .ok (.aload_n 0, 1) := by decide +kernel
theorem dX4_refresh_29 : decode cX4_refresh 29 = .ok (.getfield 25, 3) := by decide +kernel
theorem dX4_refresh_32 : decode cX4_refresh 32 = .ok (.iconst (-1), 1) := by decide +kernel
theorem dX4_refresh_33 : decode cX4_refresh 33 = .ok (.invokestatic 54, 3) := by decide +kernel
theorem dX4_refresh_36 : decode cX4_refresh 36 = .ok (.aload_n 0, 1) := by decide +kernel
theorem dX4_refresh_37 : decode cX4_refresh 37 = .ok (.iconst 2, 1) := by decide +kernel
theorem dX4_refresh_38 : decode cX4_refresh 38 = .ok (.iconst 2, 1) := by decide +kernel
theorem dX4_refresh_39 : decode cX4_refresh 39 = .ok (.iconst 2, 1) := by decide +kernel
theorem dX4_refresh_40 : decode cX4_refresh 40 = .ok (.invokevirtual 60, 3) := by decide +kernel
theorem dX4_refresh_43 : decode cX4_refresh 43 = .ok (.aload_n 0, 1) := by decide +kernel
theorem dX4_refresh_44 : decode cX4_refresh 44 = .ok (.aload_n 0, 1) := by decide +kernel
theorem dX4_refresh_45 : decode cX4_refresh 45 = .ok (.getfield 38, 3) := by decide +kernel
theorem dX4_refresh_48 : decode cX4_refresh 48 = .ok (.getfield 45, 3) := by decide +kernel
theorem dX4_refresh_51 : decode cX4_refresh 51 = .ok (.invokevirtual 64, 3) := by decide +kernel
theorem dX4_refresh_54 : decode cX4_refresh 54 = .ok (.aload_n 0, 1) := by decide +kernel
theorem dX4_refresh_55 : decode cX4_refresh 55 = .ok (.aload_n 0, 1) := by decide +kernel
theorem dX4_refresh_56 : decode cX4_refresh 56 = .ok (.getfield 42, 3) := by decide +kernel
theorem dX4_refresh_59 : decode cX4_refresh 59 = .ok (.getfield 45, 3) := by decide +kernel
theorem dX4_refresh_62 : decode cX4_refresh 62 = .ok (.invokevirtual 64, 3) := by decide +kernel
theorem dX4_refresh_65 : decode cX4_refresh 65 = .ok (.aload_n 0, 1) := by decide +kernel
theorem dX4_refresh_66 : decode cX4_refresh 66 = .ok (.aload_n 0, 1) := by decide +kernel
theorem dX4_refresh_67 : decode cX4_refresh 67 = .ok (.getfield 38, 3) := by decide +kernel
theorem dX4_refresh_70 : decode cX4_refresh 70 = .ok (.getfield 45, 3) := by decide +kernel
theorem dX4_refresh_73 : decode cX4_refresh 73 = .ok (.invokevirtual 68, 3) := by decide +kernel
theorem dX4_refresh_76 : decode cX4_refresh 76 = .ok (.aload_n 0, 1) := by decide +kernel
theorem dX4_refresh_77 : decode cX4_refresh 77 = .ok (.aload_n 0, 1) := by decide +kernel
theorem dX4_refresh_78 : decode cX4_refresh 78 = .ok (.getfield 42, 3) := by decide +kernel
theorem dX4_refresh_81 : decode cX4_refresh 81 = .ok (.getfield 45, 3) := by decide +kernel
theorem dX4_refresh_84 : decode cX4_refresh 84 = .ok (.invokevirtual 68, 3) := by decide +kernel
theorem dX4_refresh_87 : decode cX4_refresh 87 = .ok (.aload_n 0, 1) := by decide +kernel
theorem dX4_refresh_88 : decode cX4_refresh 88 = .ok (.iconst 1, 1) := by decide +kernel
theorem dX4_refresh_89 : decode cX4_refresh 89 = .ok (.putfield 29, 3) := by decide +kernel
theorem dX4_refresh_92 : decode cX4_refresh 92 = .ok (.return_, 1) := by decide +kernel
theorem dX4_raise_0 : decode cX4_raise 0 = .ok (.iconst 3, 1) := by decide +kernel
theorem dX4_raise_1 : decode cX4_raise 1 = .ok (.iload_n 1, 1) := by decide +kernel
theorem dX4_raise_2 : decode cX4_raise 2 = .ok (.imul, 1) := by decide +kernel
theorem dX4_raise_3 : decode cX4_raise 3 = .ok (.iload_n 2, 1) := by decide +kernel
theorem dX4_raise_4 : decode cX4_raise 4 = .ok (.iadd, 1) := by decide +kernel
theorem dX4_raise_5 : decode cX4_raise 5 = .ok (.istore 4, 2) := by decide +kernel
theorem dX4_raise_7 : decode cX4_raise 7 = .ok (.aload_n 0, 1) := by decide +kernel
theorem dX4_raise_8 : decode cX4_raise 8 = .ok (.getfield 25, 3) := by decide +kernel
theorem dX4_raise_11 : decode cX4_raise 11 = .ok (.iload 4, 2) := by decide +kernel
theorem dX4_raise_13 : decode cX4_raise 13 = .ok (.iaload, 1) := by decide +kernel
theorem dX4_raise_14 : decode cX4_raise 14 = .ok (.iload_n 3, 1) := by decide +kernel
theorem dX4_raise_15 : decode cX4_raise 15 = .ok (.if_icmp .ge 11, 3) := by decide +kernel
theorem dX4_raise_18 : decode cX4_raise 18 = .ok (.aload_n 0, 1) := by decide +kernel
theorem dX4_raise_19 : decode cX4_raise 19 = .ok (.getfield 25, 3) := by decide +kernel
theorem dX4_raise_22 : decode cX4_raise 22 = .ok (.iload 4, 2) := by decide +kernel
theorem dX4_raise_24 : decode cX4_raise 24 = .ok (.iload_n 3, 1) := by decide +kernel
theorem dX4_raise_25 : decode cX4_raise 25 = .ok (.iastore, 1) := by decide +kernel
theorem dX4_raise_26 : decode cX4_raise 26 = .ok (.return_, 1) := by decide +kernel
set_option maxRecDepth 20000 in
theorem ggX4_visitPoints_X3_whereIs : GoodIn wsX4_visitPoints wsX3_whereIs := goodIn_r _ [12, 13, 14, 15, 16, 17, 18, 19, 11, 20, 21, 22, 23, 24, 25, 26, 27, 28, 29, 30, 31, 32, 33, 34, 35, 36, 37, 38, 39, 40, 41, 42, 43, 44, 45, 46, 47, 48, 49, 50, 51, 58, 59, 60, 61, 62, 63, 64, 65, 66, 67, 68, 69, 70] (by decide +kernel) (by decide +kernel)
set_option maxRecDepth 20000 in
theorem gX4_visitPoints_X3_whereIs : GoodIn wsX4_visitPoints (wsV RX4 84 RX3 yX3_whereIs wsX3_whereIs) := goodIn_app (goodIn_of _ (by decide +kernel)) ggX4_visitPoints_X3_whereIs
set_option maxRecDepth 20000 in
theorem ggX4_visitPoints_X4_raise : GoodIn wsX4_visitPoints wsX4_raise := goodIn_r _ [56, 57, 71, 72, 73, 74, 75, 76] (by decide +kernel) (by decide +kernel)
set_option maxRecDepth 20000 in
theorem gX4_visitPoints_X4_raise : GoodIn wsX4_visitPoints (wsV RX4 60 RX4 yX4_raise wsX4_raise) := goodIn_app (goodIn_of _ (by decide +kernel)) ggX4_visitPoints_X4_raise
theorem dX4_visitPoints_0 : decode cX4_visitPoints 0 = .ok (.aload_n 1, 1) := by decide +kernel
theorem dX4_visitPoints_1 : decode cX4_visitPoints 1 = .ok (.getfield 71, 3) := by decide +kernel
theorem dX4_visitPoints_4 : decode cX4_visitPoints 4 = .ok (.iconst 1, 1) := by decide +kernel
theorem dX4_visitPoints_5 : decode cX4_visitPoints 5 = .ok (.if_icmp .eq 4, 3) := by decide +kernel
theorem dX4_visitPoints_8 : decode cX4_visitPoints 8 = .ok (.return_, 1) := by decide +kernel
theorem dX4_visitPoints_9 : decode cX4_visitPoints 9 = .ok (.iconst 0, 1) := by decide +kernel
theorem dX4_visitPoints_10 : decode cX4_visitPoints 10 = .ok (.istore_n 2, 1) := by decide +kernel
theorem dX4_visitPoints_11 : decode cX4_visitPoints 11 = .ok (.iload_n 2, 1) := by decide +kernel
theorem dX4_visitPoints_12 : decode cX4_visitPoints 12 = .ok (.aload_n 1, 1) := by decide +kernel
theorem dX4_visitPoints_13 : decode cX4_visitPoints 13 = .ok (.getfield 75, 3) := by decide +kernel
theorem dX4_visitPoints_16 : decode cX4_visitPoints 16 = .ok (.if_icmp .ge 55, 3) := by decide +kernel
theorem dX4_visitPoints_19 : decode cX4_visitPoints 19 = .ok (.aload_n 1, 1) := by decide +kernel
theorem dX4_visitPoints_20 : decode cX4_visitPoints 20 = .ok (.getfield 78, 3) := by decide +kernel
theorem dX4_visitPoints_23 : decode cX4_visitPoints 23 = .ok (.iload_n 2, 1) := by decide +kernel
theorem dX4_visitPoints_24 : decode cX4_visitPoints 24 = .ok (.iaload, 1) := by decide +kernel
theorem dX4_visitPoints_25 : decode cX4_visitPoints 25 = .ok (.istore_n 3, 1) := by decide +kernel
theorem dX4_visitPoints_26 : decode cX4_visitPoints 26 = .ok (.aload_n 1, 1) := by decide +kernel
theorem dX4_visitPoints_27 : decode cX4_visitPoints 27 = .ok (.getfield 81, 3) := by decide +kernel
theorem dX4_visitPoints_30 : decode cX4_visitPoints 30 = .ok (.iload_n 2, 1) := by decide +kernel
theorem dX4_visitPoints_31 : decode cX4_visitPoints 31 = .ok (.iaload, 1) := by decide +kernel
theorem dX4_visitPoints_32 : decode cX4_visitPoints 32 = .ok (.istore 4, 2) := by decide +kernel
theorem dX4_visitPoints_34 : decode cX4_visitPoints 34 = .ok (.aload_n 0, 1) := by decide +kernel
theorem dX4_visitPoints_35 : decode cX4_visitPoints 35 = .ok (.aload_n 0, 1) := by decide +kernel
theorem dX4_visitPoints_36 : decode cX4_visitPoints 36 = .ok (.getfield 38, 3) := by decide +kernel
theorem dX4_visitPoints_39 : decode cX4_visitPoints 39 = .ok (.getfield 45, 3) := by decide +kernel
theorem dX4_visitPoints_42 : decode cX4_visitPoints 42 = .ok (.iload_n 3, 1) := by decide +kernel
theorem dX4_visitPoints_43 : decode cX4_visitPoints 43 = .ok (.iload 4, 2) := by decide +kernel
theorem dX4_visitPoints_45 : decode cX4_visitPoints 45 = .ok (.invokevirtual 84, 3) := by decide +kernel
theorem dX4_visitPoints_48 : decode cX4_visitPoints 48 = .ok (.aload_n 0, 1) := by decide +kernel
theorem dX4_visitPoints_49 : decode cX4_visitPoints 49 = .ok (.getfield 42, 3) := by decide +kernel
theorem dX4_visitPoints_52 : decode cX4_visitPoints 52 = .ok (.getfield 45, 3) := by decide +kernel
theorem dX4_visitPoints_55 : decode cX4_visitPoints 55 = .ok (.iload_n 3, 1) := by decide +kernel
theorem dX4_visitPoints_56 : decode cX4_visitPoints 56 = .ok (.iload 4, 2) := by decide +kernel
theorem dX4_visitPoints_58 : decode cX4_visitPoints 58 = .ok (.invokevirtual 84, 3) := by decide +kernel
theorem dX4_visitPoints_61 : decode cX4_visitPoints 61 = .ok (.iconst 0, 1) := by decide +kernel
theorem dX4_visitPoints_62 : decode cX4_visitPoints 62 = .ok (.invokevirtual 60, 3) := by decide +kernel
theorem dX4_visitPoints_65 : decode cX4_visitPoints 65 = .ok (.iinc 2 1, 3) := by decide +kernel
theorem dX4_visitPoints_68 : decode cX4_visitPoints 68 = .ok (.goto (-57), 3) := by decide +kernel
theorem dX4_visitPoints_71 : decode cX4_visitPoints 71 = .ok (.return_, 1) := by decide +kernel
set_option maxRecDepth 20000 in
theorem ggX4_walkSegments_X0_lay : GoodIn wsX4_walkSegments wsX0_lay := goodIn_r _ [10, 11, 12, 13, 14, 15, 16, 17, 18, 218, 219, 220, 221, 222, 223, 224, 225, 226, 227, 228, 229, 230, 237, 238, 239, 240] (by decide +kernel) (by decide +kernel)
set_option maxRecDepth 20000 in
theorem gX4_walkSegments_X0_lay : GoodIn wsX4_walkSegments (wsV RX4 91 RX0 yX0_lay wsX0_lay) := goodIn_app (goodIn_of _ (by decide +kernel)) ggX4_walkSegments_X0_lay
set_option maxRecDepth 20000 in
theorem ggX4_walkSegments_X2_clear : GoodIn wsX4_walkSegments wsX2_clear := goodIn_r _ [23, 24, 241, 242, 243, 244, 245, 246] (by decide +kernel) (by decide +kernel)
set_option maxRecDepth 20000 in
theorem gX4_walkSegments_X2_clear : GoodIn wsX4_walkSegments (wsV RX4 94 RX2 yX2_clear wsX2_clear) := goodIn_app (goodIn_of _ (by decide +kernel)) ggX4_walkSegments_X2_clear
set_option maxRecDepth 20000 in
theorem ggX4_walkSegments_X4_collectCuts : GoodIn wsX4_walkSegments wsX4_collectCuts := goodIn_r _ [29, 30, 31, 32, 2, 33, 34, 1, 35, 36, 37, 38, 39, 40, 41, 42, 43, 44, 45, 46, 47, 48, 49, 50, 51, 52, 53, 54, 55, 56, 9, 57, 17, 16, 18, 14, 58, 59, 60, 28, 61, 62, 63, 64, 65, 66, 67, 68, 69, 70, 71, 72, 73, 3, 74, 75, 76, 77, 78, 79, 80, 81, 22, 82, 24, 83, 84, 85, 86, 87, 88, 89, 90, 91, 92, 93, 94, 95, 96, 97, 98, 99, 100, 101, 102, 103, 104, 105, 106, 107, 108, 109, 110, 111, 112, 113, 114, 115, 116, 117, 118, 119, 120, 121, 122, 123, 124, 125, 126, 127, 128, 129, 130, 131, 132, 133, 134, 135, 136, 247, 248, 249, 250, 251, 252, 253, 254, 218, 219, 220, 221, 222, 223, 224, 225, 226, 227, 228, 229, 230, 231, 232, 233, 234, 235, 236, 237, 238, 239, 240, 241, 242, 243, 244, 245, 246] (by decide +kernel) (by decide +kernel)
set_option maxRecDepth 20000 in
theorem gX4_walkSegments_X4_collectCuts : GoodIn wsX4_walkSegments (wsV RX4 97 RX4 yX4_collectCuts wsX4_collectCuts) := goodIn_app (goodIn_of _ (by decide +kernel)) ggX4_walkSegments_X4_collectCuts
set_option maxRecDepth 20000 in
theorem ggX4_walkSegments_X2_sort : GoodIn wsX4_walkSegments wsX2_sort := goodIn_r _ [140, 24, 141, 101, 64, 102, 88, 86, 142, 143, 144, 22, 145, 146, 147, 148, 149, 85, 84, 150, 151, 152, 153, 154, 155, 156, 157, 158, 241, 242, 243, 244, 245, 246] (by decide +kernel) (by decide +kernel)
set_option maxRecDepth 20000 in
theorem gX4_walkSegments_X2_sort : GoodIn wsX4_walkSegments (wsV RX4 101 RX2 yX2_sort wsX2_sort) := goodIn_app (goodIn_of _ (by decide +kernel)) ggX4_walkSegments_X2_sort
set_option maxRecDepth 20000 in
theorem ggX4_walkSegments_X4_walk : GoodIn wsX4_walkSegments wsX4_walk := goodIn_r _ [162, 3, 163, 4, 5, 164, 165, 166, 22, 167, 83, 86, 168, 169, 170, 42, 171, 51, 52, 50, 53, 172, 173, 174, 175, 24, 146, 147, 148, 149, 85, 84, 150, 151, 152, 153, 154, 155, 156, 157, 158, 176, 177, 178, 179, 180, 181, 182, 183, 184, 185, 186, 187, 188, 189, 190, 191, 192, 193, 194, 44, 195, 196, 197, 198, 45, 199, 200, 201, 202, 203, 204, 205, 28, 206, 207, 208, 209, 210, 211, 46, 47, 48, 49, 212, 213, 214, 215, 216, 217, 231, 232, 233, 234, 235, 236, 241, 242, 243, 244, 245, 246, 247, 248, 249, 250, 251, 252, 253, 254, 218, 219, 220, 221, 222, 223, 224, 225, 226, 227, 228, 229, 230] (by decide +kernel) (by decide +kernel)
set_option maxRecDepth 20000 in
theorem gX4_walkSegments_X4_walk : GoodIn wsX4_walkSegments (wsV RX4 104 RX4 yX4_walk wsX4_walk) := goodIn_app (goodIn_of _ (by decide +kernel)) ggX4_walkSegments_X4_walk
theorem dX4_walkSegments_0 : decode cX4_walkSegments 0 = .ok (.iconst 0, 1) := by decide +kernel
theorem dX4_walkSegments_1 : decode cX4_walkSegments 1 = .ok (.istore_n 2, 1) := by decide +kernel
theorem dX4_walkSegments_2 : decode cX4_walkSegments 2 = .ok (.iload_n 2, 1) := by decide +kernel
theorem dX4_walkSegments_3 : decode cX4_walkSegments 3 = .ok (.aload_n 1, 1) := by decide +kernel
theorem dX4_walkSegments_4 : decode cX4_walkSegments 4 = .ok (.getfield 88, 3) := by decide +kernel
theorem dX4_walkSegments_7 : decode cX4_walkSegments 7 = .ok (.if_icmp .ge 52, 3) := by decide +kernel
theorem dX4_walkSegments_10 : decode cX4_walkSegments 10 = .ok (.aload_n 0, 1) := by decide +kernel
theorem dX4_walkSegments_11 : decode cX4_walkSegments 11 = .ok (.getfield 12, 3) := by decide +kernel
theorem dX4_walkSegments_14 : decode cX4_walkSegments 14 = .ok (.aload_n 1, 1) := by decide +kernel
theorem dX4_walkSegments_15 : decode cX4_walkSegments 15 = .ok (.iload_n 2, 1) := by decide +kernel
theorem dX4_walkSegments_16 : decode cX4_walkSegments 16 = .ok (.invokevirtual 91, 3) := by decide +kernel
theorem dX4_walkSegments_19 : decode cX4_walkSegments 19 = .ok (.aload_n 0, 1) := by decide +kernel
theorem dX4_walkSegments_20 : decode cX4_walkSegments 20 = .ok (.getfield 21, 3) := by decide +kernel
theorem dX4_walkSegments_23 : decode cX4_walkSegments 23 = .ok (.invokevirtual 94, 3) := by decide +kernel
theorem dX4_walkSegments_26 : decode cX4_walkSegments 26 = .ok (.aload_n 0, 1) := by decide +kernel
theorem dX4_walkSegments_27 : decode cX4_walkSegments 27 = .ok (.aload_n 0, 1) := by decide +kernel
theorem dX4_walkSegments_28 : decode cX4_walkSegments 28 = .ok (.getfield 38, 3) := by decide +kernel
theorem dX4_walkSegments_31 : decode cX4_walkSegments 31 = .ok (.invokevirtual 97, 3) := by decide +kernel
theorem dX4_walkSegments_34 : decode cX4_walkSegments 34 = .ok (.aload_n 0, 1) := by decide +kernel
theorem dX4_walkSegments_35 : decode cX4_walkSegments 35 = .ok (.aload_n 0, 1) := by decide +kernel
theorem dX4_walkSegments_36 : decode cX4_walkSegments 36 = .ok (.getfield 42, 3) := by decide +kernel
theorem dX4_walkSegments_39 : decode cX4_walkSegments 39 = .ok (.invokevirtual 97, 3) := by decide +kernel
theorem dX4_walkSegments_42 : decode cX4_walkSegments 42 = .ok (.aload_n 0, 1) := by decide +kernel
theorem dX4_walkSegments_43 : decode cX4_walkSegments 43 = .ok (.getfield 21, 3) := by decide +kernel
theorem dX4_walkSegments_46 : decode cX4_walkSegments 46 = .ok (.invokevirtual 101, 3) := by decide +kernel
theorem dX4_walkSegments_49 : decode cX4_walkSegments 49 = .ok (.aload_n 0, 1) := by decide +kernel
theorem dX4_walkSegments_50 : decode cX4_walkSegments 50 = .ok (.invokevirtual 104, 3) := by decide +kernel
theorem dX4_walkSegments_53 : decode cX4_walkSegments 53 = .ok (.iinc 2 1, 3) := by decide +kernel
theorem dX4_walkSegments_56 : decode cX4_walkSegments 56 = .ok (.goto (-54), 3) := by decide +kernel
theorem dX4_walkSegments_59 : decode cX4_walkSegments 59 = .ok (.return_, 1) := by decide +kernel
set_option maxRecDepth 20000 in
theorem ggX4_collectCuts_X1_start : GoodIn wsX4_collectCuts wsX1_start := goodIn_r _ [16, 17, 18, 19, 20, 21, 15, 22, 23, 24, 25, 26, 119, 120, 121, 122, 123, 124, 125, 126] (by decide +kernel) (by decide +kernel)
set_option maxRecDepth 20000 in
theorem gX4_collectCuts_X1_start : GoodIn wsX4_collectCuts (wsV RX4 107 RX1 yX1_start wsX1_start) := goodIn_app (goodIn_of _ (by decide +kernel)) ggX4_collectCuts_X1_start
set_option maxRecDepth 20000 in
theorem ggX4_collectCuts_X0_sideOf : GoodIn wsX4_collectCuts wsX0_sideOf := goodIn_r _ [31, 32, 33, 34, 35, 146, 147, 148, 149] (by decide +kernel) (by decide +kernel)
set_option maxRecDepth 20000 in
theorem gX4_collectCuts_X0_sideOf : GoodIn wsX4_collectCuts (wsV RX4 114 RX0 yX0_sideOf wsX0_sideOf) := goodIn_app (goodIn_of _ (by decide +kernel)) ggX4_collectCuts_X0_sideOf
set_option maxRecDepth 20000 in
theorem ggX4_collectCuts_X4_cutBySegment : GoodIn wsX4_collectCuts wsX4_cutBySegment := goodIn_r _ [40, 1, 3, 4, 5, 6, 41, 42, 43, 44, 45, 46, 47, 30, 48, 35, 33, 49, 50, 51, 39, 52, 53, 54, 55, 56, 57, 15, 58, 18, 59, 60, 61, 62, 63, 64, 65, 66, 67, 68, 69, 70, 71, 72, 73, 74, 75, 76, 77, 78, 79, 80, 81, 82, 83, 84, 85, 86, 87, 88, 89, 90, 91, 92, 93, 94, 95, 96, 97, 98, 99, 100, 101, 102, 103, 104, 105, 106, 107, 108, 109, 32, 34, 110, 111, 112, 113, 114, 119, 120, 121, 122, 123, 124, 125, 126, 127, 128, 129, 130, 131, 132, 133, 134, 135, 136, 137, 138, 139, 140, 141, 142, 143, 144, 145, 146, 147, 148, 149, 150, 151, 152, 153, 154, 155] (by decide +kernel) (by decide +kernel)
set_option maxRecDepth 20000 in
theorem gX4_collectCuts_X4_cutBySegment : GoodIn wsX4_collectCuts (wsV RX4 124 RX4 yX4_cutBySegment wsX4_cutBySegment) := goodIn_app (goodIn_of _ (by decide +kernel)) ggX4_collectCuts_X4_cutBySegment
set_option maxRecDepth 20000 in
theorem ggX4_collectCuts_X4_cutByMark : GoodIn wsX4_collectCuts wsX4_cutByMark := goodIn_r _ [118, 1, 3, 4, 5, 6, 53, 54, 106, 107, 108, 30, 109, 32, 35, 34, 33, 110, 111, 112, 113, 114, 42, 43, 44, 59, 60, 61, 62, 63, 64, 65, 66, 67, 68, 69, 70, 71, 72, 73, 74, 75, 76, 77, 78, 79, 80, 81, 82, 83, 84, 85, 86, 87, 88, 89, 90, 91, 92, 93, 94, 95, 119, 120, 121, 122, 123, 124, 125, 126, 127, 128, 129, 130, 131, 132, 133, 134, 135, 136, 137, 138, 139, 140, 141, 142, 143, 144, 145, 146, 147, 148, 149, 150, 151, 152, 153, 154, 155] (by decide +kernel) (by decide +kernel)
set_option maxRecDepth 20000 in
theorem gX4_collectCuts_X4_cutByMark : GoodIn wsX4_collectCuts (wsV RX4 134 RX4 yX4_cutByMark wsX4_cutByMark) := goodIn_app (goodIn_of _ (by decide +kernel)) ggX4_collectCuts_X4_cutByMark
theorem dX4_collectCuts_0 : decode cX4_collectCuts 0 = .ok (.aload_n 1, 1) := by decide +kernel
theorem dX4_collectCuts_1 : decode cX4_collectCuts 1 = .ok (.getfield 45, 3) := by decide +kernel
theorem dX4_collectCuts_4 : decode cX4_collectCuts 4 = .ok (.astore_n 2, 1) := by decide +kernel
theorem dX4_collectCuts_5 : decode cX4_collectCuts 5 = .ok (.aload_n 1, 1) := by decide +kernel
theorem dX4_collectCuts_6 : decode cX4_collectCuts 6 = .ok (.invokevirtual 107, 3) := by decide +kernel
theorem dX4_collectCuts_9 : decode cX4_collectCuts 9 = .ok (.iconst 0, 1) := by decide +kernel
theorem dX4_collectCuts_10 : decode cX4_collectCuts 10 = .ok (.istore_n 3, 1) := by decide +kernel
theorem dX4_collectCuts_11 : decode cX4_collectCuts 11 = .ok (.iload_n 3, 1) := by decide +kernel
theorem dX4_collectCuts_12 : decode cX4_collectCuts 12 = .ok (.aload_n 2, 1) := by decide +kernel
theorem dX4_collectCuts_13 : decode cX4_collectCuts 13 = .ok (.getfield 75, 3) := by decide +kernel
theorem dX4_collectCuts_16 : decode cX4_collectCuts 16 = .ok (.if_icmp .ge 34, 3) := by decide +kernel
theorem dX4_collectCuts_19 : decode cX4_collectCuts 19 = .ok (.aload_n 2, 1) := by decide +kernel
theorem dX4_collectCuts_20 : decode cX4_collectCuts 20 = .ok (.getfield 110, 3) := by decide +kernel
theorem dX4_collectCuts_23 : decode cX4_collectCuts 23 = .ok (.iload_n 3, 1) := by decide +kernel
theorem dX4_collectCuts_24 : decode cX4_collectCuts 24 = .ok (.aload_n 0, 1) := by decide +kernel
theorem dX4_collectCuts_25 : decode cX4_collectCuts 25 = .ok (.getfield 12, 3) := by decide +kernel
theorem dX4_collectCuts_28 : decode cX4_collectCuts 28 = .ok (.aload_n 2, 1) := by decide +kernel
theorem dX4_collectCuts_29 : decode cX4_collectCuts 29 = .ok (.getfield 78, 3) := by decide +kernel
theorem dX4_collectCuts_32 : decode cX4_collectCuts 32 = .ok (.iload_n 3, 1) := by decide +kernel
theorem dX4_collectCuts_33 : decode cX4_collectCuts 33 = .ok (.iaload, 1) := by decide +kernel
theorem dX4_collectCuts_34 : decode cX4_collectCuts 34 = .ok (.aload_n 2, 1) := by decide +kernel
theorem dX4_collectCuts_35 : decode cX4_collectCuts 35 = .ok (.getfield 81, 3) := by decide +kernel
theorem dX4_collectCuts_38 : decode cX4_collectCuts 38 = .ok (.iload_n 3, 1) := by decide +kernel
theorem dX4_collectCuts_39 : decode cX4_collectCuts 39 = .ok (.iaload, 1) := by decide +kernel
theorem dX4_collectCuts_40 : decode cX4_collectCuts 40 = .ok (.invokevirtual 114, 3) := by decide +kernel
theorem dX4_collectCuts_43 : decode cX4_collectCuts 43 = .ok (.lastore, 1) := by decide +kernel
theorem dX4_collectCuts_44 : decode cX4_collectCuts 44 = .ok (.iinc 3 1, 3) := by decide +kernel
theorem dX4_collectCuts_47 : decode cX4_collectCuts 47 = .ok (.goto (-36), 3) := by decide +kernel
theorem dX4_collectCuts_50 : decode cX4_collectCuts 50 = .ok (.iconst 0, 1) := by decide +kernel
theorem dX4_collectCuts_51 : decode cX4_collectCuts 51 = .ok (.istore_n 3, 1) := by decide +kernel
theorem dX4_collectCuts_52 : decode cX4_collectCuts 52 = .ok (.iload_n 3, 1) := by decide +kernel
theorem dX4_collectCuts_53 : decode cX4_collectCuts 53 = .ok (.aload_n 2, 1) := by decide +kernel
theorem dX4_collectCuts_54 : decode cX4_collectCuts 54 = .ok (.getfield 88, 3) := by decide +kernel
theorem dX4_collectCuts_57 : decode cX4_collectCuts 57 = .ok (.if_icmp .ge 26, 3) := by decide +kernel
theorem dX4_collectCuts_60 : decode cX4_collectCuts 60 = .ok (.aload_n 0, 1) := by decide +kernel
theorem dX4_collectCuts_61 : decode cX4_collectCuts 61 = .ok (.aload_n 1, 1) := by decide +kernel
theorem dX4_collectCuts_62 : decode cX4_collectCuts 62 = .ok (.aload_n 2, 1) := by decide +kernel
theorem dX4_collectCuts_63 : decode cX4_collectCuts 63 = .ok (.getfield 118, 3) := by decide +kernel
theorem dX4_collectCuts_66 : decode cX4_collectCuts 66 = .ok (.iload_n 3, 1) := by decide +kernel
theorem dX4_collectCuts_67 : decode cX4_collectCuts 67 = .ok (.iaload, 1) := by decide +kernel
theorem dX4_collectCuts_68 : decode cX4_collectCuts 68 = .ok (.aload_n 2, 1) := by decide +kernel
theorem dX4_collectCuts_69 : decode cX4_collectCuts 69 = .ok (.getfield 121, 3) := by decide +kernel
theorem dX4_collectCuts_72 : decode cX4_collectCuts 72 = .ok (.iload_n 3, 1) := by decide +kernel
theorem dX4_collectCuts_73 : decode cX4_collectCuts 73 = .ok (.iaload, 1) := by decide +kernel
theorem dX4_collectCuts_74 : decode cX4_collectCuts 74 = .ok (.invokevirtual 124, 3) := by decide +kernel
theorem dX4_collectCuts_77 : decode cX4_collectCuts 77 = .ok (.iinc 3 1, 3) := by decide +kernel
theorem dX4_collectCuts_80 : decode cX4_collectCuts 80 = .ok (.goto (-28), 3) := by decide +kernel
theorem dX4_collectCuts_83 : decode cX4_collectCuts 83 = .ok (.iconst 0, 1) := by decide +kernel
theorem dX4_collectCuts_84 : decode cX4_collectCuts 84 = .ok (.istore_n 3, 1) := by decide +kernel
theorem dX4_collectCuts_85 : decode cX4_collectCuts 85 = .ok (.iload_n 3, 1) := by decide +kernel
theorem dX4_collectCuts_86 : decode cX4_collectCuts 86 = .ok (.aload_n 2, 1) := by decide +kernel
theorem dX4_collectCuts_87 : decode cX4_collectCuts 87 = .ok (.getfield 128, 3) := by decide +kernel
theorem dX4_collectCuts_90 : decode cX4_collectCuts 90 = .ok (.if_icmp .ge 20, 3) := by decide +kernel
theorem dX4_collectCuts_93 : decode cX4_collectCuts 93 = .ok (.aload_n 0, 1) := by decide +kernel
theorem dX4_collectCuts_94 : decode cX4_collectCuts 94 = .ok (.aload_n 1, 1) := by decide +kernel
theorem dX4_collectCuts_95 : decode cX4_collectCuts 95 = .ok (.aload_n 2, 1) := by decide +kernel
theorem dX4_collectCuts_96 : decode cX4_collectCuts 96 = .ok (.getfield 131, 3) := by decide +kernel
theorem dX4_collectCuts_99 : decode cX4_collectCuts 99 = .ok (.iload_n 3, 1) := by decide +kernel
theorem dX4_collectCuts_100 : decode cX4_collectCuts 100 = .ok (.iaload, 1) := by decide +kernel
theorem dX4_collectCuts_101 : decode cX4_collectCuts 101 = .ok (.invokevirtual 134, 3) := by decide +kernel
theorem dX4_collectCuts_104 : decode cX4_collectCuts 104 = .ok (.iinc 3 1, 3) := by decide +kernel
theorem dX4_collectCuts_107 : decode cX4_collectCuts 107 = .ok (.goto (-22), 3) := by decide +kernel
theorem dX4_collectCuts_110 : decode cX4_collectCuts 110 = .ok (.return_, 1) := by decide +kernel
set_option maxRecDepth 20000 in
theorem ggX4_cutBySegment_X0_reach : GoodIn wsX4_cutBySegment wsX0_reach := goodIn_r _ [14, 15, 16, 115, 116, 117, 118] (by decide +kernel) (by decide +kernel)
set_option maxRecDepth 20000 in
theorem gX4_cutBySegment_X0_reach : GoodIn wsX4_cutBySegment (wsV RX4 138 RX0 yX0_reach wsX0_reach) := goodIn_app (goodIn_of _ (by decide +kernel)) ggX4_cutBySegment_X0_reach
set_option maxRecDepth 20000 in
theorem ggX4_cutBySegment_X4_cutAcross : GoodIn wsX4_cutBySegment wsX4_cutAcross := goodIn_r _ [21, 22, 23, 24, 25, 26, 27, 28, 29, 30, 31, 32, 33, 34, 35, 36, 37, 38, 39, 40, 41, 42, 43, 44, 45, 46, 47, 48, 49, 50, 51, 52, 53, 54, 8, 55, 56, 57, 58, 59, 60, 61, 62, 63, 64, 65, 66, 109, 110, 111, 112, 113, 114, 88, 89, 90, 91, 92, 93, 94, 95, 119, 120, 121, 122, 123, 124] (by decide +kernel) (by decide +kernel)
set_option maxRecDepth 20000 in
theorem gX4_cutBySegment_X4_cutAcross : GoodIn wsX4_cutBySegment (wsV RX4 148 RX4 yX4_cutAcross wsX4_cutAcross) := goodIn_app (goodIn_of _ (by decide +kernel)) ggX4_cutBySegment_X4_cutAcross
set_option maxRecDepth 20000 in
theorem ggX4_cutBySegment_X4_coverAlong : GoodIn wsX4_cutBySegment wsX4_coverAlong := goodIn_r _ [70, 1, 3, 4, 5, 71, 72, 8, 73, 74, 75, 76, 23, 22, 77, 78, 79, 13, 80, 81, 15, 82, 16, 83, 84, 85, 86, 87, 7, 9, 30, 31, 32, 33, 34, 35, 36, 37, 38, 39, 40, 41, 42, 43, 44, 45, 46, 47, 48, 49, 50, 51, 52, 53, 54, 55, 56, 57, 58, 59, 60, 61, 62, 63, 64, 65, 66, 88, 89, 90, 91, 92, 93, 94, 95, 109, 110, 111, 112, 113, 114, 96, 97, 98, 99, 100, 101, 102, 103, 104, 105, 106, 107, 108, 115, 116, 117, 118, 119, 120, 121, 122, 123, 124] (by decide +kernel) (by decide +kernel)
set_option maxRecDepth 20000 in
theorem gX4_cutBySegment_X4_coverAlong : GoodIn wsX4_cutBySegment (wsV RX4 152 RX4 yX4_coverAlong wsX4_coverAlong) := goodIn_app (goodIn_of _ (by decide +kernel)) ggX4_cutBySegment_X4_coverAlong
theorem dX4_cutBySegment_0 : decode cX4_cutBySegment 0 = .ok (.aload_n 1, 1) := by decide +kernel
theorem dX4_cutBySegment_1 : decode cX4_cutBySegment 1 = .ok (.getfield 45, 3) := by decide +kernel
theorem dX4_cutBySegment_4 : decode cX4_cutBySegment 4 = .ok (.astore 4, 2) := by decide +kernel
theorem dX4_cutBySegment_6 : decode cX4_cutBySegment 6 = .ok (.aload 4, 2) := by decide +kernel
theorem dX4_cutBySegment_8 : decode cX4_cutBySegment 8 = .ok (.getfield 110, 3) := by decide +kernel
theorem dX4_cutBySegment_11 : decode cX4_cutBySegment 11 = .ok (.iload_n 2, 1) := by decide +kernel
theorem dX4_cutBySegment_12 : decode cX4_cutBySegment 12 = .ok (.laload, 1) := by decide +kernel
theorem dX4_cutBySegment_13 : decode cX4_cutBySegment 13 = .ok (.lstore 5, 2) := by decide +kernel
theorem dX4_cutBySegment_15 : decode cX4_cutBySegment 15 = .ok (.aload 4, 2) := by decide +kernel
theorem dX4_cutBySegment_17 : decode cX4_cutBySegment 17 = .ok (.getfield 110, 3) := by decide +kernel
theorem dX4_cutBySegment_20 : decode cX4_cutBySegment 20 = .ok (.iload_n 3, 1) := by decide +kernel
theorem dX4_cutBySegment_21 : decode cX4_cutBySegment 21 = .ok (.laload, 1) := by decide +kernel
theorem dX4_cutBySegment_22 : decode cX4_cutBySegment 22 = .ok (.lstore 7, 2) := by decide +kernel
theorem dX4_cutBySegment_24 : decode cX4_cutBySegment 24 = .ok (.lload 5, 2) := by decide +kernel
theorem dX4_cutBySegment_26 : decode cX4_cutBySegment 26 = .ok (.lconst 0, 1) := by decide +kernel
theorem dX4_cutBySegment_27 : decode cX4_cutBySegment 27 = .ok (.lcmp, 1) := by decide +kernel
theorem dX4_cutBySegment_28 : decode cX4_cutBySegment 28 = .ok (.ifCond .le 7, 3) := by decide +kernel
theorem dX4_cutBySegment_31 : decode cX4_cutBySegment 31 = .ok (.iconst 1, 1) := by decide +kernel
theorem dX4_cutBySegment_32 : decode cX4_cutBySegment 32 = .ok (.goto 4, 3) := by decide +kernel
theorem dX4_cutBySegment_35 : decode cX4_cutBySegment 35 = .ok (.iconst 0, 1) := by decide +kernel
theorem dX4_cutBySegment_36 : decode cX4_cutBySegment 36 = .ok (.lload 7, 2) := by decide +kernel
theorem dX4_cutBySegment_38 : decode cX4_cutBySegment 38 = .ok (.lconst 0, 1) := by decide +kernel
theorem dX4_cutBySegment_39 : decode cX4_cutBySegment 39 = .ok (.lcmp, 1) := by decide +kernel
theorem dX4_cutBySegment_40 : decode cX4_cutBySegment 40 = .ok (.ifCond .le 7, 3) := by decide +kernel
theorem dX4_cutBySegment_43 : decode cX4_cutBySegment 43 = .ok (.iconst 1, 1) := by decide +kernel
theorem dX4_cutBySegment_44 : decode cX4_cutBySegment 44 = .ok (.goto 4, 3) := by decide +kernel
theorem dX4_cutBySegment_47 : decode cX4_cutBySegment 47 = .ok (.iconst 0, 1) := by decide +kernel
theorem dX4_cutBySegment_48 : decode cX4_cutBySegment 48 = .ok (.if_icmp .eq 7, 3) := by decide +kernel
theorem dX4_cutBySegment_51 : decode cX4_cutBySegment 51 = .ok (.iconst 1, 1) := by decide +kernel
theorem dX4_cutBySegment_52 : decode cX4_cutBySegment 52 = .ok (.goto 4, 3) := by decide +kernel
theorem dX4_cutBySegment_55 : decode cX4_cutBySegment 55 = .ok (.iconst 0, 1) := by decide +kernel
theorem dX4_cutBySegment_56 : decode cX4_cutBySegment 56 = .ok (.istore 9, 2) := by decide +kernel
theorem dX4_cutBySegment_58 : decode cX4_cutBySegment 58 = .ok (.lload 5, 2) := by decide +kernel
theorem dX4_cutBySegment_60 : decode cX4_cutBySegment 60 = .ok (.lconst 0, 1) := by decide +kernel
theorem dX4_cutBySegment_61 : decode cX4_cutBySegment 61 = .ok (.lcmp, 1) := by decide +kernel
theorem dX4_cutBySegment_62 : decode cX4_cutBySegment 62 = .ok (.ifCond .ge 7, 3) := by decide +kernel
theorem dX4_cutBySegment_65 : decode cX4_cutBySegment 65 = .ok (.iconst 1, 1) := by decide +kernel
theorem dX4_cutBySegment_66 : decode cX4_cutBySegment 66 = .ok (.goto 4, 3) := by decide +kernel
theorem dX4_cutBySegment_69 : decode cX4_cutBySegment 69 = .ok (.iconst 0, 1) := by decide +kernel
theorem dX4_cutBySegment_70 : decode cX4_cutBySegment 70 = .ok (.lload 7, 2) := by decide +kernel
theorem dX4_cutBySegment_72 : decode cX4_cutBySegment 72 = .ok (.lconst 0, 1) := by decide +kernel
theorem dX4_cutBySegment_73 : decode cX4_cutBySegment 73 = .ok (.lcmp, 1) := by decide +kernel
theorem dX4_cutBySegment_74 : decode cX4_cutBySegment 74 = .ok (.ifCond .ge 7, 3) := by decide +kernel
theorem dX4_cutBySegment_77 : decode cX4_cutBySegment 77 = .ok (.iconst 1, 1) := by decide +kernel
theorem dX4_cutBySegment_78 : decode cX4_cutBySegment 78 = .ok (.goto 4, 3) := by decide +kernel
theorem dX4_cutBySegment_81 : decode cX4_cutBySegment 81 = .ok (.iconst 0, 1) := by decide +kernel
theorem dX4_cutBySegment_82 : decode cX4_cutBySegment 82 = .ok (.if_icmp .eq 7, 3) := by decide +kernel
theorem dX4_cutBySegment_85 : decode cX4_cutBySegment 85 = .ok (.iconst 1, 1) := by decide +kernel
theorem dX4_cutBySegment_86 : decode cX4_cutBySegment 86 = .ok (.goto 4, 3) := by decide +kernel
theorem dX4_cutBySegment_89 : decode cX4_cutBySegment 89 = .ok (.iconst 0, 1) := by decide +kernel
theorem dX4_cutBySegment_90 : decode cX4_cutBySegment 90 = .ok (.istore 10, 2) := by decide +kernel
theorem dX4_cutBySegment_92 : decode cX4_cutBySegment 92 = .ok (.iload 9, 2) := by decide +kernel
theorem dX4_cutBySegment_94 : decode cX4_cutBySegment 94 = .ok (.ifCond .ne 8, 3) := by decide +kernel
theorem dX4_cutBySegment_97 : decode cX4_cutBySegment 97 = .ok (.iload 10, 2) := by decide +kernel
theorem dX4_cutBySegment_99 : decode cX4_cutBySegment 99 = .ok (.ifCond .eq 102, 3) := by decide +kernel
theorem dX4_cutBySegment_102 : decode cX4_cutBySegment 102 = .ok (.iload 9, 2) := by decide +kernel
theorem dX4_cutBySegment_104 : decode cX4_cutBySegment 104 = .ok (.ifCond .eq 8, 3) := by decide +kernel
theorem dX4_cutBySegment_107 : decode cX4_cutBySegment 107 = .ok (.bipush 16, 2) := by decide +kernel
theorem dX4_cutBySegment_109 : decode cX4_cutBySegment 109 = .ok (.goto 4, 3) := by decide +kernel
theorem dX4_cutBySegment_112 : decode cX4_cutBySegment 112 = .ok (.iconst 0, 1) := by decide +kernel
theorem dX4_cutBySegment_113 : decode cX4_cutBySegment 113 = .ok (.iload 10, 2) := by decide +kernel
theorem dX4_cutBySegment_115 : decode cX4_cutBySegment 115 = .ok (.ifCond .eq 8, 3) := by decide +kernel
theorem dX4_cutBySegment_118 : decode cX4_cutBySegment 118 = .ok (.bipush 32, 2) := by decide +kernel
theorem dX4_cutBySegment_120 : decode cX4_cutBySegment 120 = .ok (.goto 4, 3) := by decide +kernel
theorem dX4_cutBySegment_123 : decode cX4_cutBySegment 123 = .ok (.iconst 0, 1) := by decide +kernel
theorem dX4_cutBySegment_124 : decode cX4_cutBySegment 124 = .ok (.ior, 1) := by decide +kernel
theorem dX4_cutBySegment_125 : decode cX4_cutBySegment 125 = .ok (.istore 11, 2) := by decide +kernel
theorem dX4_cutBySegment_127 : decode cX4_cutBySegment 127 = .ok (.aload_n 0, 1) := by decide +kernel
theorem dX4_cutBySegment_128 : decode cX4_cutBySegment 128 = .ok (.getfield 12, 3) := by decide +kernel
theorem dX4_cutBySegment_131 : decode cX4_cutBySegment 131 = .ok (.aload 4, 2) := by decide +kernel
theorem dX4_cutBySegment_133 : decode cX4_cutBySegment 133 = .ok (.getfield 78, 3) := by decide +kernel
theorem dX4_cutBySegment_136 : decode cX4_cutBySegment 136 = .ok (.iload_n 2, 1) := by decide +kernel
theorem dX4_cutBySegment_137 : decode cX4_cutBySegment 137 = .ok (.iaload, 1) := by decide +kernel
theorem dX4_cutBySegment_138 : decode cX4_cutBySegment 138 = .ok (.aload 4, 2) := by decide +kernel
theorem dX4_cutBySegment_140 : decode cX4_cutBySegment 140 = .ok (.getfield 81, 3) := by decide +kernel
theorem dX4_cutBySegment_143 : decode cX4_cutBySegment 143 = .ok (.iload_n 2, 1) := by decide +kernel
theorem dX4_cutBySegment_144 : decode cX4_cutBySegment 144 = .ok (.iaload, 1) := by decide +kernel
theorem dX4_cutBySegment_145 : decode cX4_cutBySegment 145 = .ok (.aload 4, 2) := by decide +kernel
theorem dX4_cutBySegment_147 : decode cX4_cutBySegment 147 = .ok (.getfield 78, 3) := by decide +kernel
theorem dX4_cutBySegment_150 : decode cX4_cutBySegment 150 = .ok (.iload_n 3, 1) := by decide +kernel
theorem dX4_cutBySegment_151 : decode cX4_cutBySegment 151 = .ok (.iaload, 1) := by decide +kernel
theorem dX4_cutBySegment_152 : decode cX4_cutBySegment 152 = .ok (.aload 4, 2) := by decide +kernel
theorem dX4_cutBySegment_154 : decode cX4_cutBySegment 154 = .ok (.getfield 81, 3) := by decide +kernel
theorem dX4_cutBySegment_157 : decode cX4_cutBySegment 157 = .ok (.iload_n 3, 1) := by decide +kernel
theorem dX4_cutBySegment_158 : decode cX4_cutBySegment 158 = .ok (.iaload, 1) := by decide +kernel
theorem dX4_cutBySegment_159 : decode cX4_cutBySegment 159 = .ok (.invokevirtual 138, 3) := by decide +kernel
theorem dX4_cutBySegment_162 : decode cX4_cutBySegment 162 = .ok (.lstore 12, 2) := by decide +kernel
theorem dX4_cutBySegment_164 : decode cX4_cutBySegment 164 = .ok (.lload 7, 2) := by decide +kernel
theorem dX4_cutBySegment_166 : decode cX4_cutBySegment 166 = .ok (.lload 5, 2) := by decide +kernel
theorem dX4_cutBySegment_168 : decode cX4_cutBySegment 168 = .ok (.lsub, 1) := by decide +kernel
theorem dX4_cutBySegment_169 : decode cX4_cutBySegment 169 = .ok (.lstore 14, 2) := by decide +kernel
theorem dX4_cutBySegment_171 : decode cX4_cutBySegment 171 = .ok (.aload_n 0, 1) := by decide +kernel
theorem dX4_cutBySegment_172 : decode cX4_cutBySegment 172 = .ok (.aload_n 1, 1) := by decide +kernel
theorem dX4_cutBySegment_173 : decode cX4_cutBySegment 173 = .ok (.lload 14, 2) := by decide +kernel
theorem dX4_cutBySegment_175 : decode cX4_cutBySegment 175 = .ok (.lconst 0, 1) := by decide +kernel
theorem dX4_cutBySegment_176 : decode cX4_cutBySegment 176 = .ok (.lcmp, 1) := by decide +kernel
theorem dX4_cutBySegment_177 : decode cX4_cutBySegment 177 = .ok (.ifCond .ge 9, 3) := by decide +kernel
theorem dX4_cutBySegment_180 : decode cX4_cutBySegment 180 = .ok (.lload 12, 2) := by decide +kernel
theorem dX4_cutBySegment_182 : decode cX4_cutBySegment 182 = .ok (.lneg, 1) := by decide +kernel
theorem dX4_cutBySegment_183 : decode cX4_cutBySegment 183 = .ok (.goto 5, 3) := by decide +kernel
theorem dX4_cutBySegment_186 : decode cX4_cutBySegment 186 = .ok (.lload 12, 2) := by decide +kernel
theorem dX4_cutBySegment_188 : decode cX4_cutBySegment 188 = .ok (.lload 14, 2) := by decide +kernel
theorem dX4_cutBySegment_190 : decode cX4_cutBySegment 190 = .ok (.invokestatic 142, 3) := by decide +kernel
theorem dX4_cutBySegment_193 : decode cX4_cutBySegment 193 = .ok (.iload 11, 2) := by decide +kernel
theorem dX4_cutBySegment_195 : decode cX4_cutBySegment 195 = .ok (.invokevirtual 148, 3) := by decide +kernel
theorem dX4_cutBySegment_198 : decode cX4_cutBySegment 198 = .ok (.goto 17, 3) := by decide +kernel
theorem dX4_cutBySegment_201 : decode cX4_cutBySegment 201 = .ok (.lload 5, 2) := by decide +kernel
theorem dX4_cutBySegment_203 : decode cX4_cutBySegment 203 = .ok (.lconst 0, 1) := by decide +kernel
theorem dX4_cutBySegment_204 : decode cX4_cutBySegment 204 = .ok (.lcmp, 1) := by decide +kernel
theorem dX4_cutBySegment_205 : decode cX4_cutBySegment 205 = .ok (.ifCond .ne 10, 3) := by decide +kernel
theorem dX4_cutBySegment_208 : decode cX4_cutBySegment 208 = .ok (.aload_n 0, 1) := by decide +kernel
theorem dX4_cutBySegment_209 : decode cX4_cutBySegment 209 = .ok (.aload_n 1, 1) := by decide +kernel
theorem dX4_cutBySegment_210 : decode cX4_cutBySegment 210 = .ok (.iload_n 2, 1) := by decide +kernel
theorem dX4_cutBySegment_211 : decode cX4_cutBySegment 211 = .ok (.iload_n 3, 1) := by decide +kernel
theorem dX4_cutBySegment_212 : decode cX4_cutBySegment 212 = .ok (.invokevirtual 152, 3) := by decide +kernel
theorem dX4_cutBySegment_215 : decode cX4_cutBySegment 215 = .ok (.return_, 1) := by decide +kernel
set_option maxRecDepth 20000 in
theorem ggX4_cutAcross_X1_turnAhead : GoodIn wsX4_cutAcross wsX1_turnAhead := goodIn_r _ [7, 8, 53, 54, 55, 56, 57, 58, 59, 60] (by decide +kernel) (by decide +kernel)
set_option maxRecDepth 20000 in
theorem gX4_cutAcross_X1_turnAhead : GoodIn wsX4_cutAcross (wsV RX4 155 RX1 yX1_turnAhead wsX1_turnAhead) := goodIn_app (goodIn_of _ (by decide +kernel)) ggX4_cutAcross_X1_turnAhead
set_option maxRecDepth 20000 in
theorem ggX4_cutAcross_X2_add : GoodIn wsX4_cutAcross wsX2_add := goodIn_r _ [13, 14, 15, 16, 17, 18, 19, 20, 21, 22, 23, 24, 25, 26, 27, 28, 29, 30, 31, 32, 33, 34, 35, 36, 37, 38, 39, 40, 41, 42, 43, 44, 45, 46, 61, 62, 63, 64, 65, 66] (by decide +kernel) (by decide +kernel)
set_option maxRecDepth 20000 in
theorem gX4_cutAcross_X2_add : GoodIn wsX4_cutAcross (wsV RX4 162 RX2 yX2_add wsX2_add) := goodIn_app (goodIn_of _ (by decide +kernel)) ggX4_cutAcross_X2_add
theorem dX4_cutAcross_0 : decode cX4_cutAcross 0 = .ok (.lload_n 2, 1) := by decide +kernel
theorem dX4_cutAcross_1 : decode cX4_cutAcross 1 = .ok (.lconst 0, 1) := by decide +kernel
theorem dX4_cutAcross_2 : decode cX4_cutAcross 2 = .ok (.lcmp, 1) := by decide +kernel
theorem dX4_cutAcross_3 : decode cX4_cutAcross 3 = .ok (.ifCond .le 9, 3) := by decide +kernel
theorem dX4_cutAcross_6 : decode cX4_cutAcross 6 = .ok (.aload_n 1, 1) := by decide +kernel
theorem dX4_cutAcross_7 : decode cX4_cutAcross 7 = .ok (.iload 6, 2) := by decide +kernel
theorem dX4_cutAcross_9 : decode cX4_cutAcross 9 = .ok (.invokevirtual 155, 3) := by decide +kernel
theorem dX4_cutAcross_12 : decode cX4_cutAcross 12 = .ok (.lload_n 2, 1) := by decide +kernel
theorem dX4_cutAcross_13 : decode cX4_cutAcross 13 = .ok (.lconst 0, 1) := by decide +kernel
theorem dX4_cutAcross_14 : decode cX4_cutAcross 14 = .ok (.lcmp, 1) := by decide +kernel
theorem dX4_cutAcross_15 : decode cX4_cutAcross 15 = .ok (.ifCond .lt 39, 3) := by decide +kernel
theorem dX4_cutAcross_18 : decode cX4_cutAcross 18 = .ok (.lload_n 2, 1) := by decide +kernel
theorem dX4_cutAcross_19 : decode cX4_cutAcross 19 = .ok (.lload 4, 2) := by decide +kernel
theorem dX4_cutAcross_21 : decode cX4_cutAcross 21 = .ok (.lcmp, 1) := by decide +kernel
theorem dX4_cutAcross_22 : decode cX4_cutAcross 22 = .ok (.ifCond .gt 32, 3) := by decide +kernel
theorem dX4_cutAcross_25 : decode cX4_cutAcross 25 = .ok (.aload_n 0, 1) := by decide +kernel
theorem dX4_cutAcross_26 : decode cX4_cutAcross 26 = .ok (.getfield 21, 3) := by decide +kernel
theorem dX4_cutAcross_29 : decode cX4_cutAcross 29 = .ok (.lload_n 2, 1) := by decide +kernel
theorem dX4_cutAcross_30 : decode cX4_cutAcross 30 = .ok (.lload 4, 2) := by decide +kernel
theorem dX4_cutAcross_32 : decode cX4_cutAcross 32 = .ok (.aload_n 1, 1) := by decide +kernel
theorem dX4_cutAcross_33 : decode cX4_cutAcross 33 = .ok (.getfield 159, 3) := by decide +kernel
theorem dX4_cutAcross_36 : decode cX4_cutAcross 36 = .ok (.iconst 1, 1) := by decide +kernel
theorem dX4_cutAcross_37 : decode cX4_cutAcross 37 = .ok (.ior, 1) := by decide +kernel
theorem dX4_cutAcross_38 : decode cX4_cutAcross 38 = .ok (.lload_n 2, 1) := by decide +kernel
theorem dX4_cutAcross_39 : decode cX4_cutAcross 39 = .ok (.lconst 0, 1) := by decide +kernel
theorem dX4_cutAcross_40 : decode cX4_cutAcross 40 = .ok (.lcmp, 1) := by decide +kernel
theorem dX4_cutAcross_41 : decode cX4_cutAcross 41 = .ok (.ifCond .le 8, 3) := by decide +kernel
theorem dX4_cutAcross_44 : decode cX4_cutAcross 44 = .ok (.iload 6, 2) := by decide +kernel
theorem dX4_cutAcross_46 : decode cX4_cutAcross 46 = .ok (.goto 4, 3) := by decide +kernel
theorem dX4_cutAcross_49 : decode cX4_cutAcross 49 = .ok (.iconst 0, 1) := by decide +kernel
theorem dX4_cutAcross_50 : decode cX4_cutAcross 50 = .ok (.ior, 1) := by decide +kernel
theorem dX4_cutAcross_51 : decode cX4_cutAcross 51 = .ok (.invokevirtual 162, 3) := by decide +kernel
theorem dX4_cutAcross_54 : decode cX4_cutAcross 54 = .ok (.return_, 1) := by decide +kernel
set_option maxRecDepth 20000 in
theorem ggX4_coverAlong_X0_along : GoodIn wsX4_coverAlong wsX0_along := goodIn_r _ [18, 19, 20, 21, 22, 94, 95, 96, 97] (by decide +kernel) (by decide +kernel)
set_option maxRecDepth 20000 in
theorem gX4_coverAlong_X0_along : GoodIn wsX4_coverAlong (wsV RX4 166 RX0 yX0_along wsX0_along) := goodIn_app (goodIn_of _ (by decide +kernel)) ggX4_coverAlong_X0_along
set_option maxRecDepth 20000 in
theorem ggX4_coverAlong_X0_span : GoodIn wsX4_coverAlong wsX0_span := goodIn_r _ [26, 19, 21, 27, 28, 7, 29, 94, 95, 96, 97] (by decide +kernel) (by decide +kernel)
set_option maxRecDepth 20000 in
theorem gX4_coverAlong_X0_span : GoodIn wsX4_coverAlong (wsV RX4 169 RX0 yX0_span wsX0_span) := goodIn_app (goodIn_of _ (by decide +kernel)) ggX4_coverAlong_X0_span
set_option maxRecDepth 20000 in
theorem ggX4_coverAlong_X2_add : GoodIn wsX4_coverAlong wsX2_add := goodIn_r _ [34, 35, 36, 37, 38, 39, 40, 41, 42, 43, 44, 45, 46, 47, 48, 49, 50, 51, 52, 53, 54, 7, 55, 56, 57, 58, 59, 60, 61, 62, 63, 64, 65, 66, 98, 99, 100, 101, 102, 103] (by decide +kernel) (by decide +kernel)
set_option maxRecDepth 20000 in
theorem gX4_coverAlong_X2_add : GoodIn wsX4_coverAlong (wsV RX4 162 RX2 yX2_add wsX2_add) := goodIn_app (goodIn_of _ (by decide +kernel)) ggX4_coverAlong_X2_add
theorem dX4_coverAlong_0 : decode cX4_coverAlong 0 = .ok (.aload_n 1, 1) := by decide +kernel
theorem dX4_coverAlong_1 : decode cX4_coverAlong 1 = .ok (.getfield 45, 3) := by decide +kernel
theorem dX4_coverAlong_4 : decode cX4_coverAlong 4 = .ok (.astore 4, 2) := by decide +kernel
theorem dX4_coverAlong_6 : decode cX4_coverAlong 6 = .ok (.aload_n 0, 1) := by decide +kernel
theorem dX4_coverAlong_7 : decode cX4_coverAlong 7 = .ok (.getfield 12, 3) := by decide +kernel
theorem dX4_coverAlong_10 : decode cX4_coverAlong 10 = .ok (.aload 4, 2) := by decide +kernel
theorem dX4_coverAlong_12 : decode cX4_coverAlong 12 = .ok (.getfield 78, 3) := by decide +kernel
theorem dX4_coverAlong_15 : decode cX4_coverAlong 15 = .ok (.iload_n 2, 1) := by decide +kernel
theorem dX4_coverAlong_16 : decode cX4_coverAlong 16 = .ok (.iaload, 1) := by decide +kernel
theorem dX4_coverAlong_17 : decode cX4_coverAlong 17 = .ok (.aload 4, 2) := by decide +kernel
theorem dX4_coverAlong_19 : decode cX4_coverAlong 19 = .ok (.getfield 81, 3) := by decide +kernel
theorem dX4_coverAlong_22 : decode cX4_coverAlong 22 = .ok (.iload_n 2, 1) := by decide +kernel
theorem dX4_coverAlong_23 : decode cX4_coverAlong 23 = .ok (.iaload, 1) := by decide +kernel
theorem dX4_coverAlong_24 : decode cX4_coverAlong 24 = .ok (.invokevirtual 166, 3) := by decide +kernel
theorem dX4_coverAlong_27 : decode cX4_coverAlong 27 = .ok (.lstore 5, 2) := by decide +kernel
theorem dX4_coverAlong_29 : decode cX4_coverAlong 29 = .ok (.aload_n 0, 1) := by decide +kernel
theorem dX4_coverAlong_30 : decode cX4_coverAlong 30 = .ok (.getfield 12, 3) := by decide +kernel
theorem dX4_coverAlong_33 : decode cX4_coverAlong 33 = .ok (.aload 4, 2) := by decide +kernel
theorem dX4_coverAlong_35 : decode cX4_coverAlong 35 = .ok (.getfield 78, 3) := by decide +kernel
theorem dX4_coverAlong_38 : decode cX4_coverAlong 38 = .ok (.iload_n 3, 1) := by decide +kernel
theorem dX4_coverAlong_39 : decode cX4_coverAlong 39 = .ok (.iaload, 1) := by decide +kernel
theorem dX4_coverAlong_40 : decode cX4_coverAlong 40 = .ok (.aload 4, 2) := by decide +kernel
theorem dX4_coverAlong_42 : decode cX4_coverAlong 42 = .ok (.getfield 81, 3) := by decide +kernel
theorem dX4_coverAlong_45 : decode cX4_coverAlong 45 = .ok (.iload_n 3, 1) := by decide +kernel
theorem dX4_coverAlong_46 : decode cX4_coverAlong 46 = .ok (.iaload, 1) := by decide +kernel
theorem dX4_coverAlong_47 : decode cX4_coverAlong 47 = .ok (.invokevirtual 166, 3) := by decide +kernel
theorem dX4_coverAlong_50 : decode cX4_coverAlong 50 = .ok (.lstore 7, 2) := by decide +kernel
theorem dX4_coverAlong_52 : decode cX4_coverAlong 52 = .ok (.aload_n 0, 1) := by decide +kernel
theorem dX4_coverAlong_53 : decode cX4_coverAlong 53 = .ok (.getfield 12, 3) := by decide +kernel
theorem dX4_coverAlong_56 : decode cX4_coverAlong 56 = .ok (.invokevirtual 169, 3) := by decide +kernel
theorem dX4_coverAlong_59 : decode cX4_coverAlong 59 = .ok (.lstore 9, 2) := by decide +kernel
theorem dX4_coverAlong_61 : decode cX4_coverAlong 61 = .ok (.lload 5, 2) := by decide +kernel
theorem dX4_coverAlong_63 : decode cX4_coverAlong 63 = .ok (.lload 7, 2) := by decide +kernel
theorem dX4_coverAlong_65 : decode cX4_coverAlong 65 = .ok (.invokestatic 173, 3) := by decide +kernel
theorem dX4_coverAlong_68 : decode cX4_coverAlong 68 = .ok (.lconst 0, 1) := by decide +kernel
theorem dX4_coverAlong_69 : decode cX4_coverAlong 69 = .ok (.invokestatic 177, 3) := by decide +kernel
theorem dX4_coverAlong_72 : decode cX4_coverAlong 72 = .ok (.lstore 11, 2) := by decide +kernel
theorem dX4_coverAlong_74 : decode cX4_coverAlong 74 = .ok (.lload 5, 2) := by decide +kernel
theorem dX4_coverAlong_76 : decode cX4_coverAlong 76 = .ok (.lload 7, 2) := by decide +kernel
theorem dX4_coverAlong_78 : decode cX4_coverAlong 78 = .ok (.invokestatic 177, 3) := by decide +kernel
theorem dX4_coverAlong_81 : decode cX4_coverAlong 81 = .ok (.lload 9, 2) := by decide +kernel
theorem dX4_coverAlong_83 : decode cX4_coverAlong 83 = .ok (.invokestatic 173, 3) := by decide +kernel
theorem dX4_coverAlong_86 : decode cX4_coverAlong 86 = .ok (.lstore 13, 2) := by decide +kernel
theorem dX4_coverAlong_88 : decode cX4_coverAlong 88 = .ok (.aload_n 1, 1) := by decide +kernel
theorem dX4_coverAlong_89 : decode cX4_coverAlong 89 = .ok (.getfield 159, 3) := by decide +kernel
theorem dX4_coverAlong_92 : decode cX4_coverAlong 92 = .ok (.iconst 1, 1) := by decide +kernel
theorem dX4_coverAlong_93 : decode cX4_coverAlong 93 = .ok (.ior, 1) := by decide +kernel
theorem dX4_coverAlong_94 : decode cX4_coverAlong 94 = .ok (.istore 15, 2) := by decide +kernel
theorem dX4_coverAlong_96 : decode cX4_coverAlong 96 = .ok (.lload 11, 2) := by decide +kernel
theorem dX4_coverAlong_98 : decode cX4_coverAlong 98 = .ok (.lload 13, 2) := by decide +kernel
theorem dX4_coverAlong_100 : decode cX4_coverAlong 100 = .ok (.lcmp, 1) := by decide +kernel
theorem dX4_coverAlong_101 : decode cX4_coverAlong 101 = .ok (.ifCond .gt 34, 3) := by decide +kernel
theorem dX4_coverAlong_104 : decode cX4_coverAlong 104 = .ok (.aload_n 0, 1) := by decide +kernel
theorem dX4_coverAlong_105 : decode cX4_coverAlong 105 = .ok (.getfield 21, 3) := by decide +kernel
theorem dX4_coverAlong_108 : decode cX4_coverAlong 108 = .ok (.lload 11, 2) := by decide +kernel
theorem dX4_coverAlong_110 : decode cX4_coverAlong 110 = .ok (.lload 9, 2) := by decide +kernel
theorem dX4_coverAlong_112 : decode cX4_coverAlong 112 = .ok (.iload 15, 2) := by decide +kernel
theorem dX4_coverAlong_114 : decode cX4_coverAlong 114 = .ok (.iconst 4, 1) := by decide +kernel
theorem dX4_coverAlong_115 : decode cX4_coverAlong 115 = .ok (.ior, 1) := by decide +kernel
theorem dX4_coverAlong_116 : decode cX4_coverAlong 116 = .ok (.invokevirtual 162, 3) := by decide +kernel
theorem dX4_coverAlong_119 : decode cX4_coverAlong 119 = .ok (.aload_n 0, 1) := by decide +kernel
theorem dX4_coverAlong_120 : decode cX4_coverAlong 120 = .ok (.getfield 21, 3) := by decide +kernel
theorem dX4_coverAlong_123 : decode cX4_coverAlong 123 = .ok (.lload 13, 2) := by decide +kernel
theorem dX4_coverAlong_125 : decode cX4_coverAlong 125 = .ok (.lload 9, 2) := by decide +kernel
theorem dX4_coverAlong_127 : decode cX4_coverAlong 127 = .ok (.iload 15, 2) := by decide +kernel
theorem dX4_coverAlong_129 : decode cX4_coverAlong 129 = .ok (.bipush 8, 2) := by decide +kernel
theorem dX4_coverAlong_131 : decode cX4_coverAlong 131 = .ok (.ior, 1) := by decide +kernel
theorem dX4_coverAlong_132 : decode cX4_coverAlong 132 = .ok (.invokevirtual 162, 3) := by decide +kernel
theorem dX4_coverAlong_135 : decode cX4_coverAlong 135 = .ok (.return_, 1) := by decide +kernel
set_option maxRecDepth 20000 in
theorem ggX4_cutByMark_X0_along : GoodIn wsX4_cutByMark wsX0_along := goodIn_r _ [12, 13, 14, 15, 16, 89, 90, 91, 92] (by decide +kernel) (by decide +kernel)
set_option maxRecDepth 20000 in
theorem gX4_cutByMark_X0_along : GoodIn wsX4_cutByMark (wsV RX4 166 RX0 yX0_along wsX0_along) := goodIn_app (goodIn_of _ (by decide +kernel)) ggX4_cutByMark_X0_along
set_option maxRecDepth 20000 in
theorem ggX4_cutByMark_X0_span : GoodIn wsX4_cutByMark wsX0_span := goodIn_r _ [20, 13, 15, 21, 22, 23, 24, 89, 90, 91, 92] (by decide +kernel) (by decide +kernel)
set_option maxRecDepth 20000 in
theorem gX4_cutByMark_X0_span : GoodIn wsX4_cutByMark (wsV RX4 169 RX0 yX0_span wsX0_span) := goodIn_app (goodIn_of _ (by decide +kernel)) ggX4_cutByMark_X0_span
set_option maxRecDepth 20000 in
theorem ggX4_cutByMark_X2_add : GoodIn wsX4_cutByMark wsX2_add := goodIn_r _ [29, 30, 31, 32, 33, 34, 35, 36, 37, 38, 39, 40, 41, 42, 43, 44, 45, 46, 47, 48, 49, 23, 50, 51, 52, 53, 54, 55, 56, 57, 58, 59, 60, 61, 93, 94, 95, 96, 97, 98] (by decide +kernel) (by decide +kernel)
set_option maxRecDepth 20000 in
theorem gX4_cutByMark_X2_add : GoodIn wsX4_cutByMark (wsV RX4 162 RX2 yX2_add wsX2_add) := goodIn_app (goodIn_of _ (by decide +kernel)) ggX4_cutByMark_X2_add
theorem dX4_cutByMark_0 : decode cX4_cutByMark 0 = .ok (.aload_n 1, 1) := by decide +kernel
theorem dX4_cutByMark_1 : decode cX4_cutByMark 1 = .ok (.getfield 45, 3) := by decide +kernel
theorem dX4_cutByMark_4 : decode cX4_cutByMark 4 = .ok (.astore_n 3, 1) := by decide +kernel
theorem dX4_cutByMark_5 : decode cX4_cutByMark 5 = .ok (.aload_n 3, 1) := by decide +kernel
theorem dX4_cutByMark_6 : decode cX4_cutByMark 6 = .ok (.getfield 110, 3) := by decide +kernel
theorem dX4_cutByMark_9 : decode cX4_cutByMark 9 = .ok (.iload_n 2, 1) := by decide +kernel
theorem dX4_cutByMark_10 : decode cX4_cutByMark 10 = .ok (.laload, 1) := by decide +kernel
theorem dX4_cutByMark_11 : decode cX4_cutByMark 11 = .ok (.lconst 0, 1) := by decide +kernel
theorem dX4_cutByMark_12 : decode cX4_cutByMark 12 = .ok (.lcmp, 1) := by decide +kernel
theorem dX4_cutByMark_13 : decode cX4_cutByMark 13 = .ok (.ifCond .eq 4, 3) := by decide +kernel
theorem dX4_cutByMark_16 : decode cX4_cutByMark 16 = .ok (.return_, 1) := by decide +kernel
theorem dX4_cutByMark_17 : decode cX4_cutByMark 17 = .ok (.aload_n 0, 1) := by decide +kernel
theorem dX4_cutByMark_18 : decode cX4_cutByMark 18 = .ok (.getfield 12, 3) := by decide +kernel
theorem dX4_cutByMark_21 : decode cX4_cutByMark 21 = .ok (.aload_n 3, 1) := by decide +kernel
theorem dX4_cutByMark_22 : decode cX4_cutByMark 22 = .ok (.getfield 78, 3) := by decide +kernel
theorem dX4_cutByMark_25 : decode cX4_cutByMark 25 = .ok (.iload_n 2, 1) := by decide +kernel
theorem dX4_cutByMark_26 : decode cX4_cutByMark 26 = .ok (.iaload, 1) := by decide +kernel
theorem dX4_cutByMark_27 : decode cX4_cutByMark 27 = .ok (.aload_n 3, 1) := by decide +kernel
theorem dX4_cutByMark_28 : decode cX4_cutByMark 28 = .ok (.getfield 81, 3) := by decide +kernel
theorem dX4_cutByMark_31 : decode cX4_cutByMark 31 = .ok (.iload_n 2, 1) := by decide +kernel
theorem dX4_cutByMark_32 : decode cX4_cutByMark 32 = .ok (.iaload, 1) := by decide +kernel
theorem dX4_cutByMark_33 : decode cX4_cutByMark 33 = .ok (.invokevirtual 166, 3) := by decide +kernel
theorem dX4_cutByMark_36 : decode cX4_cutByMark 36 = .ok (.lstore 4, 2) := by decide +kernel
theorem dX4_cutByMark_38 : decode cX4_cutByMark 38 = .ok (.lload 4, 2) := by decide +kernel
theorem dX4_cutByMark_40 : decode cX4_cutByMark 40 = .ok (.lconst 0, 1) := by decide +kernel
theorem dX4_cutByMark_41 : decode cX4_cutByMark 41 = .ok (.lcmp, 1) := by decide +kernel
theorem dX4_cutByMark_42 : decode cX4_cutByMark 42 = .ok (.ifCond .lt 38, 3) := by decide +kernel
theorem dX4_cutByMark_45 : decode cX4_cutByMark 45 = .ok (.lload 4, 2) := by decide +kernel
theorem dX4_cutByMark_47 : decode cX4_cutByMark 47 = .ok (.aload_n 0, 1) := by decide +kernel
theorem dX4_cutByMark_48 : decode cX4_cutByMark 48 = .ok (.getfield 12, 3) := by decide +kernel
theorem dX4_cutByMark_51 : decode cX4_cutByMark 51 = .ok (.invokevirtual 169, 3) := by decide +kernel
theorem dX4_cutByMark_54 : decode cX4_cutByMark 54 = .ok (.lcmp, 1) := by decide +kernel
theorem dX4_cutByMark_55 : decode cX4_cutByMark 55 = .ok (.ifCond .gt 25, 3) := by decide +kernel
theorem dX4_cutByMark_58 : decode cX4_cutByMark 58 = .ok (.aload_n 0, 1) := by decide +kernel
theorem dX4_cutByMark_59 : decode cX4_cutByMark 59 = .ok (.getfield 21, 3) := by decide +kernel
theorem dX4_cutByMark_62 : decode cX4_cutByMark 62 = .ok (.lload 4, 2) := by decide +kernel
theorem dX4_cutByMark_64 : decode cX4_cutByMark 64 = .ok (.aload_n 0, 1) := by decide +kernel
theorem dX4_cutByMark_65 : decode cX4_cutByMark 65 = .ok (.getfield 12, 3) := by decide +kernel
theorem dX4_cutByMark_68 : decode cX4_cutByMark 68 = .ok (.invokevirtual 169, 3) := by decide +kernel
theorem dX4_cutByMark_71 : decode cX4_cutByMark 71 = .ok (.aload_n 1, 1) := by decide +kernel
theorem dX4_cutByMark_72 : decode cX4_cutByMark 72 = .ok (.getfield 159, 3) := by decide +kernel
theorem dX4_cutByMark_75 : decode cX4_cutByMark 75 = .ok (.iconst 2, 1) := by decide +kernel
theorem dX4_cutByMark_76 : decode cX4_cutByMark 76 = .ok (.ior, 1) := by decide +kernel
theorem dX4_cutByMark_77 : decode cX4_cutByMark 77 = .ok (.invokevirtual 162, 3) := by decide +kernel
theorem dX4_cutByMark_80 : decode cX4_cutByMark 80 = .ok (.return_, 1) := by decide +kernel
set_option maxRecDepth 20000 in
theorem ggX4_walk_X2_sign : GoodIn wsX4_walk wsX2_sign := goodIn_r _ [9, 10, 11, 96, 97, 98, 99, 100, 101] (by decide +kernel) (by decide +kernel)
set_option maxRecDepth 20000 in
theorem gX4_walk_X2_sign : GoodIn wsX4_walk (wsV RX4 183 RX2 yX2_sign wsX2_sign) := goodIn_app (goodIn_of _ (by decide +kernel)) ggX4_walk_X2_sign
set_option maxRecDepth 20000 in
theorem ggX4_walk_X1_arrive : GoodIn wsX4_walk wsX1_arrive := goodIn_r _ [16, 17, 18, 19, 20, 102, 103, 104, 105, 106, 107, 108, 109] (by decide +kernel) (by decide +kernel)
set_option maxRecDepth 20000 in
theorem gX4_walk_X1_arrive : GoodIn wsX4_walk (wsV RX4 186 RX1 yX1_arrive wsX1_arrive) := goodIn_app (goodIn_of _ (by decide +kernel)) ggX4_walk_X1_arrive
set_option maxRecDepth 20000 in
theorem ggX4_walk_X2_isLastOfItsPlace : GoodIn wsX4_walk wsX2_isLastOfItsPlace := goodIn_r _ [24, 25, 11, 26, 27, 28, 8, 29, 30, 31, 32, 33, 34, 35, 36, 37, 38, 39, 40, 96, 97, 98, 99, 100, 101] (by decide +kernel) (by decide +kernel)
set_option maxRecDepth 20000 in
theorem gX4_walk_X2_isLastOfItsPlace : GoodIn wsX4_walk (wsV RX4 189 RX2 yX2_isLastOfItsPlace wsX2_isLastOfItsPlace) := goodIn_app (goodIn_of _ (by decide +kernel)) ggX4_walk_X2_isLastOfItsPlace
set_option maxRecDepth 20000 in
theorem ggX4_walk_X1_placeHere : GoodIn wsX4_walk wsX1_placeHere := goodIn_r _ [44, 18, 45, 17, 46, 47, 48, 49, 50, 51, 52, 53, 54, 55, 56, 57, 58, 15, 59, 60, 61, 62, 63, 64, 65, 66, 67, 68, 69, 102, 103, 104, 105, 106, 107, 108, 109, 110, 111, 112, 113, 114, 115, 116, 117, 118, 119, 120, 121, 122] (by decide +kernel) (by decide +kernel)
set_option maxRecDepth 20000 in
theorem gX4_walk_X1_placeHere : GoodIn wsX4_walk (wsV RX4 193 RX1 yX1_placeHere wsX1_placeHere) := goodIn_app (goodIn_of _ (by decide +kernel)) ggX4_walk_X1_placeHere
set_option maxRecDepth 20000 in
theorem ggX4_walk_X4_raise : GoodIn wsX4_walk wsX4_raise := goodIn_r _ [74, 75, 90, 91, 92, 93, 94, 95] (by decide +kernel) (by decide +kernel)
set_option maxRecDepth 20000 in
theorem gX4_walk_X4_raise : GoodIn wsX4_walk (wsV RX4 60 RX4 yX4_raise wsX4_raise) := goodIn_app (goodIn_of _ (by decide +kernel)) ggX4_walk_X4_raise
set_option maxRecDepth 20000 in
theorem ggX4_walk_X1_depart : GoodIn wsX4_walk wsX1_depart := goodIn_r _ [79, 60, 19, 65, 20, 80, 81, 82, 15, 83, 17, 18, 102, 103, 104, 105, 106, 107, 108, 109] (by decide +kernel) (by decide +kernel)
set_option maxRecDepth 20000 in
theorem gX4_walk_X1_depart : GoodIn wsX4_walk (wsV RX4 197 RX1 yX1_depart wsX1_depart) := goodIn_app (goodIn_of _ (by decide +kernel)) ggX4_walk_X1_depart
set_option maxRecDepth 20000 in
theorem ggX4_walk_X4_raiseAhead : GoodIn wsX4_walk wsX4_raiseAhead := goodIn_r _ [87, 3, 4, 88, 57, 58, 15, 59, 60, 45, 52, 53, 54, 49, 55, 51, 61, 62, 63, 64, 65, 66, 67, 68, 69, 70, 71, 72, 73, 74, 75, 89, 90, 91, 92, 93, 94, 95, 102, 103, 104, 105, 106, 107, 108, 109, 110, 111, 112, 113, 114, 115, 116, 117, 118, 119, 120, 121, 122] (by decide +kernel) (by decide +kernel)
set_option maxRecDepth 20000 in
theorem gX4_walk_X4_raiseAhead : GoodIn wsX4_walk (wsV RX4 200 RX4 yX4_raiseAhead wsX4_raiseAhead) := goodIn_app (goodIn_of _ (by decide +kernel)) ggX4_walk_X4_raiseAhead
theorem dX4_walk_0 : decode cX4_walk 0 = .ok (.iconst 0, 1) := by decide +kernel
theorem dX4_walk_1 : decode cX4_walk 1 = .ok (.istore_n 1, 1) := by decide +kernel
theorem dX4_walk_2 : decode cX4_walk 2 = .ok (.iload_n 1, 1) := by decide +kernel
theorem dX4_walk_3 : decode cX4_walk 3 = .ok (.aload_n 0, 1) := by decide +kernel
theorem dX4_walk_4 : decode cX4_walk 4 = .ok (.getfield 21, 3) := by decide +kernel
theorem dX4_walk_7 : decode cX4_walk 7 = .ok (.getfield 180, 3) := by decide +kernel
theorem dX4_walk_10 : decode cX4_walk 10 = .ok (.if_icmp .ge 105, 3) := by decide +kernel
theorem dX4_walk_13 : decode cX4_walk 13 = .ok (.aload_n 0, 1) := by decide +kernel
theorem dX4_walk_14 : decode cX4_walk 14 = .ok (.getfield 21, 3) := by decide +kernel
theorem dX4_walk_17 : decode cX4_walk 17 = .ok (.iload_n 1, 1) := by decide +kernel
theorem dX4_walk_18 : decode cX4_walk 18 = .ok (.invokevirtual 183, 3) := by decide +kernel
theorem dX4_walk_21 : decode cX4_walk 21 = .ok (.istore_n 2, 1) := by decide +kernel
theorem dX4_walk_22 : decode cX4_walk 22 = .ok (.iload_n 2, 1) := by decide +kernel
theorem dX4_walk_23 : decode cX4_walk 23 = .ok (.bipush 64, 2) := by decide +kernel
theorem dX4_walk_25 : decode cX4_walk 25 = .ok (.iand, 1) := by decide +kernel
theorem dX4_walk_26 : decode cX4_walk 26 = .ok (.ifCond .ne 14, 3) := by decide +kernel
theorem dX4_walk_29 : decode cX4_walk 29 = .ok (.aload_n 0, 1) := by decide +kernel
theorem dX4_walk_30 : decode cX4_walk 30 = .ok (.getfield 38, 3) := by decide +kernel
theorem dX4_walk_33 : decode cX4_walk 33 = .ok (.iload_n 2, 1) := by decide +kernel
theorem dX4_walk_34 : decode cX4_walk 34 = .ok (.invokevirtual 186, 3) := by decide +kernel
theorem dX4_walk_37 : decode cX4_walk 37 = .ok (.goto 11, 3) := by decide +kernel
theorem dX4_walk_40 : decode cX4_walk 40 = .ok (.aload_n 0, 1) := by decide +kernel
theorem dX4_walk_41 : decode cX4_walk 41 = .ok (.getfield 42, 3) := by decide +kernel
theorem dX4_walk_44 : decode cX4_walk 44 = .ok (.iload_n 2, 1) := by decide +kernel
theorem dX4_walk_45 : decode cX4_walk 45 = .ok (.invokevirtual 186, 3) := by decide +kernel
theorem dX4_walk_48 : decode cX4_walk 48 = .ok (.aload_n 0, 1) := by decide +kernel
theorem dX4_walk_49 : decode cX4_walk 49 = .ok (.getfield 21, 3) := by decide +kernel
theorem dX4_walk_52 : decode cX4_walk 52 = .ok (.iload_n 1, 1) := by decide +kernel
theorem dX4_walk_53 : decode cX4_walk 53 = .ok (.invokevirtual 189, 3) := by decide +kernel
theorem dX4_walk_56 : decode cX4_walk 56 = .ok (.ifCond .eq 53, 3) := by decide +kernel
theorem dX4_walk_59 : decode cX4_walk 59 = .ok (.aload_n 0, 1) := by decide +kernel
theorem dX4_walk_60 : decode cX4_walk 60 = .ok (.aload_n 0, 1) := by decide +kernel
theorem dX4_walk_61 : decode cX4_walk 61 = .ok (.getfield 38, 3) := by decide +kernel
theorem dX4_walk_64 : decode cX4_walk 64 = .ok (.invokevirtual 193, 3) := by decide +kernel
theorem dX4_walk_67 : decode cX4_walk 67 = .ok (.aload_n 0, 1) := by decide +kernel
theorem dX4_walk_68 : decode cX4_walk 68 = .ok (.getfield 42, 3) := by decide +kernel
theorem dX4_walk_71 : decode cX4_walk 71 = .ok (.invokevirtual 193, 3) := by decide +kernel
theorem dX4_walk_74 : decode cX4_walk 74 = .ok (.iconst 0, 1) := by decide +kernel
theorem dX4_walk_75 : decode cX4_walk 75 = .ok (.invokevirtual 60, 3) := by decide +kernel
theorem dX4_walk_78 : decode cX4_walk 78 = .ok (.aload_n 0, 1) := by decide +kernel
theorem dX4_walk_79 : decode cX4_walk 79 = .ok (.getfield 38, 3) := by decide +kernel
theorem dX4_walk_82 : decode cX4_walk 82 = .ok (.invokevirtual 197, 3) := by decide +kernel
theorem dX4_walk_85 : decode cX4_walk 85 = .ok (.aload_n 0, 1) := by decide +kernel
theorem dX4_walk_86 : decode cX4_walk 86 = .ok (.getfield 42, 3) := by decide +kernel
theorem dX4_walk_89 : decode cX4_walk 89 = .ok (.invokevirtual 197, 3) := by decide +kernel
theorem dX4_walk_92 : decode cX4_walk 92 = .ok (.iload_n 1, 1) := by decide +kernel
theorem dX4_walk_93 : decode cX4_walk 93 = .ok (.iconst 1, 1) := by decide +kernel
theorem dX4_walk_94 : decode cX4_walk 94 = .ok (.iadd, 1) := by decide +kernel
theorem dX4_walk_95 : decode cX4_walk 95 = .ok (.aload_n 0, 1) := by decide +kernel
theorem dX4_walk_96 : decode cX4_walk 96 = .ok (.getfield 21, 3) := by decide +kernel
theorem dX4_walk_99 : decode cX4_walk 99 = .ok (.getfield 180, 3) := by decide +kernel
theorem dX4_walk_102 : decode cX4_walk 102 = .ok (.if_icmp .ge 7, 3) := by decide +kernel
theorem dX4_walk_105 : decode cX4_walk 105 = .ok (.aload_n 0, 1) := by decide +kernel
theorem dX4_walk_106 : decode cX4_walk 106 = .ok (.invokevirtual 200, 3) := by decide +kernel
theorem dX4_walk_109 : decode cX4_walk 109 = .ok (.iinc 1 1, 3) := by decide +kernel
theorem dX4_walk_112 : decode cX4_walk 112 = .ok (.goto (-110), 3) := by decide +kernel
theorem dX4_walk_115 : decode cX4_walk 115 = .ok (.return_, 1) := by decide +kernel
set_option maxRecDepth 20000 in
theorem ggX4_raiseAhead_X1_placeAhead : GoodIn wsX4_raiseAhead wsX1_placeAhead := goodIn_r _ [7, 8, 9, 10, 11, 12, 13, 14, 15, 16, 17, 18, 6, 19, 20, 21, 22, 23, 24, 38, 39, 40, 41, 42, 43, 44, 45, 46, 47, 48, 49, 50, 51, 52, 53, 54, 55, 56, 57, 58] (by decide +kernel) (by decide +kernel)
set_option maxRecDepth 20000 in
theorem gX4_raiseAhead_X1_placeAhead : GoodIn wsX4_raiseAhead (wsV RX4 203 RX1 yX1_placeAhead wsX1_placeAhead) := goodIn_app (goodIn_of _ (by decide +kernel)) ggX4_raiseAhead_X1_placeAhead
set_option maxRecDepth 20000 in
theorem ggX4_raiseAhead_X4_raise : GoodIn wsX4_raiseAhead wsX4_raise := goodIn_r _ [29, 30, 32, 33, 34, 35, 36, 37] (by decide +kernel) (by decide +kernel)
set_option maxRecDepth 20000 in
theorem gX4_raiseAhead_X4_raise : GoodIn wsX4_raiseAhead (wsV RX4 60 RX4 yX4_raise wsX4_raise) := goodIn_app (goodIn_of _ (by decide +kernel)) ggX4_raiseAhead_X4_raise
set_option maxRecDepth 20000 in
theorem ggX4_raiseAhead_X1_placeBeside : GoodIn wsX4_raiseAhead wsX1_placeBeside := goodIn_r _ [19, 9, 20, 21, 22, 23, 13, 24, 15, 38, 39, 40, 41, 42, 43, 44, 45, 46, 47, 48, 49, 50, 51, 52, 53, 54, 55, 56, 57, 58] (by decide +kernel) (by decide +kernel)
set_option maxRecDepth 20000 in
theorem gX4_raiseAhead_X1_placeBeside : GoodIn wsX4_raiseAhead (wsV RX4 206 RX1 yX1_placeBeside wsX1_placeBeside) := goodIn_app (goodIn_of _ (by decide +kernel)) ggX4_raiseAhead_X1_placeBeside
theorem dX4_raiseAhead_0 : decode cX4_raiseAhead 0 = .ok (.aload_n 0, 1) := by decide +kernel
theorem dX4_raiseAhead_1 : decode cX4_raiseAhead 1 = .ok (.aload_n 0, 1) := by decide +kernel
theorem dX4_raiseAhead_2 : decode cX4_raiseAhead 2 = .ok (.getfield 38, 3) := by decide +kernel
theorem dX4_raiseAhead_5 : decode cX4_raiseAhead 5 = .ok (.invokevirtual 203, 3) := by decide +kernel
theorem dX4_raiseAhead_8 : decode cX4_raiseAhead 8 = .ok (.aload_n 0, 1) := by decide +kernel
theorem dX4_raiseAhead_9 : decode cX4_raiseAhead 9 = .ok (.getfield 42, 3) := by decide +kernel
theorem dX4_raiseAhead_12 : decode cX4_raiseAhead 12 = .ok (.invokevirtual 203, 3) := by decide +kernel
theorem dX4_raiseAhead_15 : decode cX4_raiseAhead 15 = .ok (.iconst 1, 1) := by decide +kernel
theorem dX4_raiseAhead_16 : decode cX4_raiseAhead 16 = .ok (.invokevirtual 60, 3) := by decide +kernel
theorem dX4_raiseAhead_19 : decode cX4_raiseAhead 19 = .ok (.aload_n 0, 1) := by decide +kernel
theorem dX4_raiseAhead_20 : decode cX4_raiseAhead 20 = .ok (.aload_n 0, 1) := by decide +kernel
theorem dX4_raiseAhead_21 : decode cX4_raiseAhead 21 = .ok (.getfield 38, 3) := by decide +kernel
theorem dX4_raiseAhead_24 : decode cX4_raiseAhead 24 = .ok (.bipush 16, 2) := by decide +kernel
theorem dX4_raiseAhead_26 : decode cX4_raiseAhead 26 = .ok (.invokevirtual 206, 3) := by decide +kernel
theorem dX4_raiseAhead_29 : decode cX4_raiseAhead 29 = .ok (.aload_n 0, 1) := by decide +kernel
theorem dX4_raiseAhead_30 : decode cX4_raiseAhead 30 = .ok (.getfield 42, 3) := by decide +kernel
theorem dX4_raiseAhead_33 : decode cX4_raiseAhead 33 = .ok (.bipush 16, 2) := by decide +kernel
theorem dX4_raiseAhead_35 : decode cX4_raiseAhead 35 = .ok (.invokevirtual 206, 3) := by decide +kernel
theorem dX4_raiseAhead_38 : decode cX4_raiseAhead 38 = .ok (.iconst 2, 1) := by decide +kernel
theorem dX4_raiseAhead_39 : decode cX4_raiseAhead 39 = .ok (.invokevirtual 60, 3) := by decide +kernel
theorem dX4_raiseAhead_42 : decode cX4_raiseAhead 42 = .ok (.aload_n 0, 1) := by decide +kernel
theorem dX4_raiseAhead_43 : decode cX4_raiseAhead 43 = .ok (.aload_n 0, 1) := by decide +kernel
theorem dX4_raiseAhead_44 : decode cX4_raiseAhead 44 = .ok (.getfield 38, 3) := by decide +kernel
theorem dX4_raiseAhead_47 : decode cX4_raiseAhead 47 = .ok (.bipush 32, 2) := by decide +kernel
theorem dX4_raiseAhead_49 : decode cX4_raiseAhead 49 = .ok (.invokevirtual 206, 3) := by decide +kernel
theorem dX4_raiseAhead_52 : decode cX4_raiseAhead 52 = .ok (.aload_n 0, 1) := by decide +kernel
theorem dX4_raiseAhead_53 : decode cX4_raiseAhead 53 = .ok (.getfield 42, 3) := by decide +kernel
theorem dX4_raiseAhead_56 : decode cX4_raiseAhead 56 = .ok (.bipush 32, 2) := by decide +kernel
theorem dX4_raiseAhead_58 : decode cX4_raiseAhead 58 = .ok (.invokevirtual 206, 3) := by decide +kernel
theorem dX4_raiseAhead_61 : decode cX4_raiseAhead 61 = .ok (.iconst 2, 1) := by decide +kernel
theorem dX4_raiseAhead_62 : decode cX4_raiseAhead 62 = .ok (.invokevirtual 60, 3) := by decide +kernel
theorem dX4_raiseAhead_65 : decode cX4_raiseAhead 65 = .ok (.return_, 1) := by decide +kernel
theorem dX4_at_0 : decode cX4_at 0 = .ok (.aload_n 0, 1) := by decide +kernel
theorem dX4_at_1 : decode cX4_at 1 = .ok (.getfield 25, 3) := by decide +kernel
theorem dX4_at_4 : decode cX4_at 4 = .ok (.iconst 3, 1) := by decide +kernel
theorem dX4_at_5 : decode cX4_at 5 = .ok (.iload_n 1, 1) := by decide +kernel
theorem dX4_at_6 : decode cX4_at 6 = .ok (.imul, 1) := by decide +kernel
theorem dX4_at_7 : decode cX4_at 7 = .ok (.iload_n 2, 1) := by decide +kernel
theorem dX4_at_8 : decode cX4_at 8 = .ok (.iadd, 1) := by decide +kernel
theorem dX4_at_9 : decode cX4_at 9 = .ok (.iaload, 1) := by decide +kernel
theorem dX4_at_10 : decode cX4_at 10 = .ok (.ireturn, 1) := by decide +kernel
set_option maxRecDepth 20000 in
theorem ggX4_has_X4_at : GoodIn wsX4_has wsX4_at := goodIn_r _ [5, 6, 7, 8, 9, 10, 11, 12] (by decide +kernel) (by decide +kernel)
set_option maxRecDepth 20000 in
theorem gX4_has_X4_at : GoodIn wsX4_has (wsV RX4 209 RX4 yX4_at wsX4_at) := goodIn_app (goodIn_of _ (by decide +kernel)) ggX4_has_X4_at
theorem dX4_has_0 : decode cX4_has 0 = .ok (.aload_n 0, 1) := by decide +kernel
theorem dX4_has_1 : decode cX4_has 1 = .ok (.iload_n 1, 1) := by decide +kernel
theorem dX4_has_2 : decode cX4_has 2 = .ok (.iload_n 2, 1) := by decide +kernel
theorem dX4_has_3 : decode cX4_has 3 = .ok (.invokevirtual 209, 3) := by decide +kernel
theorem dX4_has_6 : decode cX4_has 6 = .ok (.iconst (-1), 1) := by decide +kernel
theorem dX4_has_7 : decode cX4_has 7 = .ok (.if_icmp .eq 7, 3) := by decide +kernel
theorem dX4_has_10 : decode cX4_has 10 = .ok (.iconst 1, 1) := by decide +kernel
theorem dX4_has_11 : decode cX4_has 11 = .ok (.goto 4, 3) := by decide +kernel
theorem dX4_has_14 : decode cX4_has 14 = .ok (.iconst 0, 1) := by decide +kernel
theorem dX4_has_15 : decode cX4_has 15 = .ok (.ireturn, 1) := by decide +kernel
set_option maxRecDepth 20000 in
theorem ggX4_dimensionInFirst_X4_at : GoodIn wsX4_dimensionInFirst wsX4_at := goodIn_r _ [9, 10, 11, 12, 13, 14, 15, 16] (by decide +kernel) (by decide +kernel)
set_option maxRecDepth 20000 in
theorem gX4_dimensionInFirst_X4_at : GoodIn wsX4_dimensionInFirst (wsV RX4 209 RX4 yX4_at wsX4_at) := goodIn_app (goodIn_of _ (by decide +kernel)) ggX4_dimensionInFirst_X4_at
theorem dX4_dimensionInFirst_0 : decode cX4_dimensionInFirst 0 = .ok (.aload_n 0, 1) := by decide +kernel
theorem dX4_dimensionInFirst_1 : decode cX4_dimensionInFirst 1 = .ok (.iload_n 1, 1) := by decide +kernel
theorem dX4_dimensionInFirst_2 : decode cX4_dimensionInFirst 2 = .ok (.iconst 0, 1) := by decide +kernel
theorem dX4_dimensionInFirst_3 : decode cX4_dimensionInFirst 3 = .ok (.invokevirtual 209, 3) := by decide +kernel
theorem dX4_dimensionInFirst_6 : decode cX4_dimensionInFirst 6 = .ok (.aload_n 0, 1) := by decide +kernel
theorem dX4_dimensionInFirst_7 : decode cX4_dimensionInFirst 7 = .ok (.iload_n 1, 1) := by decide +kernel
theorem dX4_dimensionInFirst_8 : decode cX4_dimensionInFirst 8 = .ok (.iconst 1, 1) := by decide +kernel
theorem dX4_dimensionInFirst_9 : decode cX4_dimensionInFirst 9 = .ok (.invokevirtual 209, 3) := by decide +kernel
theorem dX4_dimensionInFirst_12 : decode cX4_dimensionInFirst 12 = .ok (.aload_n 0, 1) := by decide +kernel
theorem dX4_dimensionInFirst_13 : decode cX4_dimensionInFirst 13 = .ok (.iload_n 1, 1) := by decide +kernel
theorem dX4_dimensionInFirst_14 : decode cX4_dimensionInFirst 14 = .ok (.iconst 2, 1) := by decide +kernel
theorem dX4_dimensionInFirst_15 : decode cX4_dimensionInFirst 15 = .ok (.invokevirtual 209, 3) := by decide +kernel
