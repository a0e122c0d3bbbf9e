set_option maxRecDepth 20000 in
theorem ggX5_init_X3_init : GoodIn wsX5_init wsX3_init := goodIn_r _ [14, 15, 2, 3, 16, 17, 18, 19, 20, 21, 22, 23, 24, 25, 26, 27, 28, 29, 30, 74, 75, 76, 77, 78, 79, 80, 81, 82, 83, 84, 85, 86] (by decide +kernel) (by decide +kernel)
set_option maxRecDepth 20000 in
theorem gX5_init_X3_init_n9 : GoodIn wsX5_init (wsX3_init) := ggX5_init_X3_init
set_option maxRecDepth 20000 in
theorem ggX5_init_X4_init : GoodIn wsX5_init wsX4_init := goodIn_r _ [33, 34, 2, 3, 35, 36, 37, 38, 39, 40, 41, 42, 19, 43, 44, 45, 46, 47, 48, 49, 50, 51, 52, 53, 54, 55, 56, 29, 57, 58, 59, 60, 61, 62, 63, 64, 65, 66, 67, 68, 69, 70, 71, 72, 73, 96, 97, 98, 99, 90, 91, 92, 93, 94, 95, 100, 101, 102, 103, 104, 105, 106, 107, 108, 109, 110, 111, 112, 113] (by decide +kernel) (by decide +kernel)
set_option maxRecDepth 20000 in
theorem gX5_init_X4_init : GoodIn wsX5_init (wsX4_init) := ggX5_init_X4_init
theorem dX5_init_0 : decode cX5_init 0 = .ok (.aload_n 0, 1) := by decide +kernel
theorem dX5_init_1 : decode cX5_init 1 = .ok (.invokespecial 1, 3) := by decide +kernel
theorem dX5_init_4 : decode cX5_init 4 = .ok (.aload_n 0, 1) := by decide +kernel
theorem dX5_init_5 : decode cX5_init 5 = .ok (.new 7, 3) := by decide +kernel
theorem dX5_init_8 : decode cX5_init 8 = .ok (.dup, 1) := by decide +kernel
theorem dX5_init_9 : decode cX5_init 9 = .ok (.invokespecial 9, 3) := by decide +kernel
theorem dX5_init_12 : decode cX5_init 12 = .ok (.putfield 10, 3) := by decide +kernel
theorem dX5_init_15 : decode cX5_init 15 = .ok (.aload_n 0, 1) := by decide +kernel
theorem dX5_init_16 : decode cX5_init 16 = .ok (.new 7, 3) := by decide +kernel
theorem dX5_init_19 : decode cX5_init 19 = .ok (.dup, 1) := by decide +kernel
theorem dX5_init_20 : decode cX5_init 20 = .ok (.invokespecial 9, 3) := by decide +kernel
theorem dX5_init_23 : decode cX5_init 23 = .ok (.putfield 16, 3) := by decide +kernel
theorem dX5_init_26 : decode cX5_init 26 = .ok (.aload_n 0, 1) := by decide +kernel
theorem dX5_init_27 : decode cX5_init 27 = .ok (.new 19, 3) := by decide +kernel
theorem dX5_init_30 : decode cX5_init 30 = .ok (.dup, 1) := by decide +kernel
theorem dX5_init_31 : decode cX5_init 31 = .ok (.aload_n 0, 1) := by decide +kernel
theorem dX5_init_32 : decode cX5_init 32 = .ok (.getfield 10, 3) := by decide +kernel
theorem dX5_init_35 : decode cX5_init 35 = .ok (.aload_n 0, 1) := by decide +kernel
theorem dX5_init_36 : decode cX5_init 36 = .ok (.getfield 16, 3) := by decide +kernel
theorem dX5_init_39 : decode cX5_init 39 = .ok (.invokespecial 21, 3) := by decide +kernel
theorem dX5_init_42 : decode cX5_init 42 = .ok (.putfield 24, 3) := by decide +kernel
theorem dX5_init_45 : decode cX5_init 45 = .ok (.return_, 1) := by decide +kernel
set_option maxRecDepth 20000 in
theorem ggX5_shape_X5_figureOf : GoodIn wsX5_shape wsX5_figureOf := goodIn_ca (goodIn_r _ [9, 10, 11, 12, 13, 42, 43, 44] (by decide +kernel) (by decide +kernel)) (goodIn_sub (fun _ h => List.mem_cons_of_mem _ (List.mem_append_right _ h)) (by decide +kernel))
set_option maxRecDepth 20000 in
theorem gX5_shape_X5_figureOf : GoodIn wsX5_shape (wsV RX5 28 RX5 yX5_figureOf wsX5_figureOf) := goodIn_app (goodIn_of _ (by decide +kernel)) ggX5_shape_X5_figureOf
set_option maxRecDepth 20000 in
theorem ggX5_shape_X3_beginAnew : GoodIn wsX5_shape wsX3_beginAnew := goodIn_r _ [18, 19, 20, 21, 22, 29, 30, 31, 32, 33, 34, 35, 36, 37, 38, 39, 40, 41] (by decide +kernel) (by decide +kernel)
set_option maxRecDepth 20000 in
theorem gX5_shape_X3_beginAnew : GoodIn wsX5_shape (wsV RX5 43 RX3 yX3_beginAnew wsX3_beginAnew) := goodIn_app (goodIn_of _ (by decide +kernel)) ggX5_shape_X3_beginAnew
set_option maxRecDepth 20000 in
theorem ggX5_shape_X4_forget : GoodIn wsX5_shape wsX4_forget := goodIn_r _ [27, 28, 45, 46, 47, 48, 49, 50] (by decide +kernel) (by decide +kernel)
set_option maxRecDepth 20000 in
theorem gX5_shape_X4_forget : GoodIn wsX5_shape (wsV RX5 47 RX4 yX4_forget wsX4_forget) := goodIn_app (goodIn_of _ (by decide +kernel)) ggX5_shape_X4_forget
theorem dX5_shape_0 : decode cX5_shape 0 = .ok (.aload_n 0, 1) := by decide +kernel
theorem dX5_shape_1 : decode cX5_shape 1 = .ok (.iload_n 1, 1) := by decide +kernel
theorem dX5_shape_2 : decode cX5_shape 2 = .ok (.invokevirtual 28, 3) := by decide +kernel
theorem dX5_shape_5 : decode cX5_shape 5 = .ok (.astore_n 3, 1) := by decide +kernel
theorem dX5_shape_6 : decode cX5_shape 6 = .ok (.iload_n 2, 1) := by decide +kernel
theorem dX5_shape_7 : decode cX5_shape 7 = .ok (.iconst 1, 1) := by decide +kernel
theorem dX5_shape_8 : decode cX5_shape 8 = .ok (.if_icmp .lt 8, 3) := by decide +kernel
theorem dX5_shape_11 : decode cX5_shape 11 = .ok (.iload_n 2, 1) := by decide +kernel
theorem dX5_shape_12 : decode cX5_shape 12 = .ok (.iconst 3, 1) := by decide +kernel
theorem dX5_shape_13 : decode cX5_shape 13 = .ok (.if_icmp .le 13, 3) := by decide +kernel
theorem dX5_shape_16 : decode cX5_shape 16 = .ok (.new 32, 3) := by decide +kernel
theorem dX5_shape_19 : decode cX5_shape 19 = .ok (.dup, 1) := by decide +kernel
theorem dX5_shape_20 : decode cX5_shape 20 = .ok (.ldc 34, 2) := by decide +kernel
theorem dX5_shape_22 : decode cX5_shape 22 = .ok (.invokespecial 36, 3) := by decide +kernel
theorem dX5_shape_25 : decode cX5_shape 25 = .ok (.athrow, 1) := by decide +kernel
theorem dX5_shape_26 : decode cX5_shape 26 = .ok (.aload_n 3, 1) := by decide +kernel
theorem dX5_shape_27 : decode cX5_shape 27 = .ok (.getfield 39, 3) := by decide +kernel
theorem dX5_shape_30 : decode cX5_shape 30 = .ok (.istore 4, 2) := by decide +kernel
theorem dX5_shape_32 : decode cX5_shape 32 = .ok (.aload_n 3, 1) := by decide +kernel
theorem dX5_shape_33 : decode cX5_shape 33 = .ok (.iload_n 2, 1) := by decide +kernel
theorem dX5_shape_34 : decode cX5_shape 34 = .ok (.invokevirtual 43, 3) := by decide +kernel
theorem dX5_shape_37 : decode cX5_shape 37 = .ok (.aload_n 0, 1) := by decide +kernel
theorem dX5_shape_38 : decode cX5_shape 38 = .ok (.getfield 24, 3) := by decide +kernel
theorem dX5_shape_41 : decode cX5_shape 41 = .ok (.invokevirtual 47, 3) := by decide +kernel
theorem dX5_shape_44 : decode cX5_shape 44 = .ok (.iload 4, 2) := by decide +kernel
theorem dX5_shape_46 : decode cX5_shape 46 = .ok (.ireturn, 1) := by decide +kernel
set_option maxRecDepth 20000 in
theorem ggX5_part_X5_figureOf : GoodIn wsX5_part wsX5_figureOf := goodIn_ca (goodIn_r _ [8, 9, 10, 11, 12, 54, 55, 56] (by decide +kernel) (by decide +kernel)) (goodIn_sub (fun _ h => List.mem_cons_of_mem _ (List.mem_append_right _ h)) (by decide +kernel))
set_option maxRecDepth 20000 in
theorem gX5_part_X5_figureOf : GoodIn wsX5_part (wsV RX5 28 RX5 yX5_figureOf wsX5_figureOf) := goodIn_app (goodIn_of _ (by decide +kernel)) ggX5_part_X5_figureOf
set_option maxRecDepth 20000 in
theorem ggX5_part_X3_beginPart : GoodIn wsX5_part wsX3_beginPart := goodIn_r _ [17, 18, 19, 20, 21, 22, 23, 24, 25, 26, 27, 28, 29, 30, 31, 32, 33, 34, 35, 36, 37, 38, 39, 40, 41, 42, 43, 44, 45, 46, 47, 48, 49, 50, 51, 52, 53] (by decide +kernel) (by decide +kernel)
set_option maxRecDepth 20000 in
theorem gX5_part_X3_beginPart : GoodIn wsX5_part (wsV RX5 58 RX3 yX3_beginPart wsX3_beginPart) := goodIn_app (goodIn_of _ (by decide +kernel)) ggX5_part_X3_beginPart
theorem dX5_part_0 : decode cX5_part 0 = .ok (.aload_n 0, 1) := by decide +kernel
theorem dX5_part_1 : decode cX5_part 1 = .ok (.iload_n 1, 1) := by decide +kernel
theorem dX5_part_2 : decode cX5_part 2 = .ok (.invokevirtual 28, 3) := by decide +kernel
theorem dX5_part_5 : decode cX5_part 5 = .ok (.astore_n 2, 1) := by decide +kernel
theorem dX5_part_6 : decode cX5_part 6 = .ok (.aload_n 2, 1) := by decide +kernel
theorem dX5_part_7 : decode cX5_part 7 = .ok (.getfield 50, 3) := by decide +kernel
theorem dX5_part_10 : decode cX5_part 10 = .ok (.sipush 1024, 3) := by decide +kernel
theorem dX5_part_13 : decode cX5_part 13 = .ok (.if_icmp .lt 13, 3) := by decide +kernel
theorem dX5_part_16 : decode cX5_part 16 = .ok (.new 53, 3) := by decide +kernel
theorem dX5_part_19 : decode cX5_part 19 = .ok (.dup, 1) := by decide +kernel
theorem dX5_part_20 : decode cX5_part 20 = .ok (.ldc 55, 2) := by decide +kernel
theorem dX5_part_22 : decode cX5_part 22 = .ok (.invokespecial 57, 3) := by decide +kernel
theorem dX5_part_25 : decode cX5_part 25 = .ok (.athrow, 1) := by decide +kernel
theorem dX5_part_26 : decode cX5_part 26 = .ok (.aload_n 2, 1) := by decide +kernel
theorem dX5_part_27 : decode cX5_part 27 = .ok (.invokevirtual 58, 3) := by decide +kernel
theorem dX5_part_30 : decode cX5_part 30 = .ok (.aload_n 2, 1) := by decide +kernel
theorem dX5_part_31 : decode cX5_part 31 = .ok (.getfield 50, 3) := by decide +kernel
theorem dX5_part_34 : decode cX5_part 34 = .ok (.ireturn, 1) := by decide +kernel
set_option maxRecDepth 20000 in
theorem ggX5_point_X5_figureOf : GoodIn wsX5_point wsX5_figureOf := goodIn_ca (goodIn_r _ [10, 11, 12, 13, 14, 69, 70, 71] (by decide +kernel) (by decide +kernel)) (goodIn_sub (fun _ h => List.mem_cons_of_mem _ (List.mem_append_left _ (List.mem_append_right _ h))) (by decide +kernel))
set_option maxRecDepth 20000 in
theorem gX5_point_X5_figureOf : GoodIn wsX5_point (wsV RX5 28 RX5 yX5_figureOf wsX5_figureOf) := goodIn_app (goodIn_of _ (by decide +kernel)) ggX5_point_X5_figureOf
set_option maxRecDepth 20000 in
theorem ggX5_point_X5_refuseFarPlace : GoodIn wsX5_point wsX5_refuseFarPlace := goodIn_ca (goodIn_r _ [17, 18, 19, 20, 21] (by decide +kernel) (by decide +kernel)) (goodIn_sub (fun _ h => List.mem_cons_of_mem _ (List.mem_append_right _ h)) (by decide +kernel))
set_option maxRecDepth 20000 in
theorem gX5_point_X5_refuseFarPlace : GoodIn wsX5_point (va_wsS RX5 61 yX5_refuseFarPlace wsX5_refuseFarPlace) := goodIn_app (goodIn_of _ (by decide +kernel)) ggX5_point_X5_refuseFarPlace
set_option maxRecDepth 20000 in
theorem ggX5_point_X3_addPoint : GoodIn wsX5_point wsX3_addPoint := goodIn_r _ [26, 27, 28, 29, 30, 31, 32, 33, 34, 35, 36, 37, 38, 39, 40, 41, 42, 43, 44, 45, 46, 47, 48, 49, 56, 57, 58, 59, 60, 61, 62, 63, 64, 65, 66, 67, 68] (by decide +kernel) (by decide +kernel)
set_option maxRecDepth 20000 in
theorem gX5_point_X3_addPoint : GoodIn wsX5_point (wsV RX5 69 RX3 yX3_addPoint wsX3_addPoint) := goodIn_app (goodIn_of _ (by decide +kernel)) ggX5_point_X3_addPoint
set_option maxRecDepth 20000 in
theorem ggX5_point_X4_forget : GoodIn wsX5_point wsX4_forget := goodIn_r _ [54, 55, 72, 73, 74, 75, 76, 77] (by decide +kernel) (by decide +kernel)
set_option maxRecDepth 20000 in
theorem gX5_point_X4_forget : GoodIn wsX5_point (wsV RX5 47 RX4 yX4_forget wsX4_forget) := goodIn_app (goodIn_of _ (by decide +kernel)) ggX5_point_X4_forget
theorem dX5_point_0 : decode cX5_point 0 = .ok (.aload_n 0, 1) := by decide +kernel
theorem dX5_point_1 : decode cX5_point 1 = .ok (.iload_n 1, 1) := by decide +kernel
theorem dX5_point_2 : decode cX5_point 2 = .ok (.invokevirtual 28, 3) := by decide +kernel
theorem dX5_point_5 : decode cX5_point 5 = .ok (.astore 4, 2) := by decide +kernel
theorem dX5_point_7 : decode cX5_point 7 = .ok (.iload_n 2, 1) := by decide +kernel
theorem dX5_point_8 : decode cX5_point 8 = .ok (.iload_n 3, 1) := by decide +kernel
theorem dX5_point_9 : decode cX5_point 9 = .ok (.invokestatic 61, 3) := by decide +kernel
theorem dX5_point_12 : decode cX5_point 12 = .ok (.aload 4, 2) := by decide +kernel
theorem dX5_point_14 : decode cX5_point 14 = .ok (.getfield 50, 3) := by decide +kernel
theorem dX5_point_17 : decode cX5_point 17 = .ok (.ifCond .ne 13, 3) := by decide +kernel
theorem dX5_point_20 : decode cX5_point 20 = .ok (.new 53, 3) := by decide +kernel
theorem dX5_point_23 : decode cX5_point 23 = .ok (.dup, 1) := by decide +kernel
theorem dX5_point_24 : decode cX5_point 24 = .ok (.ldc 65, 2) := by decide +kernel
theorem dX5_point_26 : decode cX5_point 26 = .ok (.invokespecial 57, 3) := by decide +kernel
theorem dX5_point_29 : decode cX5_point 29 = .ok (.athrow, 1) := by decide +kernel
theorem dX5_point_30 : decode cX5_point 30 = .ok (.aload 4, 2) := by decide +kernel
theorem dX5_point_32 : decode cX5_point 32 = .ok (.getfield 39, 3) := by decide +kernel
theorem dX5_point_35 : decode cX5_point 35 = .ok (.sipush 2048, 3) := by decide +kernel
theorem dX5_point_38 : decode cX5_point 38 = .ok (.if_icmp .lt 13, 3) := by decide +kernel
theorem dX5_point_41 : decode cX5_point 41 = .ok (.new 53, 3) := by decide +kernel
theorem dX5_point_44 : decode cX5_point 44 = .ok (.dup, 1) := by decide +kernel
theorem dX5_point_45 : decode cX5_point 45 = .ok (.ldc 67, 2) := by decide +kernel
theorem dX5_point_47 : decode cX5_point 47 = .ok (.invokespecial 57, 3) := by decide +kernel
theorem dX5_point_50 : decode cX5_point 50 = .ok (.athrow, 1) := by decide +kernel
theorem dX5_point_51 : decode cX5_point 51 = .ok (.aload 4, 2) := by decide +kernel
theorem dX5_point_53 : decode cX5_point 53 = .ok (.iload_n 2, 1) := by decide +kernel
theorem dX5_point_54 : decode cX5_point 54 = .ok (.iload_n 3, 1) := by decide +kernel
theorem dX5_point_55 : decode cX5_point 55 = .ok (.invokevirtual 69, 3) := by decide +kernel
theorem dX5_point_58 : decode cX5_point 58 = .ok (.aload_n 0, 1) := by decide +kernel
theorem dX5_point_59 : decode cX5_point 59 = .ok (.getfield 24, 3) := by decide +kernel
theorem dX5_point_62 : decode cX5_point 62 = .ok (.invokevirtual 47, 3) := by decide +kernel
theorem dX5_point_65 : decode cX5_point 65 = .ok (.aload 4, 2) := by decide +kernel
theorem dX5_point_67 : decode cX5_point 67 = .ok (.getfield 39, 3) := by decide +kernel
theorem dX5_point_70 : decode cX5_point 70 = .ok (.ireturn, 1) := by decide +kernel
set_option maxRecDepth 20000 in
theorem ggX5_locate_X5_figureOf : GoodIn wsX5_locate wsX5_figureOf := goodIn_ca (goodIn_r _ [5, 6, 7, 8, 9, 92, 93, 94] (by decide +kernel) (by decide +kernel)) (goodIn_sub (fun _ h => List.mem_cons_of_mem _ (List.mem_append_left _ (List.mem_append_right _ h))) (by decide +kernel))
set_option maxRecDepth 20000 in
theorem gX5_locate_X5_figureOf : GoodIn wsX5_locate (wsV RX5 28 RX5 yX5_figureOf wsX5_figureOf) := goodIn_app (goodIn_of _ (by decide +kernel)) ggX5_locate_X5_figureOf
set_option maxRecDepth 20000 in
theorem ggX5_locate_X5_refuseFarPlace : GoodIn wsX5_locate wsX5_refuseFarPlace := goodIn_ca (goodIn_r _ [12, 13, 14, 15, 16] (by decide +kernel) (by decide +kernel)) (goodIn_sub (fun _ h => List.mem_cons_of_mem _ (List.mem_append_right _ h)) (by decide +kernel))
set_option maxRecDepth 20000 in
theorem gX5_locate_X5_refuseFarPlace : GoodIn wsX5_locate (va_wsS RX5 61 yX5_refuseFarPlace wsX5_refuseFarPlace) := goodIn_app (goodIn_of _ (by decide +kernel)) ggX5_locate_X5_refuseFarPlace
set_option maxRecDepth 20000 in
theorem ggX5_locate_X3_prepare : GoodIn wsX5_locate wsX3_prepare := goodIn_r _ [21, 22, 23, 24, 25, 26, 27, 28, 29, 30, 20, 31, 32, 33, 34, 35, 36, 37, 38, 39, 40, 41, 42, 43, 44, 45, 46, 47, 48, 49, 50, 51, 52, 53, 54, 55, 56, 57, 58, 59, 60, 95, 96, 97, 98, 99, 100, 101, 102, 103, 104, 105, 106, 107] (by decide +kernel) (by decide +kernel)
set_option maxRecDepth 20000 in
theorem gX5_locate_X3_prepare : GoodIn wsX5_locate (wsV RX5 72 RX3 yX3_prepare wsX3_prepare) := goodIn_app (goodIn_of _ (by decide +kernel)) ggX5_locate_X3_prepare
set_option maxRecDepth 20000 in
theorem ggX5_locate_X3_whereIs : GoodIn wsX5_locate wsX3_whereIs := goodIn_r _ [64, 23, 32, 35, 52, 57, 58, 59, 20, 60, 24, 36, 33, 65, 66, 67, 68, 43, 69, 70, 71, 72, 73, 74, 75, 76, 77, 78, 79, 80, 81, 82, 83, 84, 85, 86, 87, 88, 89, 90, 91, 95, 96, 97, 98, 99, 100, 101, 102, 103, 104, 105, 106, 107] (by decide +kernel) (by decide +kernel)
set_option maxRecDepth 20000 in
theorem gX5_locate_X3_whereIs : GoodIn wsX5_locate (wsV RX5 75 RX3 yX3_whereIs wsX3_whereIs) := goodIn_app (goodIn_of _ (by decide +kernel)) ggX5_locate_X3_whereIs
theorem dX5_locate_0 : decode cX5_locate 0 = .ok (.aload_n 0, 1) := by decide +kernel
theorem dX5_locate_1 : decode cX5_locate 1 = .ok (.iload_n 1, 1) := by decide +kernel
theorem dX5_locate_2 : decode cX5_locate 2 = .ok (.invokevirtual 28, 3) := by decide +kernel
theorem dX5_locate_5 : decode cX5_locate 5 = .ok (.astore 4, 2) := by decide +kernel
theorem dX5_locate_7 : decode cX5_locate 7 = .ok (.iload_n 2, 1) := by decide +kernel
theorem dX5_locate_8 : decode cX5_locate 8 = .ok (.iload_n 3, 1) := by decide +kernel
theorem dX5_locate_9 : decode cX5_locate 9 = .ok (.invokestatic 61, 3) := by decide +kernel
theorem dX5_locate_12 : decode cX5_locate 12 = .ok (.aload 4, 2) := by decide +kernel
theorem dX5_locate_14 : decode cX5_locate 14 = .ok (.invokevirtual 72, 3) := by decide +kernel
theorem dX5_locate_17 : decode cX5_locate 17 = .ok (.aload 4, 2) := by decide +kernel
theorem dX5_locate_19 : decode cX5_locate 19 = .ok (.iload_n 2, 1) := by decide +kernel
theorem dX5_locate_20 : decode cX5_locate 20 = .ok (.iload_n 3, 1) := by decide +kernel
theorem dX5_locate_21 : decode cX5_locate 21 = .ok (.invokevirtual 75, 3) := by decide +kernel
theorem dX5_locate_24 : decode cX5_locate 24 = .ok (.ireturn, 1) := by decide +kernel
set_option maxRecDepth 20000 in
theorem ggX5_relate_X4_refresh : GoodIn wsX5_relate wsX4_refresh := goodIn_r _ [6, 7, 8, 9, 10, 11, 12, 13, 14, 15, 16, 17, 18, 19, 20, 21, 22, 23, 24, 25, 26, 27, 28, 29, 30, 31, 32, 33, 34, 35, 36, 37, 38, 39, 40, 41, 42, 43, 44, 45, 46, 47, 48, 49, 50, 51, 52, 53, 54, 55, 56, 57, 58, 59, 60, 61, 62, 5, 63, 64, 65, 66, 67, 68, 69, 70, 71, 72, 73, 74, 75, 76, 77, 78, 79, 80, 81, 82, 83, 84, 85, 86, 87, 88, 89, 90, 91, 92, 93, 94, 95, 96, 97, 98, 99, 100, 101, 102, 103, 104, 105, 106, 107, 108, 109, 110, 111, 112, 113, 114, 115, 116, 117, 118, 119, 120, 121, 122, 123, 124, 125, 126, 127, 128, 129, 130, 131, 132, 133, 134, 135, 136, 137, 138, 139, 140, 141, 142, 143, 144, 145, 146, 147, 148, 149, 150, 151, 152, 153, 154, 155, 156, 157, 158, 159, 160, 161, 162, 163, 164, 165, 166, 167, 168, 169, 170, 171, 172, 173, 174, 175, 176, 177, 178, 179, 180, 181, 182, 183, 184, 185, 186, 187, 188, 189, 190, 191, 192, 193, 194, 195, 196, 197, 198, 199, 200, 201, 202, 203, 204, 205, 206, 207, 208, 209, 210, 211, 212, 213, 214, 215, 216, 217, 218, 219, 220, 221, 222, 223, 224, 225, 226, 227, 228, 229, 230, 231, 232, 233, 234, 235, 236, 237, 238, 239, 240, 241, 242, 243, 244, 245, 246, 247, 248, 249, 250, 251, 252, 253, 254, 255, 256, 257, 258, 259, 260, 261, 262, 263, 264, 265, 266, 267, 268, 269, 270, 271, 272, 273, 274, 275, 276, 277, 278, 279, 280, 281, 282, 283, 284, 285, 286, 287, 288, 289, 290, 291, 292, 293, 294, 302, 303, 304, 305, 306, 307, 308, 309, 310, 311, 312, 313, 314, 315, 316, 317, 318, 319, 320, 321, 322, 323, 324, 325, 326, 327, 328, 329, 330, 331, 332, 333, 334, 335, 336, 337, 338] (by decide +kernel) (by decide +kernel)
set_option maxRecDepth 20000 in
theorem gX5_relate_X4_refresh : GoodIn wsX5_relate (wsV RX5 79 RX4 yX4_refresh wsX4_refresh) := goodIn_app (goodIn_of _ (by decide +kernel)) ggX5_relate_X4_refresh
set_option maxRecDepth 20000 in
theorem ggX5_relate_X4_at : GoodIn wsX5_relate wsX4_at := goodIn_r _ [298, 11, 302, 303, 304, 305, 306, 307] (by decide +kernel) (by decide +kernel)
set_option maxRecDepth 20000 in
theorem gX5_relate_X4_at : GoodIn wsX5_relate (wsV RX5 82 RX4 yX4_at wsX4_at) := goodIn_app (goodIn_of _ (by decide +kernel)) ggX5_relate_X4_at
theorem dX5_relate_0 : decode cX5_relate 0 = .ok (.aload_n 0, 1) := by decide +kernel
theorem dX5_relate_1 : decode cX5_relate 1 = .ok (.getfield 24, 3) := by decide +kernel
theorem dX5_relate_4 : decode cX5_relate 4 = .ok (.invokevirtual 79, 3) := by decide +kernel
theorem dX5_relate_7 : decode cX5_relate 7 = .ok (.iconst 0, 1) := by decide +kernel
theorem dX5_relate_8 : decode cX5_relate 8 = .ok (.istore_n 1, 1) := by decide +kernel
theorem dX5_relate_9 : decode cX5_relate 9 = .ok (.iconst 0, 1) := by decide +kernel
theorem dX5_relate_10 : decode cX5_relate 10 = .ok (.istore_n 2, 1) := by decide +kernel
theorem dX5_relate_11 : decode cX5_relate 11 = .ok (.iload_n 2, 1) := by decide +kernel
theorem dX5_relate_12 : decode cX5_relate 12 = .ok (.iconst 2, 1) := by decide +kernel
theorem dX5_relate_13 : decode cX5_relate 13 = .ok (.if_icmp .gt 38, 3) := by decide +kernel
theorem dX5_relate_16 : decode cX5_relate 16 = .ok (.iconst 0, 1) := by decide +kernel
theorem dX5_relate_17 : decode cX5_relate 17 = .ok (.istore_n 3, 1) := by decide +kernel
theorem dX5_relate_18 : decode cX5_relate 18 = .ok (.iload_n 3, 1) := by decide +kernel
theorem dX5_relate_19 : decode cX5_relate 19 = .ok (.iconst 2, 1) := by decide +kernel
theorem dX5_relate_20 : decode cX5_relate 20 = .ok (.if_icmp .gt 25, 3) := by decide +kernel
theorem dX5_relate_23 : decode cX5_relate 23 = .ok (.iconst 4, 1) := by decide +kernel
theorem dX5_relate_24 : decode cX5_relate 24 = .ok (.iload_n 1, 1) := by decide +kernel
theorem dX5_relate_25 : decode cX5_relate 25 = .ok (.imul, 1) := by decide +kernel
theorem dX5_relate_26 : decode cX5_relate 26 = .ok (.aload_n 0, 1) := by decide +kernel
theorem dX5_relate_27 : decode cX5_relate 27 = .ok (.getfield 24, 3) := by decide +kernel
theorem dX5_relate_30 : decode cX5_relate 30 = .ok (.iload_n 2, 1) := by decide +kernel
theorem dX5_relate_31 : decode cX5_relate 31 = .ok (.iload_n 3, 1) := by decide +kernel
theorem dX5_relate_32 : decode cX5_relate 32 = .ok (.invokevirtual 82, 3) := by decide +kernel
theorem dX5_relate_35 : decode cX5_relate 35 = .ok (.iadd, 1) := by decide +kernel
theorem dX5_relate_36 : decode cX5_relate 36 = .ok (.iconst 1, 1) := by decide +kernel
theorem dX5_relate_37 : decode cX5_relate 37 = .ok (.iadd, 1) := by decide +kernel
theorem dX5_relate_38 : decode cX5_relate 38 = .ok (.istore_n 1, 1) := by decide +kernel
theorem dX5_relate_39 : decode cX5_relate 39 = .ok (.iinc 3 1, 3) := by decide +kernel
theorem dX5_relate_42 : decode cX5_relate 42 = .ok (.goto (-24), 3) := by decide +kernel
theorem dX5_relate_45 : decode cX5_relate 45 = .ok (.iinc 2 1, 3) := by decide +kernel
theorem dX5_relate_48 : decode cX5_relate 48 = .ok (.goto (-37), 3) := by decide +kernel
theorem dX5_relate_51 : decode cX5_relate 51 = .ok (.iload_n 1, 1) := by decide +kernel
theorem dX5_relate_52 : decode cX5_relate 52 = .ok (.ireturn, 1) := by decide +kernel
set_option maxRecDepth 20000 in
theorem ggX5_entry_X4_refresh : GoodIn wsX5_entry wsX4_refresh := goodIn_r _ [8, 9, 10, 11, 12, 13, 14, 15, 16, 17, 18, 19, 20, 21, 22, 23, 24, 25, 26, 27, 28, 29, 30, 31, 32, 33, 34, 35, 36, 37, 38, 39, 40, 41, 42, 43, 44, 45, 46, 47, 48, 49, 50, 51, 52, 53, 54, 55, 56, 57, 58, 59, 60, 61, 62, 63, 64, 7, 65, 66, 67, 68, 69, 70, 71, 72, 73, 74, 75, 76, 77, 78, 79, 80, 81, 82, 83, 84, 85, 86, 87, 88, 89, 90, 91, 92, 93, 94, 95, 96, 97, 98, 99, 100, 101, 102, 103, 104, 105, 106, 107, 108, 109, 110, 111, 112, 113, 114, 115, 116, 117, 118, 119, 120, 121, 122, 123, 124, 125, 126, 127, 128, 129, 130, 131, 132, 133, 134, 135, 136, 137, 138, 139, 140, 141, 142, 143, 144, 145, 146, 147, 148, 149, 150, 151, 152, 153, 154, 155, 156, 157, 158, 159, 160, 161, 162, 163, 164, 165, 166, 167, 168, 169, 170, 171, 172, 173, 174, 175, 176, 177, 178, 179, 180, 181, 182, 183, 184, 185, 186, 187, 188, 189, 190, 191, 192, 193, 194, 195, 196, 197, 198, 199, 200, 201, 202, 203, 204, 205, 206, 207, 208, 209, 210, 211, 212, 213, 214, 215, 216, 217, 218, 219, 220, 221, 222, 223, 224, 225, 226, 227, 228, 229, 230, 231, 232, 233, 234, 235, 236, 237, 238, 239, 240, 241, 242, 243, 244, 245, 246, 247, 248, 249, 250, 251, 252, 253, 254, 255, 256, 257, 258, 259, 260, 261, 262, 263, 264, 265, 266, 267, 268, 269, 270, 271, 272, 273, 274, 275, 276, 277, 278, 279, 280, 281, 282, 283, 284, 285, 286, 287, 288, 289, 290, 291, 292, 293, 294, 295, 296, 304, 305, 306, 307, 308, 309, 310, 311, 312, 313, 314, 315, 316, 317, 318, 319, 320, 321, 322, 323, 324, 325, 326, 327, 328, 329, 330, 331, 332, 333, 334, 335, 336, 337, 338, 339, 340] (by decide +kernel) (by decide +kernel)
set_option maxRecDepth 20000 in
theorem gX5_entry_X4_refresh : GoodIn wsX5_entry (wsV RX5 79 RX4 yX4_refresh wsX4_refresh) := goodIn_app (goodIn_of _ (by decide +kernel)) ggX5_entry_X4_refresh
set_option maxRecDepth 20000 in
theorem ggX5_entry_X4_at : GoodIn wsX5_entry wsX4_at := goodIn_r _ [300, 13, 304, 305, 306, 307, 308, 309] (by decide +kernel) (by decide +kernel)
set_option maxRecDepth 20000 in
theorem gX5_entry_X4_at : GoodIn wsX5_entry (wsV RX5 82 RX4 yX4_at wsX4_at) := goodIn_app (goodIn_of _ (by decide +kernel)) ggX5_entry_X4_at
theorem dX5_entry_0 : decode cX5_entry 0 = .ok (.iload_n 1, 1) := by decide +kernel
theorem dX5_entry_1 : decode cX5_entry 1 = .ok (.ifCond .lt 17, 3) := by decide +kernel
theorem dX5_entry_4 : decode cX5_entry 4 = .ok (.iload_n 1, 1) := by decide +kernel
theorem dX5_entry_5 : decode cX5_entry 5 = .ok (.iconst 2, 1) := by decide +kernel
theorem dX5_entry_6 : decode cX5_entry 6 = .ok (.if_icmp .gt 12, 3) := by decide +kernel
theorem dX5_entry_9 : decode cX5_entry 9 = .ok (.iload_n 2, 1) := by decide +kernel
theorem dX5_entry_10 : decode cX5_entry 10 = .ok (.ifCond .lt 8, 3) := by decide +kernel
theorem dX5_entry_13 : decode cX5_entry 13 = .ok (.iload_n 2, 1) := by decide +kernel
theorem dX5_entry_14 : decode cX5_entry 14 = .ok (.iconst 2, 1) := by decide +kernel
theorem dX5_entry_15 : decode cX5_entry 15 = .ok (.if_icmp .le 13, 3) := by decide +kernel
theorem dX5_entry_18 : decode cX5_entry 18 = .ok (.new 85, 3) := by decide +kernel
theorem dX5_entry_21 : decode cX5_entry 21 = .ok (.dup, 1) := by decide +kernel
theorem dX5_entry_22 : decode cX5_entry 22 = .ok (.ldc 87, 2) := by decide +kernel
theorem dX5_entry_24 : decode cX5_entry 24 = .ok (.invokespecial 89, 3) := by decide +kernel
theorem dX5_entry_27 : decode cX5_entry 27 = .ok (.athrow, 1) := by decide +kernel
theorem dX5_entry_28 : decode cX5_entry 28 = .ok (.aload_n 0, 1) := by decide +kernel
theorem dX5_entry_29 : decode cX5_entry 29 = .ok (.getfield 24, 3) := by decide +kernel
theorem dX5_entry_32 : decode cX5_entry 32 = .ok (.invokevirtual 79, 3) := by decide +kernel
theorem dX5_entry_35 : decode cX5_entry 35 = .ok (.aload_n 0, 1) := by decide +kernel
theorem dX5_entry_36 : decode cX5_entry 36 = .ok (.getfield 24, 3) := by decide +kernel
theorem dX5_entry_39 : decode cX5_entry 39 = .ok (.iload_n 1, 1) := by decide +kernel
theorem dX5_entry_40 : decode cX5_entry 40 = .ok (.iload_n 2, 1) := by decide +kernel
theorem dX5_entry_41 : decode cX5_entry 41 = .ok (.invokevirtual 82, 3) := by decide +kernel
theorem dX5_entry_44 : decode cX5_entry 44 = .ok (.ireturn, 1) := by decide +kernel
set_option maxRecDepth 20000 in
theorem ggX5_is_X4_refresh : GoodIn wsX5_is wsX4_refresh := goodIn_r _ [8, 9, 10, 11, 12, 13, 14, 15, 16, 17, 18, 19, 20, 21, 22, 23, 24, 25, 26, 27, 28, 29, 30, 31, 32, 33, 34, 35, 36, 37, 38, 39, 40, 41, 42, 43, 44, 45, 46, 47, 48, 49, 50, 51, 52, 53, 54, 55, 56, 57, 58, 59, 60, 61, 62, 63, 64, 7, 65, 66, 67, 68, 69, 70, 71, 72, 73, 74, 75, 76, 77, 78, 79, 80, 81, 82, 83, 84, 85, 86, 87, 88, 89, 90, 91, 92, 93, 94, 95, 96, 97, 98, 99, 100, 101, 102, 103, 104, 105, 106, 107, 108, 109, 110, 111, 112, 113, 114, 115, 116, 117, 118, 119, 120, 121, 122, 123, 124, 125, 126, 127, 128, 129, 130, 131, 132, 133, 134, 135, 136, 137, 138, 139, 140, 141, 142, 143, 144, 145, 146, 147, 148, 149, 150, 151, 152, 153, 154, 155, 156, 157, 158, 159, 160, 161, 162, 163, 164, 165, 166, 167, 168, 169, 170, 171, 172, 173, 174, 175, 176, 177, 178, 179, 180, 181, 182, 183, 184, 185, 186, 187, 188, 189, 190, 191, 192, 193, 194, 195, 196, 197, 198, 199, 200, 201, 202, 203, 204, 205, 206, 207, 208, 209, 210, 211, 212, 213, 214, 215, 216, 217, 218, 219, 220, 221, 222, 223, 224, 225, 226, 227, 228, 229, 230, 231, 232, 233, 234, 235, 236, 237, 238, 239, 240, 241, 242, 243, 244, 245, 246, 247, 248, 249, 250, 251, 252, 253, 254, 255, 256, 257, 258, 259, 260, 261, 262, 263, 264, 265, 266, 267, 268, 269, 270, 271, 272, 273, 274, 275, 276, 277, 278, 279, 280, 281, 282, 283, 284, 285, 286, 287, 288, 289, 290, 291, 292, 293, 294, 295, 296, 344, 345, 346, 347, 348, 349, 350, 351, 352, 353, 354, 355, 356, 357, 358, 359, 360, 361, 362, 363, 364, 365, 366, 367, 368, 369, 370, 371, 372, 373, 374, 375, 376, 377, 378, 379, 380] (by decide +kernel) (by decide +kernel)
set_option maxRecDepth 20000 in
theorem gX5_is_X4_refresh : GoodIn wsX5_is (wsV RX5 79 RX4 yX4_refresh wsX4_refresh) := goodIn_app (goodIn_of _ (by decide +kernel)) ggX5_is_X4_refresh
set_option maxRecDepth 20000 in
theorem ggX5_is_X4_areEqual : GoodIn wsX5_is wsX4_areEqual := goodIn_r _ [300, 301, 302, 303, 7, 304, 305, 95, 92, 96, 306, 307, 308, 309, 13, 310, 311, 312, 313, 314, 315, 316, 317, 318, 319, 320, 321, 322, 323, 324, 325, 344, 345, 346, 347, 348, 349] (by decide +kernel) (by decide +kernel)
set_option maxRecDepth 20000 in
theorem gX5_is_X4_areEqual : GoodIn wsX5_is (wsV RX5 92 RX4 yX4_areEqual wsX4_areEqual) := goodIn_app (goodIn_of _ (by decide +kernel)) ggX5_is_X4_areEqual
set_option maxRecDepth 20000 in
theorem ggX5_is_X4_haveCommonPlace : GoodIn wsX5_is wsX4_haveCommonPlace := goodIn_r _ [329, 314, 315, 316, 7, 317, 306, 307, 308, 309, 13, 344, 345, 346, 347, 348, 349] (by decide +kernel) (by decide +kernel)
set_option maxRecDepth 20000 in
theorem gX5_is_X4_haveCommonPlace : GoodIn wsX5_is (wsV RX5 96 RX4 yX4_haveCommonPlace wsX4_haveCommonPlace) := goodIn_app (goodIn_of _ (by decide +kernel)) ggX5_is_X4_haveCommonPlace
set_option maxRecDepth 20000 in
theorem ggX5_is_X4_has : GoodIn wsX5_is wsX4_has := goodIn_r _ [317, 306, 307, 308, 7, 309, 13, 344, 345, 346, 347, 348, 349] (by decide +kernel) (by decide +kernel)
set_option maxRecDepth 20000 in
theorem gX5_is_X4_has : GoodIn wsX5_is (wsV RX5 99 RX4 yX4_has wsX4_has) := goodIn_app (goodIn_of _ (by decide +kernel)) ggX5_is_X4_has
set_option maxRecDepth 20000 in
theorem ggX5_is_X4_doCross : GoodIn wsX5_is wsX4_doCross := goodIn_r _ [334, 301, 302, 303, 7, 304, 305, 95, 92, 96, 306, 307, 308, 309, 13, 310, 311, 312, 313, 314, 315, 316, 317, 344, 345, 346, 347, 348, 349] (by decide +kernel) (by decide +kernel)
set_option maxRecDepth 20000 in
theorem gX5_is_X4_doCross : GoodIn wsX5_is (wsV RX5 103 RX4 yX4_doCross wsX4_doCross) := goodIn_app (goodIn_of _ (by decide +kernel)) ggX5_is_X4_doCross
set_option maxRecDepth 20000 in
theorem ggX5_is_X4_firstLeavesSecond : GoodIn wsX5_is wsX4_firstLeavesSecond := goodIn_r _ [321, 314, 315, 316, 7, 317, 306, 307, 308, 309, 13, 344, 345, 346, 347, 348, 349] (by decide +kernel) (by decide +kernel)
set_option maxRecDepth 20000 in
theorem gX5_is_X4_firstLeavesSecond : GoodIn wsX5_is (wsV RX5 106 RX4 yX4_firstLeavesSecond wsX4_firstLeavesSecond) := goodIn_app (goodIn_of _ (by decide +kernel)) ggX5_is_X4_firstLeavesSecond
set_option maxRecDepth 20000 in
theorem ggX5_is_X4_secondLeavesFirst : GoodIn wsX5_is wsX4_secondLeavesFirst := goodIn_r _ [325, 314, 315, 316, 7, 317, 306, 307, 308, 309, 13, 344, 345, 346, 347, 348, 349] (by decide +kernel) (by decide +kernel)
set_option maxRecDepth 20000 in
theorem gX5_is_X4_secondLeavesFirst : GoodIn wsX5_is (wsV RX5 109 RX4 yX4_secondLeavesFirst wsX4_secondLeavesFirst) := goodIn_app (goodIn_of _ (by decide +kernel)) ggX5_is_X4_secondLeavesFirst
set_option maxRecDepth 20000 in
theorem ggX5_is_X4_doOverlap : GoodIn wsX5_is wsX4_doOverlap := goodIn_r _ [340, 301, 302, 303, 7, 304, 305, 95, 92, 96, 306, 307, 308, 309, 13, 310, 311, 312, 313, 314, 315, 316, 317, 344, 345, 346, 347, 348, 349] (by decide +kernel) (by decide +kernel)
set_option maxRecDepth 20000 in
theorem gX5_is_X4_doOverlap : GoodIn wsX5_is (wsV RX5 112 RX4 yX4_doOverlap wsX4_doOverlap) := goodIn_app (goodIn_of _ (by decide +kernel)) ggX5_is_X4_doOverlap
theorem dX5_is_0 : decode cX5_is 0 = .ok (.iload_n 1, 1) := by decide +kernel
theorem dX5_is_1 : decode cX5_is 1 = .ok (.ifCond .lt 9, 3) := by decide +kernel
theorem dX5_is_4 : decode cX5_is 4 = .ok (.iload_n 1, 1) := by decide +kernel
theorem dX5_is_5 : decode cX5_is 5 = .ok (.bipush 8, 2) := by decide +kernel
theorem dX5_is_7 : decode cX5_is 7 = .ok (.if_icmp .le 13, 3) := by decide +kernel
theorem dX5_is_10 : decode cX5_is 10 = .ok (.new 85, 3) := by decide +kernel
theorem dX5_is_13 : decode cX5_is 13 = .ok (.dup, 1) := by decide +kernel
theorem dX5_is_14 : decode cX5_is 14 = .ok (.ldc 90, 2) := by decide +kernel
theorem dX5_is_16 : decode cX5_is 16 = .ok (.invokespecial 89, 3) := by decide +kernel
theorem dX5_is_19 : decode cX5_is 19 = .ok (.athrow, 1) := by decide +kernel
theorem dX5_is_20 : decode cX5_is 20 = .ok (.aload_n 0, 1) := by decide +kernel
theorem dX5_is_21 : decode cX5_is 21 = .ok (.getfield 24, 3) := by decide +kernel
theorem dX5_is_24 : decode cX5_is 24 = .ok (.invokevirtual 79, 3) := by decide +kernel
theorem dX5_is_27 : decode cX5_is 27 = .ok (.iload_n 1, 1) := by decide +kernel
theorem dX5_is_28 : decode cX5_is 28 = .ok (.tableswitch 198 0 7 #[48, 56, 72, 100, 108, 136, 164, 172], 48) := by decide +kernel
theorem dX5_is_76 : decode cX5_is 76 = .ok (.aload_n 0, 1) := by decide +kernel
theorem dX5_is_77 : decode cX5_is 77 = .ok (.getfield 24, 3) := by decide +kernel
theorem dX5_is_80 : decode cX5_is 80 = .ok (.invokevirtual 92, 3) := by decide +kernel
theorem dX5_is_83 : decode cX5_is 83 = .ok (.ireturn, 1) := by decide +kernel
theorem dX5_is_84 : decode cX5_is 84 = .ok (.aload_n 0, 1) := by decide +kernel
theorem dX5_is_85 : decode cX5_is 85 = .ok (.getfield 24, 3) := by decide +kernel
theorem dX5_is_88 : decode cX5_is 88 = .ok (.invokevirtual 96, 3) := by decide +kernel
theorem dX5_is_91 : decode cX5_is 91 = .ok (.ifCond .ne 7, 3) := by decide +kernel
theorem dX5_is_94 : decode cX5_is 94 = .ok (.iconst 1, 1) := by decide +kernel
theorem dX5_is_95 : decode cX5_is 95 = .ok (.goto 4, 3) := by decide +kernel
theorem dX5_is_98 : decode cX5_is 98 = .ok (.iconst 0, 1) := by decide +kernel
theorem dX5_is_99 : decode cX5_is 99 = .ok (.ireturn, 1) := by decide +kernel
theorem dX5_is_100 : decode cX5_is 100 = .ok (.aload_n 0, 1) := by decide +kernel
theorem dX5_is_101 : decode cX5_is 101 = .ok (.getfield 24, 3) := by decide +kernel
theorem dX5_is_104 : decode cX5_is 104 = .ok (.iconst 0, 1) := by decide +kernel
theorem dX5_is_105 : decode cX5_is 105 = .ok (.iconst 0, 1) := by decide +kernel
theorem dX5_is_106 : decode cX5_is 106 = .ok (.invokevirtual 99, 3) := by decide +kernel
theorem dX5_is_109 : decode cX5_is 109 = .ok (.ifCond .ne 17, 3) := by decide +kernel
theorem dX5_is_112 : decode cX5_is 112 = .ok (.aload_n 0, 1) := by decide +kernel
theorem dX5_is_113 : decode cX5_is 113 = .ok (.getfield 24, 3) := by decide +kernel
theorem dX5_is_116 : decode cX5_is 116 = .ok (.invokevirtual 96, 3) := by decide +kernel
theorem dX5_is_119 : decode cX5_is 119 = .ok (.ifCond .eq 7, 3) := by decide +kernel
theorem dX5_is_122 : decode cX5_is 122 = .ok (.iconst 1, 1) := by decide +kernel
theorem dX5_is_123 : decode cX5_is 123 = .ok (.goto 4, 3) := by decide +kernel
theorem dX5_is_126 : decode cX5_is 126 = .ok (.iconst 0, 1) := by decide +kernel
theorem dX5_is_127 : decode cX5_is 127 = .ok (.ireturn, 1) := by decide +kernel
theorem dX5_is_128 : decode cX5_is 128 = .ok (.aload_n 0, 1) := by decide +kernel
theorem dX5_is_129 : decode cX5_is 129 = .ok (.getfield 24, 3) := by decide +kernel
theorem dX5_is_132 : decode cX5_is 132 = .ok (.invokevirtual 103, 3) := by decide +kernel
theorem dX5_is_135 : decode cX5_is 135 = .ok (.ireturn, 1) := by decide +kernel
theorem dX5_is_136 : decode cX5_is 136 = .ok (.aload_n 0, 1) := by decide +kernel
theorem dX5_is_137 : decode cX5_is 137 = .ok (.getfield 24, 3) := by decide +kernel
theorem dX5_is_140 : decode cX5_is 140 = .ok (.iconst 0, 1) := by decide +kernel
theorem dX5_is_141 : decode cX5_is 141 = .ok (.iconst 0, 1) := by decide +kernel
theorem dX5_is_142 : decode cX5_is 142 = .ok (.invokevirtual 99, 3) := by decide +kernel
theorem dX5_is_145 : decode cX5_is 145 = .ok (.ifCond .eq 17, 3) := by decide +kernel
theorem dX5_is_148 : decode cX5_is 148 = .ok (.aload_n 0, 1) := by decide +kernel
theorem dX5_is_149 : decode cX5_is 149 = .ok (.getfield 24, 3) := by decide +kernel
theorem dX5_is_152 : decode cX5_is 152 = .ok (.invokevirtual 106, 3) := by decide +kernel
theorem dX5_is_155 : decode cX5_is 155 = .ok (.ifCond .ne 7, 3) := by decide +kernel
theorem dX5_is_158 : decode cX5_is 158 = .ok (.iconst 1, 1) := by decide +kernel
theorem dX5_is_159 : decode cX5_is 159 = .ok (.goto 4, 3) := by decide +kernel
theorem dX5_is_162 : decode cX5_is 162 = .ok (.iconst 0, 1) := by decide +kernel
theorem dX5_is_163 : decode cX5_is 163 = .ok (.ireturn, 1) := by decide +kernel
theorem dX5_is_164 : decode cX5_is 164 = .ok (.aload_n 0, 1) := by decide +kernel
theorem dX5_is_165 : decode cX5_is 165 = .ok (.getfield 24, 3) := by decide +kernel
theorem dX5_is_168 : decode cX5_is 168 = .ok (.iconst 0, 1) := by decide +kernel
theorem dX5_is_169 : decode cX5_is 169 = .ok (.iconst 0, 1) := by decide +kernel
theorem dX5_is_170 : decode cX5_is 170 = .ok (.invokevirtual 99, 3) := by decide +kernel
theorem dX5_is_173 : decode cX5_is 173 = .ok (.ifCond .eq 17, 3) := by decide +kernel
theorem dX5_is_176 : decode cX5_is 176 = .ok (.aload_n 0, 1) := by decide +kernel
theorem dX5_is_177 : decode cX5_is 177 = .ok (.getfield 24, 3) := by decide +kernel
theorem dX5_is_180 : decode cX5_is 180 = .ok (.invokevirtual 109, 3) := by decide +kernel
theorem dX5_is_183 : decode cX5_is 183 = .ok (.ifCond .ne 7, 3) := by decide +kernel
theorem dX5_is_186 : decode cX5_is 186 = .ok (.iconst 1, 1) := by decide +kernel
theorem dX5_is_187 : decode cX5_is 187 = .ok (.goto 4, 3) := by decide +kernel
theorem dX5_is_190 : decode cX5_is 190 = .ok (.iconst 0, 1) := by decide +kernel
theorem dX5_is_191 : decode cX5_is 191 = .ok (.ireturn, 1) := by decide +kernel
theorem dX5_is_192 : decode cX5_is 192 = .ok (.aload_n 0, 1) := by decide +kernel
theorem dX5_is_193 : decode cX5_is 193 = .ok (.getfield 24, 3) := by decide +kernel
theorem dX5_is_196 : decode cX5_is 196 = .ok (.invokevirtual 112, 3) := by decide +kernel
theorem dX5_is_199 : decode cX5_is 199 = .ok (.ireturn, 1) := by decide +kernel
theorem dX5_is_200 : decode cX5_is 200 = .ok (.aload_n 0, 1) := by decide +kernel
theorem dX5_is_201 : decode cX5_is 201 = .ok (.getfield 24, 3) := by decide +kernel
theorem dX5_is_204 : decode cX5_is 204 = .ok (.invokevirtual 96, 3) := by decide +kernel
theorem dX5_is_207 : decode cX5_is 207 = .ok (.ifCond .eq 17, 3) := by decide +kernel
theorem dX5_is_210 : decode cX5_is 210 = .ok (.aload_n 0, 1) := by decide +kernel
theorem dX5_is_211 : decode cX5_is 211 = .ok (.getfield 24, 3) := by decide +kernel
theorem dX5_is_214 : decode cX5_is 214 = .ok (.invokevirtual 106, 3) := by decide +kernel
theorem dX5_is_217 : decode cX5_is 217 = .ok (.ifCond .ne 7, 3) := by decide +kernel
theorem dX5_is_220 : decode cX5_is 220 = .ok (.iconst 1, 1) := by decide +kernel
theorem dX5_is_221 : decode cX5_is 221 = .ok (.goto 4, 3) := by decide +kernel
theorem dX5_is_224 : decode cX5_is 224 = .ok (.iconst 0, 1) := by decide +kernel
theorem dX5_is_225 : decode cX5_is 225 = .ok (.ireturn, 1) := by decide +kernel
theorem dX5_is_226 : decode cX5_is 226 = .ok (.aload_n 0, 1) := by decide +kernel
theorem dX5_is_227 : decode cX5_is 227 = .ok (.getfield 24, 3) := by decide +kernel
theorem dX5_is_230 : decode cX5_is 230 = .ok (.invokevirtual 96, 3) := by decide +kernel
theorem dX5_is_233 : decode cX5_is 233 = .ok (.ifCond .eq 17, 3) := by decide +kernel
theorem dX5_is_236 : decode cX5_is 236 = .ok (.aload_n 0, 1) := by decide +kernel
theorem dX5_is_237 : decode cX5_is 237 = .ok (.getfield 24, 3) := by decide +kernel
theorem dX5_is_240 : decode cX5_is 240 = .ok (.invokevirtual 109, 3) := by decide +kernel
theorem dX5_is_243 : decode cX5_is 243 = .ok (.ifCond .ne 7, 3) := by decide +kernel
theorem dX5_is_246 : decode cX5_is 246 = .ok (.iconst 1, 1) := by decide +kernel
theorem dX5_is_247 : decode cX5_is 247 = .ok (.goto 4, 3) := by decide +kernel
theorem dX5_is_250 : decode cX5_is 250 = .ok (.iconst 0, 1) := by decide +kernel
theorem dX5_is_251 : decode cX5_is 251 = .ok (.ireturn, 1) := by decide +kernel
set_option maxRecDepth 20000 in
theorem ggX5_dimension_X5_figureOf : GoodIn wsX5_dimension wsX5_figureOf := goodIn_ca (goodIn_r _ [11, 12, 13, 2, 14, 318, 319, 320] (by decide +kernel) (by decide +kernel)) (goodIn_sub (fun _ h => List.mem_cons_of_mem _ (List.mem_append_right _ h)) (by decide +kernel))
set_option maxRecDepth 20000 in
theorem gX5_dimension_X5_figureOf : GoodIn wsX5_dimension (wsV RX5 28 RX5 yX5_figureOf wsX5_figureOf) := goodIn_app (goodIn_of _ (by decide +kernel)) ggX5_dimension_X5_figureOf
set_option maxRecDepth 20000 in
theorem ggX5_dimension_X4_refresh : GoodIn wsX5_dimension wsX4_refresh := goodIn_r _ [19, 20, 21, 22, 23, 24, 25, 26, 27, 28, 29, 30, 31, 32, 33, 34, 35, 36, 37, 38, 39, 40, 41, 42, 43, 44, 45, 46, 47, 48, 49, 50, 51, 52, 53, 54, 55, 56, 57, 58, 59, 60, 61, 62, 63, 64, 65, 66, 67, 68, 69, 70, 71, 72, 73, 74, 75, 18, 76, 77, 78, 79, 80, 81, 82, 83, 84, 85, 86, 87, 88, 89, 90, 91, 92, 93, 94, 95, 96, 97, 98, 99, 100, 101, 102, 5, 103, 104, 4, 6, 105, 106, 107, 108, 109, 110, 111, 112, 113, 114, 115, 116, 117, 118, 119, 120, 121, 122, 123, 124, 125, 126, 127, 128, 129, 130, 131, 132, 133, 134, 135, 136, 137, 138, 139, 140, 141, 142, 143, 144, 145, 146, 147, 148, 149, 150, 151, 152, 153, 154, 155, 156, 157, 158, 159, 160, 161, 162, 163, 164, 165, 166, 167, 168, 169, 170, 171, 172, 173, 174, 175, 176, 177, 178, 179, 180, 181, 182, 183, 184, 185, 186, 187, 188, 189, 190, 191, 192, 193, 194, 195, 196, 197, 198, 199, 200, 201, 202, 203, 204, 205, 206, 207, 208, 209, 210, 211, 212, 213, 214, 215, 216, 217, 218, 219, 220, 221, 222, 223, 224, 225, 226, 227, 228, 229, 230, 231, 232, 233, 234, 235, 236, 237, 238, 239, 240, 241, 242, 243, 244, 245, 246, 247, 248, 249, 250, 251, 252, 253, 254, 255, 256, 257, 258, 259, 260, 261, 262, 263, 264, 265, 266, 267, 268, 269, 270, 271, 272, 273, 274, 275, 276, 277, 278, 279, 280, 281, 282, 283, 284, 285, 286, 287, 288, 289, 290, 291, 292, 293, 294, 295, 296, 297, 298, 299, 300, 301, 302, 303, 304, 321, 322, 323, 324, 325, 326, 327, 328, 329, 330, 331, 332, 333, 334, 335, 336, 337, 338, 339, 340, 341, 342, 343, 344, 345, 346, 347, 348, 349, 350, 351, 352, 353, 354, 355, 356, 357] (by decide +kernel) (by decide +kernel)
set_option maxRecDepth 20000 in
theorem gX5_dimension_X4_refresh : GoodIn wsX5_dimension (wsV RX5 79 RX4 yX4_refresh wsX4_refresh) := goodIn_app (goodIn_of _ (by decide +kernel)) ggX5_dimension_X4_refresh
set_option maxRecDepth 20000 in
theorem ggX5_dimension_X4_dimensionInFirst : GoodIn wsX5_dimension wsX4_dimensionInFirst := goodIn_r _ [308, 309, 4, 5, 6, 310, 311, 312, 18, 313, 24, 321, 322, 323, 324, 325, 326] (by decide +kernel) (by decide +kernel)
set_option maxRecDepth 20000 in
theorem gX5_dimension_X4_dimensionInFirst : GoodIn wsX5_dimension (wsV RX5 115 RX4 yX4_dimensionInFirst wsX4_dimensionInFirst) := goodIn_app (goodIn_of _ (by decide +kernel)) ggX5_dimension_X4_dimensionInFirst
set_option maxRecDepth 20000 in
theorem ggX5_dimension_X4_dimensionInSecond : GoodIn wsX5_dimension wsX4_dimensionInSecond := goodIn_r _ [317, 309, 4, 5, 6, 310, 311, 312, 18, 313, 24, 321, 322, 323, 324, 325, 326] (by decide +kernel) (by decide +kernel)
set_option maxRecDepth 20000 in
theorem gX5_dimension_X4_dimensionInSecond : GoodIn wsX5_dimension (wsV RX5 124 RX4 yX4_dimensionInSecond wsX4_dimensionInSecond) := goodIn_app (goodIn_of _ (by decide +kernel)) ggX5_dimension_X4_dimensionInSecond
theorem dX5_dimension_0 : decode cX5_dimension 0 = .ok (.aload_n 0, 1) := by decide +kernel
theorem dX5_dimension_1 : decode cX5_dimension 1 = .ok (.iload_n 1, 1) := by decide +kernel
theorem dX5_dimension_2 : decode cX5_dimension 2 = .ok (.invokevirtual 28, 3) := by decide +kernel
theorem dX5_dimension_5 : decode cX5_dimension 5 = .ok (.astore_n 2, 1) := by decide +kernel
theorem dX5_dimension_6 : decode cX5_dimension 6 = .ok (.aload_n 0, 1) := by decide +kernel
theorem dX5_dimension_7 : decode cX5_dimension 7 = .ok (.getfield 24, 3) := by decide +kernel
theorem dX5_dimension_10 : decode cX5_dimension 10 = .ok (.invokevirtual 79, 3) := by decide +kernel
theorem dX5_dimension_13 : decode cX5_dimension 13 = .ok (.aload_n 2, 1) := by decide +kernel
theorem dX5_dimension_14 : decode cX5_dimension 14 = .ok (.aload_n 0, 1) := by decide +kernel
theorem dX5_dimension_15 : decode cX5_dimension 15 = .ok (.getfield 10, 3) := by decide +kernel
theorem dX5_dimension_18 : decode cX5_dimension 18 = .ok (.if_acmp .ne 25, 3) := by decide +kernel
theorem dX5_dimension_21 : decode cX5_dimension 21 = .ok (.aload_n 0, 1) := by decide +kernel
theorem dX5_dimension_22 : decode cX5_dimension 22 = .ok (.getfield 24, 3) := by decide +kernel
theorem dX5_dimension_25 : decode cX5_dimension 25 = .ok (.iconst 0, 1) := by decide +kernel
theorem dX5_dimension_26 : decode cX5_dimension 26 = .ok (.invokevirtual 115, 3) := by decide +kernel
theorem dX5_dimension_29 : decode cX5_dimension 29 = .ok (.aload_n 0, 1) := by decide +kernel
theorem dX5_dimension_30 : decode cX5_dimension 30 = .ok (.getfield 24, 3) := by decide +kernel
theorem dX5_dimension_33 : decode cX5_dimension 33 = .ok (.iconst 1, 1) := by decide +kernel
theorem dX5_dimension_34 : decode cX5_dimension 34 = .ok (.invokevirtual 115, 3) := by decide +kernel
theorem dX5_dimension_37 : decode cX5_dimension 37 = .ok (.invokestatic 119, 3) := by decide +kernel
theorem dX5_dimension_40 : decode cX5_dimension 40 = .ok (.goto 22, 3) := by decide +kernel
theorem dX5_dimension_43 : decode cX5_dimension 43 = .ok (.aload_n 0, 1) := by decide +kernel
theorem dX5_dimension_44 : decode cX5_dimension 44 = .ok (.getfield 24, 3) := by decide +kernel
theorem dX5_dimension_47 : decode cX5_dimension 47 = .ok (.iconst 0, 1) := by decide +kernel
theorem dX5_dimension_48 : decode cX5_dimension 48 = .ok (.invokevirtual 124, 3) := by decide +kernel
theorem dX5_dimension_51 : decode cX5_dimension 51 = .ok (.aload_n 0, 1) := by decide +kernel
theorem dX5_dimension_52 : decode cX5_dimension 52 = .ok (.getfield 24, 3) := by decide +kernel
theorem dX5_dimension_55 : decode cX5_dimension 55 = .ok (.iconst 1, 1) := by decide +kernel
theorem dX5_dimension_56 : decode cX5_dimension 56 = .ok (.invokevirtual 124, 3) := by decide +kernel
theorem dX5_dimension_59 : decode cX5_dimension 59 = .ok (.invokestatic 119, 3) := by decide +kernel
theorem dX5_dimension_62 : decode cX5_dimension 62 = .ok (.ireturn, 1) := by decide +kernel
set_option maxRecDepth 20000 in
theorem ggX5_count_X5_figureOf : GoodIn wsX5_count wsX5_figureOf := goodIn_ca (goodIn_r _ [10, 1, 2, 11, 12, 26, 27, 28] (by decide +kernel) (by decide +kernel)) (goodIn_sub (fun _ h => List.mem_cons_of_mem _ (List.mem_append_right _ h)) (by decide +kernel))
set_option maxRecDepth 20000 in
theorem gX5_count_X5_figureOf : GoodIn wsX5_count (wsV RX5 28 RX5 yX5_figureOf wsX5_figureOf) := goodIn_app (goodIn_of _ (by decide +kernel)) ggX5_count_X5_figureOf
theorem dX5_count_0 : decode cX5_count 0 = .ok (.aload_n 0, 1) := by decide +kernel
theorem dX5_count_1 : decode cX5_count 1 = .ok (.iload_n 1, 1) := by decide +kernel
theorem dX5_count_2 : decode cX5_count 2 = .ok (.invokevirtual 28, 3) := by decide +kernel
theorem dX5_count_5 : decode cX5_count 5 = .ok (.astore_n 3, 1) := by decide +kernel
theorem dX5_count_6 : decode cX5_count 6 = .ok (.iload_n 2, 1) := by decide +kernel
theorem dX5_count_7 : decode cX5_count 7 = .ok (.tableswitch 40 0 2 #[25, 30, 35], 25) := by decide +kernel
theorem dX5_count_32 : decode cX5_count 32 = .ok (.aload_n 3, 1) := by decide +kernel
theorem dX5_count_33 : decode cX5_count 33 = .ok (.getfield 127, 3) := by decide +kernel
theorem dX5_count_36 : decode cX5_count 36 = .ok (.ireturn, 1) := by decide +kernel
theorem dX5_count_37 : decode cX5_count 37 = .ok (.aload_n 3, 1) := by decide +kernel
theorem dX5_count_38 : decode cX5_count 38 = .ok (.getfield 50, 3) := by decide +kernel
theorem dX5_count_41 : decode cX5_count 41 = .ok (.ireturn, 1) := by decide +kernel
theorem dX5_count_42 : decode cX5_count 42 = .ok (.aload_n 3, 1) := by decide +kernel
theorem dX5_count_43 : decode cX5_count 43 = .ok (.getfield 39, 3) := by decide +kernel
theorem dX5_count_46 : decode cX5_count 46 = .ok (.ireturn, 1) := by decide +kernel
theorem dX5_count_47 : decode cX5_count 47 = .ok (.new 85, 3) := by decide +kernel
theorem dX5_count_50 : decode cX5_count 50 = .ok (.dup, 1) := by decide +kernel
theorem dX5_count_51 : decode cX5_count 51 = .ok (.ldc 130, 2) := by decide +kernel
theorem dX5_count_53 : decode cX5_count 53 = .ok (.invokespecial 89, 3) := by decide +kernel
theorem dX5_count_56 : decode cX5_count 56 = .ok (.athrow, 1) := by decide +kernel
theorem dX5_figureOf_0 : decode cX5_figureOf 0 = .ok (.iload_n 1, 1) := by decide +kernel
theorem dX5_figureOf_1 : decode cX5_figureOf 1 = .ok (.ifCond .eq 18, 3) := by decide +kernel
theorem dX5_figureOf_4 : decode cX5_figureOf 4 = .ok (.iload_n 1, 1) := by decide +kernel
theorem dX5_figureOf_5 : decode cX5_figureOf 5 = .ok (.iconst 1, 1) := by decide +kernel
theorem dX5_figureOf_6 : decode cX5_figureOf 6 = .ok (.if_icmp .eq 13, 3) := by decide +kernel
theorem dX5_figureOf_9 : decode cX5_figureOf 9 = .ok (.new 85, 3) := by decide +kernel
theorem dX5_figureOf_12 : decode cX5_figureOf 12 = .ok (.dup, 1) := by decide +kernel
theorem dX5_figureOf_13 : decode cX5_figureOf 13 = .ok (.ldc 132, 2) := by decide +kernel
theorem dX5_figureOf_15 : decode cX5_figureOf 15 = .ok (.invokespecial 89, 3) := by decide +kernel
theorem dX5_figureOf_18 : decode cX5_figureOf 18 = .ok (.athrow, 1) := by decide +kernel
theorem dX5_figureOf_19 : decode cX5_figureOf 19 = .ok (.iload_n 1, 1) := by decide +kernel
theorem dX5_figureOf_20 : decode cX5_figureOf 20 = .ok (.ifCond .ne 10, 3) := by decide +kernel
theorem dX5_figureOf_23 : decode cX5_figureOf 23 = .ok (.aload_n 0, 1) := by decide +kernel
theorem dX5_figureOf_24 : decode cX5_figureOf 24 = .ok (.getfield 10, 3) := by decide +kernel
theorem dX5_figureOf_27 : decode cX5_figureOf 27 = .ok (.goto 7, 3) := by decide +kernel
theorem dX5_figureOf_30 : decode cX5_figureOf 30 = .ok (.aload_n 0, 1) := by decide +kernel
theorem dX5_figureOf_31 : decode cX5_figureOf 31 = .ok (.getfield 16, 3) := by decide +kernel
theorem dX5_figureOf_34 : decode cX5_figureOf 34 = .ok (.areturn, 1) := by decide +kernel
theorem dX5_refuseFarPlace_0 : decode cX5_refuseFarPlace 0 = .ok (.iload_n 0, 1) := by decide +kernel
theorem dX5_refuseFarPlace_1 : decode cX5_refuseFarPlace 1 = .ok (.ldc 134, 2) := by decide +kernel
theorem dX5_refuseFarPlace_3 : decode cX5_refuseFarPlace 3 = .ok (.if_icmp .lt 21, 3) := by decide +kernel
theorem dX5_refuseFarPlace_6 : decode cX5_refuseFarPlace 6 = .ok (.iload_n 0, 1) := by decide +kernel
theorem dX5_refuseFarPlace_7 : decode cX5_refuseFarPlace 7 = .ok (.ldc 135, 2) := by decide +kernel
theorem dX5_refuseFarPlace_9 : decode cX5_refuseFarPlace 9 = .ok (.if_icmp .gt 15, 3) := by decide +kernel
theorem dX5_refuseFarPlace_12 : decode cX5_refuseFarPlace 12 = .ok (.iload_n 1, 1) := by decide +kernel
theorem dX5_refuseFarPlace_13 : decode cX5_refuseFarPlace 13 = .ok (.ldc 134, 2) := by decide +kernel
theorem dX5_refuseFarPlace_15 : decode cX5_refuseFarPlace 15 = .ok (.if_icmp .lt 9, 3) := by decide +kernel
theorem dX5_refuseFarPlace_18 : decode cX5_refuseFarPlace 18 = .ok (.iload_n 1, 1) := by decide +kernel
theorem dX5_refuseFarPlace_19 : decode cX5_refuseFarPlace 19 = .ok (.ldc 135, 2) := by decide +kernel
theorem dX5_refuseFarPlace_21 : decode cX5_refuseFarPlace 21 = .ok (.if_icmp .le 13, 3) := by decide +kernel
theorem dX5_refuseFarPlace_24 : decode cX5_refuseFarPlace 24 = .ok (.new 32, 3) := by decide +kernel
theorem dX5_refuseFarPlace_27 : decode cX5_refuseFarPlace 27 = .ok (.dup, 1) := by decide +kernel
theorem dX5_refuseFarPlace_28 : decode cX5_refuseFarPlace 28 = .ok (.ldc 136, 2) := by decide +kernel
theorem dX5_refuseFarPlace_30 : decode cX5_refuseFarPlace 30 = .ok (.invokespecial 36, 3) := by decide +kernel
theorem dX5_refuseFarPlace_33 : decode cX5_refuseFarPlace 33 = .ok (.athrow, 1) := by decide +kernel
theorem dX5_refuseFarPlace_34 : decode cX5_refuseFarPlace 34 = .ok (.return_, 1) := by decide +kernel
