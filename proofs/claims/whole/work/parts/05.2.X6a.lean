theorem dX6_init_0 : decode cX6_init 0 = .ok (.aload_n 0, 1) := by decide +kernel
theorem dX6_init_1 : decode cX6_init 1 = .ok (.invokespecial 1, 3) := by decide +kernel
theorem dX6_init_4 : decode cX6_init 4 = .ok (.aload_n 0, 1) := by decide +kernel
theorem dX6_init_5 : decode cX6_init 5 = .ok (.iconst 2, 1) := by decide +kernel
theorem dX6_init_6 : decode cX6_init 6 = .ok (.newarray .int, 2) := by decide +kernel
theorem dX6_init_8 : decode cX6_init 8 = .ok (.dup, 1) := by decide +kernel
theorem dX6_init_9 : decode cX6_init 9 = .ok (.iconst 0, 1) := by decide +kernel
theorem dX6_init_10 : decode cX6_init 10 = .ok (.iconst 1, 1) := by decide +kernel
theorem dX6_init_11 : decode cX6_init 11 = .ok (.iastore, 1) := by decide +kernel
theorem dX6_init_12 : decode cX6_init 12 = .ok (.dup, 1) := by decide +kernel
theorem dX6_init_13 : decode cX6_init 13 = .ok (.iconst 1, 1) := by decide +kernel
theorem dX6_init_14 : decode cX6_init 14 = .ok (.iconst 1, 1) := by decide +kernel
theorem dX6_init_15 : decode cX6_init 15 = .ok (.iastore, 1) := by decide +kernel
theorem dX6_init_16 : decode cX6_init 16 = .ok (.putfield 7, 3) := by decide +kernel
theorem dX6_init_19 : decode cX6_init 19 = .ok (.aload_n 0, 1) := by decide +kernel
theorem dX6_init_20 : decode cX6_init 20 = .ok (.iconst 2, 1) := by decide +kernel
theorem dX6_init_21 : decode cX6_init 21 = .ok (.newarray .int, 2) := by decide +kernel
theorem dX6_init_23 : decode cX6_init 23 = .ok (.putfield 13, 3) := by decide +kernel
theorem dX6_init_26 : decode cX6_init 26 = .ok (.aload_n 0, 1) := by decide +kernel
theorem dX6_init_27 : decode cX6_init 27 = .ok (.iconst 2, 1) := by decide +kernel
theorem dX6_init_28 : decode cX6_init 28 = .ok (.newarray .int, 2) := by decide +kernel
theorem dX6_init_30 : decode cX6_init 30 = .ok (.putfield 16, 3) := by decide +kernel
theorem dX6_init_33 : decode cX6_init 33 = .ok (.aload_n 0, 1) := by decide +kernel
theorem dX6_init_34 : decode cX6_init 34 = .ok (.sipush 2050, 3) := by decide +kernel
theorem dX6_init_37 : decode cX6_init 37 = .ok (.newarray .int, 2) := by decide +kernel
theorem dX6_init_39 : decode cX6_init 39 = .ok (.putfield 19, 3) := by decide +kernel
theorem dX6_init_42 : decode cX6_init 42 = .ok (.aload_n 0, 1) := by decide +kernel
theorem dX6_init_43 : decode cX6_init 43 = .ok (.sipush 4096, 3) := by decide +kernel
theorem dX6_init_46 : decode cX6_init 46 = .ok (.newarray .int, 2) := by decide +kernel
theorem dX6_init_48 : decode cX6_init 48 = .ok (.putfield 22, 3) := by decide +kernel
theorem dX6_init_51 : decode cX6_init 51 = .ok (.aload_n 0, 1) := by decide +kernel
theorem dX6_init_52 : decode cX6_init 52 = .ok (.sipush 4096, 3) := by decide +kernel
theorem dX6_init_55 : decode cX6_init 55 = .ok (.newarray .int, 2) := by decide +kernel
theorem dX6_init_57 : decode cX6_init 57 = .ok (.putfield 25, 3) := by decide +kernel
theorem dX6_init_60 : decode cX6_init 60 = .ok (.aload_n 0, 1) := by decide +kernel
theorem dX6_init_61 : decode cX6_init 61 = .ok (.sipush 4096, 3) := by decide +kernel
theorem dX6_init_64 : decode cX6_init 64 = .ok (.newarray .int, 2) := by decide +kernel
theorem dX6_init_66 : decode cX6_init 66 = .ok (.putfield 28, 3) := by decide +kernel
theorem dX6_init_69 : decode cX6_init 69 = .ok (.aload_n 0, 1) := by decide +kernel
theorem dX6_init_70 : decode cX6_init 70 = .ok (.sipush 4096, 3) := by decide +kernel
theorem dX6_init_73 : decode cX6_init 73 = .ok (.newarray .int, 2) := by decide +kernel
theorem dX6_init_75 : decode cX6_init 75 = .ok (.putfield 31, 3) := by decide +kernel
theorem dX6_init_78 : decode cX6_init 78 = .ok (.aload_n 0, 1) := by decide +kernel
theorem dX6_init_79 : decode cX6_init 79 = .ok (.sipush 4096, 3) := by decide +kernel
theorem dX6_init_82 : decode cX6_init 82 = .ok (.newarray .int, 2) := by decide +kernel
theorem dX6_init_84 : decode cX6_init 84 = .ok (.putfield 34, 3) := by decide +kernel
theorem dX6_init_87 : decode cX6_init 87 = .ok (.aload_n 0, 1) := by decide +kernel
theorem dX6_init_88 : decode cX6_init 88 = .ok (.bipush 9, 2) := by decide +kernel
theorem dX6_init_90 : decode cX6_init 90 = .ok (.newarray .int, 2) := by decide +kernel
theorem dX6_init_92 : decode cX6_init 92 = .ok (.putfield 37, 3) := by decide +kernel
theorem dX6_init_95 : decode cX6_init 95 = .ok (.aload_n 0, 1) := by decide +kernel
theorem dX6_init_96 : decode cX6_init 96 = .ok (.iconst 2, 1) := by decide +kernel
theorem dX6_init_97 : decode cX6_init 97 = .ok (.newarray .boolean, 2) := by decide +kernel
theorem dX6_init_99 : decode cX6_init 99 = .ok (.putfield 40, 3) := by decide +kernel
theorem dX6_init_102 : decode cX6_init 102 = .ok (.aload_n 0, 1) := by decide +kernel
theorem dX6_init_103 : decode cX6_init 103 = .ok (.sipush 192, 3) := by decide +kernel
theorem dX6_init_106 : decode cX6_init 106 = .ok (.newarray .long, 2) := by decide +kernel
theorem dX6_init_108 : decode cX6_init 108 = .ok (.putfield 44, 3) := by decide +kernel
theorem dX6_init_111 : decode cX6_init 111 = .ok (.aload_n 0, 1) := by decide +kernel
theorem dX6_init_112 : decode cX6_init 112 = .ok (.sipush 12400, 3) := by decide +kernel
theorem dX6_init_115 : decode cX6_init 115 = .ok (.newarray .long, 2) := by decide +kernel
theorem dX6_init_117 : decode cX6_init 117 = .ok (.putfield 48, 3) := by decide +kernel
theorem dX6_init_120 : decode cX6_init 120 = .ok (.aload_n 0, 1) := by decide +kernel
theorem dX6_init_121 : decode cX6_init 121 = .ok (.sipush 12400, 3) := by decide +kernel
theorem dX6_init_124 : decode cX6_init 124 = .ok (.newarray .long, 2) := by decide +kernel
theorem dX6_init_126 : decode cX6_init 126 = .ok (.putfield 51, 3) := by decide +kernel
theorem dX6_init_129 : decode cX6_init 129 = .ok (.return_, 1) := by decide +kernel
theorem dX6_thrown_0 : decode cX6_thrown 0 = .ok (.aload_n 0, 1) := by decide +kernel
theorem dX6_thrown_1 : decode cX6_thrown 1 = .ok (.getfield 54, 3) := by decide +kernel
theorem dX6_thrown_4 : decode cX6_thrown 4 = .ok (.ireturn, 1) := by decide +kernel
theorem dX6_fail_0 : decode cX6_fail 0 = .ok (.aload_n 0, 1) := by decide +kernel
theorem dX6_fail_1 : decode cX6_fail 1 = .ok (.iload_n 1, 1) := by decide +kernel
theorem dX6_fail_2 : decode cX6_fail 2 = .ok (.putfield 54, 3) := by decide +kernel
theorem dX6_fail_5 : decode cX6_fail 5 = .ok (.iconst 0, 1) := by decide +kernel
theorem dX6_fail_6 : decode cX6_fail 6 = .ok (.ireturn, 1) := by decide +kernel
theorem dX6_within_0 : decode cX6_within 0 = .ok (.iload_n 0, 1) := by decide +kernel
theorem dX6_within_1 : decode cX6_within 1 = .ok (.iload_n 1, 1) := by decide +kernel
theorem dX6_within_2 : decode cX6_within 2 = .ok (.if_icmp .lt 12, 3) := by decide +kernel
theorem dX6_within_5 : decode cX6_within 5 = .ok (.iload_n 0, 1) := by decide +kernel
theorem dX6_within_6 : decode cX6_within 6 = .ok (.iload_n 2, 1) := by decide +kernel
theorem dX6_within_7 : decode cX6_within 7 = .ok (.if_icmp .gt 7, 3) := by decide +kernel
theorem dX6_within_10 : decode cX6_within 10 = .ok (.iconst 1, 1) := by decide +kernel
theorem dX6_within_11 : decode cX6_within 11 = .ok (.goto 4, 3) := by decide +kernel
theorem dX6_within_14 : decode cX6_within 14 = .ok (.iconst 0, 1) := by decide +kernel
theorem dX6_within_15 : decode cX6_within 15 = .ok (.ireturn, 1) := by decide +kernel
set_option maxRecDepth 20000 in
theorem ggX6_isFar_X6_within : GoodIn wsX6_isFar wsX6_within := goodIn_r _ [6] (by decide +kernel) (by decide +kernel)
set_option maxRecDepth 20000 in
theorem gX6_isFar_X6_within : GoodIn wsX6_isFar (va_wsS RX6 60 yX6_within wsX6_within) := goodIn_app (goodIn_of _ (by decide +kernel)) ggX6_isFar_X6_within
theorem dX6_isFar_0 : decode cX6_isFar 0 = .ok (.iload_n 0, 1) := by decide +kernel
theorem dX6_isFar_1 : decode cX6_isFar 1 = .ok (.ldc 58, 2) := by decide +kernel
theorem dX6_isFar_3 : decode cX6_isFar 3 = .ok (.ldc 59, 2) := by decide +kernel
theorem dX6_isFar_5 : decode cX6_isFar 5 = .ok (.invokestatic 60, 3) := by decide +kernel
theorem dX6_isFar_8 : decode cX6_isFar 8 = .ok (.ifCond .ne 7, 3) := by decide +kernel
theorem dX6_isFar_11 : decode cX6_isFar 11 = .ok (.iconst 1, 1) := by decide +kernel
theorem dX6_isFar_12 : decode cX6_isFar 12 = .ok (.goto 4, 3) := by decide +kernel
theorem dX6_isFar_15 : decode cX6_isFar 15 = .ok (.iconst 0, 1) := by decide +kernel
theorem dX6_isFar_16 : decode cX6_isFar 16 = .ok (.ireturn, 1) := by decide +kernel
set_option maxRecDepth 20000 in
theorem ggX6_isShape_X6_within : GoodIn wsX6_isShape wsX6_within := goodIn_r _ [4] (by decide +kernel) (by decide +kernel)
set_option maxRecDepth 20000 in
theorem gX6_isShape_X6_within : GoodIn wsX6_isShape (va_wsS RX6 60 yX6_within wsX6_within) := goodIn_app (goodIn_of _ (by decide +kernel)) ggX6_isShape_X6_within
theorem dX6_isShape_0 : decode cX6_isShape 0 = .ok (.iload_n 0, 1) := by decide +kernel
theorem dX6_isShape_1 : decode cX6_isShape 1 = .ok (.iconst 0, 1) := by decide +kernel
theorem dX6_isShape_2 : decode cX6_isShape 2 = .ok (.iconst 1, 1) := by decide +kernel
theorem dX6_isShape_3 : decode cX6_isShape 3 = .ok (.invokestatic 60, 3) := by decide +kernel
theorem dX6_isShape_6 : decode cX6_isShape 6 = .ok (.ireturn, 1) := by decide +kernel
set_option maxRecDepth 20000 in
theorem ggX6_shape_X6_isShape : GoodIn wsX6_shape wsX6_isShape := goodIn_r _ [8, 9, 10, 7, 11] (by decide +kernel) (by decide +kernel)
set_option maxRecDepth 20000 in
theorem gX6_shape_X6_isShape : GoodIn wsX6_shape (va_wsS RX6 64 yX6_isShape wsX6_isShape) := goodIn_app (goodIn_of _ (by decide +kernel)) ggX6_shape_X6_isShape
set_option maxRecDepth 20000 in
theorem ggX6_shape_X6_fail : GoodIn wsX6_shape wsX6_fail := goodIn_r _ [15, 1, 16, 17, 18, 19, 20, 21, 22, 23, 24, 25, 26, 27, 28, 29, 30, 31, 32, 33, 34, 35, 36] (by decide +kernel) (by decide +kernel)
set_option maxRecDepth 20000 in
theorem gX6_shape_X6_fail : GoodIn wsX6_shape (wsV RX6 68 RX6 yX6_fail wsX6_fail) := goodIn_app (goodIn_of _ (by decide +kernel)) ggX6_shape_X6_fail
set_option maxRecDepth 20000 in
theorem ggX6_shape_X6_within : GoodIn wsX6_shape wsX6_within := goodIn_r _ [11] (by decide +kernel) (by decide +kernel)
set_option maxRecDepth 20000 in
theorem gX6_shape_X6_within : GoodIn wsX6_shape (va_wsS RX6 60 yX6_within wsX6_within) := goodIn_app (goodIn_of _ (by decide +kernel)) ggX6_shape_X6_within
theorem dX6_shape_0 : decode cX6_shape 0 = .ok (.aload_n 0, 1) := by decide +kernel
theorem dX6_shape_1 : decode cX6_shape 1 = .ok (.iconst 0, 1) := by decide +kernel
theorem dX6_shape_2 : decode cX6_shape 2 = .ok (.putfield 54, 3) := by decide +kernel
theorem dX6_shape_5 : decode cX6_shape 5 = .ok (.iload_n 1, 1) := by decide +kernel
theorem dX6_shape_6 : decode cX6_shape 6 = .ok (.invokestatic 64, 3) := by decide +kernel
theorem dX6_shape_9 : decode cX6_shape 9 = .ok (.ifCond .ne 9, 3) := by decide +kernel
theorem dX6_shape_12 : decode cX6_shape 12 = .ok (.aload_n 0, 1) := by decide +kernel
theorem dX6_shape_13 : decode cX6_shape 13 = .ok (.iconst 1, 1) := by decide +kernel
theorem dX6_shape_14 : decode cX6_shape 14 = .ok (.invokevirtual 68, 3) := by decide +kernel
theorem dX6_shape_17 : decode cX6_shape 17 = .ok (.ireturn, 1) := by decide +kernel
theorem dX6_shape_18 : decode cX6_shape 18 = .ok (.iload_n 2, 1) := by decide +kernel
theorem dX6_shape_19 : decode cX6_shape 19 = .ok (.iconst 1, 1) := by decide +kernel
theorem dX6_shape_20 : decode cX6_shape 20 = .ok (.iconst 3, 1) := by decide +kernel
theorem dX6_shape_21 : decode cX6_shape 21 = .ok (.invokestatic 60, 3) := by decide +kernel
theorem dX6_shape_24 : decode cX6_shape 24 = .ok (.ifCond .ne 9, 3) := by decide +kernel
theorem dX6_shape_27 : decode cX6_shape 27 = .ok (.aload_n 0, 1) := by decide +kernel
theorem dX6_shape_28 : decode cX6_shape 28 = .ok (.iconst 2, 1) := by decide +kernel
theorem dX6_shape_29 : decode cX6_shape 29 = .ok (.invokevirtual 68, 3) := by decide +kernel
theorem dX6_shape_32 : decode cX6_shape 32 = .ok (.ireturn, 1) := by decide +kernel
theorem dX6_shape_33 : decode cX6_shape 33 = .ok (.aload_n 0, 1) := by decide +kernel
theorem dX6_shape_34 : decode cX6_shape 34 = .ok (.getfield 13, 3) := by decide +kernel
theorem dX6_shape_37 : decode cX6_shape 37 = .ok (.iload_n 1, 1) := by decide +kernel
theorem dX6_shape_38 : decode cX6_shape 38 = .ok (.iaload, 1) := by decide +kernel
theorem dX6_shape_39 : decode cX6_shape 39 = .ok (.istore_n 3, 1) := by decide +kernel
theorem dX6_shape_40 : decode cX6_shape 40 = .ok (.aload_n 0, 1) := by decide +kernel
theorem dX6_shape_41 : decode cX6_shape 41 = .ok (.getfield 7, 3) := by decide +kernel
theorem dX6_shape_44 : decode cX6_shape 44 = .ok (.iload_n 1, 1) := by decide +kernel
theorem dX6_shape_45 : decode cX6_shape 45 = .ok (.iload_n 2, 1) := by decide +kernel
theorem dX6_shape_46 : decode cX6_shape 46 = .ok (.iastore, 1) := by decide +kernel
theorem dX6_shape_47 : decode cX6_shape 47 = .ok (.aload_n 0, 1) := by decide +kernel
theorem dX6_shape_48 : decode cX6_shape 48 = .ok (.getfield 13, 3) := by decide +kernel
theorem dX6_shape_51 : decode cX6_shape 51 = .ok (.iload_n 1, 1) := by decide +kernel
theorem dX6_shape_52 : decode cX6_shape 52 = .ok (.iconst 0, 1) := by decide +kernel
theorem dX6_shape_53 : decode cX6_shape 53 = .ok (.iastore, 1) := by decide +kernel
theorem dX6_shape_54 : decode cX6_shape 54 = .ok (.aload_n 0, 1) := by decide +kernel
theorem dX6_shape_55 : decode cX6_shape 55 = .ok (.getfield 16, 3) := by decide +kernel
theorem dX6_shape_58 : decode cX6_shape 58 = .ok (.iload_n 1, 1) := by decide +kernel
theorem dX6_shape_59 : decode cX6_shape 59 = .ok (.iconst 0, 1) := by decide +kernel
theorem dX6_shape_60 : decode cX6_shape 60 = .ok (.iastore, 1) := by decide +kernel
theorem dX6_shape_61 : decode cX6_shape 61 = .ok (.iload_n 3, 1) := by decide +kernel
theorem dX6_shape_62 : decode cX6_shape 62 = .ok (.ireturn, 1) := by decide +kernel
set_option maxRecDepth 20000 in
theorem ggX6_part_X6_isShape : GoodIn wsX6_part wsX6_isShape := goodIn_r _ [8, 9, 10, 7, 11] (by decide +kernel) (by decide +kernel)
set_option maxRecDepth 20000 in
theorem gX6_part_X6_isShape : GoodIn wsX6_part (va_wsS RX6 64 yX6_isShape wsX6_isShape) := goodIn_app (goodIn_of _ (by decide +kernel)) ggX6_part_X6_isShape
set_option maxRecDepth 20000 in
theorem ggX6_part_X6_fail : GoodIn wsX6_part wsX6_fail := goodIn_r _ [15, 1, 16, 17, 18, 19, 20, 21, 22, 23, 24, 25, 26, 27, 28, 29, 30, 31, 32, 33, 34, 35, 36] (by decide +kernel) (by decide +kernel)
set_option maxRecDepth 20000 in
theorem gX6_part_X6_fail : GoodIn wsX6_part (wsV RX6 68 RX6 yX6_fail wsX6_fail) := goodIn_app (goodIn_of _ (by decide +kernel)) ggX6_part_X6_fail
theorem dX6_part_0 : decode cX6_part 0 = .ok (.aload_n 0, 1) := by decide +kernel
theorem dX6_part_1 : decode cX6_part 1 = .ok (.iconst 0, 1) := by decide +kernel
theorem dX6_part_2 : decode cX6_part 2 = .ok (.putfield 54, 3) := by decide +kernel
theorem dX6_part_5 : decode cX6_part 5 = .ok (.iload_n 1, 1) := by decide +kernel
theorem dX6_part_6 : decode cX6_part 6 = .ok (.invokestatic 64, 3) := by decide +kernel
theorem dX6_part_9 : decode cX6_part 9 = .ok (.ifCond .ne 9, 3) := by decide +kernel
theorem dX6_part_12 : decode cX6_part 12 = .ok (.aload_n 0, 1) := by decide +kernel
theorem dX6_part_13 : decode cX6_part 13 = .ok (.iconst 1, 1) := by decide +kernel
theorem dX6_part_14 : decode cX6_part 14 = .ok (.invokevirtual 68, 3) := by decide +kernel
theorem dX6_part_17 : decode cX6_part 17 = .ok (.ireturn, 1) := by decide +kernel
theorem dX6_part_18 : decode cX6_part 18 = .ok (.aload_n 0, 1) := by decide +kernel
theorem dX6_part_19 : decode cX6_part 19 = .ok (.getfield 16, 3) := by decide +kernel
theorem dX6_part_22 : decode cX6_part 22 = .ok (.iload_n 1, 1) := by decide +kernel
theorem dX6_part_23 : decode cX6_part 23 = .ok (.iaload, 1) := by decide +kernel
theorem dX6_part_24 : decode cX6_part 24 = .ok (.sipush 1024, 3) := by decide +kernel
theorem dX6_part_27 : decode cX6_part 27 = .ok (.if_icmp .ne 9, 3) := by decide +kernel
theorem dX6_part_30 : decode cX6_part 30 = .ok (.aload_n 0, 1) := by decide +kernel
theorem dX6_part_31 : decode cX6_part 31 = .ok (.iconst 2, 1) := by decide +kernel
theorem dX6_part_32 : decode cX6_part 32 = .ok (.invokevirtual 68, 3) := by decide +kernel
theorem dX6_part_35 : decode cX6_part 35 = .ok (.ireturn, 1) := by decide +kernel
theorem dX6_part_36 : decode cX6_part 36 = .ok (.aload_n 0, 1) := by decide +kernel
theorem dX6_part_37 : decode cX6_part 37 = .ok (.getfield 19, 3) := by decide +kernel
theorem dX6_part_40 : decode cX6_part 40 = .ok (.sipush 1025, 3) := by decide +kernel
theorem dX6_part_43 : decode cX6_part 43 = .ok (.iload_n 1, 1) := by decide +kernel
theorem dX6_part_44 : decode cX6_part 44 = .ok (.imul, 1) := by decide +kernel
theorem dX6_part_45 : decode cX6_part 45 = .ok (.aload_n 0, 1) := by decide +kernel
theorem dX6_part_46 : decode cX6_part 46 = .ok (.getfield 16, 3) := by decide +kernel
theorem dX6_part_49 : decode cX6_part 49 = .ok (.iload_n 1, 1) := by decide +kernel
theorem dX6_part_50 : decode cX6_part 50 = .ok (.iaload, 1) := by decide +kernel
theorem dX6_part_51 : decode cX6_part 51 = .ok (.iadd, 1) := by decide +kernel
theorem dX6_part_52 : decode cX6_part 52 = .ok (.aload_n 0, 1) := by decide +kernel
theorem dX6_part_53 : decode cX6_part 53 = .ok (.getfield 13, 3) := by decide +kernel
theorem dX6_part_56 : decode cX6_part 56 = .ok (.iload_n 1, 1) := by decide +kernel
theorem dX6_part_57 : decode cX6_part 57 = .ok (.iaload, 1) := by decide +kernel
theorem dX6_part_58 : decode cX6_part 58 = .ok (.iastore, 1) := by decide +kernel
theorem dX6_part_59 : decode cX6_part 59 = .ok (.aload_n 0, 1) := by decide +kernel
theorem dX6_part_60 : decode cX6_part 60 = .ok (.getfield 16, 3) := by decide +kernel
theorem dX6_part_63 : decode cX6_part 63 = .ok (.iload_n 1, 1) := by decide +kernel
theorem dX6_part_64 : decode cX6_part 64 = .ok (.dup2, 1) := by decide +kernel
theorem dX6_part_65 : decode cX6_part 65 = .ok (.iaload, 1) := by decide +kernel
theorem dX6_part_66 : decode cX6_part 66 = .ok (.iconst 1, 1) := by decide +kernel
theorem dX6_part_67 : decode cX6_part 67 = .ok (.iadd, 1) := by decide +kernel
theorem dX6_part_68 : decode cX6_part 68 = .ok (.iastore, 1) := by decide +kernel
theorem dX6_part_69 : decode cX6_part 69 = .ok (.aload_n 0, 1) := by decide +kernel
theorem dX6_part_70 : decode cX6_part 70 = .ok (.getfield 16, 3) := by decide +kernel
theorem dX6_part_73 : decode cX6_part 73 = .ok (.iload_n 1, 1) := by decide +kernel
theorem dX6_part_74 : decode cX6_part 74 = .ok (.iaload, 1) := by decide +kernel
theorem dX6_part_75 : decode cX6_part 75 = .ok (.ireturn, 1) := by decide +kernel
set_option maxRecDepth 20000 in
theorem ggX6_point_X6_isShape : GoodIn wsX6_point wsX6_isShape := goodIn_r _ [9, 10, 11, 8, 12] (by decide +kernel) (by decide +kernel)
set_option maxRecDepth 20000 in
theorem gX6_point_X6_isShape : GoodIn wsX6_point (va_wsS RX6 64 yX6_isShape wsX6_isShape) := goodIn_app (goodIn_of _ (by decide +kernel)) ggX6_point_X6_isShape
set_option maxRecDepth 20000 in
theorem ggX6_point_X6_fail : GoodIn wsX6_point wsX6_fail := goodIn_r _ [16, 1, 22, 23, 24, 25, 26, 27, 28, 29, 30, 31, 32, 33, 34, 35, 36, 37, 38, 39, 40, 41, 42] (by decide +kernel) (by decide +kernel)
set_option maxRecDepth 20000 in
theorem gX6_point_X6_fail : GoodIn wsX6_point (wsV RX6 68 RX6 yX6_fail wsX6_fail) := goodIn_app (goodIn_of _ (by decide +kernel)) ggX6_point_X6_fail
set_option maxRecDepth 20000 in
theorem ggX6_point_X6_isFar : GoodIn wsX6_point wsX6_isFar := goodIn_r _ [19, 20, 21, 10, 11, 8, 12] (by decide +kernel) (by decide +kernel)
set_option maxRecDepth 20000 in
theorem gX6_point_X6_isFar : GoodIn wsX6_point (va_wsS RX6 72 yX6_isFar wsX6_isFar) := goodIn_app (goodIn_of _ (by decide +kernel)) ggX6_point_X6_isFar
theorem dX6_point_0 : decode cX6_point 0 = .ok (.aload_n 0, 1) := by decide +kernel
theorem dX6_point_1 : decode cX6_point 1 = .ok (.iconst 0, 1) := by decide +kernel
theorem dX6_point_2 : decode cX6_point 2 = .ok (.putfield 54, 3) := by decide +kernel
theorem dX6_point_5 : decode cX6_point 5 = .ok (.iload_n 1, 1) := by decide +kernel
theorem dX6_point_6 : decode cX6_point 6 = .ok (.invokestatic 64, 3) := by decide +kernel
theorem dX6_point_9 : decode cX6_point 9 = .ok (.ifCond .ne 9, 3) := by decide +kernel
theorem dX6_point_12 : decode cX6_point 12 = .ok (.aload_n 0, 1) := by decide +kernel
theorem dX6_point_13 : decode cX6_point 13 = .ok (.iconst 1, 1) := by decide +kernel
theorem dX6_point_14 : decode cX6_point 14 = .ok (.invokevirtual 68, 3) := by decide +kernel
theorem dX6_point_17 : decode cX6_point 17 = .ok (.ireturn, 1) := by decide +kernel
theorem dX6_point_18 : decode cX6_point 18 = .ok (.iload_n 2, 1) := by decide +kernel
theorem dX6_point_19 : decode cX6_point 19 = .ok (.invokestatic 72, 3) := by decide +kernel
theorem dX6_point_22 : decode cX6_point 22 = .ok (.ifCond .ne 10, 3) := by decide +kernel
theorem dX6_point_25 : decode cX6_point 25 = .ok (.iload_n 3, 1) := by decide +kernel
theorem dX6_point_26 : decode cX6_point 26 = .ok (.invokestatic 72, 3) := by decide +kernel
theorem dX6_point_29 : decode cX6_point 29 = .ok (.ifCond .eq 9, 3) := by decide +kernel
theorem dX6_point_32 : decode cX6_point 32 = .ok (.aload_n 0, 1) := by decide +kernel
theorem dX6_point_33 : decode cX6_point 33 = .ok (.iconst 2, 1) := by decide +kernel
theorem dX6_point_34 : decode cX6_point 34 = .ok (.invokevirtual 68, 3) := by decide +kernel
theorem dX6_point_37 : decode cX6_point 37 = .ok (.ireturn, 1) := by decide +kernel
theorem dX6_point_38 : decode cX6_point 38 = .ok (.aload_n 0, 1) := by decide +kernel
theorem dX6_point_39 : decode cX6_point 39 = .ok (.getfield 16, 3) := by decide +kernel
theorem dX6_point_42 : decode cX6_point 42 = .ok (.iload_n 1, 1) := by decide +kernel
theorem dX6_point_43 : decode cX6_point 43 = .ok (.iaload, 1) := by decide +kernel
theorem dX6_point_44 : decode cX6_point 44 = .ok (.ifCond .eq 15, 3) := by decide +kernel
theorem dX6_point_47 : decode cX6_point 47 = .ok (.aload_n 0, 1) := by decide +kernel
theorem dX6_point_48 : decode cX6_point 48 = .ok (.getfield 13, 3) := by decide +kernel
theorem dX6_point_51 : decode cX6_point 51 = .ok (.iload_n 1, 1) := by decide +kernel
theorem dX6_point_52 : decode cX6_point 52 = .ok (.iaload, 1) := by decide +kernel
theorem dX6_point_53 : decode cX6_point 53 = .ok (.sipush 2048, 3) := by decide +kernel
theorem dX6_point_56 : decode cX6_point 56 = .ok (.if_icmp .ne 9, 3) := by decide +kernel
theorem dX6_point_59 : decode cX6_point 59 = .ok (.aload_n 0, 1) := by decide +kernel
theorem dX6_point_60 : decode cX6_point 60 = .ok (.iconst 3, 1) := by decide +kernel
theorem dX6_point_61 : decode cX6_point 61 = .ok (.invokevirtual 68, 3) := by decide +kernel
theorem dX6_point_64 : decode cX6_point 64 = .ok (.ireturn, 1) := by decide +kernel
theorem dX6_point_65 : decode cX6_point 65 = .ok (.aload_n 0, 1) := by decide +kernel
theorem dX6_point_66 : decode cX6_point 66 = .ok (.getfield 22, 3) := by decide +kernel
theorem dX6_point_69 : decode cX6_point 69 = .ok (.sipush 2048, 3) := by decide +kernel
theorem dX6_point_72 : decode cX6_point 72 = .ok (.iload_n 1, 1) := by decide +kernel
theorem dX6_point_73 : decode cX6_point 73 = .ok (.imul, 1) := by decide +kernel
theorem dX6_point_74 : decode cX6_point 74 = .ok (.aload_n 0, 1) := by decide +kernel
theorem dX6_point_75 : decode cX6_point 75 = .ok (.getfield 13, 3) := by decide +kernel
theorem dX6_point_78 : decode cX6_point 78 = .ok (.iload_n 1, 1) := by decide +kernel
theorem dX6_point_79 : decode cX6_point 79 = .ok (.iaload, 1) := by decide +kernel
theorem dX6_point_80 : decode cX6_point 80 = .ok (.iadd, 1) := by decide +kernel
theorem dX6_point_81 : decode cX6_point 81 = .ok (.iload_n 2, 1) := by decide +kernel
theorem dX6_point_82 : decode cX6_point 82 = .ok (.iastore, 1) := by decide +kernel
theorem dX6_point_83 : decode cX6_point 83 = .ok (.aload_n 0, 1) := by decide +kernel
theorem dX6_point_84 : decode cX6_point 84 = .ok (.getfield 25, 3) := by decide +kernel
theorem dX6_point_87 : decode cX6_point 87 = .ok (.sipush 2048, 3) := by decide +kernel
theorem dX6_point_90 : decode cX6_point 90 = .ok (.iload_n 1, 1) := by decide +kernel
theorem dX6_point_91 : decode cX6_point 91 = .ok (.imul, 1) := by decide +kernel
theorem dX6_point_92 : decode cX6_point 92 = .ok (.aload_n 0, 1) := by decide +kernel
theorem dX6_point_93 : decode cX6_point 93 = .ok (.getfield 13, 3) := by decide +kernel
theorem dX6_point_96 : decode cX6_point 96 = .ok (.iload_n 1, 1) := by decide +kernel
theorem dX6_point_97 : decode cX6_point 97 = .ok (.iaload, 1) := by decide +kernel
theorem dX6_point_98 : decode cX6_point 98 = .ok (.iadd, 1) := by decide +kernel
theorem dX6_point_99 : decode cX6_point 99 = .ok (.iload_n 3, 1) := by decide +kernel
theorem dX6_point_100 : decode cX6_point 100 = .ok (.iastore, 1) := by decide +kernel
theorem dX6_point_101 : decode cX6_point 101 = .ok (.aload_n 0, 1) := by decide +kernel
theorem dX6_point_102 : decode cX6_point 102 = .ok (.getfield 13, 3) := by decide +kernel
theorem dX6_point_105 : decode cX6_point 105 = .ok (.iload_n 1, 1) := by decide +kernel
theorem dX6_point_106 : decode cX6_point 106 = .ok (.dup2, 1) := by decide +kernel
theorem dX6_point_107 : decode cX6_point 107 = .ok (.iaload, 1) := by decide +kernel
theorem dX6_point_108 : decode cX6_point 108 = .ok (.iconst 1, 1) := by decide +kernel
theorem dX6_point_109 : decode cX6_point 109 = .ok (.iadd, 1) := by decide +kernel
theorem dX6_point_110 : decode cX6_point 110 = .ok (.iastore, 1) := by decide +kernel
theorem dX6_point_111 : decode cX6_point 111 = .ok (.aload_n 0, 1) := by decide +kernel
theorem dX6_point_112 : decode cX6_point 112 = .ok (.getfield 13, 3) := by decide +kernel
theorem dX6_point_115 : decode cX6_point 115 = .ok (.iload_n 1, 1) := by decide +kernel
theorem dX6_point_116 : decode cX6_point 116 = .ok (.iaload, 1) := by decide +kernel
theorem dX6_point_117 : decode cX6_point 117 = .ok (.ireturn, 1) := by decide +kernel
theorem dX6_first_0 : decode cX6_first 0 = .ok (.sipush 2048, 3) := by decide +kernel
theorem dX6_first_3 : decode cX6_first 3 = .ok (.iload_n 1, 1) := by decide +kernel
theorem dX6_first_4 : decode cX6_first 4 = .ok (.imul, 1) := by decide +kernel
theorem dX6_first_5 : decode cX6_first 5 = .ok (.aload_n 0, 1) := by decide +kernel
theorem dX6_first_6 : decode cX6_first 6 = .ok (.getfield 19, 3) := by decide +kernel
theorem dX6_first_9 : decode cX6_first 9 = .ok (.sipush 1025, 3) := by decide +kernel
theorem dX6_first_12 : decode cX6_first 12 = .ok (.iload_n 1, 1) := by decide +kernel
theorem dX6_first_13 : decode cX6_first 13 = .ok (.imul, 1) := by decide +kernel
theorem dX6_first_14 : decode cX6_first 14 = .ok (.iload_n 2, 1) := by decide +kernel
theorem dX6_first_15 : decode cX6_first 15 = .ok (.iadd, 1) := by decide +kernel
theorem dX6_first_16 : decode cX6_first 16 = .ok (.iaload, 1) := by decide +kernel
theorem dX6_first_17 : decode cX6_first 17 = .ok (.iadd, 1) := by decide +kernel
theorem dX6_first_18 : decode cX6_first 18 = .ok (.ireturn, 1) := by decide +kernel
theorem dX6_end_0 : decode cX6_end 0 = .ok (.sipush 2048, 3) := by decide +kernel
theorem dX6_end_3 : decode cX6_end 3 = .ok (.iload_n 1, 1) := by decide +kernel
theorem dX6_end_4 : decode cX6_end 4 = .ok (.imul, 1) := by decide +kernel
theorem dX6_end_5 : decode cX6_end 5 = .ok (.iload_n 2, 1) := by decide +kernel
theorem dX6_end_6 : decode cX6_end 6 = .ok (.iconst 1, 1) := by decide +kernel
theorem dX6_end_7 : decode cX6_end 7 = .ok (.iadd, 1) := by decide +kernel
theorem dX6_end_8 : decode cX6_end 8 = .ok (.aload_n 0, 1) := by decide +kernel
theorem dX6_end_9 : decode cX6_end 9 = .ok (.getfield 16, 3) := by decide +kernel
theorem dX6_end_12 : decode cX6_end 12 = .ok (.iload_n 1, 1) := by decide +kernel
theorem dX6_end_13 : decode cX6_end 13 = .ok (.iaload, 1) := by decide +kernel
theorem dX6_end_14 : decode cX6_end 14 = .ok (.if_icmp .ge 20, 3) := by decide +kernel
theorem dX6_end_17 : decode cX6_end 17 = .ok (.aload_n 0, 1) := by decide +kernel
theorem dX6_end_18 : decode cX6_end 18 = .ok (.getfield 19, 3) := by decide +kernel
theorem dX6_end_21 : decode cX6_end 21 = .ok (.sipush 1025, 3) := by decide +kernel
theorem dX6_end_24 : decode cX6_end 24 = .ok (.iload_n 1, 1) := by decide +kernel
theorem dX6_end_25 : decode cX6_end 25 = .ok (.imul, 1) := by decide +kernel
theorem dX6_end_26 : decode cX6_end 26 = .ok (.iload_n 2, 1) := by decide +kernel
theorem dX6_end_27 : decode cX6_end 27 = .ok (.iadd, 1) := by decide +kernel
theorem dX6_end_28 : decode cX6_end 28 = .ok (.iconst 1, 1) := by decide +kernel
theorem dX6_end_29 : decode cX6_end 29 = .ok (.iadd, 1) := by decide +kernel
theorem dX6_end_30 : decode cX6_end 30 = .ok (.iaload, 1) := by decide +kernel
theorem dX6_end_31 : decode cX6_end 31 = .ok (.goto 9, 3) := by decide +kernel
theorem dX6_end_34 : decode cX6_end 34 = .ok (.aload_n 0, 1) := by decide +kernel
theorem dX6_end_35 : decode cX6_end 35 = .ok (.getfield 13, 3) := by decide +kernel
theorem dX6_end_38 : decode cX6_end 38 = .ok (.iload_n 1, 1) := by decide +kernel
theorem dX6_end_39 : decode cX6_end 39 = .ok (.iaload, 1) := by decide +kernel
theorem dX6_end_40 : decode cX6_end 40 = .ok (.iadd, 1) := by decide +kernel
theorem dX6_end_41 : decode cX6_end 41 = .ok (.ireturn, 1) := by decide +kernel
theorem dX6_alike_0 : decode cX6_alike 0 = .ok (.aload_n 0, 1) := by decide +kernel
theorem dX6_alike_1 : decode cX6_alike 1 = .ok (.getfield 22, 3) := by decide +kernel
theorem dX6_alike_4 : decode cX6_alike 4 = .ok (.iload_n 1, 1) := by decide +kernel
theorem dX6_alike_5 : decode cX6_alike 5 = .ok (.iaload, 1) := by decide +kernel
theorem dX6_alike_6 : decode cX6_alike 6 = .ok (.aload_n 0, 1) := by decide +kernel
theorem dX6_alike_7 : decode cX6_alike 7 = .ok (.getfield 22, 3) := by decide +kernel
theorem dX6_alike_10 : decode cX6_alike 10 = .ok (.iload_n 2, 1) := by decide +kernel
theorem dX6_alike_11 : decode cX6_alike 11 = .ok (.iaload, 1) := by decide +kernel
theorem dX6_alike_12 : decode cX6_alike 12 = .ok (.if_icmp .ne 22, 3) := by decide +kernel
theorem dX6_alike_15 : decode cX6_alike 15 = .ok (.aload_n 0, 1) := by decide +kernel
theorem dX6_alike_16 : decode cX6_alike 16 = .ok (.getfield 25, 3) := by decide +kernel
theorem dX6_alike_19 : decode cX6_alike 19 = .ok (.iload_n 1, 1) := by decide +kernel
theorem dX6_alike_20 : decode cX6_alike 20 = .ok (.iaload, 1) := by decide +kernel
theorem dX6_alike_21 : decode cX6_alike 21 = .ok (.aload_n 0, 1) := by decide +kernel
theorem dX6_alike_22 : decode cX6_alike 22 = .ok (.getfield 25, 3) := by decide +kernel
theorem dX6_alike_25 : decode cX6_alike 25 = .ok (.iload_n 2, 1) := by decide +kernel
theorem dX6_alike_26 : decode cX6_alike 26 = .ok (.iaload, 1) := by decide +kernel
theorem dX6_alike_27 : decode cX6_alike 27 = .ok (.if_icmp .ne 7, 3) := by decide +kernel
theorem dX6_alike_30 : decode cX6_alike 30 = .ok (.iconst 1, 1) := by decide +kernel
theorem dX6_alike_31 : decode cX6_alike 31 = .ok (.goto 4, 3) := by decide +kernel
theorem dX6_alike_34 : decode cX6_alike 34 = .ok (.iconst 0, 1) := by decide +kernel
theorem dX6_alike_35 : decode cX6_alike 35 = .ok (.ireturn, 1) := by decide +kernel
set_option maxRecDepth 20000 in
theorem ggX6_join_X6_alike : GoodIn wsX6_join wsX6_alike := goodIn_r _ [9, 10, 11, 12, 13, 14, 15, 16, 17, 18, 19, 20, 21, 22, 23, 24, 25, 26, 27, 28, 29, 30, 31, 32] (by decide +kernel) (by decide +kernel)
set_option maxRecDepth 20000 in
theorem gX6_join_X6_alike : GoodIn wsX6_join (wsV RX6 75 RX6 yX6_alike wsX6_alike) := goodIn_app (goodIn_of _ (by decide +kernel)) ggX6_join_X6_alike
theorem dX6_join_0 : decode cX6_join 0 = .ok (.aload_n 0, 1) := by decide +kernel
theorem dX6_join_1 : decode cX6_join 1 = .ok (.iload_n 2, 1) := by decide +kernel
theorem dX6_join_2 : decode cX6_join 2 = .ok (.iload_n 3, 1) := by decide +kernel
theorem dX6_join_3 : decode cX6_join 3 = .ok (.invokevirtual 75, 3) := by decide +kernel
theorem dX6_join_6 : decode cX6_join 6 = .ok (.ifCond .eq 4, 3) := by decide +kernel
theorem dX6_join_9 : decode cX6_join 9 = .ok (.return_, 1) := by decide +kernel
theorem dX6_join_10 : decode cX6_join 10 = .ok (.aload_n 0, 1) := by decide +kernel
theorem dX6_join_11 : decode cX6_join 11 = .ok (.getfield 28, 3) := by decide +kernel
theorem dX6_join_14 : decode cX6_join 14 = .ok (.aload_n 0, 1) := by decide +kernel
theorem dX6_join_15 : decode cX6_join 15 = .ok (.getfield 79, 3) := by decide +kernel
theorem dX6_join_18 : decode cX6_join 18 = .ok (.iload_n 2, 1) := by decide +kernel
theorem dX6_join_19 : decode cX6_join 19 = .ok (.iastore, 1) := by decide +kernel
theorem dX6_join_20 : decode cX6_join 20 = .ok (.aload_n 0, 1) := by decide +kernel
theorem dX6_join_21 : decode cX6_join 21 = .ok (.getfield 31, 3) := by decide +kernel
theorem dX6_join_24 : decode cX6_join 24 = .ok (.aload_n 0, 1) := by decide +kernel
theorem dX6_join_25 : decode cX6_join 25 = .ok (.getfield 79, 3) := by decide +kernel
theorem dX6_join_28 : decode cX6_join 28 = .ok (.iload_n 3, 1) := by decide +kernel
theorem dX6_join_29 : decode cX6_join 29 = .ok (.iastore, 1) := by decide +kernel
theorem dX6_join_30 : decode cX6_join 30 = .ok (.aload_n 0, 1) := by decide +kernel
theorem dX6_join_31 : decode cX6_join 31 = .ok (.getfield 34, 3) := by decide +kernel
theorem dX6_join_34 : decode cX6_join 34 = .ok (.aload_n 0, 1) := by decide +kernel
theorem dX6_join_35 : decode cX6_join 35 = .ok (.getfield 79, 3) := by decide +kernel
theorem dX6_join_38 : decode cX6_join 38 = .ok (.iload_n 1, 1) := by decide +kernel
theorem dX6_join_39 : decode cX6_join 39 = .ok (.iastore, 1) := by decide +kernel
theorem dX6_join_40 : decode cX6_join 40 = .ok (.aload_n 0, 1) := by decide +kernel
theorem dX6_join_41 : decode cX6_join 41 = .ok (.dup, 1) := by decide +kernel
theorem dX6_join_42 : decode cX6_join 42 = .ok (.getfield 79, 3) := by decide +kernel
theorem dX6_join_45 : decode cX6_join 45 = .ok (.iconst 1, 1) := by decide +kernel
theorem dX6_join_46 : decode cX6_join 46 = .ok (.iadd, 1) := by decide +kernel
theorem dX6_join_47 : decode cX6_join 47 = .ok (.putfield 79, 3) := by decide +kernel
theorem dX6_join_50 : decode cX6_join 50 = .ok (.return_, 1) := by decide +kernel
set_option maxRecDepth 20000 in
theorem ggX6_gather_X6_first : GoodIn wsX6_gather wsX6_first := goodIn_r _ [8, 9, 28, 29, 30, 31, 32, 33, 34, 35, 36, 37, 38, 39, 40, 41, 42, 43, 44, 45, 46, 47, 48] (by decide +kernel) (by decide +kernel)
set_option maxRecDepth 20000 in
theorem gX6_gather_X6_first : GoodIn wsX6_gather (wsV RX6 82 RX6 yX6_first wsX6_first) := goodIn_app (goodIn_of _ (by decide +kernel)) ggX6_gather_X6_first
set_option maxRecDepth 20000 in
theorem ggX6_gather_X6_end : GoodIn wsX6_gather wsX6_end := goodIn_r _ [13, 2, 9, 14, 28, 29, 30, 31, 32, 33, 34, 35, 36, 37, 38, 39, 40, 41, 42, 43, 44, 45, 46, 47, 48] (by decide +kernel) (by decide +kernel)
set_option maxRecDepth 20000 in
theorem gX6_gather_X6_end : GoodIn wsX6_gather (wsV RX6 86 RX6 yX6_end wsX6_end) := goodIn_app (goodIn_of _ (by decide +kernel)) ggX6_gather_X6_end
set_option maxRecDepth 20000 in
theorem ggX6_gather_X6_join : GoodIn wsX6_gather wsX6_join := goodIn_r _ [18, 19, 1, 20, 21, 22, 23, 24, 7, 25, 26, 27, 28, 29, 30, 31, 32, 33, 34, 35, 36, 37, 38, 39, 40, 41, 42, 43, 44, 45, 46, 47, 48] (by decide +kernel) (by decide +kernel)
set_option maxRecDepth 20000 in
theorem gX6_gather_X6_join : GoodIn wsX6_gather (wsV RX6 89 RX6 yX6_join wsX6_join) := goodIn_app (goodIn_of _ (by decide +kernel)) ggX6_gather_X6_join
theorem dX6_gather_0 : decode cX6_gather 0 = .ok (.aload_n 0, 1) := by decide +kernel
theorem dX6_gather_1 : decode cX6_gather 1 = .ok (.iconst 0, 1) := by decide +kernel
theorem dX6_gather_2 : decode cX6_gather 2 = .ok (.putfield 79, 3) := by decide +kernel
theorem dX6_gather_5 : decode cX6_gather 5 = .ok (.iconst 0, 1) := by decide +kernel
theorem dX6_gather_6 : decode cX6_gather 6 = .ok (.istore_n 1, 1) := by decide +kernel
theorem dX6_gather_7 : decode cX6_gather 7 = .ok (.iload_n 1, 1) := by decide +kernel
theorem dX6_gather_8 : decode cX6_gather 8 = .ok (.iconst 2, 1) := by decide +kernel
theorem dX6_gather_9 : decode cX6_gather 9 = .ok (.if_icmp .ge 107, 3) := by decide +kernel
theorem dX6_gather_12 : decode cX6_gather 12 = .ok (.iconst 0, 1) := by decide +kernel
theorem dX6_gather_13 : decode cX6_gather 13 = .ok (.istore_n 2, 1) := by decide +kernel
theorem dX6_gather_14 : decode cX6_gather 14 = .ok (.iload_n 2, 1) := by decide +kernel
theorem dX6_gather_15 : decode cX6_gather 15 = .ok (.aload_n 0, 1) := by decide +kernel
theorem dX6_gather_16 : decode cX6_gather 16 = .ok (.getfield 16, 3) := by decide +kernel
theorem dX6_gather_19 : decode cX6_gather 19 = .ok (.iload_n 1, 1) := by decide +kernel
theorem dX6_gather_20 : decode cX6_gather 20 = .ok (.iaload, 1) := by decide +kernel
theorem dX6_gather_21 : decode cX6_gather 21 = .ok (.if_icmp .ge 89, 3) := by decide +kernel
theorem dX6_gather_24 : decode cX6_gather 24 = .ok (.aload_n 0, 1) := by decide +kernel
theorem dX6_gather_25 : decode cX6_gather 25 = .ok (.iload_n 1, 1) := by decide +kernel
theorem dX6_gather_26 : decode cX6_gather 26 = .ok (.iload_n 2, 1) := by decide +kernel
theorem dX6_gather_27 : decode cX6_gather 27 = .ok (.invokevirtual 82, 3) := by decide +kernel
theorem dX6_gather_30 : decode cX6_gather 30 = .ok (.istore_n 3, 1) := by decide +kernel
theorem dX6_gather_31 : decode cX6_gather 31 = .ok (.aload_n 0, 1) := by decide +kernel
theorem dX6_gather_32 : decode cX6_gather 32 = .ok (.iload_n 1, 1) := by decide +kernel
theorem dX6_gather_33 : decode cX6_gather 33 = .ok (.iload_n 2, 1) := by decide +kernel
theorem dX6_gather_34 : decode cX6_gather 34 = .ok (.invokevirtual 86, 3) := by decide +kernel
theorem dX6_gather_37 : decode cX6_gather 37 = .ok (.istore 4, 2) := by decide +kernel
theorem dX6_gather_39 : decode cX6_gather 39 = .ok (.iload_n 3, 1) := by decide +kernel
theorem dX6_gather_40 : decode cX6_gather 40 = .ok (.istore 5, 2) := by decide +kernel
theorem dX6_gather_42 : decode cX6_gather 42 = .ok (.iload 5, 2) := by decide +kernel
theorem dX6_gather_44 : decode cX6_gather 44 = .ok (.iconst 1, 1) := by decide +kernel
theorem dX6_gather_45 : decode cX6_gather 45 = .ok (.iadd, 1) := by decide +kernel
theorem dX6_gather_46 : decode cX6_gather 46 = .ok (.iload 4, 2) := by decide +kernel
theorem dX6_gather_48 : decode cX6_gather 48 = .ok (.if_icmp .ge 30, 3) := by decide +kernel
theorem dX6_gather_51 : decode cX6_gather 51 = .ok (.aload_n 0, 1) := by decide +kernel
theorem dX6_gather_52 : decode cX6_gather 52 = .ok (.getfield 7, 3) := by decide +kernel
theorem dX6_gather_55 : decode cX6_gather 55 = .ok (.iload_n 1, 1) := by decide +kernel
theorem dX6_gather_56 : decode cX6_gather 56 = .ok (.iaload, 1) := by decide +kernel
theorem dX6_gather_57 : decode cX6_gather 57 = .ok (.iconst 1, 1) := by decide +kernel
theorem dX6_gather_58 : decode cX6_gather 58 = .ok (.if_icmp .le 20, 3) := by decide +kernel
theorem dX6_gather_61 : decode cX6_gather 61 = .ok (.aload_n 0, 1) := by decide +kernel
theorem dX6_gather_62 : decode cX6_gather 62 = .ok (.iload_n 1, 1) := by decide +kernel
theorem dX6_gather_63 : decode cX6_gather 63 = .ok (.iload 5, 2) := by decide +kernel
theorem dX6_gather_65 : decode cX6_gather 65 = .ok (.iload 5, 2) := by decide +kernel
theorem dX6_gather_67 : decode cX6_gather 67 = .ok (.iconst 1, 1) := by decide +kernel
theorem dX6_gather_68 : decode cX6_gather 68 = .ok (.iadd, 1) := by decide +kernel
theorem dX6_gather_69 : decode cX6_gather 69 = .ok (.invokevirtual 89, 3) := by decide +kernel
theorem dX6_gather_72 : decode cX6_gather 72 = .ok (.iinc 5 1, 3) := by decide +kernel
theorem dX6_gather_75 : decode cX6_gather 75 = .ok (.goto (-33), 3) := by decide +kernel
theorem dX6_gather_78 : decode cX6_gather 78 = .ok (.aload_n 0, 1) := by decide +kernel
theorem dX6_gather_79 : decode cX6_gather 79 = .ok (.getfield 7, 3) := by decide +kernel
theorem dX6_gather_82 : decode cX6_gather 82 = .ok (.iload_n 1, 1) := by decide +kernel
theorem dX6_gather_83 : decode cX6_gather 83 = .ok (.iaload, 1) := by decide +kernel
theorem dX6_gather_84 : decode cX6_gather 84 = .ok (.iconst 3, 1) := by decide +kernel
theorem dX6_gather_85 : decode cX6_gather 85 = .ok (.if_icmp .ne 19, 3) := by decide +kernel
theorem dX6_gather_88 : decode cX6_gather 88 = .ok (.iload 4, 2) := by decide +kernel
theorem dX6_gather_90 : decode cX6_gather 90 = .ok (.iload_n 3, 1) := by decide +kernel
theorem dX6_gather_91 : decode cX6_gather 91 = .ok (.if_icmp .le 13, 3) := by decide +kernel
theorem dX6_gather_94 : decode cX6_gather 94 = .ok (.aload_n 0, 1) := by decide +kernel
theorem dX6_gather_95 : decode cX6_gather 95 = .ok (.iload_n 1, 1) := by decide +kernel
theorem dX6_gather_96 : decode cX6_gather 96 = .ok (.iload 4, 2) := by decide +kernel
theorem dX6_gather_98 : decode cX6_gather 98 = .ok (.iconst 1, 1) := by decide +kernel
theorem dX6_gather_99 : decode cX6_gather 99 = .ok (.isub, 1) := by decide +kernel
theorem dX6_gather_100 : decode cX6_gather 100 = .ok (.iload_n 3, 1) := by decide +kernel
theorem dX6_gather_101 : decode cX6_gather 101 = .ok (.invokevirtual 89, 3) := by decide +kernel
theorem dX6_gather_104 : decode cX6_gather 104 = .ok (.iinc 2 1, 3) := by decide +kernel
theorem dX6_gather_107 : decode cX6_gather 107 = .ok (.goto (-93), 3) := by decide +kernel
theorem dX6_gather_110 : decode cX6_gather 110 = .ok (.iinc 1 1, 3) := by decide +kernel
theorem dX6_gather_113 : decode cX6_gather 113 = .ok (.goto (-106), 3) := by decide +kernel
theorem dX6_gather_116 : decode cX6_gather 116 = .ok (.return_, 1) := by decide +kernel
theorem dX6_clear_0 : decode cX6_clear 0 = .ok (.iconst 0, 1) := by decide +kernel
theorem dX6_clear_1 : decode cX6_clear 1 = .ok (.istore_n 2, 1) := by decide +kernel
theorem dX6_clear_2 : decode cX6_clear 2 = .ok (.iload_n 2, 1) := by decide +kernel
theorem dX6_clear_3 : decode cX6_clear 3 = .ok (.bipush 16, 2) := by decide +kernel
theorem dX6_clear_5 : decode cX6_clear 5 = .ok (.if_icmp .ge 21, 3) := by decide +kernel
theorem dX6_clear_8 : decode cX6_clear 8 = .ok (.aload_n 0, 1) := by decide +kernel
theorem dX6_clear_9 : decode cX6_clear 9 = .ok (.getfield 44, 3) := by decide +kernel
theorem dX6_clear_12 : decode cX6_clear 12 = .ok (.bipush 16, 2) := by decide +kernel
theorem dX6_clear_14 : decode cX6_clear 14 = .ok (.iload_n 1, 1) := by decide +kernel
theorem dX6_clear_15 : decode cX6_clear 15 = .ok (.imul, 1) := by decide +kernel
theorem dX6_clear_16 : decode cX6_clear 16 = .ok (.iload_n 2, 1) := by decide +kernel
theorem dX6_clear_17 : decode cX6_clear 17 = .ok (.iadd, 1) := by decide +kernel
theorem dX6_clear_18 : decode cX6_clear 18 = .ok (.lconst 0, 1) := by decide +kernel
theorem dX6_clear_19 : decode cX6_clear 19 = .ok (.lastore, 1) := by decide +kernel
theorem dX6_clear_20 : decode cX6_clear 20 = .ok (.iinc 2 1, 3) := by decide +kernel
theorem dX6_clear_23 : decode cX6_clear 23 = .ok (.goto (-21), 3) := by decide +kernel
theorem dX6_clear_26 : decode cX6_clear 26 = .ok (.return_, 1) := by decide +kernel
theorem dX6_settle_0 : decode cX6_settle 0 = .ok (.lconst 0, 1) := by decide +kernel
theorem dX6_settle_1 : decode cX6_settle 1 = .ok (.lstore_n 2, 1) := by decide +kernel
theorem dX6_settle_2 : decode cX6_settle 2 = .ok (.bipush 16, 2) := by decide +kernel
theorem dX6_settle_4 : decode cX6_settle 4 = .ok (.iload_n 1, 1) := by decide +kernel
theorem dX6_settle_5 : decode cX6_settle 5 = .ok (.imul, 1) := by decide +kernel
theorem dX6_settle_6 : decode cX6_settle 6 = .ok (.istore 4, 2) := by decide +kernel
theorem dX6_settle_8 : decode cX6_settle 8 = .ok (.iload 4, 2) := by decide +kernel
theorem dX6_settle_10 : decode cX6_settle 10 = .ok (.bipush 16, 2) := by decide +kernel
theorem dX6_settle_12 : decode cX6_settle 12 = .ok (.iload_n 1, 1) := by decide +kernel
theorem dX6_settle_13 : decode cX6_settle 13 = .ok (.imul, 1) := by decide +kernel
theorem dX6_settle_14 : decode cX6_settle 14 = .ok (.bipush 16, 2) := by decide +kernel
theorem dX6_settle_16 : decode cX6_settle 16 = .ok (.iadd, 1) := by decide +kernel
theorem dX6_settle_17 : decode cX6_settle 17 = .ok (.if_icmp .ge 54, 3) := by decide +kernel
theorem dX6_settle_20 : decode cX6_settle 20 = .ok (.aload_n 0, 1) := by decide +kernel
theorem dX6_settle_21 : decode cX6_settle 21 = .ok (.getfield 44, 3) := by decide +kernel
theorem dX6_settle_24 : decode cX6_settle 24 = .ok (.iload 4, 2) := by decide +kernel
theorem dX6_settle_26 : decode cX6_settle 26 = .ok (.laload, 1) := by decide +kernel
theorem dX6_settle_27 : decode cX6_settle 27 = .ok (.lload_n 2, 1) := by decide +kernel
theorem dX6_settle_28 : decode cX6_settle 28 = .ok (.ladd, 1) := by decide +kernel
theorem dX6_settle_29 : decode cX6_settle 29 = .ok (.lstore 5, 2) := by decide +kernel
theorem dX6_settle_31 : decode cX6_settle 31 = .ok (.lload 5, 2) := by decide +kernel
theorem dX6_settle_33 : decode cX6_settle 33 = .ok (.ldc2_w 93, 3) := by decide +kernel
theorem dX6_settle_36 : decode cX6_settle 36 = .ok (.ladd, 1) := by decide +kernel
theorem dX6_settle_37 : decode cX6_settle 37 = .ok (.ldc2_w 95, 3) := by decide +kernel
theorem dX6_settle_40 : decode cX6_settle 40 = .ok (.land, 1) := by decide +kernel
theorem dX6_settle_41 : decode cX6_settle 41 = .ok (.ldc2_w 93, 3) := by decide +kernel
theorem dX6_settle_44 : decode cX6_settle 44 = .ok (.lsub, 1) := by decide +kernel
theorem dX6_settle_45 : decode cX6_settle 45 = .ok (.lstore 7, 2) := by decide +kernel
theorem dX6_settle_47 : decode cX6_settle 47 = .ok (.aload_n 0, 1) := by decide +kernel
theorem dX6_settle_48 : decode cX6_settle 48 = .ok (.getfield 44, 3) := by decide +kernel
theorem dX6_settle_51 : decode cX6_settle 51 = .ok (.iload 4, 2) := by decide +kernel
theorem dX6_settle_53 : decode cX6_settle 53 = .ok (.lload 7, 2) := by decide +kernel
theorem dX6_settle_55 : decode cX6_settle 55 = .ok (.lastore, 1) := by decide +kernel
theorem dX6_settle_56 : decode cX6_settle 56 = .ok (.lload 5, 2) := by decide +kernel
theorem dX6_settle_58 : decode cX6_settle 58 = .ok (.lload 7, 2) := by decide +kernel
theorem dX6_settle_60 : decode cX6_settle 60 = .ok (.lsub, 1) := by decide +kernel
theorem dX6_settle_61 : decode cX6_settle 61 = .ok (.bipush 24, 2) := by decide +kernel
theorem dX6_settle_63 : decode cX6_settle 63 = .ok (.lshr, 1) := by decide +kernel
theorem dX6_settle_64 : decode cX6_settle 64 = .ok (.lstore_n 2, 1) := by decide +kernel
theorem dX6_settle_65 : decode cX6_settle 65 = .ok (.iinc 4 1, 3) := by decide +kernel
theorem dX6_settle_68 : decode cX6_settle 68 = .ok (.goto (-60), 3) := by decide +kernel
theorem dX6_settle_71 : decode cX6_settle 71 = .ok (.return_, 1) := by decide +kernel
set_option maxRecDepth 20000 in
theorem ggX6_set_X6_clear : GoodIn wsX6_set wsX6_clear := goodIn_r _ [7, 1, 13, 14, 15, 16, 17, 18, 19, 20, 21, 22, 23, 24, 25, 26, 27, 28, 29, 30, 31, 32, 33] (by decide +kernel) (by decide +kernel)
set_option maxRecDepth 20000 in
theorem gX6_set_X6_clear : GoodIn wsX6_set (wsV RX6 97 RX6 yX6_clear wsX6_clear) := goodIn_app (goodIn_of _ (by decide +kernel)) ggX6_set_X6_clear
set_option maxRecDepth 20000 in
theorem ggX6_set_X6_settle : GoodIn wsX6_set wsX6_settle := goodIn_r _ [11, 1, 12, 2, 13, 14, 15, 16, 17, 18, 19, 20, 21, 22, 23, 24, 25, 26, 27, 28, 29, 30, 31, 32, 33] (by decide +kernel) (by decide +kernel)
set_option maxRecDepth 20000 in
theorem gX6_set_X6_settle : GoodIn wsX6_set (wsV RX6 101 RX6 yX6_settle wsX6_settle) := goodIn_app (goodIn_of _ (by decide +kernel)) ggX6_set_X6_settle
theorem dX6_set_0 : decode cX6_set 0 = .ok (.aload_n 0, 1) := by decide +kernel
theorem dX6_set_1 : decode cX6_set 1 = .ok (.iload_n 1, 1) := by decide +kernel
theorem dX6_set_2 : decode cX6_set 2 = .ok (.invokevirtual 97, 3) := by decide +kernel
theorem dX6_set_5 : decode cX6_set 5 = .ok (.aload_n 0, 1) := by decide +kernel
theorem dX6_set_6 : decode cX6_set 6 = .ok (.getfield 44, 3) := by decide +kernel
theorem dX6_set_9 : decode cX6_set 9 = .ok (.bipush 16, 2) := by decide +kernel
theorem dX6_set_11 : decode cX6_set 11 = .ok (.iload_n 1, 1) := by decide +kernel
theorem dX6_set_12 : decode cX6_set 12 = .ok (.imul, 1) := by decide +kernel
theorem dX6_set_13 : decode cX6_set 13 = .ok (.lload_n 2, 1) := by decide +kernel
theorem dX6_set_14 : decode cX6_set 14 = .ok (.ldc2_w 95, 3) := by decide +kernel
theorem dX6_set_17 : decode cX6_set 17 = .ok (.land, 1) := by decide +kernel
theorem dX6_set_18 : decode cX6_set 18 = .ok (.lastore, 1) := by decide +kernel
theorem dX6_set_19 : decode cX6_set 19 = .ok (.aload_n 0, 1) := by decide +kernel
theorem dX6_set_20 : decode cX6_set 20 = .ok (.getfield 44, 3) := by decide +kernel
theorem dX6_set_23 : decode cX6_set 23 = .ok (.bipush 16, 2) := by decide +kernel
theorem dX6_set_25 : decode cX6_set 25 = .ok (.iload_n 1, 1) := by decide +kernel
theorem dX6_set_26 : decode cX6_set 26 = .ok (.imul, 1) := by decide +kernel
theorem dX6_set_27 : decode cX6_set 27 = .ok (.iconst 1, 1) := by decide +kernel
theorem dX6_set_28 : decode cX6_set 28 = .ok (.iadd, 1) := by decide +kernel
theorem dX6_set_29 : decode cX6_set 29 = .ok (.lload_n 2, 1) := by decide +kernel
theorem dX6_set_30 : decode cX6_set 30 = .ok (.bipush 24, 2) := by decide +kernel
theorem dX6_set_32 : decode cX6_set 32 = .ok (.lshr, 1) := by decide +kernel
theorem dX6_set_33 : decode cX6_set 33 = .ok (.ldc2_w 95, 3) := by decide +kernel
theorem dX6_set_36 : decode cX6_set 36 = .ok (.land, 1) := by decide +kernel
theorem dX6_set_37 : decode cX6_set 37 = .ok (.lastore, 1) := by decide +kernel
theorem dX6_set_38 : decode cX6_set 38 = .ok (.aload_n 0, 1) := by decide +kernel
theorem dX6_set_39 : decode cX6_set 39 = .ok (.getfield 44, 3) := by decide +kernel
theorem dX6_set_42 : decode cX6_set 42 = .ok (.bipush 16, 2) := by decide +kernel
theorem dX6_set_44 : decode cX6_set 44 = .ok (.iload_n 1, 1) := by decide +kernel
theorem dX6_set_45 : decode cX6_set 45 = .ok (.imul, 1) := by decide +kernel
theorem dX6_set_46 : decode cX6_set 46 = .ok (.iconst 2, 1) := by decide +kernel
theorem dX6_set_47 : decode cX6_set 47 = .ok (.iadd, 1) := by decide +kernel
theorem dX6_set_48 : decode cX6_set 48 = .ok (.lload_n 2, 1) := by decide +kernel
theorem dX6_set_49 : decode cX6_set 49 = .ok (.bipush 48, 2) := by decide +kernel
theorem dX6_set_51 : decode cX6_set 51 = .ok (.lshr, 1) := by decide +kernel
theorem dX6_set_52 : decode cX6_set 52 = .ok (.lastore, 1) := by decide +kernel
theorem dX6_set_53 : decode cX6_set 53 = .ok (.aload_n 0, 1) := by decide +kernel
theorem dX6_set_54 : decode cX6_set 54 = .ok (.iload_n 1, 1) := by decide +kernel
theorem dX6_set_55 : decode cX6_set 55 = .ok (.invokevirtual 101, 3) := by decide +kernel
theorem dX6_set_58 : decode cX6_set 58 = .ok (.return_, 1) := by decide +kernel
theorem dX6_product_0 : decode cX6_product 0 = .ok (.iconst 0, 1) := by decide +kernel
theorem dX6_product_1 : decode cX6_product 1 = .ok (.istore 4, 2) := by decide +kernel
theorem dX6_product_3 : decode cX6_product 3 = .ok (.iload 4, 2) := by decide +kernel
theorem dX6_product_5 : decode cX6_product 5 = .ok (.bipush 16, 2) := by decide +kernel
theorem dX6_product_7 : decode cX6_product 7 = .ok (.if_icmp .ge 82, 3) := by decide +kernel
theorem dX6_product_10 : decode cX6_product 10 = .ok (.aload_n 0, 1) := by decide +kernel
theorem dX6_product_11 : decode cX6_product 11 = .ok (.getfield 44, 3) := by decide +kernel
theorem dX6_product_14 : decode cX6_product 14 = .ok (.bipush 16, 2) := by decide +kernel
theorem dX6_product_16 : decode cX6_product 16 = .ok (.iload_n 2, 1) := by decide +kernel
theorem dX6_product_17 : decode cX6_product 17 = .ok (.imul, 1) := by decide +kernel
theorem dX6_product_18 : decode cX6_product 18 = .ok (.iload 4, 2) := by decide +kernel
theorem dX6_product_20 : decode cX6_product 20 = .ok (.iadd, 1) := by decide +kernel
theorem dX6_product_21 : decode cX6_product 21 = .ok (.laload, 1) := by decide +kernel
theorem dX6_product_22 : decode cX6_product 22 = .ok (.lstore 5, 2) := by decide +kernel
theorem dX6_product_24 : decode cX6_product 24 = .ok (.iconst 0, 1) := by decide +kernel
theorem dX6_product_25 : decode cX6_product 25 = .ok (.istore 7, 2) := by decide +kernel
theorem dX6_product_27 : decode cX6_product 27 = .ok (.iload 7, 2) := by decide +kernel
theorem dX6_product_29 : decode cX6_product 29 = .ok (.iload 4, 2) := by decide +kernel
theorem dX6_product_31 : decode cX6_product 31 = .ok (.iadd, 1) := by decide +kernel
theorem dX6_product_32 : decode cX6_product 32 = .ok (.bipush 16, 2) := by decide +kernel
theorem dX6_product_34 : decode cX6_product 34 = .ok (.if_icmp .ge 49, 3) := by decide +kernel
theorem dX6_product_37 : decode cX6_product 37 = .ok (.lload 5, 2) := by decide +kernel
theorem dX6_product_39 : decode cX6_product 39 = .ok (.lconst 0, 1) := by decide +kernel
theorem dX6_product_40 : decode cX6_product 40 = .ok (.lcmp, 1) := by decide +kernel
theorem dX6_product_41 : decode cX6_product 41 = .ok (.ifCond .eq 42, 3) := by decide +kernel
theorem dX6_product_44 : decode cX6_product 44 = .ok (.aload_n 0, 1) := by decide +kernel
theorem dX6_product_45 : decode cX6_product 45 = .ok (.getfield 44, 3) := by decide +kernel
theorem dX6_product_48 : decode cX6_product 48 = .ok (.bipush 16, 2) := by decide +kernel
theorem dX6_product_50 : decode cX6_product 50 = .ok (.iload_n 1, 1) := by decide +kernel
theorem dX6_product_51 : decode cX6_product 51 = .ok (.imul, 1) := by decide +kernel
theorem dX6_product_52 : decode cX6_product 52 = .ok (.iload 4, 2) := by decide +kernel
theorem dX6_product_54 : decode cX6_product 54 = .ok (.iadd, 1) := by decide +kernel
theorem dX6_product_55 : decode cX6_product 55 = .ok (.iload 7, 2) := by decide +kernel
theorem dX6_product_57 : decode cX6_product 57 = .ok (.iadd, 1) := by decide +kernel
theorem dX6_product_58 : decode cX6_product 58 = .ok (.dup2, 1) := by decide +kernel
theorem dX6_product_59 : decode cX6_product 59 = .ok (.laload, 1) := by decide +kernel
theorem dX6_product_60 : decode cX6_product 60 = .ok (.lload 5, 2) := by decide +kernel
theorem dX6_product_62 : decode cX6_product 62 = .ok (.aload_n 0, 1) := by decide +kernel
theorem dX6_product_63 : decode cX6_product 63 = .ok (.getfield 44, 3) := by decide +kernel
theorem dX6_product_66 : decode cX6_product 66 = .ok (.bipush 16, 2) := by decide +kernel
theorem dX6_product_68 : decode cX6_product 68 = .ok (.iload_n 3, 1) := by decide +kernel
theorem dX6_product_69 : decode cX6_product 69 = .ok (.imul, 1) := by decide +kernel
theorem dX6_product_70 : decode cX6_product 70 = .ok (.iload 7, 2) := by decide +kernel
theorem dX6_product_72 : decode cX6_product 72 = .ok (.iadd, 1) := by decide +kernel
theorem dX6_product_73 : decode cX6_product 73 = .ok (.laload, 1) := by decide +kernel
theorem dX6_product_74 : decode cX6_product 74 = .ok (.lmul, 1) := by decide +kernel
theorem dX6_product_75 : decode cX6_product 75 = .ok (.ladd, 1) := by decide +kernel
theorem dX6_product_76 : decode cX6_product 76 = .ok (.lastore, 1) := by decide +kernel
theorem dX6_product_77 : decode cX6_product 77 = .ok (.iinc 7 1, 3) := by decide +kernel
theorem dX6_product_80 : decode cX6_product 80 = .ok (.goto (-53), 3) := by decide +kernel
theorem dX6_product_83 : decode cX6_product 83 = .ok (.iinc 4 1, 3) := by decide +kernel
theorem dX6_product_86 : decode cX6_product 86 = .ok (.goto (-83), 3) := by decide +kernel
theorem dX6_product_89 : decode cX6_product 89 = .ok (.return_, 1) := by decide +kernel
theorem dX6_signOf_0 : decode cX6_signOf 0 = .ok (.bipush 15, 2) := by decide +kernel
theorem dX6_signOf_2 : decode cX6_signOf 2 = .ok (.istore_n 2, 1) := by decide +kernel
theorem dX6_signOf_3 : decode cX6_signOf 3 = .ok (.iload_n 2, 1) := by decide +kernel
theorem dX6_signOf_4 : decode cX6_signOf 4 = .ok (.ifCond .le 25, 3) := by decide +kernel
theorem dX6_signOf_7 : decode cX6_signOf 7 = .ok (.aload_n 0, 1) := by decide +kernel
theorem dX6_signOf_8 : decode cX6_signOf 8 = .ok (.getfield 44, 3) := by decide +kernel
theorem dX6_signOf_11 : decode cX6_signOf 11 = .ok (.bipush 16, 2) := by decide +kernel
theorem dX6_signOf_13 : decode cX6_signOf 13 = .ok (.iload_n 1, 1) := by decide +kernel
theorem dX6_signOf_14 : decode cX6_signOf 14 = .ok (.imul, 1) := by decide +kernel
theorem dX6_signOf_15 : decode cX6_signOf 15 = .ok (.iload_n 2, 1) := by decide +kernel
theorem dX6_signOf_16 : decode cX6_signOf 16 = .ok (.iadd, 1) := by decide +kernel
theorem dX6_signOf_17 : decode cX6_signOf 17 = .ok (.laload, 1) := by decide +kernel
theorem dX6_signOf_18 : decode cX6_signOf 18 = .ok (.lconst 0, 1) := by decide +kernel
theorem dX6_signOf_19 : decode cX6_signOf 19 = .ok (.lcmp, 1) := by decide +kernel
theorem dX6_signOf_20 : decode cX6_signOf 20 = .ok (.ifCond .ne 9, 3) := by decide +kernel
theorem dX6_signOf_23 : decode cX6_signOf 23 = .ok (.iinc 2 (-1), 3) := by decide +kernel
theorem dX6_signOf_26 : decode cX6_signOf 26 = .ok (.goto (-23), 3) := by decide +kernel
theorem dX6_signOf_29 : decode cX6_signOf 29 = .ok (.aload_n 0, 1) := by decide +kernel
theorem dX6_signOf_30 : decode cX6_signOf 30 = .ok (.getfield 44, 3) := by decide +kernel
theorem dX6_signOf_33 : decode cX6_signOf 33 = .ok (.bipush 16, 2) := by decide +kernel
theorem dX6_signOf_35 : decode cX6_signOf 35 = .ok (.iload_n 1, 1) := by decide +kernel
theorem dX6_signOf_36 : decode cX6_signOf 36 = .ok (.imul, 1) := by decide +kernel
theorem dX6_signOf_37 : decode cX6_signOf 37 = .ok (.iload_n 2, 1) := by decide +kernel
theorem dX6_signOf_38 : decode cX6_signOf 38 = .ok (.iadd, 1) := by decide +kernel
theorem dX6_signOf_39 : decode cX6_signOf 39 = .ok (.laload, 1) := by decide +kernel
theorem dX6_signOf_40 : decode cX6_signOf 40 = .ok (.lstore_n 3, 1) := by decide +kernel
theorem dX6_signOf_41 : decode cX6_signOf 41 = .ok (.lload_n 3, 1) := by decide +kernel
theorem dX6_signOf_42 : decode cX6_signOf 42 = .ok (.lconst 0, 1) := by decide +kernel
theorem dX6_signOf_43 : decode cX6_signOf 43 = .ok (.lcmp, 1) := by decide +kernel
theorem dX6_signOf_44 : decode cX6_signOf 44 = .ok (.ifCond .le 7, 3) := by decide +kernel
theorem dX6_signOf_47 : decode cX6_signOf 47 = .ok (.iconst 1, 1) := by decide +kernel
theorem dX6_signOf_48 : decode cX6_signOf 48 = .ok (.goto 14, 3) := by decide +kernel
theorem dX6_signOf_51 : decode cX6_signOf 51 = .ok (.lload_n 3, 1) := by decide +kernel
theorem dX6_signOf_52 : decode cX6_signOf 52 = .ok (.lconst 0, 1) := by decide +kernel
theorem dX6_signOf_53 : decode cX6_signOf 53 = .ok (.lcmp, 1) := by decide +kernel
theorem dX6_signOf_54 : decode cX6_signOf 54 = .ok (.ifCond .ge 7, 3) := by decide +kernel
theorem dX6_signOf_57 : decode cX6_signOf 57 = .ok (.iconst (-1), 1) := by decide +kernel
theorem dX6_signOf_58 : decode cX6_signOf 58 = .ok (.goto 4, 3) := by decide +kernel
theorem dX6_signOf_61 : decode cX6_signOf 61 = .ok (.iconst 0, 1) := by decide +kernel
theorem dX6_signOf_62 : decode cX6_signOf 62 = .ok (.ireturn, 1) := by decide +kernel
theorem dX6_stand_0 : decode cX6_stand 0 = .ok (.aload_n 0, 1) := by decide +kernel
theorem dX6_stand_1 : decode cX6_stand 1 = .ok (.lload_n 1, 1) := by decide +kernel
theorem dX6_stand_2 : decode cX6_stand 2 = .ok (.putfield 104, 3) := by decide +kernel
theorem dX6_stand_5 : decode cX6_stand 5 = .ok (.aload_n 0, 1) := by decide +kernel
theorem dX6_stand_6 : decode cX6_stand 6 = .ok (.lload_n 3, 1) := by decide +kernel
theorem dX6_stand_7 : decode cX6_stand 7 = .ok (.putfield 108, 3) := by decide +kernel
theorem dX6_stand_10 : decode cX6_stand 10 = .ok (.aload_n 0, 1) := by decide +kernel
theorem dX6_stand_11 : decode cX6_stand 11 = .ok (.lload 5, 2) := by decide +kernel
theorem dX6_stand_13 : decode cX6_stand 13 = .ok (.putfield 111, 3) := by decide +kernel
theorem dX6_stand_16 : decode cX6_stand 16 = .ok (.aload_n 0, 1) := by decide +kernel
theorem dX6_stand_17 : decode cX6_stand 17 = .ok (.lload 7, 2) := by decide +kernel
theorem dX6_stand_19 : decode cX6_stand 19 = .ok (.putfield 114, 3) := by decide +kernel
theorem dX6_stand_22 : decode cX6_stand 22 = .ok (.return_, 1) := by decide +kernel
set_option maxRecDepth 20000 in
theorem ggX6_at_X6_set : GoodIn wsX6_at wsX6_set := goodIn_r _ [5, 6, 7, 8, 9, 10, 4, 11, 12, 13, 14, 15, 16, 17, 18, 19, 20, 21, 22, 23, 24, 25, 26, 27, 28, 29, 30, 31, 32, 33, 34, 35, 36, 37] (by decide +kernel) (by decide +kernel)
set_option maxRecDepth 20000 in
theorem gX6_at_X6_set : GoodIn wsX6_at (wsV RX6 117 RX6 yX6_set wsX6_set) := goodIn_app (goodIn_of _ (by decide +kernel)) ggX6_at_X6_set
theorem dX6_at_0 : decode cX6_at 0 = .ok (.aload_n 0, 1) := by decide +kernel
theorem dX6_at_1 : decode cX6_at 1 = .ok (.iconst 0, 1) := by decide +kernel
theorem dX6_at_2 : decode cX6_at 2 = .ok (.lload_n 1, 1) := by decide +kernel
theorem dX6_at_3 : decode cX6_at 3 = .ok (.invokevirtual 117, 3) := by decide +kernel
theorem dX6_at_6 : decode cX6_at 6 = .ok (.aload_n 0, 1) := by decide +kernel
theorem dX6_at_7 : decode cX6_at 7 = .ok (.iconst 1, 1) := by decide +kernel
theorem dX6_at_8 : decode cX6_at 8 = .ok (.lload_n 3, 1) := by decide +kernel
theorem dX6_at_9 : decode cX6_at 9 = .ok (.invokevirtual 117, 3) := by decide +kernel
theorem dX6_at_12 : decode cX6_at 12 = .ok (.return_, 1) := by decide +kernel
set_option maxRecDepth 20000 in
theorem ggX6_between_X6_set : GoodIn wsX6_between wsX6_set := goodIn_r _ [5, 6, 7, 8, 9, 10, 4, 11, 12, 13, 14, 15, 16, 21, 22, 23, 24, 25, 26, 27, 28, 29, 30, 31, 32, 33, 34, 35, 36, 37, 38, 39, 40, 41] (by decide +kernel) (by decide +kernel)
set_option maxRecDepth 20000 in
theorem gX6_between_X6_set : GoodIn wsX6_between (wsV RX6 117 RX6 yX6_set wsX6_set) := goodIn_app (goodIn_of _ (by decide +kernel)) ggX6_between_X6_set
set_option maxRecDepth 20000 in
theorem ggX6_between_X6_clear : GoodIn wsX6_between wsX6_clear := goodIn_r _ [11, 6, 21, 22, 23, 24, 25, 26, 27, 28, 29, 30, 31, 32, 33, 34, 35, 36, 37, 38, 39, 40, 41] (by decide +kernel) (by decide +kernel)
set_option maxRecDepth 20000 in
theorem gX6_between_X6_clear : GoodIn wsX6_between (wsV RX6 97 RX6 yX6_clear wsX6_clear) := goodIn_app (goodIn_of _ (by decide +kernel)) ggX6_between_X6_clear
set_option maxRecDepth 20000 in
theorem ggX6_between_X6_product : GoodIn wsX6_between wsX6_product := goodIn_r _ [20, 6, 21, 22, 23, 24, 25, 26, 27, 28, 29, 30, 31, 32, 33, 34, 35, 36, 37, 38, 39, 40, 41] (by decide +kernel) (by decide +kernel)
set_option maxRecDepth 20000 in
theorem gX6_between_X6_product : GoodIn wsX6_between (wsV RX6 121 RX6 yX6_product wsX6_product) := goodIn_app (goodIn_of _ (by decide +kernel)) ggX6_between_X6_product
set_option maxRecDepth 20000 in
theorem ggX6_between_X6_settle : GoodIn wsX6_between wsX6_settle := goodIn_r _ [15, 6, 16, 7, 21, 22, 23, 24, 25, 26, 27, 28, 29, 30, 31, 32, 33, 34, 35, 36, 37, 38, 39, 40, 41] (by decide +kernel) (by decide +kernel)
set_option maxRecDepth 20000 in
theorem gX6_between_X6_settle : GoodIn wsX6_between (wsV RX6 101 RX6 yX6_settle wsX6_settle) := goodIn_app (goodIn_of _ (by decide +kernel)) ggX6_between_X6_settle
theorem dX6_between_0 : decode cX6_between 0 = .ok (.aload_n 0, 1) := by decide +kernel
theorem dX6_between_1 : decode cX6_between 1 = .ok (.iconst 2, 1) := by decide +kernel
theorem dX6_between_2 : decode cX6_between 2 = .ok (.lload_n 1, 1) := by decide +kernel
theorem dX6_between_3 : decode cX6_between 3 = .ok (.invokevirtual 117, 3) := by decide +kernel
theorem dX6_between_6 : decode cX6_between 6 = .ok (.aload_n 0, 1) := by decide +kernel
theorem dX6_between_7 : decode cX6_between 7 = .ok (.iconst 3, 1) := by decide +kernel
theorem dX6_between_8 : decode cX6_between 8 = .ok (.lload_n 3, 1) := by decide +kernel
theorem dX6_between_9 : decode cX6_between 9 = .ok (.invokevirtual 117, 3) := by decide +kernel
theorem dX6_between_12 : decode cX6_between 12 = .ok (.aload_n 0, 1) := by decide +kernel
theorem dX6_between_13 : decode cX6_between 13 = .ok (.iconst 4, 1) := by decide +kernel
theorem dX6_between_14 : decode cX6_between 14 = .ok (.lload 5, 2) := by decide +kernel
theorem dX6_between_16 : decode cX6_between 16 = .ok (.invokevirtual 117, 3) := by decide +kernel
theorem dX6_between_19 : decode cX6_between 19 = .ok (.aload_n 0, 1) := by decide +kernel
theorem dX6_between_20 : decode cX6_between 20 = .ok (.iconst 5, 1) := by decide +kernel
theorem dX6_between_21 : decode cX6_between 21 = .ok (.lload 7, 2) := by decide +kernel
theorem dX6_between_23 : decode cX6_between 23 = .ok (.invokevirtual 117, 3) := by decide +kernel
theorem dX6_between_26 : decode cX6_between 26 = .ok (.aload_n 0, 1) := by decide +kernel
theorem dX6_between_27 : decode cX6_between 27 = .ok (.iconst 0, 1) := by decide +kernel
theorem dX6_between_28 : decode cX6_between 28 = .ok (.invokevirtual 97, 3) := by decide +kernel
theorem dX6_between_31 : decode cX6_between 31 = .ok (.aload_n 0, 1) := by decide +kernel
theorem dX6_between_32 : decode cX6_between 32 = .ok (.iconst 0, 1) := by decide +kernel
