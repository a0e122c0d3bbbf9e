theorem dX2_init_0 : decode cX2_init 0 = .ok (.aload_n 0, 1) := by decide +kernel
theorem dX2_init_1 : decode cX2_init 1 = .ok (.invokespecial 3, 3) := by decide +kernel
theorem dX2_init_4 : decode cX2_init 4 = .ok (.aload_n 0, 1) := by decide +kernel
theorem dX2_init_5 : decode cX2_init 5 = .ok (.iconst 0, 1) := by decide +kernel
theorem dX2_init_6 : decode cX2_init 6 = .ok (.putfield 9, 3) := by decide +kernel
theorem dX2_init_9 : decode cX2_init 9 = .ok (.aload_n 0, 1) := by decide +kernel
theorem dX2_init_10 : decode cX2_init 10 = .ok (.bipush 16, 2) := by decide +kernel
theorem dX2_init_12 : decode cX2_init 12 = .ok (.newarray .long, 2) := by decide +kernel
theorem dX2_init_14 : decode cX2_init 14 = .ok (.putfield 15, 3) := by decide +kernel
theorem dX2_init_17 : decode cX2_init 17 = .ok (.aload_n 0, 1) := by decide +kernel
theorem dX2_init_18 : decode cX2_init 18 = .ok (.bipush 16, 2) := by decide +kernel
theorem dX2_init_20 : decode cX2_init 20 = .ok (.newarray .long, 2) := by decide +kernel
theorem dX2_init_22 : decode cX2_init 22 = .ok (.putfield 19, 3) := by decide +kernel
theorem dX2_init_25 : decode cX2_init 25 = .ok (.aload_n 0, 1) := by decide +kernel
theorem dX2_init_26 : decode cX2_init 26 = .ok (.bipush 16, 2) := by decide +kernel
theorem dX2_init_28 : decode cX2_init 28 = .ok (.newarray .int, 2) := by decide +kernel
theorem dX2_init_30 : decode cX2_init 30 = .ok (.putfield 22, 3) := by decide +kernel
theorem dX2_init_33 : decode cX2_init 33 = .ok (.aload_n 0, 1) := by decide +kernel
theorem dX2_init_34 : decode cX2_init 34 = .ok (.bipush 16, 2) := by decide +kernel
theorem dX2_init_36 : decode cX2_init 36 = .ok (.newarray .int, 2) := by decide +kernel
theorem dX2_init_38 : decode cX2_init 38 = .ok (.putfield 26, 3) := by decide +kernel
theorem dX2_init_41 : decode cX2_init 41 = .ok (.aload_n 0, 1) := by decide +kernel
theorem dX2_init_42 : decode cX2_init 42 = .ok (.bipush 16, 2) := by decide +kernel
theorem dX2_init_44 : decode cX2_init 44 = .ok (.newarray .int, 2) := by decide +kernel
theorem dX2_init_46 : decode cX2_init 46 = .ok (.putfield 29, 3) := by decide +kernel
theorem dX2_init_49 : decode cX2_init 49 = .ok (.return_, 1) := by decide +kernel
theorem dX2_clear_0 : decode cX2_clear 0 = .ok (.aload_n 0, 1) := by decide +kernel
theorem dX2_clear_1 : decode cX2_clear 1 = .ok (.iconst 0, 1) := by decide +kernel
theorem dX2_clear_2 : decode cX2_clear 2 = .ok (.putfield 9, 3) := by decide +kernel
theorem dX2_clear_5 : decode cX2_clear 5 = .ok (.return_, 1) := by decide +kernel
set_option maxRecDepth 20000 in
theorem ggX2_add_J7_copyOf_c38d5 : GoodIn wsX2_add wsJ7_copyOf_c38d5 := goodIn_r _ [11, 12, 13, 14, 15, 16, 17, 18, 19, 20, 21, 22, 23, 24, 25, 26] (by decide +kernel) (by decide +kernel)
set_option maxRecDepth 20000 in
theorem gX2_add_J7_copyOf_c38d5 : GoodIn wsX2_add (va_wsS RX2 32 yJ7_copyOf_c38d5 wsJ7_copyOf_c38d5) := goodIn_app (goodIn_of _ (by decide +kernel)) ggX2_add_J7_copyOf_c38d5
set_option maxRecDepth 20000 in
theorem ggX2_add_J7_copyOf_59c91 : GoodIn wsX2_add wsJ7_copyOf_59c91 := goodIn_r _ [29, 30, 31, 14, 15, 32, 33, 6, 19, 20, 21, 22, 23, 24, 25, 26] (by decide +kernel) (by decide +kernel)
set_option maxRecDepth 20000 in
theorem gX2_add_J7_copyOf_59c91 : GoodIn wsX2_add (va_wsS RX2 38 yJ7_copyOf_59c91 wsJ7_copyOf_59c91) := goodIn_app (goodIn_of _ (by decide +kernel)) ggX2_add_J7_copyOf_59c91
theorem dX2_add_0 : decode cX2_add 0 = .ok (.aload_n 0, 1) := by decide +kernel
theorem dX2_add_1 : decode cX2_add 1 = .ok (.getfield 9, 3) := by decide +kernel
theorem dX2_add_4 : decode cX2_add 4 = .ok (.aload_n 0, 1) := by decide +kernel
theorem dX2_add_5 : decode cX2_add 5 = .ok (.getfield 22, 3) := by decide +kernel
theorem dX2_add_8 : decode cX2_add 8 = .ok (.arraylength, 1) := by decide +kernel
theorem dX2_add_9 : decode cX2_add 9 = .ok (.if_icmp .ne 83, 3) := by decide +kernel
theorem dX2_add_12 : decode cX2_add 12 = .ok (.aload_n 0, 1) := by decide +kernel
theorem dX2_add_13 : decode cX2_add 13 = .ok (.aload_n 0, 1) := by decide +kernel
theorem dX2_add_14 : decode cX2_add 14 = .ok (.getfield 15, 3) := by decide +kernel
theorem dX2_add_17 : decode cX2_add 17 = .ok (.iconst 2, 1) := by decide +kernel
theorem dX2_add_18 : decode cX2_add 18 = .ok (.aload_n 0, 1) := by decide +kernel
theorem dX2_add_19 : decode cX2_add 19 = .ok (.getfield 9, 3) := by decide +kernel
theorem dX2_add_22 : decode cX2_add 22 = .ok (.imul, 1) := by decide +kernel
theorem dX2_add_23 : decode cX2_add 23 = .ok (.invokestatic 32, 3) := by decide +kernel
theorem dX2_add_26 : decode cX2_add 26 = .ok (.putfield 15, 3) := by decide +kernel
theorem dX2_add_29 : decode cX2_add 29 = .ok (.aload_n 0, 1) := by decide +kernel
theorem dX2_add_30 : decode cX2_add 30 = .ok (.aload_n 0, 1) := by decide +kernel
theorem dX2_add_31 : decode cX2_add 31 = .ok (.getfield 19, 3) := by decide +kernel
theorem dX2_add_34 : decode cX2_add 34 = .ok (.iconst 2, 1) := by decide +kernel
theorem dX2_add_35 : decode cX2_add 35 = .ok (.aload_n 0, 1) := by decide +kernel
theorem dX2_add_36 : decode cX2_add 36 = .ok (.getfield 9, 3) := by decide +kernel
theorem dX2_add_39 : decode cX2_add 39 = .ok (.imul, 1) := by decide +kernel
theorem dX2_add_40 : decode cX2_add 40 = .ok (.invokestatic 32, 3) := by decide +kernel
theorem dX2_add_43 : decode cX2_add 43 = .ok (.putfield 19, 3) := by decide +kernel
theorem dX2_add_46 : decode cX2_add 46 = .ok (.aload_n 0, 1) := by decide +kernel
theorem dX2_add_47 : decode cX2_add 47 = .ok (.aload_n 0, 1) := by decide +kernel
theorem dX2_add_48 : decode cX2_add 48 = .ok (.getfield 22, 3) := by decide +kernel
theorem dX2_add_51 : decode cX2_add 51 = .ok (.iconst 2, 1) := by decide +kernel
theorem dX2_add_52 : decode cX2_add 52 = .ok (.aload_n 0, 1) := by decide +kernel
theorem dX2_add_53 : decode cX2_add 53 = .ok (.getfield 9, 3) := by decide +kernel
theorem dX2_add_56 : decode cX2_add 56 = .ok (.imul, 1) := by decide +kernel
theorem dX2_add_57 : decode cX2_add 57 = .ok (.invokestatic 38, 3) := by decide +kernel
theorem dX2_add_60 : decode cX2_add 60 = .ok (.putfield 22, 3) := by decide +kernel
theorem dX2_add_63 : decode cX2_add 63 = .ok (.aload_n 0, 1) := by decide +kernel
theorem dX2_add_64 : decode cX2_add 64 = .ok (.aload_n 0, 1) := by decide +kernel
theorem dX2_add_65 : decode cX2_add 65 = .ok (.getfield 26, 3) := by decide +kernel
theorem dX2_add_68 : decode cX2_add 68 = .ok (.iconst 2, 1) := by decide +kernel
theorem dX2_add_69 : decode cX2_add 69 = .ok (.aload_n 0, 1) := by decide +kernel
theorem dX2_add_70 : decode cX2_add 70 = .ok (.getfield 9, 3) := by decide +kernel
theorem dX2_add_73 : decode cX2_add 73 = .ok (.imul, 1) := by decide +kernel
theorem dX2_add_74 : decode cX2_add 74 = .ok (.invokestatic 38, 3) := by decide +kernel
theorem dX2_add_77 : decode cX2_add 77 = .ok (.putfield 26, 3) := by decide +kernel
theorem dX2_add_80 : decode cX2_add 80 = .ok (.aload_n 0, 1) := by decide +kernel
theorem dX2_add_81 : decode cX2_add 81 = .ok (.iconst 2, 1) := by decide +kernel
theorem dX2_add_82 : decode cX2_add 82 = .ok (.aload_n 0, 1) := by decide +kernel
theorem dX2_add_83 : decode cX2_add 83 = .ok (.getfield 9, 3) := by decide +kernel
theorem dX2_add_86 : decode cX2_add 86 = .ok (.imul, 1) := by decide +kernel
theorem dX2_add_87 : decode cX2_add 87 = .ok (.newarray .int, 2) := by decide +kernel
theorem dX2_add_89 : decode cX2_add 89 = .ok (.putfield 29, 3) := by decide +kernel
theorem dX2_add_92 : decode cX2_add 92 = .ok (.aload_n 0, 1) := by decide +kernel
theorem dX2_add_93 : decode cX2_add 93 = .ok (.getfield 15, 3) := by decide +kernel
theorem dX2_add_96 : decode cX2_add 96 = .ok (.aload_n 0, 1) := by decide +kernel
theorem dX2_add_97 : decode cX2_add 97 = .ok (.getfield 9, 3) := by decide +kernel
theorem dX2_add_100 : decode cX2_add 100 = .ok (.lload_n 1, 1) := by decide +kernel
theorem dX2_add_101 : decode cX2_add 101 = .ok (.lastore, 1) := by decide +kernel
theorem dX2_add_102 : decode cX2_add 102 = .ok (.aload_n 0, 1) := by decide +kernel
theorem dX2_add_103 : decode cX2_add 103 = .ok (.getfield 19, 3) := by decide +kernel
theorem dX2_add_106 : decode cX2_add 106 = .ok (.aload_n 0, 1) := by decide +kernel
theorem dX2_add_107 : decode cX2_add 107 = .ok (.getfield 9, 3) := by decide +kernel
theorem dX2_add_110 : decode cX2_add 110 = .ok (.lload_n 3, 1) := by decide +kernel
theorem dX2_add_111 : decode cX2_add 111 = .ok (.lastore, 1) := by decide +kernel
theorem dX2_add_112 : decode cX2_add 112 = .ok (.aload_n 0, 1) := by decide +kernel
theorem dX2_add_113 : decode cX2_add 113 = .ok (.getfield 22, 3) := by decide +kernel
theorem dX2_add_116 : decode cX2_add 116 = .ok (.aload_n 0, 1) := by decide +kernel
theorem dX2_add_117 : decode cX2_add 117 = .ok (.getfield 9, 3) := by decide +kernel
theorem dX2_add_120 : decode cX2_add 120 = .ok (.iload 5, 2) := by decide +kernel
theorem dX2_add_122 : decode cX2_add 122 = .ok (.iastore, 1) := by decide +kernel
theorem dX2_add_123 : decode cX2_add 123 = .ok (.aload_n 0, 1) := by decide +kernel
theorem dX2_add_124 : decode cX2_add 124 = .ok (.getfield 26, 3) := by decide +kernel
theorem dX2_add_127 : decode cX2_add 127 = .ok (.aload_n 0, 1) := by decide +kernel
theorem dX2_add_128 : decode cX2_add 128 = .ok (.getfield 9, 3) := by decide +kernel
theorem dX2_add_131 : decode cX2_add 131 = .ok (.aload_n 0, 1) := by decide +kernel
theorem dX2_add_132 : decode cX2_add 132 = .ok (.getfield 9, 3) := by decide +kernel
theorem dX2_add_135 : decode cX2_add 135 = .ok (.iastore, 1) := by decide +kernel
theorem dX2_add_136 : decode cX2_add 136 = .ok (.aload_n 0, 1) := by decide +kernel
theorem dX2_add_137 : decode cX2_add 137 = .ok (.dup, 1) := by decide +kernel
theorem dX2_add_138 : decode cX2_add 138 = .ok (.getfield 9, 3) := by decide +kernel
theorem dX2_add_141 : decode cX2_add 141 = .ok (.iconst 1, 1) := by decide +kernel
theorem dX2_add_142 : decode cX2_add 142 = .ok (.iadd, 1) := by decide +kernel
theorem dX2_add_143 : decode cX2_add 143 = .ok (.putfield 9, 3) := by decide +kernel
theorem dX2_add_146 : decode cX2_add 146 = .ok (.return_, 1) := by decide +kernel
theorem dX2_sign_0 : decode cX2_sign 0 = .ok (.aload_n 0, 1) := by decide +kernel
theorem dX2_sign_1 : decode cX2_sign 1 = .ok (.getfield 22, 3) := by decide +kernel
theorem dX2_sign_4 : decode cX2_sign 4 = .ok (.aload_n 0, 1) := by decide +kernel
theorem dX2_sign_5 : decode cX2_sign 5 = .ok (.getfield 26, 3) := by decide +kernel
theorem dX2_sign_8 : decode cX2_sign 8 = .ok (.iload_n 1, 1) := by decide +kernel
theorem dX2_sign_9 : decode cX2_sign 9 = .ok (.iaload, 1) := by decide +kernel
theorem dX2_sign_10 : decode cX2_sign 10 = .ok (.iaload, 1) := by decide +kernel
theorem dX2_sign_11 : decode cX2_sign 11 = .ok (.ireturn, 1) := by decide +kernel
set_option maxRecDepth 20000 in
theorem ggX2_isLastOfItsPlace_X2_compare : GoodIn wsX2_isLastOfItsPlace wsX2_compare := goodIn_r _ [7, 8, 9, 10, 11, 12, 13, 14, 15, 16, 6, 17, 18, 19, 20, 21, 22, 23, 24] (by decide +kernel) (by decide +kernel)
set_option maxRecDepth 20000 in
theorem gX2_isLastOfItsPlace_X2_compare : GoodIn wsX2_isLastOfItsPlace (wsV RX2 41 RX2 yX2_compare wsX2_compare) := goodIn_app (goodIn_of _ (by decide +kernel)) ggX2_isLastOfItsPlace_X2_compare
theorem dX2_isLastOfItsPlace_0 : decode cX2_isLastOfItsPlace 0 = .ok (.iload_n 1, 1) := by decide +kernel
theorem dX2_isLastOfItsPlace_1 : decode cX2_isLastOfItsPlace 1 = .ok (.iconst 1, 1) := by decide +kernel
theorem dX2_isLastOfItsPlace_2 : decode cX2_isLastOfItsPlace 2 = .ok (.iadd, 1) := by decide +kernel
theorem dX2_isLastOfItsPlace_3 : decode cX2_isLastOfItsPlace 3 = .ok (.aload_n 0, 1) := by decide +kernel
theorem dX2_isLastOfItsPlace_4 : decode cX2_isLastOfItsPlace 4 = .ok (.getfield 9, 3) := by decide +kernel
theorem dX2_isLastOfItsPlace_7 : decode cX2_isLastOfItsPlace 7 = .ok (.if_icmp .ge 24, 3) := by decide +kernel
theorem dX2_isLastOfItsPlace_10 : decode cX2_isLastOfItsPlace 10 = .ok (.aload_n 0, 1) := by decide +kernel
theorem dX2_isLastOfItsPlace_11 : decode cX2_isLastOfItsPlace 11 = .ok (.aload_n 0, 1) := by decide +kernel
theorem dX2_isLastOfItsPlace_12 : decode cX2_isLastOfItsPlace 12 = .ok (.getfield 26, 3) := by decide +kernel
theorem dX2_isLastOfItsPlace_15 : decode cX2_isLastOfItsPlace 15 = .ok (.iload_n 1, 1) := by decide +kernel
theorem dX2_isLastOfItsPlace_16 : decode cX2_isLastOfItsPlace 16 = .ok (.iaload, 1) := by decide +kernel
theorem dX2_isLastOfItsPlace_17 : decode cX2_isLastOfItsPlace 17 = .ok (.aload_n 0, 1) := by decide +kernel
theorem dX2_isLastOfItsPlace_18 : decode cX2_isLastOfItsPlace 18 = .ok (.getfield 26, 3) := by decide +kernel
theorem dX2_isLastOfItsPlace_21 : decode cX2_isLastOfItsPlace 21 = .ok (.iload_n 1, 1) := by decide +kernel
theorem dX2_isLastOfItsPlace_22 : decode cX2_isLastOfItsPlace 22 = .ok (.iconst 1, 1) := by decide +kernel
theorem dX2_isLastOfItsPlace_23 : decode cX2_isLastOfItsPlace 23 = .ok (.iadd, 1) := by decide +kernel
theorem dX2_isLastOfItsPlace_24 : decode cX2_isLastOfItsPlace 24 = .ok (.iaload, 1) := by decide +kernel
theorem dX2_isLastOfItsPlace_25 : decode cX2_isLastOfItsPlace 25 = .ok (.invokevirtual 41, 3) := by decide +kernel
theorem dX2_isLastOfItsPlace_28 : decode cX2_isLastOfItsPlace 28 = .ok (.ifCond .eq 7, 3) := by decide +kernel
theorem dX2_isLastOfItsPlace_31 : decode cX2_isLastOfItsPlace 31 = .ok (.iconst 1, 1) := by decide +kernel
theorem dX2_isLastOfItsPlace_32 : decode cX2_isLastOfItsPlace 32 = .ok (.goto 4, 3) := by decide +kernel
theorem dX2_isLastOfItsPlace_35 : decode cX2_isLastOfItsPlace 35 = .ok (.iconst 0, 1) := by decide +kernel
theorem dX2_isLastOfItsPlace_36 : decode cX2_isLastOfItsPlace 36 = .ok (.ireturn, 1) := by decide +kernel
set_option maxRecDepth 20000 in
theorem ggX2_sort_X2_merge : GoodIn wsX2_sort wsX2_merge := goodIn_r _ [12, 7, 6, 13, 14, 15, 11, 16, 17, 18, 19, 20, 21, 22, 23, 24, 25, 26, 27, 28, 29, 30, 31, 32, 33] (by decide +kernel) (by decide +kernel)
set_option maxRecDepth 20000 in
theorem gX2_sort_X2_merge : GoodIn wsX2_sort (wsV RX2 50 RX2 yX2_merge wsX2_merge) := goodIn_app (goodIn_of _ (by decide +kernel)) ggX2_sort_X2_merge
theorem dX2_sort_0 : decode cX2_sort 0 = .ok (.iconst 1, 1) := by decide +kernel
theorem dX2_sort_1 : decode cX2_sort 1 = .ok (.istore_n 1, 1) := by decide +kernel
theorem dX2_sort_2 : decode cX2_sort 2 = .ok (.iload_n 1, 1) := by decide +kernel
theorem dX2_sort_3 : decode cX2_sort 3 = .ok (.aload_n 0, 1) := by decide +kernel
theorem dX2_sort_4 : decode cX2_sort 4 = .ok (.getfield 9, 3) := by decide +kernel
theorem dX2_sort_7 : decode cX2_sort 7 = .ok (.if_icmp .ge 74, 3) := by decide +kernel
theorem dX2_sort_10 : decode cX2_sort 10 = .ok (.iconst 0, 1) := by decide +kernel
theorem dX2_sort_11 : decode cX2_sort 11 = .ok (.istore_n 2, 1) := by decide +kernel
theorem dX2_sort_12 : decode cX2_sort 12 = .ok (.iload_n 2, 1) := by decide +kernel
theorem dX2_sort_13 : decode cX2_sort 13 = .ok (.aload_n 0, 1) := by decide +kernel
theorem dX2_sort_14 : decode cX2_sort 14 = .ok (.getfield 9, 3) := by decide +kernel
theorem dX2_sort_17 : decode cX2_sort 17 = .ok (.if_icmp .ge 39, 3) := by decide +kernel
theorem dX2_sort_20 : decode cX2_sort 20 = .ok (.aload_n 0, 1) := by decide +kernel
theorem dX2_sort_21 : decode cX2_sort 21 = .ok (.iload_n 2, 1) := by decide +kernel
theorem dX2_sort_22 : decode cX2_sort 22 = .ok (.iload_n 2, 1) := by decide +kernel
theorem dX2_sort_23 : decode cX2_sort 23 = .ok (.iload_n 1, 1) := by decide +kernel
theorem dX2_sort_24 : decode cX2_sort 24 = .ok (.iadd, 1) := by decide +kernel
theorem dX2_sort_25 : decode cX2_sort 25 = .ok (.aload_n 0, 1) := by decide +kernel
theorem dX2_sort_26 : decode cX2_sort 26 = .ok (.getfield 9, 3) := by decide +kernel
theorem dX2_sort_29 : decode cX2_sort 29 = .ok (.invokestatic 45, 3) := by decide +kernel
theorem dX2_sort_32 : decode cX2_sort 32 = .ok (.iload_n 2, 1) := by decide +kernel
theorem dX2_sort_33 : decode cX2_sort 33 = .ok (.iconst 2, 1) := by decide +kernel
theorem dX2_sort_34 : decode cX2_sort 34 = .ok (.iload_n 1, 1) := by decide +kernel
theorem dX2_sort_35 : decode cX2_sort 35 = .ok (.imul, 1) := by decide +kernel
theorem dX2_sort_36 : decode cX2_sort 36 = .ok (.iadd, 1) := by decide +kernel
theorem dX2_sort_37 : decode cX2_sort 37 = .ok (.aload_n 0, 1) := by decide +kernel
theorem dX2_sort_38 : decode cX2_sort 38 = .ok (.getfield 9, 3) := by decide +kernel
theorem dX2_sort_41 : decode cX2_sort 41 = .ok (.invokestatic 45, 3) := by decide +kernel
theorem dX2_sort_44 : decode cX2_sort 44 = .ok (.invokevirtual 50, 3) := by decide +kernel
theorem dX2_sort_47 : decode cX2_sort 47 = .ok (.iload_n 2, 1) := by decide +kernel
theorem dX2_sort_48 : decode cX2_sort 48 = .ok (.iconst 2, 1) := by decide +kernel
theorem dX2_sort_49 : decode cX2_sort 49 = .ok (.iload_n 1, 1) := by decide +kernel
theorem dX2_sort_50 : decode cX2_sort 50 = .ok (.imul, 1) := by decide +kernel
theorem dX2_sort_51 : decode cX2_sort 51 = .ok (.iadd, 1) := by decide +kernel
theorem dX2_sort_52 : decode cX2_sort 52 = .ok (.istore_n 2, 1) := by decide +kernel
theorem dX2_sort_53 : decode cX2_sort 53 = .ok (.goto (-41), 3) := by decide +kernel
theorem dX2_sort_56 : decode cX2_sort 56 = .ok (.aload_n 0, 1) := by decide +kernel
theorem dX2_sort_57 : decode cX2_sort 57 = .ok (.getfield 29, 3) := by decide +kernel
theorem dX2_sort_60 : decode cX2_sort 60 = .ok (.astore_n 2, 1) := by decide +kernel
theorem dX2_sort_61 : decode cX2_sort 61 = .ok (.aload_n 0, 1) := by decide +kernel
theorem dX2_sort_62 : decode cX2_sort 62 = .ok (.aload_n 0, 1) := by decide +kernel
theorem dX2_sort_63 : decode cX2_sort 63 = .ok (.getfield 26, 3) := by decide +kernel
theorem dX2_sort_66 : decode cX2_sort 66 = .ok (.putfield 29, 3) := by decide +kernel
theorem dX2_sort_69 : decode cX2_sort 69 = .ok (.aload_n 0, 1) := by decide +kernel
theorem dX2_sort_70 : decode cX2_sort 70 = .ok (.aload_n 2, 1) := by decide +kernel
theorem dX2_sort_71 : decode cX2_sort 71 = .ok (.putfield 26, 3) := by decide +kernel
theorem dX2_sort_74 : decode cX2_sort 74 = .ok (.iconst 2, 1) := by decide +kernel
theorem dX2_sort_75 : decode cX2_sort 75 = .ok (.iload_n 1, 1) := by decide +kernel
theorem dX2_sort_76 : decode cX2_sort 76 = .ok (.imul, 1) := by decide +kernel
theorem dX2_sort_77 : decode cX2_sort 77 = .ok (.istore_n 1, 1) := by decide +kernel
theorem dX2_sort_78 : decode cX2_sort 78 = .ok (.goto (-76), 3) := by decide +kernel
theorem dX2_sort_81 : decode cX2_sort 81 = .ok (.return_, 1) := by decide +kernel
set_option maxRecDepth 20000 in
theorem ggX2_merge_X2_compare : GoodIn wsX2_merge wsX2_compare := goodIn_r _ [7, 8, 9, 10, 11, 12, 13, 14, 15, 16, 6, 17, 18, 19, 20, 21, 22, 23, 24] (by decide +kernel) (by decide +kernel)
set_option maxRecDepth 20000 in
theorem gX2_merge_X2_compare : GoodIn wsX2_merge (wsV RX2 41 RX2 yX2_compare wsX2_compare) := goodIn_app (goodIn_of _ (by decide +kernel)) ggX2_merge_X2_compare
theorem dX2_merge_0 : decode cX2_merge 0 = .ok (.iload_n 1, 1) := by decide +kernel
theorem dX2_merge_1 : decode cX2_merge 1 = .ok (.istore 4, 2) := by decide +kernel
theorem dX2_merge_3 : decode cX2_merge 3 = .ok (.iload_n 2, 1) := by decide +kernel
theorem dX2_merge_4 : decode cX2_merge 4 = .ok (.istore 5, 2) := by decide +kernel
theorem dX2_merge_6 : decode cX2_merge 6 = .ok (.iload_n 1, 1) := by decide +kernel
theorem dX2_merge_7 : decode cX2_merge 7 = .ok (.istore 6, 2) := by decide +kernel
theorem dX2_merge_9 : decode cX2_merge 9 = .ok (.iload 6, 2) := by decide +kernel
theorem dX2_merge_11 : decode cX2_merge 11 = .ok (.iload_n 3, 1) := by decide +kernel
theorem dX2_merge_12 : decode cX2_merge 12 = .ok (.if_icmp .ge 91, 3) := by decide +kernel
theorem dX2_merge_15 : decode cX2_merge 15 = .ok (.iload 5, 2) := by decide +kernel
theorem dX2_merge_17 : decode cX2_merge 17 = .ok (.iload_n 3, 1) := by decide +kernel
theorem dX2_merge_18 : decode cX2_merge 18 = .ok (.if_icmp .ge 30, 3) := by decide +kernel
theorem dX2_merge_21 : decode cX2_merge 21 = .ok (.iload 4, 2) := by decide +kernel
theorem dX2_merge_23 : decode cX2_merge 23 = .ok (.iload_n 2, 1) := by decide +kernel
theorem dX2_merge_24 : decode cX2_merge 24 = .ok (.if_icmp .ge 28, 3) := by decide +kernel
theorem dX2_merge_27 : decode cX2_merge 27 = .ok (.aload_n 0, 1) := by decide +kernel
theorem dX2_merge_28 : decode cX2_merge 28 = .ok (.aload_n 0, 1) := by decide +kernel
theorem dX2_merge_29 : decode cX2_merge 29 = .ok (.getfield 26, 3) := by decide +kernel
theorem dX2_merge_32 : decode cX2_merge 32 = .ok (.iload 4, 2) := by decide +kernel
theorem dX2_merge_34 : decode cX2_merge 34 = .ok (.iaload, 1) := by decide +kernel
theorem dX2_merge_35 : decode cX2_merge 35 = .ok (.aload_n 0, 1) := by decide +kernel
theorem dX2_merge_36 : decode cX2_merge 36 = .ok (.getfield 26, 3) := by decide +kernel
theorem dX2_merge_39 : decode cX2_merge 39 = .ok (.iload 5, 2) := by decide +kernel
theorem dX2_merge_41 : decode cX2_merge 41 = .ok (.iaload, 1) := by decide +kernel
theorem dX2_merge_42 : decode cX2_merge 42 = .ok (.invokevirtual 41, 3) := by decide +kernel
theorem dX2_merge_45 : decode cX2_merge 45 = .ok (.ifCond .gt 7, 3) := by decide +kernel
theorem dX2_merge_48 : decode cX2_merge 48 = .ok (.iconst 1, 1) := by decide +kernel
theorem dX2_merge_49 : decode cX2_merge 49 = .ok (.goto 4, 3) := by decide +kernel
theorem dX2_merge_52 : decode cX2_merge 52 = .ok (.iconst 0, 1) := by decide +kernel
theorem dX2_merge_53 : decode cX2_merge 53 = .ok (.istore 7, 2) := by decide +kernel
theorem dX2_merge_55 : decode cX2_merge 55 = .ok (.iload 7, 2) := by decide +kernel
theorem dX2_merge_57 : decode cX2_merge 57 = .ok (.ifCond .eq 23, 3) := by decide +kernel
theorem dX2_merge_60 : decode cX2_merge 60 = .ok (.aload_n 0, 1) := by decide +kernel
theorem dX2_merge_61 : decode cX2_merge 61 = .ok (.getfield 29, 3) := by decide +kernel
theorem dX2_merge_64 : decode cX2_merge 64 = .ok (.iload 6, 2) := by decide +kernel
theorem dX2_merge_66 : decode cX2_merge 66 = .ok (.aload_n 0, 1) := by decide +kernel
theorem dX2_merge_67 : decode cX2_merge 67 = .ok (.getfield 26, 3) := by decide +kernel
theorem dX2_merge_70 : decode cX2_merge 70 = .ok (.iload 4, 2) := by decide +kernel
theorem dX2_merge_72 : decode cX2_merge 72 = .ok (.iaload, 1) := by decide +kernel
theorem dX2_merge_73 : decode cX2_merge 73 = .ok (.iastore, 1) := by decide +kernel
theorem dX2_merge_74 : decode cX2_merge 74 = .ok (.iinc 4 1, 3) := by decide +kernel
theorem dX2_merge_77 : decode cX2_merge 77 = .ok (.goto 20, 3) := by decide +kernel
theorem dX2_merge_80 : decode cX2_merge 80 = .ok (.aload_n 0, 1) := by decide +kernel
theorem dX2_merge_81 : decode cX2_merge 81 = .ok (.getfield 29, 3) := by decide +kernel
theorem dX2_merge_84 : decode cX2_merge 84 = .ok (.iload 6, 2) := by decide +kernel
theorem dX2_merge_86 : decode cX2_merge 86 = .ok (.aload_n 0, 1) := by decide +kernel
theorem dX2_merge_87 : decode cX2_merge 87 = .ok (.getfield 26, 3) := by decide +kernel
theorem dX2_merge_90 : decode cX2_merge 90 = .ok (.iload 5, 2) := by decide +kernel
theorem dX2_merge_92 : decode cX2_merge 92 = .ok (.iaload, 1) := by decide +kernel
theorem dX2_merge_93 : decode cX2_merge 93 = .ok (.iastore, 1) := by decide +kernel
theorem dX2_merge_94 : decode cX2_merge 94 = .ok (.iinc 5 1, 3) := by decide +kernel
theorem dX2_merge_97 : decode cX2_merge 97 = .ok (.iinc 6 1, 3) := by decide +kernel
theorem dX2_merge_100 : decode cX2_merge 100 = .ok (.goto (-91), 3) := by decide +kernel
theorem dX2_merge_103 : decode cX2_merge 103 = .ok (.return_, 1) := by decide +kernel
set_option maxRecDepth 20000 in
theorem ggX2_compare_J13_compare_74951 : GoodIn wsX2_compare wsJ13_compare_74951 := goodIn_r _ [7] (by decide +kernel) (by decide +kernel)
set_option maxRecDepth 20000 in
theorem gX2_compare_J13_compare_74951 : GoodIn wsX2_compare (va_wsS RX2 54 yJ13_compare_74951 wsJ13_compare_74951) := goodIn_app (goodIn_of _ (by decide +kernel)) ggX2_compare_J13_compare_74951
set_option maxRecDepth 20000 in
theorem ggX2_compare_X2_highOfProduct : GoodIn wsX2_compare wsX2_highOfProduct := goodIn_r _ [11, 12] (by decide +kernel) (by decide +kernel)
set_option maxRecDepth 20000 in
theorem gX2_compare_X2_highOfProduct : GoodIn wsX2_compare (va_wsS RX2 59 yX2_highOfProduct wsX2_highOfProduct) := goodIn_app (goodIn_of _ (by decide +kernel)) ggX2_compare_X2_highOfProduct
theorem dX2_compare_0 : decode cX2_compare 0 = .ok (.aload_n 0, 1) := by decide +kernel
theorem dX2_compare_1 : decode cX2_compare 1 = .ok (.getfield 19, 3) := by decide +kernel
theorem dX2_compare_4 : decode cX2_compare 4 = .ok (.iload_n 1, 1) := by decide +kernel
theorem dX2_compare_5 : decode cX2_compare 5 = .ok (.laload, 1) := by decide +kernel
theorem dX2_compare_6 : decode cX2_compare 6 = .ok (.aload_n 0, 1) := by decide +kernel
theorem dX2_compare_7 : decode cX2_compare 7 = .ok (.getfield 19, 3) := by decide +kernel
theorem dX2_compare_10 : decode cX2_compare 10 = .ok (.iload_n 2, 1) := by decide +kernel
theorem dX2_compare_11 : decode cX2_compare 11 = .ok (.laload, 1) := by decide +kernel
theorem dX2_compare_12 : decode cX2_compare 12 = .ok (.lcmp, 1) := by decide +kernel
theorem dX2_compare_13 : decode cX2_compare 13 = .ok (.ifCond .ne 19, 3) := by decide +kernel
theorem dX2_compare_16 : decode cX2_compare 16 = .ok (.aload_n 0, 1) := by decide +kernel
theorem dX2_compare_17 : decode cX2_compare 17 = .ok (.getfield 15, 3) := by decide +kernel
theorem dX2_compare_20 : decode cX2_compare 20 = .ok (.iload_n 1, 1) := by decide +kernel
theorem dX2_compare_21 : decode cX2_compare 21 = .ok (.laload, 1) := by decide +kernel
theorem dX2_compare_22 : decode cX2_compare 22 = .ok (.aload_n 0, 1) := by decide +kernel
theorem dX2_compare_23 : decode cX2_compare 23 = .ok (.getfield 15, 3) := by decide +kernel
theorem dX2_compare_26 : decode cX2_compare 26 = .ok (.iload_n 2, 1) := by decide +kernel
theorem dX2_compare_27 : decode cX2_compare 27 = .ok (.laload, 1) := by decide +kernel
theorem dX2_compare_28 : decode cX2_compare 28 = .ok (.invokestatic 54, 3) := by decide +kernel
theorem dX2_compare_31 : decode cX2_compare 31 = .ok (.ireturn, 1) := by decide +kernel
theorem dX2_compare_32 : decode cX2_compare 32 = .ok (.aload_n 0, 1) := by decide +kernel
theorem dX2_compare_33 : decode cX2_compare 33 = .ok (.getfield 15, 3) := by decide +kernel
theorem dX2_compare_36 : decode cX2_compare 36 = .ok (.iload_n 1, 1) := by decide +kernel
theorem dX2_compare_37 : decode cX2_compare 37 = .ok (.laload, 1) := by decide +kernel
theorem dX2_compare_38 : decode cX2_compare 38 = .ok (.aload_n 0, 1) := by decide +kernel
theorem dX2_compare_39 : decode cX2_compare 39 = .ok (.getfield 19, 3) := by decide +kernel
theorem dX2_compare_42 : decode cX2_compare 42 = .ok (.iload_n 2, 1) := by decide +kernel
theorem dX2_compare_43 : decode cX2_compare 43 = .ok (.laload, 1) := by decide +kernel
theorem dX2_compare_44 : decode cX2_compare 44 = .ok (.invokestatic 59, 3) := by decide +kernel
theorem dX2_compare_47 : decode cX2_compare 47 = .ok (.lstore_n 3, 1) := by decide +kernel
theorem dX2_compare_48 : decode cX2_compare 48 = .ok (.aload_n 0, 1) := by decide +kernel
theorem dX2_compare_49 : decode cX2_compare 49 = .ok (.getfield 15, 3) := by decide +kernel
theorem dX2_compare_52 : decode cX2_compare 52 = .ok (.iload_n 2, 1) := by decide +kernel
theorem dX2_compare_53 : decode cX2_compare 53 = .ok (.laload, 1) := by decide +kernel
theorem dX2_compare_54 : decode cX2_compare 54 = .ok (.aload_n 0, 1) := by decide +kernel
theorem dX2_compare_55 : decode cX2_compare 55 = .ok (.getfield 19, 3) := by decide +kernel
theorem dX2_compare_58 : decode cX2_compare 58 = .ok (.iload_n 1, 1) := by decide +kernel
theorem dX2_compare_59 : decode cX2_compare 59 = .ok (.laload, 1) := by decide +kernel
theorem dX2_compare_60 : decode cX2_compare 60 = .ok (.invokestatic 59, 3) := by decide +kernel
theorem dX2_compare_63 : decode cX2_compare 63 = .ok (.lstore 5, 2) := by decide +kernel
theorem dX2_compare_65 : decode cX2_compare 65 = .ok (.lload_n 3, 1) := by decide +kernel
theorem dX2_compare_66 : decode cX2_compare 66 = .ok (.lload 5, 2) := by decide +kernel
theorem dX2_compare_68 : decode cX2_compare 68 = .ok (.lcmp, 1) := by decide +kernel
theorem dX2_compare_69 : decode cX2_compare 69 = .ok (.ifCond .eq 10, 3) := by decide +kernel
theorem dX2_compare_72 : decode cX2_compare 72 = .ok (.lload_n 3, 1) := by decide +kernel
theorem dX2_compare_73 : decode cX2_compare 73 = .ok (.lload 5, 2) := by decide +kernel
theorem dX2_compare_75 : decode cX2_compare 75 = .ok (.invokestatic 54, 3) := by decide +kernel
theorem dX2_compare_78 : decode cX2_compare 78 = .ok (.ireturn, 1) := by decide +kernel
theorem dX2_compare_79 : decode cX2_compare 79 = .ok (.aload_n 0, 1) := by decide +kernel
theorem dX2_compare_80 : decode cX2_compare 80 = .ok (.getfield 15, 3) := by decide +kernel
theorem dX2_compare_83 : decode cX2_compare 83 = .ok (.iload_n 1, 1) := by decide +kernel
theorem dX2_compare_84 : decode cX2_compare 84 = .ok (.laload, 1) := by decide +kernel
theorem dX2_compare_85 : decode cX2_compare 85 = .ok (.aload_n 0, 1) := by decide +kernel
theorem dX2_compare_86 : decode cX2_compare 86 = .ok (.getfield 19, 3) := by decide +kernel
theorem dX2_compare_89 : decode cX2_compare 89 = .ok (.iload_n 2, 1) := by decide +kernel
theorem dX2_compare_90 : decode cX2_compare 90 = .ok (.laload, 1) := by decide +kernel
theorem dX2_compare_91 : decode cX2_compare 91 = .ok (.lmul, 1) := by decide +kernel
theorem dX2_compare_92 : decode cX2_compare 92 = .ok (.ldc2_w 63, 3) := by decide +kernel
theorem dX2_compare_95 : decode cX2_compare 95 = .ok (.land, 1) := by decide +kernel
theorem dX2_compare_96 : decode cX2_compare 96 = .ok (.aload_n 0, 1) := by decide +kernel
theorem dX2_compare_97 : decode cX2_compare 97 = .ok (.getfield 15, 3) := by decide +kernel
theorem dX2_compare_100 : decode cX2_compare 100 = .ok (.iload_n 2, 1) := by decide +kernel
theorem dX2_compare_101 : decode cX2_compare 101 = .ok (.laload, 1) := by decide +kernel
theorem dX2_compare_102 : decode cX2_compare 102 = .ok (.aload_n 0, 1) := by decide +kernel
theorem dX2_compare_103 : decode cX2_compare 103 = .ok (.getfield 19, 3) := by decide +kernel
theorem dX2_compare_106 : decode cX2_compare 106 = .ok (.iload_n 1, 1) := by decide +kernel
theorem dX2_compare_107 : decode cX2_compare 107 = .ok (.laload, 1) := by decide +kernel
theorem dX2_compare_108 : decode cX2_compare 108 = .ok (.lmul, 1) := by decide +kernel
theorem dX2_compare_109 : decode cX2_compare 109 = .ok (.ldc2_w 63, 3) := by decide +kernel
theorem dX2_compare_112 : decode cX2_compare 112 = .ok (.land, 1) := by decide +kernel
theorem dX2_compare_113 : decode cX2_compare 113 = .ok (.invokestatic 54, 3) := by decide +kernel
theorem dX2_compare_116 : decode cX2_compare 116 = .ok (.ireturn, 1) := by decide +kernel
theorem dX2_highOfProduct_0 : decode cX2_highOfProduct 0 = .ok (.lload_n 0, 1) := by decide +kernel
theorem dX2_highOfProduct_1 : decode cX2_highOfProduct 1 = .ok (.bipush 31, 2) := by decide +kernel
theorem dX2_highOfProduct_3 : decode cX2_highOfProduct 3 = .ok (.lshr, 1) := by decide +kernel
theorem dX2_highOfProduct_4 : decode cX2_highOfProduct 4 = .ok (.lstore 4, 2) := by decide +kernel
theorem dX2_highOfProduct_6 : decode cX2_highOfProduct 6 = .ok (.lload_n 0, 1) := by decide +kernel
theorem dX2_highOfProduct_7 : decode cX2_highOfProduct 7 = .ok (.ldc2_w 65, 3) := by decide +kernel
theorem dX2_highOfProduct_10 : decode cX2_highOfProduct 10 = .ok (.land, 1) := by decide +kernel
theorem dX2_highOfProduct_11 : decode cX2_highOfProduct 11 = .ok (.lstore 6, 2) := by decide +kernel
theorem dX2_highOfProduct_13 : decode cX2_highOfProduct 13 = .ok (.lload_n 2, 1) := by decide +kernel
theorem dX2_highOfProduct_14 : decode cX2_highOfProduct 14 = .ok (.bipush 31, 2) := by decide +kernel
theorem dX2_highOfProduct_16 : decode cX2_highOfProduct 16 = .ok (.lshr, 1) := by decide +kernel
theorem dX2_highOfProduct_17 : decode cX2_highOfProduct 17 = .ok (.lstore 8, 2) := by decide +kernel
theorem dX2_highOfProduct_19 : decode cX2_highOfProduct 19 = .ok (.lload_n 2, 1) := by decide +kernel
theorem dX2_highOfProduct_20 : decode cX2_highOfProduct 20 = .ok (.ldc2_w 65, 3) := by decide +kernel
theorem dX2_highOfProduct_23 : decode cX2_highOfProduct 23 = .ok (.land, 1) := by decide +kernel
theorem dX2_highOfProduct_24 : decode cX2_highOfProduct 24 = .ok (.lstore 10, 2) := by decide +kernel
theorem dX2_highOfProduct_26 : decode cX2_highOfProduct 26 = .ok (.lload 4, 2) := by decide +kernel
theorem dX2_highOfProduct_28 : decode cX2_highOfProduct 28 = .ok (.lload 10, 2) := by decide +kernel
theorem dX2_highOfProduct_30 : decode cX2_highOfProduct 30 = .ok (.lmul, 1) := by decide +kernel
theorem dX2_highOfProduct_31 : decode cX2_highOfProduct 31 = .ok (.lload 6, 2) := by decide +kernel
theorem dX2_highOfProduct_33 : decode cX2_highOfProduct 33 = .ok (.lload 8, 2) := by decide +kernel
theorem dX2_highOfProduct_35 : decode cX2_highOfProduct 35 = .ok (.lmul, 1) := by decide +kernel
theorem dX2_highOfProduct_36 : decode cX2_highOfProduct 36 = .ok (.ladd, 1) := by decide +kernel
theorem dX2_highOfProduct_37 : decode cX2_highOfProduct 37 = .ok (.lstore 12, 2) := by decide +kernel
theorem dX2_highOfProduct_39 : decode cX2_highOfProduct 39 = .ok (.lload 6, 2) := by decide +kernel
theorem dX2_highOfProduct_41 : decode cX2_highOfProduct 41 = .ok (.lload 10, 2) := by decide +kernel
theorem dX2_highOfProduct_43 : decode cX2_highOfProduct 43 = .ok (.lmul, 1) := by decide +kernel
theorem dX2_highOfProduct_44 : decode cX2_highOfProduct 44 = .ok (.lload 12, 2) := by decide +kernel
theorem dX2_highOfProduct_46 : decode cX2_highOfProduct 46 = .ok (.ldc2_w 65, 3) := by decide +kernel
theorem dX2_highOfProduct_49 : decode cX2_highOfProduct 49 = .ok (.land, 1) := by decide +kernel
theorem dX2_highOfProduct_50 : decode cX2_highOfProduct 50 = .ok (.bipush 31, 2) := by decide +kernel
theorem dX2_highOfProduct_52 : decode cX2_highOfProduct 52 = .ok (.lshl, 1) := by decide +kernel
theorem dX2_highOfProduct_53 : decode cX2_highOfProduct 53 = .ok (.ladd, 1) := by decide +kernel
theorem dX2_highOfProduct_54 : decode cX2_highOfProduct 54 = .ok (.lstore 14, 2) := by decide +kernel
theorem dX2_highOfProduct_56 : decode cX2_highOfProduct 56 = .ok (.lload 4, 2) := by decide +kernel
theorem dX2_highOfProduct_58 : decode cX2_highOfProduct 58 = .ok (.lload 8, 2) := by decide +kernel
theorem dX2_highOfProduct_60 : decode cX2_highOfProduct 60 = .ok (.lmul, 1) := by decide +kernel
theorem dX2_highOfProduct_61 : decode cX2_highOfProduct 61 = .ok (.lload 12, 2) := by decide +kernel
theorem dX2_highOfProduct_63 : decode cX2_highOfProduct 63 = .ok (.bipush 31, 2) := by decide +kernel
theorem dX2_highOfProduct_65 : decode cX2_highOfProduct 65 = .ok (.lushr, 1) := by decide +kernel
theorem dX2_highOfProduct_66 : decode cX2_highOfProduct 66 = .ok (.ladd, 1) := by decide +kernel
theorem dX2_highOfProduct_67 : decode cX2_highOfProduct 67 = .ok (.lload 14, 2) := by decide +kernel
theorem dX2_highOfProduct_69 : decode cX2_highOfProduct 69 = .ok (.bipush 62, 2) := by decide +kernel
theorem dX2_highOfProduct_71 : decode cX2_highOfProduct 71 = .ok (.lushr, 1) := by decide +kernel
theorem dX2_highOfProduct_72 : decode cX2_highOfProduct 72 = .ok (.ladd, 1) := by decide +kernel
theorem dX2_highOfProduct_73 : decode cX2_highOfProduct 73 = .ok (.lreturn, 1) := by decide +kernel
