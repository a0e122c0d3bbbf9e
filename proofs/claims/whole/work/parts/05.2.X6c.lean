theorem dX6_cut_73 : decode cX6_cut 73 = .ok (.aload_n 0, 1) := by decide +kernel
theorem dX6_cut_74 : decode cX6_cut 74 = .ok (.getfield 176, 3) := by decide +kernel
theorem dX6_cut_77 : decode cX6_cut 77 = .ok (.istore 7, 2) := by decide +kernel
theorem dX6_cut_79 : decode cX6_cut 79 = .ok (.iload 7, 2) := by decide +kernel
theorem dX6_cut_81 : decode cX6_cut 81 = .ok (.iload 5, 2) := by decide +kernel
theorem dX6_cut_83 : decode cX6_cut 83 = .ok (.if_icmp .le 41, 3) := by decide +kernel
theorem dX6_cut_86 : decode cX6_cut 86 = .ok (.aload_n 0, 1) := by decide +kernel
theorem dX6_cut_87 : decode cX6_cut 87 = .ok (.getfield 48, 3) := by decide +kernel
theorem dX6_cut_90 : decode cX6_cut 90 = .ok (.iload 7, 2) := by decide +kernel
theorem dX6_cut_92 : decode cX6_cut 92 = .ok (.aload_n 0, 1) := by decide +kernel
theorem dX6_cut_93 : decode cX6_cut 93 = .ok (.getfield 48, 3) := by decide +kernel
theorem dX6_cut_96 : decode cX6_cut 96 = .ok (.iload 7, 2) := by decide +kernel
theorem dX6_cut_98 : decode cX6_cut 98 = .ok (.iconst 1, 1) := by decide +kernel
theorem dX6_cut_99 : decode cX6_cut 99 = .ok (.isub, 1) := by decide +kernel
theorem dX6_cut_100 : decode cX6_cut 100 = .ok (.laload, 1) := by decide +kernel
theorem dX6_cut_101 : decode cX6_cut 101 = .ok (.lastore, 1) := by decide +kernel
theorem dX6_cut_102 : decode cX6_cut 102 = .ok (.aload_n 0, 1) := by decide +kernel
theorem dX6_cut_103 : decode cX6_cut 103 = .ok (.getfield 51, 3) := by decide +kernel
theorem dX6_cut_106 : decode cX6_cut 106 = .ok (.iload 7, 2) := by decide +kernel
theorem dX6_cut_108 : decode cX6_cut 108 = .ok (.aload_n 0, 1) := by decide +kernel
theorem dX6_cut_109 : decode cX6_cut 109 = .ok (.getfield 51, 3) := by decide +kernel
theorem dX6_cut_112 : decode cX6_cut 112 = .ok (.iload 7, 2) := by decide +kernel
theorem dX6_cut_114 : decode cX6_cut 114 = .ok (.iconst 1, 1) := by decide +kernel
theorem dX6_cut_115 : decode cX6_cut 115 = .ok (.isub, 1) := by decide +kernel
theorem dX6_cut_116 : decode cX6_cut 116 = .ok (.laload, 1) := by decide +kernel
theorem dX6_cut_117 : decode cX6_cut 117 = .ok (.lastore, 1) := by decide +kernel
theorem dX6_cut_118 : decode cX6_cut 118 = .ok (.iinc 7 (-1), 3) := by decide +kernel
theorem dX6_cut_121 : decode cX6_cut 121 = .ok (.goto (-42), 3) := by decide +kernel
theorem dX6_cut_124 : decode cX6_cut 124 = .ok (.aload_n 0, 1) := by decide +kernel
theorem dX6_cut_125 : decode cX6_cut 125 = .ok (.getfield 48, 3) := by decide +kernel
theorem dX6_cut_128 : decode cX6_cut 128 = .ok (.iload 5, 2) := by decide +kernel
theorem dX6_cut_130 : decode cX6_cut 130 = .ok (.lload_n 1, 1) := by decide +kernel
theorem dX6_cut_131 : decode cX6_cut 131 = .ok (.lastore, 1) := by decide +kernel
theorem dX6_cut_132 : decode cX6_cut 132 = .ok (.aload_n 0, 1) := by decide +kernel
theorem dX6_cut_133 : decode cX6_cut 133 = .ok (.getfield 51, 3) := by decide +kernel
theorem dX6_cut_136 : decode cX6_cut 136 = .ok (.iload 5, 2) := by decide +kernel
theorem dX6_cut_138 : decode cX6_cut 138 = .ok (.lload_n 3, 1) := by decide +kernel
theorem dX6_cut_139 : decode cX6_cut 139 = .ok (.lastore, 1) := by decide +kernel
theorem dX6_cut_140 : decode cX6_cut 140 = .ok (.aload_n 0, 1) := by decide +kernel
theorem dX6_cut_141 : decode cX6_cut 141 = .ok (.dup, 1) := by decide +kernel
theorem dX6_cut_142 : decode cX6_cut 142 = .ok (.getfield 176, 3) := by decide +kernel
theorem dX6_cut_145 : decode cX6_cut 145 = .ok (.iconst 1, 1) := by decide +kernel
theorem dX6_cut_146 : decode cX6_cut 146 = .ok (.iadd, 1) := by decide +kernel
theorem dX6_cut_147 : decode cX6_cut 147 = .ok (.putfield 176, 3) := by decide +kernel
theorem dX6_cut_150 : decode cX6_cut 150 = .ok (.return_, 1) := by decide +kernel
set_option maxRecDepth 20000 in
theorem ggX6_cutAt_X6_stand : GoodIn wsX6_cutAt wsX6_stand := goodIn_r _ [7, 8, 9, 10, 11, 31, 32, 33, 34, 35, 36, 37, 38, 39, 40, 41, 42, 43, 44, 45, 46, 47, 48, 49, 50, 51] (by decide +kernel) (by decide +kernel)
set_option maxRecDepth 20000 in
theorem gX6_cutAt_X6_stand : GoodIn wsX6_cutAt (wsV RX6 165 RX6 yX6_stand wsX6_stand) := goodIn_app (goodIn_of _ (by decide +kernel)) ggX6_cutAt_X6_stand
set_option maxRecDepth 20000 in
theorem ggX6_cutAt_X6_at : GoodIn wsX6_cutAt wsX6_at := goodIn_r _ [15, 16, 17, 18, 6, 19, 20, 21, 22, 23, 24, 25, 26, 27, 28, 29, 30, 31, 32, 33, 34, 35, 36, 37, 38, 39, 40, 41, 42, 43, 44, 45, 46, 47, 48, 49, 50, 51] (by decide +kernel) (by decide +kernel)
set_option maxRecDepth 20000 in
theorem gX6_cutAt_X6_at : GoodIn wsX6_cutAt (wsV RX6 169 RX6 yX6_at wsX6_at) := goodIn_app (goodIn_of _ (by decide +kernel)) ggX6_cutAt_X6_at
theorem dX6_cutAt_0 : decode cX6_cutAt 0 = .ok (.aload_n 0, 1) := by decide +kernel
theorem dX6_cutAt_1 : decode cX6_cutAt 1 = .ok (.aload_n 0, 1) := by decide +kernel
theorem dX6_cutAt_2 : decode cX6_cutAt 2 = .ok (.getfield 22, 3) := by decide +kernel
theorem dX6_cutAt_5 : decode cX6_cutAt 5 = .ok (.iload_n 1, 1) := by decide +kernel
theorem dX6_cutAt_6 : decode cX6_cutAt 6 = .ok (.iaload, 1) := by decide +kernel
theorem dX6_cutAt_7 : decode cX6_cutAt 7 = .ok (.i2l, 1) := by decide +kernel
theorem dX6_cutAt_8 : decode cX6_cutAt 8 = .ok (.aload_n 0, 1) := by decide +kernel
theorem dX6_cutAt_9 : decode cX6_cutAt 9 = .ok (.getfield 25, 3) := by decide +kernel
theorem dX6_cutAt_12 : decode cX6_cutAt 12 = .ok (.iload_n 1, 1) := by decide +kernel
theorem dX6_cutAt_13 : decode cX6_cutAt 13 = .ok (.iaload, 1) := by decide +kernel
theorem dX6_cutAt_14 : decode cX6_cutAt 14 = .ok (.i2l, 1) := by decide +kernel
theorem dX6_cutAt_15 : decode cX6_cutAt 15 = .ok (.lconst 0, 1) := by decide +kernel
theorem dX6_cutAt_16 : decode cX6_cutAt 16 = .ok (.lconst 0, 1) := by decide +kernel
theorem dX6_cutAt_17 : decode cX6_cutAt 17 = .ok (.invokevirtual 165, 3) := by decide +kernel
theorem dX6_cutAt_20 : decode cX6_cutAt 20 = .ok (.aload_n 0, 1) := by decide +kernel
theorem dX6_cutAt_21 : decode cX6_cutAt 21 = .ok (.lconst 0, 1) := by decide +kernel
theorem dX6_cutAt_22 : decode cX6_cutAt 22 = .ok (.lconst 1, 1) := by decide +kernel
theorem dX6_cutAt_23 : decode cX6_cutAt 23 = .ok (.invokevirtual 169, 3) := by decide +kernel
theorem dX6_cutAt_26 : decode cX6_cutAt 26 = .ok (.return_, 1) := by decide +kernel
set_option maxRecDepth 20000 in
theorem ggX6_cutByPoint_X6_cut : GoodIn wsX6_cutByPoint wsX6_cut := goodIn_r _ [9, 10, 11, 12, 13, 14, 8, 15, 16, 17, 18, 19, 20, 21, 22, 23, 24, 25, 26, 27, 28, 29, 30, 31, 32, 33, 34, 35, 36] (by decide +kernel) (by decide +kernel)
set_option maxRecDepth 20000 in
theorem gX6_cutByPoint_X6_cut : GoodIn wsX6_cutByPoint (wsV RX6 183 RX6 yX6_cut wsX6_cut) := goodIn_app (goodIn_of _ (by decide +kernel)) ggX6_cutByPoint_X6_cut
theorem dX6_cutByPoint_0 : decode cX6_cutByPoint 0 = .ok (.aload_n 0, 1) := by decide +kernel
theorem dX6_cutByPoint_1 : decode cX6_cutByPoint 1 = .ok (.getfield 22, 3) := by decide +kernel
theorem dX6_cutByPoint_4 : decode cX6_cutByPoint 4 = .ok (.aload_n 0, 1) := by decide +kernel
theorem dX6_cutByPoint_5 : decode cX6_cutByPoint 5 = .ok (.getfield 31, 3) := by decide +kernel
theorem dX6_cutByPoint_8 : decode cX6_cutByPoint 8 = .ok (.iload_n 1, 1) := by decide +kernel
theorem dX6_cutByPoint_9 : decode cX6_cutByPoint 9 = .ok (.iaload, 1) := by decide +kernel
theorem dX6_cutByPoint_10 : decode cX6_cutByPoint 10 = .ok (.iaload, 1) := by decide +kernel
theorem dX6_cutByPoint_11 : decode cX6_cutByPoint 11 = .ok (.i2l, 1) := by decide +kernel
theorem dX6_cutByPoint_12 : decode cX6_cutByPoint 12 = .ok (.aload_n 0, 1) := by decide +kernel
theorem dX6_cutByPoint_13 : decode cX6_cutByPoint 13 = .ok (.getfield 22, 3) := by decide +kernel
theorem dX6_cutByPoint_16 : decode cX6_cutByPoint 16 = .ok (.aload_n 0, 1) := by decide +kernel
theorem dX6_cutByPoint_17 : decode cX6_cutByPoint 17 = .ok (.getfield 28, 3) := by decide +kernel
theorem dX6_cutByPoint_20 : decode cX6_cutByPoint 20 = .ok (.iload_n 1, 1) := by decide +kernel
theorem dX6_cutByPoint_21 : decode cX6_cutByPoint 21 = .ok (.iaload, 1) := by decide +kernel
theorem dX6_cutByPoint_22 : decode cX6_cutByPoint 22 = .ok (.iaload, 1) := by decide +kernel
theorem dX6_cutByPoint_23 : decode cX6_cutByPoint 23 = .ok (.i2l, 1) := by decide +kernel
theorem dX6_cutByPoint_24 : decode cX6_cutByPoint 24 = .ok (.lsub, 1) := by decide +kernel
theorem dX6_cutByPoint_25 : decode cX6_cutByPoint 25 = .ok (.lstore_n 3, 1) := by decide +kernel
theorem dX6_cutByPoint_26 : decode cX6_cutByPoint 26 = .ok (.aload_n 0, 1) := by decide +kernel
theorem dX6_cutByPoint_27 : decode cX6_cutByPoint 27 = .ok (.getfield 25, 3) := by decide +kernel
theorem dX6_cutByPoint_30 : decode cX6_cutByPoint 30 = .ok (.aload_n 0, 1) := by decide +kernel
theorem dX6_cutByPoint_31 : decode cX6_cutByPoint 31 = .ok (.getfield 31, 3) := by decide +kernel
theorem dX6_cutByPoint_34 : decode cX6_cutByPoint 34 = .ok (.iload_n 1, 1) := by decide +kernel
theorem dX6_cutByPoint_35 : decode cX6_cutByPoint 35 = .ok (.iaload, 1) := by decide +kernel
theorem dX6_cutByPoint_36 : decode cX6_cutByPoint 36 = .ok (.iaload, 1) := by decide +kernel
theorem dX6_cutByPoint_37 : decode cX6_cutByPoint 37 = .ok (.i2l, 1) := by decide +kernel
theorem dX6_cutByPoint_38 : decode cX6_cutByPoint 38 = .ok (.aload_n 0, 1) := by decide +kernel
theorem dX6_cutByPoint_39 : decode cX6_cutByPoint 39 = .ok (.getfield 25, 3) := by decide +kernel
theorem dX6_cutByPoint_42 : decode cX6_cutByPoint 42 = .ok (.aload_n 0, 1) := by decide +kernel
theorem dX6_cutByPoint_43 : decode cX6_cutByPoint 43 = .ok (.getfield 28, 3) := by decide +kernel
theorem dX6_cutByPoint_46 : decode cX6_cutByPoint 46 = .ok (.iload_n 1, 1) := by decide +kernel
theorem dX6_cutByPoint_47 : decode cX6_cutByPoint 47 = .ok (.iaload, 1) := by decide +kernel
theorem dX6_cutByPoint_48 : decode cX6_cutByPoint 48 = .ok (.iaload, 1) := by decide +kernel
theorem dX6_cutByPoint_49 : decode cX6_cutByPoint 49 = .ok (.i2l, 1) := by decide +kernel
theorem dX6_cutByPoint_50 : decode cX6_cutByPoint 50 = .ok (.lsub, 1) := by decide +kernel
theorem dX6_cutByPoint_51 : decode cX6_cutByPoint 51 = .ok (.lstore 5, 2) := by decide +kernel
theorem dX6_cutByPoint_53 : decode cX6_cutByPoint 53 = .ok (.lload_n 3, 1) := by decide +kernel
theorem dX6_cutByPoint_54 : decode cX6_cutByPoint 54 = .ok (.lconst 0, 1) := by decide +kernel
theorem dX6_cutByPoint_55 : decode cX6_cutByPoint 55 = .ok (.lcmp, 1) := by decide +kernel
theorem dX6_cutByPoint_56 : decode cX6_cutByPoint 56 = .ok (.ifCond .eq 26, 3) := by decide +kernel
theorem dX6_cutByPoint_59 : decode cX6_cutByPoint 59 = .ok (.aload_n 0, 1) := by decide +kernel
theorem dX6_cutByPoint_60 : decode cX6_cutByPoint 60 = .ok (.getfield 22, 3) := by decide +kernel
theorem dX6_cutByPoint_63 : decode cX6_cutByPoint 63 = .ok (.iload_n 2, 1) := by decide +kernel
theorem dX6_cutByPoint_64 : decode cX6_cutByPoint 64 = .ok (.iaload, 1) := by decide +kernel
theorem dX6_cutByPoint_65 : decode cX6_cutByPoint 65 = .ok (.i2l, 1) := by decide +kernel
theorem dX6_cutByPoint_66 : decode cX6_cutByPoint 66 = .ok (.aload_n 0, 1) := by decide +kernel
theorem dX6_cutByPoint_67 : decode cX6_cutByPoint 67 = .ok (.getfield 22, 3) := by decide +kernel
theorem dX6_cutByPoint_70 : decode cX6_cutByPoint 70 = .ok (.aload_n 0, 1) := by decide +kernel
theorem dX6_cutByPoint_71 : decode cX6_cutByPoint 71 = .ok (.getfield 28, 3) := by decide +kernel
theorem dX6_cutByPoint_74 : decode cX6_cutByPoint 74 = .ok (.iload_n 1, 1) := by decide +kernel
theorem dX6_cutByPoint_75 : decode cX6_cutByPoint 75 = .ok (.iaload, 1) := by decide +kernel
theorem dX6_cutByPoint_76 : decode cX6_cutByPoint 76 = .ok (.iaload, 1) := by decide +kernel
theorem dX6_cutByPoint_77 : decode cX6_cutByPoint 77 = .ok (.i2l, 1) := by decide +kernel
theorem dX6_cutByPoint_78 : decode cX6_cutByPoint 78 = .ok (.lsub, 1) := by decide +kernel
theorem dX6_cutByPoint_79 : decode cX6_cutByPoint 79 = .ok (.goto 23, 3) := by decide +kernel
theorem dX6_cutByPoint_82 : decode cX6_cutByPoint 82 = .ok (.aload_n 0, 1) := by decide +kernel
theorem dX6_cutByPoint_83 : decode cX6_cutByPoint 83 = .ok (.getfield 25, 3) := by decide +kernel
theorem dX6_cutByPoint_86 : decode cX6_cutByPoint 86 = .ok (.iload_n 2, 1) := by decide +kernel
theorem dX6_cutByPoint_87 : decode cX6_cutByPoint 87 = .ok (.iaload, 1) := by decide +kernel
theorem dX6_cutByPoint_88 : decode cX6_cutByPoint 88 = .ok (.i2l, 1) := by decide +kernel
theorem dX6_cutByPoint_89 : decode cX6_cutByPoint 89 = .ok (.aload_n 0, 1) := by decide +kernel
theorem dX6_cutByPoint_90 : decode cX6_cutByPoint 90 = .ok (.getfield 25, 3) := by decide +kernel
theorem dX6_cutByPoint_93 : decode cX6_cutByPoint 93 = .ok (.aload_n 0, 1) := by decide +kernel
theorem dX6_cutByPoint_94 : decode cX6_cutByPoint 94 = .ok (.getfield 28, 3) := by decide +kernel
theorem dX6_cutByPoint_97 : decode cX6_cutByPoint 97 = .ok (.iload_n 1, 1) := by decide +kernel
theorem dX6_cutByPoint_98 : decode cX6_cutByPoint 98 = .ok (.iaload, 1) := by decide +kernel
theorem dX6_cutByPoint_99 : decode cX6_cutByPoint 99 = .ok (.iaload, 1) := by decide +kernel
theorem dX6_cutByPoint_100 : decode cX6_cutByPoint 100 = .ok (.i2l, 1) := by decide +kernel
theorem dX6_cutByPoint_101 : decode cX6_cutByPoint 101 = .ok (.lsub, 1) := by decide +kernel
theorem dX6_cutByPoint_102 : decode cX6_cutByPoint 102 = .ok (.lstore 7, 2) := by decide +kernel
theorem dX6_cutByPoint_104 : decode cX6_cutByPoint 104 = .ok (.lload_n 3, 1) := by decide +kernel
theorem dX6_cutByPoint_105 : decode cX6_cutByPoint 105 = .ok (.lconst 0, 1) := by decide +kernel
theorem dX6_cutByPoint_106 : decode cX6_cutByPoint 106 = .ok (.lcmp, 1) := by decide +kernel
theorem dX6_cutByPoint_107 : decode cX6_cutByPoint 107 = .ok (.ifCond .eq 7, 3) := by decide +kernel
theorem dX6_cutByPoint_110 : decode cX6_cutByPoint 110 = .ok (.lload_n 3, 1) := by decide +kernel
theorem dX6_cutByPoint_111 : decode cX6_cutByPoint 111 = .ok (.goto 5, 3) := by decide +kernel
theorem dX6_cutByPoint_114 : decode cX6_cutByPoint 114 = .ok (.lload 5, 2) := by decide +kernel
theorem dX6_cutByPoint_116 : decode cX6_cutByPoint 116 = .ok (.lstore 9, 2) := by decide +kernel
theorem dX6_cutByPoint_118 : decode cX6_cutByPoint 118 = .ok (.aload_n 0, 1) := by decide +kernel
theorem dX6_cutByPoint_119 : decode cX6_cutByPoint 119 = .ok (.lload 9, 2) := by decide +kernel
theorem dX6_cutByPoint_121 : decode cX6_cutByPoint 121 = .ok (.lconst 0, 1) := by decide +kernel
theorem dX6_cutByPoint_122 : decode cX6_cutByPoint 122 = .ok (.lcmp, 1) := by decide +kernel
theorem dX6_cutByPoint_123 : decode cX6_cutByPoint 123 = .ok (.ifCond .ge 9, 3) := by decide +kernel
theorem dX6_cutByPoint_126 : decode cX6_cutByPoint 126 = .ok (.lload 7, 2) := by decide +kernel
theorem dX6_cutByPoint_128 : decode cX6_cutByPoint 128 = .ok (.lneg, 1) := by decide +kernel
theorem dX6_cutByPoint_129 : decode cX6_cutByPoint 129 = .ok (.goto 5, 3) := by decide +kernel
theorem dX6_cutByPoint_132 : decode cX6_cutByPoint 132 = .ok (.lload 7, 2) := by decide +kernel
theorem dX6_cutByPoint_134 : decode cX6_cutByPoint 134 = .ok (.lload 9, 2) := by decide +kernel
theorem dX6_cutByPoint_136 : decode cX6_cutByPoint 136 = .ok (.lconst 0, 1) := by decide +kernel
theorem dX6_cutByPoint_137 : decode cX6_cutByPoint 137 = .ok (.lcmp, 1) := by decide +kernel
theorem dX6_cutByPoint_138 : decode cX6_cutByPoint 138 = .ok (.ifCond .ge 9, 3) := by decide +kernel
theorem dX6_cutByPoint_141 : decode cX6_cutByPoint 141 = .ok (.lload 9, 2) := by decide +kernel
theorem dX6_cutByPoint_143 : decode cX6_cutByPoint 143 = .ok (.lneg, 1) := by decide +kernel
theorem dX6_cutByPoint_144 : decode cX6_cutByPoint 144 = .ok (.goto 5, 3) := by decide +kernel
theorem dX6_cutByPoint_147 : decode cX6_cutByPoint 147 = .ok (.lload 9, 2) := by decide +kernel
theorem dX6_cutByPoint_149 : decode cX6_cutByPoint 149 = .ok (.invokevirtual 183, 3) := by decide +kernel
theorem dX6_cutByPoint_152 : decode cX6_cutByPoint 152 = .ok (.return_, 1) := by decide +kernel
set_option maxRecDepth 20000 in
theorem ggX6_cutBySegment_X6_cut : GoodIn wsX6_cutBySegment wsX6_cut := goodIn_r _ [9, 10, 11, 12, 13, 14, 8, 15, 16, 17, 18, 19, 20, 21, 22, 23, 24, 25, 26, 27, 28, 29, 30, 31, 32, 33, 34, 35, 36] (by decide +kernel) (by decide +kernel)
set_option maxRecDepth 20000 in
theorem gX6_cutBySegment_X6_cut : GoodIn wsX6_cutBySegment (wsV RX6 183 RX6 yX6_cut wsX6_cut) := goodIn_app (goodIn_of _ (by decide +kernel)) ggX6_cutBySegment_X6_cut
theorem dX6_cutBySegment_0 : decode cX6_cutBySegment 0 = .ok (.aload_n 0, 1) := by decide +kernel
theorem dX6_cutBySegment_1 : decode cX6_cutBySegment 1 = .ok (.getfield 22, 3) := by decide +kernel
theorem dX6_cutBySegment_4 : decode cX6_cutBySegment 4 = .ok (.aload_n 0, 1) := by decide +kernel
theorem dX6_cutBySegment_5 : decode cX6_cutBySegment 5 = .ok (.getfield 31, 3) := by decide +kernel
theorem dX6_cutBySegment_8 : decode cX6_cutBySegment 8 = .ok (.iload_n 1, 1) := by decide +kernel
theorem dX6_cutBySegment_9 : decode cX6_cutBySegment 9 = .ok (.iaload, 1) := by decide +kernel
theorem dX6_cutBySegment_10 : decode cX6_cutBySegment 10 = .ok (.iaload, 1) := by decide +kernel
theorem dX6_cutBySegment_11 : decode cX6_cutBySegment 11 = .ok (.i2l, 1) := by decide +kernel
theorem dX6_cutBySegment_12 : decode cX6_cutBySegment 12 = .ok (.aload_n 0, 1) := by decide +kernel
theorem dX6_cutBySegment_13 : decode cX6_cutBySegment 13 = .ok (.getfield 22, 3) := by decide +kernel
theorem dX6_cutBySegment_16 : decode cX6_cutBySegment 16 = .ok (.aload_n 0, 1) := by decide +kernel
theorem dX6_cutBySegment_17 : decode cX6_cutBySegment 17 = .ok (.getfield 28, 3) := by decide +kernel
theorem dX6_cutBySegment_20 : decode cX6_cutBySegment 20 = .ok (.iload_n 1, 1) := by decide +kernel
theorem dX6_cutBySegment_21 : decode cX6_cutBySegment 21 = .ok (.iaload, 1) := by decide +kernel
theorem dX6_cutBySegment_22 : decode cX6_cutBySegment 22 = .ok (.iaload, 1) := by decide +kernel
theorem dX6_cutBySegment_23 : decode cX6_cutBySegment 23 = .ok (.i2l, 1) := by decide +kernel
theorem dX6_cutBySegment_24 : decode cX6_cutBySegment 24 = .ok (.lsub, 1) := by decide +kernel
theorem dX6_cutBySegment_25 : decode cX6_cutBySegment 25 = .ok (.lstore_n 3, 1) := by decide +kernel
theorem dX6_cutBySegment_26 : decode cX6_cutBySegment 26 = .ok (.aload_n 0, 1) := by decide +kernel
theorem dX6_cutBySegment_27 : decode cX6_cutBySegment 27 = .ok (.getfield 25, 3) := by decide +kernel
theorem dX6_cutBySegment_30 : decode cX6_cutBySegment 30 = .ok (.aload_n 0, 1) := by decide +kernel
theorem dX6_cutBySegment_31 : decode cX6_cutBySegment 31 = .ok (.getfield 31, 3) := by decide +kernel
theorem dX6_cutBySegment_34 : decode cX6_cutBySegment 34 = .ok (.iload_n 1, 1) := by decide +kernel
theorem dX6_cutBySegment_35 : decode cX6_cutBySegment 35 = .ok (.iaload, 1) := by decide +kernel
theorem dX6_cutBySegment_36 : decode cX6_cutBySegment 36 = .ok (.iaload, 1) := by decide +kernel
theorem dX6_cutBySegment_37 : decode cX6_cutBySegment 37 = .ok (.i2l, 1) := by decide +kernel
theorem dX6_cutBySegment_38 : decode cX6_cutBySegment 38 = .ok (.aload_n 0, 1) := by decide +kernel
theorem dX6_cutBySegment_39 : decode cX6_cutBySegment 39 = .ok (.getfield 25, 3) := by decide +kernel
theorem dX6_cutBySegment_42 : decode cX6_cutBySegment 42 = .ok (.aload_n 0, 1) := by decide +kernel
theorem dX6_cutBySegment_43 : decode cX6_cutBySegment 43 = .ok (.getfield 28, 3) := by decide +kernel
theorem dX6_cutBySegment_46 : decode cX6_cutBySegment 46 = .ok (.iload_n 1, 1) := by decide +kernel
theorem dX6_cutBySegment_47 : decode cX6_cutBySegment 47 = .ok (.iaload, 1) := by decide +kernel
theorem dX6_cutBySegment_48 : decode cX6_cutBySegment 48 = .ok (.iaload, 1) := by decide +kernel
theorem dX6_cutBySegment_49 : decode cX6_cutBySegment 49 = .ok (.i2l, 1) := by decide +kernel
theorem dX6_cutBySegment_50 : decode cX6_cutBySegment 50 = .ok (.lsub, 1) := by decide +kernel
theorem dX6_cutBySegment_51 : decode cX6_cutBySegment 51 = .ok (.lstore 5, 2) := by decide +kernel
theorem dX6_cutBySegment_53 : decode cX6_cutBySegment 53 = .ok (.aload_n 0, 1) := by decide +kernel
theorem dX6_cutBySegment_54 : decode cX6_cutBySegment 54 = .ok (.getfield 22, 3) := by decide +kernel
theorem dX6_cutBySegment_57 : decode cX6_cutBySegment 57 = .ok (.aload_n 0, 1) := by decide +kernel
theorem dX6_cutBySegment_58 : decode cX6_cutBySegment 58 = .ok (.getfield 31, 3) := by decide +kernel
theorem dX6_cutBySegment_61 : decode cX6_cutBySegment 61 = .ok (.iload_n 2, 1) := by decide +kernel
theorem dX6_cutBySegment_62 : decode cX6_cutBySegment 62 = .ok (.iaload, 1) := by decide +kernel
theorem dX6_cutBySegment_63 : decode cX6_cutBySegment 63 = .ok (.iaload, 1) := by decide +kernel
theorem dX6_cutBySegment_64 : decode cX6_cutBySegment 64 = .ok (.i2l, 1) := by decide +kernel
theorem dX6_cutBySegment_65 : decode cX6_cutBySegment 65 = .ok (.aload_n 0, 1) := by decide +kernel
theorem dX6_cutBySegment_66 : decode cX6_cutBySegment 66 = .ok (.getfield 22, 3) := by decide +kernel
theorem dX6_cutBySegment_69 : decode cX6_cutBySegment 69 = .ok (.aload_n 0, 1) := by decide +kernel
theorem dX6_cutBySegment_70 : decode cX6_cutBySegment 70 = .ok (.getfield 28, 3) := by decide +kernel
theorem dX6_cutBySegment_73 : decode cX6_cutBySegment 73 = .ok (.iload_n 2, 1) := by decide +kernel
theorem dX6_cutBySegment_74 : decode cX6_cutBySegment 74 = .ok (.iaload, 1) := by decide +kernel
theorem dX6_cutBySegment_75 : decode cX6_cutBySegment 75 = .ok (.iaload, 1) := by decide +kernel
theorem dX6_cutBySegment_76 : decode cX6_cutBySegment 76 = .ok (.i2l, 1) := by decide +kernel
theorem dX6_cutBySegment_77 : decode cX6_cutBySegment 77 = .ok (.lsub, 1) := by decide +kernel
theorem dX6_cutBySegment_78 : decode cX6_cutBySegment 78 = .ok (.lstore 7, 2) := by decide +kernel
theorem dX6_cutBySegment_80 : decode cX6_cutBySegment 80 = .ok (.aload_n 0, 1) := by decide +kernel
theorem dX6_cutBySegment_81 : decode cX6_cutBySegment 81 = .ok (.getfield 25, 3) := by decide +kernel
theorem dX6_cutBySegment_84 : decode cX6_cutBySegment 84 = .ok (.aload_n 0, 1) := by decide +kernel
theorem dX6_cutBySegment_85 : decode cX6_cutBySegment 85 = .ok (.getfield 31, 3) := by decide +kernel
theorem dX6_cutBySegment_88 : decode cX6_cutBySegment 88 = .ok (.iload_n 2, 1) := by decide +kernel
theorem dX6_cutBySegment_89 : decode cX6_cutBySegment 89 = .ok (.iaload, 1) := by decide +kernel
theorem dX6_cutBySegment_90 : decode cX6_cutBySegment 90 = .ok (.iaload, 1) := by decide +kernel
theorem dX6_cutBySegment_91 : decode cX6_cutBySegment 91 = .ok (.i2l, 1) := by decide +kernel
theorem dX6_cutBySegment_92 : decode cX6_cutBySegment 92 = .ok (.aload_n 0, 1) := by decide +kernel
theorem dX6_cutBySegment_93 : decode cX6_cutBySegment 93 = .ok (.getfield 25, 3) := by decide +kernel
theorem dX6_cutBySegment_96 : decode cX6_cutBySegment 96 = .ok (.aload_n 0, 1) := by decide +kernel
theorem dX6_cutBySegment_97 : decode cX6_cutBySegment 97 = .ok (.getfield 28, 3) := by decide +kernel
theorem dX6_cutBySegment_100 : decode cX6_cutBySegment 100 = .ok (.iload_n 2, 1) := by decide +kernel
theorem dX6_cutBySegment_101 : decode cX6_cutBySegment 101 = .ok (.iaload, 1) := by decide +kernel
theorem dX6_cutBySegment_102 : decode cX6_cutBySegment 102 = .ok (.iaload, 1) := by decide +kernel
theorem dX6_cutBySegment_103 : decode cX6_cutBySegment 103 = .ok (.i2l, 1) := by decide +kernel
theorem dX6_cutBySegment_104 : decode cX6_cutBySegment 104 = .ok (.lsub, 1) := by decide +kernel
theorem dX6_cutBySegment_105 : decode cX6_cutBySegment 105 = .ok (.lstore 9, 2) := by decide +kernel
theorem dX6_cutBySegment_107 : decode cX6_cutBySegment 107 = .ok (.aload_n 0, 1) := by decide +kernel
theorem dX6_cutBySegment_108 : decode cX6_cutBySegment 108 = .ok (.getfield 22, 3) := by decide +kernel
theorem dX6_cutBySegment_111 : decode cX6_cutBySegment 111 = .ok (.aload_n 0, 1) := by decide +kernel
theorem dX6_cutBySegment_112 : decode cX6_cutBySegment 112 = .ok (.getfield 28, 3) := by decide +kernel
theorem dX6_cutBySegment_115 : decode cX6_cutBySegment 115 = .ok (.iload_n 2, 1) := by decide +kernel
theorem dX6_cutBySegment_116 : decode cX6_cutBySegment 116 = .ok (.iaload, 1) := by decide +kernel
theorem dX6_cutBySegment_117 : decode cX6_cutBySegment 117 = .ok (.iaload, 1) := by decide +kernel
theorem dX6_cutBySegment_118 : decode cX6_cutBySegment 118 = .ok (.i2l, 1) := by decide +kernel
theorem dX6_cutBySegment_119 : decode cX6_cutBySegment 119 = .ok (.aload_n 0, 1) := by decide +kernel
theorem dX6_cutBySegment_120 : decode cX6_cutBySegment 120 = .ok (.getfield 22, 3) := by decide +kernel
theorem dX6_cutBySegment_123 : decode cX6_cutBySegment 123 = .ok (.aload_n 0, 1) := by decide +kernel
theorem dX6_cutBySegment_124 : decode cX6_cutBySegment 124 = .ok (.getfield 28, 3) := by decide +kernel
theorem dX6_cutBySegment_127 : decode cX6_cutBySegment 127 = .ok (.iload_n 1, 1) := by decide +kernel
theorem dX6_cutBySegment_128 : decode cX6_cutBySegment 128 = .ok (.iaload, 1) := by decide +kernel
theorem dX6_cutBySegment_129 : decode cX6_cutBySegment 129 = .ok (.iaload, 1) := by decide +kernel
theorem dX6_cutBySegment_130 : decode cX6_cutBySegment 130 = .ok (.i2l, 1) := by decide +kernel
theorem dX6_cutBySegment_131 : decode cX6_cutBySegment 131 = .ok (.lsub, 1) := by decide +kernel
theorem dX6_cutBySegment_132 : decode cX6_cutBySegment 132 = .ok (.lstore 11, 2) := by decide +kernel
theorem dX6_cutBySegment_134 : decode cX6_cutBySegment 134 = .ok (.aload_n 0, 1) := by decide +kernel
theorem dX6_cutBySegment_135 : decode cX6_cutBySegment 135 = .ok (.getfield 25, 3) := by decide +kernel
theorem dX6_cutBySegment_138 : decode cX6_cutBySegment 138 = .ok (.aload_n 0, 1) := by decide +kernel
theorem dX6_cutBySegment_139 : decode cX6_cutBySegment 139 = .ok (.getfield 28, 3) := by decide +kernel
theorem dX6_cutBySegment_142 : decode cX6_cutBySegment 142 = .ok (.iload_n 2, 1) := by decide +kernel
theorem dX6_cutBySegment_143 : decode cX6_cutBySegment 143 = .ok (.iaload, 1) := by decide +kernel
theorem dX6_cutBySegment_144 : decode cX6_cutBySegment 144 = .ok (.iaload, 1) := by decide +kernel
theorem dX6_cutBySegment_145 : decode cX6_cutBySegment 145 = .ok (.i2l, 1) := by decide +kernel
theorem dX6_cutBySegment_146 : decode cX6_cutBySegment 146 = .ok (.aload_n 0, 1) := by decide +kernel
theorem dX6_cutBySegment_147 : decode cX6_cutBySegment 147 = .ok (.getfield 25, 3) := by decide +kernel
theorem dX6_cutBySegment_150 : decode cX6_cutBySegment 150 = .ok (.aload_n 0, 1) := by decide +kernel
theorem dX6_cutBySegment_151 : decode cX6_cutBySegment 151 = .ok (.getfield 28, 3) := by decide +kernel
theorem dX6_cutBySegment_154 : decode cX6_cutBySegment 154 = .ok (.iload_n 1, 1) := by decide +kernel
theorem dX6_cutBySegment_155 : decode cX6_cutBySegment 155 = .ok (.iaload, 1) := by decide +kernel
theorem dX6_cutBySegment_156 : decode cX6_cutBySegment 156 = .ok (.iaload, 1) := by decide +kernel
theorem dX6_cutBySegment_157 : decode cX6_cutBySegment 157 = .ok (.i2l, 1) := by decide +kernel
theorem dX6_cutBySegment_158 : decode cX6_cutBySegment 158 = .ok (.lsub, 1) := by decide +kernel
theorem dX6_cutBySegment_159 : decode cX6_cutBySegment 159 = .ok (.lstore 13, 2) := by decide +kernel
theorem dX6_cutBySegment_161 : decode cX6_cutBySegment 161 = .ok (.lload_n 3, 1) := by decide +kernel
theorem dX6_cutBySegment_162 : decode cX6_cutBySegment 162 = .ok (.lload 9, 2) := by decide +kernel
theorem dX6_cutBySegment_164 : decode cX6_cutBySegment 164 = .ok (.lmul, 1) := by decide +kernel
theorem dX6_cutBySegment_165 : decode cX6_cutBySegment 165 = .ok (.lload 5, 2) := by decide +kernel
theorem dX6_cutBySegment_167 : decode cX6_cutBySegment 167 = .ok (.lload 7, 2) := by decide +kernel
theorem dX6_cutBySegment_169 : decode cX6_cutBySegment 169 = .ok (.lmul, 1) := by decide +kernel
theorem dX6_cutBySegment_170 : decode cX6_cutBySegment 170 = .ok (.lsub, 1) := by decide +kernel
theorem dX6_cutBySegment_171 : decode cX6_cutBySegment 171 = .ok (.lstore 15, 2) := by decide +kernel
theorem dX6_cutBySegment_173 : decode cX6_cutBySegment 173 = .ok (.lload 11, 2) := by decide +kernel
theorem dX6_cutBySegment_175 : decode cX6_cutBySegment 175 = .ok (.lload 9, 2) := by decide +kernel
theorem dX6_cutBySegment_177 : decode cX6_cutBySegment 177 = .ok (.lmul, 1) := by decide +kernel
theorem dX6_cutBySegment_178 : decode cX6_cutBySegment 178 = .ok (.lload 13, 2) := by decide +kernel
theorem dX6_cutBySegment_180 : decode cX6_cutBySegment 180 = .ok (.lload 7, 2) := by decide +kernel
theorem dX6_cutBySegment_182 : decode cX6_cutBySegment 182 = .ok (.lmul, 1) := by decide +kernel
theorem dX6_cutBySegment_183 : decode cX6_cutBySegment 183 = .ok (.lsub, 1) := by decide +kernel
theorem dX6_cutBySegment_184 : decode cX6_cutBySegment 184 = .ok (.lstore 17, 2) := by decide +kernel
theorem dX6_cutBySegment_186 : decode cX6_cutBySegment 186 = .ok (.lload 11, 2) := by decide +kernel
theorem dX6_cutBySegment_188 : decode cX6_cutBySegment 188 = .ok (.lload 5, 2) := by decide +kernel
theorem dX6_cutBySegment_190 : decode cX6_cutBySegment 190 = .ok (.lmul, 1) := by decide +kernel
theorem dX6_cutBySegment_191 : decode cX6_cutBySegment 191 = .ok (.lload 13, 2) := by decide +kernel
theorem dX6_cutBySegment_193 : decode cX6_cutBySegment 193 = .ok (.lload_n 3, 1) := by decide +kernel
theorem dX6_cutBySegment_194 : decode cX6_cutBySegment 194 = .ok (.lmul, 1) := by decide +kernel
theorem dX6_cutBySegment_195 : decode cX6_cutBySegment 195 = .ok (.lsub, 1) := by decide +kernel
theorem dX6_cutBySegment_196 : decode cX6_cutBySegment 196 = .ok (.lstore 19, 2) := by decide +kernel
theorem dX6_cutBySegment_198 : decode cX6_cutBySegment 198 = .ok (.lload 15, 2) := by decide +kernel
theorem dX6_cutBySegment_200 : decode cX6_cutBySegment 200 = .ok (.lconst 0, 1) := by decide +kernel
theorem dX6_cutBySegment_201 : decode cX6_cutBySegment 201 = .ok (.lcmp, 1) := by decide +kernel
theorem dX6_cutBySegment_202 : decode cX6_cutBySegment 202 = .ok (.ifCond .ge 18, 3) := by decide +kernel
theorem dX6_cutBySegment_205 : decode cX6_cutBySegment 205 = .ok (.lload 15, 2) := by decide +kernel
theorem dX6_cutBySegment_207 : decode cX6_cutBySegment 207 = .ok (.lneg, 1) := by decide +kernel
theorem dX6_cutBySegment_208 : decode cX6_cutBySegment 208 = .ok (.lstore 15, 2) := by decide +kernel
theorem dX6_cutBySegment_210 : decode cX6_cutBySegment 210 = .ok (.lload 17, 2) := by decide +kernel
theorem dX6_cutBySegment_212 : decode cX6_cutBySegment 212 = .ok (.lneg, 1) := by decide +kernel
theorem dX6_cutBySegment_213 : decode cX6_cutBySegment 213 = .ok (.lstore 17, 2) := by decide +kernel
theorem dX6_cutBySegment_215 : decode cX6_cutBySegment 215 = .ok (.lload 19, 2) := by decide +kernel
theorem dX6_cutBySegment_217 : decode cX6_cutBySegment 217 = .ok (.lneg, 1) := by decide +kernel
theorem dX6_cutBySegment_218 : decode cX6_cutBySegment 218 = .ok (.lstore 19, 2) := by decide +kernel
theorem dX6_cutBySegment_220 : decode cX6_cutBySegment 220 = .ok (.lload 17, 2) := by decide +kernel
theorem dX6_cutBySegment_222 : decode cX6_cutBySegment 222 = .ok (.lconst 0, 1) := by decide +kernel
theorem dX6_cutBySegment_223 : decode cX6_cutBySegment 223 = .ok (.lcmp, 1) := by decide +kernel
theorem dX6_cutBySegment_224 : decode cX6_cutBySegment 224 = .ok (.ifCond .le 34, 3) := by decide +kernel
theorem dX6_cutBySegment_227 : decode cX6_cutBySegment 227 = .ok (.lload 17, 2) := by decide +kernel
theorem dX6_cutBySegment_229 : decode cX6_cutBySegment 229 = .ok (.lload 15, 2) := by decide +kernel
theorem dX6_cutBySegment_231 : decode cX6_cutBySegment 231 = .ok (.lcmp, 1) := by decide +kernel
theorem dX6_cutBySegment_232 : decode cX6_cutBySegment 232 = .ok (.ifCond .ge 26, 3) := by decide +kernel
theorem dX6_cutBySegment_235 : decode cX6_cutBySegment 235 = .ok (.lload 19, 2) := by decide +kernel
theorem dX6_cutBySegment_237 : decode cX6_cutBySegment 237 = .ok (.lconst 0, 1) := by decide +kernel
theorem dX6_cutBySegment_238 : decode cX6_cutBySegment 238 = .ok (.lcmp, 1) := by decide +kernel
theorem dX6_cutBySegment_239 : decode cX6_cutBySegment 239 = .ok (.ifCond .le 19, 3) := by decide +kernel
theorem dX6_cutBySegment_242 : decode cX6_cutBySegment 242 = .ok (.lload 19, 2) := by decide +kernel
theorem dX6_cutBySegment_244 : decode cX6_cutBySegment 244 = .ok (.lload 15, 2) := by decide +kernel
theorem dX6_cutBySegment_246 : decode cX6_cutBySegment 246 = .ok (.lcmp, 1) := by decide +kernel
theorem dX6_cutBySegment_247 : decode cX6_cutBySegment 247 = .ok (.ifCond .ge 11, 3) := by decide +kernel
theorem dX6_cutBySegment_250 : decode cX6_cutBySegment 250 = .ok (.aload_n 0, 1) := by decide +kernel
theorem dX6_cutBySegment_251 : decode cX6_cutBySegment 251 = .ok (.lload 17, 2) := by decide +kernel
theorem dX6_cutBySegment_253 : decode cX6_cutBySegment 253 = .ok (.lload 15, 2) := by decide +kernel
theorem dX6_cutBySegment_255 : decode cX6_cutBySegment 255 = .ok (.invokevirtual 183, 3) := by decide +kernel
theorem dX6_cutBySegment_258 : decode cX6_cutBySegment 258 = .ok (.return_, 1) := by decide +kernel
set_option maxRecDepth 20000 in
theorem ggX6_cutAll_X6_cut : GoodIn wsX6_cutAll wsX6_cut := goodIn_r _ [8, 1, 9, 10, 11, 12, 7, 13, 85, 86, 87, 88, 89, 90, 91, 92, 93, 94, 95, 96, 97, 98, 99, 100, 101, 102, 103, 104, 105] (by decide +kernel) (by decide +kernel)
set_option maxRecDepth 20000 in
theorem gX6_cutAll_X6_cut : GoodIn wsX6_cutAll (wsV RX6 183 RX6 yX6_cut wsX6_cut) := goodIn_app (goodIn_of _ (by decide +kernel)) ggX6_cutAll_X6_cut
set_option maxRecDepth 20000 in
theorem ggX6_cutAll_X6_cutAt : GoodIn wsX6_cutAll wsX6_cutAt := goodIn_r _ [17, 18, 19, 20, 21, 22, 7, 23, 24, 25, 26, 27, 28, 29, 30, 31, 32, 33, 34, 35, 36, 37, 38, 39, 40, 41, 42, 43, 44, 45, 46, 85, 86, 87, 88, 89, 90, 91, 92, 93, 94, 95, 96, 97, 98, 99, 100, 101, 102, 103, 104, 105] (by decide +kernel) (by decide +kernel)
set_option maxRecDepth 20000 in
theorem gX6_cutAll_X6_cutAt : GoodIn wsX6_cutAll (wsV RX6 186 RX6 yX6_cutAt wsX6_cutAt) := goodIn_app (goodIn_of _ (by decide +kernel)) ggX6_cutAll_X6_cutAt
set_option maxRecDepth 20000 in
theorem ggX6_cutAll_X6_isOn : GoodIn wsX6_cutAll wsX6_isOn := goodIn_r _ [50, 51, 52, 18, 19, 53, 54, 55, 7, 56, 24, 26, 57, 58, 59, 60, 32, 33, 34, 35, 36, 37, 38, 39, 40, 41, 42, 43, 44, 45, 46, 61, 62, 63, 64, 65, 66, 67, 68, 69, 70, 71, 72, 25, 27, 73, 74, 75, 76, 85, 86, 87, 88, 89, 90, 91, 92, 93, 94, 95, 96, 97, 98, 99, 100, 101, 102, 103, 104, 105] (by decide +kernel) (by decide +kernel)
set_option maxRecDepth 20000 in
theorem gX6_cutAll_X6_isOn : GoodIn wsX6_cutAll (wsV RX6 141 RX6 yX6_isOn wsX6_isOn) := goodIn_app (goodIn_of _ (by decide +kernel)) ggX6_cutAll_X6_isOn
set_option maxRecDepth 20000 in
theorem ggX6_cutAll_X6_cutByPoint : GoodIn wsX6_cutAll wsX6_cutByPoint := goodIn_r _ [80, 18, 52, 51, 19, 4, 5, 6, 7, 8, 1, 9, 10, 11, 12, 13, 85, 86, 87, 88, 89, 90, 91, 92, 93, 94, 95, 96, 97, 98, 99, 100, 101, 102, 103, 104, 105] (by decide +kernel) (by decide +kernel)
set_option maxRecDepth 20000 in
theorem gX6_cutAll_X6_cutByPoint : GoodIn wsX6_cutAll (wsV RX6 189 RX6 yX6_cutByPoint wsX6_cutByPoint) := goodIn_app (goodIn_of _ (by decide +kernel)) ggX6_cutAll_X6_cutByPoint
set_option maxRecDepth 20000 in
theorem ggX6_cutAll_X6_cutBySegment : GoodIn wsX6_cutAll wsX6_cutBySegment := goodIn_r _ [84, 18, 52, 51, 19, 4, 5, 6, 7, 8, 1, 9, 10, 11, 12, 13, 85, 86, 87, 88, 89, 90, 91, 92, 93, 94, 95, 96, 97, 98, 99, 100, 101, 102, 103, 104, 105] (by decide +kernel) (by decide +kernel)
set_option maxRecDepth 20000 in
theorem gX6_cutAll_X6_cutBySegment : GoodIn wsX6_cutAll (wsV RX6 193 RX6 yX6_cutBySegment wsX6_cutBySegment) := goodIn_app (goodIn_of _ (by decide +kernel)) ggX6_cutAll_X6_cutBySegment
theorem dX6_cutAll_0 : decode cX6_cutAll 0 = .ok (.aload_n 0, 1) := by decide +kernel
theorem dX6_cutAll_1 : decode cX6_cutAll 1 = .ok (.iconst 0, 1) := by decide +kernel
theorem dX6_cutAll_2 : decode cX6_cutAll 2 = .ok (.putfield 176, 3) := by decide +kernel
theorem dX6_cutAll_5 : decode cX6_cutAll 5 = .ok (.aload_n 0, 1) := by decide +kernel
theorem dX6_cutAll_6 : decode cX6_cutAll 6 = .ok (.lconst 0, 1) := by decide +kernel
theorem dX6_cutAll_7 : decode cX6_cutAll 7 = .ok (.lconst 1, 1) := by decide +kernel
theorem dX6_cutAll_8 : decode cX6_cutAll 8 = .ok (.invokevirtual 183, 3) := by decide +kernel
theorem dX6_cutAll_11 : decode cX6_cutAll 11 = .ok (.aload_n 0, 1) := by decide +kernel
theorem dX6_cutAll_12 : decode cX6_cutAll 12 = .ok (.lconst 1, 1) := by decide +kernel
theorem dX6_cutAll_13 : decode cX6_cutAll 13 = .ok (.lconst 1, 1) := by decide +kernel
theorem dX6_cutAll_14 : decode cX6_cutAll 14 = .ok (.invokevirtual 183, 3) := by decide +kernel
theorem dX6_cutAll_17 : decode cX6_cutAll 17 = .ok (.iconst 0, 1) := by decide +kernel
theorem dX6_cutAll_18 : decode cX6_cutAll 18 = .ok (.istore_n 2, 1) := by decide +kernel
theorem dX6_cutAll_19 : decode cX6_cutAll 19 = .ok (.iload_n 2, 1) := by decide +kernel
theorem dX6_cutAll_20 : decode cX6_cutAll 20 = .ok (.iconst 2, 1) := by decide +kernel
theorem dX6_cutAll_21 : decode cX6_cutAll 21 = .ok (.if_icmp .ge 56, 3) := by decide +kernel
theorem dX6_cutAll_24 : decode cX6_cutAll 24 = .ok (.sipush 2048, 3) := by decide +kernel
theorem dX6_cutAll_27 : decode cX6_cutAll 27 = .ok (.iload_n 2, 1) := by decide +kernel
theorem dX6_cutAll_28 : decode cX6_cutAll 28 = .ok (.imul, 1) := by decide +kernel
theorem dX6_cutAll_29 : decode cX6_cutAll 29 = .ok (.istore_n 3, 1) := by decide +kernel
theorem dX6_cutAll_30 : decode cX6_cutAll 30 = .ok (.iload_n 3, 1) := by decide +kernel
theorem dX6_cutAll_31 : decode cX6_cutAll 31 = .ok (.sipush 2048, 3) := by decide +kernel
theorem dX6_cutAll_34 : decode cX6_cutAll 34 = .ok (.iload_n 2, 1) := by decide +kernel
theorem dX6_cutAll_35 : decode cX6_cutAll 35 = .ok (.imul, 1) := by decide +kernel
theorem dX6_cutAll_36 : decode cX6_cutAll 36 = .ok (.aload_n 0, 1) := by decide +kernel
theorem dX6_cutAll_37 : decode cX6_cutAll 37 = .ok (.getfield 13, 3) := by decide +kernel
theorem dX6_cutAll_40 : decode cX6_cutAll 40 = .ok (.iload_n 2, 1) := by decide +kernel
theorem dX6_cutAll_41 : decode cX6_cutAll 41 = .ok (.iaload, 1) := by decide +kernel
theorem dX6_cutAll_42 : decode cX6_cutAll 42 = .ok (.iadd, 1) := by decide +kernel
theorem dX6_cutAll_43 : decode cX6_cutAll 43 = .ok (.if_icmp .ge 28, 3) := by decide +kernel
theorem dX6_cutAll_46 : decode cX6_cutAll 46 = .ok (.aload_n 0, 1) := by decide +kernel
theorem dX6_cutAll_47 : decode cX6_cutAll 47 = .ok (.iload_n 3, 1) := by decide +kernel
theorem dX6_cutAll_48 : decode cX6_cutAll 48 = .ok (.invokevirtual 186, 3) := by decide +kernel
theorem dX6_cutAll_51 : decode cX6_cutAll 51 = .ok (.aload_n 0, 1) := by decide +kernel
theorem dX6_cutAll_52 : decode cX6_cutAll 52 = .ok (.iload_n 1, 1) := by decide +kernel
theorem dX6_cutAll_53 : decode cX6_cutAll 53 = .ok (.invokevirtual 141, 3) := by decide +kernel
theorem dX6_cutAll_56 : decode cX6_cutAll 56 = .ok (.ifCond .eq 9, 3) := by decide +kernel
theorem dX6_cutAll_59 : decode cX6_cutAll 59 = .ok (.aload_n 0, 1) := by decide +kernel
theorem dX6_cutAll_60 : decode cX6_cutAll 60 = .ok (.iload_n 1, 1) := by decide +kernel
theorem dX6_cutAll_61 : decode cX6_cutAll 61 = .ok (.iload_n 3, 1) := by decide +kernel
theorem dX6_cutAll_62 : decode cX6_cutAll 62 = .ok (.invokevirtual 189, 3) := by decide +kernel
theorem dX6_cutAll_65 : decode cX6_cutAll 65 = .ok (.iinc 3 1, 3) := by decide +kernel
theorem dX6_cutAll_68 : decode cX6_cutAll 68 = .ok (.goto (-38), 3) := by decide +kernel
theorem dX6_cutAll_71 : decode cX6_cutAll 71 = .ok (.iinc 2 1, 3) := by decide +kernel
theorem dX6_cutAll_74 : decode cX6_cutAll 74 = .ok (.goto (-55), 3) := by decide +kernel
theorem dX6_cutAll_77 : decode cX6_cutAll 77 = .ok (.iconst 0, 1) := by decide +kernel
theorem dX6_cutAll_78 : decode cX6_cutAll 78 = .ok (.istore_n 2, 1) := by decide +kernel
theorem dX6_cutAll_79 : decode cX6_cutAll 79 = .ok (.iload_n 2, 1) := by decide +kernel
theorem dX6_cutAll_80 : decode cX6_cutAll 80 = .ok (.aload_n 0, 1) := by decide +kernel
theorem dX6_cutAll_81 : decode cX6_cutAll 81 = .ok (.getfield 79, 3) := by decide +kernel
theorem dX6_cutAll_84 : decode cX6_cutAll 84 = .ok (.if_icmp .ge 15, 3) := by decide +kernel
theorem dX6_cutAll_87 : decode cX6_cutAll 87 = .ok (.aload_n 0, 1) := by decide +kernel
theorem dX6_cutAll_88 : decode cX6_cutAll 88 = .ok (.iload_n 1, 1) := by decide +kernel
theorem dX6_cutAll_89 : decode cX6_cutAll 89 = .ok (.iload_n 2, 1) := by decide +kernel
theorem dX6_cutAll_90 : decode cX6_cutAll 90 = .ok (.invokevirtual 193, 3) := by decide +kernel
theorem dX6_cutAll_93 : decode cX6_cutAll 93 = .ok (.iinc 2 1, 3) := by decide +kernel
theorem dX6_cutAll_96 : decode cX6_cutAll 96 = .ok (.goto (-17), 3) := by decide +kernel
theorem dX6_cutAll_99 : decode cX6_cutAll 99 = .ok (.return_, 1) := by decide +kernel
theorem dX6_mark_0 : decode cX6_mark 0 = .ok (.iconst 3, 1) := by decide +kernel
theorem dX6_mark_1 : decode cX6_mark 1 = .ok (.iload_n 1, 1) := by decide +kernel
theorem dX6_mark_2 : decode cX6_mark 2 = .ok (.imul, 1) := by decide +kernel
theorem dX6_mark_3 : decode cX6_mark 3 = .ok (.iload_n 2, 1) := by decide +kernel
theorem dX6_mark_4 : decode cX6_mark 4 = .ok (.iadd, 1) := by decide +kernel
theorem dX6_mark_5 : decode cX6_mark 5 = .ok (.istore 4, 2) := by decide +kernel
theorem dX6_mark_7 : decode cX6_mark 7 = .ok (.aload_n 0, 1) := by decide +kernel
theorem dX6_mark_8 : decode cX6_mark 8 = .ok (.getfield 37, 3) := by decide +kernel
theorem dX6_mark_11 : decode cX6_mark 11 = .ok (.iload 4, 2) := by decide +kernel
theorem dX6_mark_13 : decode cX6_mark 13 = .ok (.aload_n 0, 1) := by decide +kernel
theorem dX6_mark_14 : decode cX6_mark 14 = .ok (.getfield 37, 3) := by decide +kernel
theorem dX6_mark_17 : decode cX6_mark 17 = .ok (.iload 4, 2) := by decide +kernel
theorem dX6_mark_19 : decode cX6_mark 19 = .ok (.iaload, 1) := by decide +kernel
theorem dX6_mark_20 : decode cX6_mark 20 = .ok (.iload_n 3, 1) := by decide +kernel
theorem dX6_mark_21 : decode cX6_mark 21 = .ok (.if_icmp .le 13, 3) := by decide +kernel
theorem dX6_mark_24 : decode cX6_mark 24 = .ok (.aload_n 0, 1) := by decide +kernel
theorem dX6_mark_25 : decode cX6_mark 25 = .ok (.getfield 37, 3) := by decide +kernel
theorem dX6_mark_28 : decode cX6_mark 28 = .ok (.iload 4, 2) := by decide +kernel
theorem dX6_mark_30 : decode cX6_mark 30 = .ok (.iaload, 1) := by decide +kernel
theorem dX6_mark_31 : decode cX6_mark 31 = .ok (.goto 4, 3) := by decide +kernel
theorem dX6_mark_34 : decode cX6_mark 34 = .ok (.iload_n 3, 1) := by decide +kernel
theorem dX6_mark_35 : decode cX6_mark 35 = .ok (.iastore, 1) := by decide +kernel
theorem dX6_mark_36 : decode cX6_mark 36 = .ok (.return_, 1) := by decide +kernel
set_option maxRecDepth 20000 in
theorem ggX6_beside_X6_crossed : GoodIn wsX6_beside wsX6_crossed := goodIn_r _ [7, 8, 9, 10, 11, 12, 6, 13, 14, 15, 16, 17, 18, 19, 20, 21, 22, 23, 24, 25, 26, 27, 28, 29, 30, 31, 32, 33, 34, 35, 36, 37, 38, 39, 40, 41, 42, 43, 44, 45, 46, 47, 48, 49, 50, 51, 52, 53, 54, 55, 56, 57, 58, 59, 60, 61, 62, 63, 64, 69, 70, 71, 72, 73, 74, 75, 76, 77, 78, 79, 80, 81, 82, 83, 84, 85, 86, 87, 88, 89] (by decide +kernel) (by decide +kernel)
set_option maxRecDepth 20000 in
theorem gX6_beside_X6_crossed : GoodIn wsX6_beside (wsV RX6 159 RX6 yX6_crossed wsX6_crossed) := goodIn_app (goodIn_of _ (by decide +kernel)) ggX6_beside_X6_crossed
set_option maxRecDepth 20000 in
theorem ggX6_beside_X6_having : GoodIn wsX6_beside wsX6_having := goodIn_r _ [68, 8, 9, 10, 11, 12, 6, 13, 14, 15, 16, 17, 18, 19, 20, 21, 22, 23, 24, 25, 26, 27, 28, 29, 30, 31, 32, 33, 34, 35, 36, 37, 38, 39, 40, 41, 42, 43, 44, 45, 46, 47, 48, 49, 50, 51, 52, 53, 54, 55, 56, 57, 58, 59, 60, 69, 70, 71, 72, 73, 74, 75, 76, 77, 78, 79, 80, 81, 82, 83, 84, 85, 86, 87, 88, 89] (by decide +kernel) (by decide +kernel)
set_option maxRecDepth 20000 in
theorem gX6_beside_X6_having : GoodIn wsX6_beside (wsV RX6 153 RX6 yX6_having wsX6_having) := goodIn_app (goodIn_of _ (by decide +kernel)) ggX6_beside_X6_having
theorem dX6_beside_0 : decode cX6_beside 0 = .ok (.aload_n 0, 1) := by decide +kernel
theorem dX6_beside_1 : decode cX6_beside 1 = .ok (.getfield 7, 3) := by decide +kernel
theorem dX6_beside_4 : decode cX6_beside 4 = .ok (.iload_n 1, 1) := by decide +kernel
theorem dX6_beside_5 : decode cX6_beside 5 = .ok (.iaload, 1) := by decide +kernel
theorem dX6_beside_6 : decode cX6_beside 6 = .ok (.iconst 3, 1) := by decide +kernel
theorem dX6_beside_7 : decode cX6_beside 7 = .ok (.if_icmp .ge 5, 3) := by decide +kernel
theorem dX6_beside_10 : decode cX6_beside 10 = .ok (.iconst 2, 1) := by decide +kernel
theorem dX6_beside_11 : decode cX6_beside 11 = .ok (.ireturn, 1) := by decide +kernel
theorem dX6_beside_12 : decode cX6_beside 12 = .ok (.aload_n 0, 1) := by decide +kernel
theorem dX6_beside_13 : decode cX6_beside 13 = .ok (.iload_n 1, 1) := by decide +kernel
theorem dX6_beside_14 : decode cX6_beside 14 = .ok (.invokevirtual 159, 3) := by decide +kernel
theorem dX6_beside_17 : decode cX6_beside 17 = .ok (.iload_n 2, 1) := by decide +kernel
theorem dX6_beside_18 : decode cX6_beside 18 = .ok (.ifCond .eq 11, 3) := by decide +kernel
theorem dX6_beside_21 : decode cX6_beside 21 = .ok (.aload_n 0, 1) := by decide +kernel
theorem dX6_beside_22 : decode cX6_beside 22 = .ok (.iload_n 1, 1) := by decide +kernel
theorem dX6_beside_23 : decode cX6_beside 23 = .ok (.invokevirtual 153, 3) := by decide +kernel
theorem dX6_beside_26 : decode cX6_beside 26 = .ok (.goto 4, 3) := by decide +kernel
theorem dX6_beside_29 : decode cX6_beside 29 = .ok (.iconst 0, 1) := by decide +kernel
theorem dX6_beside_30 : decode cX6_beside 30 = .ok (.iadd, 1) := by decide +kernel
theorem dX6_beside_31 : decode cX6_beside 31 = .ok (.istore_n 3, 1) := by decide +kernel
theorem dX6_beside_32 : decode cX6_beside 32 = .ok (.iload_n 3, 1) := by decide +kernel
theorem dX6_beside_33 : decode cX6_beside 33 = .ok (.iconst 2, 1) := by decide +kernel
theorem dX6_beside_34 : decode cX6_beside 34 = .ok (.irem, 1) := by decide +kernel
theorem dX6_beside_35 : decode cX6_beside 35 = .ok (.iconst 1, 1) := by decide +kernel
theorem dX6_beside_36 : decode cX6_beside 36 = .ok (.if_icmp .ne 10, 3) := by decide +kernel
theorem dX6_beside_39 : decode cX6_beside 39 = .ok (.aload_n 0, 1) := by decide +kernel
theorem dX6_beside_40 : decode cX6_beside 40 = .ok (.getfield 40, 3) := by decide +kernel
theorem dX6_beside_43 : decode cX6_beside 43 = .ok (.iload_n 1, 1) := by decide +kernel
theorem dX6_beside_44 : decode cX6_beside 44 = .ok (.iconst 1, 1) := by decide +kernel
theorem dX6_beside_45 : decode cX6_beside 45 = .ok (.bastore, 1) := by decide +kernel
theorem dX6_beside_46 : decode cX6_beside 46 = .ok (.iload_n 3, 1) := by decide +kernel
theorem dX6_beside_47 : decode cX6_beside 47 = .ok (.iconst 2, 1) := by decide +kernel
theorem dX6_beside_48 : decode cX6_beside 48 = .ok (.irem, 1) := by decide +kernel
theorem dX6_beside_49 : decode cX6_beside 49 = .ok (.iconst 1, 1) := by decide +kernel
theorem dX6_beside_50 : decode cX6_beside 50 = .ok (.if_icmp .ne 7, 3) := by decide +kernel
theorem dX6_beside_53 : decode cX6_beside 53 = .ok (.iconst 0, 1) := by decide +kernel
theorem dX6_beside_54 : decode cX6_beside 54 = .ok (.goto 4, 3) := by decide +kernel
theorem dX6_beside_57 : decode cX6_beside 57 = .ok (.iconst 2, 1) := by decide +kernel
theorem dX6_beside_58 : decode cX6_beside 58 = .ok (.ireturn, 1) := by decide +kernel
set_option maxRecDepth 20000 in
theorem ggX6_piece_X6_between : GoodIn wsX6_piece wsX6_between := goodIn_r _ [7, 8, 9, 10, 6, 11, 12, 13, 14, 15, 16, 17, 18, 19, 20, 21, 22, 23, 24, 25, 26, 111, 112, 113, 114, 115, 116, 117, 118, 119, 120, 121, 122, 123, 124, 125, 126, 127, 128, 129, 130, 131] (by decide +kernel) (by decide +kernel)
set_option maxRecDepth 20000 in
theorem gX6_piece_X6_between : GoodIn wsX6_piece (wsV RX6 196 RX6 yX6_between wsX6_between) := goodIn_app (goodIn_of _ (by decide +kernel)) ggX6_piece_X6_between
set_option maxRecDepth 20000 in
theorem ggX6_piece_X6_where : GoodIn wsX6_piece wsX6_where := goodIn_r _ [30, 31, 32, 33, 34, 6, 35, 36, 37, 38, 39, 40, 41, 42, 43, 44, 45, 46, 47, 48, 49, 50, 51, 52, 8, 9, 10, 11, 12, 13, 14, 15, 16, 17, 18, 19, 20, 21, 22, 23, 24, 25, 26, 53, 54, 55, 56, 57, 58, 59, 60, 61, 62, 63, 64, 65, 66, 67, 68, 69, 70, 71, 72, 73, 74, 75, 76, 77, 78, 79, 80, 81, 82, 83, 84, 85, 86, 87, 88, 89, 90, 91, 92, 93, 94, 95, 96, 97, 98, 99, 100, 111, 112, 113, 114, 115, 116, 117, 118, 119, 120, 121, 122, 123, 124, 125, 126, 127, 128, 129, 130, 131] (by decide +kernel) (by decide +kernel)
set_option maxRecDepth 20000 in
theorem gX6_piece_X6_where : GoodIn wsX6_piece (wsV RX6 173 RX6 yX6_where wsX6_where) := goodIn_app (goodIn_of _ (by decide +kernel)) ggX6_piece_X6_where
set_option maxRecDepth 20000 in
theorem ggX6_piece_X6_mark : GoodIn wsX6_piece wsX6_mark := goodIn_r _ [104, 105, 111, 112, 113, 114, 115, 116, 117, 118, 119, 120, 121, 122, 123, 124, 125, 126, 127, 128, 129, 130, 131] (by decide +kernel) (by decide +kernel)
set_option maxRecDepth 20000 in
theorem gX6_piece_X6_mark : GoodIn wsX6_piece (wsV RX6 199 RX6 yX6_mark wsX6_mark) := goodIn_app (goodIn_of _ (by decide +kernel)) ggX6_piece_X6_mark
set_option maxRecDepth 20000 in
theorem ggX6_piece_X6_beside : GoodIn wsX6_piece wsX6_beside := goodIn_r _ [109, 31, 110, 93, 94, 95, 6, 96, 67, 68, 69, 70, 71, 72, 73, 74, 41, 42, 43, 44, 45, 46, 47, 48, 49, 50, 51, 52, 8, 9, 10, 11, 12, 13, 14, 15, 16, 17, 18, 19, 20, 21, 22, 23, 24, 25, 26, 53, 54, 55, 56, 57, 58, 59, 60, 61, 62, 75, 76, 77, 78, 97, 98, 99, 100, 63, 64, 65, 66, 111, 112, 113, 114, 115, 116, 117, 118, 119, 120, 121, 122, 123, 124, 125, 126, 127, 128, 129, 130, 131] (by decide +kernel) (by decide +kernel)
set_option maxRecDepth 20000 in
theorem gX6_piece_X6_beside : GoodIn wsX6_piece (wsV RX6 202 RX6 yX6_beside wsX6_beside) := goodIn_app (goodIn_of _ (by decide +kernel)) ggX6_piece_X6_beside
theorem dX6_piece_0 : decode cX6_piece 0 = .ok (.aload_n 0, 1) := by decide +kernel
theorem dX6_piece_1 : decode cX6_piece 1 = .ok (.aload_n 0, 1) := by decide +kernel
theorem dX6_piece_2 : decode cX6_piece 2 = .ok (.getfield 48, 3) := by decide +kernel
theorem dX6_piece_5 : decode cX6_piece 5 = .ok (.iload_n 2, 1) := by decide +kernel
theorem dX6_piece_6 : decode cX6_piece 6 = .ok (.laload, 1) := by decide +kernel
theorem dX6_piece_7 : decode cX6_piece 7 = .ok (.aload_n 0, 1) := by decide +kernel
theorem dX6_piece_8 : decode cX6_piece 8 = .ok (.getfield 51, 3) := by decide +kernel
theorem dX6_piece_11 : decode cX6_piece 11 = .ok (.iload_n 2, 1) := by decide +kernel
theorem dX6_piece_12 : decode cX6_piece 12 = .ok (.laload, 1) := by decide +kernel
theorem dX6_piece_13 : decode cX6_piece 13 = .ok (.aload_n 0, 1) := by decide +kernel
theorem dX6_piece_14 : decode cX6_piece 14 = .ok (.getfield 48, 3) := by decide +kernel
theorem dX6_piece_17 : decode cX6_piece 17 = .ok (.iload_n 2, 1) := by decide +kernel
theorem dX6_piece_18 : decode cX6_piece 18 = .ok (.iconst 1, 1) := by decide +kernel
theorem dX6_piece_19 : decode cX6_piece 19 = .ok (.iadd, 1) := by decide +kernel
theorem dX6_piece_20 : decode cX6_piece 20 = .ok (.laload, 1) := by decide +kernel
theorem dX6_piece_21 : decode cX6_piece 21 = .ok (.aload_n 0, 1) := by decide +kernel
theorem dX6_piece_22 : decode cX6_piece 22 = .ok (.getfield 51, 3) := by decide +kernel
theorem dX6_piece_25 : decode cX6_piece 25 = .ok (.iload_n 2, 1) := by decide +kernel
theorem dX6_piece_26 : decode cX6_piece 26 = .ok (.iconst 1, 1) := by decide +kernel
theorem dX6_piece_27 : decode cX6_piece 27 = .ok (.iadd, 1) := by decide +kernel
theorem dX6_piece_28 : decode cX6_piece 28 = .ok (.laload, 1) := by decide +kernel
theorem dX6_piece_29 : decode cX6_piece 29 = .ok (.invokevirtual 196, 3) := by decide +kernel
theorem dX6_piece_32 : decode cX6_piece 32 = .ok (.aload_n 0, 1) := by decide +kernel
theorem dX6_piece_33 : decode cX6_piece 33 = .ok (.aload_n 0, 1) := by decide +kernel
theorem dX6_piece_34 : decode cX6_piece 34 = .ok (.iconst 0, 1) := by decide +kernel
theorem dX6_piece_35 : decode cX6_piece 35 = .ok (.invokevirtual 173, 3) := by decide +kernel
theorem dX6_piece_38 : decode cX6_piece 38 = .ok (.aload_n 0, 1) := by decide +kernel
theorem dX6_piece_39 : decode cX6_piece 39 = .ok (.iconst 1, 1) := by decide +kernel
theorem dX6_piece_40 : decode cX6_piece 40 = .ok (.invokevirtual 173, 3) := by decide +kernel
theorem dX6_piece_43 : decode cX6_piece 43 = .ok (.iconst 1, 1) := by decide +kernel
theorem dX6_piece_44 : decode cX6_piece 44 = .ok (.invokevirtual 199, 3) := by decide +kernel
theorem dX6_piece_47 : decode cX6_piece 47 = .ok (.aload_n 0, 1) := by decide +kernel
theorem dX6_piece_48 : decode cX6_piece 48 = .ok (.aload_n 0, 1) := by decide +kernel
theorem dX6_piece_49 : decode cX6_piece 49 = .ok (.iconst 0, 1) := by decide +kernel
theorem dX6_piece_50 : decode cX6_piece 50 = .ok (.iconst 0, 1) := by decide +kernel
theorem dX6_piece_51 : decode cX6_piece 51 = .ok (.invokevirtual 202, 3) := by decide +kernel
theorem dX6_piece_54 : decode cX6_piece 54 = .ok (.aload_n 0, 1) := by decide +kernel
theorem dX6_piece_55 : decode cX6_piece 55 = .ok (.iconst 1, 1) := by decide +kernel
theorem dX6_piece_56 : decode cX6_piece 56 = .ok (.iconst 0, 1) := by decide +kernel
theorem dX6_piece_57 : decode cX6_piece 57 = .ok (.invokevirtual 202, 3) := by decide +kernel
theorem dX6_piece_60 : decode cX6_piece 60 = .ok (.iconst 2, 1) := by decide +kernel
theorem dX6_piece_61 : decode cX6_piece 61 = .ok (.invokevirtual 199, 3) := by decide +kernel
theorem dX6_piece_64 : decode cX6_piece 64 = .ok (.aload_n 0, 1) := by decide +kernel
theorem dX6_piece_65 : decode cX6_piece 65 = .ok (.aload_n 0, 1) := by decide +kernel
theorem dX6_piece_66 : decode cX6_piece 66 = .ok (.iconst 0, 1) := by decide +kernel
theorem dX6_piece_67 : decode cX6_piece 67 = .ok (.iconst 1, 1) := by decide +kernel
theorem dX6_piece_68 : decode cX6_piece 68 = .ok (.invokevirtual 202, 3) := by decide +kernel
theorem dX6_piece_71 : decode cX6_piece 71 = .ok (.aload_n 0, 1) := by decide +kernel
theorem dX6_piece_72 : decode cX6_piece 72 = .ok (.iconst 1, 1) := by decide +kernel
theorem dX6_piece_73 : decode cX6_piece 73 = .ok (.iconst 1, 1) := by decide +kernel
theorem dX6_piece_74 : decode cX6_piece 74 = .ok (.invokevirtual 202, 3) := by decide +kernel
theorem dX6_piece_77 : decode cX6_piece 77 = .ok (.iconst 2, 1) := by decide +kernel
theorem dX6_piece_78 : decode cX6_piece 78 = .ok (.invokevirtual 199, 3) := by decide +kernel
theorem dX6_piece_81 : decode cX6_piece 81 = .ok (.return_, 1) := by decide +kernel
set_option maxRecDepth 20000 in
theorem ggX6_look_X6_gather : GoodIn wsX6_look wsX6_gather := goodIn_r _ [16, 4, 17, 18, 19, 20, 21, 15, 22, 23, 24, 25, 26, 27, 3, 28, 29, 30, 31, 6, 8, 32, 33, 34, 35, 36, 5, 7, 159, 160, 161, 162, 163, 164, 165, 166, 167, 168, 169, 170, 171, 172, 173, 174, 175, 176, 177, 178, 179] (by decide +kernel) (by decide +kernel)
set_option maxRecDepth 20000 in
theorem gX6_look_X6_gather : GoodIn wsX6_look (wsV RX6 162 RX6 yX6_gather wsX6_gather) := goodIn_app (goodIn_of _ (by decide +kernel)) ggX6_look_X6_gather
set_option maxRecDepth 20000 in
theorem ggX6_look_X6_cutAt : GoodIn wsX6_look wsX6_cutAt := goodIn_r _ [40, 5, 7, 41, 42, 43, 15, 44, 45, 46, 47, 48, 49, 50, 51, 52, 53, 54, 55, 56, 57, 58, 59, 60, 61, 62, 63, 64, 65, 66, 67, 159, 160, 161, 162, 163, 164, 165, 166, 167, 168, 169, 170, 171, 172, 173, 174, 175, 176, 177, 178, 179] (by decide +kernel) (by decide +kernel)
set_option maxRecDepth 20000 in
theorem gX6_look_X6_cutAt : GoodIn wsX6_look (wsV RX6 186 RX6 yX6_cutAt wsX6_cutAt) := goodIn_app (goodIn_of _ (by decide +kernel)) ggX6_look_X6_cutAt
set_option maxRecDepth 20000 in
theorem ggX6_look_X6_where : GoodIn wsX6_look wsX6_where := goodIn_r _ [71, 18, 72, 73, 74, 15, 75, 3, 76, 77, 78, 79, 5, 7, 80, 81, 82, 83, 45, 47, 84, 85, 86, 87, 53, 54, 55, 56, 57, 58, 59, 60, 61, 62, 63, 64, 65, 66, 67, 88, 89, 90, 91, 92, 93, 94, 95, 96, 97, 98, 99, 46, 48, 100, 101, 102, 103, 4, 32, 104, 105, 106, 107, 6, 8, 108, 109, 110, 111, 112, 113, 114, 115, 17, 19, 20, 21, 22, 23, 24, 25, 26, 27, 116, 117, 118, 119, 120, 121, 122, 123, 159, 160, 161, 162, 163, 164, 165, 166, 167, 168, 169, 170, 171, 172, 173, 174, 175, 176, 177, 178, 179] (by decide +kernel) (by decide +kernel)
set_option maxRecDepth 20000 in
theorem gX6_look_X6_where : GoodIn wsX6_look (wsV RX6 173 RX6 yX6_where wsX6_where) := goodIn_app (goodIn_of _ (by decide +kernel)) ggX6_look_X6_where
set_option maxRecDepth 20000 in
theorem ggX6_look_X6_mark : GoodIn wsX6_look wsX6_mark := goodIn_r _ [127, 1, 159, 160, 161, 162, 163, 164, 165, 166, 167, 168, 169, 170, 171, 172, 173, 174, 175, 176, 177, 178, 179] (by decide +kernel) (by decide +kernel)
set_option maxRecDepth 20000 in
theorem gX6_look_X6_mark : GoodIn wsX6_look (wsV RX6 199 RX6 yX6_mark wsX6_mark) := goodIn_app (goodIn_of _ (by decide +kernel)) ggX6_look_X6_mark
set_option maxRecDepth 20000 in
theorem ggX6_look_X6_cutAll : GoodIn wsX6_look wsX6_cutAll := goodIn_r _ [131, 9, 3, 4, 132, 133, 134, 15, 135, 10, 11, 136, 137, 138, 37, 38, 39, 40, 5, 7, 41, 42, 43, 44, 45, 46, 47, 48, 49, 50, 51, 52, 53, 54, 55, 56, 57, 58, 59, 60, 61, 62, 63, 64, 65, 66, 67, 104, 105, 106, 107, 6, 8, 80, 81, 82, 83, 84, 85, 86, 87, 88, 89, 90, 91, 92, 93, 94, 95, 96, 97, 98, 99, 108, 109, 110, 111, 139, 140, 141, 142, 143, 144, 145, 146, 159, 160, 161, 162, 163, 164, 165, 166, 167, 168, 169, 170, 171, 172, 173, 174, 175, 176, 177, 178, 179] (by decide +kernel) (by decide +kernel)
set_option maxRecDepth 20000 in
theorem gX6_look_X6_cutAll : GoodIn wsX6_look (wsV RX6 206 RX6 yX6_cutAll wsX6_cutAll) := goodIn_app (goodIn_of _ (by decide +kernel)) ggX6_look_X6_cutAll
set_option maxRecDepth 20000 in
theorem ggX6_look_X6_stand : GoodIn wsX6_look wsX6_stand := goodIn_r _ [44, 45, 46, 47, 48, 159, 160, 161, 162, 163, 164, 165, 166, 167, 168, 169, 170, 171, 172, 173, 174, 175, 176, 177, 178, 179] (by decide +kernel) (by decide +kernel)
set_option maxRecDepth 20000 in
theorem gX6_look_X6_stand : GoodIn wsX6_look (wsV RX6 165 RX6 yX6_stand wsX6_stand) := goodIn_app (goodIn_of _ (by decide +kernel)) ggX6_look_X6_stand
set_option maxRecDepth 20000 in
theorem ggX6_look_X6_at : GoodIn wsX6_look wsX6_at := goodIn_r _ [52, 53, 54, 55, 15, 56, 57, 58, 59, 60, 61, 62, 63, 64, 65, 66, 67, 159, 160, 161, 162, 163, 164, 165, 166, 167, 168, 169, 170, 171, 172, 173, 174, 175, 176, 177, 178, 179] (by decide +kernel) (by decide +kernel)
set_option maxRecDepth 20000 in
theorem gX6_look_X6_at : GoodIn wsX6_look (wsV RX6 169 RX6 yX6_at wsX6_at) := goodIn_app (goodIn_of _ (by decide +kernel)) ggX6_look_X6_at
set_option maxRecDepth 20000 in
theorem ggX6_look_X6_piece : GoodIn wsX6_look wsX6_piece := goodIn_r _ [150, 10, 11, 151, 152, 153, 15, 154, 53, 54, 55, 56, 57, 58, 59, 60, 61, 62, 63, 64, 65, 66, 67, 88, 89, 90, 91, 68, 69, 70, 71, 18, 72, 73, 74, 75, 3, 76, 77, 78, 79, 5, 7, 80, 81, 82, 83, 45, 47, 84, 85, 86, 87, 92, 93, 94, 95, 96, 97, 98, 99, 46, 48, 100, 101, 102, 103, 4, 32, 104, 105, 106, 107, 6, 8, 108, 109, 110, 111, 112, 113, 114, 115, 17, 19, 20, 21, 22, 23, 24, 25, 26, 27, 116, 117, 118, 119, 120, 121, 122, 123, 124, 125, 126, 127, 1, 155, 156, 157, 158, 2, 159, 160, 161, 162, 163, 164, 165, 166, 167, 168, 169, 170, 171, 172, 173, 174, 175, 176, 177, 178, 179] (by decide +kernel) (by decide +kernel)
set_option maxRecDepth 20000 in
theorem gX6_look_X6_piece : GoodIn wsX6_look (wsV RX6 209 RX6 yX6_piece wsX6_piece) := goodIn_app (goodIn_of _ (by decide +kernel)) ggX6_look_X6_piece
theorem dX6_look_0 : decode cX6_look 0 = .ok (.aload_n 0, 1) := by decide +kernel
theorem dX6_look_1 : decode cX6_look 1 = .ok (.invokevirtual 162, 3) := by decide +kernel
theorem dX6_look_4 : decode cX6_look 4 = .ok (.iconst 0, 1) := by decide +kernel
theorem dX6_look_5 : decode cX6_look 5 = .ok (.istore_n 1, 1) := by decide +kernel
theorem dX6_look_6 : decode cX6_look 6 = .ok (.iload_n 1, 1) := by decide +kernel
theorem dX6_look_7 : decode cX6_look 7 = .ok (.bipush 9, 2) := by decide +kernel
theorem dX6_look_9 : decode cX6_look 9 = .ok (.if_icmp .ge 16, 3) := by decide +kernel
theorem dX6_look_12 : decode cX6_look 12 = .ok (.aload_n 0, 1) := by decide +kernel
theorem dX6_look_13 : decode cX6_look 13 = .ok (.getfield 37, 3) := by decide +kernel
theorem dX6_look_16 : decode cX6_look 16 = .ok (.iload_n 1, 1) := by decide +kernel
theorem dX6_look_17 : decode cX6_look 17 = .ok (.iconst (-1), 1) := by decide +kernel
theorem dX6_look_18 : decode cX6_look 18 = .ok (.iastore, 1) := by decide +kernel
theorem dX6_look_19 : decode cX6_look 19 = .ok (.iinc 1 1, 3) := by decide +kernel
theorem dX6_look_22 : decode cX6_look 22 = .ok (.goto (-16), 3) := by decide +kernel
theorem dX6_look_25 : decode cX6_look 25 = .ok (.aload_n 0, 1) := by decide +kernel
theorem dX6_look_26 : decode cX6_look 26 = .ok (.getfield 37, 3) := by decide +kernel
theorem dX6_look_29 : decode cX6_look 29 = .ok (.bipush 8, 2) := by decide +kernel
theorem dX6_look_31 : decode cX6_look 31 = .ok (.iconst 2, 1) := by decide +kernel
theorem dX6_look_32 : decode cX6_look 32 = .ok (.iastore, 1) := by decide +kernel
theorem dX6_look_33 : decode cX6_look 33 = .ok (.aload_n 0, 1) := by decide +kernel
theorem dX6_look_34 : decode cX6_look 34 = .ok (.getfield 40, 3) := by decide +kernel
theorem dX6_look_37 : decode cX6_look 37 = .ok (.iconst 0, 1) := by decide +kernel
theorem dX6_look_38 : decode cX6_look 38 = .ok (.iconst 0, 1) := by decide +kernel
theorem dX6_look_39 : decode cX6_look 39 = .ok (.bastore, 1) := by decide +kernel
theorem dX6_look_40 : decode cX6_look 40 = .ok (.aload_n 0, 1) := by decide +kernel
theorem dX6_look_41 : decode cX6_look 41 = .ok (.getfield 40, 3) := by decide +kernel
theorem dX6_look_44 : decode cX6_look 44 = .ok (.iconst 1, 1) := by decide +kernel
theorem dX6_look_45 : decode cX6_look 45 = .ok (.iconst 0, 1) := by decide +kernel
theorem dX6_look_46 : decode cX6_look 46 = .ok (.bastore, 1) := by decide +kernel
theorem dX6_look_47 : decode cX6_look 47 = .ok (.iconst 0, 1) := by decide +kernel
theorem dX6_look_48 : decode cX6_look 48 = .ok (.istore_n 1, 1) := by decide +kernel
theorem dX6_look_49 : decode cX6_look 49 = .ok (.iload_n 1, 1) := by decide +kernel
theorem dX6_look_50 : decode cX6_look 50 = .ok (.iconst 2, 1) := by decide +kernel
theorem dX6_look_51 : decode cX6_look 51 = .ok (.if_icmp .ge 57, 3) := by decide +kernel
theorem dX6_look_54 : decode cX6_look 54 = .ok (.sipush 2048, 3) := by decide +kernel
theorem dX6_look_57 : decode cX6_look 57 = .ok (.iload_n 1, 1) := by decide +kernel
theorem dX6_look_58 : decode cX6_look 58 = .ok (.imul, 1) := by decide +kernel
theorem dX6_look_59 : decode cX6_look 59 = .ok (.istore_n 2, 1) := by decide +kernel
theorem dX6_look_60 : decode cX6_look 60 = .ok (.iload_n 2, 1) := by decide +kernel
theorem dX6_look_61 : decode cX6_look 61 = .ok (.sipush 2048, 3) := by decide +kernel
theorem dX6_look_64 : decode cX6_look 64 = .ok (.iload_n 1, 1) := by decide +kernel
theorem dX6_look_65 : decode cX6_look 65 = .ok (.imul, 1) := by decide +kernel
theorem dX6_look_66 : decode cX6_look 66 = .ok (.aload_n 0, 1) := by decide +kernel
theorem dX6_look_67 : decode cX6_look 67 = .ok (.getfield 13, 3) := by decide +kernel
theorem dX6_look_70 : decode cX6_look 70 = .ok (.iload_n 1, 1) := by decide +kernel
theorem dX6_look_71 : decode cX6_look 71 = .ok (.iaload, 1) := by decide +kernel
theorem dX6_look_72 : decode cX6_look 72 = .ok (.iadd, 1) := by decide +kernel
theorem dX6_look_73 : decode cX6_look 73 = .ok (.if_icmp .ge 29, 3) := by decide +kernel
theorem dX6_look_76 : decode cX6_look 76 = .ok (.aload_n 0, 1) := by decide +kernel
theorem dX6_look_77 : decode cX6_look 77 = .ok (.iload_n 2, 1) := by decide +kernel
theorem dX6_look_78 : decode cX6_look 78 = .ok (.invokevirtual 186, 3) := by decide +kernel
theorem dX6_look_81 : decode cX6_look 81 = .ok (.aload_n 0, 1) := by decide +kernel
theorem dX6_look_82 : decode cX6_look 82 = .ok (.aload_n 0, 1) := by decide +kernel
theorem dX6_look_83 : decode cX6_look 83 = .ok (.iconst 0, 1) := by decide +kernel
theorem dX6_look_84 : decode cX6_look 84 = .ok (.invokevirtual 173, 3) := by decide +kernel
theorem dX6_look_87 : decode cX6_look 87 = .ok (.aload_n 0, 1) := by decide +kernel
theorem dX6_look_88 : decode cX6_look 88 = .ok (.iconst 1, 1) := by decide +kernel
theorem dX6_look_89 : decode cX6_look 89 = .ok (.invokevirtual 173, 3) := by decide +kernel
theorem dX6_look_92 : decode cX6_look 92 = .ok (.iconst 0, 1) := by decide +kernel
theorem dX6_look_93 : decode cX6_look 93 = .ok (.invokevirtual 199, 3) := by decide +kernel
theorem dX6_look_96 : decode cX6_look 96 = .ok (.iinc 2 1, 3) := by decide +kernel
theorem dX6_look_99 : decode cX6_look 99 = .ok (.goto (-39), 3) := by decide +kernel
theorem dX6_look_102 : decode cX6_look 102 = .ok (.iinc 1 1, 3) := by decide +kernel
theorem dX6_look_105 : decode cX6_look 105 = .ok (.goto (-56), 3) := by decide +kernel
theorem dX6_look_108 : decode cX6_look 108 = .ok (.iconst 0, 1) := by decide +kernel
theorem dX6_look_109 : decode cX6_look 109 = .ok (.istore_n 1, 1) := by decide +kernel
theorem dX6_look_110 : decode cX6_look 110 = .ok (.iload_n 1, 1) := by decide +kernel
theorem dX6_look_111 : decode cX6_look 111 = .ok (.aload_n 0, 1) := by decide +kernel
theorem dX6_look_112 : decode cX6_look 112 = .ok (.getfield 79, 3) := by decide +kernel
theorem dX6_look_115 : decode cX6_look 115 = .ok (.if_icmp .ge 155, 3) := by decide +kernel
theorem dX6_look_118 : decode cX6_look 118 = .ok (.aload_n 0, 1) := by decide +kernel
theorem dX6_look_119 : decode cX6_look 119 = .ok (.iload_n 1, 1) := by decide +kernel
theorem dX6_look_120 : decode cX6_look 120 = .ok (.invokevirtual 206, 3) := by decide +kernel
theorem dX6_look_123 : decode cX6_look 123 = .ok (.aload_n 0, 1) := by decide +kernel
theorem dX6_look_124 : decode cX6_look 124 = .ok (.aload_n 0, 1) := by decide +kernel
theorem dX6_look_125 : decode cX6_look 125 = .ok (.getfield 22, 3) := by decide +kernel
theorem dX6_look_128 : decode cX6_look 128 = .ok (.aload_n 0, 1) := by decide +kernel
theorem dX6_look_129 : decode cX6_look 129 = .ok (.getfield 28, 3) := by decide +kernel
theorem dX6_look_132 : decode cX6_look 132 = .ok (.iload_n 1, 1) := by decide +kernel
theorem dX6_look_133 : decode cX6_look 133 = .ok (.iaload, 1) := by decide +kernel
theorem dX6_look_134 : decode cX6_look 134 = .ok (.iaload, 1) := by decide +kernel
theorem dX6_look_135 : decode cX6_look 135 = .ok (.i2l, 1) := by decide +kernel
theorem dX6_look_136 : decode cX6_look 136 = .ok (.aload_n 0, 1) := by decide +kernel
theorem dX6_look_137 : decode cX6_look 137 = .ok (.getfield 25, 3) := by decide +kernel
theorem dX6_look_140 : decode cX6_look 140 = .ok (.aload_n 0, 1) := by decide +kernel
theorem dX6_look_141 : decode cX6_look 141 = .ok (.getfield 28, 3) := by decide +kernel
theorem dX6_look_144 : decode cX6_look 144 = .ok (.iload_n 1, 1) := by decide +kernel
theorem dX6_look_145 : decode cX6_look 145 = .ok (.iaload, 1) := by decide +kernel
theorem dX6_look_146 : decode cX6_look 146 = .ok (.iaload, 1) := by decide +kernel
theorem dX6_look_147 : decode cX6_look 147 = .ok (.i2l, 1) := by decide +kernel
theorem dX6_look_148 : decode cX6_look 148 = .ok (.aload_n 0, 1) := by decide +kernel
theorem dX6_look_149 : decode cX6_look 149 = .ok (.getfield 22, 3) := by decide +kernel
theorem dX6_look_152 : decode cX6_look 152 = .ok (.aload_n 0, 1) := by decide +kernel
theorem dX6_look_153 : decode cX6_look 153 = .ok (.getfield 31, 3) := by decide +kernel
theorem dX6_look_156 : decode cX6_look 156 = .ok (.iload_n 1, 1) := by decide +kernel
theorem dX6_look_157 : decode cX6_look 157 = .ok (.iaload, 1) := by decide +kernel
theorem dX6_look_158 : decode cX6_look 158 = .ok (.iaload, 1) := by decide +kernel
theorem dX6_look_159 : decode cX6_look 159 = .ok (.i2l, 1) := by decide +kernel
theorem dX6_look_160 : decode cX6_look 160 = .ok (.aload_n 0, 1) := by decide +kernel
theorem dX6_look_161 : decode cX6_look 161 = .ok (.getfield 22, 3) := by decide +kernel
theorem dX6_look_164 : decode cX6_look 164 = .ok (.aload_n 0, 1) := by decide +kernel
theorem dX6_look_165 : decode cX6_look 165 = .ok (.getfield 28, 3) := by decide +kernel
theorem dX6_look_168 : decode cX6_look 168 = .ok (.iload_n 1, 1) := by decide +kernel
theorem dX6_look_169 : decode cX6_look 169 = .ok (.iaload, 1) := by decide +kernel
theorem dX6_look_170 : decode cX6_look 170 = .ok (.iaload, 1) := by decide +kernel
theorem dX6_look_171 : decode cX6_look 171 = .ok (.i2l, 1) := by decide +kernel
theorem dX6_look_172 : decode cX6_look 172 = .ok (.lsub, 1) := by decide +kernel
theorem dX6_look_173 : decode cX6_look 173 = .ok (.aload_n 0, 1) := by decide +kernel
theorem dX6_look_174 : decode cX6_look 174 = .ok (.getfield 25, 3) := by decide +kernel
theorem dX6_look_177 : decode cX6_look 177 = .ok (.aload_n 0, 1) := by decide +kernel
theorem dX6_look_178 : decode cX6_look 178 = .ok (.getfield 31, 3) := by decide +kernel
theorem dX6_look_181 : decode cX6_look 181 = .ok (.iload_n 1, 1) := by decide +kernel
theorem dX6_look_182 : decode cX6_look 182 = .ok (.iaload, 1) := by decide +kernel
theorem dX6_look_183 : decode cX6_look 183 = .ok (.iaload, 1) := by decide +kernel
theorem dX6_look_184 : decode cX6_look 184 = .ok (.i2l, 1) := by decide +kernel
theorem dX6_look_185 : decode cX6_look 185 = .ok (.aload_n 0, 1) := by decide +kernel
theorem dX6_look_186 : decode cX6_look 186 = .ok (.getfield 25, 3) := by decide +kernel
theorem dX6_look_189 : decode cX6_look 189 = .ok (.aload_n 0, 1) := by decide +kernel
theorem dX6_look_190 : decode cX6_look 190 = .ok (.getfield 28, 3) := by decide +kernel
theorem dX6_look_193 : decode cX6_look 193 = .ok (.iload_n 1, 1) := by decide +kernel
theorem dX6_look_194 : decode cX6_look 194 = .ok (.iaload, 1) := by decide +kernel
theorem dX6_look_195 : decode cX6_look 195 = .ok (.iaload, 1) := by decide +kernel
theorem dX6_look_196 : decode cX6_look 196 = .ok (.i2l, 1) := by decide +kernel
theorem dX6_look_197 : decode cX6_look 197 = .ok (.lsub, 1) := by decide +kernel
theorem dX6_look_198 : decode cX6_look 198 = .ok (.invokevirtual 165, 3) := by decide +kernel
theorem dX6_look_201 : decode cX6_look 201 = .ok (.iconst 0, 1) := by decide +kernel
theorem dX6_look_202 : decode cX6_look 202 = .ok (.istore_n 2, 1) := by decide +kernel
theorem dX6_look_203 : decode cX6_look 203 = .ok (.iload_n 2, 1) := by decide +kernel
theorem dX6_look_204 : decode cX6_look 204 = .ok (.aload_n 0, 1) := by decide +kernel
theorem dX6_look_205 : decode cX6_look 205 = .ok (.getfield 176, 3) := by decide +kernel
theorem dX6_look_208 : decode cX6_look 208 = .ok (.if_icmp .ge 56, 3) := by decide +kernel
theorem dX6_look_211 : decode cX6_look 211 = .ok (.aload_n 0, 1) := by decide +kernel
theorem dX6_look_212 : decode cX6_look 212 = .ok (.aload_n 0, 1) := by decide +kernel
theorem dX6_look_213 : decode cX6_look 213 = .ok (.getfield 48, 3) := by decide +kernel
theorem dX6_look_216 : decode cX6_look 216 = .ok (.iload_n 2, 1) := by decide +kernel
theorem dX6_look_217 : decode cX6_look 217 = .ok (.laload, 1) := by decide +kernel
theorem dX6_look_218 : decode cX6_look 218 = .ok (.aload_n 0, 1) := by decide +kernel
theorem dX6_look_219 : decode cX6_look 219 = .ok (.getfield 51, 3) := by decide +kernel
theorem dX6_look_222 : decode cX6_look 222 = .ok (.iload_n 2, 1) := by decide +kernel
theorem dX6_look_223 : decode cX6_look 223 = .ok (.laload, 1) := by decide +kernel
theorem dX6_look_224 : decode cX6_look 224 = .ok (.invokevirtual 169, 3) := by decide +kernel
theorem dX6_look_227 : decode cX6_look 227 = .ok (.aload_n 0, 1) := by decide +kernel
theorem dX6_look_228 : decode cX6_look 228 = .ok (.aload_n 0, 1) := by decide +kernel
theorem dX6_look_229 : decode cX6_look 229 = .ok (.iconst 0, 1) := by decide +kernel
theorem dX6_look_230 : decode cX6_look 230 = .ok (.invokevirtual 173, 3) := by decide +kernel
theorem dX6_look_233 : decode cX6_look 233 = .ok (.aload_n 0, 1) := by decide +kernel
theorem dX6_look_234 : decode cX6_look 234 = .ok (.iconst 1, 1) := by decide +kernel
theorem dX6_look_235 : decode cX6_look 235 = .ok (.invokevirtual 173, 3) := by decide +kernel
theorem dX6_look_238 : decode cX6_look 238 = .ok (.iconst 0, 1) := by decide +kernel
theorem dX6_look_239 : decode cX6_look 239 = .ok (.invokevirtual 199, 3) := by decide +kernel
theorem dX6_look_242 : decode cX6_look 242 = .ok (.iload_n 2, 1) := by decide +kernel
theorem dX6_look_243 : decode cX6_look 243 = .ok (.iconst 1, 1) := by decide +kernel
theorem dX6_look_244 : decode cX6_look 244 = .ok (.iadd, 1) := by decide +kernel
