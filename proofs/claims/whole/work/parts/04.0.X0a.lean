theorem dX0_init_0 : decode cX0_init 0 = .ok (.aload_n 0, 1) := by decide +kernel
theorem dX0_init_1 : decode cX0_init 1 = .ok (.invokespecial 1, 3) := by decide +kernel
theorem dX0_init_4 : decode cX0_init 4 = .ok (.return_, 1) := by decide +kernel
theorem dX0_lay_0 : decode cX0_lay 0 = .ok (.aload_n 1, 1) := by decide +kernel
theorem dX0_lay_1 : decode cX0_lay 1 = .ok (.getfield 7, 3) := by decide +kernel
theorem dX0_lay_4 : decode cX0_lay 4 = .ok (.iload_n 2, 1) := by decide +kernel
theorem dX0_lay_5 : decode cX0_lay 5 = .ok (.iaload, 1) := by decide +kernel
theorem dX0_lay_6 : decode cX0_lay 6 = .ok (.istore_n 3, 1) := by decide +kernel
theorem dX0_lay_7 : decode cX0_lay 7 = .ok (.aload_n 1, 1) := by decide +kernel
theorem dX0_lay_8 : decode cX0_lay 8 = .ok (.getfield 13, 3) := by decide +kernel
theorem dX0_lay_11 : decode cX0_lay 11 = .ok (.iload_n 2, 1) := by decide +kernel
theorem dX0_lay_12 : decode cX0_lay 12 = .ok (.iaload, 1) := by decide +kernel
theorem dX0_lay_13 : decode cX0_lay 13 = .ok (.istore 4, 2) := by decide +kernel
theorem dX0_lay_15 : decode cX0_lay 15 = .ok (.aload_n 0, 1) := by decide +kernel
theorem dX0_lay_16 : decode cX0_lay 16 = .ok (.aload_n 1, 1) := by decide +kernel
theorem dX0_lay_17 : decode cX0_lay 17 = .ok (.getfield 16, 3) := by decide +kernel
theorem dX0_lay_20 : decode cX0_lay 20 = .ok (.iload_n 3, 1) := by decide +kernel
theorem dX0_lay_21 : decode cX0_lay 21 = .ok (.iaload, 1) := by decide +kernel
theorem dX0_lay_22 : decode cX0_lay 22 = .ok (.i2l, 1) := by decide +kernel
theorem dX0_lay_23 : decode cX0_lay 23 = .ok (.putfield 19, 3) := by decide +kernel
theorem dX0_lay_26 : decode cX0_lay 26 = .ok (.aload_n 0, 1) := by decide +kernel
theorem dX0_lay_27 : decode cX0_lay 27 = .ok (.aload_n 1, 1) := by decide +kernel
theorem dX0_lay_28 : decode cX0_lay 28 = .ok (.getfield 25, 3) := by decide +kernel
theorem dX0_lay_31 : decode cX0_lay 31 = .ok (.iload_n 3, 1) := by decide +kernel
theorem dX0_lay_32 : decode cX0_lay 32 = .ok (.iaload, 1) := by decide +kernel
theorem dX0_lay_33 : decode cX0_lay 33 = .ok (.i2l, 1) := by decide +kernel
theorem dX0_lay_34 : decode cX0_lay 34 = .ok (.putfield 28, 3) := by decide +kernel
theorem dX0_lay_37 : decode cX0_lay 37 = .ok (.aload_n 0, 1) := by decide +kernel
theorem dX0_lay_38 : decode cX0_lay 38 = .ok (.aload_n 1, 1) := by decide +kernel
theorem dX0_lay_39 : decode cX0_lay 39 = .ok (.getfield 16, 3) := by decide +kernel
theorem dX0_lay_42 : decode cX0_lay 42 = .ok (.iload 4, 2) := by decide +kernel
theorem dX0_lay_44 : decode cX0_lay 44 = .ok (.iaload, 1) := by decide +kernel
theorem dX0_lay_45 : decode cX0_lay 45 = .ok (.i2l, 1) := by decide +kernel
theorem dX0_lay_46 : decode cX0_lay 46 = .ok (.aload_n 0, 1) := by decide +kernel
theorem dX0_lay_47 : decode cX0_lay 47 = .ok (.getfield 19, 3) := by decide +kernel
theorem dX0_lay_50 : decode cX0_lay 50 = .ok (.lsub, 1) := by decide +kernel
theorem dX0_lay_51 : decode cX0_lay 51 = .ok (.putfield 31, 3) := by decide +kernel
theorem dX0_lay_54 : decode cX0_lay 54 = .ok (.aload_n 0, 1) := by decide +kernel
theorem dX0_lay_55 : decode cX0_lay 55 = .ok (.aload_n 1, 1) := by decide +kernel
theorem dX0_lay_56 : decode cX0_lay 56 = .ok (.getfield 25, 3) := by decide +kernel
theorem dX0_lay_59 : decode cX0_lay 59 = .ok (.iload 4, 2) := by decide +kernel
theorem dX0_lay_61 : decode cX0_lay 61 = .ok (.iaload, 1) := by decide +kernel
theorem dX0_lay_62 : decode cX0_lay 62 = .ok (.i2l, 1) := by decide +kernel
theorem dX0_lay_63 : decode cX0_lay 63 = .ok (.aload_n 0, 1) := by decide +kernel
theorem dX0_lay_64 : decode cX0_lay 64 = .ok (.getfield 28, 3) := by decide +kernel
theorem dX0_lay_67 : decode cX0_lay 67 = .ok (.lsub, 1) := by decide +kernel
theorem dX0_lay_68 : decode cX0_lay 68 = .ok (.putfield 34, 3) := by decide +kernel
theorem dX0_lay_71 : decode cX0_lay 71 = .ok (.return_, 1) := by decide +kernel
theorem dX0_sideOf_0 : decode cX0_sideOf 0 = .ok (.aload_n 0, 1) := by decide +kernel
theorem dX0_sideOf_1 : decode cX0_sideOf 1 = .ok (.getfield 31, 3) := by decide +kernel
theorem dX0_sideOf_4 : decode cX0_sideOf 4 = .ok (.iload_n 2, 1) := by decide +kernel
theorem dX0_sideOf_5 : decode cX0_sideOf 5 = .ok (.i2l, 1) := by decide +kernel
theorem dX0_sideOf_6 : decode cX0_sideOf 6 = .ok (.aload_n 0, 1) := by decide +kernel
theorem dX0_sideOf_7 : decode cX0_sideOf 7 = .ok (.getfield 28, 3) := by decide +kernel
theorem dX0_sideOf_10 : decode cX0_sideOf 10 = .ok (.lsub, 1) := by decide +kernel
theorem dX0_sideOf_11 : decode cX0_sideOf 11 = .ok (.lmul, 1) := by decide +kernel
theorem dX0_sideOf_12 : decode cX0_sideOf 12 = .ok (.aload_n 0, 1) := by decide +kernel
theorem dX0_sideOf_13 : decode cX0_sideOf 13 = .ok (.getfield 34, 3) := by decide +kernel
theorem dX0_sideOf_16 : decode cX0_sideOf 16 = .ok (.iload_n 1, 1) := by decide +kernel
theorem dX0_sideOf_17 : decode cX0_sideOf 17 = .ok (.i2l, 1) := by decide +kernel
theorem dX0_sideOf_18 : decode cX0_sideOf 18 = .ok (.aload_n 0, 1) := by decide +kernel
theorem dX0_sideOf_19 : decode cX0_sideOf 19 = .ok (.getfield 19, 3) := by decide +kernel
theorem dX0_sideOf_22 : decode cX0_sideOf 22 = .ok (.lsub, 1) := by decide +kernel
theorem dX0_sideOf_23 : decode cX0_sideOf 23 = .ok (.lmul, 1) := by decide +kernel
theorem dX0_sideOf_24 : decode cX0_sideOf 24 = .ok (.lsub, 1) := by decide +kernel
theorem dX0_sideOf_25 : decode cX0_sideOf 25 = .ok (.lreturn, 1) := by decide +kernel
theorem dX0_along_0 : decode cX0_along 0 = .ok (.aload_n 0, 1) := by decide +kernel
theorem dX0_along_1 : decode cX0_along 1 = .ok (.getfield 31, 3) := by decide +kernel
theorem dX0_along_4 : decode cX0_along 4 = .ok (.lconst 0, 1) := by decide +kernel
theorem dX0_along_5 : decode cX0_along 5 = .ok (.lcmp, 1) := by decide +kernel
theorem dX0_along_6 : decode cX0_along 6 = .ok (.ifCond .eq 30, 3) := by decide +kernel
theorem dX0_along_9 : decode cX0_along 9 = .ok (.aload_n 0, 1) := by decide +kernel
theorem dX0_along_10 : decode cX0_along 10 = .ok (.getfield 31, 3) := by decide +kernel
theorem dX0_along_13 : decode cX0_along 13 = .ok (.lconst 0, 1) := by decide +kernel
theorem dX0_along_14 : decode cX0_along 14 = .ok (.lcmp, 1) := by decide +kernel
theorem dX0_along_15 : decode cX0_along 15 = .ok (.ifCond .le 13, 3) := by decide +kernel
theorem dX0_along_18 : decode cX0_along 18 = .ok (.iload_n 1, 1) := by decide +kernel
theorem dX0_along_19 : decode cX0_along 19 = .ok (.i2l, 1) := by decide +kernel
theorem dX0_along_20 : decode cX0_along 20 = .ok (.aload_n 0, 1) := by decide +kernel
theorem dX0_along_21 : decode cX0_along 21 = .ok (.getfield 19, 3) := by decide +kernel
theorem dX0_along_24 : decode cX0_along 24 = .ok (.lsub, 1) := by decide +kernel
theorem dX0_along_25 : decode cX0_along 25 = .ok (.goto 10, 3) := by decide +kernel
theorem dX0_along_28 : decode cX0_along 28 = .ok (.aload_n 0, 1) := by decide +kernel
theorem dX0_along_29 : decode cX0_along 29 = .ok (.getfield 19, 3) := by decide +kernel
theorem dX0_along_32 : decode cX0_along 32 = .ok (.iload_n 1, 1) := by decide +kernel
theorem dX0_along_33 : decode cX0_along 33 = .ok (.i2l, 1) := by decide +kernel
theorem dX0_along_34 : decode cX0_along 34 = .ok (.lsub, 1) := by decide +kernel
theorem dX0_along_35 : decode cX0_along 35 = .ok (.lreturn, 1) := by decide +kernel
theorem dX0_along_36 : decode cX0_along 36 = .ok (.aload_n 0, 1) := by decide +kernel
theorem dX0_along_37 : decode cX0_along 37 = .ok (.getfield 34, 3) := by decide +kernel
theorem dX0_along_40 : decode cX0_along 40 = .ok (.lconst 0, 1) := by decide +kernel
theorem dX0_along_41 : decode cX0_along 41 = .ok (.lcmp, 1) := by decide +kernel
theorem dX0_along_42 : decode cX0_along 42 = .ok (.ifCond .le 13, 3) := by decide +kernel
theorem dX0_along_45 : decode cX0_along 45 = .ok (.iload_n 2, 1) := by decide +kernel
theorem dX0_along_46 : decode cX0_along 46 = .ok (.i2l, 1) := by decide +kernel
theorem dX0_along_47 : decode cX0_along 47 = .ok (.aload_n 0, 1) := by decide +kernel
theorem dX0_along_48 : decode cX0_along 48 = .ok (.getfield 28, 3) := by decide +kernel
theorem dX0_along_51 : decode cX0_along 51 = .ok (.lsub, 1) := by decide +kernel
theorem dX0_along_52 : decode cX0_along 52 = .ok (.goto 10, 3) := by decide +kernel
theorem dX0_along_55 : decode cX0_along 55 = .ok (.aload_n 0, 1) := by decide +kernel
theorem dX0_along_56 : decode cX0_along 56 = .ok (.getfield 28, 3) := by decide +kernel
theorem dX0_along_59 : decode cX0_along 59 = .ok (.iload_n 2, 1) := by decide +kernel
theorem dX0_along_60 : decode cX0_along 60 = .ok (.i2l, 1) := by decide +kernel
theorem dX0_along_61 : decode cX0_along 61 = .ok (.lsub, 1) := by decide +kernel
theorem dX0_along_62 : decode cX0_along 62 = .ok (.lreturn, 1) := by decide +kernel
theorem dX0_span_0 : decode cX0_span 0 = .ok (.aload_n 0, 1) := by decide +kernel
theorem dX0_span_1 : decode cX0_span 1 = .ok (.getfield 31, 3) := by decide +kernel
theorem dX0_span_4 : decode cX0_span 4 = .ok (.lconst 0, 1) := by decide +kernel
theorem dX0_span_5 : decode cX0_span 5 = .ok (.lcmp, 1) := by decide +kernel
theorem dX0_span_6 : decode cX0_span 6 = .ok (.ifCond .eq 10, 3) := by decide +kernel
theorem dX0_span_9 : decode cX0_span 9 = .ok (.aload_n 0, 1) := by decide +kernel
theorem dX0_span_10 : decode cX0_span 10 = .ok (.getfield 31, 3) := by decide +kernel
theorem dX0_span_13 : decode cX0_span 13 = .ok (.goto 7, 3) := by decide +kernel
theorem dX0_span_16 : decode cX0_span 16 = .ok (.aload_n 0, 1) := by decide +kernel
theorem dX0_span_17 : decode cX0_span 17 = .ok (.getfield 34, 3) := by decide +kernel
theorem dX0_span_20 : decode cX0_span 20 = .ok (.invokestatic 37, 3) := by decide +kernel
theorem dX0_span_23 : decode cX0_span 23 = .ok (.lreturn, 1) := by decide +kernel
theorem dX0_reach_0 : decode cX0_reach 0 = .ok (.iload_n 1, 1) := by decide +kernel
theorem dX0_reach_1 : decode cX0_reach 1 = .ok (.i2l, 1) := by decide +kernel
theorem dX0_reach_2 : decode cX0_reach 2 = .ok (.aload_n 0, 1) := by decide +kernel
theorem dX0_reach_3 : decode cX0_reach 3 = .ok (.getfield 19, 3) := by decide +kernel
theorem dX0_reach_6 : decode cX0_reach 6 = .ok (.lsub, 1) := by decide +kernel
theorem dX0_reach_7 : decode cX0_reach 7 = .ok (.iload 4, 2) := by decide +kernel
theorem dX0_reach_9 : decode cX0_reach 9 = .ok (.i2l, 1) := by decide +kernel
theorem dX0_reach_10 : decode cX0_reach 10 = .ok (.iload_n 2, 1) := by decide +kernel
theorem dX0_reach_11 : decode cX0_reach 11 = .ok (.i2l, 1) := by decide +kernel
theorem dX0_reach_12 : decode cX0_reach 12 = .ok (.lsub, 1) := by decide +kernel
theorem dX0_reach_13 : decode cX0_reach 13 = .ok (.lmul, 1) := by decide +kernel
theorem dX0_reach_14 : decode cX0_reach 14 = .ok (.iload_n 2, 1) := by decide +kernel
theorem dX0_reach_15 : decode cX0_reach 15 = .ok (.i2l, 1) := by decide +kernel
theorem dX0_reach_16 : decode cX0_reach 16 = .ok (.aload_n 0, 1) := by decide +kernel
theorem dX0_reach_17 : decode cX0_reach 17 = .ok (.getfield 28, 3) := by decide +kernel
theorem dX0_reach_20 : decode cX0_reach 20 = .ok (.lsub, 1) := by decide +kernel
theorem dX0_reach_21 : decode cX0_reach 21 = .ok (.iload_n 3, 1) := by decide +kernel
theorem dX0_reach_22 : decode cX0_reach 22 = .ok (.i2l, 1) := by decide +kernel
theorem dX0_reach_23 : decode cX0_reach 23 = .ok (.iload_n 1, 1) := by decide +kernel
theorem dX0_reach_24 : decode cX0_reach 24 = .ok (.i2l, 1) := by decide +kernel
theorem dX0_reach_25 : decode cX0_reach 25 = .ok (.lsub, 1) := by decide +kernel
theorem dX0_reach_26 : decode cX0_reach 26 = .ok (.lmul, 1) := by decide +kernel
theorem dX0_reach_27 : decode cX0_reach 27 = .ok (.lsub, 1) := by decide +kernel
theorem dX0_reach_28 : decode cX0_reach 28 = .ok (.lreturn, 1) := by decide +kernel
