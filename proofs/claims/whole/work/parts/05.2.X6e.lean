theorem dX6_hasSegments_27 : decode cX6_hasSegments 27 = .ok (.goto 4, 3) := by decide +kernel
theorem dX6_hasSegments_30 : decode cX6_hasSegments 30 = .ok (.iconst 0, 1) := by decide +kernel
theorem dX6_hasSegments_31 : decode cX6_hasSegments 31 = .ok (.istore_n 2, 1) := by decide +kernel
theorem dX6_hasSegments_32 : decode cX6_hasSegments 32 = .ok (.iinc 3 1, 3) := by decide +kernel
theorem dX6_hasSegments_35 : decode cX6_hasSegments 35 = .ok (.goto (-31), 3) := by decide +kernel
theorem dX6_hasSegments_38 : decode cX6_hasSegments 38 = .ok (.iload_n 2, 1) := by decide +kernel
theorem dX6_hasSegments_39 : decode cX6_hasSegments 39 = .ok (.ireturn, 1) := by decide +kernel
set_option maxRecDepth 20000 in
theorem ggX6_insideOf_X6_hasSegments : GoodIn wsX6_insideOf wsX6_hasSegments := goodIn_r _ [8, 9, 10, 11, 12, 13, 14, 15, 16, 17, 18, 19, 20, 21, 22, 23, 24, 25, 26, 27, 28, 29, 30, 31] (by decide +kernel) (by decide +kernel)
set_option maxRecDepth 20000 in
theorem gX6_insideOf_X6_hasSegments : GoodIn wsX6_insideOf (wsV RX6 215 RX6 yX6_hasSegments wsX6_hasSegments) := goodIn_app (goodIn_of _ (by decide +kernel)) ggX6_insideOf_X6_hasSegments
theorem dX6_insideOf_0 : decode cX6_insideOf 0 = .ok (.aload_n 0, 1) := by decide +kernel
theorem dX6_insideOf_1 : decode cX6_insideOf 1 = .ok (.getfield 7, 3) := by decide +kernel
theorem dX6_insideOf_4 : decode cX6_insideOf 4 = .ok (.iload_n 1, 1) := by decide +kernel
theorem dX6_insideOf_5 : decode cX6_insideOf 5 = .ok (.iaload, 1) := by decide +kernel
theorem dX6_insideOf_6 : decode cX6_insideOf 6 = .ok (.iconst 1, 1) := by decide +kernel
theorem dX6_insideOf_7 : decode cX6_insideOf 7 = .ok (.if_icmp .ne 20, 3) := by decide +kernel
theorem dX6_insideOf_10 : decode cX6_insideOf 10 = .ok (.aload_n 0, 1) := by decide +kernel
theorem dX6_insideOf_11 : decode cX6_insideOf 11 = .ok (.getfield 13, 3) := by decide +kernel
theorem dX6_insideOf_14 : decode cX6_insideOf 14 = .ok (.iload_n 1, 1) := by decide +kernel
theorem dX6_insideOf_15 : decode cX6_insideOf 15 = .ok (.iaload, 1) := by decide +kernel
theorem dX6_insideOf_16 : decode cX6_insideOf 16 = .ok (.ifCond .le 7, 3) := by decide +kernel
theorem dX6_insideOf_19 : decode cX6_insideOf 19 = .ok (.iconst 0, 1) := by decide +kernel
theorem dX6_insideOf_20 : decode cX6_insideOf 20 = .ok (.goto 47, 3) := by decide +kernel
theorem dX6_insideOf_23 : decode cX6_insideOf 23 = .ok (.iconst (-1), 1) := by decide +kernel
theorem dX6_insideOf_24 : decode cX6_insideOf 24 = .ok (.goto 43, 3) := by decide +kernel
theorem dX6_insideOf_27 : decode cX6_insideOf 27 = .ok (.aload_n 0, 1) := by decide +kernel
theorem dX6_insideOf_28 : decode cX6_insideOf 28 = .ok (.getfield 7, 3) := by decide +kernel
theorem dX6_insideOf_31 : decode cX6_insideOf 31 = .ok (.iload_n 1, 1) := by decide +kernel
theorem dX6_insideOf_32 : decode cX6_insideOf 32 = .ok (.iaload, 1) := by decide +kernel
theorem dX6_insideOf_33 : decode cX6_insideOf 33 = .ok (.iconst 2, 1) := by decide +kernel
theorem dX6_insideOf_34 : decode cX6_insideOf 34 = .ok (.if_icmp .ne 19, 3) := by decide +kernel
theorem dX6_insideOf_37 : decode cX6_insideOf 37 = .ok (.aload_n 0, 1) := by decide +kernel
theorem dX6_insideOf_38 : decode cX6_insideOf 38 = .ok (.iload_n 1, 1) := by decide +kernel
theorem dX6_insideOf_39 : decode cX6_insideOf 39 = .ok (.invokevirtual 215, 3) := by decide +kernel
theorem dX6_insideOf_42 : decode cX6_insideOf 42 = .ok (.ifCond .eq 7, 3) := by decide +kernel
theorem dX6_insideOf_45 : decode cX6_insideOf 45 = .ok (.iconst 1, 1) := by decide +kernel
theorem dX6_insideOf_46 : decode cX6_insideOf 46 = .ok (.goto 21, 3) := by decide +kernel
theorem dX6_insideOf_49 : decode cX6_insideOf 49 = .ok (.iconst (-1), 1) := by decide +kernel
theorem dX6_insideOf_50 : decode cX6_insideOf 50 = .ok (.goto 17, 3) := by decide +kernel
theorem dX6_insideOf_53 : decode cX6_insideOf 53 = .ok (.aload_n 0, 1) := by decide +kernel
theorem dX6_insideOf_54 : decode cX6_insideOf 54 = .ok (.getfield 40, 3) := by decide +kernel
theorem dX6_insideOf_57 : decode cX6_insideOf 57 = .ok (.iload_n 1, 1) := by decide +kernel
theorem dX6_insideOf_58 : decode cX6_insideOf 58 = .ok (.baload, 1) := by decide +kernel
theorem dX6_insideOf_59 : decode cX6_insideOf 59 = .ok (.ifCond .eq 7, 3) := by decide +kernel
theorem dX6_insideOf_62 : decode cX6_insideOf 62 = .ok (.iconst 2, 1) := by decide +kernel
theorem dX6_insideOf_63 : decode cX6_insideOf 63 = .ok (.goto 4, 3) := by decide +kernel
theorem dX6_insideOf_66 : decode cX6_insideOf 66 = .ok (.iconst (-1), 1) := by decide +kernel
theorem dX6_insideOf_67 : decode cX6_insideOf 67 = .ok (.ireturn, 1) := by decide +kernel
theorem dX6_there_0 : decode cX6_there 0 = .ok (.aload_n 0, 1) := by decide +kernel
theorem dX6_there_1 : decode cX6_there 1 = .ok (.getfield 37, 3) := by decide +kernel
theorem dX6_there_4 : decode cX6_there 4 = .ok (.iconst 3, 1) := by decide +kernel
theorem dX6_there_5 : decode cX6_there 5 = .ok (.iload_n 1, 1) := by decide +kernel
theorem dX6_there_6 : decode cX6_there 6 = .ok (.imul, 1) := by decide +kernel
theorem dX6_there_7 : decode cX6_there 7 = .ok (.iload_n 2, 1) := by decide +kernel
theorem dX6_there_8 : decode cX6_there 8 = .ok (.iadd, 1) := by decide +kernel
theorem dX6_there_9 : decode cX6_there 9 = .ok (.iaload, 1) := by decide +kernel
theorem dX6_there_10 : decode cX6_there 10 = .ok (.ifCond .lt 7, 3) := by decide +kernel
theorem dX6_there_13 : decode cX6_there 13 = .ok (.iconst 1, 1) := by decide +kernel
theorem dX6_there_14 : decode cX6_there 14 = .ok (.goto 4, 3) := by decide +kernel
theorem dX6_there_17 : decode cX6_there 17 = .ok (.iconst 0, 1) := by decide +kernel
theorem dX6_there_18 : decode cX6_there 18 = .ok (.ireturn, 1) := by decide +kernel
set_option maxRecDepth 20000 in
theorem ggX6_meet_X6_there : GoodIn wsX6_meet wsX6_there := goodIn_r _ [5, 6, 7, 8, 9, 10, 11, 12, 13, 14, 15, 16, 17, 18, 19, 20, 21, 22, 23, 24, 25, 26, 27] (by decide +kernel) (by decide +kernel)
set_option maxRecDepth 20000 in
theorem gX6_meet_X6_there : GoodIn wsX6_meet (wsV RX6 218 RX6 yX6_there wsX6_there) := goodIn_app (goodIn_of _ (by decide +kernel)) ggX6_meet_X6_there
theorem dX6_meet_0 : decode cX6_meet 0 = .ok (.aload_n 0, 1) := by decide +kernel
theorem dX6_meet_1 : decode cX6_meet 1 = .ok (.iconst 0, 1) := by decide +kernel
theorem dX6_meet_2 : decode cX6_meet 2 = .ok (.iconst 0, 1) := by decide +kernel
theorem dX6_meet_3 : decode cX6_meet 3 = .ok (.invokevirtual 218, 3) := by decide +kernel
theorem dX6_meet_6 : decode cX6_meet 6 = .ok (.ifCond .ne 30, 3) := by decide +kernel
theorem dX6_meet_9 : decode cX6_meet 9 = .ok (.aload_n 0, 1) := by decide +kernel
theorem dX6_meet_10 : decode cX6_meet 10 = .ok (.iconst 0, 1) := by decide +kernel
theorem dX6_meet_11 : decode cX6_meet 11 = .ok (.iconst 1, 1) := by decide +kernel
theorem dX6_meet_12 : decode cX6_meet 12 = .ok (.invokevirtual 218, 3) := by decide +kernel
theorem dX6_meet_15 : decode cX6_meet 15 = .ok (.ifCond .ne 21, 3) := by decide +kernel
theorem dX6_meet_18 : decode cX6_meet 18 = .ok (.aload_n 0, 1) := by decide +kernel
theorem dX6_meet_19 : decode cX6_meet 19 = .ok (.iconst 1, 1) := by decide +kernel
theorem dX6_meet_20 : decode cX6_meet 20 = .ok (.iconst 0, 1) := by decide +kernel
theorem dX6_meet_21 : decode cX6_meet 21 = .ok (.invokevirtual 218, 3) := by decide +kernel
theorem dX6_meet_24 : decode cX6_meet 24 = .ok (.ifCond .ne 12, 3) := by decide +kernel
theorem dX6_meet_27 : decode cX6_meet 27 = .ok (.aload_n 0, 1) := by decide +kernel
theorem dX6_meet_28 : decode cX6_meet 28 = .ok (.iconst 1, 1) := by decide +kernel
theorem dX6_meet_29 : decode cX6_meet 29 = .ok (.iconst 1, 1) := by decide +kernel
theorem dX6_meet_30 : decode cX6_meet 30 = .ok (.invokevirtual 218, 3) := by decide +kernel
theorem dX6_meet_33 : decode cX6_meet 33 = .ok (.ifCond .eq 7, 3) := by decide +kernel
theorem dX6_meet_36 : decode cX6_meet 36 = .ok (.iconst 1, 1) := by decide +kernel
theorem dX6_meet_37 : decode cX6_meet 37 = .ok (.goto 4, 3) := by decide +kernel
theorem dX6_meet_40 : decode cX6_meet 40 = .ok (.iconst 0, 1) := by decide +kernel
theorem dX6_meet_41 : decode cX6_meet 41 = .ok (.ireturn, 1) := by decide +kernel
theorem dX6_none_0 : decode cX6_none 0 = .ok (.aload_n 0, 1) := by decide +kernel
theorem dX6_none_1 : decode cX6_none 1 = .ok (.getfield 37, 3) := by decide +kernel
theorem dX6_none_4 : decode cX6_none 4 = .ok (.iload_n 1, 1) := by decide +kernel
theorem dX6_none_5 : decode cX6_none 5 = .ok (.iaload, 1) := by decide +kernel
theorem dX6_none_6 : decode cX6_none 6 = .ok (.ifCond .ge 16, 3) := by decide +kernel
theorem dX6_none_9 : decode cX6_none 9 = .ok (.aload_n 0, 1) := by decide +kernel
theorem dX6_none_10 : decode cX6_none 10 = .ok (.getfield 37, 3) := by decide +kernel
theorem dX6_none_13 : decode cX6_none 13 = .ok (.iload_n 2, 1) := by decide +kernel
theorem dX6_none_14 : decode cX6_none 14 = .ok (.iaload, 1) := by decide +kernel
theorem dX6_none_15 : decode cX6_none 15 = .ok (.ifCond .ge 7, 3) := by decide +kernel
theorem dX6_none_18 : decode cX6_none 18 = .ok (.iconst 1, 1) := by decide +kernel
theorem dX6_none_19 : decode cX6_none 19 = .ok (.goto 4, 3) := by decide +kernel
theorem dX6_none_22 : decode cX6_none 22 = .ok (.iconst 0, 1) := by decide +kernel
theorem dX6_none_23 : decode cX6_none 23 = .ok (.ireturn, 1) := by decide +kernel
set_option maxRecDepth 20000 in
theorem ggX6_crossing_X6_there : GoodIn wsX6_crossing wsX6_there := goodIn_r _ [6, 1, 7, 8, 9, 10, 11, 12, 13, 14, 15, 16, 17, 18, 19, 20, 21, 22, 23, 24, 25, 26, 27] (by decide +kernel) (by decide +kernel)
set_option maxRecDepth 20000 in
theorem gX6_crossing_X6_there : GoodIn wsX6_crossing (wsV RX6 218 RX6 yX6_there wsX6_there) := goodIn_app (goodIn_of _ (by decide +kernel)) ggX6_crossing_X6_there
theorem dX6_crossing_0 : decode cX6_crossing 0 = .ok (.iload_n 1, 1) := by decide +kernel
theorem dX6_crossing_1 : decode cX6_crossing 1 = .ok (.iload_n 2, 1) := by decide +kernel
theorem dX6_crossing_2 : decode cX6_crossing 2 = .ok (.if_icmp .ge 27, 3) := by decide +kernel
theorem dX6_crossing_5 : decode cX6_crossing 5 = .ok (.aload_n 0, 1) := by decide +kernel
theorem dX6_crossing_6 : decode cX6_crossing 6 = .ok (.iconst 0, 1) := by decide +kernel
theorem dX6_crossing_7 : decode cX6_crossing 7 = .ok (.iconst 0, 1) := by decide +kernel
theorem dX6_crossing_8 : decode cX6_crossing 8 = .ok (.invokevirtual 218, 3) := by decide +kernel
theorem dX6_crossing_11 : decode cX6_crossing 11 = .ok (.ifCond .eq 16, 3) := by decide +kernel
theorem dX6_crossing_14 : decode cX6_crossing 14 = .ok (.aload_n 0, 1) := by decide +kernel
theorem dX6_crossing_15 : decode cX6_crossing 15 = .ok (.iconst 0, 1) := by decide +kernel
theorem dX6_crossing_16 : decode cX6_crossing 16 = .ok (.iconst 2, 1) := by decide +kernel
theorem dX6_crossing_17 : decode cX6_crossing 17 = .ok (.invokevirtual 218, 3) := by decide +kernel
theorem dX6_crossing_20 : decode cX6_crossing 20 = .ok (.ifCond .eq 7, 3) := by decide +kernel
theorem dX6_crossing_23 : decode cX6_crossing 23 = .ok (.iconst 1, 1) := by decide +kernel
theorem dX6_crossing_24 : decode cX6_crossing 24 = .ok (.goto 4, 3) := by decide +kernel
theorem dX6_crossing_27 : decode cX6_crossing 27 = .ok (.iconst 0, 1) := by decide +kernel
theorem dX6_crossing_28 : decode cX6_crossing 28 = .ok (.ireturn, 1) := by decide +kernel
theorem dX6_crossing_29 : decode cX6_crossing 29 = .ok (.iload_n 1, 1) := by decide +kernel
theorem dX6_crossing_30 : decode cX6_crossing 30 = .ok (.iload_n 2, 1) := by decide +kernel
theorem dX6_crossing_31 : decode cX6_crossing 31 = .ok (.if_icmp .le 27, 3) := by decide +kernel
theorem dX6_crossing_34 : decode cX6_crossing 34 = .ok (.aload_n 0, 1) := by decide +kernel
theorem dX6_crossing_35 : decode cX6_crossing 35 = .ok (.iconst 0, 1) := by decide +kernel
theorem dX6_crossing_36 : decode cX6_crossing 36 = .ok (.iconst 0, 1) := by decide +kernel
theorem dX6_crossing_37 : decode cX6_crossing 37 = .ok (.invokevirtual 218, 3) := by decide +kernel
theorem dX6_crossing_40 : decode cX6_crossing 40 = .ok (.ifCond .eq 16, 3) := by decide +kernel
theorem dX6_crossing_43 : decode cX6_crossing 43 = .ok (.aload_n 0, 1) := by decide +kernel
theorem dX6_crossing_44 : decode cX6_crossing 44 = .ok (.iconst 2, 1) := by decide +kernel
theorem dX6_crossing_45 : decode cX6_crossing 45 = .ok (.iconst 0, 1) := by decide +kernel
theorem dX6_crossing_46 : decode cX6_crossing 46 = .ok (.invokevirtual 218, 3) := by decide +kernel
theorem dX6_crossing_49 : decode cX6_crossing 49 = .ok (.ifCond .eq 7, 3) := by decide +kernel
theorem dX6_crossing_52 : decode cX6_crossing 52 = .ok (.iconst 1, 1) := by decide +kernel
theorem dX6_crossing_53 : decode cX6_crossing 53 = .ok (.goto 4, 3) := by decide +kernel
theorem dX6_crossing_56 : decode cX6_crossing 56 = .ok (.iconst 0, 1) := by decide +kernel
theorem dX6_crossing_57 : decode cX6_crossing 57 = .ok (.ireturn, 1) := by decide +kernel
theorem dX6_crossing_58 : decode cX6_crossing 58 = .ok (.iload_n 1, 1) := by decide +kernel
theorem dX6_crossing_59 : decode cX6_crossing 59 = .ok (.iconst 1, 1) := by decide +kernel
theorem dX6_crossing_60 : decode cX6_crossing 60 = .ok (.if_icmp .ne 16, 3) := by decide +kernel
theorem dX6_crossing_63 : decode cX6_crossing 63 = .ok (.aload_n 0, 1) := by decide +kernel
theorem dX6_crossing_64 : decode cX6_crossing 64 = .ok (.getfield 37, 3) := by decide +kernel
theorem dX6_crossing_67 : decode cX6_crossing 67 = .ok (.iconst 0, 1) := by decide +kernel
theorem dX6_crossing_68 : decode cX6_crossing 68 = .ok (.iaload, 1) := by decide +kernel
theorem dX6_crossing_69 : decode cX6_crossing 69 = .ok (.ifCond .ne 7, 3) := by decide +kernel
theorem dX6_crossing_72 : decode cX6_crossing 72 = .ok (.iconst 1, 1) := by decide +kernel
theorem dX6_crossing_73 : decode cX6_crossing 73 = .ok (.goto 4, 3) := by decide +kernel
theorem dX6_crossing_76 : decode cX6_crossing 76 = .ok (.iconst 0, 1) := by decide +kernel
theorem dX6_crossing_77 : decode cX6_crossing 77 = .ok (.ireturn, 1) := by decide +kernel
set_option maxRecDepth 20000 in
theorem ggX6_is_X6_within : GoodIn wsX6_is wsX6_within := goodIn_r _ [6] (by decide +kernel) (by decide +kernel)
set_option maxRecDepth 20000 in
theorem gX6_is_X6_within : GoodIn wsX6_is (va_wsS RX6 60 yX6_within wsX6_within) := goodIn_app (goodIn_of _ (by decide +kernel)) ggX6_is_X6_within
set_option maxRecDepth 20000 in
theorem ggX6_is_X6_fail : GoodIn wsX6_is wsX6_fail := goodIn_r _ [10, 1, 195, 196, 197, 198, 199, 200, 201, 202, 203, 204, 205, 206, 207, 208, 209, 210, 211, 212, 213, 214, 215] (by decide +kernel) (by decide +kernel)
set_option maxRecDepth 20000 in
theorem gX6_is_X6_fail : GoodIn wsX6_is (wsV RX6 68 RX6 yX6_fail wsX6_fail) := goodIn_app (goodIn_of _ (by decide +kernel)) ggX6_is_X6_fail
theorem gm_wsX6_is_wsX6_is_r1 : ∀ w ∈ wsX6_is_r1, w ∈ wsX6_is := fun w h => List.mem_cons_of_mem _ (List.mem_append_left _ (List.mem_append_left _ (h)))
theorem gm_wsX6_is_wsX6_is_r2 : ∀ w ∈ wsX6_is_r2, w ∈ wsX6_is := fun w h => List.mem_cons_of_mem _ (List.mem_append_left _ (List.mem_append_right _ (List.mem_append_left _ (h))))
theorem gm_wsX6_is_wsX6_is_r3 : ∀ w ∈ wsX6_is_r3, w ∈ wsX6_is := fun w h => List.mem_cons_of_mem _ (List.mem_append_left _ (List.mem_append_right _ (List.mem_append_right _ (List.mem_append_left _ (h)))))
theorem gm_wsX6_is_wsX6_is_r4 : ∀ w ∈ wsX6_is_r4, w ∈ wsX6_is := fun w h => List.mem_cons_of_mem _ (List.mem_append_left _ (List.mem_append_right _ (List.mem_append_right _ (List.mem_append_right _ (List.mem_append_left _ (h))))))
theorem gm_wsX6_is_wsX6_is_r5 : ∀ w ∈ wsX6_is_r5, w ∈ wsX6_is := fun w h => List.mem_cons_of_mem _ (List.mem_append_left _ (List.mem_append_right _ (List.mem_append_right _ (List.mem_append_right _ (List.mem_append_right _ (List.mem_append_left _ (h)))))))
theorem gm_wsX6_is_wsX6_is_r6 : ∀ w ∈ wsX6_is_r6, w ∈ wsX6_is := fun w h => List.mem_cons_of_mem _ (List.mem_append_left _ (List.mem_append_right _ (List.mem_append_right _ (List.mem_append_right _ (List.mem_append_right _ (List.mem_append_right _ (List.mem_append_left _ (h))))))))
theorem gm_wsX6_is_wsX6_is_r7 : ∀ w ∈ wsX6_is_r7, w ∈ wsX6_is := fun w h => List.mem_cons_of_mem _ (List.mem_append_left _ (List.mem_append_right _ (List.mem_append_right _ (List.mem_append_right _ (List.mem_append_right _ (List.mem_append_right _ (List.mem_append_right _ (List.mem_append_left _ (h)))))))))
theorem gm_wsX6_is_wsX6_is_r8 : ∀ w ∈ wsX6_is_r8, w ∈ wsX6_is := fun w h => List.mem_cons_of_mem _ (List.mem_append_left _ (List.mem_append_right _ (List.mem_append_right _ (List.mem_append_right _ (List.mem_append_right _ (List.mem_append_right _ (List.mem_append_right _ (List.mem_append_right _ (List.mem_append_left _ (h))))))))))
theorem gm_wsX6_is_wsX6_is_r9 : ∀ w ∈ wsX6_is_r9, w ∈ wsX6_is := fun w h => List.mem_cons_of_mem _ (List.mem_append_left _ (List.mem_append_right _ (List.mem_append_right _ (List.mem_append_right _ (List.mem_append_right _ (List.mem_append_right _ (List.mem_append_right _ (List.mem_append_right _ (List.mem_append_right _ (h))))))))))
theorem gm_wsX6_is_wsX60 : ∀ w ∈ wsX60, w ∈ wsX6_is := fun w h => List.mem_cons_of_mem _ (List.mem_append_right _ (h))
set_option maxRecDepth 20000 in
theorem ggX6_is_X6_look_s1 : GoodIn wsX6_is wsX6_look_r1 := goodIn_sub (mb_c (gm_wsX6_is_wsX6_is_r1 _ (List.mem_of_getElem? (i := 1) rfl)) (mb_c (gm_wsX6_is_wsX6_is_r1 _ (List.mem_of_getElem? (i := 14) rfl)) (mb_c (gm_wsX6_is_wsX6_is_r1 _ (List.mem_of_getElem? (i := 15) rfl)) (mb_c (gm_wsX6_is_wsX6_is_r1 _ (List.mem_of_getElem? (i := 16) rfl)) (mb_c (gm_wsX6_is_wsX6_is_r1 _ (List.mem_of_getElem? (i := 17) rfl)) (mb_c (gm_wsX6_is_wsX6_is_r1 _ (List.mem_of_getElem? (i := 18) rfl)) (mb_c (gm_wsX6_is_wsX6_is_r1 _ (List.mem_of_getElem? (i := 19) rfl)) (mb_c (gm_wsX6_is_wsX6_is_r1 _ (List.mem_of_getElem? (i := 20) rfl)) (mb_c (gm_wsX6_is_wsX6_is_r1 _ (List.mem_of_getElem? (i := 21) rfl)) (mb_c (gm_wsX6_is_wsX6_is_r1 _ (List.mem_of_getElem? (i := 22) rfl)) (mb_c (gm_wsX6_is_wsX6_is_r1 _ (List.mem_of_getElem? (i := 23) rfl)) (mb_c (gm_wsX6_is_wsX6_is_r2 _ (List.mem_of_getElem? (i := 0) rfl)) (mb_c (gm_wsX6_is_wsX6_is_r2 _ (List.mem_of_getElem? (i := 1) rfl)) (mb_c (gm_wsX6_is_wsX6_is_r2 _ (List.mem_of_getElem? (i := 2) rfl)) (mb_c (gm_wsX6_is_wsX6_is_r1 _ (List.mem_of_getElem? (i := 4) rfl)) (mb_c (gm_wsX6_is_wsX6_is_r2 _ (List.mem_of_getElem? (i := 3) rfl)) (mb_c (gm_wsX6_is_wsX6_is_r2 _ (List.mem_of_getElem? (i := 4) rfl)) (mb_c (gm_wsX6_is_wsX6_is_r2 _ (List.mem_of_getElem? (i := 5) rfl)) (mb_c (gm_wsX6_is_wsX6_is_r2 _ (List.mem_of_getElem? (i := 6) rfl)) (mb_c (gm_wsX6_is_wsX6_is_r2 _ (List.mem_of_getElem? (i := 7) rfl)) (mb_c (gm_wsX6_is_wsX6_is_r2 _ (List.mem_of_getElem? (i := 8) rfl)) (mb_c (gm_wsX6_is_wsX6_is_r2 _ (List.mem_of_getElem? (i := 9) rfl)) (mb_c (gm_wsX6_is_wsX6_is_r2 _ (List.mem_of_getElem? (i := 10) rfl)) (mb_c (gm_wsX6_is_wsX6_is_r2 _ (List.mem_of_getElem? (i := 11) rfl)) (mb_n))))))))))))))))))))))))) (by decide +kernel)
set_option maxRecDepth 20000 in
theorem ggX6_is_X6_look_s2 : GoodIn wsX6_is wsX6_look_r2 := goodIn_sub (mb_c (gm_wsX6_is_wsX6_is_r2 _ (List.mem_of_getElem? (i := 12) rfl)) (mb_c (gm_wsX6_is_wsX6_is_r2 _ (List.mem_of_getElem? (i := 13) rfl)) (mb_c (gm_wsX6_is_wsX6_is_r2 _ (List.mem_of_getElem? (i := 14) rfl)) (mb_c (gm_wsX6_is_wsX6_is_r2 _ (List.mem_of_getElem? (i := 15) rfl)) (mb_c (gm_wsX6_is_wsX6_is_r2 _ (List.mem_of_getElem? (i := 16) rfl)) (mb_c (gm_wsX6_is_wsX6_is_r2 _ (List.mem_of_getElem? (i := 17) rfl)) (mb_c (gm_wsX6_is_wsX6_is_r2 _ (List.mem_of_getElem? (i := 18) rfl)) (mb_c (gm_wsX6_is_wsX6_is_r2 _ (List.mem_of_getElem? (i := 19) rfl)) (mb_c (gm_wsX6_is_wsX6_is_r2 _ (List.mem_of_getElem? (i := 20) rfl)) (mb_c (gm_wsX6_is_wsX6_is_r2 _ (List.mem_of_getElem? (i := 21) rfl)) (mb_c (gm_wsX6_is_wsX6_is_r2 _ (List.mem_of_getElem? (i := 22) rfl)) (mb_c (gm_wsX6_is_wsX6_is_r2 _ (List.mem_of_getElem? (i := 23) rfl)) (mb_c (gm_wsX6_is_wsX6_is_r3 _ (List.mem_of_getElem? (i := 0) rfl)) (mb_c (gm_wsX6_is_wsX6_is_r3 _ (List.mem_of_getElem? (i := 1) rfl)) (mb_c (gm_wsX6_is_wsX6_is_r3 _ (List.mem_of_getElem? (i := 2) rfl)) (mb_c (gm_wsX6_is_wsX6_is_r3 _ (List.mem_of_getElem? (i := 3) rfl)) (mb_c (gm_wsX6_is_wsX6_is_r3 _ (List.mem_of_getElem? (i := 4) rfl)) (mb_c (gm_wsX6_is_wsX6_is_r3 _ (List.mem_of_getElem? (i := 5) rfl)) (mb_c (gm_wsX6_is_wsX6_is_r3 _ (List.mem_of_getElem? (i := 6) rfl)) (mb_c (gm_wsX6_is_wsX6_is_r3 _ (List.mem_of_getElem? (i := 7) rfl)) (mb_c (gm_wsX6_is_wsX6_is_r3 _ (List.mem_of_getElem? (i := 8) rfl)) (mb_c (gm_wsX6_is_wsX6_is_r3 _ (List.mem_of_getElem? (i := 9) rfl)) (mb_c (gm_wsX6_is_wsX6_is_r3 _ (List.mem_of_getElem? (i := 10) rfl)) (mb_c (gm_wsX6_is_wsX6_is_r3 _ (List.mem_of_getElem? (i := 11) rfl)) (mb_n))))))))))))))))))))))))) (by decide +kernel)
set_option maxRecDepth 20000 in
theorem ggX6_is_X6_look_s3 : GoodIn wsX6_is wsX6_look_r3 := goodIn_sub (mb_c (gm_wsX6_is_wsX6_is_r3 _ (List.mem_of_getElem? (i := 12) rfl)) (mb_c (gm_wsX6_is_wsX6_is_r3 _ (List.mem_of_getElem? (i := 13) rfl)) (mb_c (gm_wsX6_is_wsX6_is_r3 _ (List.mem_of_getElem? (i := 14) rfl)) (mb_c (gm_wsX6_is_wsX6_is_r3 _ (List.mem_of_getElem? (i := 15) rfl)) (mb_c (gm_wsX6_is_wsX6_is_r3 _ (List.mem_of_getElem? (i := 16) rfl)) (mb_c (gm_wsX6_is_wsX6_is_r3 _ (List.mem_of_getElem? (i := 17) rfl)) (mb_c (gm_wsX6_is_wsX6_is_r3 _ (List.mem_of_getElem? (i := 18) rfl)) (mb_c (gm_wsX6_is_wsX6_is_r3 _ (List.mem_of_getElem? (i := 19) rfl)) (mb_c (gm_wsX6_is_wsX6_is_r3 _ (List.mem_of_getElem? (i := 20) rfl)) (mb_c (gm_wsX6_is_wsX6_is_r3 _ (List.mem_of_getElem? (i := 21) rfl)) (mb_c (gm_wsX6_is_wsX6_is_r3 _ (List.mem_of_getElem? (i := 22) rfl)) (mb_c (gm_wsX6_is_wsX6_is_r3 _ (List.mem_of_getElem? (i := 23) rfl)) (mb_c (gm_wsX6_is_wsX6_is_r4 _ (List.mem_of_getElem? (i := 0) rfl)) (mb_c (gm_wsX6_is_wsX6_is_r4 _ (List.mem_of_getElem? (i := 1) rfl)) (mb_c (gm_wsX6_is_wsX6_is_r4 _ (List.mem_of_getElem? (i := 2) rfl)) (mb_c (gm_wsX6_is_wsX6_is_r4 _ (List.mem_of_getElem? (i := 3) rfl)) (mb_c (gm_wsX6_is_wsX6_is_r4 _ (List.mem_of_getElem? (i := 4) rfl)) (mb_c (gm_wsX6_is_wsX6_is_r4 _ (List.mem_of_getElem? (i := 5) rfl)) (mb_c (gm_wsX6_is_wsX6_is_r4 _ (List.mem_of_getElem? (i := 6) rfl)) (mb_c (gm_wsX6_is_wsX6_is_r4 _ (List.mem_of_getElem? (i := 7) rfl)) (mb_c (gm_wsX6_is_wsX6_is_r4 _ (List.mem_of_getElem? (i := 8) rfl)) (mb_c (gm_wsX6_is_wsX6_is_r4 _ (List.mem_of_getElem? (i := 9) rfl)) (mb_c (gm_wsX6_is_wsX6_is_r4 _ (List.mem_of_getElem? (i := 10) rfl)) (mb_c (gm_wsX6_is_wsX6_is_r4 _ (List.mem_of_getElem? (i := 11) rfl)) (mb_n))))))))))))))))))))))))) (by decide +kernel)
set_option maxRecDepth 20000 in
theorem ggX6_is_X6_look_s4 : GoodIn wsX6_is wsX6_look_r4 := goodIn_sub (mb_c (gm_wsX6_is_wsX6_is_r4 _ (List.mem_of_getElem? (i := 12) rfl)) (mb_c (gm_wsX6_is_wsX6_is_r4 _ (List.mem_of_getElem? (i := 13) rfl)) (mb_c (gm_wsX6_is_wsX6_is_r4 _ (List.mem_of_getElem? (i := 14) rfl)) (mb_c (gm_wsX6_is_wsX6_is_r4 _ (List.mem_of_getElem? (i := 15) rfl)) (mb_c (gm_wsX6_is_wsX6_is_r4 _ (List.mem_of_getElem? (i := 16) rfl)) (mb_c (gm_wsX6_is_wsX6_is_r4 _ (List.mem_of_getElem? (i := 17) rfl)) (mb_c (gm_wsX6_is_wsX6_is_r4 _ (List.mem_of_getElem? (i := 18) rfl)) (mb_c (gm_wsX6_is_wsX6_is_r4 _ (List.mem_of_getElem? (i := 19) rfl)) (mb_c (gm_wsX6_is_wsX6_is_r4 _ (List.mem_of_getElem? (i := 20) rfl)) (mb_c (gm_wsX6_is_wsX6_is_r4 _ (List.mem_of_getElem? (i := 21) rfl)) (mb_c (gm_wsX6_is_wsX6_is_r4 _ (List.mem_of_getElem? (i := 22) rfl)) (mb_c (gm_wsX6_is_wsX6_is_r4 _ (List.mem_of_getElem? (i := 23) rfl)) (mb_c (gm_wsX6_is_wsX6_is_r5 _ (List.mem_of_getElem? (i := 0) rfl)) (mb_c (gm_wsX6_is_wsX6_is_r5 _ (List.mem_of_getElem? (i := 1) rfl)) (mb_c (gm_wsX6_is_wsX6_is_r5 _ (List.mem_of_getElem? (i := 2) rfl)) (mb_c (gm_wsX6_is_wsX6_is_r5 _ (List.mem_of_getElem? (i := 3) rfl)) (mb_c (gm_wsX6_is_wsX6_is_r5 _ (List.mem_of_getElem? (i := 4) rfl)) (mb_c (gm_wsX6_is_wsX6_is_r5 _ (List.mem_of_getElem? (i := 5) rfl)) (mb_c (gm_wsX6_is_wsX6_is_r5 _ (List.mem_of_getElem? (i := 6) rfl)) (mb_c (gm_wsX6_is_wsX6_is_r5 _ (List.mem_of_getElem? (i := 7) rfl)) (mb_c (gm_wsX6_is_wsX6_is_r5 _ (List.mem_of_getElem? (i := 8) rfl)) (mb_c (gm_wsX6_is_wsX6_is_r5 _ (List.mem_of_getElem? (i := 9) rfl)) (mb_c (gm_wsX6_is_wsX6_is_r5 _ (List.mem_of_getElem? (i := 10) rfl)) (mb_c (gm_wsX6_is_wsX6_is_r5 _ (List.mem_of_getElem? (i := 11) rfl)) (mb_n))))))))))))))))))))))))) (by decide +kernel)
set_option maxRecDepth 20000 in
theorem ggX6_is_X6_look_s5 : GoodIn wsX6_is wsX6_look_r5 := goodIn_sub (mb_c (gm_wsX6_is_wsX6_is_r5 _ (List.mem_of_getElem? (i := 12) rfl)) (mb_c (gm_wsX6_is_wsX6_is_r5 _ (List.mem_of_getElem? (i := 13) rfl)) (mb_c (gm_wsX6_is_wsX6_is_r5 _ (List.mem_of_getElem? (i := 14) rfl)) (mb_c (gm_wsX6_is_wsX6_is_r5 _ (List.mem_of_getElem? (i := 15) rfl)) (mb_c (gm_wsX6_is_wsX6_is_r5 _ (List.mem_of_getElem? (i := 16) rfl)) (mb_c (gm_wsX6_is_wsX6_is_r5 _ (List.mem_of_getElem? (i := 17) rfl)) (mb_c (gm_wsX6_is_wsX6_is_r5 _ (List.mem_of_getElem? (i := 18) rfl)) (mb_c (gm_wsX6_is_wsX6_is_r5 _ (List.mem_of_getElem? (i := 19) rfl)) (mb_c (gm_wsX6_is_wsX6_is_r5 _ (List.mem_of_getElem? (i := 20) rfl)) (mb_c (gm_wsX6_is_wsX6_is_r5 _ (List.mem_of_getElem? (i := 21) rfl)) (mb_c (gm_wsX6_is_wsX6_is_r5 _ (List.mem_of_getElem? (i := 22) rfl)) (mb_c (gm_wsX6_is_wsX6_is_r5 _ (List.mem_of_getElem? (i := 23) rfl)) (mb_c (gm_wsX6_is_wsX6_is_r6 _ (List.mem_of_getElem? (i := 0) rfl)) (mb_c (gm_wsX6_is_wsX6_is_r6 _ (List.mem_of_getElem? (i := 1) rfl)) (mb_c (gm_wsX6_is_wsX6_is_r6 _ (List.mem_of_getElem? (i := 2) rfl)) (mb_c (gm_wsX6_is_wsX6_is_r6 _ (List.mem_of_getElem? (i := 3) rfl)) (mb_c (gm_wsX6_is_wsX6_is_r6 _ (List.mem_of_getElem? (i := 4) rfl)) (mb_c (gm_wsX6_is_wsX6_is_r6 _ (List.mem_of_getElem? (i := 5) rfl)) (mb_c (gm_wsX6_is_wsX6_is_r6 _ (List.mem_of_getElem? (i := 6) rfl)) (mb_c (gm_wsX6_is_wsX6_is_r6 _ (List.mem_of_getElem? (i := 7) rfl)) (mb_c (gm_wsX6_is_wsX6_is_r6 _ (List.mem_of_getElem? (i := 8) rfl)) (mb_c (gm_wsX6_is_wsX6_is_r6 _ (List.mem_of_getElem? (i := 9) rfl)) (mb_c (gm_wsX6_is_wsX6_is_r6 _ (List.mem_of_getElem? (i := 10) rfl)) (mb_c (gm_wsX6_is_wsX6_is_r6 _ (List.mem_of_getElem? (i := 11) rfl)) (mb_n))))))))))))))))))))))))) (by decide +kernel)
set_option maxRecDepth 20000 in
theorem ggX6_is_X6_look_s6 : GoodIn wsX6_is wsX6_look_r6 := goodIn_sub (mb_c (gm_wsX6_is_wsX6_is_r6 _ (List.mem_of_getElem? (i := 12) rfl)) (mb_c (gm_wsX6_is_wsX6_is_r6 _ (List.mem_of_getElem? (i := 13) rfl)) (mb_c (gm_wsX6_is_wsX6_is_r6 _ (List.mem_of_getElem? (i := 14) rfl)) (mb_c (gm_wsX6_is_wsX6_is_r6 _ (List.mem_of_getElem? (i := 15) rfl)) (mb_c (gm_wsX6_is_wsX6_is_r6 _ (List.mem_of_getElem? (i := 16) rfl)) (mb_c (gm_wsX6_is_wsX6_is_r6 _ (List.mem_of_getElem? (i := 17) rfl)) (mb_c (gm_wsX6_is_wsX6_is_r6 _ (List.mem_of_getElem? (i := 18) rfl)) (mb_c (gm_wsX6_is_wsX6_is_r6 _ (List.mem_of_getElem? (i := 19) rfl)) (mb_c (gm_wsX6_is_wsX6_is_r6 _ (List.mem_of_getElem? (i := 20) rfl)) (mb_c (gm_wsX6_is_wsX6_is_r6 _ (List.mem_of_getElem? (i := 21) rfl)) (mb_c (gm_wsX6_is_wsX6_is_r6 _ (List.mem_of_getElem? (i := 22) rfl)) (mb_c (gm_wsX6_is_wsX6_is_r6 _ (List.mem_of_getElem? (i := 23) rfl)) (mb_c (gm_wsX6_is_wsX6_is_r7 _ (List.mem_of_getElem? (i := 0) rfl)) (mb_c (gm_wsX6_is_wsX6_is_r7 _ (List.mem_of_getElem? (i := 1) rfl)) (mb_c (gm_wsX6_is_wsX6_is_r7 _ (List.mem_of_getElem? (i := 2) rfl)) (mb_c (gm_wsX6_is_wsX6_is_r7 _ (List.mem_of_getElem? (i := 3) rfl)) (mb_c (gm_wsX6_is_wsX6_is_r7 _ (List.mem_of_getElem? (i := 4) rfl)) (mb_c (gm_wsX6_is_wsX6_is_r7 _ (List.mem_of_getElem? (i := 5) rfl)) (mb_c (gm_wsX6_is_wsX6_is_r7 _ (List.mem_of_getElem? (i := 6) rfl)) (mb_c (gm_wsX6_is_wsX6_is_r7 _ (List.mem_of_getElem? (i := 7) rfl)) (mb_c (gm_wsX6_is_wsX6_is_r7 _ (List.mem_of_getElem? (i := 8) rfl)) (mb_c (gm_wsX6_is_wsX6_is_r7 _ (List.mem_of_getElem? (i := 9) rfl)) (mb_c (gm_wsX6_is_wsX6_is_r7 _ (List.mem_of_getElem? (i := 10) rfl)) (mb_c (gm_wsX6_is_wsX6_is_r7 _ (List.mem_of_getElem? (i := 11) rfl)) (mb_n))))))))))))))))))))))))) (by decide +kernel)
set_option maxRecDepth 20000 in
theorem ggX6_is_X6_look_s7 : GoodIn wsX6_is wsX6_look_r7 := goodIn_sub (mb_c (gm_wsX6_is_wsX6_is_r7 _ (List.mem_of_getElem? (i := 12) rfl)) (mb_c (gm_wsX6_is_wsX6_is_r7 _ (List.mem_of_getElem? (i := 13) rfl)) (mb_c (gm_wsX6_is_wsX6_is_r7 _ (List.mem_of_getElem? (i := 14) rfl)) (mb_c (gm_wsX6_is_wsX6_is_r7 _ (List.mem_of_getElem? (i := 15) rfl)) (mb_c (gm_wsX6_is_wsX6_is_r7 _ (List.mem_of_getElem? (i := 16) rfl)) (mb_c (gm_wsX6_is_wsX6_is_r7 _ (List.mem_of_getElem? (i := 17) rfl)) (mb_c (gm_wsX6_is_wsX6_is_r7 _ (List.mem_of_getElem? (i := 18) rfl)) (mb_c (gm_wsX6_is_wsX6_is_r7 _ (List.mem_of_getElem? (i := 19) rfl)) (mb_c (gm_wsX6_is_wsX6_is_r7 _ (List.mem_of_getElem? (i := 20) rfl)) (mb_c (gm_wsX6_is_wsX6_is_r7 _ (List.mem_of_getElem? (i := 21) rfl)) (mb_c (gm_wsX6_is_wsX6_is_r7 _ (List.mem_of_getElem? (i := 22) rfl)) (mb_c (gm_wsX6_is_wsX6_is_r7 _ (List.mem_of_getElem? (i := 23) rfl)) (mb_c (gm_wsX6_is_wsX6_is_r8 _ (List.mem_of_getElem? (i := 0) rfl)) (mb_c (gm_wsX6_is_wsX6_is_r8 _ (List.mem_of_getElem? (i := 1) rfl)) (mb_n))))))))))))))) (by decide +kernel)
set_option maxRecDepth 20000 in
theorem ggX6_is_X6_look : GoodIn wsX6_is wsX6_look := (gi_c (gm_wsX6_is_wsX6_is_r1 _ (List.mem_of_getElem? (i := 13) rfl)) (by decide +kernel) (goodIn_app (goodIn_app ggX6_is_X6_look_s1 (goodIn_app ggX6_is_X6_look_s2 (goodIn_app ggX6_is_X6_look_s3 (goodIn_app ggX6_is_X6_look_s4 (goodIn_app ggX6_is_X6_look_s5 (goodIn_app ggX6_is_X6_look_s6 ggX6_is_X6_look_s7)))))) (goodIn_sub gm_wsX6_is_wsX60 (by decide +kernel))))
set_option maxRecDepth 20000 in
theorem gX6_is_X6_look : GoodIn wsX6_is (wsV RX6 212 RX6 yX6_look wsX6_look) := goodIn_app (goodIn_of _ (by decide +kernel)) ggX6_is_X6_look
set_option maxRecDepth 20000 in
theorem ggX6_is_X6_insideOf : GoodIn wsX6_is wsX6_insideOf := goodIn_r _ [174, 30, 16, 15, 175, 176, 177, 5, 178, 17, 44, 195, 196, 197, 198, 199, 200, 201, 202, 203, 204, 205, 206, 207, 208, 209, 210, 211, 212, 213, 214, 215] (by decide +kernel) (by decide +kernel)
set_option maxRecDepth 20000 in
theorem gX6_is_X6_insideOf : GoodIn wsX6_is (wsV RX6 221 RX6 yX6_insideOf wsX6_insideOf) := goodIn_app (goodIn_of _ (by decide +kernel)) ggX6_is_X6_insideOf
set_option maxRecDepth 20000 in
theorem ggX6_is_X6_there : GoodIn wsX6_is wsX6_there := goodIn_r _ [182, 2, 195, 196, 197, 198, 199, 200, 201, 202, 203, 204, 205, 206, 207, 208, 209, 210, 211, 212, 213, 214, 215] (by decide +kernel) (by decide +kernel)
set_option maxRecDepth 20000 in
theorem gX6_is_X6_there : GoodIn wsX6_is (wsV RX6 218 RX6 yX6_there wsX6_there) := goodIn_app (goodIn_of _ (by decide +kernel)) ggX6_is_X6_there
set_option maxRecDepth 20000 in
theorem ggX6_is_X6_none : GoodIn wsX6_is wsX6_none := goodIn_r _ [186, 2, 195, 196, 197, 198, 199, 200, 201, 202, 203, 204, 205, 206, 207, 208, 209, 210, 211, 212, 213, 214, 215] (by decide +kernel) (by decide +kernel)
set_option maxRecDepth 20000 in
theorem gX6_is_X6_none : GoodIn wsX6_is (wsV RX6 224 RX6 yX6_none wsX6_none) := goodIn_app (goodIn_of _ (by decide +kernel)) ggX6_is_X6_none
set_option maxRecDepth 20000 in
theorem ggX6_is_X6_meet : GoodIn wsX6_is wsX6_meet := goodIn_r _ [190, 179, 180, 181, 5, 182, 2, 195, 196, 197, 198, 199, 200, 201, 202, 203, 204, 205, 206, 207, 208, 209, 210, 211, 212, 213, 214, 215] (by decide +kernel) (by decide +kernel)
set_option maxRecDepth 20000 in
theorem gX6_is_X6_meet : GoodIn wsX6_is (wsV RX6 227 RX6 yX6_meet wsX6_meet) := goodIn_app (goodIn_of _ (by decide +kernel)) ggX6_is_X6_meet
set_option maxRecDepth 20000 in
theorem ggX6_is_X6_crossing : GoodIn wsX6_is wsX6_crossing := goodIn_r _ [194, 2, 179, 180, 181, 5, 182, 195, 196, 197, 198, 199, 200, 201, 202, 203, 204, 205, 206, 207, 208, 209, 210, 211, 212, 213, 214, 215] (by decide +kernel) (by decide +kernel)
set_option maxRecDepth 20000 in
theorem gX6_is_X6_crossing : GoodIn wsX6_is (wsV RX6 231 RX6 yX6_crossing wsX6_crossing) := goodIn_app (goodIn_of _ (by decide +kernel)) ggX6_is_X6_crossing
theorem dX6_is_0 : decode cX6_is 0 = .ok (.aload_n 0, 1) := by decide +kernel
theorem dX6_is_1 : decode cX6_is 1 = .ok (.iconst 0, 1) := by decide +kernel
theorem dX6_is_2 : decode cX6_is 2 = .ok (.putfield 54, 3) := by decide +kernel
theorem dX6_is_5 : decode cX6_is 5 = .ok (.iload_n 1, 1) := by decide +kernel
theorem dX6_is_6 : decode cX6_is 6 = .ok (.iconst 0, 1) := by decide +kernel
theorem dX6_is_7 : decode cX6_is 7 = .ok (.bipush 8, 2) := by decide +kernel
theorem dX6_is_9 : decode cX6_is 9 = .ok (.invokestatic 60, 3) := by decide +kernel
theorem dX6_is_12 : decode cX6_is 12 = .ok (.ifCond .ne 17, 3) := by decide +kernel
theorem dX6_is_15 : decode cX6_is 15 = .ok (.aload_n 0, 1) := by decide +kernel
theorem dX6_is_16 : decode cX6_is 16 = .ok (.iconst 1, 1) := by decide +kernel
theorem dX6_is_17 : decode cX6_is 17 = .ok (.invokevirtual 68, 3) := by decide +kernel
theorem dX6_is_20 : decode cX6_is 20 = .ok (.ifCond .le 7, 3) := by decide +kernel
theorem dX6_is_23 : decode cX6_is 23 = .ok (.iconst 1, 1) := by decide +kernel
theorem dX6_is_24 : decode cX6_is 24 = .ok (.goto 4, 3) := by decide +kernel
theorem dX6_is_27 : decode cX6_is 27 = .ok (.iconst 0, 1) := by decide +kernel
theorem dX6_is_28 : decode cX6_is 28 = .ok (.ireturn, 1) := by decide +kernel
theorem dX6_is_29 : decode cX6_is 29 = .ok (.aload_n 0, 1) := by decide +kernel
theorem dX6_is_30 : decode cX6_is 30 = .ok (.invokevirtual 212, 3) := by decide +kernel
theorem dX6_is_33 : decode cX6_is 33 = .ok (.aload_n 0, 1) := by decide +kernel
theorem dX6_is_34 : decode cX6_is 34 = .ok (.iconst 0, 1) := by decide +kernel
theorem dX6_is_35 : decode cX6_is 35 = .ok (.invokevirtual 221, 3) := by decide +kernel
theorem dX6_is_38 : decode cX6_is 38 = .ok (.istore_n 2, 1) := by decide +kernel
theorem dX6_is_39 : decode cX6_is 39 = .ok (.aload_n 0, 1) := by decide +kernel
theorem dX6_is_40 : decode cX6_is 40 = .ok (.iconst 1, 1) := by decide +kernel
theorem dX6_is_41 : decode cX6_is 41 = .ok (.invokevirtual 221, 3) := by decide +kernel
theorem dX6_is_44 : decode cX6_is 44 = .ok (.istore_n 3, 1) := by decide +kernel
theorem dX6_is_45 : decode cX6_is 45 = .ok (.iload_n 1, 1) := by decide +kernel
theorem dX6_is_46 : decode cX6_is 46 = .ok (.ifCond .ne 46, 3) := by decide +kernel
theorem dX6_is_49 : decode cX6_is 49 = .ok (.iload_n 2, 1) := by decide +kernel
theorem dX6_is_50 : decode cX6_is 50 = .ok (.ifCond .ge 7, 3) := by decide +kernel
theorem dX6_is_53 : decode cX6_is 53 = .ok (.iload_n 3, 1) := by decide +kernel
theorem dX6_is_54 : decode cX6_is 54 = .ok (.ifCond .lt 32, 3) := by decide +kernel
