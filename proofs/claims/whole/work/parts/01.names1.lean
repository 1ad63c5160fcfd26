theorem dX1_run_113 : decode cX1_run 113 = .ok (.aload_n 0, 1) := by decide +kernel
theorem dX1_run_114 : decode cX1_run 114 = .ok (.getfield 30, 3) := by decide +kernel
theorem dX1_run_117 : decode cX1_run 117 = .ok (.getfield 78, 3) := by decide +kernel
theorem dX1_run_120 : decode cX1_run 120 = .ok (.ireturn, 1) := by decide +kernel
set_option maxRecDepth 20000 in
theorem ggX1_keyAt_X1_isPlace : GoodIn wsX1_keyAt wsX1_isPlace := goodIn_r _ [6, 7, 11, 12, 13, 14, 15, 16, 17, 18, 19] (by decide +kernel) (by decide +kernel)
set_option maxRecDepth 20000 in
theorem gX1_keyAt_X1_isPlace : GoodIn wsX1_keyAt (wsV RX1 81 RX1 yX1_isPlace wsX1_isPlace) := goodIn_app (goodIn_of _ (by decide +kernel)) ggX1_keyAt_X1_isPlace
set_option maxRecDepth 20000 in
theorem ggX1_keyAt_X1_keyOf : GoodIn wsX1_keyAt wsX1_keyOf := goodIn_r _ [10] (by decide +kernel) (by decide +kernel)
set_option maxRecDepth 20000 in
theorem gX1_keyAt_X1_keyOf : GoodIn wsX1_keyAt (va_wsS RX1 85 yX1_keyOf wsX1_keyOf) := goodIn_app (goodIn_of _ (by decide +kernel)) ggX1_keyAt_X1_keyOf
theorem dX1_keyAt_0 : decode cX1_keyAt 0 = .ok (.aload_n 0, 1) := by decide +kernel
theorem dX1_keyAt_1 : decode cX1_keyAt 1 = .ok (.iload_n 1, 1) := by decide +kernel
theorem dX1_keyAt_2 : decode cX1_keyAt 2 = .ok (.invokevirtual 81, 3) := by decide +kernel
theorem dX1_keyAt_5 : decode cX1_keyAt 5 = .ok (.ifCond .eq 15, 3) := by decide +kernel
theorem dX1_keyAt_8 : decode cX1_keyAt 8 = .ok (.aload_n 0, 1) := by decide +kernel
theorem dX1_keyAt_9 : decode cX1_keyAt 9 = .ok (.getfield 18, 3) := by decide +kernel
theorem dX1_keyAt_12 : decode cX1_keyAt 12 = .ok (.iload_n 1, 1) := by decide +kernel
theorem dX1_keyAt_13 : decode cX1_keyAt 13 = .ok (.laload, 1) := by decide +kernel
theorem dX1_keyAt_14 : decode cX1_keyAt 14 = .ok (.invokestatic 85, 3) := by decide +kernel
theorem dX1_keyAt_17 : decode cX1_keyAt 17 = .ok (.goto 4, 3) := by decide +kernel
theorem dX1_keyAt_20 : decode cX1_keyAt 20 = .ok (.iconst 0, 1) := by decide +kernel
theorem dX1_keyAt_21 : decode cX1_keyAt 21 = .ok (.ireturn, 1) := by decide +kernel
set_option maxRecDepth 20000 in
theorem ggX1_tagAt_X1_isPlace : GoodIn wsX1_tagAt wsX1_isPlace := goodIn_r _ [6, 7, 11, 12, 13, 14, 15, 16, 17, 18, 19] (by decide +kernel) (by decide +kernel)
set_option maxRecDepth 20000 in
theorem gX1_tagAt_X1_isPlace : GoodIn wsX1_tagAt (wsV RX1 81 RX1 yX1_isPlace wsX1_isPlace) := goodIn_app (goodIn_of _ (by decide +kernel)) ggX1_tagAt_X1_isPlace
set_option maxRecDepth 20000 in
theorem ggX1_tagAt_X1_tagOf : GoodIn wsX1_tagAt wsX1_tagOf := goodIn_r _ [10] (by decide +kernel) (by decide +kernel)
set_option maxRecDepth 20000 in
theorem gX1_tagAt_X1_tagOf : GoodIn wsX1_tagAt (va_wsS RX1 89 yX1_tagOf wsX1_tagOf) := goodIn_app (goodIn_of _ (by decide +kernel)) ggX1_tagAt_X1_tagOf
theorem dX1_tagAt_0 : decode cX1_tagAt 0 = .ok (.aload_n 0, 1) := by decide +kernel
theorem dX1_tagAt_1 : decode cX1_tagAt 1 = .ok (.iload_n 1, 1) := by decide +kernel
theorem dX1_tagAt_2 : decode cX1_tagAt 2 = .ok (.invokevirtual 81, 3) := by decide +kernel
theorem dX1_tagAt_5 : decode cX1_tagAt 5 = .ok (.ifCond .eq 15, 3) := by decide +kernel
theorem dX1_tagAt_8 : decode cX1_tagAt 8 = .ok (.aload_n 0, 1) := by decide +kernel
theorem dX1_tagAt_9 : decode cX1_tagAt 9 = .ok (.getfield 18, 3) := by decide +kernel
theorem dX1_tagAt_12 : decode cX1_tagAt 12 = .ok (.iload_n 1, 1) := by decide +kernel
theorem dX1_tagAt_13 : decode cX1_tagAt 13 = .ok (.laload, 1) := by decide +kernel
theorem dX1_tagAt_14 : decode cX1_tagAt 14 = .ok (.invokestatic 89, 3) := by decide +kernel
theorem dX1_tagAt_17 : decode cX1_tagAt 17 = .ok (.goto 4, 3) := by decide +kernel
theorem dX1_tagAt_20 : decode cX1_tagAt 20 = .ok (.iconst 0, 1) := by decide +kernel
theorem dX1_tagAt_21 : decode cX1_tagAt 21 = .ok (.ireturn, 1) := by decide +kernel
theorem dX1_size_0 : decode cX1_size 0 = .ok (.aload_n 0, 1) := by decide +kernel
theorem dX1_size_1 : decode cX1_size 1 = .ok (.getfield 38, 3) := by decide +kernel
theorem dX1_size_4 : decode cX1_size 4 = .ok (.ireturn, 1) := by decide +kernel
theorem dX1_stackHigh_0 : decode cX1_stackHigh 0 = .ok (.aload_n 0, 1) := by decide +kernel
theorem dX1_stackHigh_1 : decode cX1_stackHigh 1 = .ok (.getfield 75, 3) := by decide +kernel
theorem dX1_stackHigh_4 : decode cX1_stackHigh 4 = .ok (.ireturn, 1) := by decide +kernel
theorem dX1_work_0 : decode cX1_work 0 = .ok (.iload_n 1, 1) := by decide +kernel
theorem dX1_work_1 : decode cX1_work 1 = .ok (.tableswitch 72 0 3 #[31, 37, 43, 48], 31) := by decide +kernel
theorem dX1_work_32 : decode cX1_work 32 = .ok (.aload_n 0, 1) := by decide +kernel
theorem dX1_work_33 : decode cX1_work 33 = .ok (.getfield 60, 3) := by decide +kernel
theorem dX1_work_36 : decode cX1_work 36 = .ok (.i2l, 1) := by decide +kernel
theorem dX1_work_37 : decode cX1_work 37 = .ok (.lreturn, 1) := by decide +kernel
theorem dX1_work_38 : decode cX1_work 38 = .ok (.aload_n 0, 1) := by decide +kernel
theorem dX1_work_39 : decode cX1_work 39 = .ok (.getfield 92, 3) := by decide +kernel
theorem dX1_work_42 : decode cX1_work 42 = .ok (.i2l, 1) := by decide +kernel
theorem dX1_work_43 : decode cX1_work 43 = .ok (.lreturn, 1) := by decide +kernel
theorem dX1_work_44 : decode cX1_work 44 = .ok (.aload_n 0, 1) := by decide +kernel
theorem dX1_work_45 : decode cX1_work 45 = .ok (.getfield 95, 3) := by decide +kernel
theorem dX1_work_48 : decode cX1_work 48 = .ok (.lreturn, 1) := by decide +kernel
theorem dX1_work_49 : decode cX1_work 49 = .ok (.iload_n 2, 1) := by decide +kernel
theorem dX1_work_50 : decode cX1_work 50 = .ok (.ifCond .lt 21, 3) := by decide +kernel
theorem dX1_work_53 : decode cX1_work 53 = .ok (.iload_n 2, 1) := by decide +kernel
theorem dX1_work_54 : decode cX1_work 54 = .ok (.aload_n 0, 1) := by decide +kernel
theorem dX1_work_55 : decode cX1_work 55 = .ok (.getfield 60, 3) := by decide +kernel
theorem dX1_work_58 : decode cX1_work 58 = .ok (.if_icmp .ge 13, 3) := by decide +kernel
theorem dX1_work_61 : decode cX1_work 61 = .ok (.aload_n 0, 1) := by decide +kernel
theorem dX1_work_62 : decode cX1_work 62 = .ok (.getfield 34, 3) := by decide +kernel
theorem dX1_work_65 : decode cX1_work 65 = .ok (.iload_n 2, 1) := by decide +kernel
theorem dX1_work_66 : decode cX1_work 66 = .ok (.iaload, 1) := by decide +kernel
theorem dX1_work_67 : decode cX1_work 67 = .ok (.i2l, 1) := by decide +kernel
theorem dX1_work_68 : decode cX1_work 68 = .ok (.goto 4, 3) := by decide +kernel
theorem dX1_work_71 : decode cX1_work 71 = .ok (.lconst 0, 1) := by decide +kernel
theorem dX1_work_72 : decode cX1_work 72 = .ok (.lreturn, 1) := by decide +kernel
theorem dX1_work_73 : decode cX1_work 73 = .ok (.lconst 0, 1) := by decide +kernel
theorem dX1_work_74 : decode cX1_work 74 = .ok (.lreturn, 1) := by decide +kernel
set_option maxRecDepth 20000 in
theorem ggX1_sorted_X1_isPlace : GoodIn wsX1_sorted wsX1_isPlace := goodIn_r _ [5, 6, 19, 20, 21, 22, 23, 24, 25, 26, 27] (by decide +kernel) (by decide +kernel)
set_option maxRecDepth 20000 in
theorem gX1_sorted_X1_isPlace : GoodIn wsX1_sorted (wsV RX1 81 RX1 yX1_isPlace wsX1_isPlace) := goodIn_app (goodIn_of _ (by decide +kernel)) ggX1_sorted_X1_isPlace
set_option maxRecDepth 20000 in
theorem ggX1_sorted_X1_countNotFalling : GoodIn wsX1_sorted wsX1_countNotFalling := goodIn_r _ [10, 6, 11, 12, 13, 4, 14, 15, 16, 17, 18, 19, 20, 21, 22, 23, 24, 25, 26, 27] (by decide +kernel) (by decide +kernel)
set_option maxRecDepth 20000 in
theorem gX1_sorted_X1_countNotFalling : GoodIn wsX1_sorted (wsV RX1 99 RX1 yX1_countNotFalling wsX1_countNotFalling) := goodIn_app (goodIn_of _ (by decide +kernel)) ggX1_sorted_X1_countNotFalling
theorem dX1_sorted_0 : decode cX1_sorted 0 = .ok (.aload_n 0, 1) := by decide +kernel
theorem dX1_sorted_1 : decode cX1_sorted 1 = .ok (.iload_n 1, 1) := by decide +kernel
theorem dX1_sorted_2 : decode cX1_sorted 2 = .ok (.invokevirtual 81, 3) := by decide +kernel
theorem dX1_sorted_5 : decode cX1_sorted 5 = .ok (.ifCond .eq 11, 3) := by decide +kernel
theorem dX1_sorted_8 : decode cX1_sorted 8 = .ok (.aload_n 0, 1) := by decide +kernel
theorem dX1_sorted_9 : decode cX1_sorted 9 = .ok (.iload_n 1, 1) := by decide +kernel
theorem dX1_sorted_10 : decode cX1_sorted 10 = .ok (.invokevirtual 99, 3) := by decide +kernel
theorem dX1_sorted_13 : decode cX1_sorted 13 = .ok (.goto 4, 3) := by decide +kernel
theorem dX1_sorted_16 : decode cX1_sorted 16 = .ok (.iconst 0, 1) := by decide +kernel
theorem dX1_sorted_17 : decode cX1_sorted 17 = .ok (.ireturn, 1) := by decide +kernel
set_option maxRecDepth 20000 in
theorem ggX1_clear_X1_forgetLatestSorting : GoodIn wsX1_clear wsX1_forgetLatestSorting := goodIn_r _ [7, 8, 9, 10, 11, 12, 13, 14, 15, 16, 17, 18, 19, 20, 21, 22, 23, 24, 25, 26, 27, 28, 29, 30] (by decide +kernel) (by decide +kernel)
set_option maxRecDepth 20000 in
theorem gX1_clear_X1_forgetLatestSorting : GoodIn wsX1_clear (wsV RX1 53 RX1 yX1_forgetLatestSorting wsX1_forgetLatestSorting) := goodIn_app (goodIn_of _ (by decide +kernel)) ggX1_clear_X1_forgetLatestSorting
theorem dX1_clear_0 : decode cX1_clear 0 = .ok (.aload_n 0, 1) := by decide +kernel
theorem dX1_clear_1 : decode cX1_clear 1 = .ok (.iconst 0, 1) := by decide +kernel
theorem dX1_clear_2 : decode cX1_clear 2 = .ok (.putfield 38, 3) := by decide +kernel
theorem dX1_clear_5 : decode cX1_clear 5 = .ok (.aload_n 0, 1) := by decide +kernel
theorem dX1_clear_6 : decode cX1_clear 6 = .ok (.iconst 0, 1) := by decide +kernel
theorem dX1_clear_7 : decode cX1_clear 7 = .ok (.putfield 75, 3) := by decide +kernel
theorem dX1_clear_10 : decode cX1_clear 10 = .ok (.aload_n 0, 1) := by decide +kernel
theorem dX1_clear_11 : decode cX1_clear 11 = .ok (.invokevirtual 53, 3) := by decide +kernel
theorem dX1_clear_14 : decode cX1_clear 14 = .ok (.return_, 1) := by decide +kernel
set_option maxRecDepth 20000 in
theorem ggX1_forgetLatestSorting_X0_empty : GoodIn wsX1_forgetLatestSorting wsX0_empty := goodIn_r _ [8, 9, 10, 20, 21, 22, 23] (by decide +kernel) (by decide +kernel)
set_option maxRecDepth 20000 in
theorem gX1_forgetLatestSorting_X0_empty_n102 : GoodIn wsX1_forgetLatestSorting (wsX0_empty) := ggX1_forgetLatestSorting_X0_empty
theorem dX1_forgetLatestSorting_0 : decode cX1_forgetLatestSorting 0 = .ok (.aload_n 0, 1) := by decide +kernel
theorem dX1_forgetLatestSorting_1 : decode cX1_forgetLatestSorting 1 = .ok (.iconst 0, 1) := by decide +kernel
theorem dX1_forgetLatestSorting_2 : decode cX1_forgetLatestSorting 2 = .ok (.putfield 60, 3) := by decide +kernel
theorem dX1_forgetLatestSorting_5 : decode cX1_forgetLatestSorting 5 = .ok (.aload_n 0, 1) := by decide +kernel
theorem dX1_forgetLatestSorting_6 : decode cX1_forgetLatestSorting 6 = .ok (.iconst 0, 1) := by decide +kernel
theorem dX1_forgetLatestSorting_7 : decode cX1_forgetLatestSorting 7 = .ok (.putfield 92, 3) := by decide +kernel
theorem dX1_forgetLatestSorting_10 : decode cX1_forgetLatestSorting 10 = .ok (.aload_n 0, 1) := by decide +kernel
theorem dX1_forgetLatestSorting_11 : decode cX1_forgetLatestSorting 11 = .ok (.lconst 0, 1) := by decide +kernel
theorem dX1_forgetLatestSorting_12 : decode cX1_forgetLatestSorting 12 = .ok (.putfield 95, 3) := by decide +kernel
theorem dX1_forgetLatestSorting_15 : decode cX1_forgetLatestSorting 15 = .ok (.aload_n 0, 1) := by decide +kernel
theorem dX1_forgetLatestSorting_16 : decode cX1_forgetLatestSorting 16 = .ok (.getfield 30, 3) := by decide +kernel
theorem dX1_forgetLatestSorting_19 : decode cX1_forgetLatestSorting 19 = .ok (.invokevirtual 102, 3) := by decide +kernel
theorem dX1_forgetLatestSorting_22 : decode cX1_forgetLatestSorting 22 = .ok (.return_, 1) := by decide +kernel
theorem dX1_isPlace_0 : decode cX1_isPlace 0 = .ok (.iload_n 1, 1) := by decide +kernel
theorem dX1_isPlace_1 : decode cX1_isPlace 1 = .ok (.ifCond .lt 15, 3) := by decide +kernel
theorem dX1_isPlace_4 : decode cX1_isPlace 4 = .ok (.iload_n 1, 1) := by decide +kernel
theorem dX1_isPlace_5 : decode cX1_isPlace 5 = .ok (.aload_n 0, 1) := by decide +kernel
theorem dX1_isPlace_6 : decode cX1_isPlace 6 = .ok (.getfield 38, 3) := by decide +kernel
theorem dX1_isPlace_9 : decode cX1_isPlace 9 = .ok (.if_icmp .ge 7, 3) := by decide +kernel
theorem dX1_isPlace_12 : decode cX1_isPlace 12 = .ok (.iconst 1, 1) := by decide +kernel
theorem dX1_isPlace_13 : decode cX1_isPlace 13 = .ok (.goto 4, 3) := by decide +kernel
theorem dX1_isPlace_16 : decode cX1_isPlace 16 = .ok (.iconst 0, 1) := by decide +kernel
theorem dX1_isPlace_17 : decode cX1_isPlace 17 = .ok (.ireturn, 1) := by decide +kernel
theorem dX1_pairOf_0 : decode cX1_pairOf 0 = .ok (.iload_n 0, 1) := by decide +kernel
theorem dX1_pairOf_1 : decode cX1_pairOf 1 = .ok (.i2l, 1) := by decide +kernel
theorem dX1_pairOf_2 : decode cX1_pairOf 2 = .ok (.bipush 32, 2) := by decide +kernel
theorem dX1_pairOf_4 : decode cX1_pairOf 4 = .ok (.lshl, 1) := by decide +kernel
theorem dX1_pairOf_5 : decode cX1_pairOf 5 = .ok (.iload_n 1, 1) := by decide +kernel
theorem dX1_pairOf_6 : decode cX1_pairOf 6 = .ok (.i2l, 1) := by decide +kernel
theorem dX1_pairOf_7 : decode cX1_pairOf 7 = .ok (.ldc2_w 105, 3) := by decide +kernel
theorem dX1_pairOf_10 : decode cX1_pairOf 10 = .ok (.land, 1) := by decide +kernel
theorem dX1_pairOf_11 : decode cX1_pairOf 11 = .ok (.lor, 1) := by decide +kernel
theorem dX1_pairOf_12 : decode cX1_pairOf 12 = .ok (.lreturn, 1) := by decide +kernel
theorem dX1_keyOf_0 : decode cX1_keyOf 0 = .ok (.lload_n 0, 1) := by decide +kernel
theorem dX1_keyOf_1 : decode cX1_keyOf 1 = .ok (.bipush 32, 2) := by decide +kernel
theorem dX1_keyOf_3 : decode cX1_keyOf 3 = .ok (.lshr, 1) := by decide +kernel
theorem dX1_keyOf_4 : decode cX1_keyOf 4 = .ok (.l2i, 1) := by decide +kernel
theorem dX1_keyOf_5 : decode cX1_keyOf 5 = .ok (.ireturn, 1) := by decide +kernel
theorem dX1_tagOf_0 : decode cX1_tagOf 0 = .ok (.lload_n 0, 1) := by decide +kernel
theorem dX1_tagOf_1 : decode cX1_tagOf 1 = .ok (.l2i, 1) := by decide +kernel
theorem dX1_tagOf_2 : decode cX1_tagOf 2 = .ok (.ireturn, 1) := by decide +kernel
set_option maxRecDepth 20000 in
theorem ggX1_fallsAt_X1_keyOf : GoodIn wsX1_fallsAt wsX1_keyOf := goodIn_r _ [5] (by decide +kernel) (by decide +kernel)
set_option maxRecDepth 20000 in
theorem gX1_fallsAt_X1_keyOf : GoodIn wsX1_fallsAt (va_wsS RX1 85 yX1_keyOf wsX1_keyOf) := goodIn_app (goodIn_of _ (by decide +kernel)) ggX1_fallsAt_X1_keyOf
theorem dX1_fallsAt_0 : decode cX1_fallsAt 0 = .ok (.aload_n 0, 1) := by decide +kernel
theorem dX1_fallsAt_1 : decode cX1_fallsAt 1 = .ok (.getfield 18, 3) := by decide +kernel
theorem dX1_fallsAt_4 : decode cX1_fallsAt 4 = .ok (.iload_n 1, 1) := by decide +kernel
theorem dX1_fallsAt_5 : decode cX1_fallsAt 5 = .ok (.laload, 1) := by decide +kernel
theorem dX1_fallsAt_6 : decode cX1_fallsAt 6 = .ok (.invokestatic 85, 3) := by decide +kernel
theorem dX1_fallsAt_9 : decode cX1_fallsAt 9 = .ok (.aload_n 0, 1) := by decide +kernel
theorem dX1_fallsAt_10 : decode cX1_fallsAt 10 = .ok (.getfield 18, 3) := by decide +kernel
theorem dX1_fallsAt_13 : decode cX1_fallsAt 13 = .ok (.iload_n 1, 1) := by decide +kernel
theorem dX1_fallsAt_14 : decode cX1_fallsAt 14 = .ok (.iconst 1, 1) := by decide +kernel
theorem dX1_fallsAt_15 : decode cX1_fallsAt 15 = .ok (.isub, 1) := by decide +kernel
theorem dX1_fallsAt_16 : decode cX1_fallsAt 16 = .ok (.laload, 1) := by decide +kernel
theorem dX1_fallsAt_17 : decode cX1_fallsAt 17 = .ok (.invokestatic 85, 3) := by decide +kernel
theorem dX1_fallsAt_20 : decode cX1_fallsAt 20 = .ok (.if_icmp .ge 7, 3) := by decide +kernel
theorem dX1_fallsAt_23 : decode cX1_fallsAt 23 = .ok (.iconst 1, 1) := by decide +kernel
theorem dX1_fallsAt_24 : decode cX1_fallsAt 24 = .ok (.goto 4, 3) := by decide +kernel
theorem dX1_fallsAt_27 : decode cX1_fallsAt 27 = .ok (.iconst 0, 1) := by decide +kernel
theorem dX1_fallsAt_28 : decode cX1_fallsAt 28 = .ok (.ireturn, 1) := by decide +kernel
set_option maxRecDepth 20000 in
theorem ggX1_countNotFalling_X1_fallsAt : GoodIn wsX1_countNotFalling wsX1_fallsAt := goodIn_r _ [6, 7, 8, 9, 5, 10, 11, 12, 13, 14, 15, 16, 17, 18, 19] (by decide +kernel) (by decide +kernel)
set_option maxRecDepth 20000 in
theorem gX1_countNotFalling_X1_fallsAt : GoodIn wsX1_countNotFalling (wsV RX1 107 RX1 yX1_fallsAt wsX1_fallsAt) := goodIn_app (goodIn_of _ (by decide +kernel)) ggX1_countNotFalling_X1_fallsAt
theorem dX1_countNotFalling_0 : decode cX1_countNotFalling 0 = .ok (.iload_n 1, 1) := by decide +kernel
theorem dX1_countNotFalling_1 : decode cX1_countNotFalling 1 = .ok (.iconst 1, 1) := by decide +kernel
theorem dX1_countNotFalling_2 : decode cX1_countNotFalling 2 = .ok (.iadd, 1) := by decide +kernel
theorem dX1_countNotFalling_3 : decode cX1_countNotFalling 3 = .ok (.istore_n 2, 1) := by decide +kernel
theorem dX1_countNotFalling_4 : decode cX1_countNotFalling 4 = .ok (.iload_n 2, 1) := by decide +kernel
theorem dX1_countNotFalling_5 : decode cX1_countNotFalling 5 = .ok (.aload_n 0, 1) := by decide +kernel
theorem dX1_countNotFalling_6 : decode cX1_countNotFalling 6 = .ok (.getfield 38, 3) := by decide +kernel
theorem dX1_countNotFalling_9 : decode cX1_countNotFalling 9 = .ok (.if_icmp .ge 17, 3) := by decide +kernel
theorem dX1_countNotFalling_12 : decode cX1_countNotFalling 12 = .ok (.aload_n 0, 1) := by decide +kernel
theorem dX1_countNotFalling_13 : decode cX1_countNotFalling 13 = .ok (.iload_n 2, 1) := by decide +kernel
theorem dX1_countNotFalling_14 : decode cX1_countNotFalling 14 = .ok (.invokevirtual 107, 3) := by decide +kernel
theorem dX1_countNotFalling_17 : decode cX1_countNotFalling 17 = .ok (.ifCond .ne 9, 3) := by decide +kernel
theorem dX1_countNotFalling_20 : decode cX1_countNotFalling 20 = .ok (.iinc 2 1, 3) := by decide +kernel
theorem dX1_countNotFalling_23 : decode cX1_countNotFalling 23 = .ok (.goto (-19), 3) := by decide +kernel
theorem dX1_countNotFalling_26 : decode cX1_countNotFalling 26 = .ok (.iload_n 2, 1) := by decide +kernel
theorem dX1_countNotFalling_27 : decode cX1_countNotFalling 27 = .ok (.iload_n 1, 1) := by decide +kernel
theorem dX1_countNotFalling_28 : decode cX1_countNotFalling 28 = .ok (.isub, 1) := by decide +kernel
theorem dX1_countNotFalling_29 : decode cX1_countNotFalling 29 = .ok (.ireturn, 1) := by decide +kernel
set_option maxRecDepth 20000 in
theorem ggX1_countFalling_X1_fallsAt : GoodIn wsX1_countFalling wsX1_fallsAt := goodIn_r _ [6, 7, 8, 9, 5, 10, 11, 12, 13, 14, 15, 16, 17, 18, 19] (by decide +kernel) (by decide +kernel)
set_option maxRecDepth 20000 in
theorem gX1_countFalling_X1_fallsAt : GoodIn wsX1_countFalling (wsV RX1 107 RX1 yX1_fallsAt wsX1_fallsAt) := goodIn_app (goodIn_of _ (by decide +kernel)) ggX1_countFalling_X1_fallsAt
theorem dX1_countFalling_0 : decode cX1_countFalling 0 = .ok (.iload_n 1, 1) := by decide +kernel
theorem dX1_countFalling_1 : decode cX1_countFalling 1 = .ok (.iconst 1, 1) := by decide +kernel
theorem dX1_countFalling_2 : decode cX1_countFalling 2 = .ok (.iadd, 1) := by decide +kernel
theorem dX1_countFalling_3 : decode cX1_countFalling 3 = .ok (.istore_n 2, 1) := by decide +kernel
theorem dX1_countFalling_4 : decode cX1_countFalling 4 = .ok (.iload_n 2, 1) := by decide +kernel
theorem dX1_countFalling_5 : decode cX1_countFalling 5 = .ok (.aload_n 0, 1) := by decide +kernel
theorem dX1_countFalling_6 : decode cX1_countFalling 6 = .ok (.getfield 38, 3) := by decide +kernel
theorem dX1_countFalling_9 : decode cX1_countFalling 9 = .ok (.if_icmp .ge 17, 3) := by decide +kernel
theorem dX1_countFalling_12 : decode cX1_countFalling 12 = .ok (.aload_n 0, 1) := by decide +kernel
theorem dX1_countFalling_13 : decode cX1_countFalling 13 = .ok (.iload_n 2, 1) := by decide +kernel
theorem dX1_countFalling_14 : decode cX1_countFalling 14 = .ok (.invokevirtual 107, 3) := by decide +kernel
theorem dX1_countFalling_17 : decode cX1_countFalling 17 = .ok (.ifCond .eq 9, 3) := by decide +kernel
theorem dX1_countFalling_20 : decode cX1_countFalling 20 = .ok (.iinc 2 1, 3) := by decide +kernel
theorem dX1_countFalling_23 : decode cX1_countFalling 23 = .ok (.goto (-19), 3) := by decide +kernel
theorem dX1_countFalling_26 : decode cX1_countFalling 26 = .ok (.iload_n 2, 1) := by decide +kernel
theorem dX1_countFalling_27 : decode cX1_countFalling 27 = .ok (.iload_n 1, 1) := by decide +kernel
theorem dX1_countFalling_28 : decode cX1_countFalling 28 = .ok (.isub, 1) := by decide +kernel
theorem dX1_countFalling_29 : decode cX1_countFalling 29 = .ok (.ireturn, 1) := by decide +kernel
theorem dX1_turnRound_0 : decode cX1_turnRound 0 = .ok (.iload_n 1, 1) := by decide +kernel
theorem dX1_turnRound_1 : decode cX1_turnRound 1 = .ok (.istore_n 3, 1) := by decide +kernel
theorem dX1_turnRound_2 : decode cX1_turnRound 2 = .ok (.iload_n 1, 1) := by decide +kernel
theorem dX1_turnRound_3 : decode cX1_turnRound 3 = .ok (.iload_n 2, 1) := by decide +kernel
theorem dX1_turnRound_4 : decode cX1_turnRound 4 = .ok (.iadd, 1) := by decide +kernel
theorem dX1_turnRound_5 : decode cX1_turnRound 5 = .ok (.iconst 1, 1) := by decide +kernel
theorem dX1_turnRound_6 : decode cX1_turnRound 6 = .ok (.isub, 1) := by decide +kernel
theorem dX1_turnRound_7 : decode cX1_turnRound 7 = .ok (.istore 4, 2) := by decide +kernel
theorem dX1_turnRound_9 : decode cX1_turnRound 9 = .ok (.iload_n 3, 1) := by decide +kernel
theorem dX1_turnRound_10 : decode cX1_turnRound 10 = .ok (.iload 4, 2) := by decide +kernel
theorem dX1_turnRound_12 : decode cX1_turnRound 12 = .ok (.if_icmp .ge 42, 3) := by decide +kernel
theorem dX1_turnRound_15 : decode cX1_turnRound 15 = .ok (.aload_n 0, 1) := by decide +kernel
theorem dX1_turnRound_16 : decode cX1_turnRound 16 = .ok (.getfield 18, 3) := by decide +kernel
theorem dX1_turnRound_19 : decode cX1_turnRound 19 = .ok (.iload_n 3, 1) := by decide +kernel
theorem dX1_turnRound_20 : decode cX1_turnRound 20 = .ok (.laload, 1) := by decide +kernel
theorem dX1_turnRound_21 : decode cX1_turnRound 21 = .ok (.lstore 5, 2) := by decide +kernel
theorem dX1_turnRound_23 : decode cX1_turnRound 23 = .ok (.aload_n 0, 1) := by decide +kernel
theorem dX1_turnRound_24 : decode cX1_turnRound 24 = .ok (.getfield 18, 3) := by decide +kernel
theorem dX1_turnRound_27 : decode cX1_turnRound 27 = .ok (.iload_n 3, 1) := by decide +kernel
theorem dX1_turnRound_28 : decode cX1_turnRound 28 = .ok (.aload_n 0, 1) := by decide +kernel
theorem dX1_turnRound_29 : decode cX1_turnRound 29 = .ok (.getfield 18, 3) := by decide +kernel
theorem dX1_turnRound_32 : decode cX1_turnRound 32 = .ok (.iload 4, 2) := by decide +kernel
theorem dX1_turnRound_34 : decode cX1_turnRound 34 = .ok (.laload, 1) := by decide +kernel
theorem dX1_turnRound_35 : decode cX1_turnRound 35 = .ok (.lastore, 1) := by decide +kernel
theorem dX1_turnRound_36 : decode cX1_turnRound 36 = .ok (.aload_n 0, 1) := by decide +kernel
theorem dX1_turnRound_37 : decode cX1_turnRound 37 = .ok (.getfield 18, 3) := by decide +kernel
theorem dX1_turnRound_40 : decode cX1_turnRound 40 = .ok (.iload 4, 2) := by decide +kernel
theorem dX1_turnRound_42 : decode cX1_turnRound 42 = .ok (.lload 5, 2) := by decide +kernel
theorem dX1_turnRound_44 : decode cX1_turnRound 44 = .ok (.lastore, 1) := by decide +kernel
theorem dX1_turnRound_45 : decode cX1_turnRound 45 = .ok (.iinc 3 1, 3) := by decide +kernel
theorem dX1_turnRound_48 : decode cX1_turnRound 48 = .ok (.iinc 4 (-1), 3) := by decide +kernel
theorem dX1_turnRound_51 : decode cX1_turnRound 51 = .ok (.goto (-42), 3) := by decide +kernel
theorem dX1_turnRound_54 : decode cX1_turnRound 54 = .ok (.return_, 1) := by decide +kernel
theorem dX1_leastFor_0 : decode cX1_leastFor 0 = .ok (.iload_n 0, 1) := by decide +kernel
theorem dX1_leastFor_1 : decode cX1_leastFor 1 = .ok (.istore_n 1, 1) := by decide +kernel
theorem dX1_leastFor_2 : decode cX1_leastFor 2 = .ok (.iconst 0, 1) := by decide +kernel
theorem dX1_leastFor_3 : decode cX1_leastFor 3 = .ok (.istore_n 2, 1) := by decide +kernel
theorem dX1_leastFor_4 : decode cX1_leastFor 4 = .ok (.iload_n 1, 1) := by decide +kernel
theorem dX1_leastFor_5 : decode cX1_leastFor 5 = .ok (.bipush 32, 2) := by decide +kernel
theorem dX1_leastFor_7 : decode cX1_leastFor 7 = .ok (.if_icmp .lt 16, 3) := by decide +kernel
theorem dX1_leastFor_10 : decode cX1_leastFor 10 = .ok (.iload_n 2, 1) := by decide +kernel
theorem dX1_leastFor_11 : decode cX1_leastFor 11 = .ok (.iload_n 1, 1) := by decide +kernel
theorem dX1_leastFor_12 : decode cX1_leastFor 12 = .ok (.iconst 1, 1) := by decide +kernel
theorem dX1_leastFor_13 : decode cX1_leastFor 13 = .ok (.iand, 1) := by decide +kernel
theorem dX1_leastFor_14 : decode cX1_leastFor 14 = .ok (.ior, 1) := by decide +kernel
theorem dX1_leastFor_15 : decode cX1_leastFor 15 = .ok (.istore_n 2, 1) := by decide +kernel
theorem dX1_leastFor_16 : decode cX1_leastFor 16 = .ok (.iload_n 1, 1) := by decide +kernel
theorem dX1_leastFor_17 : decode cX1_leastFor 17 = .ok (.iconst 1, 1) := by decide +kernel
theorem dX1_leastFor_18 : decode cX1_leastFor 18 = .ok (.ishr, 1) := by decide +kernel
theorem dX1_leastFor_19 : decode cX1_leastFor 19 = .ok (.istore_n 1, 1) := by decide +kernel
theorem dX1_leastFor_20 : decode cX1_leastFor 20 = .ok (.goto (-16), 3) := by decide +kernel
theorem dX1_leastFor_23 : decode cX1_leastFor 23 = .ok (.iload_n 1, 1) := by decide +kernel
theorem dX1_leastFor_24 : decode cX1_leastFor 24 = .ok (.iload_n 2, 1) := by decide +kernel
theorem dX1_leastFor_25 : decode cX1_leastFor 25 = .ok (.iadd, 1) := by decide +kernel
theorem dX1_leastFor_26 : decode cX1_leastFor 26 = .ok (.ireturn, 1) := by decide +kernel
set_option maxRecDepth 20000 in
theorem ggX1_makeRun_X1_findRun : GoodIn wsX1_makeRun wsX1_findRun := goodIn_r _ [13, 14, 15, 16, 12, 17, 1, 18, 19, 20, 21, 22, 23, 24, 25, 26, 27, 28, 29, 30, 31, 32, 33, 46, 47, 48, 49, 50, 51, 52, 53, 54] (by decide +kernel) (by decide +kernel)
set_option maxRecDepth 20000 in
theorem gX1_makeRun_X1_findRun : GoodIn wsX1_makeRun (wsV RX1 110 RX1 yX1_findRun wsX1_findRun) := goodIn_app (goodIn_of _ (by decide +kernel)) ggX1_makeRun_X1_findRun
set_option maxRecDepth 20000 in
theorem ggX1_makeRun_X1_insert : GoodIn wsX1_makeRun wsX1_insert := goodIn_r _ [37, 22, 38, 39, 40, 41, 23, 24, 12, 25, 42, 43, 44, 45, 46, 47, 48, 49, 50, 51, 52, 53, 54] (by decide +kernel) (by decide +kernel)
set_option maxRecDepth 20000 in
theorem gX1_makeRun_X1_insert : GoodIn wsX1_makeRun (wsV RX1 113 RX1 yX1_insert wsX1_insert) := goodIn_app (goodIn_of _ (by decide +kernel)) ggX1_makeRun_X1_insert
theorem dX1_makeRun_0 : decode cX1_makeRun 0 = .ok (.aload_n 0, 1) := by decide +kernel
theorem dX1_makeRun_1 : decode cX1_makeRun 1 = .ok (.iload_n 1, 1) := by decide +kernel
theorem dX1_makeRun_2 : decode cX1_makeRun 2 = .ok (.invokevirtual 110, 3) := by decide +kernel
theorem dX1_makeRun_5 : decode cX1_makeRun 5 = .ok (.istore_n 3, 1) := by decide +kernel
theorem dX1_makeRun_6 : decode cX1_makeRun 6 = .ok (.iload_n 3, 1) := by decide +kernel
theorem dX1_makeRun_7 : decode cX1_makeRun 7 = .ok (.iload_n 2, 1) := by decide +kernel
theorem dX1_makeRun_8 : decode cX1_makeRun 8 = .ok (.aload_n 0, 1) := by decide +kernel
theorem dX1_makeRun_9 : decode cX1_makeRun 9 = .ok (.getfield 38, 3) := by decide +kernel
theorem dX1_makeRun_12 : decode cX1_makeRun 12 = .ok (.iload_n 1, 1) := by decide +kernel
theorem dX1_makeRun_13 : decode cX1_makeRun 13 = .ok (.isub, 1) := by decide +kernel
theorem dX1_makeRun_14 : decode cX1_makeRun 14 = .ok (.invokestatic 9, 3) := by decide +kernel
theorem dX1_makeRun_17 : decode cX1_makeRun 17 = .ok (.invokestatic 15, 3) := by decide +kernel
theorem dX1_makeRun_20 : decode cX1_makeRun 20 = .ok (.istore 4, 2) := by decide +kernel
theorem dX1_makeRun_22 : decode cX1_makeRun 22 = .ok (.iload_n 1, 1) := by decide +kernel
theorem dX1_makeRun_23 : decode cX1_makeRun 23 = .ok (.iload_n 3, 1) := by decide +kernel
theorem dX1_makeRun_24 : decode cX1_makeRun 24 = .ok (.iadd, 1) := by decide +kernel
theorem dX1_makeRun_25 : decode cX1_makeRun 25 = .ok (.istore 5, 2) := by decide +kernel
theorem dX1_makeRun_27 : decode cX1_makeRun 27 = .ok (.iload 5, 2) := by decide +kernel
theorem dX1_makeRun_29 : decode cX1_makeRun 29 = .ok (.iload_n 1, 1) := by decide +kernel
theorem dX1_makeRun_30 : decode cX1_makeRun 30 = .ok (.iload 4, 2) := by decide +kernel
theorem dX1_makeRun_32 : decode cX1_makeRun 32 = .ok (.iadd, 1) := by decide +kernel
theorem dX1_makeRun_33 : decode cX1_makeRun 33 = .ok (.if_icmp .ge 16, 3) := by decide +kernel
theorem dX1_makeRun_36 : decode cX1_makeRun 36 = .ok (.aload_n 0, 1) := by decide +kernel
theorem dX1_makeRun_37 : decode cX1_makeRun 37 = .ok (.iload_n 1, 1) := by decide +kernel
theorem dX1_makeRun_38 : decode cX1_makeRun 38 = .ok (.iload 5, 2) := by decide +kernel
theorem dX1_makeRun_40 : decode cX1_makeRun 40 = .ok (.invokevirtual 113, 3) := by decide +kernel
theorem dX1_makeRun_43 : decode cX1_makeRun 43 = .ok (.iinc 5 1, 3) := by decide +kernel
theorem dX1_makeRun_46 : decode cX1_makeRun 46 = .ok (.goto (-19), 3) := by decide +kernel
theorem dX1_makeRun_49 : decode cX1_makeRun 49 = .ok (.iload 4, 2) := by decide +kernel
theorem dX1_makeRun_51 : decode cX1_makeRun 51 = .ok (.ireturn, 1) := by decide +kernel
set_option maxRecDepth 20000 in
theorem ggX1_findRun_X1_countFalling : GoodIn wsX1_findRun wsX1_countFalling := goodIn_r _ [5, 6, 7, 8, 9, 4, 10, 11, 12, 13, 14, 23, 24, 25, 26, 27, 28, 29, 30, 31] (by decide +kernel) (by decide +kernel)
set_option maxRecDepth 20000 in
theorem gX1_findRun_X1_countFalling : GoodIn wsX1_findRun (wsV RX1 116 RX1 yX1_countFalling wsX1_countFalling) := goodIn_app (goodIn_of _ (by decide +kernel)) ggX1_findRun_X1_countFalling
set_option maxRecDepth 20000 in
theorem ggX1_findRun_X1_countNotFalling : GoodIn wsX1_findRun wsX1_countNotFalling := goodIn_r _ [18, 6, 7, 8, 9, 4, 10, 11, 12, 13, 14, 23, 24, 25, 26, 27, 28, 29, 30, 31] (by decide +kernel) (by decide +kernel)
set_option maxRecDepth 20000 in
theorem gX1_findRun_X1_countNotFalling : GoodIn wsX1_findRun (wsV RX1 99 RX1 yX1_countNotFalling wsX1_countNotFalling) := goodIn_app (goodIn_of _ (by decide +kernel)) ggX1_findRun_X1_countNotFalling
set_option maxRecDepth 20000 in
theorem ggX1_findRun_X1_turnRound : GoodIn wsX1_findRun wsX1_turnRound := goodIn_r _ [22, 11, 23, 24, 25, 26, 27, 28, 29, 30, 31] (by decide +kernel) (by decide +kernel)
set_option maxRecDepth 20000 in
theorem gX1_findRun_X1_turnRound : GoodIn wsX1_findRun (wsV RX1 49 RX1 yX1_turnRound wsX1_turnRound) := goodIn_app (goodIn_of _ (by decide +kernel)) ggX1_findRun_X1_turnRound
theorem dX1_findRun_0 : decode cX1_findRun 0 = .ok (.aload_n 0, 1) := by decide +kernel
theorem dX1_findRun_1 : decode cX1_findRun 1 = .ok (.iload_n 1, 1) := by decide +kernel
theorem dX1_findRun_2 : decode cX1_findRun 2 = .ok (.invokevirtual 116, 3) := by decide +kernel
theorem dX1_findRun_5 : decode cX1_findRun 5 = .ok (.istore_n 2, 1) := by decide +kernel
theorem dX1_findRun_6 : decode cX1_findRun 6 = .ok (.iload_n 2, 1) := by decide +kernel
theorem dX1_findRun_7 : decode cX1_findRun 7 = .ok (.iconst 1, 1) := by decide +kernel
theorem dX1_findRun_8 : decode cX1_findRun 8 = .ok (.if_icmp .ne 9, 3) := by decide +kernel
theorem dX1_findRun_11 : decode cX1_findRun 11 = .ok (.aload_n 0, 1) := by decide +kernel
theorem dX1_findRun_12 : decode cX1_findRun 12 = .ok (.iload_n 1, 1) := by decide +kernel
theorem dX1_findRun_13 : decode cX1_findRun 13 = .ok (.invokevirtual 99, 3) := by decide +kernel
theorem dX1_findRun_16 : decode cX1_findRun 16 = .ok (.ireturn, 1) := by decide +kernel
theorem dX1_findRun_17 : decode cX1_findRun 17 = .ok (.aload_n 0, 1) := by decide +kernel
theorem dX1_findRun_18 : decode cX1_findRun 18 = .ok (.iload_n 1, 1) := by decide +kernel
theorem dX1_findRun_19 : decode cX1_findRun 19 = .ok (.iload_n 2, 1) := by decide +kernel
theorem dX1_findRun_20 : decode cX1_findRun 20 = .ok (.invokevirtual 49, 3) := by decide +kernel
theorem dX1_findRun_23 : decode cX1_findRun 23 = .ok (.iload_n 2, 1) := by decide +kernel
theorem dX1_findRun_24 : decode cX1_findRun 24 = .ok (.ireturn, 1) := by decide +kernel
set_option maxRecDepth 20000 in
theorem ggX1_insert_X1_keyOf : GoodIn wsX1_insert wsX1_keyOf := goodIn_r _ [9] (by decide +kernel) (by decide +kernel)
set_option maxRecDepth 20000 in
theorem gX1_insert_X1_keyOf : GoodIn wsX1_insert (va_wsS RX1 85 yX1_keyOf wsX1_keyOf) := goodIn_app (goodIn_of _ (by decide +kernel)) ggX1_insert_X1_keyOf
set_option maxRecDepth 20000 in
theorem ggX1_insert_X1_placeBehindEqualKeys : GoodIn wsX1_insert wsX1_placeBehindEqualKeys := goodIn_r _ [13, 1, 6, 7, 8, 9, 14, 15, 16, 17, 18, 19, 20, 21, 22] (by decide +kernel) (by decide +kernel)
set_option maxRecDepth 20000 in
theorem gX1_insert_X1_placeBehindEqualKeys : GoodIn wsX1_insert (wsV RX1 119 RX1 yX1_placeBehindEqualKeys wsX1_placeBehindEqualKeys) := goodIn_app (goodIn_of _ (by decide +kernel)) ggX1_insert_X1_placeBehindEqualKeys
theorem dX1_insert_0 : decode cX1_insert 0 = .ok (.aload_n 0, 1) := by decide +kernel
theorem dX1_insert_1 : decode cX1_insert 1 = .ok (.getfield 18, 3) := by decide +kernel
theorem dX1_insert_4 : decode cX1_insert 4 = .ok (.iload_n 2, 1) := by decide +kernel
theorem dX1_insert_5 : decode cX1_insert 5 = .ok (.laload, 1) := by decide +kernel
theorem dX1_insert_6 : decode cX1_insert 6 = .ok (.lstore_n 3, 1) := by decide +kernel
theorem dX1_insert_7 : decode cX1_insert 7 = .ok (.aload_n 0, 1) := by decide +kernel
theorem dX1_insert_8 : decode cX1_insert 8 = .ok (.iload_n 1, 1) := by decide +kernel
theorem dX1_insert_9 : decode cX1_insert 9 = .ok (.iload_n 2, 1) := by decide +kernel
theorem dX1_insert_10 : decode cX1_insert 10 = .ok (.lload_n 3, 1) := by decide +kernel
theorem dX1_insert_11 : decode cX1_insert 11 = .ok (.invokestatic 85, 3) := by decide +kernel
theorem dX1_insert_14 : decode cX1_insert 14 = .ok (.invokevirtual 119, 3) := by decide +kernel
theorem dX1_insert_17 : decode cX1_insert 17 = .ok (.istore 5, 2) := by decide +kernel
theorem dX1_insert_19 : decode cX1_insert 19 = .ok (.aload_n 0, 1) := by decide +kernel
theorem dX1_insert_20 : decode cX1_insert 20 = .ok (.getfield 18, 3) := by decide +kernel
theorem dX1_insert_23 : decode cX1_insert 23 = .ok (.iload 5, 2) := by decide +kernel
theorem dX1_insert_25 : decode cX1_insert 25 = .ok (.aload_n 0, 1) := by decide +kernel
theorem dX1_insert_26 : decode cX1_insert 26 = .ok (.getfield 18, 3) := by decide +kernel
theorem dX1_insert_29 : decode cX1_insert 29 = .ok (.iload 5, 2) := by decide +kernel
theorem dX1_insert_31 : decode cX1_insert 31 = .ok (.iconst 1, 1) := by decide +kernel
theorem dX1_insert_32 : decode cX1_insert 32 = .ok (.iadd, 1) := by decide +kernel
theorem dX1_insert_33 : decode cX1_insert 33 = .ok (.iload_n 2, 1) := by decide +kernel
theorem dX1_insert_34 : decode cX1_insert 34 = .ok (.iload 5, 2) := by decide +kernel
theorem dX1_insert_36 : decode cX1_insert 36 = .ok (.isub, 1) := by decide +kernel
theorem dX1_insert_37 : decode cX1_insert 37 = .ok (.invokestatic 123, 3) := by decide +kernel
theorem dX1_insert_40 : decode cX1_insert 40 = .ok (.aload_n 0, 1) := by decide +kernel
theorem dX1_insert_41 : decode cX1_insert 41 = .ok (.getfield 18, 3) := by decide +kernel
theorem dX1_insert_44 : decode cX1_insert 44 = .ok (.iload 5, 2) := by decide +kernel
theorem dX1_insert_46 : decode cX1_insert 46 = .ok (.lload_n 3, 1) := by decide +kernel
theorem dX1_insert_47 : decode cX1_insert 47 = .ok (.lastore, 1) := by decide +kernel
theorem dX1_insert_48 : decode cX1_insert 48 = .ok (.return_, 1) := by decide +kernel
set_option maxRecDepth 20000 in
theorem ggX1_placeBehindEqualKeys_X1_keyOf : GoodIn wsX1_placeBehindEqualKeys wsX1_keyOf := goodIn_r _ [5] (by decide +kernel) (by decide +kernel)
set_option maxRecDepth 20000 in
theorem gX1_placeBehindEqualKeys_X1_keyOf : GoodIn wsX1_placeBehindEqualKeys (va_wsS RX1 85 yX1_keyOf wsX1_keyOf) := goodIn_app (goodIn_of _ (by decide +kernel)) ggX1_placeBehindEqualKeys_X1_keyOf
theorem dX1_placeBehindEqualKeys_0 : decode cX1_placeBehindEqualKeys 0 = .ok (.iload_n 1, 1) := by decide +kernel
theorem dX1_placeBehindEqualKeys_1 : decode cX1_placeBehindEqualKeys 1 = .ok (.istore 4, 2) := by decide +kernel
theorem dX1_placeBehindEqualKeys_3 : decode cX1_placeBehindEqualKeys 3 = .ok (.iload_n 2, 1) := by decide +kernel
theorem dX1_placeBehindEqualKeys_4 : decode cX1_placeBehindEqualKeys 4 = .ok (.istore 5, 2) := by decide +kernel
theorem dX1_placeBehindEqualKeys_6 : decode cX1_placeBehindEqualKeys 6 = .ok (.iload 4, 2) := by decide +kernel
theorem dX1_placeBehindEqualKeys_8 : decode cX1_placeBehindEqualKeys 8 = .ok (.iload 5, 2) := by decide +kernel
theorem dX1_placeBehindEqualKeys_10 : decode cX1_placeBehindEqualKeys 10 = .ok (.if_icmp .ge 42, 3) := by decide +kernel
theorem dX1_placeBehindEqualKeys_13 : decode cX1_placeBehindEqualKeys 13 = .ok (.iload 4, 2) := by decide +kernel
theorem dX1_placeBehindEqualKeys_15 : decode cX1_placeBehindEqualKeys 15 = .ok (.iload 5, 2) := by decide +kernel
theorem dX1_placeBehindEqualKeys_17 : decode cX1_placeBehindEqualKeys 17 = .ok (.iadd, 1) := by decide +kernel
theorem dX1_placeBehindEqualKeys_18 : decode cX1_placeBehindEqualKeys 18 = .ok (.iconst 1, 1) := by decide +kernel
theorem dX1_placeBehindEqualKeys_19 : decode cX1_placeBehindEqualKeys 19 = .ok (.iushr, 1) := by decide +kernel
theorem dX1_placeBehindEqualKeys_20 : decode cX1_placeBehindEqualKeys 20 = .ok (.istore 6, 2) := by decide +kernel
theorem dX1_placeBehindEqualKeys_22 : decode cX1_placeBehindEqualKeys 22 = .ok (.iload_n 3, 1) := by decide +kernel
theorem dX1_placeBehindEqualKeys_23 : decode cX1_placeBehindEqualKeys 23 = .ok (.aload_n 0, 1) := by decide +kernel
theorem dX1_placeBehindEqualKeys_24 : decode cX1_placeBehindEqualKeys 24 = .ok (.getfield 18, 3) := by decide +kernel
theorem dX1_placeBehindEqualKeys_27 : decode cX1_placeBehindEqualKeys 27 = .ok (.iload 6, 2) := by decide +kernel
theorem dX1_placeBehindEqualKeys_29 : decode cX1_placeBehindEqualKeys 29 = .ok (.laload, 1) := by decide +kernel
theorem dX1_placeBehindEqualKeys_30 : decode cX1_placeBehindEqualKeys 30 = .ok (.invokestatic 85, 3) := by decide +kernel
theorem dX1_placeBehindEqualKeys_33 : decode cX1_placeBehindEqualKeys 33 = .ok (.if_icmp .ge 10, 3) := by decide +kernel
theorem dX1_placeBehindEqualKeys_36 : decode cX1_placeBehindEqualKeys 36 = .ok (.iload 6, 2) := by decide +kernel
theorem dX1_placeBehindEqualKeys_38 : decode cX1_placeBehindEqualKeys 38 = .ok (.istore 5, 2) := by decide +kernel
theorem dX1_placeBehindEqualKeys_40 : decode cX1_placeBehindEqualKeys 40 = .ok (.goto 9, 3) := by decide +kernel
theorem dX1_placeBehindEqualKeys_43 : decode cX1_placeBehindEqualKeys 43 = .ok (.iload 6, 2) := by decide +kernel
theorem dX1_placeBehindEqualKeys_45 : decode cX1_placeBehindEqualKeys 45 = .ok (.iconst 1, 1) := by decide +kernel
theorem dX1_placeBehindEqualKeys_46 : decode cX1_placeBehindEqualKeys 46 = .ok (.iadd, 1) := by decide +kernel
theorem dX1_placeBehindEqualKeys_47 : decode cX1_placeBehindEqualKeys 47 = .ok (.istore 4, 2) := by decide +kernel
theorem dX1_placeBehindEqualKeys_49 : decode cX1_placeBehindEqualKeys 49 = .ok (.goto (-43), 3) := by decide +kernel
theorem dX1_placeBehindEqualKeys_52 : decode cX1_placeBehindEqualKeys 52 = .ok (.iload 4, 2) := by decide +kernel
theorem dX1_placeBehindEqualKeys_54 : decode cX1_placeBehindEqualKeys 54 = .ok (.ireturn, 1) := by decide +kernel
set_option maxRecDepth 20000 in
theorem ggX1_bringInOrder_X0_isTooFlat : GoodIn wsX1_bringInOrder wsX0_isTooFlat := goodIn_r _ [5, 6, 7, 8, 9, 3, 10, 11, 55, 56, 57, 58] (by decide +kernel) (by decide +kernel)
set_option maxRecDepth 20000 in
theorem gX1_bringInOrder_X0_isTooFlat_n132 : GoodIn wsX1_bringInOrder (wsX0_isTooFlat) := ggX1_bringInOrder_X0_isTooFlat
set_option maxRecDepth 20000 in
theorem ggX1_bringInOrder_X0_placeBelowShorterNeighbour : GoodIn wsX1_bringInOrder wsX0_placeBelowShorterNeighbour := goodIn_r _ [14, 6, 7, 8, 9, 3, 10, 11, 55, 56, 57, 58] (by decide +kernel) (by decide +kernel)
set_option maxRecDepth 20000 in
theorem gX1_bringInOrder_X0_placeBelowShorterNeighbour_n136 : GoodIn wsX1_bringInOrder (wsX0_placeBelowShorterNeighbour) := ggX1_bringInOrder_X0_placeBelowShorterNeighbour
set_option maxRecDepth 20000 in
theorem ggX1_bringInOrder_X1_mergeAt : GoodIn wsX1_bringInOrder wsX1_mergeAt := goodIn_r _ [19, 1, 20, 21, 22, 23, 24, 18, 25, 26, 27, 28, 29, 30, 31, 32, 33, 34, 35, 36, 37, 38, 39, 3, 40, 41, 11, 6, 42, 46, 47, 48, 49, 50, 51, 52, 53, 54, 55, 56, 57, 58] (by decide +kernel) (by decide +kernel)
set_option maxRecDepth 20000 in
theorem gX1_bringInOrder_X1_mergeAt : GoodIn wsX1_bringInOrder (wsV RX1 140 RX1 yX1_mergeAt wsX1_mergeAt) := goodIn_app (goodIn_of _ (by decide +kernel)) ggX1_bringInOrder_X1_mergeAt
set_option maxRecDepth 20000 in
theorem ggX1_bringInOrder_X0_isTopTooLong : GoodIn wsX1_bringInOrder wsX0_isTopTooLong := goodIn_r _ [45, 6, 7, 8, 9, 3, 10, 11, 55, 56, 57, 58] (by decide +kernel) (by decide +kernel)
set_option maxRecDepth 20000 in
theorem gX1_bringInOrder_X0_isTopTooLong_n143 : GoodIn wsX1_bringInOrder (wsX0_isTopTooLong) := ggX1_bringInOrder_X0_isTopTooLong
theorem dX1_bringInOrder_0 : decode cX1_bringInOrder 0 = .ok (.aload_n 0, 1) := by decide +kernel
theorem dX1_bringInOrder_1 : decode cX1_bringInOrder 1 = .ok (.getfield 30, 3) := by decide +kernel
theorem dX1_bringInOrder_4 : decode cX1_bringInOrder 4 = .ok (.getfield 129, 3) := by decide +kernel
theorem dX1_bringInOrder_7 : decode cX1_bringInOrder 7 = .ok (.istore_n 1, 1) := by decide +kernel
theorem dX1_bringInOrder_8 : decode cX1_bringInOrder 8 = .ok (.iload_n 1, 1) := by decide +kernel
theorem dX1_bringInOrder_9 : decode cX1_bringInOrder 9 = .ok (.iconst 2, 1) := by decide +kernel
theorem dX1_bringInOrder_10 : decode cX1_bringInOrder 10 = .ok (.if_icmp .lt 60, 3) := by decide +kernel
theorem dX1_bringInOrder_13 : decode cX1_bringInOrder 13 = .ok (.aload_n 0, 1) := by decide +kernel
theorem dX1_bringInOrder_14 : decode cX1_bringInOrder 14 = .ok (.getfield 30, 3) := by decide +kernel
theorem dX1_bringInOrder_17 : decode cX1_bringInOrder 17 = .ok (.invokevirtual 132, 3) := by decide +kernel
theorem dX1_bringInOrder_20 : decode cX1_bringInOrder 20 = .ok (.ifCond .eq 17, 3) := by decide +kernel
theorem dX1_bringInOrder_23 : decode cX1_bringInOrder 23 = .ok (.aload_n 0, 1) := by decide +kernel
theorem dX1_bringInOrder_24 : decode cX1_bringInOrder 24 = .ok (.aload_n 0, 1) := by decide +kernel
theorem dX1_bringInOrder_25 : decode cX1_bringInOrder 25 = .ok (.getfield 30, 3) := by decide +kernel
theorem dX1_bringInOrder_28 : decode cX1_bringInOrder 28 = .ok (.invokevirtual 136, 3) := by decide +kernel
theorem dX1_bringInOrder_31 : decode cX1_bringInOrder 31 = .ok (.invokevirtual 140, 3) := by decide +kernel
theorem dX1_bringInOrder_34 : decode cX1_bringInOrder 34 = .ok (.goto 30, 3) := by decide +kernel
theorem dX1_bringInOrder_37 : decode cX1_bringInOrder 37 = .ok (.aload_n 0, 1) := by decide +kernel
theorem dX1_bringInOrder_38 : decode cX1_bringInOrder 38 = .ok (.getfield 30, 3) := by decide +kernel
theorem dX1_bringInOrder_41 : decode cX1_bringInOrder 41 = .ok (.invokevirtual 143, 3) := by decide +kernel
theorem dX1_bringInOrder_44 : decode cX1_bringInOrder 44 = .ok (.ifCond .eq 19, 3) := by decide +kernel
theorem dX1_bringInOrder_47 : decode cX1_bringInOrder 47 = .ok (.aload_n 0, 1) := by decide +kernel
theorem dX1_bringInOrder_48 : decode cX1_bringInOrder 48 = .ok (.aload_n 0, 1) := by decide +kernel
theorem dX1_bringInOrder_49 : decode cX1_bringInOrder 49 = .ok (.getfield 30, 3) := by decide +kernel
theorem dX1_bringInOrder_52 : decode cX1_bringInOrder 52 = .ok (.getfield 129, 3) := by decide +kernel
theorem dX1_bringInOrder_55 : decode cX1_bringInOrder 55 = .ok (.iconst 2, 1) := by decide +kernel
theorem dX1_bringInOrder_56 : decode cX1_bringInOrder 56 = .ok (.isub, 1) := by decide +kernel
theorem dX1_bringInOrder_57 : decode cX1_bringInOrder 57 = .ok (.invokevirtual 140, 3) := by decide +kernel
theorem dX1_bringInOrder_60 : decode cX1_bringInOrder 60 = .ok (.goto 4, 3) := by decide +kernel
theorem dX1_bringInOrder_63 : decode cX1_bringInOrder 63 = .ok (.return_, 1) := by decide +kernel
theorem dX1_bringInOrder_64 : decode cX1_bringInOrder 64 = .ok (.iinc 1 (-1), 3) := by decide +kernel
theorem dX1_bringInOrder_67 : decode cX1_bringInOrder 67 = .ok (.goto (-59), 3) := by decide +kernel
theorem dX1_bringInOrder_70 : decode cX1_bringInOrder 70 = .ok (.return_, 1) := by decide +kernel
set_option maxRecDepth 20000 in
theorem ggX1_mergeWhatIsLeft_X0_placeBelowShorterNeighbour : GoodIn wsX1_mergeWhatIsLeft wsX0_placeBelowShorterNeighbour := goodIn_r _ [5, 6, 7, 8, 9, 3, 10, 11, 49, 50, 51, 52] (by decide +kernel) (by decide +kernel)
set_option maxRecDepth 20000 in
theorem gX1_mergeWhatIsLeft_X0_placeBelowShorterNeighbour_n136 : GoodIn wsX1_mergeWhatIsLeft (wsX0_placeBelowShorterNeighbour) := ggX1_mergeWhatIsLeft_X0_placeBelowShorterNeighbour
set_option maxRecDepth 20000 in
theorem ggX1_mergeWhatIsLeft_X1_mergeAt : GoodIn wsX1_mergeWhatIsLeft wsX1_mergeAt := goodIn_r _ [16, 1, 17, 18, 19, 20, 21, 15, 22, 23, 24, 25, 26, 27, 28, 29, 30, 31, 32, 33, 34, 35, 36, 3, 37, 38, 11, 6, 39, 40, 41, 42, 43, 44, 45, 46, 47, 48, 49, 50, 51, 52] (by decide +kernel) (by decide +kernel)
set_option maxRecDepth 20000 in
theorem gX1_mergeWhatIsLeft_X1_mergeAt : GoodIn wsX1_mergeWhatIsLeft (wsV RX1 140 RX1 yX1_mergeAt wsX1_mergeAt) := goodIn_app (goodIn_of _ (by decide +kernel)) ggX1_mergeWhatIsLeft_X1_mergeAt
theorem dX1_mergeWhatIsLeft_0 : decode cX1_mergeWhatIsLeft 0 = .ok (.aload_n 0, 1) := by decide +kernel
theorem dX1_mergeWhatIsLeft_1 : decode cX1_mergeWhatIsLeft 1 = .ok (.getfield 30, 3) := by decide +kernel
theorem dX1_mergeWhatIsLeft_4 : decode cX1_mergeWhatIsLeft 4 = .ok (.getfield 129, 3) := by decide +kernel
theorem dX1_mergeWhatIsLeft_7 : decode cX1_mergeWhatIsLeft 7 = .ok (.istore_n 1, 1) := by decide +kernel
theorem dX1_mergeWhatIsLeft_8 : decode cX1_mergeWhatIsLeft 8 = .ok (.iload_n 1, 1) := by decide +kernel
theorem dX1_mergeWhatIsLeft_9 : decode cX1_mergeWhatIsLeft 9 = .ok (.iconst 2, 1) := by decide +kernel
theorem dX1_mergeWhatIsLeft_10 : decode cX1_mergeWhatIsLeft 10 = .ok (.if_icmp .lt 20, 3) := by decide +kernel
theorem dX1_mergeWhatIsLeft_13 : decode cX1_mergeWhatIsLeft 13 = .ok (.aload_n 0, 1) := by decide +kernel
theorem dX1_mergeWhatIsLeft_14 : decode cX1_mergeWhatIsLeft 14 = .ok (.aload_n 0, 1) := by decide +kernel
theorem dX1_mergeWhatIsLeft_15 : decode cX1_mergeWhatIsLeft 15 = .ok (.getfield 30, 3) := by decide +kernel
theorem dX1_mergeWhatIsLeft_18 : decode cX1_mergeWhatIsLeft 18 = .ok (.invokevirtual 136, 3) := by decide +kernel
theorem dX1_mergeWhatIsLeft_21 : decode cX1_mergeWhatIsLeft 21 = .ok (.invokevirtual 140, 3) := by decide +kernel
theorem dX1_mergeWhatIsLeft_24 : decode cX1_mergeWhatIsLeft 24 = .ok (.iinc 1 (-1), 3) := by decide +kernel
theorem dX1_mergeWhatIsLeft_27 : decode cX1_mergeWhatIsLeft 27 = .ok (.goto (-19), 3) := by decide +kernel
theorem dX1_mergeWhatIsLeft_30 : decode cX1_mergeWhatIsLeft 30 = .ok (.return_, 1) := by decide +kernel
set_option maxRecDepth 20000 in
theorem ggX1_mergeAt_X1_mergeForward : GoodIn wsX1_mergeAt wsX1_mergeForward := goodIn_r _ [8, 9, 10, 11, 12, 13, 14, 15, 16, 7, 17, 29, 30, 31, 32, 33, 34, 35, 36, 37] (by decide +kernel) (by decide +kernel)
set_option maxRecDepth 20000 in
theorem gX1_mergeAt_X1_mergeForward : GoodIn wsX1_mergeAt (wsV RX1 152 RX1 yX1_mergeForward wsX1_mergeForward) := goodIn_app (goodIn_of _ (by decide +kernel)) ggX1_mergeAt_X1_mergeForward
set_option maxRecDepth 20000 in
theorem ggX1_mergeAt_X1_mergeBackward : GoodIn wsX1_mergeAt wsX1_mergeBackward := goodIn_r _ [21, 9, 10, 11, 12, 13, 14, 15, 16, 7, 17, 29, 30, 31, 32, 33, 34, 35, 36, 37] (by decide +kernel) (by decide +kernel)
set_option maxRecDepth 20000 in
theorem gX1_mergeAt_X1_mergeBackward : GoodIn wsX1_mergeAt (wsV RX1 156 RX1 yX1_mergeBackward wsX1_mergeBackward) := goodIn_app (goodIn_of _ (by decide +kernel)) ggX1_mergeAt_X1_mergeBackward
set_option maxRecDepth 20000 in
theorem ggX1_mergeAt_X0_join : GoodIn wsX1_mergeAt wsX0_join := goodIn_r _ [25, 26, 27, 28, 38, 39, 40, 41] (by decide +kernel) (by decide +kernel)
set_option maxRecDepth 20000 in
theorem gX1_mergeAt_X0_join_n159 : GoodIn wsX1_mergeAt (wsX0_join) := ggX1_mergeAt_X0_join
theorem dX1_mergeAt_0 : decode cX1_mergeAt 0 = .ok (.aload_n 0, 1) := by decide +kernel
theorem dX1_mergeAt_1 : decode cX1_mergeAt 1 = .ok (.getfield 30, 3) := by decide +kernel
theorem dX1_mergeAt_4 : decode cX1_mergeAt 4 = .ok (.getfield 146, 3) := by decide +kernel
theorem dX1_mergeAt_7 : decode cX1_mergeAt 7 = .ok (.iload_n 1, 1) := by decide +kernel
theorem dX1_mergeAt_8 : decode cX1_mergeAt 8 = .ok (.iaload, 1) := by decide +kernel
theorem dX1_mergeAt_9 : decode cX1_mergeAt 9 = .ok (.istore_n 2, 1) := by decide +kernel
theorem dX1_mergeAt_10 : decode cX1_mergeAt 10 = .ok (.aload_n 0, 1) := by decide +kernel
theorem dX1_mergeAt_11 : decode cX1_mergeAt 11 = .ok (.getfield 30, 3) := by decide +kernel
theorem dX1_mergeAt_14 : decode cX1_mergeAt 14 = .ok (.getfield 146, 3) := by decide +kernel
theorem dX1_mergeAt_17 : decode cX1_mergeAt 17 = .ok (.iload_n 1, 1) := by decide +kernel
theorem dX1_mergeAt_18 : decode cX1_mergeAt 18 = .ok (.iconst 1, 1) := by decide +kernel
theorem dX1_mergeAt_19 : decode cX1_mergeAt 19 = .ok (.iadd, 1) := by decide +kernel
theorem dX1_mergeAt_20 : decode cX1_mergeAt 20 = .ok (.iaload, 1) := by decide +kernel
theorem dX1_mergeAt_21 : decode cX1_mergeAt 21 = .ok (.istore_n 3, 1) := by decide +kernel
theorem dX1_mergeAt_22 : decode cX1_mergeAt 22 = .ok (.iload_n 3, 1) := by decide +kernel
theorem dX1_mergeAt_23 : decode cX1_mergeAt 23 = .ok (.aload_n 0, 1) := by decide +kernel
theorem dX1_mergeAt_24 : decode cX1_mergeAt 24 = .ok (.getfield 30, 3) := by decide +kernel
theorem dX1_mergeAt_27 : decode cX1_mergeAt 27 = .ok (.getfield 149, 3) := by decide +kernel
theorem dX1_mergeAt_30 : decode cX1_mergeAt 30 = .ok (.iload_n 1, 1) := by decide +kernel
theorem dX1_mergeAt_31 : decode cX1_mergeAt 31 = .ok (.iconst 1, 1) := by decide +kernel
theorem dX1_mergeAt_32 : decode cX1_mergeAt 32 = .ok (.iadd, 1) := by decide +kernel
theorem dX1_mergeAt_33 : decode cX1_mergeAt 33 = .ok (.iaload, 1) := by decide +kernel
theorem dX1_mergeAt_34 : decode cX1_mergeAt 34 = .ok (.iadd, 1) := by decide +kernel
theorem dX1_mergeAt_35 : decode cX1_mergeAt 35 = .ok (.istore 4, 2) := by decide +kernel
theorem dX1_mergeAt_37 : decode cX1_mergeAt 37 = .ok (.iload_n 3, 1) := by decide +kernel
theorem dX1_mergeAt_38 : decode cX1_mergeAt 38 = .ok (.iload_n 2, 1) := by decide +kernel
theorem dX1_mergeAt_39 : decode cX1_mergeAt 39 = .ok (.isub, 1) := by decide +kernel
theorem dX1_mergeAt_40 : decode cX1_mergeAt 40 = .ok (.iload 4, 2) := by decide +kernel
theorem dX1_mergeAt_42 : decode cX1_mergeAt 42 = .ok (.iload_n 3, 1) := by decide +kernel
theorem dX1_mergeAt_43 : decode cX1_mergeAt 43 = .ok (.isub, 1) := by decide +kernel
theorem dX1_mergeAt_44 : decode cX1_mergeAt 44 = .ok (.if_icmp .gt 14, 3) := by decide +kernel
theorem dX1_mergeAt_47 : decode cX1_mergeAt 47 = .ok (.aload_n 0, 1) := by decide +kernel
theorem dX1_mergeAt_48 : decode cX1_mergeAt 48 = .ok (.iload_n 2, 1) := by decide +kernel
theorem dX1_mergeAt_49 : decode cX1_mergeAt 49 = .ok (.iload_n 3, 1) := by decide +kernel
theorem dX1_mergeAt_50 : decode cX1_mergeAt 50 = .ok (.iload 4, 2) := by decide +kernel
theorem dX1_mergeAt_52 : decode cX1_mergeAt 52 = .ok (.invokevirtual 152, 3) := by decide +kernel
theorem dX1_mergeAt_55 : decode cX1_mergeAt 55 = .ok (.goto 11, 3) := by decide +kernel
theorem dX1_mergeAt_58 : decode cX1_mergeAt 58 = .ok (.aload_n 0, 1) := by decide +kernel
theorem dX1_mergeAt_59 : decode cX1_mergeAt 59 = .ok (.iload_n 2, 1) := by decide +kernel
theorem dX1_mergeAt_60 : decode cX1_mergeAt 60 = .ok (.iload_n 3, 1) := by decide +kernel
theorem dX1_mergeAt_61 : decode cX1_mergeAt 61 = .ok (.iload 4, 2) := by decide +kernel
theorem dX1_mergeAt_63 : decode cX1_mergeAt 63 = .ok (.invokevirtual 156, 3) := by decide +kernel
theorem dX1_mergeAt_66 : decode cX1_mergeAt 66 = .ok (.aload_n 0, 1) := by decide +kernel
theorem dX1_mergeAt_67 : decode cX1_mergeAt 67 = .ok (.getfield 30, 3) := by decide +kernel
theorem dX1_mergeAt_70 : decode cX1_mergeAt 70 = .ok (.iload_n 1, 1) := by decide +kernel
theorem dX1_mergeAt_71 : decode cX1_mergeAt 71 = .ok (.invokevirtual 159, 3) := by decide +kernel
theorem dX1_mergeAt_74 : decode cX1_mergeAt 74 = .ok (.aload_n 0, 1) := by decide +kernel
theorem dX1_mergeAt_75 : decode cX1_mergeAt 75 = .ok (.dup, 1) := by decide +kernel
theorem dX1_mergeAt_76 : decode cX1_mergeAt 76 = .ok (.getfield 92, 3) := by decide +kernel
theorem dX1_mergeAt_79 : decode cX1_mergeAt 79 = .ok (.iconst 1, 1) := by decide +kernel
theorem dX1_mergeAt_80 : decode cX1_mergeAt 80 = .ok (.iadd, 1) := by decide +kernel
theorem dX1_mergeAt_81 : decode cX1_mergeAt 81 = .ok (.putfield 92, 3) := by decide +kernel
theorem dX1_mergeAt_84 : decode cX1_mergeAt 84 = .ok (.aload_n 0, 1) := by decide +kernel
theorem dX1_mergeAt_85 : decode cX1_mergeAt 85 = .ok (.dup, 1) := by decide +kernel
theorem dX1_mergeAt_86 : decode cX1_mergeAt 86 = .ok (.getfield 95, 3) := by decide +kernel
theorem dX1_mergeAt_89 : decode cX1_mergeAt 89 = .ok (.iload 4, 2) := by decide +kernel
theorem dX1_mergeAt_91 : decode cX1_mergeAt 91 = .ok (.iload_n 2, 1) := by decide +kernel
theorem dX1_mergeAt_92 : decode cX1_mergeAt 92 = .ok (.isub, 1) := by decide +kernel
theorem dX1_mergeAt_93 : decode cX1_mergeAt 93 = .ok (.i2l, 1) := by decide +kernel
theorem dX1_mergeAt_94 : decode cX1_mergeAt 94 = .ok (.ladd, 1) := by decide +kernel
theorem dX1_mergeAt_95 : decode cX1_mergeAt 95 = .ok (.putfield 95, 3) := by decide +kernel
theorem dX1_mergeAt_98 : decode cX1_mergeAt 98 = .ok (.return_, 1) := by decide +kernel
set_option maxRecDepth 20000 in
theorem ggX1_mergeForward_X1_keyOf : GoodIn wsX1_mergeForward wsX1_keyOf := goodIn_r _ [10] (by decide +kernel) (by decide +kernel)
set_option maxRecDepth 20000 in
theorem gX1_mergeForward_X1_keyOf : GoodIn wsX1_mergeForward (va_wsS RX1 85 yX1_keyOf wsX1_keyOf) := goodIn_app (goodIn_of _ (by decide +kernel)) ggX1_mergeForward_X1_keyOf
theorem dX1_mergeForward_0 : decode cX1_mergeForward 0 = .ok (.iload_n 2, 1) := by decide +kernel
theorem dX1_mergeForward_1 : decode cX1_mergeForward 1 = .ok (.iload_n 1, 1) := by decide +kernel
theorem dX1_mergeForward_2 : decode cX1_mergeForward 2 = .ok (.isub, 1) := by decide +kernel
theorem dX1_mergeForward_3 : decode cX1_mergeForward 3 = .ok (.istore 4, 2) := by decide +kernel
theorem dX1_mergeForward_5 : decode cX1_mergeForward 5 = .ok (.aload_n 0, 1) := by decide +kernel
theorem dX1_mergeForward_6 : decode cX1_mergeForward 6 = .ok (.getfield 18, 3) := by decide +kernel
theorem dX1_mergeForward_9 : decode cX1_mergeForward 9 = .ok (.iload_n 1, 1) := by decide +kernel
theorem dX1_mergeForward_10 : decode cX1_mergeForward 10 = .ok (.aload_n 0, 1) := by decide +kernel
theorem dX1_mergeForward_11 : decode cX1_mergeForward 11 = .ok (.getfield 22, 3) := by decide +kernel
theorem dX1_mergeForward_14 : decode cX1_mergeForward 14 = .ok (.iconst 0, 1) := by decide +kernel
theorem dX1_mergeForward_15 : decode cX1_mergeForward 15 = .ok (.iload 4, 2) := by decide +kernel
theorem dX1_mergeForward_17 : decode cX1_mergeForward 17 = .ok (.invokestatic 123, 3) := by decide +kernel
theorem dX1_mergeForward_20 : decode cX1_mergeForward 20 = .ok (.iconst 0, 1) := by decide +kernel
theorem dX1_mergeForward_21 : decode cX1_mergeForward 21 = .ok (.istore 5, 2) := by decide +kernel
theorem dX1_mergeForward_23 : decode cX1_mergeForward 23 = .ok (.iload_n 2, 1) := by decide +kernel
theorem dX1_mergeForward_24 : decode cX1_mergeForward 24 = .ok (.istore 6, 2) := by decide +kernel
theorem dX1_mergeForward_26 : decode cX1_mergeForward 26 = .ok (.iload_n 1, 1) := by decide +kernel
theorem dX1_mergeForward_27 : decode cX1_mergeForward 27 = .ok (.istore 7, 2) := by decide +kernel
theorem dX1_mergeForward_29 : decode cX1_mergeForward 29 = .ok (.iload 5, 2) := by decide +kernel
theorem dX1_mergeForward_31 : decode cX1_mergeForward 31 = .ok (.iload 4, 2) := by decide +kernel
theorem dX1_mergeForward_33 : decode cX1_mergeForward 33 = .ok (.if_icmp .ge 75, 3) := by decide +kernel
theorem dX1_mergeForward_36 : decode cX1_mergeForward 36 = .ok (.iload 6, 2) := by decide +kernel
theorem dX1_mergeForward_38 : decode cX1_mergeForward 38 = .ok (.iload_n 3, 1) := by decide +kernel
theorem dX1_mergeForward_39 : decode cX1_mergeForward 39 = .ok (.if_icmp .ge 69, 3) := by decide +kernel
theorem dX1_mergeForward_42 : decode cX1_mergeForward 42 = .ok (.aload_n 0, 1) := by decide +kernel
theorem dX1_mergeForward_43 : decode cX1_mergeForward 43 = .ok (.getfield 18, 3) := by decide +kernel
theorem dX1_mergeForward_46 : decode cX1_mergeForward 46 = .ok (.iload 6, 2) := by decide +kernel
theorem dX1_mergeForward_48 : decode cX1_mergeForward 48 = .ok (.laload, 1) := by decide +kernel
theorem dX1_mergeForward_49 : decode cX1_mergeForward 49 = .ok (.invokestatic 85, 3) := by decide +kernel
theorem dX1_mergeForward_52 : decode cX1_mergeForward 52 = .ok (.aload_n 0, 1) := by decide +kernel
theorem dX1_mergeForward_53 : decode cX1_mergeForward 53 = .ok (.getfield 22, 3) := by decide +kernel
theorem dX1_mergeForward_56 : decode cX1_mergeForward 56 = .ok (.iload 5, 2) := by decide +kernel
theorem dX1_mergeForward_58 : decode cX1_mergeForward 58 = .ok (.laload, 1) := by decide +kernel
theorem dX1_mergeForward_59 : decode cX1_mergeForward 59 = .ok (.invokestatic 85, 3) := by decide +kernel
theorem dX1_mergeForward_62 : decode cX1_mergeForward 62 = .ok (.if_icmp .ge 23, 3) := by decide +kernel
theorem dX1_mergeForward_65 : decode cX1_mergeForward 65 = .ok (.aload_n 0, 1) := by decide +kernel
theorem dX1_mergeForward_66 : decode cX1_mergeForward 66 = .ok (.getfield 18, 3) := by decide +kernel
theorem dX1_mergeForward_69 : decode cX1_mergeForward 69 = .ok (.iload 7, 2) := by decide +kernel
theorem dX1_mergeForward_71 : decode cX1_mergeForward 71 = .ok (.aload_n 0, 1) := by decide +kernel
theorem dX1_mergeForward_72 : decode cX1_mergeForward 72 = .ok (.getfield 18, 3) := by decide +kernel
theorem dX1_mergeForward_75 : decode cX1_mergeForward 75 = .ok (.iload 6, 2) := by decide +kernel
theorem dX1_mergeForward_77 : decode cX1_mergeForward 77 = .ok (.laload, 1) := by decide +kernel
theorem dX1_mergeForward_78 : decode cX1_mergeForward 78 = .ok (.lastore, 1) := by decide +kernel
theorem dX1_mergeForward_79 : decode cX1_mergeForward 79 = .ok (.iinc 6 1, 3) := by decide +kernel
theorem dX1_mergeForward_82 : decode cX1_mergeForward 82 = .ok (.goto 20, 3) := by decide +kernel
theorem dX1_mergeForward_85 : decode cX1_mergeForward 85 = .ok (.aload_n 0, 1) := by decide +kernel
theorem dX1_mergeForward_86 : decode cX1_mergeForward 86 = .ok (.getfield 18, 3) := by decide +kernel
theorem dX1_mergeForward_89 : decode cX1_mergeForward 89 = .ok (.iload 7, 2) := by decide +kernel
theorem dX1_mergeForward_91 : decode cX1_mergeForward 91 = .ok (.aload_n 0, 1) := by decide +kernel
theorem dX1_mergeForward_92 : decode cX1_mergeForward 92 = .ok (.getfield 22, 3) := by decide +kernel
theorem dX1_mergeForward_95 : decode cX1_mergeForward 95 = .ok (.iload 5, 2) := by decide +kernel
theorem dX1_mergeForward_97 : decode cX1_mergeForward 97 = .ok (.laload, 1) := by decide +kernel
theorem dX1_mergeForward_98 : decode cX1_mergeForward 98 = .ok (.lastore, 1) := by decide +kernel
theorem dX1_mergeForward_99 : decode cX1_mergeForward 99 = .ok (.iinc 5 1, 3) := by decide +kernel
theorem dX1_mergeForward_102 : decode cX1_mergeForward 102 = .ok (.iinc 7 1, 3) := by decide +kernel
theorem dX1_mergeForward_105 : decode cX1_mergeForward 105 = .ok (.goto (-76), 3) := by decide +kernel
theorem dX1_mergeForward_108 : decode cX1_mergeForward 108 = .ok (.aload_n 0, 1) := by decide +kernel
theorem dX1_mergeForward_109 : decode cX1_mergeForward 109 = .ok (.getfield 22, 3) := by decide +kernel
theorem dX1_mergeForward_112 : decode cX1_mergeForward 112 = .ok (.iload 5, 2) := by decide +kernel
theorem dX1_mergeForward_114 : decode cX1_mergeForward 114 = .ok (.aload_n 0, 1) := by decide +kernel
theorem dX1_mergeForward_115 : decode cX1_mergeForward 115 = .ok (.getfield 18, 3) := by decide +kernel
theorem dX1_mergeForward_118 : decode cX1_mergeForward 118 = .ok (.iload 7, 2) := by decide +kernel
theorem dX1_mergeForward_120 : decode cX1_mergeForward 120 = .ok (.iload 4, 2) := by decide +kernel
theorem dX1_mergeForward_122 : decode cX1_mergeForward 122 = .ok (.iload 5, 2) := by decide +kernel
theorem dX1_mergeForward_124 : decode cX1_mergeForward 124 = .ok (.isub, 1) := by decide +kernel
theorem dX1_mergeForward_125 : decode cX1_mergeForward 125 = .ok (.invokestatic 123, 3) := by decide +kernel
theorem dX1_mergeForward_128 : decode cX1_mergeForward 128 = .ok (.return_, 1) := by decide +kernel
set_option maxRecDepth 20000 in
theorem ggX1_mergeBackward_X1_keyOf : GoodIn wsX1_mergeBackward wsX1_keyOf := goodIn_r _ [10] (by decide +kernel) (by decide +kernel)
set_option maxRecDepth 20000 in
theorem gX1_mergeBackward_X1_keyOf : GoodIn wsX1_mergeBackward (va_wsS RX1 85 yX1_keyOf wsX1_keyOf) := goodIn_app (goodIn_of _ (by decide +kernel)) ggX1_mergeBackward_X1_keyOf
theorem dX1_mergeBackward_0 : decode cX1_mergeBackward 0 = .ok (.iload_n 3, 1) := by decide +kernel
theorem dX1_mergeBackward_1 : decode cX1_mergeBackward 1 = .ok (.iload_n 2, 1) := by decide +kernel
theorem dX1_mergeBackward_2 : decode cX1_mergeBackward 2 = .ok (.isub, 1) := by decide +kernel
theorem dX1_mergeBackward_3 : decode cX1_mergeBackward 3 = .ok (.istore 4, 2) := by decide +kernel
theorem dX1_mergeBackward_5 : decode cX1_mergeBackward 5 = .ok (.aload_n 0, 1) := by decide +kernel
theorem dX1_mergeBackward_6 : decode cX1_mergeBackward 6 = .ok (.getfield 18, 3) := by decide +kernel
theorem dX1_mergeBackward_9 : decode cX1_mergeBackward 9 = .ok (.iload_n 2, 1) := by decide +kernel
theorem dX1_mergeBackward_10 : decode cX1_mergeBackward 10 = .ok (.aload_n 0, 1) := by decide +kernel
theorem dX1_mergeBackward_11 : decode cX1_mergeBackward 11 = .ok (.getfield 22, 3) := by decide +kernel
theorem dX1_mergeBackward_14 : decode cX1_mergeBackward 14 = .ok (.iconst 0, 1) := by decide +kernel
theorem dX1_mergeBackward_15 : decode cX1_mergeBackward 15 = .ok (.iload 4, 2) := by decide +kernel
theorem dX1_mergeBackward_17 : decode cX1_mergeBackward 17 = .ok (.invokestatic 123, 3) := by decide +kernel
theorem dX1_mergeBackward_20 : decode cX1_mergeBackward 20 = .ok (.iload_n 2, 1) := by decide +kernel
theorem dX1_mergeBackward_21 : decode cX1_mergeBackward 21 = .ok (.iconst 1, 1) := by decide +kernel
theorem dX1_mergeBackward_22 : decode cX1_mergeBackward 22 = .ok (.isub, 1) := by decide +kernel
theorem dX1_mergeBackward_23 : decode cX1_mergeBackward 23 = .ok (.istore 5, 2) := by decide +kernel
theorem dX1_mergeBackward_25 : decode cX1_mergeBackward 25 = .ok (.iload 4, 2) := by decide +kernel
theorem dX1_mergeBackward_27 : decode cX1_mergeBackward 27 = .ok (.iconst 1, 1) := by decide +kernel
theorem dX1_mergeBackward_28 : decode cX1_mergeBackward 28 = .ok (.isub, 1) := by decide +kernel
theorem dX1_mergeBackward_29 : decode cX1_mergeBackward 29 = .ok (.istore 6, 2) := by decide +kernel
theorem dX1_mergeBackward_31 : decode cX1_mergeBackward 31 = .ok (.iload_n 3, 1) := by decide +kernel
theorem dX1_mergeBackward_32 : decode cX1_mergeBackward 32 = .ok (.iconst 1, 1) := by decide +kernel
theorem dX1_mergeBackward_33 : decode cX1_mergeBackward 33 = .ok (.isub, 1) := by decide +kernel
theorem dX1_mergeBackward_34 : decode cX1_mergeBackward 34 = .ok (.istore 7, 2) := by decide +kernel
theorem dX1_mergeBackward_36 : decode cX1_mergeBackward 36 = .ok (.iload 5, 2) := by decide +kernel
theorem dX1_mergeBackward_38 : decode cX1_mergeBackward 38 = .ok (.iload_n 1, 1) := by decide +kernel
theorem dX1_mergeBackward_39 : decode cX1_mergeBackward 39 = .ok (.if_icmp .lt 74, 3) := by decide +kernel
theorem dX1_mergeBackward_42 : decode cX1_mergeBackward 42 = .ok (.iload 6, 2) := by decide +kernel
theorem dX1_mergeBackward_44 : decode cX1_mergeBackward 44 = .ok (.ifCond .lt 69, 3) := by decide +kernel
theorem dX1_mergeBackward_47 : decode cX1_mergeBackward 47 = .ok (.aload_n 0, 1) := by decide +kernel
theorem dX1_mergeBackward_48 : decode cX1_mergeBackward 48 = .ok (.getfield 22, 3) := by decide +kernel
theorem dX1_mergeBackward_51 : decode cX1_mergeBackward 51 = .ok (.iload 6, 2) := by decide +kernel
theorem dX1_mergeBackward_53 : decode cX1_mergeBackward 53 = .ok (.laload, 1) := by decide +kernel
theorem dX1_mergeBackward_54 : decode cX1_mergeBackward 54 = .ok (.invokestatic 85, 3) := by decide +kernel
theorem dX1_mergeBackward_57 : decode cX1_mergeBackward 57 = .ok (.aload_n 0, 1) := by decide +kernel
theorem dX1_mergeBackward_58 : decode cX1_mergeBackward 58 = .ok (.getfield 18, 3) := by decide +kernel
theorem dX1_mergeBackward_61 : decode cX1_mergeBackward 61 = .ok (.iload 5, 2) := by decide +kernel
theorem dX1_mergeBackward_63 : decode cX1_mergeBackward 63 = .ok (.laload, 1) := by decide +kernel
theorem dX1_mergeBackward_64 : decode cX1_mergeBackward 64 = .ok (.invokestatic 85, 3) := by decide +kernel
theorem dX1_mergeBackward_67 : decode cX1_mergeBackward 67 = .ok (.if_icmp .ge 23, 3) := by decide +kernel
theorem dX1_mergeBackward_70 : decode cX1_mergeBackward 70 = .ok (.aload_n 0, 1) := by decide +kernel
theorem dX1_mergeBackward_71 : decode cX1_mergeBackward 71 = .ok (.getfield 18, 3) := by decide +kernel
theorem dX1_mergeBackward_74 : decode cX1_mergeBackward 74 = .ok (.iload 7, 2) := by decide +kernel
theorem dX1_mergeBackward_76 : decode cX1_mergeBackward 76 = .ok (.aload_n 0, 1) := by decide +kernel
theorem dX1_mergeBackward_77 : decode cX1_mergeBackward 77 = .ok (.getfield 18, 3) := by decide +kernel
theorem dX1_mergeBackward_80 : decode cX1_mergeBackward 80 = .ok (.iload 5, 2) := by decide +kernel
theorem dX1_mergeBackward_82 : decode cX1_mergeBackward 82 = .ok (.laload, 1) := by decide +kernel
theorem dX1_mergeBackward_83 : decode cX1_mergeBackward 83 = .ok (.lastore, 1) := by decide +kernel
theorem dX1_mergeBackward_84 : decode cX1_mergeBackward 84 = .ok (.iinc 5 (-1), 3) := by decide +kernel
theorem dX1_mergeBackward_87 : decode cX1_mergeBackward 87 = .ok (.goto 20, 3) := by decide +kernel
theorem dX1_mergeBackward_90 : decode cX1_mergeBackward 90 = .ok (.aload_n 0, 1) := by decide +kernel
theorem dX1_mergeBackward_91 : decode cX1_mergeBackward 91 = .ok (.getfield 18, 3) := by decide +kernel
theorem dX1_mergeBackward_94 : decode cX1_mergeBackward 94 = .ok (.iload 7, 2) := by decide +kernel
theorem dX1_mergeBackward_96 : decode cX1_mergeBackward 96 = .ok (.aload_n 0, 1) := by decide +kernel
theorem dX1_mergeBackward_97 : decode cX1_mergeBackward 97 = .ok (.getfield 22, 3) := by decide +kernel
theorem dX1_mergeBackward_100 : decode cX1_mergeBackward 100 = .ok (.iload 6, 2) := by decide +kernel
theorem dX1_mergeBackward_102 : decode cX1_mergeBackward 102 = .ok (.laload, 1) := by decide +kernel
theorem dX1_mergeBackward_103 : decode cX1_mergeBackward 103 = .ok (.lastore, 1) := by decide +kernel
theorem dX1_mergeBackward_104 : decode cX1_mergeBackward 104 = .ok (.iinc 6 (-1), 3) := by decide +kernel
theorem dX1_mergeBackward_107 : decode cX1_mergeBackward 107 = .ok (.iinc 7 (-1), 3) := by decide +kernel
theorem dX1_mergeBackward_110 : decode cX1_mergeBackward 110 = .ok (.goto (-74), 3) := by decide +kernel
theorem dX1_mergeBackward_113 : decode cX1_mergeBackward 113 = .ok (.aload_n 0, 1) := by decide +kernel
theorem dX1_mergeBackward_114 : decode cX1_mergeBackward 114 = .ok (.getfield 22, 3) := by decide +kernel
theorem dX1_mergeBackward_117 : decode cX1_mergeBackward 117 = .ok (.iconst 0, 1) := by decide +kernel
theorem dX1_mergeBackward_118 : decode cX1_mergeBackward 118 = .ok (.aload_n 0, 1) := by decide +kernel
theorem dX1_mergeBackward_119 : decode cX1_mergeBackward 119 = .ok (.getfield 18, 3) := by decide +kernel
theorem dX1_mergeBackward_122 : decode cX1_mergeBackward 122 = .ok (.iload 7, 2) := by decide +kernel
theorem dX1_mergeBackward_124 : decode cX1_mergeBackward 124 = .ok (.iload 6, 2) := by decide +kernel
theorem dX1_mergeBackward_126 : decode cX1_mergeBackward 126 = .ok (.isub, 1) := by decide +kernel
theorem dX1_mergeBackward_127 : decode cX1_mergeBackward 127 = .ok (.iload 6, 2) := by decide +kernel
theorem dX1_mergeBackward_129 : decode cX1_mergeBackward 129 = .ok (.iconst 1, 1) := by decide +kernel
theorem dX1_mergeBackward_130 : decode cX1_mergeBackward 130 = .ok (.iadd, 1) := by decide +kernel
theorem dX1_mergeBackward_131 : decode cX1_mergeBackward 131 = .ok (.invokestatic 123, 3) := by decide +kernel
theorem dX1_mergeBackward_134 : decode cX1_mergeBackward 134 = .ok (.return_, 1) := by decide +kernel
theorem dX2_init_0 : decode cX2_init 0 = .ok (.aload_n 0, 1) := by decide +kernel
theorem dX2_init_1 : decode cX2_init 1 = .ok (.invokespecial 1, 3) := by decide +kernel
theorem dX2_init_4 : decode cX2_init 4 = .ok (.aload_n 0, 1) := by decide +kernel
theorem dX2_init_5 : decode cX2_init 5 = .ok (.sipush 4096, 3) := by decide +kernel
theorem dX2_init_8 : decode cX2_init 8 = .ok (.newarray .int, 2) := by decide +kernel
theorem dX2_init_10 : decode cX2_init 10 = .ok (.putfield 7, 3) := by decide +kernel
theorem dX2_init_13 : decode cX2_init 13 = .ok (.aload_n 0, 1) := by decide +kernel
theorem dX2_init_14 : decode cX2_init 14 = .ok (.sipush 4096, 3) := by decide +kernel
theorem dX2_init_17 : decode cX2_init 17 = .ok (.newarray .int, 2) := by decide +kernel
theorem dX2_init_19 : decode cX2_init 19 = .ok (.putfield 13, 3) := by decide +kernel
theorem dX2_init_22 : decode cX2_init 22 = .ok (.aload_n 0, 1) := by decide +kernel
theorem dX2_init_23 : decode cX2_init 23 = .ok (.sipush 4096, 3) := by decide +kernel
theorem dX2_init_26 : decode cX2_init 26 = .ok (.newarray .int, 2) := by decide +kernel
theorem dX2_init_28 : decode cX2_init 28 = .ok (.putfield 16, 3) := by decide +kernel
theorem dX2_init_31 : decode cX2_init 31 = .ok (.aload_n 0, 1) := by decide +kernel
theorem dX2_init_32 : decode cX2_init 32 = .ok (.sipush 4096, 3) := by decide +kernel
theorem dX2_init_35 : decode cX2_init 35 = .ok (.newarray .int, 2) := by decide +kernel
theorem dX2_init_37 : decode cX2_init 37 = .ok (.putfield 19, 3) := by decide +kernel
theorem dX2_init_40 : decode cX2_init 40 = .ok (.aload_n 0, 1) := by decide +kernel
theorem dX2_init_41 : decode cX2_init 41 = .ok (.sipush 4096, 3) := by decide +kernel
theorem dX2_init_44 : decode cX2_init 44 = .ok (.newarray .int, 2) := by decide +kernel
theorem dX2_init_46 : decode cX2_init 46 = .ok (.putfield 22, 3) := by decide +kernel
theorem dX2_init_49 : decode cX2_init 49 = .ok (.aload_n 0, 1) := by decide +kernel
theorem dX2_init_50 : decode cX2_init 50 = .ok (.sipush 200, 3) := by decide +kernel
theorem dX2_init_53 : decode cX2_init 53 = .ok (.newarray .int, 2) := by decide +kernel
theorem dX2_init_55 : decode cX2_init 55 = .ok (.putfield 25, 3) := by decide +kernel
theorem dX2_init_58 : decode cX2_init 58 = .ok (.aload_n 0, 1) := by decide +kernel
theorem dX2_init_59 : decode cX2_init 59 = .ok (.iload_n 1, 1) := by decide +kernel
theorem dX2_init_60 : decode cX2_init 60 = .ok (.iconst 1, 1) := by decide +kernel
theorem dX2_init_61 : decode cX2_init 61 = .ok (.if_icmp .ge 7, 3) := by decide +kernel
theorem dX2_init_64 : decode cX2_init 64 = .ok (.iconst 1, 1) := by decide +kernel
theorem dX2_init_65 : decode cX2_init 65 = .ok (.goto 17, 3) := by decide +kernel
theorem dX2_init_68 : decode cX2_init 68 = .ok (.iload_n 1, 1) := by decide +kernel
theorem dX2_init_69 : decode cX2_init 69 = .ok (.sipush 4096, 3) := by decide +kernel
theorem dX2_init_72 : decode cX2_init 72 = .ok (.if_icmp .le 9, 3) := by decide +kernel
theorem dX2_init_75 : decode cX2_init 75 = .ok (.sipush 4096, 3) := by decide +kernel
theorem dX2_init_78 : decode cX2_init 78 = .ok (.goto 4, 3) := by decide +kernel
theorem dX2_init_81 : decode cX2_init 81 = .ok (.iload_n 1, 1) := by decide +kernel
theorem dX2_init_82 : decode cX2_init 82 = .ok (.putfield 28, 3) := by decide +kernel
theorem dX2_init_85 : decode cX2_init 85 = .ok (.return_, 1) := by decide +kernel
theorem dX2_put_0 : decode cX2_put 0 = .ok (.aload_n 0, 1) := by decide +kernel
theorem dX2_put_1 : decode cX2_put 1 = .ok (.iconst 0, 1) := by decide +kernel
theorem dX2_put_2 : decode cX2_put 2 = .ok (.putfield 32, 3) := by decide +kernel
theorem dX2_put_5 : decode cX2_put 5 = .ok (.aload_n 0, 1) := by decide +kernel
theorem dX2_put_6 : decode cX2_put 6 = .ok (.getfield 35, 3) := by decide +kernel
theorem dX2_put_9 : decode cX2_put 9 = .ok (.aload_n 0, 1) := by decide +kernel
theorem dX2_put_10 : decode cX2_put 10 = .ok (.getfield 28, 3) := by decide +kernel
theorem dX2_put_13 : decode cX2_put 13 = .ok (.if_icmp .ne 5, 3) := by decide +kernel
theorem dX2_put_16 : decode cX2_put 16 = .ok (.iconst 0, 1) := by decide +kernel
theorem dX2_put_17 : decode cX2_put 17 = .ok (.ireturn, 1) := by decide +kernel
theorem dX2_put_18 : decode cX2_put 18 = .ok (.aload_n 0, 1) := by decide +kernel
