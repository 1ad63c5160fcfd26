theorem dX2_tagAt_9 : decode cX2_tagAt 9 = .ok (.iload_n 1, 1) := by decide +kernel
theorem dX2_tagAt_10 : decode cX2_tagAt 10 = .ok (.aload_n 0, 1) := by decide +kernel
theorem dX2_tagAt_11 : decode cX2_tagAt 11 = .ok (.getfield 35, 3) := by decide +kernel
theorem dX2_tagAt_14 : decode cX2_tagAt 14 = .ok (.if_icmp .ge 12, 3) := by decide +kernel
theorem dX2_tagAt_17 : decode cX2_tagAt 17 = .ok (.aload_n 0, 1) := by decide +kernel
theorem dX2_tagAt_18 : decode cX2_tagAt 18 = .ok (.getfield 13, 3) := by decide +kernel
theorem dX2_tagAt_21 : decode cX2_tagAt 21 = .ok (.iload_n 1, 1) := by decide +kernel
theorem dX2_tagAt_22 : decode cX2_tagAt 22 = .ok (.iaload, 1) := by decide +kernel
theorem dX2_tagAt_23 : decode cX2_tagAt 23 = .ok (.goto 4, 3) := by decide +kernel
theorem dX2_tagAt_26 : decode cX2_tagAt 26 = .ok (.iconst 0, 1) := by decide +kernel
theorem dX2_tagAt_27 : decode cX2_tagAt 27 = .ok (.ireturn, 1) := by decide +kernel
theorem dX2_size_0 : decode cX2_size 0 = .ok (.aload_n 0, 1) := by decide +kernel
theorem dX2_size_1 : decode cX2_size 1 = .ok (.iconst 0, 1) := by decide +kernel
theorem dX2_size_2 : decode cX2_size 2 = .ok (.putfield 32, 3) := by decide +kernel
theorem dX2_size_5 : decode cX2_size 5 = .ok (.aload_n 0, 1) := by decide +kernel
theorem dX2_size_6 : decode cX2_size 6 = .ok (.getfield 35, 3) := by decide +kernel
theorem dX2_size_9 : decode cX2_size 9 = .ok (.ireturn, 1) := by decide +kernel
theorem dX2_stackHigh_0 : decode cX2_stackHigh 0 = .ok (.aload_n 0, 1) := by decide +kernel
theorem dX2_stackHigh_1 : decode cX2_stackHigh 1 = .ok (.iconst 0, 1) := by decide +kernel
theorem dX2_stackHigh_2 : decode cX2_stackHigh 2 = .ok (.putfield 32, 3) := by decide +kernel
theorem dX2_stackHigh_5 : decode cX2_stackHigh 5 = .ok (.aload_n 0, 1) := by decide +kernel
theorem dX2_stackHigh_6 : decode cX2_stackHigh 6 = .ok (.getfield 79, 3) := by decide +kernel
theorem dX2_stackHigh_9 : decode cX2_stackHigh 9 = .ok (.ireturn, 1) := by decide +kernel
theorem dX2_work_0 : decode cX2_work 0 = .ok (.aload_n 0, 1) := by decide +kernel
theorem dX2_work_1 : decode cX2_work 1 = .ok (.iconst 0, 1) := by decide +kernel
theorem dX2_work_2 : decode cX2_work 2 = .ok (.putfield 32, 3) := by decide +kernel
theorem dX2_work_5 : decode cX2_work 5 = .ok (.iload_n 1, 1) := by decide +kernel
theorem dX2_work_6 : decode cX2_work 6 = .ok (.iconst 3, 1) := by decide +kernel
theorem dX2_work_7 : decode cX2_work 7 = .ok (.if_icmp .ne 27, 3) := by decide +kernel
theorem dX2_work_10 : decode cX2_work 10 = .ok (.iload_n 2, 1) := by decide +kernel
theorem dX2_work_11 : decode cX2_work 11 = .ok (.ifCond .lt 21, 3) := by decide +kernel
theorem dX2_work_14 : decode cX2_work 14 = .ok (.iload_n 2, 1) := by decide +kernel
theorem dX2_work_15 : decode cX2_work 15 = .ok (.aload_n 0, 1) := by decide +kernel
theorem dX2_work_16 : decode cX2_work 16 = .ok (.getfield 62, 3) := by decide +kernel
theorem dX2_work_19 : decode cX2_work 19 = .ok (.if_icmp .ge 13, 3) := by decide +kernel
theorem dX2_work_22 : decode cX2_work 22 = .ok (.aload_n 0, 1) := by decide +kernel
theorem dX2_work_23 : decode cX2_work 23 = .ok (.getfield 22, 3) := by decide +kernel
theorem dX2_work_26 : decode cX2_work 26 = .ok (.iload_n 2, 1) := by decide +kernel
theorem dX2_work_27 : decode cX2_work 27 = .ok (.iaload, 1) := by decide +kernel
theorem dX2_work_28 : decode cX2_work 28 = .ok (.i2l, 1) := by decide +kernel
theorem dX2_work_29 : decode cX2_work 29 = .ok (.goto 4, 3) := by decide +kernel
theorem dX2_work_32 : decode cX2_work 32 = .ok (.lconst 0, 1) := by decide +kernel
theorem dX2_work_33 : decode cX2_work 33 = .ok (.lreturn, 1) := by decide +kernel
theorem dX2_work_34 : decode cX2_work 34 = .ok (.iload_n 1, 1) := by decide +kernel
theorem dX2_work_35 : decode cX2_work 35 = .ok (.ifCond .ne 11, 3) := by decide +kernel
theorem dX2_work_38 : decode cX2_work 38 = .ok (.aload_n 0, 1) := by decide +kernel
theorem dX2_work_39 : decode cX2_work 39 = .ok (.getfield 62, 3) := by decide +kernel
theorem dX2_work_42 : decode cX2_work 42 = .ok (.i2l, 1) := by decide +kernel
theorem dX2_work_43 : decode cX2_work 43 = .ok (.goto 29, 3) := by decide +kernel
theorem dX2_work_46 : decode cX2_work 46 = .ok (.iload_n 1, 1) := by decide +kernel
theorem dX2_work_47 : decode cX2_work 47 = .ok (.iconst 1, 1) := by decide +kernel
theorem dX2_work_48 : decode cX2_work 48 = .ok (.if_icmp .ne 11, 3) := by decide +kernel
theorem dX2_work_51 : decode cX2_work 51 = .ok (.aload_n 0, 1) := by decide +kernel
theorem dX2_work_52 : decode cX2_work 52 = .ok (.getfield 38, 3) := by decide +kernel
theorem dX2_work_55 : decode cX2_work 55 = .ok (.i2l, 1) := by decide +kernel
theorem dX2_work_56 : decode cX2_work 56 = .ok (.goto 16, 3) := by decide +kernel
theorem dX2_work_59 : decode cX2_work 59 = .ok (.iload_n 1, 1) := by decide +kernel
theorem dX2_work_60 : decode cX2_work 60 = .ok (.iconst 2, 1) := by decide +kernel
theorem dX2_work_61 : decode cX2_work 61 = .ok (.if_icmp .ne 10, 3) := by decide +kernel
theorem dX2_work_64 : decode cX2_work 64 = .ok (.aload_n 0, 1) := by decide +kernel
theorem dX2_work_65 : decode cX2_work 65 = .ok (.getfield 41, 3) := by decide +kernel
theorem dX2_work_68 : decode cX2_work 68 = .ok (.goto 4, 3) := by decide +kernel
theorem dX2_work_71 : decode cX2_work 71 = .ok (.lconst 0, 1) := by decide +kernel
theorem dX2_work_72 : decode cX2_work 72 = .ok (.lreturn, 1) := by decide +kernel
theorem dX2_sorted_0 : decode cX2_sorted 0 = .ok (.aload_n 0, 1) := by decide +kernel
theorem dX2_sorted_1 : decode cX2_sorted 1 = .ok (.iconst 0, 1) := by decide +kernel
theorem dX2_sorted_2 : decode cX2_sorted 2 = .ok (.putfield 32, 3) := by decide +kernel
theorem dX2_sorted_5 : decode cX2_sorted 5 = .ok (.iload_n 1, 1) := by decide +kernel
theorem dX2_sorted_6 : decode cX2_sorted 6 = .ok (.ifCond .lt 11, 3) := by decide +kernel
theorem dX2_sorted_9 : decode cX2_sorted 9 = .ok (.iload_n 1, 1) := by decide +kernel
theorem dX2_sorted_10 : decode cX2_sorted 10 = .ok (.aload_n 0, 1) := by decide +kernel
theorem dX2_sorted_11 : decode cX2_sorted 11 = .ok (.getfield 35, 3) := by decide +kernel
theorem dX2_sorted_14 : decode cX2_sorted 14 = .ok (.if_icmp .lt 5, 3) := by decide +kernel
theorem dX2_sorted_17 : decode cX2_sorted 17 = .ok (.iconst 0, 1) := by decide +kernel
theorem dX2_sorted_18 : decode cX2_sorted 18 = .ok (.ireturn, 1) := by decide +kernel
theorem dX2_sorted_19 : decode cX2_sorted 19 = .ok (.iconst 1, 1) := by decide +kernel
theorem dX2_sorted_20 : decode cX2_sorted 20 = .ok (.istore_n 2, 1) := by decide +kernel
theorem dX2_sorted_21 : decode cX2_sorted 21 = .ok (.iload_n 1, 1) := by decide +kernel
theorem dX2_sorted_22 : decode cX2_sorted 22 = .ok (.iload_n 2, 1) := by decide +kernel
theorem dX2_sorted_23 : decode cX2_sorted 23 = .ok (.iadd, 1) := by decide +kernel
theorem dX2_sorted_24 : decode cX2_sorted 24 = .ok (.aload_n 0, 1) := by decide +kernel
theorem dX2_sorted_25 : decode cX2_sorted 25 = .ok (.getfield 35, 3) := by decide +kernel
theorem dX2_sorted_28 : decode cX2_sorted 28 = .ok (.if_icmp .ge 30, 3) := by decide +kernel
theorem dX2_sorted_31 : decode cX2_sorted 31 = .ok (.aload_n 0, 1) := by decide +kernel
theorem dX2_sorted_32 : decode cX2_sorted 32 = .ok (.getfield 7, 3) := by decide +kernel
theorem dX2_sorted_35 : decode cX2_sorted 35 = .ok (.iload_n 1, 1) := by decide +kernel
theorem dX2_sorted_36 : decode cX2_sorted 36 = .ok (.iload_n 2, 1) := by decide +kernel
theorem dX2_sorted_37 : decode cX2_sorted 37 = .ok (.iadd, 1) := by decide +kernel
theorem dX2_sorted_38 : decode cX2_sorted 38 = .ok (.iaload, 1) := by decide +kernel
theorem dX2_sorted_39 : decode cX2_sorted 39 = .ok (.aload_n 0, 1) := by decide +kernel
theorem dX2_sorted_40 : decode cX2_sorted 40 = .ok (.getfield 7, 3) := by decide +kernel
theorem dX2_sorted_43 : decode cX2_sorted 43 = .ok (.iload_n 1, 1) := by decide +kernel
theorem dX2_sorted_44 : decode cX2_sorted 44 = .ok (.iload_n 2, 1) := by decide +kernel
theorem dX2_sorted_45 : decode cX2_sorted 45 = .ok (.iadd, 1) := by decide +kernel
theorem dX2_sorted_46 : decode cX2_sorted 46 = .ok (.iconst 1, 1) := by decide +kernel
theorem dX2_sorted_47 : decode cX2_sorted 47 = .ok (.isub, 1) := by decide +kernel
theorem dX2_sorted_48 : decode cX2_sorted 48 = .ok (.iaload, 1) := by decide +kernel
theorem dX2_sorted_49 : decode cX2_sorted 49 = .ok (.if_icmp .lt 9, 3) := by decide +kernel
theorem dX2_sorted_52 : decode cX2_sorted 52 = .ok (.iinc 2 1, 3) := by decide +kernel
theorem dX2_sorted_55 : decode cX2_sorted 55 = .ok (.goto (-34), 3) := by decide +kernel
theorem dX2_sorted_58 : decode cX2_sorted 58 = .ok (.iload_n 2, 1) := by decide +kernel
theorem dX2_sorted_59 : decode cX2_sorted 59 = .ok (.ireturn, 1) := by decide +kernel
theorem dX2_clear_0 : decode cX2_clear 0 = .ok (.aload_n 0, 1) := by decide +kernel
theorem dX2_clear_1 : decode cX2_clear 1 = .ok (.iconst 0, 1) := by decide +kernel
theorem dX2_clear_2 : decode cX2_clear 2 = .ok (.putfield 32, 3) := by decide +kernel
theorem dX2_clear_5 : decode cX2_clear 5 = .ok (.aload_n 0, 1) := by decide +kernel
theorem dX2_clear_6 : decode cX2_clear 6 = .ok (.iconst 0, 1) := by decide +kernel
theorem dX2_clear_7 : decode cX2_clear 7 = .ok (.putfield 35, 3) := by decide +kernel
theorem dX2_clear_10 : decode cX2_clear 10 = .ok (.aload_n 0, 1) := by decide +kernel
theorem dX2_clear_11 : decode cX2_clear 11 = .ok (.iconst 0, 1) := by decide +kernel
theorem dX2_clear_12 : decode cX2_clear 12 = .ok (.putfield 79, 3) := by decide +kernel
theorem dX2_clear_15 : decode cX2_clear 15 = .ok (.aload_n 0, 1) := by decide +kernel
theorem dX2_clear_16 : decode cX2_clear 16 = .ok (.iconst 0, 1) := by decide +kernel
theorem dX2_clear_17 : decode cX2_clear 17 = .ok (.putfield 62, 3) := by decide +kernel
theorem dX2_clear_20 : decode cX2_clear 20 = .ok (.aload_n 0, 1) := by decide +kernel
theorem dX2_clear_21 : decode cX2_clear 21 = .ok (.iconst 0, 1) := by decide +kernel
theorem dX2_clear_22 : decode cX2_clear 22 = .ok (.putfield 38, 3) := by decide +kernel
theorem dX2_clear_25 : decode cX2_clear 25 = .ok (.aload_n 0, 1) := by decide +kernel
theorem dX2_clear_26 : decode cX2_clear 26 = .ok (.lconst 0, 1) := by decide +kernel
theorem dX2_clear_27 : decode cX2_clear 27 = .ok (.putfield 41, 3) := by decide +kernel
theorem dX2_clear_30 : decode cX2_clear 30 = .ok (.return_, 1) := by decide +kernel
theorem dJ9_floorMod_7cf53_0 : decode cJ9_floorMod_7cf53 0 = .ok (.iload_n 0, 1) := by decide +kernel
theorem dJ9_floorMod_7cf53_1 : decode cJ9_floorMod_7cf53 1 = .ok (.iload_n 1, 1) := by decide +kernel
theorem dJ9_floorMod_7cf53_2 : decode cJ9_floorMod_7cf53 2 = .ok (.irem, 1) := by decide +kernel
theorem dJ9_floorMod_7cf53_3 : decode cJ9_floorMod_7cf53 3 = .ok (.istore_n 2, 1) := by decide +kernel
theorem dJ9_floorMod_7cf53_4 : decode cJ9_floorMod_7cf53 4 = .ok (.iload_n 0, 1) := by decide +kernel
theorem dJ9_floorMod_7cf53_5 : decode cJ9_floorMod_7cf53 5 = .ok (.iload_n 1, 1) := by decide +kernel
theorem dJ9_floorMod_7cf53_6 : decode cJ9_floorMod_7cf53 6 = .ok (.ixor, 1) := by decide +kernel
theorem dJ9_floorMod_7cf53_7 : decode cJ9_floorMod_7cf53 7 = .ok (.ifCond .ge 11, 3) := by decide +kernel
theorem dJ9_floorMod_7cf53_10 : decode cJ9_floorMod_7cf53 10 = .ok (.iload_n 2, 1) := by decide +kernel
theorem dJ9_floorMod_7cf53_11 : decode cJ9_floorMod_7cf53 11 = .ok (.ifCond .eq 7, 3) := by decide +kernel
theorem dJ9_floorMod_7cf53_14 : decode cJ9_floorMod_7cf53 14 = .ok (.iload_n 2, 1) := by decide +kernel
theorem dJ9_floorMod_7cf53_15 : decode cJ9_floorMod_7cf53 15 = .ok (.iload_n 1, 1) := by decide +kernel
theorem dJ9_floorMod_7cf53_16 : decode cJ9_floorMod_7cf53 16 = .ok (.iadd, 1) := by decide +kernel
theorem dJ9_floorMod_7cf53_17 : decode cJ9_floorMod_7cf53 17 = .ok (.ireturn, 1) := by decide +kernel
theorem dJ9_floorMod_7cf53_18 : decode cJ9_floorMod_7cf53 18 = .ok (.iload_n 2, 1) := by decide +kernel
theorem dJ9_floorMod_7cf53_19 : decode cJ9_floorMod_7cf53 19 = .ok (.ireturn, 1) := by decide +kernel
theorem dJ9_max_7cf53_0 : decode cJ9_max_7cf53 0 = .ok (.iload_n 0, 1) := by decide +kernel
theorem dJ9_max_7cf53_1 : decode cJ9_max_7cf53 1 = .ok (.iload_n 1, 1) := by decide +kernel
theorem dJ9_max_7cf53_2 : decode cJ9_max_7cf53 2 = .ok (.if_icmp .lt 7, 3) := by decide +kernel
theorem dJ9_max_7cf53_5 : decode cJ9_max_7cf53 5 = .ok (.iload_n 0, 1) := by decide +kernel
theorem dJ9_max_7cf53_6 : decode cJ9_max_7cf53 6 = .ok (.goto 4, 3) := by decide +kernel
theorem dJ9_max_7cf53_9 : decode cJ9_max_7cf53 9 = .ok (.iload_n 1, 1) := by decide +kernel
theorem dJ9_max_7cf53_10 : decode cJ9_max_7cf53 10 = .ok (.ireturn, 1) := by decide +kernel
theorem dJ9_min_7cf53_0 : decode cJ9_min_7cf53 0 = .ok (.iload_n 0, 1) := by decide +kernel
theorem dJ9_min_7cf53_1 : decode cJ9_min_7cf53 1 = .ok (.iload_n 1, 1) := by decide +kernel
theorem dJ9_min_7cf53_2 : decode cJ9_min_7cf53 2 = .ok (.if_icmp .gt 7, 3) := by decide +kernel
theorem dJ9_min_7cf53_5 : decode cJ9_min_7cf53 5 = .ok (.iload_n 0, 1) := by decide +kernel
theorem dJ9_min_7cf53_6 : decode cJ9_min_7cf53 6 = .ok (.goto 4, 3) := by decide +kernel
theorem dJ9_min_7cf53_9 : decode cJ9_min_7cf53 9 = .ok (.iload_n 1, 1) := by decide +kernel
theorem dJ9_min_7cf53_10 : decode cJ9_min_7cf53 10 = .ok (.ireturn, 1) := by decide +kernel
theorem dL_cell_0 : decode cL_cell 0 = .ok (.iload_n 1, 1) := by decide +kernel
theorem dL_cell_1 : decode cL_cell 1 = .ok (.aload_n 0, 1) := by decide +kernel
theorem dL_cell_2 : decode cL_cell 2 = .ok (.arraylength, 1) := by decide +kernel
theorem dL_cell_3 : decode cL_cell 3 = .ok (.if_icmp .ge 9, 3) := by decide +kernel
theorem dL_cell_6 : decode cL_cell 6 = .ok (.aload_n 0, 1) := by decide +kernel
theorem dL_cell_7 : decode cL_cell 7 = .ok (.iload_n 1, 1) := by decide +kernel
theorem dL_cell_8 : decode cL_cell 8 = .ok (.iaload, 1) := by decide +kernel
theorem dL_cell_9 : decode cL_cell 9 = .ok (.goto 4, 3) := by decide +kernel
theorem dL_cell_12 : decode cL_cell 12 = .ok (.iconst 0, 1) := by decide +kernel
theorem dL_cell_13 : decode cL_cell 13 = .ok (.ireturn, 1) := by decide +kernel
set_option maxRecDepth 20000 in
theorem ggL_law_L_cell : GoodIn wsL_law wsL_cell := goodIn_r _ [9] (by decide +kernel) (by decide +kernel)
set_option maxRecDepth 20000 in
theorem gL_law_L_cell : GoodIn wsL_law (va_wsS RL 9 yL_cell wsL_cell) := goodIn_app (goodIn_of _ (by decide +kernel)) ggL_law_L_cell
set_option maxRecDepth 20000 in
theorem ggL_law_X1_init : GoodIn wsL_law wsX1_init := goodIn_r _ [12, 13, 14, 15, 16, 17, 18, 19, 20, 21, 22, 23, 24, 25, 26, 27, 28, 29, 30, 31, 32, 33, 34, 35, 36, 282, 283, 284, 285, 286, 287, 288, 289, 290, 306, 307, 308, 309] (by decide +kernel) (by decide +kernel)
set_option maxRecDepth 20000 in
theorem gL_law_X1_init : GoodIn wsL_law (wsX1_init) := ggL_law_X1_init
set_option maxRecDepth 20000 in
theorem ggL_law_X2_init : GoodIn wsL_law wsX2_init := goodIn_r _ [39, 40, 14, 15, 30, 41, 42, 43, 44, 45, 46, 47, 291, 292, 293, 294, 295, 296, 297, 298, 299, 300, 301, 302, 303, 304, 305] (by decide +kernel) (by decide +kernel)
set_option maxRecDepth 20000 in
theorem gL_law_X2_init : GoodIn wsL_law (wsX2_init) := ggL_law_X2_init
set_option maxRecDepth 20000 in
theorem ggL_law_X1_put : GoodIn wsL_law wsX1_put := goodIn_r _ [51, 52, 24, 53, 54, 2, 55, 56, 282, 283, 284, 285, 286, 287, 288, 289, 290] (by decide +kernel) (by decide +kernel)
set_option maxRecDepth 20000 in
theorem gL_law_X1_put : GoodIn wsL_law (wsV RL 21 RX1 yX1_put wsX1_put) := goodIn_app (goodIn_of _ (by decide +kernel)) ggL_law_X1_put
set_option maxRecDepth 20000 in
theorem ggL_law_X2_put : GoodIn wsL_law wsX2_put := goodIn_r _ [60, 61, 62, 47, 41, 42, 291, 292, 293, 294, 295, 296, 297, 298, 299, 300, 301, 302, 303, 304, 305] (by decide +kernel) (by decide +kernel)
set_option maxRecDepth 20000 in
theorem gL_law_X2_put : GoodIn wsL_law (wsV RL 25 RX2 yX2_put wsX2_put) := goodIn_app (goodIn_of _ (by decide +kernel)) ggL_law_X2_put
set_option maxRecDepth 20000 in
theorem ggL_law_X1_fill : GoodIn wsL_law wsX1_fill := goodIn_r _ [66, 24, 52, 16, 17, 18, 19, 20, 21, 22, 67, 68, 69, 70, 53, 54, 2, 55, 56, 282, 283, 284, 285, 286, 287, 288, 289, 290] (by decide +kernel) (by decide +kernel)
set_option maxRecDepth 20000 in
theorem gL_law_X1_fill : GoodIn wsL_law (wsV RL 26 RX1 yX1_fill wsX1_fill) := goodIn_app (goodIn_of _ (by decide +kernel)) ggL_law_X1_fill
set_option maxRecDepth 20000 in
theorem ggL_law_X2_fill : GoodIn wsL_law wsX2_fill := goodIn_r _ [74, 61, 62, 47, 41, 42, 291, 292, 293, 294, 295, 296, 297, 298, 299, 300, 301, 302, 303, 304, 305] (by decide +kernel) (by decide +kernel)
set_option maxRecDepth 20000 in
theorem gL_law_X2_fill : GoodIn wsL_law (wsV RL 30 RX2 yX2_fill wsX2_fill) := goodIn_app (goodIn_of _ (by decide +kernel)) ggL_law_X2_fill
set_option maxRecDepth 20000 in
theorem ggL_law_X1_turn : GoodIn wsL_law wsX1_turn := goodIn_r _ [78, 52, 79, 80, 81, 2, 82, 24, 282, 283, 284, 285, 286, 287, 288, 289, 290] (by decide +kernel) (by decide +kernel)
set_option maxRecDepth 20000 in
theorem gL_law_X1_turn : GoodIn wsL_law (wsV RL 31 RX1 yX1_turn wsX1_turn) := goodIn_app (goodIn_of _ (by decide +kernel)) ggL_law_X1_turn
set_option maxRecDepth 20000 in
theorem ggL_law_X2_turn : GoodIn wsL_law wsX2_turn := goodIn_r _ [86, 61, 62, 43, 41, 44, 42, 291, 292, 293, 294, 295, 296, 297, 298, 299, 300, 301, 302, 303, 304, 305] (by decide +kernel) (by decide +kernel)
set_option maxRecDepth 20000 in
theorem gL_law_X2_turn : GoodIn wsL_law (wsV RL 35 RX2 yX2_turn wsX2_turn) := goodIn_app (goodIn_of _ (by decide +kernel)) ggL_law_X2_turn
set_option maxRecDepth 20000 in
theorem ggL_law_X1_run : GoodIn wsL_law wsX1_run := goodIn_r _ [90, 52, 91, 31, 29, 92, 20, 21, 18, 22, 93, 94, 95, 2, 96, 97, 98, 99, 28, 100, 101, 102, 103, 104, 105, 106, 107, 108, 109, 110, 16, 17, 19, 111, 112, 113, 114, 115, 116, 117, 118, 119, 120, 121, 122, 24, 123, 124, 125, 126, 127, 128, 129, 79, 80, 81, 82, 130, 131, 132, 133, 134, 135, 136, 137, 138, 139, 140, 141, 142, 143, 144, 36, 35, 145, 146, 147, 148, 149, 150, 151, 152, 153, 154, 155, 156, 157, 158, 159, 160, 161, 162, 163, 164, 165, 166, 167, 25, 168, 169, 170, 171, 172, 173, 174, 175, 176, 177, 178, 179, 180, 181, 282, 283, 284, 285, 286, 287, 288, 289, 290, 306, 307, 308, 309] (by decide +kernel) (by decide +kernel)
set_option maxRecDepth 20000 in
theorem gL_law_X1_run : GoodIn wsL_law (wsV RL 36 RX1 yX1_run wsX1_run) := goodIn_app (goodIn_of _ (by decide +kernel)) ggL_law_X1_run
set_option maxRecDepth 20000 in
theorem ggL_law_X2_run : GoodIn wsL_law wsX2_run := goodIn_r _ [185, 61, 186, 187, 188, 189, 190, 62, 191, 192, 193, 194, 5, 195, 45, 46, 196, 197, 198, 199, 200, 201, 202, 41, 203, 204, 205, 206, 207, 208, 209, 210, 211, 212, 213, 214, 215, 216, 217, 218, 43, 44, 42, 291, 292, 293, 294, 295, 296, 297, 298, 299, 300, 301, 302, 303, 304, 305] (by decide +kernel) (by decide +kernel)
set_option maxRecDepth 20000 in
theorem gL_law_X2_run : GoodIn wsL_law (wsV RL 40 RX2 yX2_run wsX2_run) := goodIn_app (goodIn_of _ (by decide +kernel)) ggL_law_X2_run
set_option maxRecDepth 20000 in
theorem ggL_law_X1_keyAt : GoodIn wsL_law wsX1_keyAt := goodIn_r _ [222, 24, 223, 224, 225, 2, 226, 52, 123, 124, 125, 282, 283, 284, 285, 286, 287, 288, 289, 290] (by decide +kernel) (by decide +kernel)
set_option maxRecDepth 20000 in
theorem gL_law_X1_keyAt : GoodIn wsL_law (wsV RL 41 RX1 yX1_keyAt wsX1_keyAt) := goodIn_app (goodIn_of _ (by decide +kernel)) ggL_law_X1_keyAt
set_option maxRecDepth 20000 in
theorem ggL_law_X2_keyAt : GoodIn wsL_law wsX2_keyAt := goodIn_r _ [230, 61, 62, 41, 291, 292, 293, 294, 295, 296, 297, 298, 299, 300, 301, 302, 303, 304, 305] (by decide +kernel) (by decide +kernel)
set_option maxRecDepth 20000 in
theorem gL_law_X2_keyAt : GoodIn wsL_law (wsV RL 45 RX2 yX2_keyAt wsX2_keyAt) := goodIn_app (goodIn_of _ (by decide +kernel)) ggL_law_X2_keyAt
set_option maxRecDepth 20000 in
theorem ggL_law_X1_tagAt : GoodIn wsL_law wsX1_tagAt := goodIn_r _ [234, 24, 223, 224, 225, 2, 226, 52, 235, 236, 237, 282, 283, 284, 285, 286, 287, 288, 289, 290] (by decide +kernel) (by decide +kernel)
set_option maxRecDepth 20000 in
theorem gL_law_X1_tagAt : GoodIn wsL_law (wsV RL 46 RX1 yX1_tagAt wsX1_tagAt) := goodIn_app (goodIn_of _ (by decide +kernel)) ggL_law_X1_tagAt
set_option maxRecDepth 20000 in
theorem ggL_law_X2_tagAt : GoodIn wsL_law wsX2_tagAt := goodIn_r _ [241, 61, 62, 42, 291, 292, 293, 294, 295, 296, 297, 298, 299, 300, 301, 302, 303, 304, 305] (by decide +kernel) (by decide +kernel)
set_option maxRecDepth 20000 in
theorem gL_law_X2_tagAt : GoodIn wsL_law (wsV RL 49 RX2 yX2_tagAt wsX2_tagAt) := goodIn_app (goodIn_of _ (by decide +kernel)) ggL_law_X2_tagAt
set_option maxRecDepth 20000 in
theorem ggL_law_X1_size : GoodIn wsL_law wsX1_size := goodIn_r _ [245, 52, 282, 283, 284, 285, 286, 287, 288, 289, 290] (by decide +kernel) (by decide +kernel)
set_option maxRecDepth 20000 in
theorem gL_law_X1_size : GoodIn wsL_law (wsV RL 50 RX1 yX1_size wsX1_size) := goodIn_app (goodIn_of _ (by decide +kernel)) ggL_law_X1_size
set_option maxRecDepth 20000 in
theorem ggL_law_X2_size : GoodIn wsL_law wsX2_size := goodIn_r _ [249, 61, 62, 291, 292, 293, 294, 295, 296, 297, 298, 299, 300, 301, 302, 303, 304, 305] (by decide +kernel) (by decide +kernel)
set_option maxRecDepth 20000 in
theorem gL_law_X2_size : GoodIn wsL_law (wsV RL 53 RX2 yX2_size wsX2_size) := goodIn_app (goodIn_of _ (by decide +kernel)) ggL_law_X2_size
set_option maxRecDepth 20000 in
theorem ggL_law_X1_stackHigh : GoodIn wsL_law wsX1_stackHigh := goodIn_r _ [253, 92, 282, 283, 284, 285, 286, 287, 288, 289, 290] (by decide +kernel) (by decide +kernel)
set_option maxRecDepth 20000 in
theorem gL_law_X1_stackHigh : GoodIn wsL_law (wsV RL 54 RX1 yX1_stackHigh wsX1_stackHigh) := goodIn_app (goodIn_of _ (by decide +kernel)) ggL_law_X1_stackHigh
set_option maxRecDepth 20000 in
theorem ggL_law_X2_stackHigh : GoodIn wsL_law wsX2_stackHigh := goodIn_r _ [257, 61, 191, 291, 292, 293, 294, 295, 296, 297, 298, 299, 300, 301, 302, 303, 304, 305] (by decide +kernel) (by decide +kernel)
set_option maxRecDepth 20000 in
theorem gL_law_X2_stackHigh : GoodIn wsL_law (wsV RL 57 RX2 yX2_stackHigh wsX2_stackHigh) := goodIn_app (goodIn_of _ (by decide +kernel)) ggL_law_X2_stackHigh
set_option maxRecDepth 20000 in
theorem ggL_law_X1_work : GoodIn wsL_law wsX1_work := goodIn_r _ [261, 91, 97, 98, 31, 282, 283, 284, 285, 286, 287, 288, 289, 290] (by decide +kernel) (by decide +kernel)
set_option maxRecDepth 20000 in
theorem gL_law_X1_work : GoodIn wsL_law (wsV RL 58 RX1 yX1_work wsX1_work) := goodIn_app (goodIn_of _ (by decide +kernel)) ggL_law_X1_work
set_option maxRecDepth 20000 in
theorem ggL_law_X2_work : GoodIn wsL_law wsX2_work := goodIn_r _ [265, 61, 186, 45, 187, 188, 291, 292, 293, 294, 295, 296, 297, 298, 299, 300, 301, 302, 303, 304, 305] (by decide +kernel) (by decide +kernel)
set_option maxRecDepth 20000 in
theorem gL_law_X2_work : GoodIn wsL_law (wsV RL 62 RX2 yX2_work wsX2_work) := goodIn_app (goodIn_of _ (by decide +kernel)) ggL_law_X2_work
set_option maxRecDepth 20000 in
theorem ggL_law_X1_sorted : GoodIn wsL_law wsX1_sorted := goodIn_r _ [269, 223, 224, 225, 2, 226, 52, 126, 127, 128, 129, 119, 120, 121, 122, 24, 123, 124, 125, 282, 283, 284, 285, 286, 287, 288, 289, 290] (by decide +kernel) (by decide +kernel)
set_option maxRecDepth 20000 in
theorem gL_law_X1_sorted : GoodIn wsL_law (wsV RL 63 RX1 yX1_sorted wsX1_sorted) := goodIn_app (goodIn_of _ (by decide +kernel)) ggL_law_X1_sorted
set_option maxRecDepth 20000 in
theorem ggL_law_X2_sorted : GoodIn wsL_law wsX2_sorted := goodIn_r _ [273, 61, 62, 41, 291, 292, 293, 294, 295, 296, 297, 298, 299, 300, 301, 302, 303, 304, 305] (by decide +kernel) (by decide +kernel)
set_option maxRecDepth 20000 in
theorem gL_law_X2_sorted : GoodIn wsL_law (wsV RL 66 RX2 yX2_sorted wsX2_sorted) := goodIn_app (goodIn_of _ (by decide +kernel)) ggL_law_X2_sorted
set_option maxRecDepth 20000 in
theorem ggL_law_X1_clear : GoodIn wsL_law wsX1_clear := goodIn_r _ [277, 52, 92, 93, 94, 95, 2, 96, 91, 97, 98, 29, 99, 28, 100, 101, 102, 103, 282, 283, 284, 285, 286, 287, 288, 289, 290, 306, 307, 308, 309] (by decide +kernel) (by decide +kernel)
set_option maxRecDepth 20000 in
theorem gL_law_X1_clear : GoodIn wsL_law (wsV RL 67 RX1 yX1_clear wsX1_clear) := goodIn_app (goodIn_of _ (by decide +kernel)) ggL_law_X1_clear
set_option maxRecDepth 20000 in
theorem ggL_law_X2_clear : GoodIn wsL_law wsX2_clear := goodIn_r _ [281, 61, 62, 191, 186, 187, 188, 291, 292, 293, 294, 295, 296, 297, 298, 299, 300, 301, 302, 303, 304, 305] (by decide +kernel) (by decide +kernel)
set_option maxRecDepth 20000 in
theorem gL_law_X2_clear : GoodIn wsL_law (wsV RL 70 RX2 yX2_clear wsX2_clear) := goodIn_app (goodIn_of _ (by decide +kernel)) ggL_law_X2_clear
theorem dL_law_0 : decode cL_law 0 = .ok (.new 7, 3) := by decide +kernel
theorem dL_law_3 : decode cL_law 3 = .ok (.dup, 1) := by decide +kernel
theorem dL_law_4 : decode cL_law 4 = .ok (.aload_n 0, 1) := by decide +kernel
theorem dL_law_5 : decode cL_law 5 = .ok (.iconst 0, 1) := by decide +kernel
theorem dL_law_6 : decode cL_law 6 = .ok (.invokestatic 9, 3) := by decide +kernel
theorem dL_law_9 : decode cL_law 9 = .ok (.invokespecial 15, 3) := by decide +kernel
theorem dL_law_12 : decode cL_law 12 = .ok (.astore_n 1, 1) := by decide +kernel
theorem dL_law_13 : decode cL_law 13 = .ok (.new 18, 3) := by decide +kernel
theorem dL_law_16 : decode cL_law 16 = .ok (.dup, 1) := by decide +kernel
theorem dL_law_17 : decode cL_law 17 = .ok (.aload_n 0, 1) := by decide +kernel
theorem dL_law_18 : decode cL_law 18 = .ok (.iconst 0, 1) := by decide +kernel
theorem dL_law_19 : decode cL_law 19 = .ok (.invokestatic 9, 3) := by decide +kernel
theorem dL_law_22 : decode cL_law 22 = .ok (.invokespecial 20, 3) := by decide +kernel
theorem dL_law_25 : decode cL_law 25 = .ok (.astore_n 2, 1) := by decide +kernel
theorem dL_law_26 : decode cL_law 26 = .ok (.iconst 1, 1) := by decide +kernel
theorem dL_law_27 : decode cL_law 27 = .ok (.istore_n 3, 1) := by decide +kernel
theorem dL_law_28 : decode cL_law 28 = .ok (.iload_n 3, 1) := by decide +kernel
theorem dL_law_29 : decode cL_law 29 = .ok (.aload_n 0, 1) := by decide +kernel
theorem dL_law_30 : decode cL_law 30 = .ok (.arraylength, 1) := by decide +kernel
theorem dL_law_31 : decode cL_law 31 = .ok (.bipush 6, 2) := by decide +kernel
theorem dL_law_33 : decode cL_law 33 = .ok (.isub, 1) := by decide +kernel
theorem dL_law_34 : decode cL_law 34 = .ok (.if_icmp .gt 354, 3) := by decide +kernel
theorem dL_law_37 : decode cL_law 37 = .ok (.aload_n 0, 1) := by decide +kernel
theorem dL_law_38 : decode cL_law 38 = .ok (.iload_n 3, 1) := by decide +kernel
theorem dL_law_39 : decode cL_law 39 = .ok (.iaload, 1) := by decide +kernel
theorem dL_law_40 : decode cL_law 40 = .ok (.bipush 15, 2) := by decide +kernel
theorem dL_law_42 : decode cL_law 42 = .ok (.iand, 1) := by decide +kernel
theorem dL_law_43 : decode cL_law 43 = .ok (.tableswitch 339 0 10 #[57, 90, 153, 186, 199, 222, 245, 258, 271, 305, 328], 57) := by decide +kernel
theorem dL_law_100 : decode cL_law 100 = .ok (.aload_n 1, 1) := by decide +kernel
theorem dL_law_101 : decode cL_law 101 = .ok (.aload_n 0, 1) := by decide +kernel
theorem dL_law_102 : decode cL_law 102 = .ok (.iload_n 3, 1) := by decide +kernel
theorem dL_law_103 : decode cL_law 103 = .ok (.iconst 1, 1) := by decide +kernel
theorem dL_law_104 : decode cL_law 104 = .ok (.iadd, 1) := by decide +kernel
theorem dL_law_105 : decode cL_law 105 = .ok (.iaload, 1) := by decide +kernel
theorem dL_law_106 : decode cL_law 106 = .ok (.aload_n 0, 1) := by decide +kernel
theorem dL_law_107 : decode cL_law 107 = .ok (.iload_n 3, 1) := by decide +kernel
theorem dL_law_108 : decode cL_law 108 = .ok (.iconst 2, 1) := by decide +kernel
theorem dL_law_109 : decode cL_law 109 = .ok (.iadd, 1) := by decide +kernel
theorem dL_law_110 : decode cL_law 110 = .ok (.iaload, 1) := by decide +kernel
theorem dL_law_111 : decode cL_law 111 = .ok (.invokevirtual 21, 3) := by decide +kernel
theorem dL_law_114 : decode cL_law 114 = .ok (.aload_n 2, 1) := by decide +kernel
theorem dL_law_115 : decode cL_law 115 = .ok (.aload_n 0, 1) := by decide +kernel
theorem dL_law_116 : decode cL_law 116 = .ok (.iload_n 3, 1) := by decide +kernel
theorem dL_law_117 : decode cL_law 117 = .ok (.iconst 1, 1) := by decide +kernel
theorem dL_law_118 : decode cL_law 118 = .ok (.iadd, 1) := by decide +kernel
theorem dL_law_119 : decode cL_law 119 = .ok (.iaload, 1) := by decide +kernel
theorem dL_law_120 : decode cL_law 120 = .ok (.aload_n 0, 1) := by decide +kernel
theorem dL_law_121 : decode cL_law 121 = .ok (.iload_n 3, 1) := by decide +kernel
theorem dL_law_122 : decode cL_law 122 = .ok (.iconst 2, 1) := by decide +kernel
theorem dL_law_123 : decode cL_law 123 = .ok (.iadd, 1) := by decide +kernel
theorem dL_law_124 : decode cL_law 124 = .ok (.iaload, 1) := by decide +kernel
theorem dL_law_125 : decode cL_law 125 = .ok (.invokevirtual 25, 3) := by decide +kernel
theorem dL_law_128 : decode cL_law 128 = .ok (.if_icmp .eq 254, 3) := by decide +kernel
theorem dL_law_131 : decode cL_law 131 = .ok (.iconst 0, 1) := by decide +kernel
theorem dL_law_132 : decode cL_law 132 = .ok (.ireturn, 1) := by decide +kernel
theorem dL_law_133 : decode cL_law 133 = .ok (.aload_n 1, 1) := by decide +kernel
theorem dL_law_134 : decode cL_law 134 = .ok (.aload_n 0, 1) := by decide +kernel
theorem dL_law_135 : decode cL_law 135 = .ok (.iload_n 3, 1) := by decide +kernel
theorem dL_law_136 : decode cL_law 136 = .ok (.iconst 1, 1) := by decide +kernel
theorem dL_law_137 : decode cL_law 137 = .ok (.iadd, 1) := by decide +kernel
theorem dL_law_138 : decode cL_law 138 = .ok (.iaload, 1) := by decide +kernel
theorem dL_law_139 : decode cL_law 139 = .ok (.aload_n 0, 1) := by decide +kernel
theorem dL_law_140 : decode cL_law 140 = .ok (.iload_n 3, 1) := by decide +kernel
theorem dL_law_141 : decode cL_law 141 = .ok (.iconst 2, 1) := by decide +kernel
theorem dL_law_142 : decode cL_law 142 = .ok (.iadd, 1) := by decide +kernel
theorem dL_law_143 : decode cL_law 143 = .ok (.iaload, 1) := by decide +kernel
theorem dL_law_144 : decode cL_law 144 = .ok (.aload_n 0, 1) := by decide +kernel
theorem dL_law_145 : decode cL_law 145 = .ok (.iload_n 3, 1) := by decide +kernel
theorem dL_law_146 : decode cL_law 146 = .ok (.iconst 3, 1) := by decide +kernel
theorem dL_law_147 : decode cL_law 147 = .ok (.iadd, 1) := by decide +kernel
theorem dL_law_148 : decode cL_law 148 = .ok (.iaload, 1) := by decide +kernel
theorem dL_law_149 : decode cL_law 149 = .ok (.aload_n 0, 1) := by decide +kernel
theorem dL_law_150 : decode cL_law 150 = .ok (.iload_n 3, 1) := by decide +kernel
theorem dL_law_151 : decode cL_law 151 = .ok (.iconst 4, 1) := by decide +kernel
theorem dL_law_152 : decode cL_law 152 = .ok (.iadd, 1) := by decide +kernel
theorem dL_law_153 : decode cL_law 153 = .ok (.iaload, 1) := by decide +kernel
theorem dL_law_154 : decode cL_law 154 = .ok (.aload_n 0, 1) := by decide +kernel
theorem dL_law_155 : decode cL_law 155 = .ok (.iload_n 3, 1) := by decide +kernel
theorem dL_law_156 : decode cL_law 156 = .ok (.iconst 5, 1) := by decide +kernel
theorem dL_law_157 : decode cL_law 157 = .ok (.iadd, 1) := by decide +kernel
theorem dL_law_158 : decode cL_law 158 = .ok (.iaload, 1) := by decide +kernel
theorem dL_law_159 : decode cL_law 159 = .ok (.invokevirtual 26, 3) := by decide +kernel
theorem dL_law_162 : decode cL_law 162 = .ok (.aload_n 2, 1) := by decide +kernel
theorem dL_law_163 : decode cL_law 163 = .ok (.aload_n 0, 1) := by decide +kernel
theorem dL_law_164 : decode cL_law 164 = .ok (.iload_n 3, 1) := by decide +kernel
theorem dL_law_165 : decode cL_law 165 = .ok (.iconst 1, 1) := by decide +kernel
theorem dL_law_166 : decode cL_law 166 = .ok (.iadd, 1) := by decide +kernel
theorem dL_law_167 : decode cL_law 167 = .ok (.iaload, 1) := by decide +kernel
theorem dL_law_168 : decode cL_law 168 = .ok (.aload_n 0, 1) := by decide +kernel
theorem dL_law_169 : decode cL_law 169 = .ok (.iload_n 3, 1) := by decide +kernel
theorem dL_law_170 : decode cL_law 170 = .ok (.iconst 2, 1) := by decide +kernel
theorem dL_law_171 : decode cL_law 171 = .ok (.iadd, 1) := by decide +kernel
theorem dL_law_172 : decode cL_law 172 = .ok (.iaload, 1) := by decide +kernel
theorem dL_law_173 : decode cL_law 173 = .ok (.aload_n 0, 1) := by decide +kernel
theorem dL_law_174 : decode cL_law 174 = .ok (.iload_n 3, 1) := by decide +kernel
theorem dL_law_175 : decode cL_law 175 = .ok (.iconst 3, 1) := by decide +kernel
theorem dL_law_176 : decode cL_law 176 = .ok (.iadd, 1) := by decide +kernel
theorem dL_law_177 : decode cL_law 177 = .ok (.iaload, 1) := by decide +kernel
theorem dL_law_178 : decode cL_law 178 = .ok (.aload_n 0, 1) := by decide +kernel
theorem dL_law_179 : decode cL_law 179 = .ok (.iload_n 3, 1) := by decide +kernel
theorem dL_law_180 : decode cL_law 180 = .ok (.iconst 4, 1) := by decide +kernel
theorem dL_law_181 : decode cL_law 181 = .ok (.iadd, 1) := by decide +kernel
theorem dL_law_182 : decode cL_law 182 = .ok (.iaload, 1) := by decide +kernel
theorem dL_law_183 : decode cL_law 183 = .ok (.aload_n 0, 1) := by decide +kernel
theorem dL_law_184 : decode cL_law 184 = .ok (.iload_n 3, 1) := by decide +kernel
theorem dL_law_185 : decode cL_law 185 = .ok (.iconst 5, 1) := by decide +kernel
theorem dL_law_186 : decode cL_law 186 = .ok (.iadd, 1) := by decide +kernel
theorem dL_law_187 : decode cL_law 187 = .ok (.iaload, 1) := by decide +kernel
theorem dL_law_188 : decode cL_law 188 = .ok (.invokevirtual 30, 3) := by decide +kernel
theorem dL_law_191 : decode cL_law 191 = .ok (.if_icmp .eq 191, 3) := by decide +kernel
theorem dL_law_194 : decode cL_law 194 = .ok (.iconst 0, 1) := by decide +kernel
theorem dL_law_195 : decode cL_law 195 = .ok (.ireturn, 1) := by decide +kernel
theorem dL_law_196 : decode cL_law 196 = .ok (.aload_n 1, 1) := by decide +kernel
theorem dL_law_197 : decode cL_law 197 = .ok (.aload_n 0, 1) := by decide +kernel
theorem dL_law_198 : decode cL_law 198 = .ok (.iload_n 3, 1) := by decide +kernel
theorem dL_law_199 : decode cL_law 199 = .ok (.iconst 1, 1) := by decide +kernel
theorem dL_law_200 : decode cL_law 200 = .ok (.iadd, 1) := by decide +kernel
theorem dL_law_201 : decode cL_law 201 = .ok (.iaload, 1) := by decide +kernel
theorem dL_law_202 : decode cL_law 202 = .ok (.aload_n 0, 1) := by decide +kernel
theorem dL_law_203 : decode cL_law 203 = .ok (.iload_n 3, 1) := by decide +kernel
theorem dL_law_204 : decode cL_law 204 = .ok (.iconst 2, 1) := by decide +kernel
theorem dL_law_205 : decode cL_law 205 = .ok (.iadd, 1) := by decide +kernel
theorem dL_law_206 : decode cL_law 206 = .ok (.iaload, 1) := by decide +kernel
theorem dL_law_207 : decode cL_law 207 = .ok (.invokevirtual 31, 3) := by decide +kernel
theorem dL_law_210 : decode cL_law 210 = .ok (.aload_n 2, 1) := by decide +kernel
theorem dL_law_211 : decode cL_law 211 = .ok (.aload_n 0, 1) := by decide +kernel
theorem dL_law_212 : decode cL_law 212 = .ok (.iload_n 3, 1) := by decide +kernel
theorem dL_law_213 : decode cL_law 213 = .ok (.iconst 1, 1) := by decide +kernel
theorem dL_law_214 : decode cL_law 214 = .ok (.iadd, 1) := by decide +kernel
theorem dL_law_215 : decode cL_law 215 = .ok (.iaload, 1) := by decide +kernel
theorem dL_law_216 : decode cL_law 216 = .ok (.aload_n 0, 1) := by decide +kernel
theorem dL_law_217 : decode cL_law 217 = .ok (.iload_n 3, 1) := by decide +kernel
theorem dL_law_218 : decode cL_law 218 = .ok (.iconst 2, 1) := by decide +kernel
theorem dL_law_219 : decode cL_law 219 = .ok (.iadd, 1) := by decide +kernel
theorem dL_law_220 : decode cL_law 220 = .ok (.iaload, 1) := by decide +kernel
theorem dL_law_221 : decode cL_law 221 = .ok (.invokevirtual 35, 3) := by decide +kernel
theorem dL_law_224 : decode cL_law 224 = .ok (.if_icmp .eq 158, 3) := by decide +kernel
theorem dL_law_227 : decode cL_law 227 = .ok (.iconst 0, 1) := by decide +kernel
theorem dL_law_228 : decode cL_law 228 = .ok (.ireturn, 1) := by decide +kernel
theorem dL_law_229 : decode cL_law 229 = .ok (.aload_n 1, 1) := by decide +kernel
theorem dL_law_230 : decode cL_law 230 = .ok (.invokevirtual 36, 3) := by decide +kernel
theorem dL_law_233 : decode cL_law 233 = .ok (.aload_n 2, 1) := by decide +kernel
theorem dL_law_234 : decode cL_law 234 = .ok (.invokevirtual 40, 3) := by decide +kernel
theorem dL_law_237 : decode cL_law 237 = .ok (.if_icmp .eq 145, 3) := by decide +kernel
theorem dL_law_240 : decode cL_law 240 = .ok (.iconst 0, 1) := by decide +kernel
theorem dL_law_241 : decode cL_law 241 = .ok (.ireturn, 1) := by decide +kernel
theorem dL_law_242 : decode cL_law 242 = .ok (.aload_n 1, 1) := by decide +kernel
theorem dL_law_243 : decode cL_law 243 = .ok (.aload_n 0, 1) := by decide +kernel
theorem dL_law_244 : decode cL_law 244 = .ok (.iload_n 3, 1) := by decide +kernel
theorem dL_law_245 : decode cL_law 245 = .ok (.iconst 1, 1) := by decide +kernel
theorem dL_law_246 : decode cL_law 246 = .ok (.iadd, 1) := by decide +kernel
theorem dL_law_247 : decode cL_law 247 = .ok (.iaload, 1) := by decide +kernel
theorem dL_law_248 : decode cL_law 248 = .ok (.invokevirtual 41, 3) := by decide +kernel
theorem dL_law_251 : decode cL_law 251 = .ok (.aload_n 2, 1) := by decide +kernel
theorem dL_law_252 : decode cL_law 252 = .ok (.aload_n 0, 1) := by decide +kernel
theorem dL_law_253 : decode cL_law 253 = .ok (.iload_n 3, 1) := by decide +kernel
theorem dL_law_254 : decode cL_law 254 = .ok (.iconst 1, 1) := by decide +kernel
theorem dL_law_255 : decode cL_law 255 = .ok (.iadd, 1) := by decide +kernel
theorem dL_law_256 : decode cL_law 256 = .ok (.iaload, 1) := by decide +kernel
theorem dL_law_257 : decode cL_law 257 = .ok (.invokevirtual 45, 3) := by decide +kernel
theorem dL_law_260 : decode cL_law 260 = .ok (.if_icmp .eq 122, 3) := by decide +kernel
theorem dL_law_263 : decode cL_law 263 = .ok (.iconst 0, 1) := by decide +kernel
theorem dL_law_264 : decode cL_law 264 = .ok (.ireturn, 1) := by decide +kernel
theorem dL_law_265 : decode cL_law 265 = .ok (.aload_n 1, 1) := by decide +kernel
theorem dL_law_266 : decode cL_law 266 = .ok (.aload_n 0, 1) := by decide +kernel
theorem dL_law_267 : decode cL_law 267 = .ok (.iload_n 3, 1) := by decide +kernel
theorem dL_law_268 : decode cL_law 268 = .ok (.iconst 1, 1) := by decide +kernel
theorem dL_law_269 : decode cL_law 269 = .ok (.iadd, 1) := by decide +kernel
theorem dL_law_270 : decode cL_law 270 = .ok (.iaload, 1) := by decide +kernel
theorem dL_law_271 : decode cL_law 271 = .ok (.invokevirtual 46, 3) := by decide +kernel
theorem dL_law_274 : decode cL_law 274 = .ok (.aload_n 2, 1) := by decide +kernel
theorem dL_law_275 : decode cL_law 275 = .ok (.aload_n 0, 1) := by decide +kernel
theorem dL_law_276 : decode cL_law 276 = .ok (.iload_n 3, 1) := by decide +kernel
theorem dL_law_277 : decode cL_law 277 = .ok (.iconst 1, 1) := by decide +kernel
theorem dL_law_278 : decode cL_law 278 = .ok (.iadd, 1) := by decide +kernel
theorem dL_law_279 : decode cL_law 279 = .ok (.iaload, 1) := by decide +kernel
theorem dL_law_280 : decode cL_law 280 = .ok (.invokevirtual 49, 3) := by decide +kernel
theorem dL_law_283 : decode cL_law 283 = .ok (.if_icmp .eq 99, 3) := by decide +kernel
theorem dL_law_286 : decode cL_law 286 = .ok (.iconst 0, 1) := by decide +kernel
theorem dL_law_287 : decode cL_law 287 = .ok (.ireturn, 1) := by decide +kernel
theorem dL_law_288 : decode cL_law 288 = .ok (.aload_n 1, 1) := by decide +kernel
theorem dL_law_289 : decode cL_law 289 = .ok (.invokevirtual 50, 3) := by decide +kernel
theorem dL_law_292 : decode cL_law 292 = .ok (.aload_n 2, 1) := by decide +kernel
theorem dL_law_293 : decode cL_law 293 = .ok (.invokevirtual 53, 3) := by decide +kernel
theorem dL_law_296 : decode cL_law 296 = .ok (.if_icmp .eq 86, 3) := by decide +kernel
theorem dL_law_299 : decode cL_law 299 = .ok (.iconst 0, 1) := by decide +kernel
theorem dL_law_300 : decode cL_law 300 = .ok (.ireturn, 1) := by decide +kernel
theorem dL_law_301 : decode cL_law 301 = .ok (.aload_n 1, 1) := by decide +kernel
theorem dL_law_302 : decode cL_law 302 = .ok (.invokevirtual 54, 3) := by decide +kernel
theorem dL_law_305 : decode cL_law 305 = .ok (.aload_n 2, 1) := by decide +kernel
theorem dL_law_306 : decode cL_law 306 = .ok (.invokevirtual 57, 3) := by decide +kernel
theorem dL_law_309 : decode cL_law 309 = .ok (.if_icmp .eq 73, 3) := by decide +kernel
theorem dL_law_312 : decode cL_law 312 = .ok (.iconst 0, 1) := by decide +kernel
theorem dL_law_313 : decode cL_law 313 = .ok (.ireturn, 1) := by decide +kernel
theorem dL_law_314 : decode cL_law 314 = .ok (.aload_n 1, 1) := by decide +kernel
theorem dL_law_315 : decode cL_law 315 = .ok (.aload_n 0, 1) := by decide +kernel
theorem dL_law_316 : decode cL_law 316 = .ok (.iload_n 3, 1) := by decide +kernel
theorem dL_law_317 : decode cL_law 317 = .ok (.iconst 1, 1) := by decide +kernel
theorem dL_law_318 : decode cL_law 318 = .ok (.iadd, 1) := by decide +kernel
theorem dL_law_319 : decode cL_law 319 = .ok (.iaload, 1) := by decide +kernel
theorem dL_law_320 : decode cL_law 320 = .ok (.aload_n 0, 1) := by decide +kernel
theorem dL_law_321 : decode cL_law 321 = .ok (.iload_n 3, 1) := by decide +kernel
theorem dL_law_322 : decode cL_law 322 = .ok (.iconst 2, 1) := by decide +kernel
theorem dL_law_323 : decode cL_law 323 = .ok (.iadd, 1) := by decide +kernel
theorem dL_law_324 : decode cL_law 324 = .ok (.iaload, 1) := by decide +kernel
theorem dL_law_325 : decode cL_law 325 = .ok (.invokevirtual 58, 3) := by decide +kernel
theorem dL_law_328 : decode cL_law 328 = .ok (.aload_n 2, 1) := by decide +kernel
theorem dL_law_329 : decode cL_law 329 = .ok (.aload_n 0, 1) := by decide +kernel
theorem dL_law_330 : decode cL_law 330 = .ok (.iload_n 3, 1) := by decide +kernel
theorem dL_law_331 : decode cL_law 331 = .ok (.iconst 1, 1) := by decide +kernel
theorem dL_law_332 : decode cL_law 332 = .ok (.iadd, 1) := by decide +kernel
theorem dL_law_333 : decode cL_law 333 = .ok (.iaload, 1) := by decide +kernel
theorem dL_law_334 : decode cL_law 334 = .ok (.aload_n 0, 1) := by decide +kernel
theorem dL_law_335 : decode cL_law 335 = .ok (.iload_n 3, 1) := by decide +kernel
theorem dL_law_336 : decode cL_law 336 = .ok (.iconst 2, 1) := by decide +kernel
theorem dL_law_337 : decode cL_law 337 = .ok (.iadd, 1) := by decide +kernel
theorem dL_law_338 : decode cL_law 338 = .ok (.iaload, 1) := by decide +kernel
theorem dL_law_339 : decode cL_law 339 = .ok (.invokevirtual 62, 3) := by decide +kernel
theorem dL_law_342 : decode cL_law 342 = .ok (.lcmp, 1) := by decide +kernel
theorem dL_law_343 : decode cL_law 343 = .ok (.ifCond .eq 39, 3) := by decide +kernel
theorem dL_law_346 : decode cL_law 346 = .ok (.iconst 0, 1) := by decide +kernel
theorem dL_law_347 : decode cL_law 347 = .ok (.ireturn, 1) := by decide +kernel
theorem dL_law_348 : decode cL_law 348 = .ok (.aload_n 1, 1) := by decide +kernel
theorem dL_law_349 : decode cL_law 349 = .ok (.aload_n 0, 1) := by decide +kernel
theorem dL_law_350 : decode cL_law 350 = .ok (.iload_n 3, 1) := by decide +kernel
theorem dL_law_351 : decode cL_law 351 = .ok (.iconst 1, 1) := by decide +kernel
theorem dL_law_352 : decode cL_law 352 = .ok (.iadd, 1) := by decide +kernel
theorem dL_law_353 : decode cL_law 353 = .ok (.iaload, 1) := by decide +kernel
theorem dL_law_354 : decode cL_law 354 = .ok (.invokevirtual 63, 3) := by decide +kernel
theorem dL_law_357 : decode cL_law 357 = .ok (.aload_n 2, 1) := by decide +kernel
theorem dL_law_358 : decode cL_law 358 = .ok (.aload_n 0, 1) := by decide +kernel
theorem dL_law_359 : decode cL_law 359 = .ok (.iload_n 3, 1) := by decide +kernel
theorem dL_law_360 : decode cL_law 360 = .ok (.iconst 1, 1) := by decide +kernel
theorem dL_law_361 : decode cL_law 361 = .ok (.iadd, 1) := by decide +kernel
theorem dL_law_362 : decode cL_law 362 = .ok (.iaload, 1) := by decide +kernel
theorem dL_law_363 : decode cL_law 363 = .ok (.invokevirtual 66, 3) := by decide +kernel
theorem dL_law_366 : decode cL_law 366 = .ok (.if_icmp .eq 16, 3) := by decide +kernel
theorem dL_law_369 : decode cL_law 369 = .ok (.iconst 0, 1) := by decide +kernel
theorem dL_law_370 : decode cL_law 370 = .ok (.ireturn, 1) := by decide +kernel
theorem dL_law_371 : decode cL_law 371 = .ok (.aload_n 1, 1) := by decide +kernel
theorem dL_law_372 : decode cL_law 372 = .ok (.invokevirtual 67, 3) := by decide +kernel
theorem dL_law_375 : decode cL_law 375 = .ok (.aload_n 2, 1) := by decide +kernel
theorem dL_law_376 : decode cL_law 376 = .ok (.invokevirtual 70, 3) := by decide +kernel
theorem dL_law_379 : decode cL_law 379 = .ok (.goto 3, 3) := by decide +kernel
theorem dL_law_382 : decode cL_law 382 = .ok (.iinc 3 6, 3) := by decide +kernel
theorem dL_law_385 : decode cL_law 385 = .ok (.goto (-357), 3) := by decide +kernel
theorem dL_law_388 : decode cL_law 388 = .ok (.iconst 1, 1) := by decide +kernel
theorem dL_law_389 : decode cL_law 389 = .ok (.ireturn, 1) := by decide +kernel
abbrev vwCl : List vw_C := [(RX0, TX0, 4), (RX1, TX1, 9), (RX2, TX2, 15)]
