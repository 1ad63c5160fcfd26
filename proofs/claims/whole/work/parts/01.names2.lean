theorem dX2_put_19 : decode cX2_put 19 = .ok (.getfield 7, 3) := by decide +kernel
theorem dX2_put_22 : decode cX2_put 22 = .ok (.aload_n 0, 1) := by decide +kernel
theorem dX2_put_23 : decode cX2_put 23 = .ok (.getfield 35, 3) := by decide +kernel
theorem dX2_put_26 : decode cX2_put 26 = .ok (.iload_n 1, 1) := by decide +kernel
theorem dX2_put_27 : decode cX2_put 27 = .ok (.iastore, 1) := by decide +kernel
theorem dX2_put_28 : decode cX2_put 28 = .ok (.aload_n 0, 1) := by decide +kernel
theorem dX2_put_29 : decode cX2_put 29 = .ok (.getfield 13, 3) := by decide +kernel
theorem dX2_put_32 : decode cX2_put 32 = .ok (.aload_n 0, 1) := by decide +kernel
theorem dX2_put_33 : decode cX2_put 33 = .ok (.getfield 35, 3) := by decide +kernel
theorem dX2_put_36 : decode cX2_put 36 = .ok (.iload_n 2, 1) := by decide +kernel
theorem dX2_put_37 : decode cX2_put 37 = .ok (.iastore, 1) := by decide +kernel
theorem dX2_put_38 : decode cX2_put 38 = .ok (.aload_n 0, 1) := by decide +kernel
theorem dX2_put_39 : decode cX2_put 39 = .ok (.dup, 1) := by decide +kernel
theorem dX2_put_40 : decode cX2_put 40 = .ok (.getfield 35, 3) := by decide +kernel
theorem dX2_put_43 : decode cX2_put 43 = .ok (.iconst 1, 1) := by decide +kernel
theorem dX2_put_44 : decode cX2_put 44 = .ok (.iadd, 1) := by decide +kernel
theorem dX2_put_45 : decode cX2_put 45 = .ok (.putfield 35, 3) := by decide +kernel
theorem dX2_put_48 : decode cX2_put 48 = .ok (.iconst 1, 1) := by decide +kernel
theorem dX2_put_49 : decode cX2_put 49 = .ok (.ireturn, 1) := by decide +kernel
theorem dX2_fill_0 : decode cX2_fill 0 = .ok (.aload_n 0, 1) := by decide +kernel
theorem dX2_fill_1 : decode cX2_fill 1 = .ok (.iconst 0, 1) := by decide +kernel
theorem dX2_fill_2 : decode cX2_fill 2 = .ok (.putfield 32, 3) := by decide +kernel
theorem dX2_fill_5 : decode cX2_fill 5 = .ok (.iconst 0, 1) := by decide +kernel
theorem dX2_fill_6 : decode cX2_fill 6 = .ok (.istore 6, 2) := by decide +kernel
theorem dX2_fill_8 : decode cX2_fill 8 = .ok (.iload_n 2, 1) := by decide +kernel
theorem dX2_fill_9 : decode cX2_fill 9 = .ok (.istore 7, 2) := by decide +kernel
theorem dX2_fill_11 : decode cX2_fill 11 = .ok (.iload 6, 2) := by decide +kernel
theorem dX2_fill_13 : decode cX2_fill 13 = .ok (.iload_n 1, 1) := by decide +kernel
theorem dX2_fill_14 : decode cX2_fill 14 = .ok (.if_icmp .ge 96, 3) := by decide +kernel
theorem dX2_fill_17 : decode cX2_fill 17 = .ok (.aload_n 0, 1) := by decide +kernel
theorem dX2_fill_18 : decode cX2_fill 18 = .ok (.getfield 35, 3) := by decide +kernel
theorem dX2_fill_21 : decode cX2_fill 21 = .ok (.aload_n 0, 1) := by decide +kernel
theorem dX2_fill_22 : decode cX2_fill 22 = .ok (.getfield 28, 3) := by decide +kernel
theorem dX2_fill_25 : decode cX2_fill 25 = .ok (.if_icmp .ge 85, 3) := by decide +kernel
theorem dX2_fill_28 : decode cX2_fill 28 = .ok (.iload 4, 2) := by decide +kernel
theorem dX2_fill_30 : decode cX2_fill 30 = .ok (.ifCond .le 11, 3) := by decide +kernel
theorem dX2_fill_33 : decode cX2_fill 33 = .ok (.iload 7, 2) := by decide +kernel
theorem dX2_fill_35 : decode cX2_fill 35 = .ok (.iload 4, 2) := by decide +kernel
theorem dX2_fill_37 : decode cX2_fill 37 = .ok (.irem, 1) := by decide +kernel
theorem dX2_fill_38 : decode cX2_fill 38 = .ok (.goto 5, 3) := by decide +kernel
theorem dX2_fill_41 : decode cX2_fill 41 = .ok (.iload 7, 2) := by decide +kernel
theorem dX2_fill_43 : decode cX2_fill 43 = .ok (.istore 8, 2) := by decide +kernel
theorem dX2_fill_45 : decode cX2_fill 45 = .ok (.aload_n 0, 1) := by decide +kernel
theorem dX2_fill_46 : decode cX2_fill 46 = .ok (.getfield 7, 3) := by decide +kernel
theorem dX2_fill_49 : decode cX2_fill 49 = .ok (.aload_n 0, 1) := by decide +kernel
theorem dX2_fill_50 : decode cX2_fill 50 = .ok (.getfield 35, 3) := by decide +kernel
theorem dX2_fill_53 : decode cX2_fill 53 = .ok (.iload 4, 2) := by decide +kernel
theorem dX2_fill_55 : decode cX2_fill 55 = .ok (.ifCond .le 16, 3) := by decide +kernel
theorem dX2_fill_58 : decode cX2_fill 58 = .ok (.iload 8, 2) := by decide +kernel
theorem dX2_fill_60 : decode cX2_fill 60 = .ok (.ifCond .ge 11, 3) := by decide +kernel
theorem dX2_fill_63 : decode cX2_fill 63 = .ok (.iload 8, 2) := by decide +kernel
theorem dX2_fill_65 : decode cX2_fill 65 = .ok (.iload 4, 2) := by decide +kernel
theorem dX2_fill_67 : decode cX2_fill 67 = .ok (.iadd, 1) := by decide +kernel
theorem dX2_fill_68 : decode cX2_fill 68 = .ok (.goto 5, 3) := by decide +kernel
theorem dX2_fill_71 : decode cX2_fill 71 = .ok (.iload 8, 2) := by decide +kernel
theorem dX2_fill_73 : decode cX2_fill 73 = .ok (.iastore, 1) := by decide +kernel
theorem dX2_fill_74 : decode cX2_fill 74 = .ok (.aload_n 0, 1) := by decide +kernel
theorem dX2_fill_75 : decode cX2_fill 75 = .ok (.getfield 13, 3) := by decide +kernel
theorem dX2_fill_78 : decode cX2_fill 78 = .ok (.aload_n 0, 1) := by decide +kernel
theorem dX2_fill_79 : decode cX2_fill 79 = .ok (.getfield 35, 3) := by decide +kernel
theorem dX2_fill_82 : decode cX2_fill 82 = .ok (.iload 5, 2) := by decide +kernel
theorem dX2_fill_84 : decode cX2_fill 84 = .ok (.iload 6, 2) := by decide +kernel
theorem dX2_fill_86 : decode cX2_fill 86 = .ok (.iadd, 1) := by decide +kernel
theorem dX2_fill_87 : decode cX2_fill 87 = .ok (.iastore, 1) := by decide +kernel
theorem dX2_fill_88 : decode cX2_fill 88 = .ok (.aload_n 0, 1) := by decide +kernel
theorem dX2_fill_89 : decode cX2_fill 89 = .ok (.dup, 1) := by decide +kernel
theorem dX2_fill_90 : decode cX2_fill 90 = .ok (.getfield 35, 3) := by decide +kernel
theorem dX2_fill_93 : decode cX2_fill 93 = .ok (.iconst 1, 1) := by decide +kernel
theorem dX2_fill_94 : decode cX2_fill 94 = .ok (.iadd, 1) := by decide +kernel
theorem dX2_fill_95 : decode cX2_fill 95 = .ok (.putfield 35, 3) := by decide +kernel
theorem dX2_fill_98 : decode cX2_fill 98 = .ok (.iinc 6 1, 3) := by decide +kernel
theorem dX2_fill_101 : decode cX2_fill 101 = .ok (.iload 7, 2) := by decide +kernel
theorem dX2_fill_103 : decode cX2_fill 103 = .ok (.iload_n 3, 1) := by decide +kernel
theorem dX2_fill_104 : decode cX2_fill 104 = .ok (.iadd, 1) := by decide +kernel
theorem dX2_fill_105 : decode cX2_fill 105 = .ok (.istore 7, 2) := by decide +kernel
theorem dX2_fill_107 : decode cX2_fill 107 = .ok (.goto (-96), 3) := by decide +kernel
theorem dX2_fill_110 : decode cX2_fill 110 = .ok (.iload 6, 2) := by decide +kernel
theorem dX2_fill_112 : decode cX2_fill 112 = .ok (.ireturn, 1) := by decide +kernel
theorem dX2_turn_0 : decode cX2_turn 0 = .ok (.aload_n 0, 1) := by decide +kernel
theorem dX2_turn_1 : decode cX2_turn 1 = .ok (.iconst 0, 1) := by decide +kernel
theorem dX2_turn_2 : decode cX2_turn 2 = .ok (.putfield 32, 3) := by decide +kernel
theorem dX2_turn_5 : decode cX2_turn 5 = .ok (.iload_n 1, 1) := by decide +kernel
theorem dX2_turn_6 : decode cX2_turn 6 = .ok (.ifCond .lt 25, 3) := by decide +kernel
theorem dX2_turn_9 : decode cX2_turn 9 = .ok (.iload_n 2, 1) := by decide +kernel
theorem dX2_turn_10 : decode cX2_turn 10 = .ok (.ifCond .lt 21, 3) := by decide +kernel
theorem dX2_turn_13 : decode cX2_turn 13 = .ok (.iload_n 1, 1) := by decide +kernel
theorem dX2_turn_14 : decode cX2_turn 14 = .ok (.aload_n 0, 1) := by decide +kernel
theorem dX2_turn_15 : decode cX2_turn 15 = .ok (.getfield 35, 3) := by decide +kernel
theorem dX2_turn_18 : decode cX2_turn 18 = .ok (.if_icmp .gt 13, 3) := by decide +kernel
theorem dX2_turn_21 : decode cX2_turn 21 = .ok (.aload_n 0, 1) := by decide +kernel
theorem dX2_turn_22 : decode cX2_turn 22 = .ok (.getfield 35, 3) := by decide +kernel
theorem dX2_turn_25 : decode cX2_turn 25 = .ok (.iload_n 1, 1) := by decide +kernel
theorem dX2_turn_26 : decode cX2_turn 26 = .ok (.isub, 1) := by decide +kernel
theorem dX2_turn_27 : decode cX2_turn 27 = .ok (.iload_n 2, 1) := by decide +kernel
theorem dX2_turn_28 : decode cX2_turn 28 = .ok (.if_icmp .ge 5, 3) := by decide +kernel
theorem dX2_turn_31 : decode cX2_turn 31 = .ok (.iconst 0, 1) := by decide +kernel
theorem dX2_turn_32 : decode cX2_turn 32 = .ok (.ireturn, 1) := by decide +kernel
theorem dX2_turn_33 : decode cX2_turn 33 = .ok (.iconst 0, 1) := by decide +kernel
theorem dX2_turn_34 : decode cX2_turn 34 = .ok (.istore_n 3, 1) := by decide +kernel
theorem dX2_turn_35 : decode cX2_turn 35 = .ok (.iload_n 3, 1) := by decide +kernel
theorem dX2_turn_36 : decode cX2_turn 36 = .ok (.iload_n 2, 1) := by decide +kernel
theorem dX2_turn_37 : decode cX2_turn 37 = .ok (.if_icmp .ge 37, 3) := by decide +kernel
theorem dX2_turn_40 : decode cX2_turn 40 = .ok (.aload_n 0, 1) := by decide +kernel
theorem dX2_turn_41 : decode cX2_turn 41 = .ok (.getfield 16, 3) := by decide +kernel
theorem dX2_turn_44 : decode cX2_turn 44 = .ok (.iload_n 3, 1) := by decide +kernel
theorem dX2_turn_45 : decode cX2_turn 45 = .ok (.aload_n 0, 1) := by decide +kernel
theorem dX2_turn_46 : decode cX2_turn 46 = .ok (.getfield 7, 3) := by decide +kernel
theorem dX2_turn_49 : decode cX2_turn 49 = .ok (.iload_n 1, 1) := by decide +kernel
theorem dX2_turn_50 : decode cX2_turn 50 = .ok (.iload_n 3, 1) := by decide +kernel
theorem dX2_turn_51 : decode cX2_turn 51 = .ok (.iadd, 1) := by decide +kernel
theorem dX2_turn_52 : decode cX2_turn 52 = .ok (.iaload, 1) := by decide +kernel
theorem dX2_turn_53 : decode cX2_turn 53 = .ok (.iastore, 1) := by decide +kernel
theorem dX2_turn_54 : decode cX2_turn 54 = .ok (.aload_n 0, 1) := by decide +kernel
theorem dX2_turn_55 : decode cX2_turn 55 = .ok (.getfield 19, 3) := by decide +kernel
theorem dX2_turn_58 : decode cX2_turn 58 = .ok (.iload_n 3, 1) := by decide +kernel
theorem dX2_turn_59 : decode cX2_turn 59 = .ok (.aload_n 0, 1) := by decide +kernel
theorem dX2_turn_60 : decode cX2_turn 60 = .ok (.getfield 13, 3) := by decide +kernel
theorem dX2_turn_63 : decode cX2_turn 63 = .ok (.iload_n 1, 1) := by decide +kernel
theorem dX2_turn_64 : decode cX2_turn 64 = .ok (.iload_n 3, 1) := by decide +kernel
theorem dX2_turn_65 : decode cX2_turn 65 = .ok (.iadd, 1) := by decide +kernel
theorem dX2_turn_66 : decode cX2_turn 66 = .ok (.iaload, 1) := by decide +kernel
theorem dX2_turn_67 : decode cX2_turn 67 = .ok (.iastore, 1) := by decide +kernel
theorem dX2_turn_68 : decode cX2_turn 68 = .ok (.iinc 3 1, 3) := by decide +kernel
theorem dX2_turn_71 : decode cX2_turn 71 = .ok (.goto (-36), 3) := by decide +kernel
theorem dX2_turn_74 : decode cX2_turn 74 = .ok (.iconst 0, 1) := by decide +kernel
theorem dX2_turn_75 : decode cX2_turn 75 = .ok (.istore_n 3, 1) := by decide +kernel
theorem dX2_turn_76 : decode cX2_turn 76 = .ok (.iload_n 3, 1) := by decide +kernel
theorem dX2_turn_77 : decode cX2_turn 77 = .ok (.iload_n 2, 1) := by decide +kernel
theorem dX2_turn_78 : decode cX2_turn 78 = .ok (.if_icmp .ge 45, 3) := by decide +kernel
theorem dX2_turn_81 : decode cX2_turn 81 = .ok (.aload_n 0, 1) := by decide +kernel
theorem dX2_turn_82 : decode cX2_turn 82 = .ok (.getfield 7, 3) := by decide +kernel
theorem dX2_turn_85 : decode cX2_turn 85 = .ok (.iload_n 1, 1) := by decide +kernel
theorem dX2_turn_86 : decode cX2_turn 86 = .ok (.iload_n 3, 1) := by decide +kernel
theorem dX2_turn_87 : decode cX2_turn 87 = .ok (.iadd, 1) := by decide +kernel
theorem dX2_turn_88 : decode cX2_turn 88 = .ok (.aload_n 0, 1) := by decide +kernel
theorem dX2_turn_89 : decode cX2_turn 89 = .ok (.getfield 16, 3) := by decide +kernel
theorem dX2_turn_92 : decode cX2_turn 92 = .ok (.iload_n 2, 1) := by decide +kernel
theorem dX2_turn_93 : decode cX2_turn 93 = .ok (.iconst 1, 1) := by decide +kernel
theorem dX2_turn_94 : decode cX2_turn 94 = .ok (.isub, 1) := by decide +kernel
theorem dX2_turn_95 : decode cX2_turn 95 = .ok (.iload_n 3, 1) := by decide +kernel
theorem dX2_turn_96 : decode cX2_turn 96 = .ok (.isub, 1) := by decide +kernel
theorem dX2_turn_97 : decode cX2_turn 97 = .ok (.iaload, 1) := by decide +kernel
theorem dX2_turn_98 : decode cX2_turn 98 = .ok (.iastore, 1) := by decide +kernel
theorem dX2_turn_99 : decode cX2_turn 99 = .ok (.aload_n 0, 1) := by decide +kernel
theorem dX2_turn_100 : decode cX2_turn 100 = .ok (.getfield 13, 3) := by decide +kernel
theorem dX2_turn_103 : decode cX2_turn 103 = .ok (.iload_n 1, 1) := by decide +kernel
theorem dX2_turn_104 : decode cX2_turn 104 = .ok (.iload_n 3, 1) := by decide +kernel
theorem dX2_turn_105 : decode cX2_turn 105 = .ok (.iadd, 1) := by decide +kernel
theorem dX2_turn_106 : decode cX2_turn 106 = .ok (.aload_n 0, 1) := by decide +kernel
theorem dX2_turn_107 : decode cX2_turn 107 = .ok (.getfield 19, 3) := by decide +kernel
theorem dX2_turn_110 : decode cX2_turn 110 = .ok (.iload_n 2, 1) := by decide +kernel
theorem dX2_turn_111 : decode cX2_turn 111 = .ok (.iconst 1, 1) := by decide +kernel
theorem dX2_turn_112 : decode cX2_turn 112 = .ok (.isub, 1) := by decide +kernel
theorem dX2_turn_113 : decode cX2_turn 113 = .ok (.iload_n 3, 1) := by decide +kernel
theorem dX2_turn_114 : decode cX2_turn 114 = .ok (.isub, 1) := by decide +kernel
theorem dX2_turn_115 : decode cX2_turn 115 = .ok (.iaload, 1) := by decide +kernel
theorem dX2_turn_116 : decode cX2_turn 116 = .ok (.iastore, 1) := by decide +kernel
theorem dX2_turn_117 : decode cX2_turn 117 = .ok (.iinc 3 1, 3) := by decide +kernel
theorem dX2_turn_120 : decode cX2_turn 120 = .ok (.goto (-44), 3) := by decide +kernel
theorem dX2_turn_123 : decode cX2_turn 123 = .ok (.iload_n 2, 1) := by decide +kernel
theorem dX2_turn_124 : decode cX2_turn 124 = .ok (.ireturn, 1) := by decide +kernel
theorem dX2_least_0 : decode cX2_least 0 = .ok (.iload_n 0, 1) := by decide +kernel
theorem dX2_least_1 : decode cX2_least 1 = .ok (.istore_n 1, 1) := by decide +kernel
theorem dX2_least_2 : decode cX2_least 2 = .ok (.iconst 0, 1) := by decide +kernel
theorem dX2_least_3 : decode cX2_least 3 = .ok (.istore_n 2, 1) := by decide +kernel
theorem dX2_least_4 : decode cX2_least 4 = .ok (.iload_n 1, 1) := by decide +kernel
theorem dX2_least_5 : decode cX2_least 5 = .ok (.bipush 31, 2) := by decide +kernel
theorem dX2_least_7 : decode cX2_least 7 = .ok (.if_icmp .le 27, 3) := by decide +kernel
theorem dX2_least_10 : decode cX2_least 10 = .ok (.iload_n 2, 1) := by decide +kernel
theorem dX2_least_11 : decode cX2_least 11 = .ok (.ifCond .ne 10, 3) := by decide +kernel
theorem dX2_least_14 : decode cX2_least 14 = .ok (.iload_n 1, 1) := by decide +kernel
theorem dX2_least_15 : decode cX2_least 15 = .ok (.iconst 2, 1) := by decide +kernel
theorem dX2_least_16 : decode cX2_least 16 = .ok (.irem, 1) := by decide +kernel
theorem dX2_least_17 : decode cX2_least 17 = .ok (.iconst 1, 1) := by decide +kernel
theorem dX2_least_18 : decode cX2_least 18 = .ok (.if_icmp .ne 7, 3) := by decide +kernel
theorem dX2_least_21 : decode cX2_least 21 = .ok (.iconst 1, 1) := by decide +kernel
theorem dX2_least_22 : decode cX2_least 22 = .ok (.goto 4, 3) := by decide +kernel
theorem dX2_least_25 : decode cX2_least 25 = .ok (.iconst 0, 1) := by decide +kernel
theorem dX2_least_26 : decode cX2_least 26 = .ok (.istore_n 2, 1) := by decide +kernel
theorem dX2_least_27 : decode cX2_least 27 = .ok (.iload_n 1, 1) := by decide +kernel
theorem dX2_least_28 : decode cX2_least 28 = .ok (.iconst 2, 1) := by decide +kernel
theorem dX2_least_29 : decode cX2_least 29 = .ok (.idiv, 1) := by decide +kernel
theorem dX2_least_30 : decode cX2_least 30 = .ok (.istore_n 1, 1) := by decide +kernel
theorem dX2_least_31 : decode cX2_least 31 = .ok (.goto (-27), 3) := by decide +kernel
theorem dX2_least_34 : decode cX2_least 34 = .ok (.iload_n 2, 1) := by decide +kernel
theorem dX2_least_35 : decode cX2_least 35 = .ok (.ifCond .eq 9, 3) := by decide +kernel
theorem dX2_least_38 : decode cX2_least 38 = .ok (.iload_n 1, 1) := by decide +kernel
theorem dX2_least_39 : decode cX2_least 39 = .ok (.iconst 1, 1) := by decide +kernel
theorem dX2_least_40 : decode cX2_least 40 = .ok (.iadd, 1) := by decide +kernel
theorem dX2_least_41 : decode cX2_least 41 = .ok (.goto 4, 3) := by decide +kernel
theorem dX2_least_44 : decode cX2_least 44 = .ok (.iload_n 1, 1) := by decide +kernel
theorem dX2_least_45 : decode cX2_least 45 = .ok (.ireturn, 1) := by decide +kernel
theorem dX2_found_0 : decode cX2_found 0 = .ok (.iconst 1, 1) := by decide +kernel
theorem dX2_found_1 : decode cX2_found 1 = .ok (.istore_n 2, 1) := by decide +kernel
theorem dX2_found_2 : decode cX2_found 2 = .ok (.iload_n 1, 1) := by decide +kernel
theorem dX2_found_3 : decode cX2_found 3 = .ok (.iconst 1, 1) := by decide +kernel
theorem dX2_found_4 : decode cX2_found 4 = .ok (.iadd, 1) := by decide +kernel
theorem dX2_found_5 : decode cX2_found 5 = .ok (.aload_n 0, 1) := by decide +kernel
theorem dX2_found_6 : decode cX2_found 6 = .ok (.getfield 35, 3) := by decide +kernel
theorem dX2_found_9 : decode cX2_found 9 = .ok (.if_icmp .ge 57, 3) := by decide +kernel
theorem dX2_found_12 : decode cX2_found 12 = .ok (.aload_n 0, 1) := by decide +kernel
theorem dX2_found_13 : decode cX2_found 13 = .ok (.getfield 7, 3) := by decide +kernel
theorem dX2_found_16 : decode cX2_found 16 = .ok (.iload_n 1, 1) := by decide +kernel
theorem dX2_found_17 : decode cX2_found 17 = .ok (.iconst 1, 1) := by decide +kernel
theorem dX2_found_18 : decode cX2_found 18 = .ok (.iadd, 1) := by decide +kernel
theorem dX2_found_19 : decode cX2_found 19 = .ok (.iaload, 1) := by decide +kernel
theorem dX2_found_20 : decode cX2_found 20 = .ok (.aload_n 0, 1) := by decide +kernel
theorem dX2_found_21 : decode cX2_found 21 = .ok (.getfield 7, 3) := by decide +kernel
theorem dX2_found_24 : decode cX2_found 24 = .ok (.iload_n 1, 1) := by decide +kernel
theorem dX2_found_25 : decode cX2_found 25 = .ok (.iaload, 1) := by decide +kernel
theorem dX2_found_26 : decode cX2_found 26 = .ok (.if_icmp .ge 40, 3) := by decide +kernel
theorem dX2_found_29 : decode cX2_found 29 = .ok (.iload_n 1, 1) := by decide +kernel
theorem dX2_found_30 : decode cX2_found 30 = .ok (.iload_n 2, 1) := by decide +kernel
theorem dX2_found_31 : decode cX2_found 31 = .ok (.iadd, 1) := by decide +kernel
theorem dX2_found_32 : decode cX2_found 32 = .ok (.aload_n 0, 1) := by decide +kernel
theorem dX2_found_33 : decode cX2_found 33 = .ok (.getfield 35, 3) := by decide +kernel
theorem dX2_found_36 : decode cX2_found 36 = .ok (.if_icmp .ge 67, 3) := by decide +kernel
theorem dX2_found_39 : decode cX2_found 39 = .ok (.aload_n 0, 1) := by decide +kernel
theorem dX2_found_40 : decode cX2_found 40 = .ok (.getfield 7, 3) := by decide +kernel
theorem dX2_found_43 : decode cX2_found 43 = .ok (.iload_n 1, 1) := by decide +kernel
theorem dX2_found_44 : decode cX2_found 44 = .ok (.iload_n 2, 1) := by decide +kernel
theorem dX2_found_45 : decode cX2_found 45 = .ok (.iadd, 1) := by decide +kernel
theorem dX2_found_46 : decode cX2_found 46 = .ok (.iaload, 1) := by decide +kernel
theorem dX2_found_47 : decode cX2_found 47 = .ok (.aload_n 0, 1) := by decide +kernel
theorem dX2_found_48 : decode cX2_found 48 = .ok (.getfield 7, 3) := by decide +kernel
theorem dX2_found_51 : decode cX2_found 51 = .ok (.iload_n 1, 1) := by decide +kernel
theorem dX2_found_52 : decode cX2_found 52 = .ok (.iload_n 2, 1) := by decide +kernel
theorem dX2_found_53 : decode cX2_found 53 = .ok (.iadd, 1) := by decide +kernel
theorem dX2_found_54 : decode cX2_found 54 = .ok (.iconst 1, 1) := by decide +kernel
theorem dX2_found_55 : decode cX2_found 55 = .ok (.isub, 1) := by decide +kernel
theorem dX2_found_56 : decode cX2_found 56 = .ok (.iaload, 1) := by decide +kernel
theorem dX2_found_57 : decode cX2_found 57 = .ok (.if_icmp .ge 46, 3) := by decide +kernel
theorem dX2_found_60 : decode cX2_found 60 = .ok (.iinc 2 1, 3) := by decide +kernel
theorem dX2_found_63 : decode cX2_found 63 = .ok (.goto (-34), 3) := by decide +kernel
theorem dX2_found_66 : decode cX2_found 66 = .ok (.iload_n 1, 1) := by decide +kernel
theorem dX2_found_67 : decode cX2_found 67 = .ok (.iload_n 2, 1) := by decide +kernel
theorem dX2_found_68 : decode cX2_found 68 = .ok (.iadd, 1) := by decide +kernel
theorem dX2_found_69 : decode cX2_found 69 = .ok (.aload_n 0, 1) := by decide +kernel
theorem dX2_found_70 : decode cX2_found 70 = .ok (.getfield 35, 3) := by decide +kernel
theorem dX2_found_73 : decode cX2_found 73 = .ok (.if_icmp .ge 30, 3) := by decide +kernel
theorem dX2_found_76 : decode cX2_found 76 = .ok (.aload_n 0, 1) := by decide +kernel
theorem dX2_found_77 : decode cX2_found 77 = .ok (.getfield 7, 3) := by decide +kernel
theorem dX2_found_80 : decode cX2_found 80 = .ok (.iload_n 1, 1) := by decide +kernel
theorem dX2_found_81 : decode cX2_found 81 = .ok (.iload_n 2, 1) := by decide +kernel
theorem dX2_found_82 : decode cX2_found 82 = .ok (.iadd, 1) := by decide +kernel
theorem dX2_found_83 : decode cX2_found 83 = .ok (.iaload, 1) := by decide +kernel
theorem dX2_found_84 : decode cX2_found 84 = .ok (.aload_n 0, 1) := by decide +kernel
theorem dX2_found_85 : decode cX2_found 85 = .ok (.getfield 7, 3) := by decide +kernel
theorem dX2_found_88 : decode cX2_found 88 = .ok (.iload_n 1, 1) := by decide +kernel
theorem dX2_found_89 : decode cX2_found 89 = .ok (.iload_n 2, 1) := by decide +kernel
theorem dX2_found_90 : decode cX2_found 90 = .ok (.iadd, 1) := by decide +kernel
theorem dX2_found_91 : decode cX2_found 91 = .ok (.iconst 1, 1) := by decide +kernel
theorem dX2_found_92 : decode cX2_found 92 = .ok (.isub, 1) := by decide +kernel
theorem dX2_found_93 : decode cX2_found 93 = .ok (.iaload, 1) := by decide +kernel
theorem dX2_found_94 : decode cX2_found 94 = .ok (.if_icmp .lt 9, 3) := by decide +kernel
theorem dX2_found_97 : decode cX2_found 97 = .ok (.iinc 2 1, 3) := by decide +kernel
theorem dX2_found_100 : decode cX2_found 100 = .ok (.goto (-34), 3) := by decide +kernel
theorem dX2_found_103 : decode cX2_found 103 = .ok (.iload_n 2, 1) := by decide +kernel
theorem dX2_found_104 : decode cX2_found 104 = .ok (.ireturn, 1) := by decide +kernel
theorem dX2_join_0 : decode cX2_join 0 = .ok (.aload_n 0, 1) := by decide +kernel
theorem dX2_join_1 : decode cX2_join 1 = .ok (.dup, 1) := by decide +kernel
theorem dX2_join_2 : decode cX2_join 2 = .ok (.getfield 38, 3) := by decide +kernel
theorem dX2_join_5 : decode cX2_join 5 = .ok (.iconst 1, 1) := by decide +kernel
theorem dX2_join_6 : decode cX2_join 6 = .ok (.iadd, 1) := by decide +kernel
theorem dX2_join_7 : decode cX2_join 7 = .ok (.putfield 38, 3) := by decide +kernel
theorem dX2_join_10 : decode cX2_join 10 = .ok (.aload_n 0, 1) := by decide +kernel
theorem dX2_join_11 : decode cX2_join 11 = .ok (.aload_n 0, 1) := by decide +kernel
theorem dX2_join_12 : decode cX2_join 12 = .ok (.getfield 41, 3) := by decide +kernel
theorem dX2_join_15 : decode cX2_join 15 = .ok (.aload_n 0, 1) := by decide +kernel
theorem dX2_join_16 : decode cX2_join 16 = .ok (.getfield 25, 3) := by decide +kernel
theorem dX2_join_19 : decode cX2_join 19 = .ok (.iload_n 1, 1) := by decide +kernel
theorem dX2_join_20 : decode cX2_join 20 = .ok (.iaload, 1) := by decide +kernel
theorem dX2_join_21 : decode cX2_join 21 = .ok (.i2l, 1) := by decide +kernel
theorem dX2_join_22 : decode cX2_join 22 = .ok (.ladd, 1) := by decide +kernel
theorem dX2_join_23 : decode cX2_join 23 = .ok (.aload_n 0, 1) := by decide +kernel
theorem dX2_join_24 : decode cX2_join 24 = .ok (.getfield 25, 3) := by decide +kernel
theorem dX2_join_27 : decode cX2_join 27 = .ok (.iload_n 1, 1) := by decide +kernel
theorem dX2_join_28 : decode cX2_join 28 = .ok (.iconst 1, 1) := by decide +kernel
theorem dX2_join_29 : decode cX2_join 29 = .ok (.iadd, 1) := by decide +kernel
theorem dX2_join_30 : decode cX2_join 30 = .ok (.iaload, 1) := by decide +kernel
theorem dX2_join_31 : decode cX2_join 31 = .ok (.i2l, 1) := by decide +kernel
theorem dX2_join_32 : decode cX2_join 32 = .ok (.ladd, 1) := by decide +kernel
theorem dX2_join_33 : decode cX2_join 33 = .ok (.putfield 41, 3) := by decide +kernel
theorem dX2_join_36 : decode cX2_join 36 = .ok (.aload_n 0, 1) := by decide +kernel
theorem dX2_join_37 : decode cX2_join 37 = .ok (.getfield 25, 3) := by decide +kernel
theorem dX2_join_40 : decode cX2_join 40 = .ok (.iload_n 1, 1) := by decide +kernel
theorem dX2_join_41 : decode cX2_join 41 = .ok (.aload_n 0, 1) := by decide +kernel
theorem dX2_join_42 : decode cX2_join 42 = .ok (.getfield 25, 3) := by decide +kernel
theorem dX2_join_45 : decode cX2_join 45 = .ok (.iload_n 1, 1) := by decide +kernel
theorem dX2_join_46 : decode cX2_join 46 = .ok (.iaload, 1) := by decide +kernel
theorem dX2_join_47 : decode cX2_join 47 = .ok (.aload_n 0, 1) := by decide +kernel
theorem dX2_join_48 : decode cX2_join 48 = .ok (.getfield 25, 3) := by decide +kernel
theorem dX2_join_51 : decode cX2_join 51 = .ok (.iload_n 1, 1) := by decide +kernel
theorem dX2_join_52 : decode cX2_join 52 = .ok (.iconst 1, 1) := by decide +kernel
theorem dX2_join_53 : decode cX2_join 53 = .ok (.iadd, 1) := by decide +kernel
theorem dX2_join_54 : decode cX2_join 54 = .ok (.iaload, 1) := by decide +kernel
theorem dX2_join_55 : decode cX2_join 55 = .ok (.iadd, 1) := by decide +kernel
theorem dX2_join_56 : decode cX2_join 56 = .ok (.iastore, 1) := by decide +kernel
theorem dX2_join_57 : decode cX2_join 57 = .ok (.iload_n 1, 1) := by decide +kernel
theorem dX2_join_58 : decode cX2_join 58 = .ok (.iconst 1, 1) := by decide +kernel
theorem dX2_join_59 : decode cX2_join 59 = .ok (.iadd, 1) := by decide +kernel
theorem dX2_join_60 : decode cX2_join 60 = .ok (.istore_n 2, 1) := by decide +kernel
theorem dX2_join_61 : decode cX2_join 61 = .ok (.iload_n 2, 1) := by decide +kernel
theorem dX2_join_62 : decode cX2_join 62 = .ok (.iconst 1, 1) := by decide +kernel
theorem dX2_join_63 : decode cX2_join 63 = .ok (.iadd, 1) := by decide +kernel
theorem dX2_join_64 : decode cX2_join 64 = .ok (.aload_n 0, 1) := by decide +kernel
theorem dX2_join_65 : decode cX2_join 65 = .ok (.getfield 45, 3) := by decide +kernel
theorem dX2_join_68 : decode cX2_join 68 = .ok (.if_icmp .ge 23, 3) := by decide +kernel
theorem dX2_join_71 : decode cX2_join 71 = .ok (.aload_n 0, 1) := by decide +kernel
theorem dX2_join_72 : decode cX2_join 72 = .ok (.getfield 25, 3) := by decide +kernel
theorem dX2_join_75 : decode cX2_join 75 = .ok (.iload_n 2, 1) := by decide +kernel
theorem dX2_join_76 : decode cX2_join 76 = .ok (.aload_n 0, 1) := by decide +kernel
theorem dX2_join_77 : decode cX2_join 77 = .ok (.getfield 25, 3) := by decide +kernel
theorem dX2_join_80 : decode cX2_join 80 = .ok (.iload_n 2, 1) := by decide +kernel
theorem dX2_join_81 : decode cX2_join 81 = .ok (.iconst 1, 1) := by decide +kernel
theorem dX2_join_82 : decode cX2_join 82 = .ok (.iadd, 1) := by decide +kernel
theorem dX2_join_83 : decode cX2_join 83 = .ok (.iaload, 1) := by decide +kernel
theorem dX2_join_84 : decode cX2_join 84 = .ok (.iastore, 1) := by decide +kernel
theorem dX2_join_85 : decode cX2_join 85 = .ok (.iinc 2 1, 3) := by decide +kernel
theorem dX2_join_88 : decode cX2_join 88 = .ok (.goto (-27), 3) := by decide +kernel
theorem dX2_join_91 : decode cX2_join 91 = .ok (.aload_n 0, 1) := by decide +kernel
theorem dX2_join_92 : decode cX2_join 92 = .ok (.dup, 1) := by decide +kernel
theorem dX2_join_93 : decode cX2_join 93 = .ok (.getfield 45, 3) := by decide +kernel
theorem dX2_join_96 : decode cX2_join 96 = .ok (.iconst 1, 1) := by decide +kernel
theorem dX2_join_97 : decode cX2_join 97 = .ok (.isub, 1) := by decide +kernel
theorem dX2_join_98 : decode cX2_join 98 = .ok (.putfield 45, 3) := by decide +kernel
theorem dX2_join_101 : decode cX2_join 101 = .ok (.return_, 1) := by decide +kernel
theorem dX2_fromTop_0 : decode cX2_fromTop 0 = .ok (.aload_n 0, 1) := by decide +kernel
theorem dX2_fromTop_1 : decode cX2_fromTop 1 = .ok (.getfield 25, 3) := by decide +kernel
theorem dX2_fromTop_4 : decode cX2_fromTop 4 = .ok (.aload_n 0, 1) := by decide +kernel
theorem dX2_fromTop_5 : decode cX2_fromTop 5 = .ok (.getfield 45, 3) := by decide +kernel
theorem dX2_fromTop_8 : decode cX2_fromTop 8 = .ok (.iconst 1, 1) := by decide +kernel
theorem dX2_fromTop_9 : decode cX2_fromTop 9 = .ok (.isub, 1) := by decide +kernel
theorem dX2_fromTop_10 : decode cX2_fromTop 10 = .ok (.iload_n 1, 1) := by decide +kernel
theorem dX2_fromTop_11 : decode cX2_fromTop 11 = .ok (.isub, 1) := by decide +kernel
theorem dX2_fromTop_12 : decode cX2_fromTop 12 = .ok (.iaload, 1) := by decide +kernel
theorem dX2_fromTop_13 : decode cX2_fromTop 13 = .ok (.ireturn, 1) := by decide +kernel
set_option maxRecDepth 20000 in
theorem ggX2_isBrought_X2_fromTop : GoodIn wsX2_isBrought wsX2_fromTop := goodIn_r _ [6, 7, 1, 14, 15, 16, 17, 18, 19, 20, 21, 22, 23, 24, 25, 26, 27, 28] (by decide +kernel) (by decide +kernel)
set_option maxRecDepth 20000 in
theorem gX2_isBrought_X2_fromTop : GoodIn wsX2_isBrought (wsV RX2 48 RX2 yX2_fromTop wsX2_fromTop) := goodIn_app (goodIn_of _ (by decide +kernel)) ggX2_isBrought_X2_fromTop
set_option maxRecDepth 20000 in
theorem ggX2_isBrought_X2_join : GoodIn wsX2_isBrought wsX2_join := goodIn_r _ [11, 12, 13, 7, 1, 14, 15, 16, 17, 18, 19, 20, 21, 22, 23, 24, 25, 26, 27, 28] (by decide +kernel) (by decide +kernel)
set_option maxRecDepth 20000 in
theorem gX2_isBrought_X2_join : GoodIn wsX2_isBrought (wsV RX2 52 RX2 yX2_join wsX2_join) := goodIn_app (goodIn_of _ (by decide +kernel)) ggX2_isBrought_X2_join
theorem dX2_isBrought_0 : decode cX2_isBrought 0 = .ok (.aload_n 0, 1) := by decide +kernel
theorem dX2_isBrought_1 : decode cX2_isBrought 1 = .ok (.getfield 45, 3) := by decide +kernel
theorem dX2_isBrought_4 : decode cX2_isBrought 4 = .ok (.iconst 2, 1) := by decide +kernel
theorem dX2_isBrought_5 : decode cX2_isBrought 5 = .ok (.if_icmp .ge 5, 3) := by decide +kernel
theorem dX2_isBrought_8 : decode cX2_isBrought 8 = .ok (.iconst 0, 1) := by decide +kernel
theorem dX2_isBrought_9 : decode cX2_isBrought 9 = .ok (.ireturn, 1) := by decide +kernel
theorem dX2_isBrought_10 : decode cX2_isBrought 10 = .ok (.aload_n 0, 1) := by decide +kernel
theorem dX2_isBrought_11 : decode cX2_isBrought 11 = .ok (.iconst 0, 1) := by decide +kernel
theorem dX2_isBrought_12 : decode cX2_isBrought 12 = .ok (.invokevirtual 48, 3) := by decide +kernel
theorem dX2_isBrought_15 : decode cX2_isBrought 15 = .ok (.istore_n 1, 1) := by decide +kernel
theorem dX2_isBrought_16 : decode cX2_isBrought 16 = .ok (.aload_n 0, 1) := by decide +kernel
theorem dX2_isBrought_17 : decode cX2_isBrought 17 = .ok (.iconst 1, 1) := by decide +kernel
theorem dX2_isBrought_18 : decode cX2_isBrought 18 = .ok (.invokevirtual 48, 3) := by decide +kernel
theorem dX2_isBrought_21 : decode cX2_isBrought 21 = .ok (.istore_n 2, 1) := by decide +kernel
theorem dX2_isBrought_22 : decode cX2_isBrought 22 = .ok (.aload_n 0, 1) := by decide +kernel
theorem dX2_isBrought_23 : decode cX2_isBrought 23 = .ok (.getfield 45, 3) := by decide +kernel
theorem dX2_isBrought_26 : decode cX2_isBrought 26 = .ok (.iconst 2, 1) := by decide +kernel
theorem dX2_isBrought_27 : decode cX2_isBrought 27 = .ok (.if_icmp .le 14, 3) := by decide +kernel
theorem dX2_isBrought_30 : decode cX2_isBrought 30 = .ok (.aload_n 0, 1) := by decide +kernel
theorem dX2_isBrought_31 : decode cX2_isBrought 31 = .ok (.iconst 2, 1) := by decide +kernel
theorem dX2_isBrought_32 : decode cX2_isBrought 32 = .ok (.invokevirtual 48, 3) := by decide +kernel
theorem dX2_isBrought_35 : decode cX2_isBrought 35 = .ok (.iload_n 2, 1) := by decide +kernel
theorem dX2_isBrought_36 : decode cX2_isBrought 36 = .ok (.iload_n 1, 1) := by decide +kernel
theorem dX2_isBrought_37 : decode cX2_isBrought 37 = .ok (.iadd, 1) := by decide +kernel
theorem dX2_isBrought_38 : decode cX2_isBrought 38 = .ok (.if_icmp .le 26, 3) := by decide +kernel
theorem dX2_isBrought_41 : decode cX2_isBrought 41 = .ok (.aload_n 0, 1) := by decide +kernel
theorem dX2_isBrought_42 : decode cX2_isBrought 42 = .ok (.getfield 45, 3) := by decide +kernel
theorem dX2_isBrought_45 : decode cX2_isBrought 45 = .ok (.iconst 3, 1) := by decide +kernel
theorem dX2_isBrought_46 : decode cX2_isBrought 46 = .ok (.if_icmp .le 22, 3) := by decide +kernel
theorem dX2_isBrought_49 : decode cX2_isBrought 49 = .ok (.aload_n 0, 1) := by decide +kernel
theorem dX2_isBrought_50 : decode cX2_isBrought 50 = .ok (.iconst 3, 1) := by decide +kernel
theorem dX2_isBrought_51 : decode cX2_isBrought 51 = .ok (.invokevirtual 48, 3) := by decide +kernel
theorem dX2_isBrought_54 : decode cX2_isBrought 54 = .ok (.aload_n 0, 1) := by decide +kernel
theorem dX2_isBrought_55 : decode cX2_isBrought 55 = .ok (.iconst 2, 1) := by decide +kernel
theorem dX2_isBrought_56 : decode cX2_isBrought 56 = .ok (.invokevirtual 48, 3) := by decide +kernel
theorem dX2_isBrought_59 : decode cX2_isBrought 59 = .ok (.iload_n 2, 1) := by decide +kernel
theorem dX2_isBrought_60 : decode cX2_isBrought 60 = .ok (.iadd, 1) := by decide +kernel
theorem dX2_isBrought_61 : decode cX2_isBrought 61 = .ok (.if_icmp .gt 7, 3) := by decide +kernel
theorem dX2_isBrought_64 : decode cX2_isBrought 64 = .ok (.iconst 1, 1) := by decide +kernel
theorem dX2_isBrought_65 : decode cX2_isBrought 65 = .ok (.goto 4, 3) := by decide +kernel
theorem dX2_isBrought_68 : decode cX2_isBrought 68 = .ok (.iconst 0, 1) := by decide +kernel
theorem dX2_isBrought_69 : decode cX2_isBrought 69 = .ok (.istore_n 3, 1) := by decide +kernel
theorem dX2_isBrought_70 : decode cX2_isBrought 70 = .ok (.iload_n 3, 1) := by decide +kernel
theorem dX2_isBrought_71 : decode cX2_isBrought 71 = .ok (.ifCond .eq 24, 3) := by decide +kernel
theorem dX2_isBrought_74 : decode cX2_isBrought 74 = .ok (.aload_n 0, 1) := by decide +kernel
theorem dX2_isBrought_75 : decode cX2_isBrought 75 = .ok (.iconst 2, 1) := by decide +kernel
theorem dX2_isBrought_76 : decode cX2_isBrought 76 = .ok (.invokevirtual 48, 3) := by decide +kernel
theorem dX2_isBrought_79 : decode cX2_isBrought 79 = .ok (.iload_n 1, 1) := by decide +kernel
theorem dX2_isBrought_80 : decode cX2_isBrought 80 = .ok (.if_icmp .ge 15, 3) := by decide +kernel
theorem dX2_isBrought_83 : decode cX2_isBrought 83 = .ok (.aload_n 0, 1) := by decide +kernel
theorem dX2_isBrought_84 : decode cX2_isBrought 84 = .ok (.aload_n 0, 1) := by decide +kernel
theorem dX2_isBrought_85 : decode cX2_isBrought 85 = .ok (.getfield 45, 3) := by decide +kernel
theorem dX2_isBrought_88 : decode cX2_isBrought 88 = .ok (.iconst 3, 1) := by decide +kernel
theorem dX2_isBrought_89 : decode cX2_isBrought 89 = .ok (.isub, 1) := by decide +kernel
theorem dX2_isBrought_90 : decode cX2_isBrought 90 = .ok (.invokevirtual 52, 3) := by decide +kernel
theorem dX2_isBrought_93 : decode cX2_isBrought 93 = .ok (.iconst 1, 1) := by decide +kernel
theorem dX2_isBrought_94 : decode cX2_isBrought 94 = .ok (.ireturn, 1) := by decide +kernel
theorem dX2_isBrought_95 : decode cX2_isBrought 95 = .ok (.iload_n 3, 1) := by decide +kernel
theorem dX2_isBrought_96 : decode cX2_isBrought 96 = .ok (.ifCond .ne 8, 3) := by decide +kernel
theorem dX2_isBrought_99 : decode cX2_isBrought 99 = .ok (.iload_n 2, 1) := by decide +kernel
theorem dX2_isBrought_100 : decode cX2_isBrought 100 = .ok (.iload_n 1, 1) := by decide +kernel
theorem dX2_isBrought_101 : decode cX2_isBrought 101 = .ok (.if_icmp .gt 15, 3) := by decide +kernel
theorem dX2_isBrought_104 : decode cX2_isBrought 104 = .ok (.aload_n 0, 1) := by decide +kernel
theorem dX2_isBrought_105 : decode cX2_isBrought 105 = .ok (.aload_n 0, 1) := by decide +kernel
theorem dX2_isBrought_106 : decode cX2_isBrought 106 = .ok (.getfield 45, 3) := by decide +kernel
theorem dX2_isBrought_109 : decode cX2_isBrought 109 = .ok (.iconst 2, 1) := by decide +kernel
theorem dX2_isBrought_110 : decode cX2_isBrought 110 = .ok (.isub, 1) := by decide +kernel
theorem dX2_isBrought_111 : decode cX2_isBrought 111 = .ok (.invokevirtual 52, 3) := by decide +kernel
theorem dX2_isBrought_114 : decode cX2_isBrought 114 = .ok (.iconst 1, 1) := by decide +kernel
theorem dX2_isBrought_115 : decode cX2_isBrought 115 = .ok (.ireturn, 1) := by decide +kernel
theorem dX2_isBrought_116 : decode cX2_isBrought 116 = .ok (.iconst 0, 1) := by decide +kernel
theorem dX2_isBrought_117 : decode cX2_isBrought 117 = .ok (.ireturn, 1) := by decide +kernel
set_option maxRecDepth 20000 in
theorem ggX2_lookForRuns_X2_least : GoodIn wsX2_lookForRuns wsX2_least := goodIn_r _ [10] (by decide +kernel) (by decide +kernel)
set_option maxRecDepth 20000 in
theorem gX2_lookForRuns_X2_least : GoodIn wsX2_lookForRuns (va_wsS RX2 56 yX2_least wsX2_least) := goodIn_app (goodIn_of _ (by decide +kernel)) ggX2_lookForRuns_X2_least
set_option maxRecDepth 20000 in
theorem ggX2_lookForRuns_X2_found : GoodIn wsX2_lookForRuns wsX2_found := goodIn_r _ [14, 1, 15, 30, 31, 32, 33, 34, 35, 36, 37, 38, 39, 40, 41, 42, 43, 44] (by decide +kernel) (by decide +kernel)
set_option maxRecDepth 20000 in
theorem gX2_lookForRuns_X2_found : GoodIn wsX2_lookForRuns (wsV RX2 59 RX2 yX2_found wsX2_found) := goodIn_app (goodIn_of _ (by decide +kernel)) ggX2_lookForRuns_X2_found
set_option maxRecDepth 20000 in
theorem ggX2_lookForRuns_X2_isBrought : GoodIn wsX2_lookForRuns wsX2_isBrought := goodIn_r _ [19, 5, 20, 21, 22, 9, 23, 4, 24, 25, 26, 27, 28, 29, 30, 31, 32, 33, 34, 35, 36, 37, 38, 39, 40, 41, 42, 43, 44] (by decide +kernel) (by decide +kernel)
set_option maxRecDepth 20000 in
theorem gX2_lookForRuns_X2_isBrought : GoodIn wsX2_lookForRuns (wsV RX2 68 RX2 yX2_isBrought wsX2_isBrought) := goodIn_app (goodIn_of _ (by decide +kernel)) ggX2_lookForRuns_X2_isBrought
set_option maxRecDepth 20000 in
theorem ggX2_lookForRuns_X2_fromTop : GoodIn wsX2_lookForRuns wsX2_fromTop := goodIn_r _ [23, 4, 5, 30, 31, 32, 33, 34, 35, 36, 37, 38, 39, 40, 41, 42, 43, 44] (by decide +kernel) (by decide +kernel)
set_option maxRecDepth 20000 in
theorem gX2_lookForRuns_X2_fromTop : GoodIn wsX2_lookForRuns (wsV RX2 48 RX2 yX2_fromTop wsX2_fromTop) := goodIn_app (goodIn_of _ (by decide +kernel)) ggX2_lookForRuns_X2_fromTop
set_option maxRecDepth 20000 in
theorem ggX2_lookForRuns_X2_join : GoodIn wsX2_lookForRuns wsX2_join := goodIn_r _ [27, 28, 29, 4, 5, 30, 31, 32, 33, 34, 35, 36, 37, 38, 39, 40, 41, 42, 43, 44] (by decide +kernel) (by decide +kernel)
set_option maxRecDepth 20000 in
theorem gX2_lookForRuns_X2_join : GoodIn wsX2_lookForRuns (wsV RX2 52 RX2 yX2_join wsX2_join) := goodIn_app (goodIn_of _ (by decide +kernel)) ggX2_lookForRuns_X2_join
theorem dX2_lookForRuns_0 : decode cX2_lookForRuns 0 = .ok (.aload_n 0, 1) := by decide +kernel
theorem dX2_lookForRuns_1 : decode cX2_lookForRuns 1 = .ok (.getfield 35, 3) := by decide +kernel
theorem dX2_lookForRuns_4 : decode cX2_lookForRuns 4 = .ok (.invokestatic 56, 3) := by decide +kernel
theorem dX2_lookForRuns_7 : decode cX2_lookForRuns 7 = .ok (.istore_n 1, 1) := by decide +kernel
theorem dX2_lookForRuns_8 : decode cX2_lookForRuns 8 = .ok (.iconst 0, 1) := by decide +kernel
theorem dX2_lookForRuns_9 : decode cX2_lookForRuns 9 = .ok (.istore_n 2, 1) := by decide +kernel
theorem dX2_lookForRuns_10 : decode cX2_lookForRuns 10 = .ok (.iload_n 2, 1) := by decide +kernel
theorem dX2_lookForRuns_11 : decode cX2_lookForRuns 11 = .ok (.aload_n 0, 1) := by decide +kernel
theorem dX2_lookForRuns_12 : decode cX2_lookForRuns 12 = .ok (.getfield 35, 3) := by decide +kernel
theorem dX2_lookForRuns_15 : decode cX2_lookForRuns 15 = .ok (.if_icmp .ge 133, 3) := by decide +kernel
theorem dX2_lookForRuns_18 : decode cX2_lookForRuns 18 = .ok (.aload_n 0, 1) := by decide +kernel
theorem dX2_lookForRuns_19 : decode cX2_lookForRuns 19 = .ok (.getfield 35, 3) := by decide +kernel
theorem dX2_lookForRuns_22 : decode cX2_lookForRuns 22 = .ok (.iconst 1, 1) := by decide +kernel
theorem dX2_lookForRuns_23 : decode cX2_lookForRuns 23 = .ok (.if_icmp .le 125, 3) := by decide +kernel
theorem dX2_lookForRuns_26 : decode cX2_lookForRuns 26 = .ok (.aload_n 0, 1) := by decide +kernel
theorem dX2_lookForRuns_27 : decode cX2_lookForRuns 27 = .ok (.iload_n 2, 1) := by decide +kernel
theorem dX2_lookForRuns_28 : decode cX2_lookForRuns 28 = .ok (.invokevirtual 59, 3) := by decide +kernel
theorem dX2_lookForRuns_31 : decode cX2_lookForRuns 31 = .ok (.istore_n 3, 1) := by decide +kernel
theorem dX2_lookForRuns_32 : decode cX2_lookForRuns 32 = .ok (.iload_n 3, 1) := by decide +kernel
theorem dX2_lookForRuns_33 : decode cX2_lookForRuns 33 = .ok (.iload_n 1, 1) := by decide +kernel
theorem dX2_lookForRuns_34 : decode cX2_lookForRuns 34 = .ok (.if_icmp .ge 24, 3) := by decide +kernel
theorem dX2_lookForRuns_37 : decode cX2_lookForRuns 37 = .ok (.aload_n 0, 1) := by decide +kernel
theorem dX2_lookForRuns_38 : decode cX2_lookForRuns 38 = .ok (.getfield 35, 3) := by decide +kernel
theorem dX2_lookForRuns_41 : decode cX2_lookForRuns 41 = .ok (.iload_n 2, 1) := by decide +kernel
theorem dX2_lookForRuns_42 : decode cX2_lookForRuns 42 = .ok (.isub, 1) := by decide +kernel
theorem dX2_lookForRuns_43 : decode cX2_lookForRuns 43 = .ok (.iload_n 1, 1) := by decide +kernel
theorem dX2_lookForRuns_44 : decode cX2_lookForRuns 44 = .ok (.if_icmp .ge 12, 3) := by decide +kernel
theorem dX2_lookForRuns_47 : decode cX2_lookForRuns 47 = .ok (.aload_n 0, 1) := by decide +kernel
theorem dX2_lookForRuns_48 : decode cX2_lookForRuns 48 = .ok (.getfield 35, 3) := by decide +kernel
theorem dX2_lookForRuns_51 : decode cX2_lookForRuns 51 = .ok (.iload_n 2, 1) := by decide +kernel
theorem dX2_lookForRuns_52 : decode cX2_lookForRuns 52 = .ok (.isub, 1) := by decide +kernel
theorem dX2_lookForRuns_53 : decode cX2_lookForRuns 53 = .ok (.goto 4, 3) := by decide +kernel
theorem dX2_lookForRuns_56 : decode cX2_lookForRuns 56 = .ok (.iload_n 1, 1) := by decide +kernel
theorem dX2_lookForRuns_57 : decode cX2_lookForRuns 57 = .ok (.istore_n 3, 1) := by decide +kernel
theorem dX2_lookForRuns_58 : decode cX2_lookForRuns 58 = .ok (.aload_n 0, 1) := by decide +kernel
theorem dX2_lookForRuns_59 : decode cX2_lookForRuns 59 = .ok (.getfield 22, 3) := by decide +kernel
theorem dX2_lookForRuns_62 : decode cX2_lookForRuns 62 = .ok (.aload_n 0, 1) := by decide +kernel
theorem dX2_lookForRuns_63 : decode cX2_lookForRuns 63 = .ok (.getfield 62, 3) := by decide +kernel
theorem dX2_lookForRuns_66 : decode cX2_lookForRuns 66 = .ok (.iload_n 3, 1) := by decide +kernel
theorem dX2_lookForRuns_67 : decode cX2_lookForRuns 67 = .ok (.iastore, 1) := by decide +kernel
theorem dX2_lookForRuns_68 : decode cX2_lookForRuns 68 = .ok (.aload_n 0, 1) := by decide +kernel
theorem dX2_lookForRuns_69 : decode cX2_lookForRuns 69 = .ok (.dup, 1) := by decide +kernel
theorem dX2_lookForRuns_70 : decode cX2_lookForRuns 70 = .ok (.getfield 62, 3) := by decide +kernel
theorem dX2_lookForRuns_73 : decode cX2_lookForRuns 73 = .ok (.iconst 1, 1) := by decide +kernel
theorem dX2_lookForRuns_74 : decode cX2_lookForRuns 74 = .ok (.iadd, 1) := by decide +kernel
theorem dX2_lookForRuns_75 : decode cX2_lookForRuns 75 = .ok (.putfield 62, 3) := by decide +kernel
theorem dX2_lookForRuns_78 : decode cX2_lookForRuns 78 = .ok (.aload_n 0, 1) := by decide +kernel
theorem dX2_lookForRuns_79 : decode cX2_lookForRuns 79 = .ok (.getfield 25, 3) := by decide +kernel
theorem dX2_lookForRuns_82 : decode cX2_lookForRuns 82 = .ok (.aload_n 0, 1) := by decide +kernel
theorem dX2_lookForRuns_83 : decode cX2_lookForRuns 83 = .ok (.getfield 45, 3) := by decide +kernel
theorem dX2_lookForRuns_86 : decode cX2_lookForRuns 86 = .ok (.iload_n 3, 1) := by decide +kernel
theorem dX2_lookForRuns_87 : decode cX2_lookForRuns 87 = .ok (.iastore, 1) := by decide +kernel
theorem dX2_lookForRuns_88 : decode cX2_lookForRuns 88 = .ok (.aload_n 0, 1) := by decide +kernel
theorem dX2_lookForRuns_89 : decode cX2_lookForRuns 89 = .ok (.dup, 1) := by decide +kernel
theorem dX2_lookForRuns_90 : decode cX2_lookForRuns 90 = .ok (.getfield 45, 3) := by decide +kernel
theorem dX2_lookForRuns_93 : decode cX2_lookForRuns 93 = .ok (.iconst 1, 1) := by decide +kernel
theorem dX2_lookForRuns_94 : decode cX2_lookForRuns 94 = .ok (.iadd, 1) := by decide +kernel
theorem dX2_lookForRuns_95 : decode cX2_lookForRuns 95 = .ok (.putfield 45, 3) := by decide +kernel
theorem dX2_lookForRuns_98 : decode cX2_lookForRuns 98 = .ok (.aload_n 0, 1) := by decide +kernel
theorem dX2_lookForRuns_99 : decode cX2_lookForRuns 99 = .ok (.aload_n 0, 1) := by decide +kernel
theorem dX2_lookForRuns_100 : decode cX2_lookForRuns 100 = .ok (.getfield 45, 3) := by decide +kernel
theorem dX2_lookForRuns_103 : decode cX2_lookForRuns 103 = .ok (.aload_n 0, 1) := by decide +kernel
theorem dX2_lookForRuns_104 : decode cX2_lookForRuns 104 = .ok (.getfield 65, 3) := by decide +kernel
theorem dX2_lookForRuns_107 : decode cX2_lookForRuns 107 = .ok (.if_icmp .le 10, 3) := by decide +kernel
theorem dX2_lookForRuns_110 : decode cX2_lookForRuns 110 = .ok (.aload_n 0, 1) := by decide +kernel
theorem dX2_lookForRuns_111 : decode cX2_lookForRuns 111 = .ok (.getfield 45, 3) := by decide +kernel
theorem dX2_lookForRuns_114 : decode cX2_lookForRuns 114 = .ok (.goto 7, 3) := by decide +kernel
theorem dX2_lookForRuns_117 : decode cX2_lookForRuns 117 = .ok (.aload_n 0, 1) := by decide +kernel
theorem dX2_lookForRuns_118 : decode cX2_lookForRuns 118 = .ok (.getfield 65, 3) := by decide +kernel
theorem dX2_lookForRuns_121 : decode cX2_lookForRuns 121 = .ok (.putfield 65, 3) := by decide +kernel
theorem dX2_lookForRuns_124 : decode cX2_lookForRuns 124 = .ok (.iconst 1, 1) := by decide +kernel
theorem dX2_lookForRuns_125 : decode cX2_lookForRuns 125 = .ok (.istore 4, 2) := by decide +kernel
theorem dX2_lookForRuns_127 : decode cX2_lookForRuns 127 = .ok (.iload 4, 2) := by decide +kernel
theorem dX2_lookForRuns_129 : decode cX2_lookForRuns 129 = .ok (.ifCond .eq 12, 3) := by decide +kernel
theorem dX2_lookForRuns_132 : decode cX2_lookForRuns 132 = .ok (.aload_n 0, 1) := by decide +kernel
theorem dX2_lookForRuns_133 : decode cX2_lookForRuns 133 = .ok (.invokevirtual 68, 3) := by decide +kernel
theorem dX2_lookForRuns_136 : decode cX2_lookForRuns 136 = .ok (.istore 4, 2) := by decide +kernel
theorem dX2_lookForRuns_138 : decode cX2_lookForRuns 138 = .ok (.goto (-11), 3) := by decide +kernel
theorem dX2_lookForRuns_141 : decode cX2_lookForRuns 141 = .ok (.iload_n 2, 1) := by decide +kernel
theorem dX2_lookForRuns_142 : decode cX2_lookForRuns 142 = .ok (.iload_n 3, 1) := by decide +kernel
theorem dX2_lookForRuns_143 : decode cX2_lookForRuns 143 = .ok (.iadd, 1) := by decide +kernel
theorem dX2_lookForRuns_144 : decode cX2_lookForRuns 144 = .ok (.istore_n 2, 1) := by decide +kernel
theorem dX2_lookForRuns_145 : decode cX2_lookForRuns 145 = .ok (.goto (-135), 3) := by decide +kernel
theorem dX2_lookForRuns_148 : decode cX2_lookForRuns 148 = .ok (.aload_n 0, 1) := by decide +kernel
theorem dX2_lookForRuns_149 : decode cX2_lookForRuns 149 = .ok (.getfield 45, 3) := by decide +kernel
theorem dX2_lookForRuns_152 : decode cX2_lookForRuns 152 = .ok (.iconst 1, 1) := by decide +kernel
theorem dX2_lookForRuns_153 : decode cX2_lookForRuns 153 = .ok (.if_icmp .le 46, 3) := by decide +kernel
theorem dX2_lookForRuns_156 : decode cX2_lookForRuns 156 = .ok (.aload_n 0, 1) := by decide +kernel
theorem dX2_lookForRuns_157 : decode cX2_lookForRuns 157 = .ok (.aload_n 0, 1) := by decide +kernel
theorem dX2_lookForRuns_158 : decode cX2_lookForRuns 158 = .ok (.getfield 45, 3) := by decide +kernel
theorem dX2_lookForRuns_161 : decode cX2_lookForRuns 161 = .ok (.iconst 2, 1) := by decide +kernel
theorem dX2_lookForRuns_162 : decode cX2_lookForRuns 162 = .ok (.if_icmp .le 25, 3) := by decide +kernel
theorem dX2_lookForRuns_165 : decode cX2_lookForRuns 165 = .ok (.aload_n 0, 1) := by decide +kernel
theorem dX2_lookForRuns_166 : decode cX2_lookForRuns 166 = .ok (.iconst 2, 1) := by decide +kernel
theorem dX2_lookForRuns_167 : decode cX2_lookForRuns 167 = .ok (.invokevirtual 48, 3) := by decide +kernel
theorem dX2_lookForRuns_170 : decode cX2_lookForRuns 170 = .ok (.aload_n 0, 1) := by decide +kernel
theorem dX2_lookForRuns_171 : decode cX2_lookForRuns 171 = .ok (.iconst 0, 1) := by decide +kernel
theorem dX2_lookForRuns_172 : decode cX2_lookForRuns 172 = .ok (.invokevirtual 48, 3) := by decide +kernel
theorem dX2_lookForRuns_175 : decode cX2_lookForRuns 175 = .ok (.if_icmp .ge 12, 3) := by decide +kernel
theorem dX2_lookForRuns_178 : decode cX2_lookForRuns 178 = .ok (.aload_n 0, 1) := by decide +kernel
theorem dX2_lookForRuns_179 : decode cX2_lookForRuns 179 = .ok (.getfield 45, 3) := by decide +kernel
theorem dX2_lookForRuns_182 : decode cX2_lookForRuns 182 = .ok (.iconst 3, 1) := by decide +kernel
theorem dX2_lookForRuns_183 : decode cX2_lookForRuns 183 = .ok (.isub, 1) := by decide +kernel
theorem dX2_lookForRuns_184 : decode cX2_lookForRuns 184 = .ok (.goto 9, 3) := by decide +kernel
theorem dX2_lookForRuns_187 : decode cX2_lookForRuns 187 = .ok (.aload_n 0, 1) := by decide +kernel
theorem dX2_lookForRuns_188 : decode cX2_lookForRuns 188 = .ok (.getfield 45, 3) := by decide +kernel
theorem dX2_lookForRuns_191 : decode cX2_lookForRuns 191 = .ok (.iconst 2, 1) := by decide +kernel
theorem dX2_lookForRuns_192 : decode cX2_lookForRuns 192 = .ok (.isub, 1) := by decide +kernel
theorem dX2_lookForRuns_193 : decode cX2_lookForRuns 193 = .ok (.invokevirtual 52, 3) := by decide +kernel
theorem dX2_lookForRuns_196 : decode cX2_lookForRuns 196 = .ok (.goto (-48), 3) := by decide +kernel
theorem dX2_lookForRuns_199 : decode cX2_lookForRuns 199 = .ok (.return_, 1) := by decide +kernel
theorem dX2_combine_0 : decode cX2_combine 0 = .ok (.iload_n 1, 1) := by decide +kernel
theorem dX2_combine_1 : decode cX2_combine 1 = .ok (.istore 4, 2) := by decide +kernel
theorem dX2_combine_3 : decode cX2_combine 3 = .ok (.iload_n 2, 1) := by decide +kernel
theorem dX2_combine_4 : decode cX2_combine 4 = .ok (.istore 5, 2) := by decide +kernel
theorem dX2_combine_6 : decode cX2_combine 6 = .ok (.iload_n 1, 1) := by decide +kernel
theorem dX2_combine_7 : decode cX2_combine 7 = .ok (.istore 6, 2) := by decide +kernel
theorem dX2_combine_9 : decode cX2_combine 9 = .ok (.iload 6, 2) := by decide +kernel
theorem dX2_combine_11 : decode cX2_combine 11 = .ok (.iload_n 3, 1) := by decide +kernel
theorem dX2_combine_12 : decode cX2_combine 12 = .ok (.if_icmp .ge 135, 3) := by decide +kernel
theorem dX2_combine_15 : decode cX2_combine 15 = .ok (.iload 5, 2) := by decide +kernel
theorem dX2_combine_17 : decode cX2_combine 17 = .ok (.iload_n 3, 1) := by decide +kernel
theorem dX2_combine_18 : decode cX2_combine 18 = .ok (.if_icmp .eq 26, 3) := by decide +kernel
theorem dX2_combine_21 : decode cX2_combine 21 = .ok (.iload 4, 2) := by decide +kernel
theorem dX2_combine_23 : decode cX2_combine 23 = .ok (.iload_n 2, 1) := by decide +kernel
theorem dX2_combine_24 : decode cX2_combine 24 = .ok (.if_icmp .ge 24, 3) := by decide +kernel
theorem dX2_combine_27 : decode cX2_combine 27 = .ok (.aload_n 0, 1) := by decide +kernel
theorem dX2_combine_28 : decode cX2_combine 28 = .ok (.getfield 7, 3) := by decide +kernel
theorem dX2_combine_31 : decode cX2_combine 31 = .ok (.iload 4, 2) := by decide +kernel
theorem dX2_combine_33 : decode cX2_combine 33 = .ok (.iaload, 1) := by decide +kernel
theorem dX2_combine_34 : decode cX2_combine 34 = .ok (.aload_n 0, 1) := by decide +kernel
theorem dX2_combine_35 : decode cX2_combine 35 = .ok (.getfield 7, 3) := by decide +kernel
theorem dX2_combine_38 : decode cX2_combine 38 = .ok (.iload 5, 2) := by decide +kernel
theorem dX2_combine_40 : decode cX2_combine 40 = .ok (.iaload, 1) := by decide +kernel
theorem dX2_combine_41 : decode cX2_combine 41 = .ok (.if_icmp .gt 7, 3) := by decide +kernel
theorem dX2_combine_44 : decode cX2_combine 44 = .ok (.iconst 1, 1) := by decide +kernel
theorem dX2_combine_45 : decode cX2_combine 45 = .ok (.goto 4, 3) := by decide +kernel
theorem dX2_combine_48 : decode cX2_combine 48 = .ok (.iconst 0, 1) := by decide +kernel
theorem dX2_combine_49 : decode cX2_combine 49 = .ok (.istore 7, 2) := by decide +kernel
theorem dX2_combine_51 : decode cX2_combine 51 = .ok (.aload_n 0, 1) := by decide +kernel
theorem dX2_combine_52 : decode cX2_combine 52 = .ok (.getfield 16, 3) := by decide +kernel
theorem dX2_combine_55 : decode cX2_combine 55 = .ok (.iload 6, 2) := by decide +kernel
theorem dX2_combine_57 : decode cX2_combine 57 = .ok (.iload 7, 2) := by decide +kernel
theorem dX2_combine_59 : decode cX2_combine 59 = .ok (.ifCond .eq 13, 3) := by decide +kernel
theorem dX2_combine_62 : decode cX2_combine 62 = .ok (.aload_n 0, 1) := by decide +kernel
theorem dX2_combine_63 : decode cX2_combine 63 = .ok (.getfield 7, 3) := by decide +kernel
theorem dX2_combine_66 : decode cX2_combine 66 = .ok (.iload 4, 2) := by decide +kernel
theorem dX2_combine_68 : decode cX2_combine 68 = .ok (.iaload, 1) := by decide +kernel
theorem dX2_combine_69 : decode cX2_combine 69 = .ok (.goto 10, 3) := by decide +kernel
theorem dX2_combine_72 : decode cX2_combine 72 = .ok (.aload_n 0, 1) := by decide +kernel
theorem dX2_combine_73 : decode cX2_combine 73 = .ok (.getfield 7, 3) := by decide +kernel
theorem dX2_combine_76 : decode cX2_combine 76 = .ok (.iload 5, 2) := by decide +kernel
theorem dX2_combine_78 : decode cX2_combine 78 = .ok (.iaload, 1) := by decide +kernel
theorem dX2_combine_79 : decode cX2_combine 79 = .ok (.iastore, 1) := by decide +kernel
theorem dX2_combine_80 : decode cX2_combine 80 = .ok (.aload_n 0, 1) := by decide +kernel
theorem dX2_combine_81 : decode cX2_combine 81 = .ok (.getfield 19, 3) := by decide +kernel
theorem dX2_combine_84 : decode cX2_combine 84 = .ok (.iload 6, 2) := by decide +kernel
theorem dX2_combine_86 : decode cX2_combine 86 = .ok (.iload 7, 2) := by decide +kernel
theorem dX2_combine_88 : decode cX2_combine 88 = .ok (.ifCond .eq 13, 3) := by decide +kernel
theorem dX2_combine_91 : decode cX2_combine 91 = .ok (.aload_n 0, 1) := by decide +kernel
theorem dX2_combine_92 : decode cX2_combine 92 = .ok (.getfield 13, 3) := by decide +kernel
theorem dX2_combine_95 : decode cX2_combine 95 = .ok (.iload 4, 2) := by decide +kernel
theorem dX2_combine_97 : decode cX2_combine 97 = .ok (.iaload, 1) := by decide +kernel
theorem dX2_combine_98 : decode cX2_combine 98 = .ok (.goto 10, 3) := by decide +kernel
theorem dX2_combine_101 : decode cX2_combine 101 = .ok (.aload_n 0, 1) := by decide +kernel
theorem dX2_combine_102 : decode cX2_combine 102 = .ok (.getfield 13, 3) := by decide +kernel
theorem dX2_combine_105 : decode cX2_combine 105 = .ok (.iload 5, 2) := by decide +kernel
theorem dX2_combine_107 : decode cX2_combine 107 = .ok (.iaload, 1) := by decide +kernel
theorem dX2_combine_108 : decode cX2_combine 108 = .ok (.iastore, 1) := by decide +kernel
theorem dX2_combine_109 : decode cX2_combine 109 = .ok (.iload 7, 2) := by decide +kernel
theorem dX2_combine_111 : decode cX2_combine 111 = .ok (.ifCond .eq 10, 3) := by decide +kernel
theorem dX2_combine_114 : decode cX2_combine 114 = .ok (.iload 4, 2) := by decide +kernel
theorem dX2_combine_116 : decode cX2_combine 116 = .ok (.iconst 1, 1) := by decide +kernel
theorem dX2_combine_117 : decode cX2_combine 117 = .ok (.iadd, 1) := by decide +kernel
theorem dX2_combine_118 : decode cX2_combine 118 = .ok (.goto 5, 3) := by decide +kernel
theorem dX2_combine_121 : decode cX2_combine 121 = .ok (.iload 4, 2) := by decide +kernel
theorem dX2_combine_123 : decode cX2_combine 123 = .ok (.istore 4, 2) := by decide +kernel
theorem dX2_combine_125 : decode cX2_combine 125 = .ok (.iload 7, 2) := by decide +kernel
theorem dX2_combine_127 : decode cX2_combine 127 = .ok (.ifCond .eq 8, 3) := by decide +kernel
theorem dX2_combine_130 : decode cX2_combine 130 = .ok (.iload 5, 2) := by decide +kernel
theorem dX2_combine_132 : decode cX2_combine 132 = .ok (.goto 7, 3) := by decide +kernel
theorem dX2_combine_135 : decode cX2_combine 135 = .ok (.iload 5, 2) := by decide +kernel
theorem dX2_combine_137 : decode cX2_combine 137 = .ok (.iconst 1, 1) := by decide +kernel
theorem dX2_combine_138 : decode cX2_combine 138 = .ok (.iadd, 1) := by decide +kernel
theorem dX2_combine_139 : decode cX2_combine 139 = .ok (.istore 5, 2) := by decide +kernel
theorem dX2_combine_141 : decode cX2_combine 141 = .ok (.iinc 6 1, 3) := by decide +kernel
theorem dX2_combine_144 : decode cX2_combine 144 = .ok (.goto (-135), 3) := by decide +kernel
theorem dX2_combine_147 : decode cX2_combine 147 = .ok (.iload_n 1, 1) := by decide +kernel
theorem dX2_combine_148 : decode cX2_combine 148 = .ok (.istore 6, 2) := by decide +kernel
theorem dX2_combine_150 : decode cX2_combine 150 = .ok (.iload 6, 2) := by decide +kernel
theorem dX2_combine_152 : decode cX2_combine 152 = .ok (.iload_n 3, 1) := by decide +kernel
theorem dX2_combine_153 : decode cX2_combine 153 = .ok (.if_icmp .ge 37, 3) := by decide +kernel
theorem dX2_combine_156 : decode cX2_combine 156 = .ok (.aload_n 0, 1) := by decide +kernel
theorem dX2_combine_157 : decode cX2_combine 157 = .ok (.getfield 7, 3) := by decide +kernel
theorem dX2_combine_160 : decode cX2_combine 160 = .ok (.iload 6, 2) := by decide +kernel
theorem dX2_combine_162 : decode cX2_combine 162 = .ok (.aload_n 0, 1) := by decide +kernel
theorem dX2_combine_163 : decode cX2_combine 163 = .ok (.getfield 16, 3) := by decide +kernel
theorem dX2_combine_166 : decode cX2_combine 166 = .ok (.iload 6, 2) := by decide +kernel
theorem dX2_combine_168 : decode cX2_combine 168 = .ok (.iaload, 1) := by decide +kernel
theorem dX2_combine_169 : decode cX2_combine 169 = .ok (.iastore, 1) := by decide +kernel
theorem dX2_combine_170 : decode cX2_combine 170 = .ok (.aload_n 0, 1) := by decide +kernel
theorem dX2_combine_171 : decode cX2_combine 171 = .ok (.getfield 13, 3) := by decide +kernel
theorem dX2_combine_174 : decode cX2_combine 174 = .ok (.iload 6, 2) := by decide +kernel
theorem dX2_combine_176 : decode cX2_combine 176 = .ok (.aload_n 0, 1) := by decide +kernel
theorem dX2_combine_177 : decode cX2_combine 177 = .ok (.getfield 19, 3) := by decide +kernel
theorem dX2_combine_180 : decode cX2_combine 180 = .ok (.iload 6, 2) := by decide +kernel
theorem dX2_combine_182 : decode cX2_combine 182 = .ok (.iaload, 1) := by decide +kernel
theorem dX2_combine_183 : decode cX2_combine 183 = .ok (.iastore, 1) := by decide +kernel
theorem dX2_combine_184 : decode cX2_combine 184 = .ok (.iinc 6 1, 3) := by decide +kernel
theorem dX2_combine_187 : decode cX2_combine 187 = .ok (.goto (-37), 3) := by decide +kernel
theorem dX2_combine_190 : decode cX2_combine 190 = .ok (.return_, 1) := by decide +kernel
set_option maxRecDepth 20000 in
theorem ggX2_run_X2_lookForRuns : GoodIn wsX2_run wsX2_lookForRuns := goodIn_r _ [13, 7, 14, 2, 15, 5, 6, 16, 17, 12, 18, 19, 20, 21, 22, 23, 24, 25, 26, 27, 28, 29, 30, 31, 32, 33, 34, 35, 3, 4, 43, 44, 45, 46, 47, 48, 49, 50, 51, 52, 53, 54, 55, 56, 57] (by decide +kernel) (by decide +kernel)
set_option maxRecDepth 20000 in
theorem gX2_run_X2_lookForRuns : GoodIn wsX2_run (wsV RX2 72 RX2 yX2_lookForRuns wsX2_lookForRuns) := goodIn_app (goodIn_of _ (by decide +kernel)) ggX2_run_X2_lookForRuns
set_option maxRecDepth 20000 in
theorem ggX2_run_X2_combine : GoodIn wsX2_run wsX2_combine := goodIn_r _ [39, 23, 40, 41, 42, 43, 44, 45, 46, 47, 48, 49, 50, 51, 52, 53, 54, 55, 56, 57] (by decide +kernel) (by decide +kernel)
set_option maxRecDepth 20000 in
theorem gX2_run_X2_combine : GoodIn wsX2_run (wsV RX2 75 RX2 yX2_combine wsX2_combine) := goodIn_app (goodIn_of _ (by decide +kernel)) ggX2_run_X2_combine
theorem dX2_run_0 : decode cX2_run 0 = .ok (.aload_n 0, 1) := by decide +kernel
theorem dX2_run_1 : decode cX2_run 1 = .ok (.iconst 0, 1) := by decide +kernel
theorem dX2_run_2 : decode cX2_run 2 = .ok (.putfield 32, 3) := by decide +kernel
theorem dX2_run_5 : decode cX2_run 5 = .ok (.aload_n 0, 1) := by decide +kernel
theorem dX2_run_6 : decode cX2_run 6 = .ok (.iconst 0, 1) := by decide +kernel
theorem dX2_run_7 : decode cX2_run 7 = .ok (.putfield 62, 3) := by decide +kernel
theorem dX2_run_10 : decode cX2_run 10 = .ok (.aload_n 0, 1) := by decide +kernel
theorem dX2_run_11 : decode cX2_run 11 = .ok (.iconst 0, 1) := by decide +kernel
theorem dX2_run_12 : decode cX2_run 12 = .ok (.putfield 38, 3) := by decide +kernel
theorem dX2_run_15 : decode cX2_run 15 = .ok (.aload_n 0, 1) := by decide +kernel
theorem dX2_run_16 : decode cX2_run 16 = .ok (.lconst 0, 1) := by decide +kernel
theorem dX2_run_17 : decode cX2_run 17 = .ok (.putfield 41, 3) := by decide +kernel
theorem dX2_run_20 : decode cX2_run 20 = .ok (.aload_n 0, 1) := by decide +kernel
theorem dX2_run_21 : decode cX2_run 21 = .ok (.iconst 0, 1) := by decide +kernel
theorem dX2_run_22 : decode cX2_run 22 = .ok (.putfield 45, 3) := by decide +kernel
theorem dX2_run_25 : decode cX2_run 25 = .ok (.aload_n 0, 1) := by decide +kernel
theorem dX2_run_26 : decode cX2_run 26 = .ok (.iconst 0, 1) := by decide +kernel
theorem dX2_run_27 : decode cX2_run 27 = .ok (.putfield 65, 3) := by decide +kernel
theorem dX2_run_30 : decode cX2_run 30 = .ok (.aload_n 0, 1) := by decide +kernel
theorem dX2_run_31 : decode cX2_run 31 = .ok (.invokevirtual 72, 3) := by decide +kernel
theorem dX2_run_34 : decode cX2_run 34 = .ok (.iconst 1, 1) := by decide +kernel
theorem dX2_run_35 : decode cX2_run 35 = .ok (.istore_n 1, 1) := by decide +kernel
theorem dX2_run_36 : decode cX2_run 36 = .ok (.iload_n 1, 1) := by decide +kernel
theorem dX2_run_37 : decode cX2_run 37 = .ok (.aload_n 0, 1) := by decide +kernel
theorem dX2_run_38 : decode cX2_run 38 = .ok (.getfield 35, 3) := by decide +kernel
theorem dX2_run_41 : decode cX2_run 41 = .ok (.if_icmp .ge 63, 3) := by decide +kernel
theorem dX2_run_44 : decode cX2_run 44 = .ok (.iconst 0, 1) := by decide +kernel
theorem dX2_run_45 : decode cX2_run 45 = .ok (.istore_n 2, 1) := by decide +kernel
theorem dX2_run_46 : decode cX2_run 46 = .ok (.iload_n 2, 1) := by decide +kernel
theorem dX2_run_47 : decode cX2_run 47 = .ok (.iload_n 1, 1) := by decide +kernel
theorem dX2_run_48 : decode cX2_run 48 = .ok (.iadd, 1) := by decide +kernel
theorem dX2_run_49 : decode cX2_run 49 = .ok (.aload_n 0, 1) := by decide +kernel
theorem dX2_run_50 : decode cX2_run 50 = .ok (.getfield 35, 3) := by decide +kernel
theorem dX2_run_53 : decode cX2_run 53 = .ok (.if_icmp .ge 44, 3) := by decide +kernel
theorem dX2_run_56 : decode cX2_run 56 = .ok (.aload_n 0, 1) := by decide +kernel
theorem dX2_run_57 : decode cX2_run 57 = .ok (.iload_n 2, 1) := by decide +kernel
theorem dX2_run_58 : decode cX2_run 58 = .ok (.iload_n 2, 1) := by decide +kernel
theorem dX2_run_59 : decode cX2_run 59 = .ok (.iload_n 1, 1) := by decide +kernel
theorem dX2_run_60 : decode cX2_run 60 = .ok (.iadd, 1) := by decide +kernel
theorem dX2_run_61 : decode cX2_run 61 = .ok (.iload_n 2, 1) := by decide +kernel
theorem dX2_run_62 : decode cX2_run 62 = .ok (.iconst 2, 1) := by decide +kernel
theorem dX2_run_63 : decode cX2_run 63 = .ok (.iload_n 1, 1) := by decide +kernel
theorem dX2_run_64 : decode cX2_run 64 = .ok (.imul, 1) := by decide +kernel
theorem dX2_run_65 : decode cX2_run 65 = .ok (.iadd, 1) := by decide +kernel
theorem dX2_run_66 : decode cX2_run 66 = .ok (.aload_n 0, 1) := by decide +kernel
theorem dX2_run_67 : decode cX2_run 67 = .ok (.getfield 35, 3) := by decide +kernel
theorem dX2_run_70 : decode cX2_run 70 = .ok (.if_icmp .ge 11, 3) := by decide +kernel
theorem dX2_run_73 : decode cX2_run 73 = .ok (.iload_n 2, 1) := by decide +kernel
theorem dX2_run_74 : decode cX2_run 74 = .ok (.iconst 2, 1) := by decide +kernel
theorem dX2_run_75 : decode cX2_run 75 = .ok (.iload_n 1, 1) := by decide +kernel
theorem dX2_run_76 : decode cX2_run 76 = .ok (.imul, 1) := by decide +kernel
theorem dX2_run_77 : decode cX2_run 77 = .ok (.iadd, 1) := by decide +kernel
theorem dX2_run_78 : decode cX2_run 78 = .ok (.goto 7, 3) := by decide +kernel
theorem dX2_run_81 : decode cX2_run 81 = .ok (.aload_n 0, 1) := by decide +kernel
theorem dX2_run_82 : decode cX2_run 82 = .ok (.getfield 35, 3) := by decide +kernel
theorem dX2_run_85 : decode cX2_run 85 = .ok (.invokevirtual 75, 3) := by decide +kernel
theorem dX2_run_88 : decode cX2_run 88 = .ok (.iload_n 2, 1) := by decide +kernel
theorem dX2_run_89 : decode cX2_run 89 = .ok (.iconst 2, 1) := by decide +kernel
theorem dX2_run_90 : decode cX2_run 90 = .ok (.iload_n 1, 1) := by decide +kernel
theorem dX2_run_91 : decode cX2_run 91 = .ok (.imul, 1) := by decide +kernel
theorem dX2_run_92 : decode cX2_run 92 = .ok (.iadd, 1) := by decide +kernel
theorem dX2_run_93 : decode cX2_run 93 = .ok (.istore_n 2, 1) := by decide +kernel
theorem dX2_run_94 : decode cX2_run 94 = .ok (.goto (-48), 3) := by decide +kernel
theorem dX2_run_97 : decode cX2_run 97 = .ok (.iconst 2, 1) := by decide +kernel
theorem dX2_run_98 : decode cX2_run 98 = .ok (.iload_n 1, 1) := by decide +kernel
theorem dX2_run_99 : decode cX2_run 99 = .ok (.imul, 1) := by decide +kernel
theorem dX2_run_100 : decode cX2_run 100 = .ok (.istore_n 1, 1) := by decide +kernel
theorem dX2_run_101 : decode cX2_run 101 = .ok (.goto (-65), 3) := by decide +kernel
theorem dX2_run_104 : decode cX2_run 104 = .ok (.aload_n 0, 1) := by decide +kernel
theorem dX2_run_105 : decode cX2_run 105 = .ok (.aload_n 0, 1) := by decide +kernel
theorem dX2_run_106 : decode cX2_run 106 = .ok (.getfield 65, 3) := by decide +kernel
theorem dX2_run_109 : decode cX2_run 109 = .ok (.aload_n 0, 1) := by decide +kernel
theorem dX2_run_110 : decode cX2_run 110 = .ok (.getfield 79, 3) := by decide +kernel
theorem dX2_run_113 : decode cX2_run 113 = .ok (.if_icmp .le 10, 3) := by decide +kernel
theorem dX2_run_116 : decode cX2_run 116 = .ok (.aload_n 0, 1) := by decide +kernel
theorem dX2_run_117 : decode cX2_run 117 = .ok (.getfield 65, 3) := by decide +kernel
theorem dX2_run_120 : decode cX2_run 120 = .ok (.goto 7, 3) := by decide +kernel
theorem dX2_run_123 : decode cX2_run 123 = .ok (.aload_n 0, 1) := by decide +kernel
theorem dX2_run_124 : decode cX2_run 124 = .ok (.getfield 79, 3) := by decide +kernel
theorem dX2_run_127 : decode cX2_run 127 = .ok (.putfield 79, 3) := by decide +kernel
theorem dX2_run_130 : decode cX2_run 130 = .ok (.aload_n 0, 1) := by decide +kernel
theorem dX2_run_131 : decode cX2_run 131 = .ok (.getfield 65, 3) := by decide +kernel
theorem dX2_run_134 : decode cX2_run 134 = .ok (.ireturn, 1) := by decide +kernel
theorem dX2_keyAt_0 : decode cX2_keyAt 0 = .ok (.aload_n 0, 1) := by decide +kernel
theorem dX2_keyAt_1 : decode cX2_keyAt 1 = .ok (.iconst 0, 1) := by decide +kernel
theorem dX2_keyAt_2 : decode cX2_keyAt 2 = .ok (.putfield 32, 3) := by decide +kernel
theorem dX2_keyAt_5 : decode cX2_keyAt 5 = .ok (.iload_n 1, 1) := by decide +kernel
theorem dX2_keyAt_6 : decode cX2_keyAt 6 = .ok (.ifCond .lt 20, 3) := by decide +kernel
theorem dX2_keyAt_9 : decode cX2_keyAt 9 = .ok (.iload_n 1, 1) := by decide +kernel
theorem dX2_keyAt_10 : decode cX2_keyAt 10 = .ok (.aload_n 0, 1) := by decide +kernel
theorem dX2_keyAt_11 : decode cX2_keyAt 11 = .ok (.getfield 35, 3) := by decide +kernel
theorem dX2_keyAt_14 : decode cX2_keyAt 14 = .ok (.if_icmp .ge 12, 3) := by decide +kernel
theorem dX2_keyAt_17 : decode cX2_keyAt 17 = .ok (.aload_n 0, 1) := by decide +kernel
theorem dX2_keyAt_18 : decode cX2_keyAt 18 = .ok (.getfield 7, 3) := by decide +kernel
theorem dX2_keyAt_21 : decode cX2_keyAt 21 = .ok (.iload_n 1, 1) := by decide +kernel
theorem dX2_keyAt_22 : decode cX2_keyAt 22 = .ok (.iaload, 1) := by decide +kernel
theorem dX2_keyAt_23 : decode cX2_keyAt 23 = .ok (.goto 4, 3) := by decide +kernel
theorem dX2_keyAt_26 : decode cX2_keyAt 26 = .ok (.iconst 0, 1) := by decide +kernel
theorem dX2_keyAt_27 : decode cX2_keyAt 27 = .ok (.ireturn, 1) := by decide +kernel
theorem dX2_tagAt_0 : decode cX2_tagAt 0 = .ok (.aload_n 0, 1) := by decide +kernel
theorem dX2_tagAt_1 : decode cX2_tagAt 1 = .ok (.iconst 0, 1) := by decide +kernel
theorem dX2_tagAt_2 : decode cX2_tagAt 2 = .ok (.putfield 32, 3) := by decide +kernel
theorem dX2_tagAt_5 : decode cX2_tagAt 5 = .ok (.iload_n 1, 1) := by decide +kernel
theorem dX2_tagAt_6 : decode cX2_tagAt 6 = .ok (.ifCond .lt 20, 3) := by decide +kernel
