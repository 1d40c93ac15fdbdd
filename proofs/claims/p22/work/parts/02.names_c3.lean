theorem dX8_put_78 : decode cX8_put 78 = .ok (.iconst 1, 1) := by decide +kernel
theorem dX8_put_79 : decode cX8_put 79 = .ok (.isub, 1) := by decide +kernel
theorem dX8_put_80 : decode cX8_put 80 = .ok (.iaload, 1) := by decide +kernel
theorem dX8_put_81 : decode cX8_put 81 = .ok (.iastore, 1) := by decide +kernel
theorem dX8_put_82 : decode cX8_put 82 = .ok (.iinc 3 (-1), 3) := by decide +kernel
theorem dX8_put_85 : decode cX8_put 85 = .ok (.goto (-22), 3) := by decide +kernel
theorem dX8_put_88 : decode cX8_put 88 = .ok (.aload_n 0, 1) := by decide +kernel
theorem dX8_put_89 : decode cX8_put 89 = .ok (.getfield 9, 3) := by decide +kernel
theorem dX8_put_92 : decode cX8_put 92 = .ok (.iload_n 1, 1) := by decide +kernel
theorem dX8_put_93 : decode cX8_put 93 = .ok (.iload_n 2, 1) := by decide +kernel
theorem dX8_put_94 : decode cX8_put 94 = .ok (.iastore, 1) := by decide +kernel
theorem dX8_put_95 : decode cX8_put 95 = .ok (.aload_n 0, 1) := by decide +kernel
theorem dX8_put_96 : decode cX8_put 96 = .ok (.dup, 1) := by decide +kernel
theorem dX8_put_97 : decode cX8_put 97 = .ok (.getfield 22, 3) := by decide +kernel
theorem dX8_put_100 : decode cX8_put 100 = .ok (.iconst 1, 1) := by decide +kernel
theorem dX8_put_101 : decode cX8_put 101 = .ok (.iadd, 1) := by decide +kernel
theorem dX8_put_102 : decode cX8_put 102 = .ok (.putfield 22, 3) := by decide +kernel
theorem dX8_put_105 : decode cX8_put 105 = .ok (.iconst 0, 1) := by decide +kernel
theorem dX8_put_106 : decode cX8_put 106 = .ok (.istore_n 3, 1) := by decide +kernel
theorem dX8_put_107 : decode cX8_put 107 = .ok (.iload_n 3, 1) := by decide +kernel
theorem dX8_put_108 : decode cX8_put 108 = .ok (.aload_n 0, 1) := by decide +kernel
theorem dX8_put_109 : decode cX8_put 109 = .ok (.getfield 17, 3) := by decide +kernel
theorem dX8_put_112 : decode cX8_put 112 = .ok (.arraylength, 1) := by decide +kernel
theorem dX8_put_113 : decode cX8_put 113 = .ok (.if_icmp .ge 18, 3) := by decide +kernel
theorem dX8_put_116 : decode cX8_put 116 = .ok (.aload_n 0, 1) := by decide +kernel
theorem dX8_put_117 : decode cX8_put 117 = .ok (.iload_n 3, 1) := by decide +kernel
theorem dX8_put_118 : decode cX8_put 118 = .ok (.invokevirtual 47, 3) := by decide +kernel
theorem dX8_put_121 : decode cX8_put 121 = .ok (.iload_n 1, 1) := by decide +kernel
theorem dX8_put_122 : decode cX8_put 122 = .ok (.invokevirtual 51, 3) := by decide +kernel
theorem dX8_put_125 : decode cX8_put 125 = .ok (.iinc 3 1, 3) := by decide +kernel
theorem dX8_put_128 : decode cX8_put 128 = .ok (.goto (-21), 3) := by decide +kernel
theorem dX8_put_131 : decode cX8_put 131 = .ok (.aload_n 0, 1) := by decide +kernel
theorem dX8_put_132 : decode cX8_put 132 = .ok (.getfield 22, 3) := by decide +kernel
theorem dX8_put_135 : decode cX8_put 135 = .ok (.ireturn, 1) := by decide +kernel
set_option maxRecDepth 20000 in
theorem ggX8_take_X8_letterOf : GoodIn wsX8_take wsX8_letterOf := goodIn_ca (goodIn_r _ [8, 9, 10, 2, 11, 12, 13, 7, 14, 1, 38, 39, 40] (by decide +kernel) (by decide +kernel)) (goodIn_sub (fun _ h => List.mem_cons_of_mem _ (List.mem_append_right _ h)) (by decide +kernel))
set_option maxRecDepth 20000 in
theorem gX8_take_X8_letterOf : GoodIn wsX8_take (wsV RX8 55 RX8 yX8_letterOf wsX8_letterOf) := goodIn_app (goodIn_of _ (by decide +kernel)) ggX8_take_X8_letterOf
set_option maxRecDepth 20000 in
theorem ggX8_take_X8_marksOf : GoodIn wsX8_take wsX8_marksOf := goodIn_ca (goodIn_r _ [18, 9, 10, 3, 38, 39, 40] (by decide +kernel) (by decide +kernel)) (goodIn_sub (fun _ h => List.mem_cons_of_mem _ (List.mem_append_right _ h)) (by decide +kernel))
set_option maxRecDepth 20000 in
theorem gX8_take_X8_marksOf : GoodIn wsX8_take (wsV RX8 47 RX8 yX8_marksOf wsX8_marksOf) := goodIn_app (goodIn_of _ (by decide +kernel)) ggX8_take_X8_marksOf
set_option maxRecDepth 20000 in
theorem ggX8_take_X6_closeAt : GoodIn wsX8_take wsX6_closeAt := goodIn_r _ [23, 24, 25, 26, 27, 22, 28, 29, 30, 31, 32, 33, 34, 35, 36, 37, 41] (by decide +kernel) (by decide +kernel)
set_option maxRecDepth 20000 in
theorem gX8_take_X6_closeAt : GoodIn wsX8_take (wsV RX8 59 RX6 yX6_closeAt wsX6_closeAt) := goodIn_app (goodIn_of _ (by decide +kernel)) ggX8_take_X6_closeAt
theorem dX8_take_0 : decode cX8_take 0 = .ok (.aload_n 0, 1) := by decide +kernel
theorem dX8_take_1 : decode cX8_take 1 = .ok (.iload_n 1, 1) := by decide +kernel
theorem dX8_take_2 : decode cX8_take 2 = .ok (.invokevirtual 55, 3) := by decide +kernel
theorem dX8_take_5 : decode cX8_take 5 = .ok (.istore_n 2, 1) := by decide +kernel
theorem dX8_take_6 : decode cX8_take 6 = .ok (.aload_n 0, 1) := by decide +kernel
theorem dX8_take_7 : decode cX8_take 7 = .ok (.dup, 1) := by decide +kernel
theorem dX8_take_8 : decode cX8_take 8 = .ok (.getfield 22, 3) := by decide +kernel
theorem dX8_take_11 : decode cX8_take 11 = .ok (.iconst 1, 1) := by decide +kernel
theorem dX8_take_12 : decode cX8_take 12 = .ok (.isub, 1) := by decide +kernel
theorem dX8_take_13 : decode cX8_take 13 = .ok (.putfield 22, 3) := by decide +kernel
theorem dX8_take_16 : decode cX8_take 16 = .ok (.iload_n 1, 1) := by decide +kernel
theorem dX8_take_17 : decode cX8_take 17 = .ok (.istore_n 3, 1) := by decide +kernel
theorem dX8_take_18 : decode cX8_take 18 = .ok (.iload_n 3, 1) := by decide +kernel
theorem dX8_take_19 : decode cX8_take 19 = .ok (.aload_n 0, 1) := by decide +kernel
theorem dX8_take_20 : decode cX8_take 20 = .ok (.getfield 22, 3) := by decide +kernel
theorem dX8_take_23 : decode cX8_take 23 = .ok (.if_icmp .ge 34, 3) := by decide +kernel
theorem dX8_take_26 : decode cX8_take 26 = .ok (.iload_n 3, 1) := by decide +kernel
theorem dX8_take_27 : decode cX8_take 27 = .ok (.iconst 1, 1) := by decide +kernel
theorem dX8_take_28 : decode cX8_take 28 = .ok (.iadd, 1) := by decide +kernel
theorem dX8_take_29 : decode cX8_take 29 = .ok (.aload_n 0, 1) := by decide +kernel
theorem dX8_take_30 : decode cX8_take 30 = .ok (.getfield 9, 3) := by decide +kernel
theorem dX8_take_33 : decode cX8_take 33 = .ok (.arraylength, 1) := by decide +kernel
theorem dX8_take_34 : decode cX8_take 34 = .ok (.if_icmp .ge 23, 3) := by decide +kernel
theorem dX8_take_37 : decode cX8_take 37 = .ok (.aload_n 0, 1) := by decide +kernel
theorem dX8_take_38 : decode cX8_take 38 = .ok (.getfield 9, 3) := by decide +kernel
theorem dX8_take_41 : decode cX8_take 41 = .ok (.iload_n 3, 1) := by decide +kernel
theorem dX8_take_42 : decode cX8_take 42 = .ok (.aload_n 0, 1) := by decide +kernel
theorem dX8_take_43 : decode cX8_take 43 = .ok (.getfield 9, 3) := by decide +kernel
theorem dX8_take_46 : decode cX8_take 46 = .ok (.iload_n 3, 1) := by decide +kernel
theorem dX8_take_47 : decode cX8_take 47 = .ok (.iconst 1, 1) := by decide +kernel
theorem dX8_take_48 : decode cX8_take 48 = .ok (.iadd, 1) := by decide +kernel
theorem dX8_take_49 : decode cX8_take 49 = .ok (.iaload, 1) := by decide +kernel
theorem dX8_take_50 : decode cX8_take 50 = .ok (.iastore, 1) := by decide +kernel
theorem dX8_take_51 : decode cX8_take 51 = .ok (.iinc 3 1, 3) := by decide +kernel
theorem dX8_take_54 : decode cX8_take 54 = .ok (.goto (-36), 3) := by decide +kernel
theorem dX8_take_57 : decode cX8_take 57 = .ok (.iconst 0, 1) := by decide +kernel
theorem dX8_take_58 : decode cX8_take 58 = .ok (.istore_n 3, 1) := by decide +kernel
theorem dX8_take_59 : decode cX8_take 59 = .ok (.iload_n 3, 1) := by decide +kernel
theorem dX8_take_60 : decode cX8_take 60 = .ok (.aload_n 0, 1) := by decide +kernel
theorem dX8_take_61 : decode cX8_take 61 = .ok (.getfield 17, 3) := by decide +kernel
theorem dX8_take_64 : decode cX8_take 64 = .ok (.arraylength, 1) := by decide +kernel
theorem dX8_take_65 : decode cX8_take 65 = .ok (.if_icmp .ge 18, 3) := by decide +kernel
theorem dX8_take_68 : decode cX8_take 68 = .ok (.aload_n 0, 1) := by decide +kernel
theorem dX8_take_69 : decode cX8_take 69 = .ok (.iload_n 3, 1) := by decide +kernel
theorem dX8_take_70 : decode cX8_take 70 = .ok (.invokevirtual 47, 3) := by decide +kernel
theorem dX8_take_73 : decode cX8_take 73 = .ok (.iload_n 1, 1) := by decide +kernel
theorem dX8_take_74 : decode cX8_take 74 = .ok (.invokevirtual 59, 3) := by decide +kernel
theorem dX8_take_77 : decode cX8_take 77 = .ok (.iinc 3 1, 3) := by decide +kernel
theorem dX8_take_80 : decode cX8_take 80 = .ok (.goto (-21), 3) := by decide +kernel
theorem dX8_take_83 : decode cX8_take 83 = .ok (.iload_n 2, 1) := by decide +kernel
theorem dX8_take_84 : decode cX8_take 84 = .ok (.ireturn, 1) := by decide +kernel
set_option maxRecDepth 20000 in
theorem ggX8_letterOf_X8_isPlace : GoodIn wsX8_letterOf wsX8_isPlace := goodIn_r _ [8, 9, 3, 10, 11, 12] (by decide +kernel) (by decide +kernel)
set_option maxRecDepth 20000 in
theorem gX8_letterOf_X8_isPlace : GoodIn wsX8_letterOf (wsV RX8 62 RX8 yX8_isPlace wsX8_isPlace) := goodIn_app (goodIn_of _ (by decide +kernel)) ggX8_letterOf_X8_isPlace
theorem dX8_letterOf_0 : decode cX8_letterOf 0 = .ok (.aload_n 0, 1) := by decide +kernel
theorem dX8_letterOf_1 : decode cX8_letterOf 1 = .ok (.iload_n 1, 1) := by decide +kernel
theorem dX8_letterOf_2 : decode cX8_letterOf 2 = .ok (.invokevirtual 62, 3) := by decide +kernel
theorem dX8_letterOf_5 : decode cX8_letterOf 5 = .ok (.ifCond .ne 13, 3) := by decide +kernel
theorem dX8_letterOf_8 : decode cX8_letterOf 8 = .ok (.new 26, 3) := by decide +kernel
theorem dX8_letterOf_11 : decode cX8_letterOf 11 = .ok (.dup, 1) := by decide +kernel
theorem dX8_letterOf_12 : decode cX8_letterOf 12 = .ok (.ldc 28, 2) := by decide +kernel
theorem dX8_letterOf_14 : decode cX8_letterOf 14 = .ok (.invokespecial 30, 3) := by decide +kernel
theorem dX8_letterOf_17 : decode cX8_letterOf 17 = .ok (.athrow, 1) := by decide +kernel
theorem dX8_letterOf_18 : decode cX8_letterOf 18 = .ok (.aload_n 0, 1) := by decide +kernel
theorem dX8_letterOf_19 : decode cX8_letterOf 19 = .ok (.getfield 9, 3) := by decide +kernel
theorem dX8_letterOf_22 : decode cX8_letterOf 22 = .ok (.iload_n 1, 1) := by decide +kernel
theorem dX8_letterOf_23 : decode cX8_letterOf 23 = .ok (.iaload, 1) := by decide +kernel
theorem dX8_letterOf_24 : decode cX8_letterOf 24 = .ok (.ireturn, 1) := by decide +kernel
set_option maxRecDepth 20000 in
theorem ggX8_isAt_X8_isPlace : GoodIn wsX8_isAt wsX8_isPlace := goodIn_r _ [6, 7, 1, 8, 9, 10] (by decide +kernel) (by decide +kernel)
set_option maxRecDepth 20000 in
theorem gX8_isAt_X8_isPlace : GoodIn wsX8_isAt (wsV RX8 62 RX8 yX8_isPlace wsX8_isPlace) := goodIn_app (goodIn_of _ (by decide +kernel)) ggX8_isAt_X8_isPlace
theorem dX8_isAt_0 : decode cX8_isAt 0 = .ok (.aload_n 0, 1) := by decide +kernel
theorem dX8_isAt_1 : decode cX8_isAt 1 = .ok (.iload_n 2, 1) := by decide +kernel
theorem dX8_isAt_2 : decode cX8_isAt 2 = .ok (.invokevirtual 62, 3) := by decide +kernel
theorem dX8_isAt_5 : decode cX8_isAt 5 = .ok (.ifCond .eq 17, 3) := by decide +kernel
theorem dX8_isAt_8 : decode cX8_isAt 8 = .ok (.aload_n 0, 1) := by decide +kernel
theorem dX8_isAt_9 : decode cX8_isAt 9 = .ok (.getfield 9, 3) := by decide +kernel
theorem dX8_isAt_12 : decode cX8_isAt 12 = .ok (.iload_n 2, 1) := by decide +kernel
theorem dX8_isAt_13 : decode cX8_isAt 13 = .ok (.iaload, 1) := by decide +kernel
theorem dX8_isAt_14 : decode cX8_isAt 14 = .ok (.iload_n 1, 1) := by decide +kernel
theorem dX8_isAt_15 : decode cX8_isAt 15 = .ok (.if_icmp .ne 7, 3) := by decide +kernel
theorem dX8_isAt_18 : decode cX8_isAt 18 = .ok (.iconst 1, 1) := by decide +kernel
theorem dX8_isAt_19 : decode cX8_isAt 19 = .ok (.goto 4, 3) := by decide +kernel
theorem dX8_isAt_22 : decode cX8_isAt 22 = .ok (.iconst 0, 1) := by decide +kernel
theorem dX8_isAt_23 : decode cX8_isAt 23 = .ok (.ireturn, 1) := by decide +kernel
theorem dX8_isPlace_0 : decode cX8_isPlace 0 = .ok (.iload_n 1, 1) := by decide +kernel
theorem dX8_isPlace_1 : decode cX8_isPlace 1 = .ok (.ifCond .lt 24, 3) := by decide +kernel
theorem dX8_isPlace_4 : decode cX8_isPlace 4 = .ok (.iload_n 1, 1) := by decide +kernel
theorem dX8_isPlace_5 : decode cX8_isPlace 5 = .ok (.aload_n 0, 1) := by decide +kernel
theorem dX8_isPlace_6 : decode cX8_isPlace 6 = .ok (.getfield 22, 3) := by decide +kernel
theorem dX8_isPlace_9 : decode cX8_isPlace 9 = .ok (.if_icmp .ge 16, 3) := by decide +kernel
theorem dX8_isPlace_12 : decode cX8_isPlace 12 = .ok (.iload_n 1, 1) := by decide +kernel
theorem dX8_isPlace_13 : decode cX8_isPlace 13 = .ok (.aload_n 0, 1) := by decide +kernel
theorem dX8_isPlace_14 : decode cX8_isPlace 14 = .ok (.getfield 9, 3) := by decide +kernel
theorem dX8_isPlace_17 : decode cX8_isPlace 17 = .ok (.arraylength, 1) := by decide +kernel
theorem dX8_isPlace_18 : decode cX8_isPlace 18 = .ok (.if_icmp .ge 7, 3) := by decide +kernel
theorem dX8_isPlace_21 : decode cX8_isPlace 21 = .ok (.iconst 1, 1) := by decide +kernel
theorem dX8_isPlace_22 : decode cX8_isPlace 22 = .ok (.goto 4, 3) := by decide +kernel
theorem dX8_isPlace_25 : decode cX8_isPlace 25 = .ok (.iconst 0, 1) := by decide +kernel
theorem dX8_isPlace_26 : decode cX8_isPlace 26 = .ok (.ireturn, 1) := by decide +kernel
set_option maxRecDepth 20000 in
theorem ggX8_isRegion_X8_isPlace : GoodIn wsX8_isRegion wsX8_isPlace := goodIn_r _ [6, 1, 7, 8, 9, 10] (by decide +kernel) (by decide +kernel)
set_option maxRecDepth 20000 in
theorem gX8_isRegion_X8_isPlace : GoodIn wsX8_isRegion (wsV RX8 62 RX8 yX8_isPlace wsX8_isPlace) := goodIn_app (goodIn_of _ (by decide +kernel)) ggX8_isRegion_X8_isPlace
theorem dX8_isRegion_0 : decode cX8_isRegion 0 = .ok (.aload_n 0, 1) := by decide +kernel
theorem dX8_isRegion_1 : decode cX8_isRegion 1 = .ok (.iload_n 1, 1) := by decide +kernel
theorem dX8_isRegion_2 : decode cX8_isRegion 2 = .ok (.invokevirtual 62, 3) := by decide +kernel
theorem dX8_isRegion_5 : decode cX8_isRegion 5 = .ok (.ifCond .eq 20, 3) := by decide +kernel
theorem dX8_isRegion_8 : decode cX8_isRegion 8 = .ok (.iload_n 2, 1) := by decide +kernel
theorem dX8_isRegion_9 : decode cX8_isRegion 9 = .ok (.iload_n 1, 1) := by decide +kernel
theorem dX8_isRegion_10 : decode cX8_isRegion 10 = .ok (.if_icmp .le 15, 3) := by decide +kernel
theorem dX8_isRegion_13 : decode cX8_isRegion 13 = .ok (.iload_n 2, 1) := by decide +kernel
theorem dX8_isRegion_14 : decode cX8_isRegion 14 = .ok (.aload_n 0, 1) := by decide +kernel
theorem dX8_isRegion_15 : decode cX8_isRegion 15 = .ok (.getfield 22, 3) := by decide +kernel
theorem dX8_isRegion_18 : decode cX8_isRegion 18 = .ok (.if_icmp .gt 7, 3) := by decide +kernel
theorem dX8_isRegion_21 : decode cX8_isRegion 21 = .ok (.iconst 1, 1) := by decide +kernel
theorem dX8_isRegion_22 : decode cX8_isRegion 22 = .ok (.goto 4, 3) := by decide +kernel
theorem dX8_isRegion_25 : decode cX8_isRegion 25 = .ok (.iconst 0, 1) := by decide +kernel
theorem dX8_isRegion_26 : decode cX8_isRegion 26 = .ok (.ireturn, 1) := by decide +kernel
theorem dX8_marksOf_0 : decode cX8_marksOf 0 = .ok (.iload_n 1, 1) := by decide +kernel
theorem dX8_marksOf_1 : decode cX8_marksOf 1 = .ok (.ifCond .lt 21, 3) := by decide +kernel
theorem dX8_marksOf_4 : decode cX8_marksOf 4 = .ok (.iload_n 1, 1) := by decide +kernel
theorem dX8_marksOf_5 : decode cX8_marksOf 5 = .ok (.aload_n 0, 1) := by decide +kernel
theorem dX8_marksOf_6 : decode cX8_marksOf 6 = .ok (.getfield 17, 3) := by decide +kernel
theorem dX8_marksOf_9 : decode cX8_marksOf 9 = .ok (.arraylength, 1) := by decide +kernel
theorem dX8_marksOf_10 : decode cX8_marksOf 10 = .ok (.if_icmp .ge 12, 3) := by decide +kernel
theorem dX8_marksOf_13 : decode cX8_marksOf 13 = .ok (.aload_n 0, 1) := by decide +kernel
theorem dX8_marksOf_14 : decode cX8_marksOf 14 = .ok (.getfield 17, 3) := by decide +kernel
theorem dX8_marksOf_17 : decode cX8_marksOf 17 = .ok (.iload_n 1, 1) := by decide +kernel
theorem dX8_marksOf_18 : decode cX8_marksOf 18 = .ok (.aaload, 1) := by decide +kernel
theorem dX8_marksOf_19 : decode cX8_marksOf 19 = .ok (.ifnonnull 13, 3) := by decide +kernel
theorem dX8_marksOf_22 : decode cX8_marksOf 22 = .ok (.new 26, 3) := by decide +kernel
theorem dX8_marksOf_25 : decode cX8_marksOf 25 = .ok (.dup, 1) := by decide +kernel
theorem dX8_marksOf_26 : decode cX8_marksOf 26 = .ok (.ldc 65, 2) := by decide +kernel
theorem dX8_marksOf_28 : decode cX8_marksOf 28 = .ok (.invokespecial 30, 3) := by decide +kernel
theorem dX8_marksOf_31 : decode cX8_marksOf 31 = .ok (.athrow, 1) := by decide +kernel
theorem dX8_marksOf_32 : decode cX8_marksOf 32 = .ok (.aload_n 0, 1) := by decide +kernel
theorem dX8_marksOf_33 : decode cX8_marksOf 33 = .ok (.getfield 17, 3) := by decide +kernel
theorem dX8_marksOf_36 : decode cX8_marksOf 36 = .ok (.iload_n 1, 1) := by decide +kernel
theorem dX8_marksOf_37 : decode cX8_marksOf 37 = .ok (.aaload, 1) := by decide +kernel
theorem dX8_marksOf_38 : decode cX8_marksOf 38 = .ok (.areturn, 1) := by decide +kernel
set_option maxRecDepth 20000 in
theorem ggX9_init_X8_init : GoodIn wsX9_init wsX8_init := goodIn_r _ [13, 14, 2, 3, 15, 16, 17, 18, 19, 20, 21, 22, 23, 24, 25, 26, 27, 31] (by decide +kernel) (by decide +kernel)
set_option maxRecDepth 20000 in
theorem gX9_init_X8_init : GoodIn wsX9_init (wsX8_init) := ggX9_init_X8_init
theorem dX9_init_0 : decode cX9_init 0 = .ok (.aload_n 0, 1) := by decide +kernel
theorem dX9_init_1 : decode cX9_init 1 = .ok (.invokespecial 3, 3) := by decide +kernel
theorem dX9_init_4 : decode cX9_init 4 = .ok (.aload_n 0, 1) := by decide +kernel
theorem dX9_init_5 : decode cX9_init 5 = .ok (.new 9, 3) := by decide +kernel
theorem dX9_init_8 : decode cX9_init 8 = .ok (.dup, 1) := by decide +kernel
theorem dX9_init_9 : decode cX9_init 9 = .ok (.invokespecial 11, 3) := by decide +kernel
theorem dX9_init_12 : decode cX9_init 12 = .ok (.putfield 12, 3) := by decide +kernel
theorem dX9_init_15 : decode cX9_init 15 = .ok (.aload_n 0, 1) := by decide +kernel
theorem dX9_init_16 : decode cX9_init 16 = .ok (.bipush 30, 2) := by decide +kernel
theorem dX9_init_18 : decode cX9_init 18 = .ok (.anewarray 16, 3) := by decide +kernel
theorem dX9_init_21 : decode cX9_init 21 = .ok (.putfield 18, 3) := by decide +kernel
theorem dX9_init_24 : decode cX9_init 24 = .ok (.aload_n 0, 1) := by decide +kernel
theorem dX9_init_25 : decode cX9_init 25 = .ok (.iconst 0, 1) := by decide +kernel
theorem dX9_init_26 : decode cX9_init 26 = .ok (.putfield 22, 3) := by decide +kernel
theorem dX9_init_29 : decode cX9_init 29 = .ok (.return_, 1) := by decide +kernel
set_option maxRecDepth 20000 in
theorem ggX9_insert_X8_put : GoodIn wsX9_insert wsX8_put := goodIn_ca (goodIn_ca (goodIn_ca (goodIn_r _ [6, 7, 8, 9, 10, 11, 12, 13, 14, 15, 16, 17, 18, 19, 20, 21, 5, 22, 23, 24, 25, 26, 27, 28, 29, 30, 31, 32, 33, 34, 35, 36, 37, 38, 39, 40, 41, 42, 43, 44, 48, 49, 50, 51] (by decide +kernel) (by decide +kernel)) (goodIn_sub (fun _ h => List.mem_cons_of_mem _ (List.mem_append_left _ (List.mem_append_left _ (List.mem_append_right _ h)))) (by decide +kernel))) (goodIn_sub (fun _ h => List.mem_cons_of_mem _ (List.mem_append_left _ (List.mem_append_right _ h))) (by decide +kernel))) (goodIn_sub (fun _ h => List.mem_cons_of_mem _ (List.mem_append_right _ h)) (by decide +kernel))
set_option maxRecDepth 20000 in
theorem gX9_insert_X8_put : GoodIn wsX9_insert (wsV RX9 26 RX8 yX8_put wsX8_put) := goodIn_app (goodIn_of _ (by decide +kernel)) ggX9_insert_X8_put
theorem dX9_insert_0 : decode cX9_insert 0 = .ok (.aload_n 0, 1) := by decide +kernel
theorem dX9_insert_1 : decode cX9_insert 1 = .ok (.getfield 12, 3) := by decide +kernel
theorem dX9_insert_4 : decode cX9_insert 4 = .ok (.iload_n 1, 1) := by decide +kernel
theorem dX9_insert_5 : decode cX9_insert 5 = .ok (.iload_n 2, 1) := by decide +kernel
theorem dX9_insert_6 : decode cX9_insert 6 = .ok (.invokevirtual 26, 3) := by decide +kernel
theorem dX9_insert_9 : decode cX9_insert 9 = .ok (.ireturn, 1) := by decide +kernel
set_option maxRecDepth 20000 in
theorem ggX9_remove_X8_take : GoodIn wsX9_remove wsX8_take := goodIn_ca (goodIn_r _ [6, 7, 8, 9, 10, 11, 12, 5, 13, 14, 15, 16, 17, 18, 19, 20, 21, 22, 23, 24, 25, 26, 27, 28, 29, 30, 31, 32, 33, 34, 35, 36, 37, 38, 39, 40, 41, 42, 46, 47, 48, 49] (by decide +kernel) (by decide +kernel)) (goodIn_sub (fun _ h => List.mem_cons_of_mem _ (List.mem_append_right _ h)) (by decide +kernel))
set_option maxRecDepth 20000 in
theorem gX9_remove_X8_take : GoodIn wsX9_remove (wsV RX9 30 RX8 yX8_take wsX8_take) := goodIn_app (goodIn_of _ (by decide +kernel)) ggX9_remove_X8_take
theorem dX9_remove_0 : decode cX9_remove 0 = .ok (.aload_n 0, 1) := by decide +kernel
theorem dX9_remove_1 : decode cX9_remove 1 = .ok (.getfield 12, 3) := by decide +kernel
theorem dX9_remove_4 : decode cX9_remove 4 = .ok (.iload_n 1, 1) := by decide +kernel
theorem dX9_remove_5 : decode cX9_remove 5 = .ok (.invokevirtual 30, 3) := by decide +kernel
theorem dX9_remove_8 : decode cX9_remove 8 = .ok (.ireturn, 1) := by decide +kernel
theorem dX9_length_0 : decode cX9_length 0 = .ok (.aload_n 0, 1) := by decide +kernel
theorem dX9_length_1 : decode cX9_length 1 = .ok (.getfield 12, 3) := by decide +kernel
theorem dX9_length_4 : decode cX9_length 4 = .ok (.getfield 34, 3) := by decide +kernel
theorem dX9_length_7 : decode cX9_length 7 = .ok (.ireturn, 1) := by decide +kernel
set_option maxRecDepth 20000 in
theorem ggX9_letterAt_X8_letterOf : GoodIn wsX9_letterAt wsX8_letterOf := goodIn_ca (goodIn_r _ [6, 7, 8, 9, 10, 11, 12, 5, 13, 14, 18, 19, 20] (by decide +kernel) (by decide +kernel)) (goodIn_sub (fun _ h => List.mem_cons_of_mem _ (List.mem_append_right _ h)) (by decide +kernel))
set_option maxRecDepth 20000 in
theorem gX9_letterAt_X8_letterOf : GoodIn wsX9_letterAt (wsV RX9 37 RX8 yX8_letterOf wsX8_letterOf) := goodIn_app (goodIn_of _ (by decide +kernel)) ggX9_letterAt_X8_letterOf
theorem dX9_letterAt_0 : decode cX9_letterAt 0 = .ok (.aload_n 0, 1) := by decide +kernel
theorem dX9_letterAt_1 : decode cX9_letterAt 1 = .ok (.getfield 12, 3) := by decide +kernel
theorem dX9_letterAt_4 : decode cX9_letterAt 4 = .ok (.iload_n 1, 1) := by decide +kernel
theorem dX9_letterAt_5 : decode cX9_letterAt 5 = .ok (.invokevirtual 37, 3) := by decide +kernel
theorem dX9_letterAt_8 : decode cX9_letterAt 8 = .ok (.ireturn, 1) := by decide +kernel
set_option maxRecDepth 20000 in
theorem ggX9_mark_X8_marksOf : GoodIn wsX9_mark wsX8_marksOf := goodIn_ca (goodIn_r _ [8, 9, 10, 11, 35, 36, 37] (by decide +kernel) (by decide +kernel)) (goodIn_sub (fun _ h => List.mem_cons_of_mem _ (List.mem_append_right _ h)) (by decide +kernel))
set_option maxRecDepth 20000 in
theorem gX9_mark_X8_marksOf : GoodIn wsX9_mark (wsV RX9 40 RX8 yX8_marksOf wsX8_marksOf) := goodIn_app (goodIn_of _ (by decide +kernel)) ggX9_mark_X8_marksOf
set_option maxRecDepth 20000 in
theorem ggX9_mark_X8_isRegion : GoodIn wsX9_mark wsX8_isRegion := goodIn_r _ [15, 16, 17, 18, 19, 7, 20, 21, 35, 36, 37] (by decide +kernel) (by decide +kernel)
set_option maxRecDepth 20000 in
theorem gX9_mark_X8_isRegion : GoodIn wsX9_mark (wsV RX9 44 RX8 yX8_isRegion wsX8_isRegion) := goodIn_app (goodIn_of _ (by decide +kernel)) ggX9_mark_X8_isRegion
set_option maxRecDepth 20000 in
theorem ggX9_mark_X6_contains : GoodIn wsX9_mark wsX6_contains := goodIn_r _ [26, 27, 38] (by decide +kernel) (by decide +kernel)
set_option maxRecDepth 20000 in
theorem gX9_mark_X6_contains : GoodIn wsX9_mark (wsV RX9 55 RX6 yX6_contains wsX6_contains) := goodIn_app (goodIn_of _ (by decide +kernel)) ggX9_mark_X6_contains
set_option maxRecDepth 20000 in
theorem ggX9_mark_X6_add : GoodIn wsX9_mark wsX6_add := goodIn_r _ [31, 27, 38] (by decide +kernel) (by decide +kernel)
set_option maxRecDepth 20000 in
theorem gX9_mark_X6_add : GoodIn wsX9_mark (wsV RX9 60 RX6 yX6_add wsX6_add) := goodIn_app (goodIn_of _ (by decide +kernel)) ggX9_mark_X6_add
theorem dX9_mark_0 : decode cX9_mark 0 = .ok (.aload_n 0, 1) := by decide +kernel
theorem dX9_mark_1 : decode cX9_mark 1 = .ok (.getfield 12, 3) := by decide +kernel
theorem dX9_mark_4 : decode cX9_mark 4 = .ok (.iload_n 1, 1) := by decide +kernel
theorem dX9_mark_5 : decode cX9_mark 5 = .ok (.invokevirtual 40, 3) := by decide +kernel
theorem dX9_mark_8 : decode cX9_mark 8 = .ok (.astore 4, 2) := by decide +kernel
theorem dX9_mark_10 : decode cX9_mark 10 = .ok (.aload_n 0, 1) := by decide +kernel
theorem dX9_mark_11 : decode cX9_mark 11 = .ok (.getfield 12, 3) := by decide +kernel
theorem dX9_mark_14 : decode cX9_mark 14 = .ok (.iload_n 2, 1) := by decide +kernel
theorem dX9_mark_15 : decode cX9_mark 15 = .ok (.iload_n 3, 1) := by decide +kernel
theorem dX9_mark_16 : decode cX9_mark 16 = .ok (.invokevirtual 44, 3) := by decide +kernel
theorem dX9_mark_19 : decode cX9_mark 19 = .ok (.ifCond .ne 13, 3) := by decide +kernel
theorem dX9_mark_22 : decode cX9_mark 22 = .ok (.new 48, 3) := by decide +kernel
theorem dX9_mark_25 : decode cX9_mark 25 = .ok (.dup, 1) := by decide +kernel
theorem dX9_mark_26 : decode cX9_mark 26 = .ok (.ldc 50, 2) := by decide +kernel
theorem dX9_mark_28 : decode cX9_mark 28 = .ok (.invokespecial 52, 3) := by decide +kernel
theorem dX9_mark_31 : decode cX9_mark 31 = .ok (.athrow, 1) := by decide +kernel
theorem dX9_mark_32 : decode cX9_mark 32 = .ok (.aload 4, 2) := by decide +kernel
theorem dX9_mark_34 : decode cX9_mark 34 = .ok (.iload_n 2, 1) := by decide +kernel
theorem dX9_mark_35 : decode cX9_mark 35 = .ok (.iload_n 3, 1) := by decide +kernel
theorem dX9_mark_36 : decode cX9_mark 36 = .ok (.invokevirtual 55, 3) := by decide +kernel
theorem dX9_mark_39 : decode cX9_mark 39 = .ok (.ifCond .ne 7, 3) := by decide +kernel
theorem dX9_mark_42 : decode cX9_mark 42 = .ok (.iconst 1, 1) := by decide +kernel
theorem dX9_mark_43 : decode cX9_mark 43 = .ok (.goto 4, 3) := by decide +kernel
theorem dX9_mark_46 : decode cX9_mark 46 = .ok (.iconst 0, 1) := by decide +kernel
theorem dX9_mark_47 : decode cX9_mark 47 = .ok (.istore 5, 2) := by decide +kernel
theorem dX9_mark_49 : decode cX9_mark 49 = .ok (.aload 4, 2) := by decide +kernel
theorem dX9_mark_51 : decode cX9_mark 51 = .ok (.iload_n 2, 1) := by decide +kernel
theorem dX9_mark_52 : decode cX9_mark 52 = .ok (.iload_n 3, 1) := by decide +kernel
theorem dX9_mark_53 : decode cX9_mark 53 = .ok (.invokevirtual 60, 3) := by decide +kernel
theorem dX9_mark_56 : decode cX9_mark 56 = .ok (.iload 5, 2) := by decide +kernel
theorem dX9_mark_58 : decode cX9_mark 58 = .ok (.ireturn, 1) := by decide +kernel
set_option maxRecDepth 20000 in
theorem ggX9_unmark_X8_marksOf : GoodIn wsX9_unmark wsX8_marksOf := goodIn_ca (goodIn_r _ [8, 9, 2, 10, 47, 48, 49] (by decide +kernel) (by decide +kernel)) (goodIn_sub (fun _ h => List.mem_cons_of_mem _ (List.mem_append_right _ h)) (by decide +kernel))
set_option maxRecDepth 20000 in
theorem gX9_unmark_X8_marksOf : GoodIn wsX9_unmark (wsV RX9 40 RX8 yX8_marksOf wsX8_marksOf) := goodIn_app (goodIn_of _ (by decide +kernel)) ggX9_unmark_X8_marksOf
set_option maxRecDepth 20000 in
theorem ggX9_unmark_X6_told : GoodIn wsX9_unmark wsX6_told := goodIn_r _ [15, 16, 17, 18, 14, 19, 20, 50] (by decide +kernel) (by decide +kernel)
set_option maxRecDepth 20000 in
theorem gX9_unmark_X6_told : GoodIn wsX9_unmark (wsV RX9 64 RX6 yX6_told wsX6_told) := goodIn_app (goodIn_of _ (by decide +kernel)) ggX9_unmark_X6_told
set_option maxRecDepth 20000 in
theorem ggX9_unmark_X6_drop : GoodIn wsX9_unmark wsX6_drop := goodIn_r _ [24, 16, 17, 18, 14, 19, 20, 25, 26, 27, 28, 29, 30, 31, 32, 50] (by decide +kernel) (by decide +kernel)
set_option maxRecDepth 20000 in
theorem gX9_unmark_X6_drop : GoodIn wsX9_unmark (wsV RX9 72 RX6 yX6_drop wsX6_drop) := goodIn_app (goodIn_of _ (by decide +kernel)) ggX9_unmark_X6_drop
set_option maxRecDepth 20000 in
theorem ggX9_unmark_X6_size : GoodIn wsX9_unmark wsX6_size := goodIn_r _ [36, 20, 37, 38, 39, 40, 41, 42, 43, 50] (by decide +kernel) (by decide +kernel)
set_option maxRecDepth 20000 in
theorem gX9_unmark_X6_size : GoodIn wsX9_unmark (wsV RX9 75 RX6 yX6_size wsX6_size) := goodIn_app (goodIn_of _ (by decide +kernel)) ggX9_unmark_X6_size
theorem dX9_unmark_0 : decode cX9_unmark 0 = .ok (.aload_n 0, 1) := by decide +kernel
theorem dX9_unmark_1 : decode cX9_unmark 1 = .ok (.getfield 12, 3) := by decide +kernel
theorem dX9_unmark_4 : decode cX9_unmark 4 = .ok (.iload_n 1, 1) := by decide +kernel
theorem dX9_unmark_5 : decode cX9_unmark 5 = .ok (.invokevirtual 40, 3) := by decide +kernel
theorem dX9_unmark_8 : decode cX9_unmark 8 = .ok (.astore_n 3, 1) := by decide +kernel
theorem dX9_unmark_9 : decode cX9_unmark 9 = .ok (.aload_n 3, 1) := by decide +kernel
theorem dX9_unmark_10 : decode cX9_unmark 10 = .ok (.iload_n 2, 1) := by decide +kernel
theorem dX9_unmark_11 : decode cX9_unmark 11 = .ok (.invokevirtual 64, 3) := by decide +kernel
theorem dX9_unmark_14 : decode cX9_unmark 14 = .ok (.istore 4, 2) := by decide +kernel
theorem dX9_unmark_16 : decode cX9_unmark 16 = .ok (.iload 4, 2) := by decide +kernel
theorem dX9_unmark_18 : decode cX9_unmark 18 = .ok (.ifCond .ge 13, 3) := by decide +kernel
theorem dX9_unmark_21 : decode cX9_unmark 21 = .ok (.new 67, 3) := by decide +kernel
theorem dX9_unmark_24 : decode cX9_unmark 24 = .ok (.dup, 1) := by decide +kernel
theorem dX9_unmark_25 : decode cX9_unmark 25 = .ok (.ldc 69, 2) := by decide +kernel
theorem dX9_unmark_27 : decode cX9_unmark 27 = .ok (.invokespecial 71, 3) := by decide +kernel
theorem dX9_unmark_30 : decode cX9_unmark 30 = .ok (.athrow, 1) := by decide +kernel
theorem dX9_unmark_31 : decode cX9_unmark 31 = .ok (.aload_n 3, 1) := by decide +kernel
theorem dX9_unmark_32 : decode cX9_unmark 32 = .ok (.iload 4, 2) := by decide +kernel
theorem dX9_unmark_34 : decode cX9_unmark 34 = .ok (.bipush 100, 2) := by decide +kernel
theorem dX9_unmark_36 : decode cX9_unmark 36 = .ok (.idiv, 1) := by decide +kernel
theorem dX9_unmark_37 : decode cX9_unmark 37 = .ok (.iload 4, 2) := by decide +kernel
theorem dX9_unmark_39 : decode cX9_unmark 39 = .ok (.bipush 100, 2) := by decide +kernel
theorem dX9_unmark_41 : decode cX9_unmark 41 = .ok (.irem, 1) := by decide +kernel
theorem dX9_unmark_42 : decode cX9_unmark 42 = .ok (.invokevirtual 72, 3) := by decide +kernel
theorem dX9_unmark_45 : decode cX9_unmark 45 = .ok (.aload_n 3, 1) := by decide +kernel
theorem dX9_unmark_46 : decode cX9_unmark 46 = .ok (.invokevirtual 75, 3) := by decide +kernel
theorem dX9_unmark_49 : decode cX9_unmark 49 = .ok (.ireturn, 1) := by decide +kernel
set_option maxRecDepth 20000 in
theorem ggX9_letter_X9_isLetter : GoodIn wsX9_letter wsX9_isLetter := goodIn_r _ [10] (by decide +kernel) (by decide +kernel)
set_option maxRecDepth 20000 in
theorem gX9_letter_X9_isLetter : GoodIn wsX9_letter (va_wsS RX9 78 yX9_isLetter wsX9_isLetter) := goodIn_app (goodIn_of _ (by decide +kernel)) ggX9_letter_X9_isLetter
set_option maxRecDepth 20000 in
theorem ggX9_letter_X9_requireRoom : GoodIn wsX9_letter wsX9_requireRoom := goodIn_ca (goodIn_r _ [14, 15, 16, 6, 50, 51, 52] (by decide +kernel) (by decide +kernel)) (goodIn_sub (fun _ h => List.mem_cons_of_mem _ (List.mem_append_right _ h)) (by decide +kernel))
set_option maxRecDepth 20000 in
theorem gX9_letter_X9_requireRoom : GoodIn wsX9_letter (wsV RX9 84 RX9 yX9_requireRoom wsX9_requireRoom) := goodIn_app (goodIn_of _ (by decide +kernel)) ggX9_letter_X9_requireRoom
set_option maxRecDepth 20000 in
theorem ggX9_letter_X2_init : GoodIn wsX9_letter wsX2_init := goodIn_r _ [19, 20, 21, 22, 23, 24, 25, 26, 27, 28, 29, 30, 31, 32, 33, 34, 35, 36, 37, 38, 39, 45, 46, 47, 48, 49, 53, 54, 55, 56, 57, 58, 59, 60, 61, 62, 63, 64, 65, 66, 67, 68, 69, 70, 71, 72, 73, 74, 75, 76, 77, 78, 79, 80, 81, 82, 83, 84, 85] (by decide +kernel) (by decide +kernel)
set_option maxRecDepth 20000 in
theorem gX9_letter_X2_init : GoodIn wsX9_letter (wsX2_init) := ggX9_letter_X2_init
set_option maxRecDepth 20000 in
theorem ggX9_letter_X9_keep : GoodIn wsX9_letter wsX9_keep := goodIn_r _ [43, 6, 44, 50, 51, 52] (by decide +kernel) (by decide +kernel)
set_option maxRecDepth 20000 in
theorem gX9_letter_X9_keep : GoodIn wsX9_letter (wsV RX9 92 RX9 yX9_keep wsX9_keep) := goodIn_app (goodIn_of _ (by decide +kernel)) ggX9_letter_X9_keep
theorem dX9_letter_0 : decode cX9_letter 0 = .ok (.iload_n 1, 1) := by decide +kernel
theorem dX9_letter_1 : decode cX9_letter 1 = .ok (.invokestatic 78, 3) := by decide +kernel
theorem dX9_letter_4 : decode cX9_letter 4 = .ok (.ifCond .ne 13, 3) := by decide +kernel
theorem dX9_letter_7 : decode cX9_letter 7 = .ok (.new 48, 3) := by decide +kernel
theorem dX9_letter_10 : decode cX9_letter 10 = .ok (.dup, 1) := by decide +kernel
theorem dX9_letter_11 : decode cX9_letter 11 = .ok (.ldc 82, 2) := by decide +kernel
theorem dX9_letter_13 : decode cX9_letter 13 = .ok (.invokespecial 52, 3) := by decide +kernel
theorem dX9_letter_16 : decode cX9_letter 16 = .ok (.athrow, 1) := by decide +kernel
theorem dX9_letter_17 : decode cX9_letter 17 = .ok (.aload_n 0, 1) := by decide +kernel
theorem dX9_letter_18 : decode cX9_letter 18 = .ok (.iconst 1, 1) := by decide +kernel
theorem dX9_letter_19 : decode cX9_letter 19 = .ok (.invokevirtual 84, 3) := by decide +kernel
theorem dX9_letter_22 : decode cX9_letter 22 = .ok (.aload_n 0, 1) := by decide +kernel
theorem dX9_letter_23 : decode cX9_letter 23 = .ok (.new 88, 3) := by decide +kernel
theorem dX9_letter_26 : decode cX9_letter 26 = .ok (.dup, 1) := by decide +kernel
theorem dX9_letter_27 : decode cX9_letter 27 = .ok (.aload_n 0, 1) := by decide +kernel
theorem dX9_letter_28 : decode cX9_letter 28 = .ok (.getfield 22, 3) := by decide +kernel
theorem dX9_letter_31 : decode cX9_letter 31 = .ok (.iload_n 1, 1) := by decide +kernel
theorem dX9_letter_32 : decode cX9_letter 32 = .ok (.invokespecial 90, 3) := by decide +kernel
theorem dX9_letter_35 : decode cX9_letter 35 = .ok (.invokevirtual 92, 3) := by decide +kernel
theorem dX9_letter_38 : decode cX9_letter 38 = .ok (.ireturn, 1) := by decide +kernel
set_option maxRecDepth 20000 in
theorem ggX9_marked_X8_marksOf : GoodIn wsX9_marked wsX8_marksOf := goodIn_ca (goodIn_r _ [10, 11, 12, 13, 57, 58, 59] (by decide +kernel) (by decide +kernel)) (goodIn_sub (fun _ h => List.mem_cons_of_mem _ (List.mem_append_left _ (List.mem_append_right _ h))) (by decide +kernel))
set_option maxRecDepth 20000 in
theorem gX9_marked_X8_marksOf : GoodIn wsX9_marked (wsV RX9 40 RX8 yX8_marksOf wsX8_marksOf) := goodIn_app (goodIn_of _ (by decide +kernel)) ggX9_marked_X8_marksOf
set_option maxRecDepth 20000 in
theorem ggX9_marked_X9_requireRoom : GoodIn wsX9_marked wsX9_requireRoom := goodIn_ca (goodIn_r _ [18, 19, 20, 5, 49, 50, 51] (by decide +kernel) (by decide +kernel)) (goodIn_sub (fun _ h => List.mem_cons_of_mem _ (List.mem_append_right _ h)) (by decide +kernel))
set_option maxRecDepth 20000 in
theorem gX9_marked_X9_requireRoom : GoodIn wsX9_marked (wsV RX9 84 RX9 yX9_requireRoom wsX9_requireRoom) := goodIn_app (goodIn_of _ (by decide +kernel)) ggX9_marked_X9_requireRoom
set_option maxRecDepth 20000 in
theorem ggX9_marked_X1_init : GoodIn wsX9_marked wsX1_init := goodIn_r _ [23, 24, 25, 26, 27, 28, 29, 30, 31, 32, 33, 34, 35, 36, 37, 38, 39, 40, 41, 42, 43, 52, 53, 54, 55, 56, 60, 61, 62, 63, 64, 65, 66, 67, 68, 69, 70, 71, 72, 73, 74, 75, 76, 77, 78, 79, 80, 81, 82, 83, 84, 85, 86, 87, 88, 89, 90, 91, 92] (by decide +kernel) (by decide +kernel)
set_option maxRecDepth 20000 in
theorem gX9_marked_X1_init : GoodIn wsX9_marked (wsX1_init) := ggX9_marked_X1_init
set_option maxRecDepth 20000 in
theorem ggX9_marked_X9_keep : GoodIn wsX9_marked wsX9_keep := goodIn_r _ [47, 5, 48, 49, 50, 51] (by decide +kernel) (by decide +kernel)
set_option maxRecDepth 20000 in
theorem gX9_marked_X9_keep : GoodIn wsX9_marked (wsV RX9 92 RX9 yX9_keep wsX9_keep) := goodIn_app (goodIn_of _ (by decide +kernel)) ggX9_marked_X9_keep
theorem dX9_marked_0 : decode cX9_marked 0 = .ok (.aload_n 0, 1) := by decide +kernel
theorem dX9_marked_1 : decode cX9_marked 1 = .ok (.getfield 12, 3) := by decide +kernel
theorem dX9_marked_4 : decode cX9_marked 4 = .ok (.iload_n 1, 1) := by decide +kernel
theorem dX9_marked_5 : decode cX9_marked 5 = .ok (.invokevirtual 40, 3) := by decide +kernel
theorem dX9_marked_8 : decode cX9_marked 8 = .ok (.astore_n 2, 1) := by decide +kernel
theorem dX9_marked_9 : decode cX9_marked 9 = .ok (.aload_n 0, 1) := by decide +kernel
theorem dX9_marked_10 : decode cX9_marked 10 = .ok (.iconst 1, 1) := by decide +kernel
theorem dX9_marked_11 : decode cX9_marked 11 = .ok (.invokevirtual 84, 3) := by decide +kernel
theorem dX9_marked_14 : decode cX9_marked 14 = .ok (.aload_n 0, 1) := by decide +kernel
theorem dX9_marked_15 : decode cX9_marked 15 = .ok (.new 96, 3) := by decide +kernel
theorem dX9_marked_18 : decode cX9_marked 18 = .ok (.dup, 1) := by decide +kernel
theorem dX9_marked_19 : decode cX9_marked 19 = .ok (.aload_n 0, 1) := by decide +kernel
theorem dX9_marked_20 : decode cX9_marked 20 = .ok (.getfield 22, 3) := by decide +kernel
theorem dX9_marked_23 : decode cX9_marked 23 = .ok (.aload_n 2, 1) := by decide +kernel
theorem dX9_marked_24 : decode cX9_marked 24 = .ok (.invokespecial 98, 3) := by decide +kernel
theorem dX9_marked_27 : decode cX9_marked 27 = .ok (.invokevirtual 92, 3) := by decide +kernel
theorem dX9_marked_30 : decode cX9_marked 30 = .ok (.ireturn, 1) := by decide +kernel
set_option maxRecDepth 20000 in
theorem ggX9_pair_X9_expressionOf : GoodIn wsX9_pair wsX9_expressionOf := goodIn_ca (goodIn_r _ [14, 15, 16, 17, 78, 79, 80] (by decide +kernel) (by decide +kernel)) (goodIn_sub (fun _ h => List.mem_cons_of_mem _ (List.mem_append_left _ (List.mem_append_right _ h))) (by decide +kernel))
set_option maxRecDepth 20000 in
theorem gX9_pair_X9_expressionOf : GoodIn wsX9_pair (wsV RX9 101 RX9 yX9_expressionOf wsX9_expressionOf) := goodIn_app (goodIn_of _ (by decide +kernel)) ggX9_pair_X9_expressionOf
set_option maxRecDepth 20000 in
theorem ggX9_pair_X9_depthAbove : GoodIn wsX9_pair wsX9_depthAbove := goodIn_r _ [20, 21, 22, 23, 24, 25, 88, 89, 90, 91, 92, 93, 94, 95, 96, 97, 98, 99, 100, 101, 102, 103, 104, 105, 106, 107, 108, 109, 110, 81, 82, 83, 84, 85, 86, 87, 71, 72, 73, 74, 75, 76, 77] (by decide +kernel) (by decide +kernel)
set_option maxRecDepth 20000 in
theorem gX9_pair_X9_depthAbove : GoodIn wsX9_pair (va_wsS RX9 107 yX9_depthAbove wsX9_depthAbove) := goodIn_app (goodIn_of _ (by decide +kernel)) ggX9_pair_X9_depthAbove
set_option maxRecDepth 20000 in
theorem ggX9_pair_X9_requireRoom : GoodIn wsX9_pair wsX9_requireRoom := goodIn_ca (goodIn_r _ [29, 30, 31, 6, 78, 79, 80] (by decide +kernel) (by decide +kernel)) (goodIn_sub (fun _ h => List.mem_cons_of_mem _ (List.mem_append_right _ h)) (by decide +kernel))
set_option maxRecDepth 20000 in
theorem gX9_pair_X9_requireRoom : GoodIn wsX9_pair (wsV RX9 84 RX9 yX9_requireRoom wsX9_requireRoom) := goodIn_app (goodIn_of _ (by decide +kernel)) ggX9_pair_X9_requireRoom
set_option maxRecDepth 20000 in
theorem ggX9_pair_X7_init : GoodIn wsX9_pair wsX7_init := goodIn_r _ [34, 35, 36, 37, 38, 39, 40, 41, 19, 13, 20, 21, 22, 23, 24, 25, 42, 43, 44, 45, 46, 47, 48, 49, 50, 51, 52, 53, 54, 55, 56, 57, 58, 88, 89, 90, 91, 92, 93, 94, 95, 96, 97, 98, 99, 100, 101, 102, 103, 104, 105, 106, 107, 108, 109, 110, 81, 82, 83, 84, 85, 86, 87, 71, 72, 73, 74, 75, 76, 77, 111] (by decide +kernel) (by decide +kernel)
set_option maxRecDepth 20000 in
theorem gX9_pair_X7_init : GoodIn wsX9_pair (wsX7_init) := ggX9_pair_X7_init
set_option maxRecDepth 20000 in
theorem ggX9_pair_X9_keep : GoodIn wsX9_pair wsX9_keep := goodIn_r _ [62, 6, 17, 78, 79, 80] (by decide +kernel) (by decide +kernel)
set_option maxRecDepth 20000 in
theorem gX9_pair_X9_keep : GoodIn wsX9_pair (wsV RX9 92 RX9 yX9_keep wsX9_keep) := goodIn_app (goodIn_of _ (by decide +kernel)) ggX9_pair_X9_keep
set_option maxRecDepth 20000 in
theorem ggX9_pair_X5_init : GoodIn wsX9_pair wsX5_init := goodIn_r _ [65, 66, 67, 68, 69, 19, 13, 20, 21, 22, 23, 24, 25, 70, 43, 44, 45, 46, 47, 48, 49, 37, 38, 50, 51, 52, 53, 54, 55, 56, 57, 58, 88, 89, 90, 91, 92, 93, 94, 95, 96, 97, 98, 99, 100, 101, 102, 103, 104, 105, 106, 107, 108, 109, 110, 81, 82, 83, 84, 85, 86, 87, 71, 72, 73, 74, 75, 76, 77, 111] (by decide +kernel) (by decide +kernel)
set_option maxRecDepth 20000 in
theorem gX9_pair_X5_init : GoodIn wsX9_pair (wsX5_init) := ggX9_pair_X5_init
theorem dX9_pair_0 : decode cX9_pair 0 = .ok (.aload_n 0, 1) := by decide +kernel
theorem dX9_pair_1 : decode cX9_pair 1 = .ok (.iload_n 2, 1) := by decide +kernel
theorem dX9_pair_2 : decode cX9_pair 2 = .ok (.invokevirtual 101, 3) := by decide +kernel
theorem dX9_pair_5 : decode cX9_pair 5 = .ok (.astore 4, 2) := by decide +kernel
theorem dX9_pair_7 : decode cX9_pair 7 = .ok (.aload_n 0, 1) := by decide +kernel
theorem dX9_pair_8 : decode cX9_pair 8 = .ok (.iload_n 3, 1) := by decide +kernel
theorem dX9_pair_9 : decode cX9_pair 9 = .ok (.invokevirtual 101, 3) := by decide +kernel
theorem dX9_pair_12 : decode cX9_pair 12 = .ok (.astore 5, 2) := by decide +kernel
theorem dX9_pair_14 : decode cX9_pair 14 = .ok (.iload_n 1, 1) := by decide +kernel
theorem dX9_pair_15 : decode cX9_pair 15 = .ok (.ifCond .lt 9, 3) := by decide +kernel
theorem dX9_pair_18 : decode cX9_pair 18 = .ok (.iload_n 1, 1) := by decide +kernel
theorem dX9_pair_19 : decode cX9_pair 19 = .ok (.bipush 9, 2) := by decide +kernel
theorem dX9_pair_21 : decode cX9_pair 21 = .ok (.if_icmp .le 13, 3) := by decide +kernel
theorem dX9_pair_24 : decode cX9_pair 24 = .ok (.new 48, 3) := by decide +kernel
theorem dX9_pair_27 : decode cX9_pair 27 = .ok (.dup, 1) := by decide +kernel
theorem dX9_pair_28 : decode cX9_pair 28 = .ok (.ldc 105, 2) := by decide +kernel
theorem dX9_pair_30 : decode cX9_pair 30 = .ok (.invokespecial 52, 3) := by decide +kernel
theorem dX9_pair_33 : decode cX9_pair 33 = .ok (.athrow, 1) := by decide +kernel
theorem dX9_pair_34 : decode cX9_pair 34 = .ok (.aload_n 0, 1) := by decide +kernel
theorem dX9_pair_35 : decode cX9_pair 35 = .ok (.aload 4, 2) := by decide +kernel
theorem dX9_pair_37 : decode cX9_pair 37 = .ok (.aload 5, 2) := by decide +kernel
theorem dX9_pair_39 : decode cX9_pair 39 = .ok (.invokestatic 107, 3) := by decide +kernel
theorem dX9_pair_42 : decode cX9_pair 42 = .ok (.invokevirtual 84, 3) := by decide +kernel
theorem dX9_pair_45 : decode cX9_pair 45 = .ok (.iload_n 1, 1) := by decide +kernel
theorem dX9_pair_46 : decode cX9_pair 46 = .ok (.bipush 9, 2) := by decide +kernel
theorem dX9_pair_48 : decode cX9_pair 48 = .ok (.if_icmp .ne 23, 3) := by decide +kernel
theorem dX9_pair_51 : decode cX9_pair 51 = .ok (.aload_n 0, 1) := by decide +kernel
theorem dX9_pair_52 : decode cX9_pair 52 = .ok (.new 111, 3) := by decide +kernel
theorem dX9_pair_55 : decode cX9_pair 55 = .ok (.dup, 1) := by decide +kernel
theorem dX9_pair_56 : decode cX9_pair 56 = .ok (.aload_n 0, 1) := by decide +kernel
theorem dX9_pair_57 : decode cX9_pair 57 = .ok (.getfield 22, 3) := by decide +kernel
theorem dX9_pair_60 : decode cX9_pair 60 = .ok (.aload 4, 2) := by decide +kernel
theorem dX9_pair_62 : decode cX9_pair 62 = .ok (.aload 5, 2) := by decide +kernel
theorem dX9_pair_64 : decode cX9_pair 64 = .ok (.invokespecial 113, 3) := by decide +kernel
theorem dX9_pair_67 : decode cX9_pair 67 = .ok (.invokevirtual 92, 3) := by decide +kernel
theorem dX9_pair_70 : decode cX9_pair 70 = .ok (.ireturn, 1) := by decide +kernel
theorem dX9_pair_71 : decode cX9_pair 71 = .ok (.aload_n 0, 1) := by decide +kernel
theorem dX9_pair_72 : decode cX9_pair 72 = .ok (.new 116, 3) := by decide +kernel
theorem dX9_pair_75 : decode cX9_pair 75 = .ok (.dup, 1) := by decide +kernel
theorem dX9_pair_76 : decode cX9_pair 76 = .ok (.aload_n 0, 1) := by decide +kernel
theorem dX9_pair_77 : decode cX9_pair 77 = .ok (.getfield 22, 3) := by decide +kernel
theorem dX9_pair_80 : decode cX9_pair 80 = .ok (.iload_n 1, 1) := by decide +kernel
theorem dX9_pair_81 : decode cX9_pair 81 = .ok (.aload 4, 2) := by decide +kernel
theorem dX9_pair_83 : decode cX9_pair 83 = .ok (.aload 5, 2) := by decide +kernel
theorem dX9_pair_85 : decode cX9_pair 85 = .ok (.invokespecial 118, 3) := by decide +kernel
theorem dX9_pair_88 : decode cX9_pair 88 = .ok (.invokevirtual 92, 3) := by decide +kernel
theorem dX9_pair_91 : decode cX9_pair 91 = .ok (.ireturn, 1) := by decide +kernel
set_option maxRecDepth 20000 in
theorem ggX9_near_X9_expressionOf : GoodIn wsX9_near wsX9_expressionOf := goodIn_ca (goodIn_r _ [11, 12, 13, 14, 66, 67, 68] (by decide +kernel) (by decide +kernel)) (goodIn_sub (fun _ h => List.mem_cons_of_mem _ (List.mem_append_left _ (List.mem_append_right _ h))) (by decide +kernel))
set_option maxRecDepth 20000 in
theorem gX9_near_X9_expressionOf : GoodIn wsX9_near (wsV RX9 101 RX9 yX9_expressionOf wsX9_expressionOf) := goodIn_app (goodIn_of _ (by decide +kernel)) ggX9_near_X9_expressionOf
set_option maxRecDepth 20000 in
theorem ggX9_near_X9_depthAbove : GoodIn wsX9_near wsX9_depthAbove := goodIn_r _ [17, 18, 19, 20, 21, 22, 69, 70, 71, 72, 73, 74, 75, 76, 77, 78, 59, 60, 61, 62, 63, 64, 65, 79, 80, 81, 82, 83, 84, 85, 86, 87, 88, 89, 90, 91, 92, 93, 94, 95, 96, 97, 98] (by decide +kernel) (by decide +kernel)
set_option maxRecDepth 20000 in
theorem gX9_near_X9_depthAbove : GoodIn wsX9_near (va_wsS RX9 107 yX9_depthAbove wsX9_depthAbove) := goodIn_app (goodIn_of _ (by decide +kernel)) ggX9_near_X9_depthAbove
set_option maxRecDepth 20000 in
theorem ggX9_near_X9_requireRoom : GoodIn wsX9_near wsX9_requireRoom := goodIn_ca (goodIn_r _ [26, 27, 28, 6, 66, 67, 68] (by decide +kernel) (by decide +kernel)) (goodIn_sub (fun _ h => List.mem_cons_of_mem _ (List.mem_append_right _ h)) (by decide +kernel))
set_option maxRecDepth 20000 in
theorem gX9_near_X9_requireRoom : GoodIn wsX9_near (wsV RX9 84 RX9 yX9_requireRoom wsX9_requireRoom) := goodIn_app (goodIn_of _ (by decide +kernel)) ggX9_near_X9_requireRoom
set_option maxRecDepth 20000 in
theorem ggX9_near_X3_init : GoodIn wsX9_near wsX3_init := goodIn_r _ [31, 32, 33, 34, 35, 16, 10, 17, 18, 19, 20, 21, 22, 36, 37, 38, 39, 40, 41, 42, 43, 44, 45, 46, 47, 48, 49, 50, 51, 52, 53, 54, 69, 70, 71, 72, 73, 74, 75, 76, 77, 78, 59, 60, 61, 62, 63, 64, 65, 79, 80, 81, 82, 83, 84, 85, 86, 87, 88, 89, 90, 91, 92, 93, 94, 95, 96, 97, 98, 99] (by decide +kernel) (by decide +kernel)
set_option maxRecDepth 20000 in
theorem gX9_near_X3_init : GoodIn wsX9_near (wsX3_init) := ggX9_near_X3_init
set_option maxRecDepth 20000 in
theorem ggX9_near_X9_keep : GoodIn wsX9_near wsX9_keep := goodIn_r _ [58, 6, 14, 66, 67, 68] (by decide +kernel) (by decide +kernel)
set_option maxRecDepth 20000 in
theorem gX9_near_X9_keep : GoodIn wsX9_near (wsV RX9 92 RX9 yX9_keep wsX9_keep) := goodIn_app (goodIn_of _ (by decide +kernel)) ggX9_near_X9_keep
theorem dX9_near_0 : decode cX9_near 0 = .ok (.aload_n 0, 1) := by decide +kernel
theorem dX9_near_1 : decode cX9_near 1 = .ok (.iload_n 1, 1) := by decide +kernel
theorem dX9_near_2 : decode cX9_near 2 = .ok (.invokevirtual 101, 3) := by decide +kernel
theorem dX9_near_5 : decode cX9_near 5 = .ok (.astore 4, 2) := by decide +kernel
theorem dX9_near_7 : decode cX9_near 7 = .ok (.aload_n 0, 1) := by decide +kernel
theorem dX9_near_8 : decode cX9_near 8 = .ok (.iload_n 2, 1) := by decide +kernel
theorem dX9_near_9 : decode cX9_near 9 = .ok (.invokevirtual 101, 3) := by decide +kernel
theorem dX9_near_12 : decode cX9_near 12 = .ok (.astore 5, 2) := by decide +kernel
theorem dX9_near_14 : decode cX9_near 14 = .ok (.iload_n 3, 1) := by decide +kernel
theorem dX9_near_15 : decode cX9_near 15 = .ok (.ifCond .lt 9, 3) := by decide +kernel
theorem dX9_near_18 : decode cX9_near 18 = .ok (.iload_n 3, 1) := by decide +kernel
theorem dX9_near_19 : decode cX9_near 19 = .ok (.bipush 24, 2) := by decide +kernel
theorem dX9_near_21 : decode cX9_near 21 = .ok (.if_icmp .le 13, 3) := by decide +kernel
theorem dX9_near_24 : decode cX9_near 24 = .ok (.new 48, 3) := by decide +kernel
theorem dX9_near_27 : decode cX9_near 27 = .ok (.dup, 1) := by decide +kernel
theorem dX9_near_28 : decode cX9_near 28 = .ok (.ldc 121, 2) := by decide +kernel
theorem dX9_near_30 : decode cX9_near 30 = .ok (.invokespecial 52, 3) := by decide +kernel
theorem dX9_near_33 : decode cX9_near 33 = .ok (.athrow, 1) := by decide +kernel
theorem dX9_near_34 : decode cX9_near 34 = .ok (.aload_n 0, 1) := by decide +kernel
theorem dX9_near_35 : decode cX9_near 35 = .ok (.aload 4, 2) := by decide +kernel
theorem dX9_near_37 : decode cX9_near 37 = .ok (.aload 5, 2) := by decide +kernel
theorem dX9_near_39 : decode cX9_near 39 = .ok (.invokestatic 107, 3) := by decide +kernel
theorem dX9_near_42 : decode cX9_near 42 = .ok (.invokevirtual 84, 3) := by decide +kernel
theorem dX9_near_45 : decode cX9_near 45 = .ok (.aload_n 0, 1) := by decide +kernel
theorem dX9_near_46 : decode cX9_near 46 = .ok (.new 123, 3) := by decide +kernel
theorem dX9_near_49 : decode cX9_near 49 = .ok (.dup, 1) := by decide +kernel
theorem dX9_near_50 : decode cX9_near 50 = .ok (.aload_n 0, 1) := by decide +kernel
theorem dX9_near_51 : decode cX9_near 51 = .ok (.getfield 22, 3) := by decide +kernel
theorem dX9_near_54 : decode cX9_near 54 = .ok (.aload 4, 2) := by decide +kernel
theorem dX9_near_56 : decode cX9_near 56 = .ok (.aload 5, 2) := by decide +kernel
theorem dX9_near_58 : decode cX9_near 58 = .ok (.iload_n 3, 1) := by decide +kernel
theorem dX9_near_59 : decode cX9_near 59 = .ok (.invokespecial 125, 3) := by decide +kernel
theorem dX9_near_62 : decode cX9_near 62 = .ok (.invokevirtual 92, 3) := by decide +kernel
theorem dX9_near_65 : decode cX9_near 65 = .ok (.ireturn, 1) := by decide +kernel
set_option maxRecDepth 20000 in
theorem ggX9_only_X9_expressionOf : GoodIn wsX9_only wsX9_expressionOf := goodIn_ca (goodIn_r _ [9, 10, 11, 12, 62, 63, 64] (by decide +kernel) (by decide +kernel)) (goodIn_sub (fun _ h => List.mem_cons_of_mem _ (List.mem_append_left _ (List.mem_append_right _ h))) (by decide +kernel))
set_option maxRecDepth 20000 in
theorem gX9_only_X9_expressionOf : GoodIn wsX9_only (wsV RX9 101 RX9 yX9_expressionOf wsX9_expressionOf) := goodIn_app (goodIn_of _ (by decide +kernel)) ggX9_only_X9_expressionOf
set_option maxRecDepth 20000 in
theorem ggX9_only_X9_depthAbove : GoodIn wsX9_only wsX9_depthAbove := goodIn_r _ [15, 16, 17, 18, 19, 20, 65, 66, 67, 68, 69, 70, 71, 72, 73, 74, 75, 76, 77, 78, 79, 80, 81, 56, 57, 58, 59, 60, 61, 82, 83, 84, 85, 86, 87, 88, 89, 90, 91, 92, 93, 94, 95] (by decide +kernel) (by decide +kernel)
set_option maxRecDepth 20000 in
theorem gX9_only_X9_depthAbove : GoodIn wsX9_only (va_wsS RX9 107 yX9_depthAbove wsX9_depthAbove) := goodIn_app (goodIn_of _ (by decide +kernel)) ggX9_only_X9_depthAbove
set_option maxRecDepth 20000 in
theorem ggX9_only_X9_requireRoom : GoodIn wsX9_only wsX9_requireRoom := goodIn_ca (goodIn_r _ [24, 25, 26, 4, 62, 63, 64] (by decide +kernel) (by decide +kernel)) (goodIn_sub (fun _ h => List.mem_cons_of_mem _ (List.mem_append_right _ h)) (by decide +kernel))
set_option maxRecDepth 20000 in
theorem gX9_only_X9_requireRoom : GoodIn wsX9_only (wsV RX9 84 RX9 yX9_requireRoom wsX9_requireRoom) := goodIn_app (goodIn_of _ (by decide +kernel)) ggX9_only_X9_requireRoom
set_option maxRecDepth 20000 in
theorem ggX9_only_X4_init : GoodIn wsX9_only wsX4_init := goodIn_r _ [29, 30, 31, 32, 14, 8, 15, 16, 17, 18, 19, 20, 33, 34, 35, 36, 37, 38, 39, 40, 41, 42, 43, 44, 45, 46, 47, 48, 49, 50, 51, 65, 66, 67, 68, 69, 70, 71, 72, 73, 74, 75, 76, 77, 78, 79, 80, 81, 56, 57, 58, 59, 60, 61, 82, 83, 84, 85, 86, 87, 88, 89, 90, 91, 92, 93, 94, 95, 96] (by decide +kernel) (by decide +kernel)
set_option maxRecDepth 20000 in
theorem gX9_only_X4_init : GoodIn wsX9_only (wsX4_init) := ggX9_only_X4_init
set_option maxRecDepth 20000 in
theorem ggX9_only_X9_keep : GoodIn wsX9_only wsX9_keep := goodIn_r _ [55, 4, 12, 62, 63, 64] (by decide +kernel) (by decide +kernel)
set_option maxRecDepth 20000 in
theorem gX9_only_X9_keep : GoodIn wsX9_only (wsV RX9 92 RX9 yX9_keep wsX9_keep) := goodIn_app (goodIn_of _ (by decide +kernel)) ggX9_only_X9_keep
theorem dX9_only_0 : decode cX9_only 0 = .ok (.aload_n 0, 1) := by decide +kernel
theorem dX9_only_1 : decode cX9_only 1 = .ok (.iload_n 1, 1) := by decide +kernel
theorem dX9_only_2 : decode cX9_only 2 = .ok (.invokevirtual 101, 3) := by decide +kernel
theorem dX9_only_5 : decode cX9_only 5 = .ok (.astore_n 3, 1) := by decide +kernel
theorem dX9_only_6 : decode cX9_only 6 = .ok (.aload_n 0, 1) := by decide +kernel
theorem dX9_only_7 : decode cX9_only 7 = .ok (.aload_n 3, 1) := by decide +kernel
theorem dX9_only_8 : decode cX9_only 8 = .ok (.aload_n 3, 1) := by decide +kernel
theorem dX9_only_9 : decode cX9_only 9 = .ok (.invokestatic 107, 3) := by decide +kernel
theorem dX9_only_12 : decode cX9_only 12 = .ok (.invokevirtual 84, 3) := by decide +kernel
theorem dX9_only_15 : decode cX9_only 15 = .ok (.aload_n 0, 1) := by decide +kernel
theorem dX9_only_16 : decode cX9_only 16 = .ok (.new 128, 3) := by decide +kernel
theorem dX9_only_19 : decode cX9_only 19 = .ok (.dup, 1) := by decide +kernel
theorem dX9_only_20 : decode cX9_only 20 = .ok (.aload_n 0, 1) := by decide +kernel
theorem dX9_only_21 : decode cX9_only 21 = .ok (.getfield 22, 3) := by decide +kernel
theorem dX9_only_24 : decode cX9_only 24 = .ok (.aload_n 3, 1) := by decide +kernel
theorem dX9_only_25 : decode cX9_only 25 = .ok (.iload_n 2, 1) := by decide +kernel
theorem dX9_only_26 : decode cX9_only 26 = .ok (.invokespecial 130, 3) := by decide +kernel
theorem dX9_only_29 : decode cX9_only 29 = .ok (.invokevirtual 92, 3) := by decide +kernel
theorem dX9_only_32 : decode cX9_only 32 = .ok (.ireturn, 1) := by decide +kernel
theorem dX9_nodes_0 : decode cX9_nodes 0 = .ok (.aload_n 0, 1) := by decide +kernel
theorem dX9_nodes_1 : decode cX9_nodes 1 = .ok (.getfield 22, 3) := by decide +kernel
theorem dX9_nodes_4 : decode cX9_nodes 4 = .ok (.ireturn, 1) := by decide +kernel
set_option maxRecDepth 20000 in
theorem ggX9_regions_X9_gatheredOf : GoodIn wsX9_regions wsX9_gatheredOf := goodIn_ca (goodIn_r _ [5, 6, 7, 8, 9, 10, 11, 4, 12, 13, 14, 15, 16, 17, 18, 19, 20, 21, 22, 23, 24, 25, 26, 27, 28, 29, 30, 31, 32, 33, 34, 35, 36, 37, 38, 39, 40, 41, 42, 43, 44, 45, 46, 47, 48, 49, 50, 51, 52, 53, 54, 55, 56, 57, 58, 59, 60, 61, 62, 63, 64, 65, 66, 67, 68, 69, 70, 71, 72, 73, 74, 75, 76, 77, 78, 79, 80, 81, 82, 83, 84, 85, 86, 87, 88, 89, 90, 91, 92, 93, 94, 95, 96, 97, 98, 99, 100, 101, 102, 103, 104, 105, 106, 107, 108, 109, 110, 111, 112, 113, 114, 115, 116, 117, 118, 119, 120, 121, 122, 123, 124, 125, 126, 127, 128, 129, 130, 131, 132, 133, 134, 135, 136, 137, 138, 139, 140, 141, 142, 143, 144, 145, 146, 147, 148, 149, 150, 151, 152, 153, 154, 155, 156, 157, 158, 159, 160, 161, 162, 163, 164, 165, 166, 167, 168, 169, 170, 171, 172, 173, 185, 186, 187, 188, 189, 190, 191, 192, 193, 194, 195, 196, 197, 198, 199, 200, 201, 202, 203, 204, 205, 206, 207, 208, 209, 210, 211, 212, 213, 214, 215, 216, 217, 218, 219, 220, 221, 222, 223, 224, 225, 226, 227, 228] (by decide +kernel) (by decide +kernel)) (goodIn_sub (fun _ h => List.mem_cons_of_mem _ (List.mem_append_right _ h)) (by decide +kernel))
set_option maxRecDepth 20000 in
theorem gX9_regions_X9_gatheredOf : GoodIn wsX9_regions (wsV RX9 133 RX9 yX9_gatheredOf wsX9_gatheredOf) := goodIn_app (goodIn_of _ (by decide +kernel)) ggX9_regions_X9_gatheredOf
set_option maxRecDepth 20000 in
theorem ggX9_regions_X6_size : GoodIn wsX9_regions wsX6_size := goodIn_r _ [177, 41, 178, 179, 180, 181, 182, 183, 184, 225] (by decide +kernel) (by decide +kernel)
set_option maxRecDepth 20000 in
theorem gX9_regions_X6_size : GoodIn wsX9_regions (wsV RX9 75 RX6 yX6_size wsX6_size) := goodIn_app (goodIn_of _ (by decide +kernel)) ggX9_regions_X6_size
theorem dX9_regions_0 : decode cX9_regions 0 = .ok (.aload_n 0, 1) := by decide +kernel
theorem dX9_regions_1 : decode cX9_regions 1 = .ok (.iload_n 1, 1) := by decide +kernel
theorem dX9_regions_2 : decode cX9_regions 2 = .ok (.invokevirtual 133, 3) := by decide +kernel
theorem dX9_regions_5 : decode cX9_regions 5 = .ok (.invokevirtual 75, 3) := by decide +kernel
theorem dX9_regions_8 : decode cX9_regions 8 = .ok (.ireturn, 1) := by decide +kernel
set_option maxRecDepth 20000 in
theorem ggX9_regionsOneByOne_X9_askedOf : GoodIn wsX9_regionsOneByOne wsX9_askedOf := goodIn_ca (goodIn_r _ [5, 6, 7, 8, 9, 10, 11, 4, 12, 13, 14, 15, 16, 17, 18, 19, 20, 21, 22, 23, 24, 25, 26, 27, 28, 29, 30, 31, 32, 33, 34, 35, 36, 37, 38, 39, 40, 41, 42, 43, 44, 45, 46, 47, 48, 49, 50, 51, 52, 53, 54, 55, 56, 57, 58, 59, 60, 61, 62, 63, 64, 65, 66, 67, 68, 69, 70, 71, 72, 73, 74, 75, 76, 77, 78, 79, 80, 81, 82, 83, 84, 85, 86, 87, 88, 89, 90, 91, 92, 93, 94, 95, 96, 97, 98, 99, 100, 101, 102, 103, 104, 105, 106, 107, 108, 109, 110, 111, 112, 113, 114, 115, 116, 117, 118, 119, 120, 121, 122, 123, 124, 125, 126, 127, 128, 129, 130, 131, 132, 133, 134, 135, 136, 137, 138, 139, 140, 141, 142, 143, 155, 156, 157, 158, 159, 160, 161, 162, 163, 164, 165, 166, 167, 168, 169, 170, 171, 172, 173, 174, 175, 176, 177, 178, 179, 180, 181, 182, 183, 184, 185, 186, 187, 188, 189, 190, 191, 192, 193, 194, 195, 196, 197, 198] (by decide +kernel) (by decide +kernel)) (goodIn_sub (fun _ h => List.mem_cons_of_mem _ (List.mem_append_right _ h)) (by decide +kernel))
set_option maxRecDepth 20000 in
theorem gX9_regionsOneByOne_X9_askedOf : GoodIn wsX9_regionsOneByOne (wsV RX9 136 RX9 yX9_askedOf wsX9_askedOf) := goodIn_app (goodIn_of _ (by decide +kernel)) ggX9_regionsOneByOne_X9_askedOf
set_option maxRecDepth 20000 in
theorem ggX9_regionsOneByOne_X6_size : GoodIn wsX9_regionsOneByOne wsX6_size := goodIn_r _ [147, 38, 148, 149, 150, 151, 152, 153, 154, 198] (by decide +kernel) (by decide +kernel)
set_option maxRecDepth 20000 in
theorem gX9_regionsOneByOne_X6_size : GoodIn wsX9_regionsOneByOne (wsV RX9 75 RX6 yX6_size wsX6_size) := goodIn_app (goodIn_of _ (by decide +kernel)) ggX9_regionsOneByOne_X6_size
theorem dX9_regionsOneByOne_0 : decode cX9_regionsOneByOne 0 = .ok (.aload_n 0, 1) := by decide +kernel
theorem dX9_regionsOneByOne_1 : decode cX9_regionsOneByOne 1 = .ok (.iload_n 1, 1) := by decide +kernel
theorem dX9_regionsOneByOne_2 : decode cX9_regionsOneByOne 2 = .ok (.invokevirtual 136, 3) := by decide +kernel
theorem dX9_regionsOneByOne_5 : decode cX9_regionsOneByOne 5 = .ok (.invokevirtual 75, 3) := by decide +kernel
theorem dX9_regionsOneByOne_8 : decode cX9_regionsOneByOne 8 = .ok (.ireturn, 1) := by decide +kernel
set_option maxRecDepth 20000 in
theorem ggX9_regionAt_X9_gatheredOf : GoodIn wsX9_regionAt wsX9_gatheredOf := goodIn_ca (goodIn_r _ [7, 8, 9, 10, 11, 12, 13, 6, 14, 1, 2, 15, 16, 17, 18, 19, 20, 21, 22, 23, 24, 25, 26, 27, 28, 29, 30, 31, 32, 33, 34, 35, 36, 37, 38, 39, 40, 41, 42, 43, 44, 45, 46, 47, 48, 49, 50, 51, 52, 53, 54, 55, 56, 57, 58, 59, 60, 61, 62, 63, 64, 65, 66, 67, 68, 69, 70, 71, 72, 73, 74, 75, 76, 77, 78, 79, 80, 81, 82, 83, 84, 85, 86, 87, 88, 89, 90, 91, 92, 93, 94, 95, 96, 97, 98, 99, 100, 101, 102, 103, 104, 105, 106, 107, 108, 109, 110, 111, 112, 113, 114, 115, 116, 117, 118, 119, 120, 121, 122, 123, 124, 125, 126, 127, 128, 129, 130, 131, 132, 133, 134, 135, 136, 137, 138, 139, 140, 141, 142, 143, 144, 145, 146, 147, 148, 149, 150, 151, 152, 153, 154, 155, 156, 157, 158, 159, 160, 161, 162, 163, 164, 165, 166, 167, 168, 169, 170, 171, 172, 173, 182, 183, 184, 185, 186, 187, 188, 189, 190, 191, 192, 193, 194, 195, 196, 197, 198, 199, 200, 201, 202, 203, 204, 205, 206, 207, 208, 209, 210, 211, 212, 213, 214, 215, 216, 217, 218, 219, 220, 221, 222, 223, 224, 225] (by decide +kernel) (by decide +kernel)) (goodIn_sub (fun _ h => List.mem_cons_of_mem _ (List.mem_append_right _ h)) (by decide +kernel))
set_option maxRecDepth 20000 in
theorem gX9_regionAt_X9_gatheredOf : GoodIn wsX9_regionAt (wsV RX9 133 RX9 yX9_gatheredOf wsX9_gatheredOf) := goodIn_app (goodIn_of _ (by decide +kernel)) ggX9_regionAt_X9_gatheredOf
set_option maxRecDepth 20000 in
theorem ggX9_regionAt_X6_told : GoodIn wsX9_regionAt wsX6_told := goodIn_r _ [177, 178, 179, 180, 39, 181, 41, 222] (by decide +kernel) (by decide +kernel)
set_option maxRecDepth 20000 in
theorem gX9_regionAt_X6_told : GoodIn wsX9_regionAt (wsV RX9 64 RX6 yX6_told wsX6_told) := goodIn_app (goodIn_of _ (by decide +kernel)) ggX9_regionAt_X6_told
theorem dX9_regionAt_0 : decode cX9_regionAt 0 = .ok (.aload_n 0, 1) := by decide +kernel
theorem dX9_regionAt_1 : decode cX9_regionAt 1 = .ok (.iload_n 1, 1) := by decide +kernel
theorem dX9_regionAt_2 : decode cX9_regionAt 2 = .ok (.invokevirtual 133, 3) := by decide +kernel
theorem dX9_regionAt_5 : decode cX9_regionAt 5 = .ok (.iload_n 2, 1) := by decide +kernel
theorem dX9_regionAt_6 : decode cX9_regionAt 6 = .ok (.invokevirtual 64, 3) := by decide +kernel
theorem dX9_regionAt_9 : decode cX9_regionAt 9 = .ok (.istore_n 3, 1) := by decide +kernel
theorem dX9_regionAt_10 : decode cX9_regionAt 10 = .ok (.iload_n 3, 1) := by decide +kernel
theorem dX9_regionAt_11 : decode cX9_regionAt 11 = .ok (.ifCond .ge 13, 3) := by decide +kernel
theorem dX9_regionAt_14 : decode cX9_regionAt 14 = .ok (.new 67, 3) := by decide +kernel
theorem dX9_regionAt_17 : decode cX9_regionAt 17 = .ok (.dup, 1) := by decide +kernel
theorem dX9_regionAt_18 : decode cX9_regionAt 18 = .ok (.ldc 50, 2) := by decide +kernel
theorem dX9_regionAt_20 : decode cX9_regionAt 20 = .ok (.invokespecial 71, 3) := by decide +kernel
theorem dX9_regionAt_23 : decode cX9_regionAt 23 = .ok (.athrow, 1) := by decide +kernel
theorem dX9_regionAt_24 : decode cX9_regionAt 24 = .ok (.iload_n 3, 1) := by decide +kernel
theorem dX9_regionAt_25 : decode cX9_regionAt 25 = .ok (.ireturn, 1) := by decide +kernel
set_option maxRecDepth 20000 in
theorem ggX9_has_X9_gatheredOf : GoodIn wsX9_has wsX9_gatheredOf := goodIn_ca (goodIn_r _ [5, 6, 7, 8, 9, 10, 11, 4, 12, 13, 14, 15, 16, 17, 18, 19, 20, 21, 22, 23, 24, 25, 26, 27, 28, 29, 30, 31, 32, 33, 34, 35, 36, 37, 38, 39, 40, 41, 42, 43, 44, 45, 46, 47, 48, 49, 50, 51, 52, 53, 54, 55, 56, 57, 58, 59, 60, 61, 62, 63, 64, 65, 66, 67, 68, 69, 70, 71, 72, 73, 74, 75, 76, 77, 78, 79, 80, 81, 82, 83, 84, 85, 86, 87, 88, 89, 90, 91, 92, 93, 94, 95, 96, 97, 98, 99, 100, 101, 102, 103, 104, 105, 106, 107, 108, 109, 110, 111, 112, 113, 114, 115, 116, 117, 118, 119, 120, 121, 122, 123, 124, 125, 126, 127, 128, 129, 130, 131, 132, 133, 134, 135, 136, 137, 138, 139, 140, 141, 142, 143, 144, 145, 146, 147, 148, 149, 150, 151, 152, 153, 154, 155, 156, 157, 158, 159, 160, 161, 162, 163, 164, 165, 166, 167, 168, 169, 170, 171, 172, 173, 178, 179, 180, 181, 182, 183, 184, 185, 186, 187, 188, 189, 190, 191, 192, 193, 194, 195, 196, 197, 198, 199, 200, 201, 202, 203, 204, 205, 206, 207, 208, 209, 210, 211, 212, 213, 214, 215, 216, 217, 218, 219, 220, 221] (by decide +kernel) (by decide +kernel)) (goodIn_sub (fun _ h => List.mem_cons_of_mem _ (List.mem_append_right _ h)) (by decide +kernel))
set_option maxRecDepth 20000 in
theorem gX9_has_X9_gatheredOf : GoodIn wsX9_has (wsV RX9 133 RX9 yX9_gatheredOf wsX9_gatheredOf) := goodIn_app (goodIn_of _ (by decide +kernel)) ggX9_has_X9_gatheredOf
set_option maxRecDepth 20000 in
theorem ggX9_has_X6_contains : GoodIn wsX9_has wsX6_contains := goodIn_r _ [177, 41, 218] (by decide +kernel) (by decide +kernel)
set_option maxRecDepth 20000 in
theorem gX9_has_X6_contains : GoodIn wsX9_has (wsV RX9 55 RX6 yX6_contains wsX6_contains) := goodIn_app (goodIn_of _ (by decide +kernel)) ggX9_has_X6_contains
theorem dX9_has_0 : decode cX9_has 0 = .ok (.aload_n 0, 1) := by decide +kernel
theorem dX9_has_1 : decode cX9_has 1 = .ok (.iload_n 1, 1) := by decide +kernel
theorem dX9_has_2 : decode cX9_has 2 = .ok (.invokevirtual 133, 3) := by decide +kernel
theorem dX9_has_5 : decode cX9_has 5 = .ok (.iload_n 2, 1) := by decide +kernel
theorem dX9_has_6 : decode cX9_has 6 = .ok (.iload_n 3, 1) := by decide +kernel
theorem dX9_has_7 : decode cX9_has 7 = .ok (.invokevirtual 55, 3) := by decide +kernel
theorem dX9_has_10 : decode cX9_has 10 = .ok (.ireturn, 1) := by decide +kernel
set_option maxRecDepth 20000 in
theorem ggX9_covered_X9_gatheredOf : GoodIn wsX9_covered wsX9_gatheredOf := goodIn_ca (goodIn_r _ [5, 6, 7, 8, 9, 10, 11, 4, 12, 13, 14, 15, 16, 17, 18, 19, 20, 21, 22, 23, 24, 25, 26, 27, 28, 29, 30, 31, 32, 33, 34, 35, 36, 37, 38, 39, 40, 41, 42, 43, 44, 45, 46, 47, 48, 49, 50, 51, 52, 53, 54, 55, 56, 57, 58, 59, 60, 61, 62, 63, 64, 65, 66, 67, 68, 69, 70, 71, 72, 73, 74, 75, 76, 77, 78, 79, 80, 81, 82, 83, 84, 85, 86, 87, 88, 89, 90, 91, 92, 93, 94, 95, 96, 97, 98, 99, 100, 101, 102, 103, 104, 105, 106, 107, 108, 109, 110, 111, 112, 113, 114, 115, 116, 117, 118, 119, 120, 121, 122, 123, 124, 125, 126, 127, 128, 129, 130, 131, 132, 133, 134, 135, 136, 137, 138, 139, 140, 141, 142, 143, 144, 145, 146, 147, 148, 149, 150, 151, 152, 153, 154, 155, 156, 157, 158, 159, 160, 161, 162, 163, 164, 165, 166, 167, 168, 169, 170, 171, 172, 173, 189, 190, 191, 192, 193, 194, 195, 196, 197, 198, 199, 200, 201, 202, 203, 204, 205, 206, 207, 208, 209, 210, 211, 212, 213, 214, 215, 216, 217, 218, 219, 220, 221, 222, 223, 224, 225, 226, 227, 228, 229, 230, 231, 232] (by decide +kernel) (by decide +kernel)) (goodIn_sub (fun _ h => List.mem_cons_of_mem _ (List.mem_append_right _ h)) (by decide +kernel))
set_option maxRecDepth 20000 in
theorem gX9_covered_X9_gatheredOf : GoodIn wsX9_covered (wsV RX9 133 RX9 yX9_gatheredOf wsX9_gatheredOf) := goodIn_app (goodIn_of _ (by decide +kernel)) ggX9_covered_X9_gatheredOf
set_option maxRecDepth 20000 in
theorem ggX9_covered_X6_coveredPlaces : GoodIn wsX9_covered wsX6_coveredPlaces := goodIn_r _ [177, 178, 179, 180, 39, 181, 42, 43, 44, 45, 41, 88, 4, 89, 90, 86, 87, 182, 183, 184, 185, 186, 187, 188, 229] (by decide +kernel) (by decide +kernel)
set_option maxRecDepth 20000 in
theorem gX9_covered_X6_coveredPlaces : GoodIn wsX9_covered (wsV RX9 139 RX6 yX6_coveredPlaces wsX6_coveredPlaces) := goodIn_app (goodIn_of _ (by decide +kernel)) ggX9_covered_X6_coveredPlaces
theorem dX9_covered_0 : decode cX9_covered 0 = .ok (.aload_n 0, 1) := by decide +kernel
theorem dX9_covered_1 : decode cX9_covered 1 = .ok (.iload_n 1, 1) := by decide +kernel
theorem dX9_covered_2 : decode cX9_covered 2 = .ok (.invokevirtual 133, 3) := by decide +kernel
theorem dX9_covered_5 : decode cX9_covered 5 = .ok (.invokevirtual 139, 3) := by decide +kernel
theorem dX9_covered_8 : decode cX9_covered 8 = .ok (.ireturn, 1) := by decide +kernel
set_option maxRecDepth 20000 in
theorem ggX9_longest_X9_gatheredOf : GoodIn wsX9_longest wsX9_gatheredOf := goodIn_ca (goodIn_r _ [5, 6, 7, 8, 9, 10, 11, 4, 12, 13, 14, 15, 16, 17, 18, 19, 20, 21, 22, 23, 24, 25, 26, 27, 28, 29, 30, 31, 32, 33, 34, 35, 36, 37, 38, 39, 40, 41, 42, 43, 44, 45, 46, 47, 48, 49, 50, 51, 52, 53, 54, 55, 56, 57, 58, 59, 60, 61, 62, 63, 64, 65, 66, 67, 68, 69, 70, 71, 72, 73, 74, 75, 76, 77, 78, 79, 80, 81, 82, 83, 84, 85, 86, 87, 88, 89, 90, 91, 92, 93, 94, 95, 96, 97, 98, 99, 100, 101, 102, 103, 104, 105, 106, 107, 108, 109, 110, 111, 112, 113, 114, 115, 116, 117, 118, 119, 120, 121, 122, 123, 124, 125, 126, 127, 128, 129, 130, 131, 132, 133, 134, 135, 136, 137, 138, 139, 140, 141, 142, 143, 144, 145, 146, 147, 148, 149, 150, 151, 152, 153, 154, 155, 156, 157, 158, 159, 160, 161, 162, 163, 164, 165, 166, 167, 168, 169, 170, 171, 172, 173, 178, 179, 180, 181, 182, 183, 184, 185, 186, 187, 188, 189, 190, 191, 192, 193, 194, 195, 196, 197, 198, 199, 200, 201, 202, 203, 204, 205, 206, 207, 208, 209, 210, 211, 212, 213, 214, 215, 216, 217, 218, 219, 220, 221] (by decide +kernel) (by decide +kernel)) (goodIn_sub (fun _ h => List.mem_cons_of_mem _ (List.mem_append_right _ h)) (by decide +kernel))
set_option maxRecDepth 20000 in
theorem gX9_longest_X9_gatheredOf : GoodIn wsX9_longest (wsV RX9 133 RX9 yX9_gatheredOf wsX9_gatheredOf) := goodIn_app (goodIn_of _ (by decide +kernel)) ggX9_longest_X9_gatheredOf
set_option maxRecDepth 20000 in
theorem ggX9_longest_X6_longestRegion : GoodIn wsX9_longest wsX6_longestRegion := goodIn_r _ [177, 41, 105, 106, 107, 108, 109, 110, 111, 39, 112, 42, 43, 44, 45, 218] (by decide +kernel) (by decide +kernel)
set_option maxRecDepth 20000 in
theorem gX9_longest_X6_longestRegion : GoodIn wsX9_longest (wsV RX9 142 RX6 yX6_longestRegion wsX6_longestRegion) := goodIn_app (goodIn_of _ (by decide +kernel)) ggX9_longest_X6_longestRegion
theorem dX9_longest_0 : decode cX9_longest 0 = .ok (.aload_n 0, 1) := by decide +kernel
theorem dX9_longest_1 : decode cX9_longest 1 = .ok (.iload_n 1, 1) := by decide +kernel
theorem dX9_longest_2 : decode cX9_longest 2 = .ok (.invokevirtual 133, 3) := by decide +kernel
theorem dX9_longest_5 : decode cX9_longest 5 = .ok (.invokevirtual 142, 3) := by decide +kernel
theorem dX9_longest_8 : decode cX9_longest 8 = .ok (.ireturn, 1) := by decide +kernel
set_option maxRecDepth 20000 in
theorem ggX9_deepest_X9_gatheredOf : GoodIn wsX9_deepest wsX9_gatheredOf := goodIn_ca (goodIn_r _ [5, 6, 7, 8, 9, 10, 11, 4, 12, 13, 14, 15, 16, 17, 18, 19, 20, 21, 22, 23, 24, 25, 26, 27, 28, 29, 30, 31, 32, 33, 34, 35, 36, 37, 38, 39, 40, 41, 42, 43, 44, 45, 46, 47, 48, 49, 50, 51, 52, 53, 54, 55, 56, 57, 58, 59, 60, 61, 62, 63, 64, 65, 66, 67, 68, 69, 70, 71, 72, 73, 74, 75, 76, 77, 78, 79, 80, 81, 82, 83, 84, 85, 86, 87, 88, 89, 90, 91, 92, 93, 94, 95, 96, 97, 98, 99, 100, 101, 102, 103, 104, 105, 106, 107, 108, 109, 110, 111, 112, 113, 114, 115, 116, 117, 118, 119, 120, 121, 122, 123, 124, 125, 126, 127, 128, 129, 130, 131, 132, 133, 134, 135, 136, 137, 138, 139, 140, 141, 142, 143, 144, 145, 146, 147, 148, 149, 150, 151, 152, 153, 154, 155, 156, 157, 158, 159, 160, 161, 162, 163, 164, 165, 166, 167, 168, 169, 170, 171, 172, 173, 189, 190, 191, 192, 193, 194, 195, 196, 197, 198, 199, 200, 201, 202, 203, 204, 205, 206, 207, 208, 209, 210, 211, 212, 213, 214, 215, 216, 217, 218, 219, 220, 221, 222, 223, 224, 225, 226, 227, 228, 229, 230, 231, 232] (by decide +kernel) (by decide +kernel)) (goodIn_sub (fun _ h => List.mem_cons_of_mem _ (List.mem_append_right _ h)) (by decide +kernel))
set_option maxRecDepth 20000 in
theorem gX9_deepest_X9_gatheredOf : GoodIn wsX9_deepest (wsV RX9 133 RX9 yX9_gatheredOf wsX9_gatheredOf) := goodIn_app (goodIn_of _ (by decide +kernel)) ggX9_deepest_X9_gatheredOf
set_option maxRecDepth 20000 in
theorem ggX9_deepest_X6_deepestPlace : GoodIn wsX9_deepest wsX6_deepestPlace := goodIn_r _ [177, 105, 106, 107, 108, 178, 179, 180, 39, 181, 42, 43, 44, 45, 41, 88, 4, 89, 90, 86, 87, 182, 183, 184, 185, 186, 187, 188, 229] (by decide +kernel) (by decide +kernel)
set_option maxRecDepth 20000 in
theorem gX9_deepest_X6_deepestPlace : GoodIn wsX9_deepest (wsV RX9 145 RX6 yX6_deepestPlace wsX6_deepestPlace) := goodIn_app (goodIn_of _ (by decide +kernel)) ggX9_deepest_X6_deepestPlace
theorem dX9_deepest_0 : decode cX9_deepest 0 = .ok (.aload_n 0, 1) := by decide +kernel
theorem dX9_deepest_1 : decode cX9_deepest 1 = .ok (.iload_n 1, 1) := by decide +kernel
theorem dX9_deepest_2 : decode cX9_deepest 2 = .ok (.invokevirtual 133, 3) := by decide +kernel
theorem dX9_deepest_5 : decode cX9_deepest 5 = .ok (.invokevirtual 145, 3) := by decide +kernel
theorem dX9_deepest_8 : decode cX9_deepest 8 = .ok (.ireturn, 1) := by decide +kernel
theorem dX9_expressionOf_0 : decode cX9_expressionOf 0 = .ok (.iload_n 1, 1) := by decide +kernel
theorem dX9_expressionOf_1 : decode cX9_expressionOf 1 = .ok (.ifCond .lt 18, 3) := by decide +kernel
theorem dX9_expressionOf_4 : decode cX9_expressionOf 4 = .ok (.iload_n 1, 1) := by decide +kernel
theorem dX9_expressionOf_5 : decode cX9_expressionOf 5 = .ok (.bipush 30, 2) := by decide +kernel
theorem dX9_expressionOf_7 : decode cX9_expressionOf 7 = .ok (.if_icmp .ge 12, 3) := by decide +kernel
theorem dX9_expressionOf_10 : decode cX9_expressionOf 10 = .ok (.aload_n 0, 1) := by decide +kernel
theorem dX9_expressionOf_11 : decode cX9_expressionOf 11 = .ok (.getfield 18, 3) := by decide +kernel
theorem dX9_expressionOf_14 : decode cX9_expressionOf 14 = .ok (.iload_n 1, 1) := by decide +kernel
theorem dX9_expressionOf_15 : decode cX9_expressionOf 15 = .ok (.aaload, 1) := by decide +kernel
theorem dX9_expressionOf_16 : decode cX9_expressionOf 16 = .ok (.ifnonnull 13, 3) := by decide +kernel
theorem dX9_expressionOf_19 : decode cX9_expressionOf 19 = .ok (.new 67, 3) := by decide +kernel
theorem dX9_expressionOf_22 : decode cX9_expressionOf 22 = .ok (.dup, 1) := by decide +kernel
theorem dX9_expressionOf_23 : decode cX9_expressionOf 23 = .ok (.ldc 148, 2) := by decide +kernel
theorem dX9_expressionOf_25 : decode cX9_expressionOf 25 = .ok (.invokespecial 71, 3) := by decide +kernel
theorem dX9_expressionOf_28 : decode cX9_expressionOf 28 = .ok (.athrow, 1) := by decide +kernel
theorem dX9_expressionOf_29 : decode cX9_expressionOf 29 = .ok (.aload_n 0, 1) := by decide +kernel
theorem dX9_expressionOf_30 : decode cX9_expressionOf 30 = .ok (.getfield 18, 3) := by decide +kernel
theorem dX9_expressionOf_33 : decode cX9_expressionOf 33 = .ok (.iload_n 1, 1) := by decide +kernel
theorem dX9_expressionOf_34 : decode cX9_expressionOf 34 = .ok (.aaload, 1) := by decide +kernel
theorem dX9_expressionOf_35 : decode cX9_expressionOf 35 = .ok (.areturn, 1) := by decide +kernel
theorem dX9_requireRoom_0 : decode cX9_requireRoom 0 = .ok (.aload_n 0, 1) := by decide +kernel
theorem dX9_requireRoom_1 : decode cX9_requireRoom 1 = .ok (.getfield 22, 3) := by decide +kernel
theorem dX9_requireRoom_4 : decode cX9_requireRoom 4 = .ok (.bipush 30, 2) := by decide +kernel
theorem dX9_requireRoom_6 : decode cX9_requireRoom 6 = .ok (.if_icmp .lt 13, 3) := by decide +kernel
theorem dX9_requireRoom_9 : decode cX9_requireRoom 9 = .ok (.new 150, 3) := by decide +kernel
theorem dX9_requireRoom_12 : decode cX9_requireRoom 12 = .ok (.dup, 1) := by decide +kernel
theorem dX9_requireRoom_13 : decode cX9_requireRoom 13 = .ok (.ldc 152, 2) := by decide +kernel
theorem dX9_requireRoom_15 : decode cX9_requireRoom 15 = .ok (.invokespecial 154, 3) := by decide +kernel
theorem dX9_requireRoom_18 : decode cX9_requireRoom 18 = .ok (.athrow, 1) := by decide +kernel
theorem dX9_requireRoom_19 : decode cX9_requireRoom 19 = .ok (.iload_n 1, 1) := by decide +kernel
theorem dX9_requireRoom_20 : decode cX9_requireRoom 20 = .ok (.bipush 6, 2) := by decide +kernel
theorem dX9_requireRoom_22 : decode cX9_requireRoom 22 = .ok (.if_icmp .le 13, 3) := by decide +kernel
theorem dX9_requireRoom_25 : decode cX9_requireRoom 25 = .ok (.new 150, 3) := by decide +kernel
theorem dX9_requireRoom_28 : decode cX9_requireRoom 28 = .ok (.dup, 1) := by decide +kernel
theorem dX9_requireRoom_29 : decode cX9_requireRoom 29 = .ok (.ldc 155, 2) := by decide +kernel
theorem dX9_requireRoom_31 : decode cX9_requireRoom 31 = .ok (.invokespecial 154, 3) := by decide +kernel
theorem dX9_requireRoom_34 : decode cX9_requireRoom 34 = .ok (.athrow, 1) := by decide +kernel
theorem dX9_requireRoom_35 : decode cX9_requireRoom 35 = .ok (.return_, 1) := by decide +kernel
theorem dX9_keep_0 : decode cX9_keep 0 = .ok (.aload_n 0, 1) := by decide +kernel
theorem dX9_keep_1 : decode cX9_keep 1 = .ok (.getfield 22, 3) := by decide +kernel
theorem dX9_keep_4 : decode cX9_keep 4 = .ok (.istore_n 2, 1) := by decide +kernel
theorem dX9_keep_5 : decode cX9_keep 5 = .ok (.iload_n 2, 1) := by decide +kernel
theorem dX9_keep_6 : decode cX9_keep 6 = .ok (.ifCond .lt 23, 3) := by decide +kernel
theorem dX9_keep_9 : decode cX9_keep 9 = .ok (.iload_n 2, 1) := by decide +kernel
theorem dX9_keep_10 : decode cX9_keep 10 = .ok (.bipush 30, 2) := by decide +kernel
theorem dX9_keep_12 : decode cX9_keep 12 = .ok (.if_icmp .ge 17, 3) := by decide +kernel
theorem dX9_keep_15 : decode cX9_keep 15 = .ok (.aload_n 0, 1) := by decide +kernel
theorem dX9_keep_16 : decode cX9_keep 16 = .ok (.getfield 18, 3) := by decide +kernel
theorem dX9_keep_19 : decode cX9_keep 19 = .ok (.iload_n 2, 1) := by decide +kernel
theorem dX9_keep_20 : decode cX9_keep 20 = .ok (.aload_n 1, 1) := by decide +kernel
theorem dX9_keep_21 : decode cX9_keep 21 = .ok (.aastore, 1) := by decide +kernel
theorem dX9_keep_22 : decode cX9_keep 22 = .ok (.aload_n 0, 1) := by decide +kernel
theorem dX9_keep_23 : decode cX9_keep 23 = .ok (.iload_n 2, 1) := by decide +kernel
theorem dX9_keep_24 : decode cX9_keep 24 = .ok (.iconst 1, 1) := by decide +kernel
theorem dX9_keep_25 : decode cX9_keep 25 = .ok (.iadd, 1) := by decide +kernel
theorem dX9_keep_26 : decode cX9_keep 26 = .ok (.putfield 22, 3) := by decide +kernel
theorem dX9_keep_29 : decode cX9_keep 29 = .ok (.iload_n 2, 1) := by decide +kernel
theorem dX9_keep_30 : decode cX9_keep 30 = .ok (.ireturn, 1) := by decide +kernel
set_option maxRecDepth 20000 in
theorem ggX9_gatheredOf_X9_expressionOf : GoodIn wsX9_gatheredOf wsX9_expressionOf := goodIn_ca (goodIn_r _ [8, 9, 10, 1, 170, 171, 172] (by decide +kernel) (by decide +kernel)) (goodIn_sub (fun _ h => List.mem_cons_of_mem _ (List.mem_append_right _ h)) (by decide +kernel))
set_option maxRecDepth 20000 in
theorem gX9_gatheredOf_X9_expressionOf : GoodIn wsX9_gatheredOf (wsV RX9 101 RX9 yX9_expressionOf wsX9_expressionOf) := goodIn_app (goodIn_of _ (by decide +kernel)) ggX9_gatheredOf_X9_expressionOf
set_option maxRecDepth 20000 in
theorem ggX9_gatheredOf_X0_needs : GoodIn wsX9_gatheredOf wsX0_needs := goodIn_r _ [16, 17, 173, 174, 175, 176, 177, 178, 179, 180, 181, 182, 183, 184, 185, 186, 187, 188, 189, 190, 191, 192, 193, 194, 195, 196, 197, 198, 199, 200, 201, 202, 203, 204, 205, 206, 207, 208, 209] (by decide +kernel) (by decide +kernel)
set_option maxRecDepth 20000 in
theorem gX9_gatheredOf_X0_needs_u157X1 : GoodIn wsX9_gatheredOf (va_wsU RX9 157 RX1 "Regionry$Expression" ⟨"Regionry$Expression", "needs", "(I)Z"⟩ yX0_needs wsX0_needs) := goodIn_app (goodIn_of _ (by decide +kernel)) ggX9_gatheredOf_X0_needs
set_option maxRecDepth 20000 in
theorem gX9_gatheredOf_X0_needs_u157X2 : GoodIn wsX9_gatheredOf (va_wsU RX9 157 RX2 "Regionry$Expression" ⟨"Regionry$Expression", "needs", "(I)Z"⟩ yX0_needs wsX0_needs) := goodIn_app (goodIn_of _ (by decide +kernel)) ggX9_gatheredOf_X0_needs
set_option maxRecDepth 20000 in
theorem gX9_gatheredOf_X0_needs_u157X3 : GoodIn wsX9_gatheredOf (va_wsU RX9 157 RX3 "Regionry$Expression" ⟨"Regionry$Expression", "needs", "(I)Z"⟩ yX0_needs wsX0_needs) := goodIn_app (goodIn_of _ (by decide +kernel)) ggX9_gatheredOf_X0_needs
set_option maxRecDepth 20000 in
theorem gX9_gatheredOf_X0_needs_u157X4 : GoodIn wsX9_gatheredOf (va_wsU RX9 157 RX4 "Regionry$Expression" ⟨"Regionry$Expression", "needs", "(I)Z"⟩ yX0_needs wsX0_needs) := goodIn_app (goodIn_of _ (by decide +kernel)) ggX9_gatheredOf_X0_needs
set_option maxRecDepth 20000 in
theorem gX9_gatheredOf_X0_needs_u157X5 : GoodIn wsX9_gatheredOf (va_wsU RX9 157 RX5 "Regionry$Expression" ⟨"Regionry$Expression", "needs", "(I)Z"⟩ yX0_needs wsX0_needs) := goodIn_app (goodIn_of _ (by decide +kernel)) ggX9_gatheredOf_X0_needs
set_option maxRecDepth 20000 in
theorem gX9_gatheredOf_X0_needs_u157X7 : GoodIn wsX9_gatheredOf (va_wsU RX9 157 RX7 "Regionry$Expression" ⟨"Regionry$Expression", "needs", "(I)Z"⟩ yX0_needs wsX0_needs) := goodIn_app (goodIn_of _ (by decide +kernel)) ggX9_gatheredOf_X0_needs
set_option maxRecDepth 20000 in
theorem ggX9_gatheredOf_X1_gather : GoodIn wsX9_gatheredOf wsX1_gather := goodIn_r _ [28, 29, 30, 31, 32, 33, 34, 35, 36, 37, 38, 39, 40, 41, 173, 174, 175, 176, 177, 178, 179, 180, 181, 182, 183, 184, 185, 186, 187, 188, 189, 190, 191, 192, 193, 194, 195, 196, 197, 198, 199, 200, 201, 202, 203, 204, 205, 206, 207, 208, 209, 210] (by decide +kernel) (by decide +kernel)
set_option maxRecDepth 20000 in
theorem gX9_gatheredOf_X1_gather_u160X1 : GoodIn wsX9_gatheredOf (va_wsU RX9 160 RX1 "Regionry$Expression" ⟨"Regionry$Expression", "gather", "(LRegionry$Text;)V"⟩ yX1_gather wsX1_gather) := goodIn_app (goodIn_of _ (by decide +kernel)) ggX9_gatheredOf_X1_gather
set_option maxRecDepth 20000 in
theorem ggX9_gatheredOf_X2_gather : GoodIn wsX9_gatheredOf wsX2_gather := goodIn_r _ [45, 46, 47, 48, 49, 50, 51, 35, 52, 37, 53, 54, 55, 56, 57, 58, 59, 60, 61, 62, 63, 64, 65, 66, 67, 173, 174, 175, 176, 177, 178, 179, 180, 181, 182, 183, 184, 185, 186, 187, 188, 189, 190, 191, 192, 193, 194, 195, 196, 197, 198, 199, 200, 201, 202, 203, 204, 205, 206, 207, 208, 209, 211, 212, 213, 210] (by decide +kernel) (by decide +kernel)
set_option maxRecDepth 20000 in
theorem gX9_gatheredOf_X2_gather_u160X2 : GoodIn wsX9_gatheredOf (va_wsU RX9 160 RX2 "Regionry$Expression" ⟨"Regionry$Expression", "gather", "(LRegionry$Text;)V"⟩ yX2_gather wsX2_gather) := goodIn_app (goodIn_of _ (by decide +kernel)) ggX9_gatheredOf_X2_gather
set_option maxRecDepth 20000 in
theorem ggX9_gatheredOf_X3_gather : GoodIn wsX9_gatheredOf wsX3_gather := goodIn_r _ [71, 72, 73, 74, 75, 76, 77, 78, 79, 80, 35, 81, 37, 82, 7, 83, 84, 85, 86, 38, 39, 40, 41, 173, 174, 175, 176, 177, 178, 179, 180, 181, 182, 183, 184, 185, 186, 187, 188, 189, 190, 191, 192, 193, 194, 195, 196, 197, 198, 199, 200, 201, 202, 203, 204, 205, 206, 207, 208, 209, 210] (by decide +kernel) (by decide +kernel)
set_option maxRecDepth 20000 in
theorem gX9_gatheredOf_X3_gather_u160X3 : GoodIn wsX9_gatheredOf (va_wsU RX9 160 RX3 "Regionry$Expression" ⟨"Regionry$Expression", "gather", "(LRegionry$Text;)V"⟩ yX3_gather wsX3_gather) := goodIn_app (goodIn_of _ (by decide +kernel)) ggX9_gatheredOf_X3_gather
set_option maxRecDepth 20000 in
theorem ggX9_gatheredOf_X4_gather : GoodIn wsX9_gatheredOf wsX4_gather := goodIn_r _ [90, 91, 92, 93, 94, 95, 96, 33, 34, 35, 36, 37, 38, 39, 40, 41, 97, 98, 99, 100, 101, 102, 103, 104, 105, 106, 107, 108, 109, 110, 111, 112, 113, 114, 115, 116, 117, 118, 119, 173, 174, 175, 176, 177, 178, 179, 180, 181, 182, 183, 184, 185, 186, 187, 188, 189, 190, 191, 192, 193, 194, 195, 196, 197, 198, 199, 200, 201, 202, 203, 204, 205, 206, 207, 208, 209, 210] (by decide +kernel) (by decide +kernel)
set_option maxRecDepth 20000 in
theorem gX9_gatheredOf_X4_gather_u160X4 : GoodIn wsX9_gatheredOf (va_wsU RX9 160 RX4 "Regionry$Expression" ⟨"Regionry$Expression", "gather", "(LRegionry$Text;)V"⟩ yX4_gather wsX4_gather) := goodIn_app (goodIn_of _ (by decide +kernel)) ggX9_gatheredOf_X4_gather
set_option maxRecDepth 20000 in
theorem ggX9_gatheredOf_X5_gather : GoodIn wsX9_gatheredOf wsX5_gather := goodIn_r _ [123, 124, 125, 126, 127, 122, 128, 129, 130, 131, 114, 103, 115, 132, 133, 134, 135, 117, 118, 35, 119, 38, 39, 40, 41, 37, 84, 7, 85, 86, 82, 83, 136, 137, 138, 139, 140, 141, 142, 143, 144, 145, 102, 104, 146, 106, 107, 108, 147, 148, 149, 150, 151, 152, 153, 154, 155, 156, 157, 158, 196, 197, 198, 199, 200, 201, 202, 173, 174, 175, 176, 177, 178, 179, 180, 181, 182, 183, 184, 185, 186, 187, 188, 189, 190, 191, 192, 193, 194, 195, 203, 204, 205, 206, 207, 208, 209, 210] (by decide +kernel) (by decide +kernel)
set_option maxRecDepth 20000 in
theorem gX9_gatheredOf_X5_gather_u160X5 : GoodIn wsX9_gatheredOf (va_wsU RX9 160 RX5 "Regionry$Expression" ⟨"Regionry$Expression", "gather", "(LRegionry$Text;)V"⟩ yX5_gather wsX5_gather) := goodIn_app (goodIn_of _ (by decide +kernel)) ggX9_gatheredOf_X5_gather
set_option maxRecDepth 20000 in
theorem ggX9_gatheredOf_X7_gather : GoodIn wsX9_gatheredOf wsX7_gather := goodIn_r _ [162, 163, 164, 165, 166, 167, 168, 79, 80, 35, 81, 37, 82, 7, 83, 84, 85, 86, 38, 39, 40, 41, 169, 110, 111, 112, 113, 114, 103, 115, 116, 117, 118, 119, 173, 174, 175, 176, 177, 178, 179, 180, 181, 182, 183, 184, 185, 186, 187, 188, 189, 190, 191, 192, 193, 194, 195, 196, 197, 198, 199, 200, 201, 202, 203, 204, 205, 206, 207, 208, 209, 210] (by decide +kernel) (by decide +kernel)
set_option maxRecDepth 20000 in
theorem gX9_gatheredOf_X7_gather_u160X7 : GoodIn wsX9_gatheredOf (va_wsU RX9 160 RX7 "Regionry$Expression" ⟨"Regionry$Expression", "gather", "(LRegionry$Text;)V"⟩ yX7_gather wsX7_gather) := goodIn_app (goodIn_of _ (by decide +kernel)) ggX9_gatheredOf_X7_gather
theorem dX9_gatheredOf_0 : decode cX9_gatheredOf 0 = .ok (.aload_n 0, 1) := by decide +kernel
theorem dX9_gatheredOf_1 : decode cX9_gatheredOf 1 = .ok (.iload_n 1, 1) := by decide +kernel
theorem dX9_gatheredOf_2 : decode cX9_gatheredOf 2 = .ok (.invokevirtual 101, 3) := by decide +kernel
theorem dX9_gatheredOf_5 : decode cX9_gatheredOf 5 = .ok (.astore_n 2, 1) := by decide +kernel
theorem dX9_gatheredOf_6 : decode cX9_gatheredOf 6 = .ok (.iconst 0, 1) := by decide +kernel
theorem dX9_gatheredOf_7 : decode cX9_gatheredOf 7 = .ok (.istore_n 3, 1) := by decide +kernel
theorem dX9_gatheredOf_8 : decode cX9_gatheredOf 8 = .ok (.iload_n 3, 1) := by decide +kernel
theorem dX9_gatheredOf_9 : decode cX9_gatheredOf 9 = .ok (.bipush 30, 2) := by decide +kernel
theorem dX9_gatheredOf_11 : decode cX9_gatheredOf 11 = .ok (.if_icmp .ge 39, 3) := by decide +kernel
theorem dX9_gatheredOf_14 : decode cX9_gatheredOf 14 = .ok (.aload_n 0, 1) := by decide +kernel
theorem dX9_gatheredOf_15 : decode cX9_gatheredOf 15 = .ok (.getfield 18, 3) := by decide +kernel
theorem dX9_gatheredOf_18 : decode cX9_gatheredOf 18 = .ok (.iload_n 3, 1) := by decide +kernel
theorem dX9_gatheredOf_19 : decode cX9_gatheredOf 19 = .ok (.aaload, 1) := by decide +kernel
theorem dX9_gatheredOf_20 : decode cX9_gatheredOf 20 = .ok (.astore 4, 2) := by decide +kernel
theorem dX9_gatheredOf_22 : decode cX9_gatheredOf 22 = .ok (.aload 4, 2) := by decide +kernel
theorem dX9_gatheredOf_24 : decode cX9_gatheredOf 24 = .ok (.ifnull 20, 3) := by decide +kernel
theorem dX9_gatheredOf_27 : decode cX9_gatheredOf 27 = .ok (.aload_n 2, 1) := by decide +kernel
theorem dX9_gatheredOf_28 : decode cX9_gatheredOf 28 = .ok (.iload_n 3, 1) := by decide +kernel
theorem dX9_gatheredOf_29 : decode cX9_gatheredOf 29 = .ok (.invokevirtual 157, 3) := by decide +kernel
theorem dX9_gatheredOf_32 : decode cX9_gatheredOf 32 = .ok (.ifCond .eq 12, 3) := by decide +kernel
theorem dX9_gatheredOf_35 : decode cX9_gatheredOf 35 = .ok (.aload 4, 2) := by decide +kernel
theorem dX9_gatheredOf_37 : decode cX9_gatheredOf 37 = .ok (.aload_n 0, 1) := by decide +kernel
theorem dX9_gatheredOf_38 : decode cX9_gatheredOf 38 = .ok (.getfield 12, 3) := by decide +kernel
theorem dX9_gatheredOf_41 : decode cX9_gatheredOf 41 = .ok (.invokevirtual 160, 3) := by decide +kernel
theorem dX9_gatheredOf_44 : decode cX9_gatheredOf 44 = .ok (.iinc 3 1, 3) := by decide +kernel
theorem dX9_gatheredOf_47 : decode cX9_gatheredOf 47 = .ok (.goto (-39), 3) := by decide +kernel
theorem dX9_gatheredOf_50 : decode cX9_gatheredOf 50 = .ok (.aload_n 2, 1) := by decide +kernel
theorem dX9_gatheredOf_51 : decode cX9_gatheredOf 51 = .ok (.getfield 164, 3) := by decide +kernel
theorem dX9_gatheredOf_54 : decode cX9_gatheredOf 54 = .ok (.areturn, 1) := by decide +kernel
set_option maxRecDepth 20000 in
theorem ggX9_askedOf_X9_expressionOf : GoodIn wsX9_askedOf wsX9_expressionOf := goodIn_ca (goodIn_r _ [8, 9, 10, 1, 140, 141, 142] (by decide +kernel) (by decide +kernel)) (goodIn_sub (fun _ h => List.mem_cons_of_mem _ (List.mem_append_right _ h)) (by decide +kernel))
set_option maxRecDepth 20000 in
theorem gX9_askedOf_X9_expressionOf : GoodIn wsX9_askedOf (wsV RX9 101 RX9 yX9_expressionOf wsX9_expressionOf) := goodIn_app (goodIn_of _ (by decide +kernel)) ggX9_askedOf_X9_expressionOf
set_option maxRecDepth 20000 in
theorem ggX9_askedOf_X0_needs : GoodIn wsX9_askedOf wsX0_needs := goodIn_r _ [16, 17, 143, 144, 145, 146, 147, 148, 149, 150, 151, 152, 153, 154, 155, 156, 157, 158, 159, 160, 161, 162, 163, 164, 165, 166, 167, 168, 169, 170, 171, 172, 173, 174, 175, 176, 177, 178, 179] (by decide +kernel) (by decide +kernel)
set_option maxRecDepth 20000 in
theorem gX9_askedOf_X0_needs_u157X1 : GoodIn wsX9_askedOf (va_wsU RX9 157 RX1 "Regionry$Expression" ⟨"Regionry$Expression", "needs", "(I)Z"⟩ yX0_needs wsX0_needs) := goodIn_app (goodIn_of _ (by decide +kernel)) ggX9_askedOf_X0_needs
set_option maxRecDepth 20000 in
theorem gX9_askedOf_X0_needs_u157X2 : GoodIn wsX9_askedOf (va_wsU RX9 157 RX2 "Regionry$Expression" ⟨"Regionry$Expression", "needs", "(I)Z"⟩ yX0_needs wsX0_needs) := goodIn_app (goodIn_of _ (by decide +kernel)) ggX9_askedOf_X0_needs
set_option maxRecDepth 20000 in
theorem gX9_askedOf_X0_needs_u157X3 : GoodIn wsX9_askedOf (va_wsU RX9 157 RX3 "Regionry$Expression" ⟨"Regionry$Expression", "needs", "(I)Z"⟩ yX0_needs wsX0_needs) := goodIn_app (goodIn_of _ (by decide +kernel)) ggX9_askedOf_X0_needs
set_option maxRecDepth 20000 in
theorem gX9_askedOf_X0_needs_u157X4 : GoodIn wsX9_askedOf (va_wsU RX9 157 RX4 "Regionry$Expression" ⟨"Regionry$Expression", "needs", "(I)Z"⟩ yX0_needs wsX0_needs) := goodIn_app (goodIn_of _ (by decide +kernel)) ggX9_askedOf_X0_needs
set_option maxRecDepth 20000 in
theorem gX9_askedOf_X0_needs_u157X5 : GoodIn wsX9_askedOf (va_wsU RX9 157 RX5 "Regionry$Expression" ⟨"Regionry$Expression", "needs", "(I)Z"⟩ yX0_needs wsX0_needs) := goodIn_app (goodIn_of _ (by decide +kernel)) ggX9_askedOf_X0_needs
set_option maxRecDepth 20000 in
theorem gX9_askedOf_X0_needs_u157X7 : GoodIn wsX9_askedOf (va_wsU RX9 157 RX7 "Regionry$Expression" ⟨"Regionry$Expression", "needs", "(I)Z"⟩ yX0_needs wsX0_needs) := goodIn_app (goodIn_of _ (by decide +kernel)) ggX9_askedOf_X0_needs
set_option maxRecDepth 20000 in
theorem ggX9_askedOf_X0_askEach : GoodIn wsX9_askedOf wsX0_askEach := goodIn_r _ [27, 28, 29, 30, 31, 32, 33, 34, 35, 36, 37, 38, 39, 40, 41, 42, 43, 44, 45, 46, 47, 48, 49, 50, 51, 52, 53, 54, 55, 56, 57, 58, 59, 60, 61, 62, 63, 64, 65, 66, 67, 68, 69, 70, 71, 72, 73, 74, 75, 76, 77, 78, 79, 80, 81, 82, 83, 84, 85, 86, 87, 88, 89, 90, 91, 92, 93, 94, 95, 96, 97, 98, 99, 100, 101, 102, 103, 104, 105, 106, 107, 108, 109, 110, 111, 112, 113, 114, 115, 116, 117, 118, 119, 120, 121, 122, 123, 143, 144, 145, 146, 147, 148, 149, 150, 151, 152, 153, 154, 155, 156, 157, 158, 159, 160, 161, 162, 163, 164, 165, 166, 167, 168, 169, 170, 171, 172, 173, 174, 175, 176, 177, 178, 179, 180, 181, 182, 183] (by decide +kernel) (by decide +kernel)
set_option maxRecDepth 20000 in
theorem gX9_askedOf_X0_askEach_u168X1 : GoodIn wsX9_askedOf (va_wsU RX9 168 RX1 "Regionry$Expression" ⟨"Regionry$Expression", "askEach", "(LRegionry$Text;)V"⟩ yX0_askEach wsX0_askEach) := goodIn_app (goodIn_of _ (by decide +kernel)) ggX9_askedOf_X0_askEach
set_option maxRecDepth 20000 in
theorem gX9_askedOf_X0_askEach_u168X2 : GoodIn wsX9_askedOf (va_wsU RX9 168 RX2 "Regionry$Expression" ⟨"Regionry$Expression", "askEach", "(LRegionry$Text;)V"⟩ yX0_askEach wsX0_askEach) := goodIn_app (goodIn_of _ (by decide +kernel)) ggX9_askedOf_X0_askEach
set_option maxRecDepth 20000 in
theorem gX9_askedOf_X0_askEach_u168X3 : GoodIn wsX9_askedOf (va_wsU RX9 168 RX3 "Regionry$Expression" ⟨"Regionry$Expression", "askEach", "(LRegionry$Text;)V"⟩ yX0_askEach wsX0_askEach) := goodIn_app (goodIn_of _ (by decide +kernel)) ggX9_askedOf_X0_askEach
set_option maxRecDepth 20000 in
theorem gX9_askedOf_X0_askEach_u168X4 : GoodIn wsX9_askedOf (va_wsU RX9 168 RX4 "Regionry$Expression" ⟨"Regionry$Expression", "askEach", "(LRegionry$Text;)V"⟩ yX0_askEach wsX0_askEach) := goodIn_app (goodIn_of _ (by decide +kernel)) ggX9_askedOf_X0_askEach
set_option maxRecDepth 20000 in
theorem gX9_askedOf_X0_askEach_u168X5 : GoodIn wsX9_askedOf (va_wsU RX9 168 RX5 "Regionry$Expression" ⟨"Regionry$Expression", "askEach", "(LRegionry$Text;)V"⟩ yX0_askEach wsX0_askEach) := goodIn_app (goodIn_of _ (by decide +kernel)) ggX9_askedOf_X0_askEach
set_option maxRecDepth 20000 in
theorem ggX9_askedOf_X7_askEach : GoodIn wsX9_askedOf wsX7_askEach := goodIn_r _ [131, 117, 132, 133, 134, 135, 30, 31, 32, 33, 34, 136, 71, 72, 73, 74, 75, 76, 77, 43, 44, 45, 78, 79, 80, 81, 82, 83, 84, 137, 121, 122, 123, 138, 24, 139, 26, 15, 27, 28, 29, 35, 36, 37, 38, 39, 40, 41, 42, 46, 47, 48, 49, 50, 51, 52, 53, 54, 55, 56, 57, 58, 59, 60, 61, 62, 63, 64, 65, 66, 67, 68, 69, 70, 85, 86, 87, 88, 89, 90, 91, 92, 93, 94, 95, 96, 97, 98, 99, 100, 101, 102, 103, 104, 105, 106, 107, 108, 109, 110, 111, 112, 113, 114, 115, 116, 118, 119, 120, 173, 174, 175, 176, 177, 178, 179, 180, 181, 182, 143, 144, 145, 146, 147, 148, 149, 150, 151, 152, 153, 154, 155, 156, 157, 158, 159, 160, 161, 162, 163, 164, 165, 166, 167, 168, 169, 170, 171, 172, 183] (by decide +kernel) (by decide +kernel)
set_option maxRecDepth 20000 in
theorem gX9_askedOf_X7_askEach_u168X7 : GoodIn wsX9_askedOf (va_wsO RX9 168 RX7 "Regionry$Expression" ⟨"Regionry$Expression", "askEach", "(LRegionry$Text;)V"⟩ yX7_askEach wsX7_askEach) := goodIn_app (goodIn_of _ (by decide +kernel)) ggX9_askedOf_X7_askEach
theorem dX9_askedOf_0 : decode cX9_askedOf 0 = .ok (.aload_n 0, 1) := by decide +kernel
theorem dX9_askedOf_1 : decode cX9_askedOf 1 = .ok (.iload_n 1, 1) := by decide +kernel
theorem dX9_askedOf_2 : decode cX9_askedOf 2 = .ok (.invokevirtual 101, 3) := by decide +kernel
theorem dX9_askedOf_5 : decode cX9_askedOf 5 = .ok (.astore_n 2, 1) := by decide +kernel
theorem dX9_askedOf_6 : decode cX9_askedOf 6 = .ok (.iconst 0, 1) := by decide +kernel
theorem dX9_askedOf_7 : decode cX9_askedOf 7 = .ok (.istore_n 3, 1) := by decide +kernel
theorem dX9_askedOf_8 : decode cX9_askedOf 8 = .ok (.iload_n 3, 1) := by decide +kernel
theorem dX9_askedOf_9 : decode cX9_askedOf 9 = .ok (.bipush 30, 2) := by decide +kernel
theorem dX9_askedOf_11 : decode cX9_askedOf 11 = .ok (.if_icmp .ge 39, 3) := by decide +kernel
theorem dX9_askedOf_14 : decode cX9_askedOf 14 = .ok (.aload_n 0, 1) := by decide +kernel
theorem dX9_askedOf_15 : decode cX9_askedOf 15 = .ok (.getfield 18, 3) := by decide +kernel
theorem dX9_askedOf_18 : decode cX9_askedOf 18 = .ok (.iload_n 3, 1) := by decide +kernel
theorem dX9_askedOf_19 : decode cX9_askedOf 19 = .ok (.aaload, 1) := by decide +kernel
theorem dX9_askedOf_20 : decode cX9_askedOf 20 = .ok (.astore 4, 2) := by decide +kernel
theorem dX9_askedOf_22 : decode cX9_askedOf 22 = .ok (.aload 4, 2) := by decide +kernel
theorem dX9_askedOf_24 : decode cX9_askedOf 24 = .ok (.ifnull 20, 3) := by decide +kernel
theorem dX9_askedOf_27 : decode cX9_askedOf 27 = .ok (.aload_n 2, 1) := by decide +kernel
theorem dX9_askedOf_28 : decode cX9_askedOf 28 = .ok (.iload_n 3, 1) := by decide +kernel
theorem dX9_askedOf_29 : decode cX9_askedOf 29 = .ok (.invokevirtual 157, 3) := by decide +kernel
theorem dX9_askedOf_32 : decode cX9_askedOf 32 = .ok (.ifCond .eq 12, 3) := by decide +kernel
theorem dX9_askedOf_35 : decode cX9_askedOf 35 = .ok (.aload 4, 2) := by decide +kernel
theorem dX9_askedOf_37 : decode cX9_askedOf 37 = .ok (.aload_n 0, 1) := by decide +kernel
theorem dX9_askedOf_38 : decode cX9_askedOf 38 = .ok (.getfield 12, 3) := by decide +kernel
theorem dX9_askedOf_41 : decode cX9_askedOf 41 = .ok (.invokevirtual 168, 3) := by decide +kernel
theorem dX9_askedOf_44 : decode cX9_askedOf 44 = .ok (.iinc 3 1, 3) := by decide +kernel
theorem dX9_askedOf_47 : decode cX9_askedOf 47 = .ok (.goto (-39), 3) := by decide +kernel
theorem dX9_askedOf_50 : decode cX9_askedOf 50 = .ok (.aload_n 2, 1) := by decide +kernel
theorem dX9_askedOf_51 : decode cX9_askedOf 51 = .ok (.getfield 171, 3) := by decide +kernel
theorem dX9_askedOf_54 : decode cX9_askedOf 54 = .ok (.areturn, 1) := by decide +kernel
theorem dX9_isLetter_0 : decode cX9_isLetter 0 = .ok (.iload_n 0, 1) := by decide +kernel
theorem dX9_isLetter_1 : decode cX9_isLetter 1 = .ok (.ifCond .lt 13, 3) := by decide +kernel
theorem dX9_isLetter_4 : decode cX9_isLetter 4 = .ok (.iload_n 0, 1) := by decide +kernel
theorem dX9_isLetter_5 : decode cX9_isLetter 5 = .ok (.bipush 6, 2) := by decide +kernel
theorem dX9_isLetter_7 : decode cX9_isLetter 7 = .ok (.if_icmp .ge 7, 3) := by decide +kernel
theorem dX9_isLetter_10 : decode cX9_isLetter 10 = .ok (.iconst 1, 1) := by decide +kernel
theorem dX9_isLetter_11 : decode cX9_isLetter 11 = .ok (.goto 4, 3) := by decide +kernel
theorem dX9_isLetter_14 : decode cX9_isLetter 14 = .ok (.iconst 0, 1) := by decide +kernel
theorem dX9_isLetter_15 : decode cX9_isLetter 15 = .ok (.ireturn, 1) := by decide +kernel
theorem dX9_depthAbove_0 : decode cX9_depthAbove 0 = .ok (.iconst 1, 1) := by decide +kernel
theorem dX9_depthAbove_1 : decode cX9_depthAbove 1 = .ok (.aload_n 0, 1) := by decide +kernel
theorem dX9_depthAbove_2 : decode cX9_depthAbove 2 = .ok (.getfield 174, 3) := by decide +kernel
theorem dX9_depthAbove_5 : decode cX9_depthAbove 5 = .ok (.aload_n 1, 1) := by decide +kernel
theorem dX9_depthAbove_6 : decode cX9_depthAbove 6 = .ok (.getfield 174, 3) := by decide +kernel
theorem dX9_depthAbove_9 : decode cX9_depthAbove 9 = .ok (.invokestatic 177, 3) := by decide +kernel
theorem dX9_depthAbove_12 : decode cX9_depthAbove 12 = .ok (.iadd, 1) := by decide +kernel
theorem dX9_depthAbove_13 : decode cX9_depthAbove 13 = .ok (.ireturn, 1) := by decide +kernel
theorem dX9_upTo_0 : decode cX9_upTo 0 = .ok (.iload_n 0, 1) := by decide +kernel
theorem dX9_upTo_1 : decode cX9_upTo 1 = .ok (.ifCond .ge 5, 3) := by decide +kernel
theorem dX9_upTo_4 : decode cX9_upTo 4 = .ok (.iconst 0, 1) := by decide +kernel
theorem dX9_upTo_5 : decode cX9_upTo 5 = .ok (.ireturn, 1) := by decide +kernel
theorem dX9_upTo_6 : decode cX9_upTo 6 = .ok (.iload_n 0, 1) := by decide +kernel
theorem dX9_upTo_7 : decode cX9_upTo 7 = .ok (.bipush 24, 2) := by decide +kernel
theorem dX9_upTo_9 : decode cX9_upTo 9 = .ok (.if_icmp .le 7, 3) := by decide +kernel
theorem dX9_upTo_12 : decode cX9_upTo 12 = .ok (.iconst (-1), 1) := by decide +kernel
theorem dX9_upTo_13 : decode cX9_upTo 13 = .ok (.goto 10, 3) := by decide +kernel
theorem dX9_upTo_16 : decode cX9_upTo 16 = .ok (.iconst 1, 1) := by decide +kernel
theorem dX9_upTo_17 : decode cX9_upTo 17 = .ok (.iload_n 0, 1) := by decide +kernel
theorem dX9_upTo_18 : decode cX9_upTo 18 = .ok (.iconst 1, 1) := by decide +kernel
theorem dX9_upTo_19 : decode cX9_upTo 19 = .ok (.iadd, 1) := by decide +kernel
theorem dX9_upTo_20 : decode cX9_upTo 20 = .ok (.ishl, 1) := by decide +kernel
theorem dX9_upTo_21 : decode cX9_upTo 21 = .ok (.iconst 1, 1) := by decide +kernel
theorem dX9_upTo_22 : decode cX9_upTo 22 = .ok (.isub, 1) := by decide +kernel
theorem dX9_upTo_23 : decode cX9_upTo 23 = .ok (.ireturn, 1) := by decide +kernel
set_option maxRecDepth 20000 in
theorem ggX9_onwardFrom_X9_upTo : GoodIn wsX9_onwardFrom wsX9_upTo := goodIn_r _ [4] (by decide +kernel) (by decide +kernel)
set_option maxRecDepth 20000 in
theorem gX9_onwardFrom_X9_upTo : GoodIn wsX9_onwardFrom (va_wsS RX9 182 yX9_upTo wsX9_upTo) := goodIn_app (goodIn_of _ (by decide +kernel)) ggX9_onwardFrom_X9_upTo
theorem dX9_onwardFrom_0 : decode cX9_onwardFrom 0 = .ok (.iload_n 0, 1) := by decide +kernel
