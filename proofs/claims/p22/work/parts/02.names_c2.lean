theorem dX6_add_31 : decode cX6_add 31 = .ok (.iconst 1, 1) := by decide +kernel
theorem dX6_add_32 : decode cX6_add 32 = .ok (.iload_n 2, 1) := by decide +kernel
theorem dX6_add_33 : decode cX6_add 33 = .ok (.ishl, 1) := by decide +kernel
theorem dX6_add_34 : decode cX6_add 34 = .ok (.ior, 1) := by decide +kernel
theorem dX6_add_35 : decode cX6_add 35 = .ok (.iastore, 1) := by decide +kernel
theorem dX6_add_36 : decode cX6_add 36 = .ok (.return_, 1) := by decide +kernel
set_option maxRecDepth 20000 in
theorem ggX6_drop_X6_contains : GoodIn wsX6_drop wsX6_contains := goodIn_r _ [5, 6, 15] (by decide +kernel) (by decide +kernel)
set_option maxRecDepth 20000 in
theorem gX6_drop_X6_contains : GoodIn wsX6_drop (wsV RX6 15 RX6 yX6_contains wsX6_contains) := goodIn_app (goodIn_of _ (by decide +kernel)) ggX6_drop_X6_contains
set_option maxRecDepth 20000 in
theorem ggX6_drop_X6_row : GoodIn wsX6_drop wsX6_row := goodIn_r _ [10, 6, 15] (by decide +kernel) (by decide +kernel)
set_option maxRecDepth 20000 in
theorem gX6_drop_X6_row : GoodIn wsX6_drop (wsV RX6 19 RX6 yX6_row wsX6_row) := goodIn_app (goodIn_of _ (by decide +kernel)) ggX6_drop_X6_row
set_option maxRecDepth 20000 in
theorem ggX6_drop_X6_setRow : GoodIn wsX6_drop wsX6_setRow := goodIn_r _ [14, 6, 15] (by decide +kernel) (by decide +kernel)
set_option maxRecDepth 20000 in
theorem gX6_drop_X6_setRow : GoodIn wsX6_drop (wsV RX6 23 RX6 yX6_setRow wsX6_setRow) := goodIn_app (goodIn_of _ (by decide +kernel)) ggX6_drop_X6_setRow
theorem dX6_drop_0 : decode cX6_drop 0 = .ok (.aload_n 0, 1) := by decide +kernel
theorem dX6_drop_1 : decode cX6_drop 1 = .ok (.iload_n 1, 1) := by decide +kernel
theorem dX6_drop_2 : decode cX6_drop 2 = .ok (.iload_n 2, 1) := by decide +kernel
theorem dX6_drop_3 : decode cX6_drop 3 = .ok (.invokevirtual 15, 3) := by decide +kernel
theorem dX6_drop_6 : decode cX6_drop 6 = .ok (.ifCond .eq 19, 3) := by decide +kernel
theorem dX6_drop_9 : decode cX6_drop 9 = .ok (.aload_n 0, 1) := by decide +kernel
theorem dX6_drop_10 : decode cX6_drop 10 = .ok (.iload_n 1, 1) := by decide +kernel
theorem dX6_drop_11 : decode cX6_drop 11 = .ok (.aload_n 0, 1) := by decide +kernel
theorem dX6_drop_12 : decode cX6_drop 12 = .ok (.iload_n 1, 1) := by decide +kernel
theorem dX6_drop_13 : decode cX6_drop 13 = .ok (.invokevirtual 19, 3) := by decide +kernel
theorem dX6_drop_16 : decode cX6_drop 16 = .ok (.iconst 1, 1) := by decide +kernel
theorem dX6_drop_17 : decode cX6_drop 17 = .ok (.iload_n 2, 1) := by decide +kernel
theorem dX6_drop_18 : decode cX6_drop 18 = .ok (.ishl, 1) := by decide +kernel
theorem dX6_drop_19 : decode cX6_drop 19 = .ok (.iconst (-1), 1) := by decide +kernel
theorem dX6_drop_20 : decode cX6_drop 20 = .ok (.ixor, 1) := by decide +kernel
theorem dX6_drop_21 : decode cX6_drop 21 = .ok (.iand, 1) := by decide +kernel
theorem dX6_drop_22 : decode cX6_drop 22 = .ok (.invokevirtual 23, 3) := by decide +kernel
theorem dX6_drop_25 : decode cX6_drop 25 = .ok (.return_, 1) := by decide +kernel
theorem dX6_clear_0 : decode cX6_clear 0 = .ok (.iconst 0, 1) := by decide +kernel
theorem dX6_clear_1 : decode cX6_clear 1 = .ok (.istore_n 1, 1) := by decide +kernel
theorem dX6_clear_2 : decode cX6_clear 2 = .ok (.iload_n 1, 1) := by decide +kernel
theorem dX6_clear_3 : decode cX6_clear 3 = .ok (.aload_n 0, 1) := by decide +kernel
theorem dX6_clear_4 : decode cX6_clear 4 = .ok (.getfield 9, 3) := by decide +kernel
theorem dX6_clear_7 : decode cX6_clear 7 = .ok (.arraylength, 1) := by decide +kernel
theorem dX6_clear_8 : decode cX6_clear 8 = .ok (.if_icmp .ge 16, 3) := by decide +kernel
theorem dX6_clear_11 : decode cX6_clear 11 = .ok (.aload_n 0, 1) := by decide +kernel
theorem dX6_clear_12 : decode cX6_clear 12 = .ok (.getfield 9, 3) := by decide +kernel
theorem dX6_clear_15 : decode cX6_clear 15 = .ok (.iload_n 1, 1) := by decide +kernel
theorem dX6_clear_16 : decode cX6_clear 16 = .ok (.iconst 0, 1) := by decide +kernel
theorem dX6_clear_17 : decode cX6_clear 17 = .ok (.iastore, 1) := by decide +kernel
theorem dX6_clear_18 : decode cX6_clear 18 = .ok (.iinc 1 1, 3) := by decide +kernel
theorem dX6_clear_21 : decode cX6_clear 21 = .ok (.goto (-19), 3) := by decide +kernel
theorem dX6_clear_24 : decode cX6_clear 24 = .ok (.return_, 1) := by decide +kernel
set_option maxRecDepth 20000 in
theorem ggX6_takeOver_X6_row : GoodIn wsX6_takeOver wsX6_row := goodIn_r _ [6, 1, 7] (by decide +kernel) (by decide +kernel)
set_option maxRecDepth 20000 in
theorem gX6_takeOver_X6_row : GoodIn wsX6_takeOver (wsV RX6 19 RX6 yX6_row wsX6_row) := goodIn_app (goodIn_of _ (by decide +kernel)) ggX6_takeOver_X6_row
theorem dX6_takeOver_0 : decode cX6_takeOver 0 = .ok (.iconst 0, 1) := by decide +kernel
theorem dX6_takeOver_1 : decode cX6_takeOver 1 = .ok (.istore_n 2, 1) := by decide +kernel
theorem dX6_takeOver_2 : decode cX6_takeOver 2 = .ok (.iload_n 2, 1) := by decide +kernel
theorem dX6_takeOver_3 : decode cX6_takeOver 3 = .ok (.aload_n 0, 1) := by decide +kernel
theorem dX6_takeOver_4 : decode cX6_takeOver 4 = .ok (.getfield 9, 3) := by decide +kernel
theorem dX6_takeOver_7 : decode cX6_takeOver 7 = .ok (.arraylength, 1) := by decide +kernel
theorem dX6_takeOver_8 : decode cX6_takeOver 8 = .ok (.if_icmp .ge 20, 3) := by decide +kernel
theorem dX6_takeOver_11 : decode cX6_takeOver 11 = .ok (.aload_n 0, 1) := by decide +kernel
theorem dX6_takeOver_12 : decode cX6_takeOver 12 = .ok (.getfield 9, 3) := by decide +kernel
theorem dX6_takeOver_15 : decode cX6_takeOver 15 = .ok (.iload_n 2, 1) := by decide +kernel
theorem dX6_takeOver_16 : decode cX6_takeOver 16 = .ok (.aload_n 1, 1) := by decide +kernel
theorem dX6_takeOver_17 : decode cX6_takeOver 17 = .ok (.iload_n 2, 1) := by decide +kernel
theorem dX6_takeOver_18 : decode cX6_takeOver 18 = .ok (.invokevirtual 19, 3) := by decide +kernel
theorem dX6_takeOver_21 : decode cX6_takeOver 21 = .ok (.iastore, 1) := by decide +kernel
theorem dX6_takeOver_22 : decode cX6_takeOver 22 = .ok (.iinc 2 1, 3) := by decide +kernel
theorem dX6_takeOver_25 : decode cX6_takeOver 25 = .ok (.goto (-23), 3) := by decide +kernel
theorem dX6_takeOver_28 : decode cX6_takeOver 28 = .ok (.return_, 1) := by decide +kernel
set_option maxRecDepth 20000 in
theorem ggX6_size_J6_bitCount_0f7a4 : GoodIn wsX6_size wsJ6_bitCount_0f7a4 := goodIn_r _ [5, 6, 7, 8] (by decide +kernel) (by decide +kernel)
set_option maxRecDepth 20000 in
theorem gX6_size_J6_bitCount_0f7a4 : GoodIn wsX6_size (va_wsS RX6 27 yJ6_bitCount_0f7a4 wsJ6_bitCount_0f7a4) := goodIn_app (goodIn_of _ (by decide +kernel)) ggX6_size_J6_bitCount_0f7a4
theorem dX6_size_0 : decode cX6_size 0 = .ok (.iconst 0, 1) := by decide +kernel
theorem dX6_size_1 : decode cX6_size 1 = .ok (.istore_n 1, 1) := by decide +kernel
theorem dX6_size_2 : decode cX6_size 2 = .ok (.iconst 0, 1) := by decide +kernel
theorem dX6_size_3 : decode cX6_size 3 = .ok (.istore_n 2, 1) := by decide +kernel
theorem dX6_size_4 : decode cX6_size 4 = .ok (.iload_n 2, 1) := by decide +kernel
theorem dX6_size_5 : decode cX6_size 5 = .ok (.aload_n 0, 1) := by decide +kernel
theorem dX6_size_6 : decode cX6_size 6 = .ok (.getfield 9, 3) := by decide +kernel
theorem dX6_size_9 : decode cX6_size 9 = .ok (.arraylength, 1) := by decide +kernel
theorem dX6_size_10 : decode cX6_size 10 = .ok (.if_icmp .ge 21, 3) := by decide +kernel
theorem dX6_size_13 : decode cX6_size 13 = .ok (.iload_n 1, 1) := by decide +kernel
theorem dX6_size_14 : decode cX6_size 14 = .ok (.aload_n 0, 1) := by decide +kernel
theorem dX6_size_15 : decode cX6_size 15 = .ok (.getfield 9, 3) := by decide +kernel
theorem dX6_size_18 : decode cX6_size 18 = .ok (.iload_n 2, 1) := by decide +kernel
theorem dX6_size_19 : decode cX6_size 19 = .ok (.iaload, 1) := by decide +kernel
theorem dX6_size_20 : decode cX6_size 20 = .ok (.invokestatic 27, 3) := by decide +kernel
theorem dX6_size_23 : decode cX6_size 23 = .ok (.iadd, 1) := by decide +kernel
theorem dX6_size_24 : decode cX6_size 24 = .ok (.istore_n 1, 1) := by decide +kernel
theorem dX6_size_25 : decode cX6_size 25 = .ok (.iinc 2 1, 3) := by decide +kernel
theorem dX6_size_28 : decode cX6_size 28 = .ok (.goto (-24), 3) := by decide +kernel
theorem dX6_size_31 : decode cX6_size 31 = .ok (.iload_n 1, 1) := by decide +kernel
theorem dX6_size_32 : decode cX6_size 32 = .ok (.ireturn, 1) := by decide +kernel
set_option maxRecDepth 20000 in
theorem ggX6_told_X6_contains : GoodIn wsX6_told wsX6_contains := goodIn_r _ [5, 6, 7] (by decide +kernel) (by decide +kernel)
set_option maxRecDepth 20000 in
theorem gX6_told_X6_contains : GoodIn wsX6_told (wsV RX6 15 RX6 yX6_contains wsX6_contains) := goodIn_app (goodIn_of _ (by decide +kernel)) ggX6_told_X6_contains
theorem dX6_told_0 : decode cX6_told 0 = .ok (.iconst 0, 1) := by decide +kernel
theorem dX6_told_1 : decode cX6_told 1 = .ok (.istore_n 2, 1) := by decide +kernel
theorem dX6_told_2 : decode cX6_told 2 = .ok (.iconst 0, 1) := by decide +kernel
theorem dX6_told_3 : decode cX6_told 3 = .ok (.istore_n 3, 1) := by decide +kernel
theorem dX6_told_4 : decode cX6_told 4 = .ok (.iload_n 3, 1) := by decide +kernel
theorem dX6_told_5 : decode cX6_told 5 = .ok (.bipush 24, 2) := by decide +kernel
theorem dX6_told_7 : decode cX6_told 7 = .ok (.if_icmp .ge 53, 3) := by decide +kernel
theorem dX6_told_10 : decode cX6_told 10 = .ok (.iload_n 3, 1) := by decide +kernel
theorem dX6_told_11 : decode cX6_told 11 = .ok (.iconst 1, 1) := by decide +kernel
theorem dX6_told_12 : decode cX6_told 12 = .ok (.iadd, 1) := by decide +kernel
theorem dX6_told_13 : decode cX6_told 13 = .ok (.istore 4, 2) := by decide +kernel
theorem dX6_told_15 : decode cX6_told 15 = .ok (.iload 4, 2) := by decide +kernel
theorem dX6_told_17 : decode cX6_told 17 = .ok (.bipush 24, 2) := by decide +kernel
theorem dX6_told_19 : decode cX6_told 19 = .ok (.if_icmp .gt 35, 3) := by decide +kernel
theorem dX6_told_22 : decode cX6_told 22 = .ok (.aload_n 0, 1) := by decide +kernel
theorem dX6_told_23 : decode cX6_told 23 = .ok (.iload_n 3, 1) := by decide +kernel
theorem dX6_told_24 : decode cX6_told 24 = .ok (.iload 4, 2) := by decide +kernel
theorem dX6_told_26 : decode cX6_told 26 = .ok (.invokevirtual 15, 3) := by decide +kernel
theorem dX6_told_29 : decode cX6_told 29 = .ok (.ifCond .eq 19, 3) := by decide +kernel
theorem dX6_told_32 : decode cX6_told 32 = .ok (.iload_n 2, 1) := by decide +kernel
theorem dX6_told_33 : decode cX6_told 33 = .ok (.iload_n 1, 1) := by decide +kernel
theorem dX6_told_34 : decode cX6_told 34 = .ok (.if_icmp .ne 11, 3) := by decide +kernel
theorem dX6_told_37 : decode cX6_told 37 = .ok (.bipush 100, 2) := by decide +kernel
theorem dX6_told_39 : decode cX6_told 39 = .ok (.iload_n 3, 1) := by decide +kernel
theorem dX6_told_40 : decode cX6_told 40 = .ok (.imul, 1) := by decide +kernel
theorem dX6_told_41 : decode cX6_told 41 = .ok (.iload 4, 2) := by decide +kernel
theorem dX6_told_43 : decode cX6_told 43 = .ok (.iadd, 1) := by decide +kernel
theorem dX6_told_44 : decode cX6_told 44 = .ok (.ireturn, 1) := by decide +kernel
theorem dX6_told_45 : decode cX6_told 45 = .ok (.iinc 2 1, 3) := by decide +kernel
theorem dX6_told_48 : decode cX6_told 48 = .ok (.iinc 4 1, 3) := by decide +kernel
theorem dX6_told_51 : decode cX6_told 51 = .ok (.goto (-36), 3) := by decide +kernel
theorem dX6_told_54 : decode cX6_told 54 = .ok (.iinc 3 1, 3) := by decide +kernel
theorem dX6_told_57 : decode cX6_told 57 = .ok (.goto (-53), 3) := by decide +kernel
theorem dX6_told_60 : decode cX6_told 60 = .ok (.iconst (-1), 1) := by decide +kernel
theorem dX6_told_61 : decode cX6_told 61 = .ok (.ireturn, 1) := by decide +kernel
set_option maxRecDepth 20000 in
theorem ggX6_lowestEnd_X6_row : GoodIn wsX6_lowestEnd wsX6_row := goodIn_r _ [5, 6, 7] (by decide +kernel) (by decide +kernel)
set_option maxRecDepth 20000 in
theorem gX6_lowestEnd_X6_row : GoodIn wsX6_lowestEnd (wsV RX6 19 RX6 yX6_row wsX6_row) := goodIn_app (goodIn_of _ (by decide +kernel)) ggX6_lowestEnd_X6_row
theorem dX6_lowestEnd_0 : decode cX6_lowestEnd 0 = .ok (.aload_n 0, 1) := by decide +kernel
theorem dX6_lowestEnd_1 : decode cX6_lowestEnd 1 = .ok (.iload_n 1, 1) := by decide +kernel
theorem dX6_lowestEnd_2 : decode cX6_lowestEnd 2 = .ok (.invokevirtual 19, 3) := by decide +kernel
theorem dX6_lowestEnd_5 : decode cX6_lowestEnd 5 = .ok (.istore_n 2, 1) := by decide +kernel
theorem dX6_lowestEnd_6 : decode cX6_lowestEnd 6 = .ok (.iload_n 1, 1) := by decide +kernel
theorem dX6_lowestEnd_7 : decode cX6_lowestEnd 7 = .ok (.iconst 1, 1) := by decide +kernel
theorem dX6_lowestEnd_8 : decode cX6_lowestEnd 8 = .ok (.iadd, 1) := by decide +kernel
theorem dX6_lowestEnd_9 : decode cX6_lowestEnd 9 = .ok (.istore_n 3, 1) := by decide +kernel
theorem dX6_lowestEnd_10 : decode cX6_lowestEnd 10 = .ok (.iload_n 3, 1) := by decide +kernel
theorem dX6_lowestEnd_11 : decode cX6_lowestEnd 11 = .ok (.bipush 25, 2) := by decide +kernel
theorem dX6_lowestEnd_13 : decode cX6_lowestEnd 13 = .ok (.if_icmp .ge 17, 3) := by decide +kernel
theorem dX6_lowestEnd_16 : decode cX6_lowestEnd 16 = .ok (.iload_n 2, 1) := by decide +kernel
theorem dX6_lowestEnd_17 : decode cX6_lowestEnd 17 = .ok (.iconst 1, 1) := by decide +kernel
theorem dX6_lowestEnd_18 : decode cX6_lowestEnd 18 = .ok (.iload_n 3, 1) := by decide +kernel
theorem dX6_lowestEnd_19 : decode cX6_lowestEnd 19 = .ok (.ishl, 1) := by decide +kernel
theorem dX6_lowestEnd_20 : decode cX6_lowestEnd 20 = .ok (.iand, 1) := by decide +kernel
theorem dX6_lowestEnd_21 : decode cX6_lowestEnd 21 = .ok (.ifCond .ne 9, 3) := by decide +kernel
theorem dX6_lowestEnd_24 : decode cX6_lowestEnd 24 = .ok (.iinc 3 1, 3) := by decide +kernel
theorem dX6_lowestEnd_27 : decode cX6_lowestEnd 27 = .ok (.goto (-17), 3) := by decide +kernel
theorem dX6_lowestEnd_30 : decode cX6_lowestEnd 30 = .ok (.iload_n 3, 1) := by decide +kernel
theorem dX6_lowestEnd_31 : decode cX6_lowestEnd 31 = .ok (.ireturn, 1) := by decide +kernel
set_option maxRecDepth 20000 in
theorem ggX6_highestEnd_X6_row : GoodIn wsX6_highestEnd wsX6_row := goodIn_r _ [5, 6, 7] (by decide +kernel) (by decide +kernel)
set_option maxRecDepth 20000 in
theorem gX6_highestEnd_X6_row : GoodIn wsX6_highestEnd (wsV RX6 19 RX6 yX6_row wsX6_row) := goodIn_app (goodIn_of _ (by decide +kernel)) ggX6_highestEnd_X6_row
theorem dX6_highestEnd_0 : decode cX6_highestEnd 0 = .ok (.aload_n 0, 1) := by decide +kernel
theorem dX6_highestEnd_1 : decode cX6_highestEnd 1 = .ok (.iload_n 1, 1) := by decide +kernel
theorem dX6_highestEnd_2 : decode cX6_highestEnd 2 = .ok (.invokevirtual 19, 3) := by decide +kernel
theorem dX6_highestEnd_5 : decode cX6_highestEnd 5 = .ok (.istore_n 2, 1) := by decide +kernel
theorem dX6_highestEnd_6 : decode cX6_highestEnd 6 = .ok (.bipush 24, 2) := by decide +kernel
theorem dX6_highestEnd_8 : decode cX6_highestEnd 8 = .ok (.istore_n 3, 1) := by decide +kernel
theorem dX6_highestEnd_9 : decode cX6_highestEnd 9 = .ok (.iload_n 3, 1) := by decide +kernel
theorem dX6_highestEnd_10 : decode cX6_highestEnd 10 = .ok (.ifCond .le 17, 3) := by decide +kernel
theorem dX6_highestEnd_13 : decode cX6_highestEnd 13 = .ok (.iload_n 2, 1) := by decide +kernel
theorem dX6_highestEnd_14 : decode cX6_highestEnd 14 = .ok (.iconst 1, 1) := by decide +kernel
theorem dX6_highestEnd_15 : decode cX6_highestEnd 15 = .ok (.iload_n 3, 1) := by decide +kernel
theorem dX6_highestEnd_16 : decode cX6_highestEnd 16 = .ok (.ishl, 1) := by decide +kernel
theorem dX6_highestEnd_17 : decode cX6_highestEnd 17 = .ok (.iand, 1) := by decide +kernel
theorem dX6_highestEnd_18 : decode cX6_highestEnd 18 = .ok (.ifCond .ne 9, 3) := by decide +kernel
theorem dX6_highestEnd_21 : decode cX6_highestEnd 21 = .ok (.iinc 3 (-1), 3) := by decide +kernel
theorem dX6_highestEnd_24 : decode cX6_highestEnd 24 = .ok (.goto (-15), 3) := by decide +kernel
theorem dX6_highestEnd_27 : decode cX6_highestEnd 27 = .ok (.iload_n 3, 1) := by decide +kernel
theorem dX6_highestEnd_28 : decode cX6_highestEnd 28 = .ok (.ireturn, 1) := by decide +kernel
set_option maxRecDepth 20000 in
theorem ggX6_regionsOver_X6_row : GoodIn wsX6_regionsOver wsX6_row := goodIn_r _ [5, 6, 20] (by decide +kernel) (by decide +kernel)
set_option maxRecDepth 20000 in
theorem gX6_regionsOver_X6_row : GoodIn wsX6_regionsOver (wsV RX6 19 RX6 yX6_row wsX6_row) := goodIn_app (goodIn_of _ (by decide +kernel)) ggX6_regionsOver_X6_row
set_option maxRecDepth 20000 in
theorem ggX6_regionsOver_X9_onwardFrom : GoodIn wsX6_regionsOver wsX9_onwardFrom := goodIn_r _ [9, 10, 11, 8, 12] (by decide +kernel) (by decide +kernel)
set_option maxRecDepth 20000 in
theorem gX6_regionsOver_X9_onwardFrom_n32 : GoodIn wsX6_regionsOver (wsX9_onwardFrom) := ggX6_regionsOver_X9_onwardFrom
set_option maxRecDepth 20000 in
theorem ggX6_regionsOver_J6_bitCount_0f7a4 : GoodIn wsX6_regionsOver wsJ6_bitCount_0f7a4 := goodIn_r _ [16, 17, 18, 19] (by decide +kernel) (by decide +kernel)
set_option maxRecDepth 20000 in
theorem gX6_regionsOver_J6_bitCount_0f7a4 : GoodIn wsX6_regionsOver (va_wsS RX6 27 yJ6_bitCount_0f7a4 wsJ6_bitCount_0f7a4) := goodIn_app (goodIn_of _ (by decide +kernel)) ggX6_regionsOver_J6_bitCount_0f7a4
theorem dX6_regionsOver_0 : decode cX6_regionsOver 0 = .ok (.iconst 0, 1) := by decide +kernel
theorem dX6_regionsOver_1 : decode cX6_regionsOver 1 = .ok (.istore_n 2, 1) := by decide +kernel
theorem dX6_regionsOver_2 : decode cX6_regionsOver 2 = .ok (.iconst 0, 1) := by decide +kernel
theorem dX6_regionsOver_3 : decode cX6_regionsOver 3 = .ok (.istore_n 3, 1) := by decide +kernel
theorem dX6_regionsOver_4 : decode cX6_regionsOver 4 = .ok (.iload_n 3, 1) := by decide +kernel
theorem dX6_regionsOver_5 : decode cX6_regionsOver 5 = .ok (.iload_n 1, 1) := by decide +kernel
theorem dX6_regionsOver_6 : decode cX6_regionsOver 6 = .ok (.if_icmp .gt 27, 3) := by decide +kernel
theorem dX6_regionsOver_9 : decode cX6_regionsOver 9 = .ok (.iload_n 2, 1) := by decide +kernel
theorem dX6_regionsOver_10 : decode cX6_regionsOver 10 = .ok (.aload_n 0, 1) := by decide +kernel
theorem dX6_regionsOver_11 : decode cX6_regionsOver 11 = .ok (.iload_n 3, 1) := by decide +kernel
theorem dX6_regionsOver_12 : decode cX6_regionsOver 12 = .ok (.invokevirtual 19, 3) := by decide +kernel
theorem dX6_regionsOver_15 : decode cX6_regionsOver 15 = .ok (.iload_n 1, 1) := by decide +kernel
theorem dX6_regionsOver_16 : decode cX6_regionsOver 16 = .ok (.iconst 1, 1) := by decide +kernel
theorem dX6_regionsOver_17 : decode cX6_regionsOver 17 = .ok (.iadd, 1) := by decide +kernel
theorem dX6_regionsOver_18 : decode cX6_regionsOver 18 = .ok (.invokestatic 32, 3) := by decide +kernel
theorem dX6_regionsOver_21 : decode cX6_regionsOver 21 = .ok (.iand, 1) := by decide +kernel
theorem dX6_regionsOver_22 : decode cX6_regionsOver 22 = .ok (.invokestatic 27, 3) := by decide +kernel
theorem dX6_regionsOver_25 : decode cX6_regionsOver 25 = .ok (.iadd, 1) := by decide +kernel
theorem dX6_regionsOver_26 : decode cX6_regionsOver 26 = .ok (.istore_n 2, 1) := by decide +kernel
theorem dX6_regionsOver_27 : decode cX6_regionsOver 27 = .ok (.iinc 3 1, 3) := by decide +kernel
theorem dX6_regionsOver_30 : decode cX6_regionsOver 30 = .ok (.goto (-26), 3) := by decide +kernel
theorem dX6_regionsOver_33 : decode cX6_regionsOver 33 = .ok (.iload_n 2, 1) := by decide +kernel
theorem dX6_regionsOver_34 : decode cX6_regionsOver 34 = .ok (.ireturn, 1) := by decide +kernel
set_option maxRecDepth 20000 in
theorem ggX6_coveredPlaces_X6_regionsOver : GoodIn wsX6_coveredPlaces wsX6_regionsOver := goodIn_r _ [5, 6, 7, 8, 4, 9, 10, 11, 12, 13, 14, 15, 16, 17, 18, 19, 20, 21, 22, 23, 24] (by decide +kernel) (by decide +kernel)
set_option maxRecDepth 20000 in
theorem gX6_coveredPlaces_X6_regionsOver : GoodIn wsX6_coveredPlaces (wsV RX6 35 RX6 yX6_regionsOver wsX6_regionsOver) := goodIn_app (goodIn_of _ (by decide +kernel)) ggX6_coveredPlaces_X6_regionsOver
theorem dX6_coveredPlaces_0 : decode cX6_coveredPlaces 0 = .ok (.iconst 0, 1) := by decide +kernel
theorem dX6_coveredPlaces_1 : decode cX6_coveredPlaces 1 = .ok (.istore_n 1, 1) := by decide +kernel
theorem dX6_coveredPlaces_2 : decode cX6_coveredPlaces 2 = .ok (.iconst 0, 1) := by decide +kernel
theorem dX6_coveredPlaces_3 : decode cX6_coveredPlaces 3 = .ok (.istore_n 2, 1) := by decide +kernel
theorem dX6_coveredPlaces_4 : decode cX6_coveredPlaces 4 = .ok (.iload_n 2, 1) := by decide +kernel
theorem dX6_coveredPlaces_5 : decode cX6_coveredPlaces 5 = .ok (.bipush 24, 2) := by decide +kernel
theorem dX6_coveredPlaces_7 : decode cX6_coveredPlaces 7 = .ok (.if_icmp .ge 20, 3) := by decide +kernel
theorem dX6_coveredPlaces_10 : decode cX6_coveredPlaces 10 = .ok (.aload_n 0, 1) := by decide +kernel
theorem dX6_coveredPlaces_11 : decode cX6_coveredPlaces 11 = .ok (.iload_n 2, 1) := by decide +kernel
theorem dX6_coveredPlaces_12 : decode cX6_coveredPlaces 12 = .ok (.invokevirtual 35, 3) := by decide +kernel
theorem dX6_coveredPlaces_15 : decode cX6_coveredPlaces 15 = .ok (.ifCond .le 6, 3) := by decide +kernel
theorem dX6_coveredPlaces_18 : decode cX6_coveredPlaces 18 = .ok (.iinc 1 1, 3) := by decide +kernel
theorem dX6_coveredPlaces_21 : decode cX6_coveredPlaces 21 = .ok (.iinc 2 1, 3) := by decide +kernel
theorem dX6_coveredPlaces_24 : decode cX6_coveredPlaces 24 = .ok (.goto (-20), 3) := by decide +kernel
theorem dX6_coveredPlaces_27 : decode cX6_coveredPlaces 27 = .ok (.iload_n 1, 1) := by decide +kernel
theorem dX6_coveredPlaces_28 : decode cX6_coveredPlaces 28 = .ok (.ireturn, 1) := by decide +kernel
set_option maxRecDepth 20000 in
theorem ggX6_deepestPlace_X6_regionsOver : GoodIn wsX6_deepestPlace wsX6_regionsOver := goodIn_r _ [9, 10, 11, 12, 8, 13, 14, 15, 16, 17, 18, 19, 20, 21, 22, 23, 24, 25, 26, 27, 28] (by decide +kernel) (by decide +kernel)
set_option maxRecDepth 20000 in
theorem gX6_deepestPlace_X6_regionsOver : GoodIn wsX6_deepestPlace (wsV RX6 35 RX6 yX6_regionsOver wsX6_regionsOver) := goodIn_app (goodIn_of _ (by decide +kernel)) ggX6_deepestPlace_X6_regionsOver
theorem dX6_deepestPlace_0 : decode cX6_deepestPlace 0 = .ok (.iconst 0, 1) := by decide +kernel
theorem dX6_deepestPlace_1 : decode cX6_deepestPlace 1 = .ok (.istore_n 1, 1) := by decide +kernel
theorem dX6_deepestPlace_2 : decode cX6_deepestPlace 2 = .ok (.iconst 0, 1) := by decide +kernel
theorem dX6_deepestPlace_3 : decode cX6_deepestPlace 3 = .ok (.istore_n 2, 1) := by decide +kernel
theorem dX6_deepestPlace_4 : decode cX6_deepestPlace 4 = .ok (.iload_n 2, 1) := by decide +kernel
theorem dX6_deepestPlace_5 : decode cX6_deepestPlace 5 = .ok (.bipush 24, 2) := by decide +kernel
theorem dX6_deepestPlace_7 : decode cX6_deepestPlace 7 = .ok (.if_icmp .ge 19, 3) := by decide +kernel
theorem dX6_deepestPlace_10 : decode cX6_deepestPlace 10 = .ok (.iload_n 1, 1) := by decide +kernel
theorem dX6_deepestPlace_11 : decode cX6_deepestPlace 11 = .ok (.aload_n 0, 1) := by decide +kernel
theorem dX6_deepestPlace_12 : decode cX6_deepestPlace 12 = .ok (.iload_n 2, 1) := by decide +kernel
theorem dX6_deepestPlace_13 : decode cX6_deepestPlace 13 = .ok (.invokevirtual 35, 3) := by decide +kernel
theorem dX6_deepestPlace_16 : decode cX6_deepestPlace 16 = .ok (.invokestatic 38, 3) := by decide +kernel
theorem dX6_deepestPlace_19 : decode cX6_deepestPlace 19 = .ok (.istore_n 1, 1) := by decide +kernel
theorem dX6_deepestPlace_20 : decode cX6_deepestPlace 20 = .ok (.iinc 2 1, 3) := by decide +kernel
theorem dX6_deepestPlace_23 : decode cX6_deepestPlace 23 = .ok (.goto (-19), 3) := by decide +kernel
theorem dX6_deepestPlace_26 : decode cX6_deepestPlace 26 = .ok (.iload_n 1, 1) := by decide +kernel
theorem dX6_deepestPlace_27 : decode cX6_deepestPlace 27 = .ok (.ireturn, 1) := by decide +kernel
set_option maxRecDepth 20000 in
theorem ggX6_longestRegion_X6_highestEnd : GoodIn wsX6_longestRegion wsX6_highestEnd := goodIn_r _ [10, 11, 12, 13, 9, 14, 1, 15] (by decide +kernel) (by decide +kernel)
set_option maxRecDepth 20000 in
theorem gX6_longestRegion_X6_highestEnd : GoodIn wsX6_longestRegion (wsV RX6 44 RX6 yX6_highestEnd wsX6_highestEnd) := goodIn_app (goodIn_of _ (by decide +kernel)) ggX6_longestRegion_X6_highestEnd
theorem dX6_longestRegion_0 : decode cX6_longestRegion 0 = .ok (.iconst 0, 1) := by decide +kernel
theorem dX6_longestRegion_1 : decode cX6_longestRegion 1 = .ok (.istore_n 1, 1) := by decide +kernel
theorem dX6_longestRegion_2 : decode cX6_longestRegion 2 = .ok (.iconst 0, 1) := by decide +kernel
theorem dX6_longestRegion_3 : decode cX6_longestRegion 3 = .ok (.istore_n 2, 1) := by decide +kernel
theorem dX6_longestRegion_4 : decode cX6_longestRegion 4 = .ok (.iload_n 2, 1) := by decide +kernel
theorem dX6_longestRegion_5 : decode cX6_longestRegion 5 = .ok (.aload_n 0, 1) := by decide +kernel
theorem dX6_longestRegion_6 : decode cX6_longestRegion 6 = .ok (.getfield 9, 3) := by decide +kernel
theorem dX6_longestRegion_9 : decode cX6_longestRegion 9 = .ok (.arraylength, 1) := by decide +kernel
theorem dX6_longestRegion_10 : decode cX6_longestRegion 10 = .ok (.if_icmp .ge 21, 3) := by decide +kernel
theorem dX6_longestRegion_13 : decode cX6_longestRegion 13 = .ok (.iload_n 1, 1) := by decide +kernel
theorem dX6_longestRegion_14 : decode cX6_longestRegion 14 = .ok (.aload_n 0, 1) := by decide +kernel
theorem dX6_longestRegion_15 : decode cX6_longestRegion 15 = .ok (.iload_n 2, 1) := by decide +kernel
theorem dX6_longestRegion_16 : decode cX6_longestRegion 16 = .ok (.invokevirtual 44, 3) := by decide +kernel
theorem dX6_longestRegion_19 : decode cX6_longestRegion 19 = .ok (.iload_n 2, 1) := by decide +kernel
theorem dX6_longestRegion_20 : decode cX6_longestRegion 20 = .ok (.isub, 1) := by decide +kernel
theorem dX6_longestRegion_21 : decode cX6_longestRegion 21 = .ok (.invokestatic 38, 3) := by decide +kernel
theorem dX6_longestRegion_24 : decode cX6_longestRegion 24 = .ok (.istore_n 1, 1) := by decide +kernel
theorem dX6_longestRegion_25 : decode cX6_longestRegion 25 = .ok (.iinc 2 1, 3) := by decide +kernel
theorem dX6_longestRegion_28 : decode cX6_longestRegion 28 = .ok (.goto (-24), 3) := by decide +kernel
theorem dX6_longestRegion_31 : decode cX6_longestRegion 31 = .ok (.iload_n 1, 1) := by decide +kernel
theorem dX6_longestRegion_32 : decode cX6_longestRegion 32 = .ok (.ireturn, 1) := by decide +kernel
set_option maxRecDepth 20000 in
theorem ggX6_openAt_X6_row : GoodIn wsX6_openAt wsX6_row := goodIn_r _ [6, 1, 20] (by decide +kernel) (by decide +kernel)
set_option maxRecDepth 20000 in
theorem gX6_openAt_X6_row : GoodIn wsX6_openAt (wsV RX6 19 RX6 yX6_row wsX6_row) := goodIn_app (goodIn_of _ (by decide +kernel)) ggX6_openAt_X6_row
set_option maxRecDepth 20000 in
theorem ggX6_openAt_X6_endsOpenedAt : GoodIn wsX6_openAt wsX6_endsOpenedAt := goodIn_r _ [9, 10, 11, 12, 13, 14, 15] (by decide +kernel) (by decide +kernel)
set_option maxRecDepth 20000 in
theorem gX6_openAt_X6_endsOpenedAt : GoodIn wsX6_openAt (va_wsS RX6 47 yX6_endsOpenedAt wsX6_endsOpenedAt) := goodIn_app (goodIn_of _ (by decide +kernel)) ggX6_openAt_X6_endsOpenedAt
set_option maxRecDepth 20000 in
theorem ggX6_openAt_X6_setRow : GoodIn wsX6_openAt wsX6_setRow := goodIn_r _ [19, 1, 20] (by decide +kernel) (by decide +kernel)
set_option maxRecDepth 20000 in
theorem gX6_openAt_X6_setRow : GoodIn wsX6_openAt (wsV RX6 23 RX6 yX6_setRow wsX6_setRow) := goodIn_app (goodIn_of _ (by decide +kernel)) ggX6_openAt_X6_setRow
theorem dX6_openAt_0 : decode cX6_openAt 0 = .ok (.aload_n 0, 1) := by decide +kernel
theorem dX6_openAt_1 : decode cX6_openAt 1 = .ok (.getfield 9, 3) := by decide +kernel
theorem dX6_openAt_4 : decode cX6_openAt 4 = .ok (.arraylength, 1) := by decide +kernel
theorem dX6_openAt_5 : decode cX6_openAt 5 = .ok (.iconst 1, 1) := by decide +kernel
theorem dX6_openAt_6 : decode cX6_openAt 6 = .ok (.isub, 1) := by decide +kernel
theorem dX6_openAt_7 : decode cX6_openAt 7 = .ok (.istore_n 2, 1) := by decide +kernel
theorem dX6_openAt_8 : decode cX6_openAt 8 = .ok (.iload_n 2, 1) := by decide +kernel
theorem dX6_openAt_9 : decode cX6_openAt 9 = .ok (.iload_n 1, 1) := by decide +kernel
theorem dX6_openAt_10 : decode cX6_openAt 10 = .ok (.if_icmp .le 25, 3) := by decide +kernel
theorem dX6_openAt_13 : decode cX6_openAt 13 = .ok (.aload_n 0, 1) := by decide +kernel
theorem dX6_openAt_14 : decode cX6_openAt 14 = .ok (.iload_n 2, 1) := by decide +kernel
theorem dX6_openAt_15 : decode cX6_openAt 15 = .ok (.iload_n 1, 1) := by decide +kernel
theorem dX6_openAt_16 : decode cX6_openAt 16 = .ok (.aload_n 0, 1) := by decide +kernel
theorem dX6_openAt_17 : decode cX6_openAt 17 = .ok (.iload_n 2, 1) := by decide +kernel
theorem dX6_openAt_18 : decode cX6_openAt 18 = .ok (.iconst 1, 1) := by decide +kernel
theorem dX6_openAt_19 : decode cX6_openAt 19 = .ok (.isub, 1) := by decide +kernel
theorem dX6_openAt_20 : decode cX6_openAt 20 = .ok (.invokevirtual 19, 3) := by decide +kernel
theorem dX6_openAt_23 : decode cX6_openAt 23 = .ok (.invokestatic 47, 3) := by decide +kernel
theorem dX6_openAt_26 : decode cX6_openAt 26 = .ok (.invokevirtual 23, 3) := by decide +kernel
theorem dX6_openAt_29 : decode cX6_openAt 29 = .ok (.iinc 2 (-1), 3) := by decide +kernel
theorem dX6_openAt_32 : decode cX6_openAt 32 = .ok (.goto (-24), 3) := by decide +kernel
theorem dX6_openAt_35 : decode cX6_openAt 35 = .ok (.aload_n 0, 1) := by decide +kernel
theorem dX6_openAt_36 : decode cX6_openAt 36 = .ok (.iload_n 1, 1) := by decide +kernel
theorem dX6_openAt_37 : decode cX6_openAt 37 = .ok (.iconst 0, 1) := by decide +kernel
theorem dX6_openAt_38 : decode cX6_openAt 38 = .ok (.invokevirtual 23, 3) := by decide +kernel
theorem dX6_openAt_41 : decode cX6_openAt 41 = .ok (.iconst 0, 1) := by decide +kernel
theorem dX6_openAt_42 : decode cX6_openAt 42 = .ok (.istore_n 2, 1) := by decide +kernel
theorem dX6_openAt_43 : decode cX6_openAt 43 = .ok (.iload_n 2, 1) := by decide +kernel
theorem dX6_openAt_44 : decode cX6_openAt 44 = .ok (.aload_n 0, 1) := by decide +kernel
theorem dX6_openAt_45 : decode cX6_openAt 45 = .ok (.getfield 9, 3) := by decide +kernel
theorem dX6_openAt_48 : decode cX6_openAt 48 = .ok (.arraylength, 1) := by decide +kernel
theorem dX6_openAt_49 : decode cX6_openAt 49 = .ok (.if_icmp .ge 30, 3) := by decide +kernel
theorem dX6_openAt_52 : decode cX6_openAt 52 = .ok (.iload_n 2, 1) := by decide +kernel
theorem dX6_openAt_53 : decode cX6_openAt 53 = .ok (.iload_n 1, 1) := by decide +kernel
theorem dX6_openAt_54 : decode cX6_openAt 54 = .ok (.if_icmp .ge 25, 3) := by decide +kernel
theorem dX6_openAt_57 : decode cX6_openAt 57 = .ok (.aload_n 0, 1) := by decide +kernel
theorem dX6_openAt_58 : decode cX6_openAt 58 = .ok (.getfield 9, 3) := by decide +kernel
theorem dX6_openAt_61 : decode cX6_openAt 61 = .ok (.iload_n 2, 1) := by decide +kernel
theorem dX6_openAt_62 : decode cX6_openAt 62 = .ok (.iload_n 1, 1) := by decide +kernel
theorem dX6_openAt_63 : decode cX6_openAt 63 = .ok (.aload_n 0, 1) := by decide +kernel
theorem dX6_openAt_64 : decode cX6_openAt 64 = .ok (.getfield 9, 3) := by decide +kernel
theorem dX6_openAt_67 : decode cX6_openAt 67 = .ok (.iload_n 2, 1) := by decide +kernel
theorem dX6_openAt_68 : decode cX6_openAt 68 = .ok (.iaload, 1) := by decide +kernel
theorem dX6_openAt_69 : decode cX6_openAt 69 = .ok (.invokestatic 47, 3) := by decide +kernel
theorem dX6_openAt_72 : decode cX6_openAt 72 = .ok (.iastore, 1) := by decide +kernel
theorem dX6_openAt_73 : decode cX6_openAt 73 = .ok (.iinc 2 1, 3) := by decide +kernel
theorem dX6_openAt_76 : decode cX6_openAt 76 = .ok (.goto (-33), 3) := by decide +kernel
theorem dX6_openAt_79 : decode cX6_openAt 79 = .ok (.return_, 1) := by decide +kernel
set_option maxRecDepth 20000 in
theorem ggX6_closeAt_X6_row : GoodIn wsX6_closeAt wsX6_row := goodIn_r _ [6, 1, 16] (by decide +kernel) (by decide +kernel)
set_option maxRecDepth 20000 in
theorem gX6_closeAt_X6_row : GoodIn wsX6_closeAt (wsV RX6 19 RX6 yX6_row wsX6_row) := goodIn_app (goodIn_of _ (by decide +kernel)) ggX6_closeAt_X6_row
set_option maxRecDepth 20000 in
theorem ggX6_closeAt_X6_endsClosedAt : GoodIn wsX6_closeAt wsX6_endsClosedAt := goodIn_r _ [9, 10, 11, 12, 13, 14, 15] (by decide +kernel) (by decide +kernel)
set_option maxRecDepth 20000 in
theorem gX6_closeAt_X6_endsClosedAt : GoodIn wsX6_closeAt (va_wsS RX6 50 yX6_endsClosedAt wsX6_endsClosedAt) := goodIn_app (goodIn_of _ (by decide +kernel)) ggX6_closeAt_X6_endsClosedAt
set_option maxRecDepth 20000 in
theorem ggX6_closeAt_X9_onwardFrom : GoodIn wsX6_closeAt wsX9_onwardFrom := goodIn_r _ [14, 15, 10, 11, 12] (by decide +kernel) (by decide +kernel)
set_option maxRecDepth 20000 in
theorem gX6_closeAt_X9_onwardFrom_n32 : GoodIn wsX6_closeAt (wsX9_onwardFrom) := ggX6_closeAt_X9_onwardFrom
theorem dX6_closeAt_0 : decode cX6_closeAt 0 = .ok (.iconst 0, 1) := by decide +kernel
theorem dX6_closeAt_1 : decode cX6_closeAt 1 = .ok (.istore_n 2, 1) := by decide +kernel
theorem dX6_closeAt_2 : decode cX6_closeAt 2 = .ok (.iload_n 2, 1) := by decide +kernel
theorem dX6_closeAt_3 : decode cX6_closeAt 3 = .ok (.aload_n 0, 1) := by decide +kernel
theorem dX6_closeAt_4 : decode cX6_closeAt 4 = .ok (.getfield 9, 3) := by decide +kernel
theorem dX6_closeAt_7 : decode cX6_closeAt 7 = .ok (.arraylength, 1) := by decide +kernel
theorem dX6_closeAt_8 : decode cX6_closeAt 8 = .ok (.if_icmp .ge 63, 3) := by decide +kernel
theorem dX6_closeAt_11 : decode cX6_closeAt 11 = .ok (.iload_n 2, 1) := by decide +kernel
theorem dX6_closeAt_12 : decode cX6_closeAt 12 = .ok (.iload_n 1, 1) := by decide +kernel
theorem dX6_closeAt_13 : decode cX6_closeAt 13 = .ok (.if_icmp .gt 11, 3) := by decide +kernel
theorem dX6_closeAt_16 : decode cX6_closeAt 16 = .ok (.aload_n 0, 1) := by decide +kernel
theorem dX6_closeAt_17 : decode cX6_closeAt 17 = .ok (.iload_n 2, 1) := by decide +kernel
theorem dX6_closeAt_18 : decode cX6_closeAt 18 = .ok (.invokevirtual 19, 3) := by decide +kernel
theorem dX6_closeAt_21 : decode cX6_closeAt 21 = .ok (.goto 4, 3) := by decide +kernel
theorem dX6_closeAt_24 : decode cX6_closeAt 24 = .ok (.iconst 0, 1) := by decide +kernel
theorem dX6_closeAt_25 : decode cX6_closeAt 25 = .ok (.istore_n 3, 1) := by decide +kernel
theorem dX6_closeAt_26 : decode cX6_closeAt 26 = .ok (.iload_n 2, 1) := by decide +kernel
theorem dX6_closeAt_27 : decode cX6_closeAt 27 = .ok (.iload_n 1, 1) := by decide +kernel
theorem dX6_closeAt_28 : decode cX6_closeAt 28 = .ok (.if_icmp .lt 13, 3) := by decide +kernel
theorem dX6_closeAt_31 : decode cX6_closeAt 31 = .ok (.aload_n 0, 1) := by decide +kernel
theorem dX6_closeAt_32 : decode cX6_closeAt 32 = .ok (.iload_n 2, 1) := by decide +kernel
theorem dX6_closeAt_33 : decode cX6_closeAt 33 = .ok (.iconst 1, 1) := by decide +kernel
theorem dX6_closeAt_34 : decode cX6_closeAt 34 = .ok (.iadd, 1) := by decide +kernel
theorem dX6_closeAt_35 : decode cX6_closeAt 35 = .ok (.invokevirtual 19, 3) := by decide +kernel
theorem dX6_closeAt_38 : decode cX6_closeAt 38 = .ok (.goto 4, 3) := by decide +kernel
theorem dX6_closeAt_41 : decode cX6_closeAt 41 = .ok (.iconst 0, 1) := by decide +kernel
theorem dX6_closeAt_42 : decode cX6_closeAt 42 = .ok (.istore 4, 2) := by decide +kernel
theorem dX6_closeAt_44 : decode cX6_closeAt 44 = .ok (.aload_n 0, 1) := by decide +kernel
theorem dX6_closeAt_45 : decode cX6_closeAt 45 = .ok (.getfield 9, 3) := by decide +kernel
theorem dX6_closeAt_48 : decode cX6_closeAt 48 = .ok (.iload_n 2, 1) := by decide +kernel
theorem dX6_closeAt_49 : decode cX6_closeAt 49 = .ok (.iload_n 1, 1) := by decide +kernel
theorem dX6_closeAt_50 : decode cX6_closeAt 50 = .ok (.iload_n 3, 1) := by decide +kernel
theorem dX6_closeAt_51 : decode cX6_closeAt 51 = .ok (.iload 4, 2) := by decide +kernel
theorem dX6_closeAt_53 : decode cX6_closeAt 53 = .ok (.ior, 1) := by decide +kernel
theorem dX6_closeAt_54 : decode cX6_closeAt 54 = .ok (.invokestatic 50, 3) := by decide +kernel
theorem dX6_closeAt_57 : decode cX6_closeAt 57 = .ok (.iload_n 2, 1) := by decide +kernel
theorem dX6_closeAt_58 : decode cX6_closeAt 58 = .ok (.iconst 1, 1) := by decide +kernel
theorem dX6_closeAt_59 : decode cX6_closeAt 59 = .ok (.iadd, 1) := by decide +kernel
theorem dX6_closeAt_60 : decode cX6_closeAt 60 = .ok (.invokestatic 32, 3) := by decide +kernel
theorem dX6_closeAt_63 : decode cX6_closeAt 63 = .ok (.iand, 1) := by decide +kernel
theorem dX6_closeAt_64 : decode cX6_closeAt 64 = .ok (.iastore, 1) := by decide +kernel
theorem dX6_closeAt_65 : decode cX6_closeAt 65 = .ok (.iinc 2 1, 3) := by decide +kernel
theorem dX6_closeAt_68 : decode cX6_closeAt 68 = .ok (.goto (-66), 3) := by decide +kernel
theorem dX6_closeAt_71 : decode cX6_closeAt 71 = .ok (.return_, 1) := by decide +kernel
set_option maxRecDepth 20000 in
theorem ggX6_endsOpenedAt_X9_upTo : GoodIn wsX6_endsOpenedAt wsX9_upTo := goodIn_r _ [3] (by decide +kernel) (by decide +kernel)
set_option maxRecDepth 20000 in
theorem gX6_endsOpenedAt_X9_upTo_n53 : GoodIn wsX6_endsOpenedAt (wsX9_upTo) := ggX6_endsOpenedAt_X9_upTo
set_option maxRecDepth 20000 in
theorem ggX6_endsOpenedAt_X9_onwardFrom : GoodIn wsX6_endsOpenedAt wsX9_onwardFrom := goodIn_r _ [5, 6, 1, 2, 3] (by decide +kernel) (by decide +kernel)
set_option maxRecDepth 20000 in
theorem gX6_endsOpenedAt_X9_onwardFrom_n32 : GoodIn wsX6_endsOpenedAt (wsX9_onwardFrom) := ggX6_endsOpenedAt_X9_onwardFrom
theorem dX6_endsOpenedAt_0 : decode cX6_endsOpenedAt 0 = .ok (.iload_n 1, 1) := by decide +kernel
theorem dX6_endsOpenedAt_1 : decode cX6_endsOpenedAt 1 = .ok (.iload_n 0, 1) := by decide +kernel
theorem dX6_endsOpenedAt_2 : decode cX6_endsOpenedAt 2 = .ok (.invokestatic 53, 3) := by decide +kernel
theorem dX6_endsOpenedAt_5 : decode cX6_endsOpenedAt 5 = .ok (.iand, 1) := by decide +kernel
theorem dX6_endsOpenedAt_6 : decode cX6_endsOpenedAt 6 = .ok (.iload_n 1, 1) := by decide +kernel
theorem dX6_endsOpenedAt_7 : decode cX6_endsOpenedAt 7 = .ok (.iload_n 0, 1) := by decide +kernel
theorem dX6_endsOpenedAt_8 : decode cX6_endsOpenedAt 8 = .ok (.iconst 1, 1) := by decide +kernel
theorem dX6_endsOpenedAt_9 : decode cX6_endsOpenedAt 9 = .ok (.iadd, 1) := by decide +kernel
theorem dX6_endsOpenedAt_10 : decode cX6_endsOpenedAt 10 = .ok (.invokestatic 32, 3) := by decide +kernel
theorem dX6_endsOpenedAt_13 : decode cX6_endsOpenedAt 13 = .ok (.iand, 1) := by decide +kernel
theorem dX6_endsOpenedAt_14 : decode cX6_endsOpenedAt 14 = .ok (.iconst 1, 1) := by decide +kernel
theorem dX6_endsOpenedAt_15 : decode cX6_endsOpenedAt 15 = .ok (.ishl, 1) := by decide +kernel
theorem dX6_endsOpenedAt_16 : decode cX6_endsOpenedAt 16 = .ok (.ior, 1) := by decide +kernel
theorem dX6_endsOpenedAt_17 : decode cX6_endsOpenedAt 17 = .ok (.ireturn, 1) := by decide +kernel
set_option maxRecDepth 20000 in
theorem ggX6_endsClosedAt_X9_upTo : GoodIn wsX6_endsClosedAt wsX9_upTo := goodIn_r _ [3] (by decide +kernel) (by decide +kernel)
set_option maxRecDepth 20000 in
theorem gX6_endsClosedAt_X9_upTo_n53 : GoodIn wsX6_endsClosedAt (wsX9_upTo) := ggX6_endsClosedAt_X9_upTo
set_option maxRecDepth 20000 in
theorem ggX6_endsClosedAt_X9_onwardFrom : GoodIn wsX6_endsClosedAt wsX9_onwardFrom := goodIn_r _ [5, 6, 1, 2, 3] (by decide +kernel) (by decide +kernel)
set_option maxRecDepth 20000 in
theorem gX6_endsClosedAt_X9_onwardFrom_n32 : GoodIn wsX6_endsClosedAt (wsX9_onwardFrom) := ggX6_endsClosedAt_X9_onwardFrom
theorem dX6_endsClosedAt_0 : decode cX6_endsClosedAt 0 = .ok (.iload_n 1, 1) := by decide +kernel
theorem dX6_endsClosedAt_1 : decode cX6_endsClosedAt 1 = .ok (.iload_n 0, 1) := by decide +kernel
theorem dX6_endsClosedAt_2 : decode cX6_endsClosedAt 2 = .ok (.invokestatic 53, 3) := by decide +kernel
theorem dX6_endsClosedAt_5 : decode cX6_endsClosedAt 5 = .ok (.iand, 1) := by decide +kernel
theorem dX6_endsClosedAt_6 : decode cX6_endsClosedAt 6 = .ok (.iload_n 1, 1) := by decide +kernel
theorem dX6_endsClosedAt_7 : decode cX6_endsClosedAt 7 = .ok (.iload_n 0, 1) := by decide +kernel
theorem dX6_endsClosedAt_8 : decode cX6_endsClosedAt 8 = .ok (.iconst 1, 1) := by decide +kernel
theorem dX6_endsClosedAt_9 : decode cX6_endsClosedAt 9 = .ok (.iadd, 1) := by decide +kernel
theorem dX6_endsClosedAt_10 : decode cX6_endsClosedAt 10 = .ok (.invokestatic 32, 3) := by decide +kernel
theorem dX6_endsClosedAt_13 : decode cX6_endsClosedAt 13 = .ok (.iand, 1) := by decide +kernel
theorem dX6_endsClosedAt_14 : decode cX6_endsClosedAt 14 = .ok (.iconst 1, 1) := by decide +kernel
theorem dX6_endsClosedAt_15 : decode cX6_endsClosedAt 15 = .ok (.iushr, 1) := by decide +kernel
theorem dX6_endsClosedAt_16 : decode cX6_endsClosedAt 16 = .ok (.ior, 1) := by decide +kernel
theorem dX6_endsClosedAt_17 : decode cX6_endsClosedAt 17 = .ok (.ireturn, 1) := by decide +kernel
set_option maxRecDepth 20000 in
theorem ggX6_join_X9_upTo : GoodIn wsX6_join wsX9_upTo := goodIn_r _ [4] (by decide +kernel) (by decide +kernel)
set_option maxRecDepth 20000 in
theorem gX6_join_X9_upTo_n53 : GoodIn wsX6_join (wsX9_upTo) := ggX6_join_X9_upTo
set_option maxRecDepth 20000 in
theorem ggX6_join_X9_onwardFrom : GoodIn wsX6_join wsX9_onwardFrom := goodIn_r _ [6, 7, 2, 3, 4] (by decide +kernel) (by decide +kernel)
set_option maxRecDepth 20000 in
theorem gX6_join_X9_onwardFrom_n32 : GoodIn wsX6_join (wsX9_onwardFrom) := ggX6_join_X9_onwardFrom
set_option maxRecDepth 20000 in
theorem ggX6_join_X6_row : GoodIn wsX6_join wsX6_row := goodIn_r _ [12, 1, 13] (by decide +kernel) (by decide +kernel)
set_option maxRecDepth 20000 in
theorem gX6_join_X6_row : GoodIn wsX6_join (wsV RX6 19 RX6 yX6_row wsX6_row) := goodIn_app (goodIn_of _ (by decide +kernel)) ggX6_join_X6_row
theorem dX6_join_0 : decode cX6_join 0 = .ok (.iconst 0, 1) := by decide +kernel
theorem dX6_join_1 : decode cX6_join 1 = .ok (.istore 4, 2) := by decide +kernel
theorem dX6_join_3 : decode cX6_join 3 = .ok (.iload 4, 2) := by decide +kernel
theorem dX6_join_5 : decode cX6_join 5 = .ok (.aload_n 0, 1) := by decide +kernel
theorem dX6_join_6 : decode cX6_join 6 = .ok (.getfield 9, 3) := by decide +kernel
theorem dX6_join_9 : decode cX6_join 9 = .ok (.arraylength, 1) := by decide +kernel
theorem dX6_join_10 : decode cX6_join 10 = .ok (.if_icmp .ge 82, 3) := by decide +kernel
theorem dX6_join_13 : decode cX6_join 13 = .ok (.aload_n 0, 1) := by decide +kernel
theorem dX6_join_14 : decode cX6_join 14 = .ok (.getfield 9, 3) := by decide +kernel
theorem dX6_join_17 : decode cX6_join 17 = .ok (.iload 4, 2) := by decide +kernel
theorem dX6_join_19 : decode cX6_join 19 = .ok (.iconst 0, 1) := by decide +kernel
theorem dX6_join_20 : decode cX6_join 20 = .ok (.iastore, 1) := by decide +kernel
theorem dX6_join_21 : decode cX6_join 21 = .ok (.iload 4, 2) := by decide +kernel
theorem dX6_join_23 : decode cX6_join 23 = .ok (.iconst 1, 1) := by decide +kernel
theorem dX6_join_24 : decode cX6_join 24 = .ok (.iadd, 1) := by decide +kernel
theorem dX6_join_25 : decode cX6_join 25 = .ok (.istore 5, 2) := by decide +kernel
theorem dX6_join_27 : decode cX6_join 27 = .ok (.iload 5, 2) := by decide +kernel
theorem dX6_join_29 : decode cX6_join 29 = .ok (.aload_n 0, 1) := by decide +kernel
theorem dX6_join_30 : decode cX6_join 30 = .ok (.getfield 9, 3) := by decide +kernel
theorem dX6_join_33 : decode cX6_join 33 = .ok (.arraylength, 1) := by decide +kernel
theorem dX6_join_34 : decode cX6_join 34 = .ok (.if_icmp .ge 52, 3) := by decide +kernel
theorem dX6_join_37 : decode cX6_join 37 = .ok (.iload 5, 2) := by decide +kernel
theorem dX6_join_39 : decode cX6_join 39 = .ok (.invokestatic 53, 3) := by decide +kernel
theorem dX6_join_42 : decode cX6_join 42 = .ok (.iload 5, 2) := by decide +kernel
theorem dX6_join_44 : decode cX6_join 44 = .ok (.iload_n 3, 1) := by decide +kernel
theorem dX6_join_45 : decode cX6_join 45 = .ok (.isub, 1) := by decide +kernel
theorem dX6_join_46 : decode cX6_join 46 = .ok (.invokestatic 32, 3) := by decide +kernel
theorem dX6_join_49 : decode cX6_join 49 = .ok (.iand, 1) := by decide +kernel
theorem dX6_join_50 : decode cX6_join 50 = .ok (.istore 6, 2) := by decide +kernel
theorem dX6_join_52 : decode cX6_join 52 = .ok (.aload_n 1, 1) := by decide +kernel
theorem dX6_join_53 : decode cX6_join 53 = .ok (.iload 4, 2) := by decide +kernel
theorem dX6_join_55 : decode cX6_join 55 = .ok (.invokevirtual 19, 3) := by decide +kernel
theorem dX6_join_58 : decode cX6_join 58 = .ok (.iload 6, 2) := by decide +kernel
theorem dX6_join_60 : decode cX6_join 60 = .ok (.iand, 1) := by decide +kernel
theorem dX6_join_61 : decode cX6_join 61 = .ok (.ifCond .eq 19, 3) := by decide +kernel
theorem dX6_join_64 : decode cX6_join 64 = .ok (.aload_n 0, 1) := by decide +kernel
theorem dX6_join_65 : decode cX6_join 65 = .ok (.getfield 9, 3) := by decide +kernel
theorem dX6_join_68 : decode cX6_join 68 = .ok (.iload 4, 2) := by decide +kernel
theorem dX6_join_70 : decode cX6_join 70 = .ok (.dup2, 1) := by decide +kernel
theorem dX6_join_71 : decode cX6_join 71 = .ok (.iaload, 1) := by decide +kernel
theorem dX6_join_72 : decode cX6_join 72 = .ok (.aload_n 2, 1) := by decide +kernel
theorem dX6_join_73 : decode cX6_join 73 = .ok (.iload 5, 2) := by decide +kernel
theorem dX6_join_75 : decode cX6_join 75 = .ok (.invokevirtual 19, 3) := by decide +kernel
theorem dX6_join_78 : decode cX6_join 78 = .ok (.ior, 1) := by decide +kernel
theorem dX6_join_79 : decode cX6_join 79 = .ok (.iastore, 1) := by decide +kernel
theorem dX6_join_80 : decode cX6_join 80 = .ok (.iinc 5 1, 3) := by decide +kernel
theorem dX6_join_83 : decode cX6_join 83 = .ok (.goto (-56), 3) := by decide +kernel
theorem dX6_join_86 : decode cX6_join 86 = .ok (.iinc 4 1, 3) := by decide +kernel
theorem dX6_join_89 : decode cX6_join 89 = .ok (.goto (-86), 3) := by decide +kernel
theorem dX6_join_92 : decode cX6_join 92 = .ok (.return_, 1) := by decide +kernel
set_option maxRecDepth 20000 in
theorem ggX6_keepInner_X6_lowestEnd : GoodIn wsX6_keepInner wsX6_lowestEnd := goodIn_r _ [10, 11, 12, 13, 9, 14, 1, 15] (by decide +kernel) (by decide +kernel)
set_option maxRecDepth 20000 in
theorem gX6_keepInner_X6_lowestEnd : GoodIn wsX6_keepInner (wsV RX6 56 RX6 yX6_lowestEnd wsX6_lowestEnd) := goodIn_app (goodIn_of _ (by decide +kernel)) ggX6_keepInner_X6_lowestEnd
theorem dX6_keepInner_0 : decode cX6_keepInner 0 = .ok (.bipush 25, 2) := by decide +kernel
theorem dX6_keepInner_2 : decode cX6_keepInner 2 = .ok (.istore_n 1, 1) := by decide +kernel
theorem dX6_keepInner_3 : decode cX6_keepInner 3 = .ok (.aload_n 0, 1) := by decide +kernel
theorem dX6_keepInner_4 : decode cX6_keepInner 4 = .ok (.getfield 9, 3) := by decide +kernel
theorem dX6_keepInner_7 : decode cX6_keepInner 7 = .ok (.arraylength, 1) := by decide +kernel
theorem dX6_keepInner_8 : decode cX6_keepInner 8 = .ok (.iconst 1, 1) := by decide +kernel
theorem dX6_keepInner_9 : decode cX6_keepInner 9 = .ok (.isub, 1) := by decide +kernel
theorem dX6_keepInner_10 : decode cX6_keepInner 10 = .ok (.istore_n 2, 1) := by decide +kernel
theorem dX6_keepInner_11 : decode cX6_keepInner 11 = .ok (.iload_n 2, 1) := by decide +kernel
theorem dX6_keepInner_12 : decode cX6_keepInner 12 = .ok (.ifCond .lt 39, 3) := by decide +kernel
theorem dX6_keepInner_15 : decode cX6_keepInner 15 = .ok (.aload_n 0, 1) := by decide +kernel
theorem dX6_keepInner_16 : decode cX6_keepInner 16 = .ok (.iload_n 2, 1) := by decide +kernel
theorem dX6_keepInner_17 : decode cX6_keepInner 17 = .ok (.invokevirtual 56, 3) := by decide +kernel
theorem dX6_keepInner_20 : decode cX6_keepInner 20 = .ok (.istore_n 3, 1) := by decide +kernel
theorem dX6_keepInner_21 : decode cX6_keepInner 21 = .ok (.aload_n 0, 1) := by decide +kernel
theorem dX6_keepInner_22 : decode cX6_keepInner 22 = .ok (.getfield 9, 3) := by decide +kernel
theorem dX6_keepInner_25 : decode cX6_keepInner 25 = .ok (.iload_n 2, 1) := by decide +kernel
theorem dX6_keepInner_26 : decode cX6_keepInner 26 = .ok (.iload_n 3, 1) := by decide +kernel
theorem dX6_keepInner_27 : decode cX6_keepInner 27 = .ok (.iload_n 1, 1) := by decide +kernel
theorem dX6_keepInner_28 : decode cX6_keepInner 28 = .ok (.if_icmp .ge 9, 3) := by decide +kernel
theorem dX6_keepInner_31 : decode cX6_keepInner 31 = .ok (.iconst 1, 1) := by decide +kernel
theorem dX6_keepInner_32 : decode cX6_keepInner 32 = .ok (.iload_n 3, 1) := by decide +kernel
theorem dX6_keepInner_33 : decode cX6_keepInner 33 = .ok (.ishl, 1) := by decide +kernel
theorem dX6_keepInner_34 : decode cX6_keepInner 34 = .ok (.goto 4, 3) := by decide +kernel
theorem dX6_keepInner_37 : decode cX6_keepInner 37 = .ok (.iconst 0, 1) := by decide +kernel
theorem dX6_keepInner_38 : decode cX6_keepInner 38 = .ok (.iastore, 1) := by decide +kernel
theorem dX6_keepInner_39 : decode cX6_keepInner 39 = .ok (.iload_n 1, 1) := by decide +kernel
theorem dX6_keepInner_40 : decode cX6_keepInner 40 = .ok (.iload_n 3, 1) := by decide +kernel
theorem dX6_keepInner_41 : decode cX6_keepInner 41 = .ok (.invokestatic 59, 3) := by decide +kernel
theorem dX6_keepInner_44 : decode cX6_keepInner 44 = .ok (.istore_n 1, 1) := by decide +kernel
theorem dX6_keepInner_45 : decode cX6_keepInner 45 = .ok (.iinc 2 (-1), 3) := by decide +kernel
theorem dX6_keepInner_48 : decode cX6_keepInner 48 = .ok (.goto (-37), 3) := by decide +kernel
theorem dX6_keepInner_51 : decode cX6_keepInner 51 = .ok (.return_, 1) := by decide +kernel
set_option maxRecDepth 20000 in
theorem ggX6_keepOuter_X6_highestEnd : GoodIn wsX6_keepOuter wsX6_highestEnd := goodIn_r _ [10, 11, 12, 13, 9, 14, 1, 15] (by decide +kernel) (by decide +kernel)
set_option maxRecDepth 20000 in
theorem gX6_keepOuter_X6_highestEnd : GoodIn wsX6_keepOuter (wsV RX6 44 RX6 yX6_highestEnd wsX6_highestEnd) := goodIn_app (goodIn_of _ (by decide +kernel)) ggX6_keepOuter_X6_highestEnd
theorem dX6_keepOuter_0 : decode cX6_keepOuter 0 = .ok (.iconst 0, 1) := by decide +kernel
theorem dX6_keepOuter_1 : decode cX6_keepOuter 1 = .ok (.istore_n 1, 1) := by decide +kernel
theorem dX6_keepOuter_2 : decode cX6_keepOuter 2 = .ok (.iconst 0, 1) := by decide +kernel
theorem dX6_keepOuter_3 : decode cX6_keepOuter 3 = .ok (.istore_n 2, 1) := by decide +kernel
theorem dX6_keepOuter_4 : decode cX6_keepOuter 4 = .ok (.iload_n 2, 1) := by decide +kernel
theorem dX6_keepOuter_5 : decode cX6_keepOuter 5 = .ok (.aload_n 0, 1) := by decide +kernel
theorem dX6_keepOuter_6 : decode cX6_keepOuter 6 = .ok (.getfield 9, 3) := by decide +kernel
theorem dX6_keepOuter_9 : decode cX6_keepOuter 9 = .ok (.arraylength, 1) := by decide +kernel
theorem dX6_keepOuter_10 : decode cX6_keepOuter 10 = .ok (.if_icmp .ge 39, 3) := by decide +kernel
theorem dX6_keepOuter_13 : decode cX6_keepOuter 13 = .ok (.aload_n 0, 1) := by decide +kernel
theorem dX6_keepOuter_14 : decode cX6_keepOuter 14 = .ok (.iload_n 2, 1) := by decide +kernel
theorem dX6_keepOuter_15 : decode cX6_keepOuter 15 = .ok (.invokevirtual 44, 3) := by decide +kernel
theorem dX6_keepOuter_18 : decode cX6_keepOuter 18 = .ok (.istore_n 3, 1) := by decide +kernel
theorem dX6_keepOuter_19 : decode cX6_keepOuter 19 = .ok (.aload_n 0, 1) := by decide +kernel
theorem dX6_keepOuter_20 : decode cX6_keepOuter 20 = .ok (.getfield 9, 3) := by decide +kernel
theorem dX6_keepOuter_23 : decode cX6_keepOuter 23 = .ok (.iload_n 2, 1) := by decide +kernel
theorem dX6_keepOuter_24 : decode cX6_keepOuter 24 = .ok (.iload_n 3, 1) := by decide +kernel
theorem dX6_keepOuter_25 : decode cX6_keepOuter 25 = .ok (.iload_n 1, 1) := by decide +kernel
theorem dX6_keepOuter_26 : decode cX6_keepOuter 26 = .ok (.if_icmp .le 9, 3) := by decide +kernel
theorem dX6_keepOuter_29 : decode cX6_keepOuter 29 = .ok (.iconst 1, 1) := by decide +kernel
theorem dX6_keepOuter_30 : decode cX6_keepOuter 30 = .ok (.iload_n 3, 1) := by decide +kernel
theorem dX6_keepOuter_31 : decode cX6_keepOuter 31 = .ok (.ishl, 1) := by decide +kernel
theorem dX6_keepOuter_32 : decode cX6_keepOuter 32 = .ok (.goto 4, 3) := by decide +kernel
theorem dX6_keepOuter_35 : decode cX6_keepOuter 35 = .ok (.iconst 0, 1) := by decide +kernel
theorem dX6_keepOuter_36 : decode cX6_keepOuter 36 = .ok (.iastore, 1) := by decide +kernel
theorem dX6_keepOuter_37 : decode cX6_keepOuter 37 = .ok (.iload_n 1, 1) := by decide +kernel
theorem dX6_keepOuter_38 : decode cX6_keepOuter 38 = .ok (.iload_n 3, 1) := by decide +kernel
theorem dX6_keepOuter_39 : decode cX6_keepOuter 39 = .ok (.invokestatic 38, 3) := by decide +kernel
theorem dX6_keepOuter_42 : decode cX6_keepOuter 42 = .ok (.istore_n 1, 1) := by decide +kernel
theorem dX6_keepOuter_43 : decode cX6_keepOuter 43 = .ok (.iinc 2 1, 3) := by decide +kernel
theorem dX6_keepOuter_46 : decode cX6_keepOuter 46 = .ok (.goto (-42), 3) := by decide +kernel
theorem dX6_keepOuter_49 : decode cX6_keepOuter 49 = .ok (.return_, 1) := by decide +kernel
set_option maxRecDepth 20000 in
theorem ggX6_countWithin_X6_contains : GoodIn wsX6_countWithin wsX6_contains := goodIn_r _ [9, 10, 11] (by decide +kernel) (by decide +kernel)
set_option maxRecDepth 20000 in
theorem gX6_countWithin_X6_contains : GoodIn wsX6_countWithin (wsV RX6 15 RX6 yX6_contains wsX6_contains) := goodIn_app (goodIn_of _ (by decide +kernel)) ggX6_countWithin_X6_contains
theorem dX6_countWithin_0 : decode cX6_countWithin 0 = .ok (.iconst 0, 1) := by decide +kernel
theorem dX6_countWithin_1 : decode cX6_countWithin 1 = .ok (.istore 5, 2) := by decide +kernel
theorem dX6_countWithin_3 : decode cX6_countWithin 3 = .ok (.iload_n 1, 1) := by decide +kernel
theorem dX6_countWithin_4 : decode cX6_countWithin 4 = .ok (.istore 6, 2) := by decide +kernel
theorem dX6_countWithin_6 : decode cX6_countWithin 6 = .ok (.iload 6, 2) := by decide +kernel
theorem dX6_countWithin_8 : decode cX6_countWithin 8 = .ok (.iload_n 2, 1) := by decide +kernel
theorem dX6_countWithin_9 : decode cX6_countWithin 9 = .ok (.if_icmp .gt 46, 3) := by decide +kernel
theorem dX6_countWithin_12 : decode cX6_countWithin 12 = .ok (.iload_n 3, 1) := by decide +kernel
theorem dX6_countWithin_13 : decode cX6_countWithin 13 = .ok (.iload 6, 2) := by decide +kernel
theorem dX6_countWithin_15 : decode cX6_countWithin 15 = .ok (.iconst 1, 1) := by decide +kernel
theorem dX6_countWithin_16 : decode cX6_countWithin 16 = .ok (.iadd, 1) := by decide +kernel
theorem dX6_countWithin_17 : decode cX6_countWithin 17 = .ok (.invokestatic 38, 3) := by decide +kernel
theorem dX6_countWithin_20 : decode cX6_countWithin 20 = .ok (.istore 7, 2) := by decide +kernel
theorem dX6_countWithin_22 : decode cX6_countWithin 22 = .ok (.iload 7, 2) := by decide +kernel
theorem dX6_countWithin_24 : decode cX6_countWithin 24 = .ok (.iload 4, 2) := by decide +kernel
theorem dX6_countWithin_26 : decode cX6_countWithin 26 = .ok (.if_icmp .gt 23, 3) := by decide +kernel
theorem dX6_countWithin_29 : decode cX6_countWithin 29 = .ok (.aload_n 0, 1) := by decide +kernel
theorem dX6_countWithin_30 : decode cX6_countWithin 30 = .ok (.iload 6, 2) := by decide +kernel
theorem dX6_countWithin_32 : decode cX6_countWithin 32 = .ok (.iload 7, 2) := by decide +kernel
theorem dX6_countWithin_34 : decode cX6_countWithin 34 = .ok (.invokevirtual 15, 3) := by decide +kernel
theorem dX6_countWithin_37 : decode cX6_countWithin 37 = .ok (.ifCond .eq 6, 3) := by decide +kernel
theorem dX6_countWithin_40 : decode cX6_countWithin 40 = .ok (.iinc 5 1, 3) := by decide +kernel
theorem dX6_countWithin_43 : decode cX6_countWithin 43 = .ok (.iinc 7 1, 3) := by decide +kernel
theorem dX6_countWithin_46 : decode cX6_countWithin 46 = .ok (.goto (-24), 3) := by decide +kernel
theorem dX6_countWithin_49 : decode cX6_countWithin 49 = .ok (.iinc 6 1, 3) := by decide +kernel
theorem dX6_countWithin_52 : decode cX6_countWithin 52 = .ok (.goto (-46), 3) := by decide +kernel
theorem dX6_countWithin_55 : decode cX6_countWithin 55 = .ok (.iload 5, 2) := by decide +kernel
theorem dX6_countWithin_57 : decode cX6_countWithin 57 = .ok (.ireturn, 1) := by decide +kernel
set_option maxRecDepth 20000 in
theorem ggX6_countLyingIn_X6_countWithin : GoodIn wsX6_countLyingIn wsX6_countWithin := goodIn_r _ [5, 6, 7, 8, 9, 10, 11, 12, 4, 13, 14, 15] (by decide +kernel) (by decide +kernel)
set_option maxRecDepth 20000 in
theorem gX6_countLyingIn_X6_countWithin : GoodIn wsX6_countLyingIn (wsV RX6 62 RX6 yX6_countWithin wsX6_countWithin) := goodIn_app (goodIn_of _ (by decide +kernel)) ggX6_countLyingIn_X6_countWithin
theorem dX6_countLyingIn_0 : decode cX6_countLyingIn 0 = .ok (.aload_n 0, 1) := by decide +kernel
theorem dX6_countLyingIn_1 : decode cX6_countLyingIn 1 = .ok (.iload_n 1, 1) := by decide +kernel
theorem dX6_countLyingIn_2 : decode cX6_countLyingIn 2 = .ok (.iload_n 2, 1) := by decide +kernel
theorem dX6_countLyingIn_3 : decode cX6_countLyingIn 3 = .ok (.iconst 1, 1) := by decide +kernel
theorem dX6_countLyingIn_4 : decode cX6_countLyingIn 4 = .ok (.isub, 1) := by decide +kernel
theorem dX6_countLyingIn_5 : decode cX6_countLyingIn 5 = .ok (.iload_n 1, 1) := by decide +kernel
theorem dX6_countLyingIn_6 : decode cX6_countLyingIn 6 = .ok (.iconst 1, 1) := by decide +kernel
theorem dX6_countLyingIn_7 : decode cX6_countLyingIn 7 = .ok (.iadd, 1) := by decide +kernel
theorem dX6_countLyingIn_8 : decode cX6_countLyingIn 8 = .ok (.iload_n 2, 1) := by decide +kernel
theorem dX6_countLyingIn_9 : decode cX6_countLyingIn 9 = .ok (.invokevirtual 62, 3) := by decide +kernel
theorem dX6_countLyingIn_12 : decode cX6_countLyingIn 12 = .ok (.ireturn, 1) := by decide +kernel
set_option maxRecDepth 20000 in
theorem ggX6_countLyingRound_X6_countWithin : GoodIn wsX6_countLyingRound wsX6_countWithin := goodIn_r _ [5, 6, 7, 8, 9, 10, 11, 12, 4, 13, 14, 15] (by decide +kernel) (by decide +kernel)
set_option maxRecDepth 20000 in
theorem gX6_countLyingRound_X6_countWithin : GoodIn wsX6_countLyingRound (wsV RX6 62 RX6 yX6_countWithin wsX6_countWithin) := goodIn_app (goodIn_of _ (by decide +kernel)) ggX6_countLyingRound_X6_countWithin
theorem dX6_countLyingRound_0 : decode cX6_countLyingRound 0 = .ok (.aload_n 0, 1) := by decide +kernel
theorem dX6_countLyingRound_1 : decode cX6_countLyingRound 1 = .ok (.iconst 0, 1) := by decide +kernel
theorem dX6_countLyingRound_2 : decode cX6_countLyingRound 2 = .ok (.iload_n 1, 1) := by decide +kernel
theorem dX6_countLyingRound_3 : decode cX6_countLyingRound 3 = .ok (.iload_n 2, 1) := by decide +kernel
theorem dX6_countLyingRound_4 : decode cX6_countLyingRound 4 = .ok (.bipush 24, 2) := by decide +kernel
theorem dX6_countLyingRound_6 : decode cX6_countLyingRound 6 = .ok (.invokevirtual 62, 3) := by decide +kernel
theorem dX6_countLyingRound_9 : decode cX6_countLyingRound 9 = .ok (.ireturn, 1) := by decide +kernel
set_option maxRecDepth 20000 in
theorem ggX6_isJoined_X6_contains : GoodIn wsX6_isJoined wsX6_contains := goodIn_r _ [9, 10, 18] (by decide +kernel) (by decide +kernel)
set_option maxRecDepth 20000 in
theorem gX6_isJoined_X6_contains : GoodIn wsX6_isJoined (wsV RX6 15 RX6 yX6_contains wsX6_contains) := goodIn_app (goodIn_of _ (by decide +kernel)) ggX6_isJoined_X6_contains
set_option maxRecDepth 20000 in
theorem ggX6_isJoined_X6_countWithin : GoodIn wsX6_isJoined wsX6_countWithin := goodIn_r _ [14, 15, 16, 3, 17, 5, 6, 7, 8, 9, 10, 18] (by decide +kernel) (by decide +kernel)
set_option maxRecDepth 20000 in
theorem gX6_isJoined_X6_countWithin : GoodIn wsX6_isJoined (wsV RX6 62 RX6 yX6_countWithin wsX6_countWithin) := goodIn_app (goodIn_of _ (by decide +kernel)) ggX6_isJoined_X6_countWithin
theorem dX6_isJoined_0 : decode cX6_isJoined 0 = .ok (.iload_n 3, 1) := by decide +kernel
theorem dX6_isJoined_1 : decode cX6_isJoined 1 = .ok (.iconst 1, 1) := by decide +kernel
theorem dX6_isJoined_2 : decode cX6_isJoined 2 = .ok (.iadd, 1) := by decide +kernel
theorem dX6_isJoined_3 : decode cX6_isJoined 3 = .ok (.istore 5, 2) := by decide +kernel
theorem dX6_isJoined_5 : decode cX6_isJoined 5 = .ok (.iload 5, 2) := by decide +kernel
theorem dX6_isJoined_7 : decode cX6_isJoined 7 = .ok (.iload 4, 2) := by decide +kernel
theorem dX6_isJoined_9 : decode cX6_isJoined 9 = .ok (.if_icmp .ge 49, 3) := by decide +kernel
theorem dX6_isJoined_12 : decode cX6_isJoined 12 = .ok (.iload 5, 2) := by decide +kernel
theorem dX6_isJoined_14 : decode cX6_isJoined 14 = .ok (.iload_n 2, 1) := by decide +kernel
theorem dX6_isJoined_15 : decode cX6_isJoined 15 = .ok (.iadd, 1) := by decide +kernel
theorem dX6_isJoined_16 : decode cX6_isJoined 16 = .ok (.iload 4, 2) := by decide +kernel
theorem dX6_isJoined_18 : decode cX6_isJoined 18 = .ok (.iconst 1, 1) := by decide +kernel
theorem dX6_isJoined_19 : decode cX6_isJoined 19 = .ok (.isub, 1) := by decide +kernel
theorem dX6_isJoined_20 : decode cX6_isJoined 20 = .ok (.invokestatic 59, 3) := by decide +kernel
theorem dX6_isJoined_23 : decode cX6_isJoined 23 = .ok (.istore 6, 2) := by decide +kernel
theorem dX6_isJoined_25 : decode cX6_isJoined 25 = .ok (.aload_n 0, 1) := by decide +kernel
theorem dX6_isJoined_26 : decode cX6_isJoined 26 = .ok (.iload_n 3, 1) := by decide +kernel
theorem dX6_isJoined_27 : decode cX6_isJoined 27 = .ok (.iload 5, 2) := by decide +kernel
theorem dX6_isJoined_29 : decode cX6_isJoined 29 = .ok (.invokevirtual 15, 3) := by decide +kernel
theorem dX6_isJoined_32 : decode cX6_isJoined 32 = .ok (.ifCond .eq 20, 3) := by decide +kernel
theorem dX6_isJoined_35 : decode cX6_isJoined 35 = .ok (.aload_n 1, 1) := by decide +kernel
theorem dX6_isJoined_36 : decode cX6_isJoined 36 = .ok (.iload 5, 2) := by decide +kernel
theorem dX6_isJoined_38 : decode cX6_isJoined 38 = .ok (.iload 6, 2) := by decide +kernel
theorem dX6_isJoined_40 : decode cX6_isJoined 40 = .ok (.iload 4, 2) := by decide +kernel
theorem dX6_isJoined_42 : decode cX6_isJoined 42 = .ok (.iload 4, 2) := by decide +kernel
theorem dX6_isJoined_44 : decode cX6_isJoined 44 = .ok (.invokevirtual 62, 3) := by decide +kernel
theorem dX6_isJoined_47 : decode cX6_isJoined 47 = .ok (.ifCond .le 5, 3) := by decide +kernel
theorem dX6_isJoined_50 : decode cX6_isJoined 50 = .ok (.iconst 1, 1) := by decide +kernel
theorem dX6_isJoined_51 : decode cX6_isJoined 51 = .ok (.ireturn, 1) := by decide +kernel
theorem dX6_isJoined_52 : decode cX6_isJoined 52 = .ok (.iinc 5 1, 3) := by decide +kernel
theorem dX6_isJoined_55 : decode cX6_isJoined 55 = .ok (.goto (-50), 3) := by decide +kernel
theorem dX6_isJoined_58 : decode cX6_isJoined 58 = .ok (.iconst 0, 1) := by decide +kernel
theorem dX6_isJoined_59 : decode cX6_isJoined 59 = .ok (.ireturn, 1) := by decide +kernel
set_option maxRecDepth 20000 in
theorem ggX7_init_X9_depthAbove : GoodIn wsX7_init wsX9_depthAbove := goodIn_r _ [10, 11, 12, 13, 14, 15, 33, 34, 35, 36, 37, 38, 39, 40, 41, 42, 43, 44, 45, 46, 47, 48, 49, 50, 51, 52, 53, 54, 55, 56, 57, 58, 59, 60, 61, 62, 63, 64, 65, 66, 67, 68, 69] (by decide +kernel) (by decide +kernel)
set_option maxRecDepth 20000 in
theorem gX7_init_X9_depthAbove_n3 : GoodIn wsX7_init (wsX9_depthAbove) := ggX7_init_X9_depthAbove
set_option maxRecDepth 20000 in
theorem ggX7_init_X0_init : GoodIn wsX7_init wsX0_init := goodIn_r _ [19, 20, 21, 22, 23, 3, 4, 24, 25, 26, 27, 28, 29, 30, 31, 32, 70, 33, 34, 35, 36, 37, 38, 39, 40, 41, 42, 43, 44, 45, 46, 47, 48, 49, 50, 51, 52, 53, 54, 55, 56, 57, 58, 59, 60, 61, 62, 63, 64, 65, 66, 67, 68, 69] (by decide +kernel) (by decide +kernel)
set_option maxRecDepth 20000 in
theorem gX7_init_X0_init : GoodIn wsX7_init (wsX0_init) := ggX7_init_X0_init
set_option maxRecDepth 20000 in
theorem ggX7_init_X6_init : GoodIn wsX7_init wsX6_init := goodIn_r _ [29, 30, 21, 22, 31, 32, 70] (by decide +kernel) (by decide +kernel)
set_option maxRecDepth 20000 in
theorem gX7_init_X6_init_n19 : GoodIn wsX7_init (wsX6_init) := ggX7_init_X6_init
theorem dX7_init_0 : decode cX7_init 0 = .ok (.aload_n 0, 1) := by decide +kernel
theorem dX7_init_1 : decode cX7_init 1 = .ok (.iload_n 1, 1) := by decide +kernel
theorem dX7_init_2 : decode cX7_init 2 = .ok (.aload_n 2, 1) := by decide +kernel
theorem dX7_init_3 : decode cX7_init 3 = .ok (.aload_n 3, 1) := by decide +kernel
theorem dX7_init_4 : decode cX7_init 4 = .ok (.invokestatic 3, 3) := by decide +kernel
theorem dX7_init_7 : decode cX7_init 7 = .ok (.aload_n 2, 1) := by decide +kernel
theorem dX7_init_8 : decode cX7_init 8 = .ok (.getfield 7, 3) := by decide +kernel
theorem dX7_init_11 : decode cX7_init 11 = .ok (.aload_n 3, 1) := by decide +kernel
theorem dX7_init_12 : decode cX7_init 12 = .ok (.getfield 7, 3) := by decide +kernel
theorem dX7_init_15 : decode cX7_init 15 = .ok (.ior, 1) := by decide +kernel
theorem dX7_init_16 : decode cX7_init 16 = .ok (.invokespecial 13, 3) := by decide +kernel
theorem dX7_init_19 : decode cX7_init 19 = .ok (.aload_n 0, 1) := by decide +kernel
theorem dX7_init_20 : decode cX7_init 20 = .ok (.new 17, 3) := by decide +kernel
theorem dX7_init_23 : decode cX7_init 23 = .ok (.dup, 1) := by decide +kernel
theorem dX7_init_24 : decode cX7_init 24 = .ok (.invokespecial 19, 3) := by decide +kernel
theorem dX7_init_27 : decode cX7_init 27 = .ok (.putfield 22, 3) := by decide +kernel
theorem dX7_init_30 : decode cX7_init 30 = .ok (.aload_n 0, 1) := by decide +kernel
theorem dX7_init_31 : decode cX7_init 31 = .ok (.aload_n 2, 1) := by decide +kernel
theorem dX7_init_32 : decode cX7_init 32 = .ok (.putfield 28, 3) := by decide +kernel
theorem dX7_init_35 : decode cX7_init 35 = .ok (.aload_n 0, 1) := by decide +kernel
theorem dX7_init_36 : decode cX7_init 36 = .ok (.aload_n 3, 1) := by decide +kernel
theorem dX7_init_37 : decode cX7_init 37 = .ok (.putfield 32, 3) := by decide +kernel
theorem dX7_init_40 : decode cX7_init 40 = .ok (.return_, 1) := by decide +kernel
set_option maxRecDepth 20000 in
theorem ggX7_gather_X6_join : GoodIn wsX7_gather wsX6_join := goodIn_r _ [10, 11, 12, 13, 14, 15, 16, 17, 18, 19, 20, 9, 21, 71] (by decide +kernel) (by decide +kernel)
set_option maxRecDepth 20000 in
theorem gX7_gather_X6_join : GoodIn wsX7_gather (wsV RX7 39 RX6 yX6_join wsX6_join) := goodIn_app (goodIn_of _ (by decide +kernel)) ggX7_gather_X6_join
set_option maxRecDepth 20000 in
theorem ggX7_gather_X6_keepInner : GoodIn wsX7_gather wsX6_keepInner := goodIn_r _ [25, 11, 26, 27, 28, 29, 30, 31, 32, 9, 33, 18, 19, 20, 21, 71] (by decide +kernel) (by decide +kernel)
set_option maxRecDepth 20000 in
theorem gX7_gather_X6_keepInner : GoodIn wsX7_gather (wsV RX7 43 RX6 yX6_keepInner wsX6_keepInner) := goodIn_app (goodIn_of _ (by decide +kernel)) ggX7_gather_X6_keepInner
theorem dX7_gather_0 : decode cX7_gather 0 = .ok (.aload_n 0, 1) := by decide +kernel
theorem dX7_gather_1 : decode cX7_gather 1 = .ok (.getfield 35, 3) := by decide +kernel
theorem dX7_gather_4 : decode cX7_gather 4 = .ok (.aload_n 0, 1) := by decide +kernel
theorem dX7_gather_5 : decode cX7_gather 5 = .ok (.getfield 28, 3) := by decide +kernel
theorem dX7_gather_8 : decode cX7_gather 8 = .ok (.getfield 38, 3) := by decide +kernel
theorem dX7_gather_11 : decode cX7_gather 11 = .ok (.aload_n 0, 1) := by decide +kernel
theorem dX7_gather_12 : decode cX7_gather 12 = .ok (.getfield 32, 3) := by decide +kernel
theorem dX7_gather_15 : decode cX7_gather 15 = .ok (.getfield 38, 3) := by decide +kernel
theorem dX7_gather_18 : decode cX7_gather 18 = .ok (.bipush 24, 2) := by decide +kernel
theorem dX7_gather_20 : decode cX7_gather 20 = .ok (.invokevirtual 39, 3) := by decide +kernel
theorem dX7_gather_23 : decode cX7_gather 23 = .ok (.aload_n 0, 1) := by decide +kernel
theorem dX7_gather_24 : decode cX7_gather 24 = .ok (.getfield 35, 3) := by decide +kernel
theorem dX7_gather_27 : decode cX7_gather 27 = .ok (.invokevirtual 43, 3) := by decide +kernel
theorem dX7_gather_30 : decode cX7_gather 30 = .ok (.return_, 1) := by decide +kernel
set_option maxRecDepth 20000 in
theorem ggX7_askEach_X6_clear : GoodIn wsX7_askEach wsX6_clear := goodIn_r _ [9, 10, 149] (by decide +kernel) (by decide +kernel)
set_option maxRecDepth 20000 in
theorem gX7_askEach_X6_clear : GoodIn wsX7_askEach (wsV RX7 46 RX6 yX6_clear wsX6_clear) := goodIn_app (goodIn_of _ (by decide +kernel)) ggX7_askEach_X6_clear
set_option maxRecDepth 20000 in
theorem ggX7_askEach_X6_isJoined : GoodIn wsX7_askEach wsX6_isJoined := goodIn_r _ [13, 14, 15, 16, 17, 18, 19, 20, 8, 21, 10, 22, 23, 24, 25, 26, 27, 28, 149] (by decide +kernel) (by decide +kernel)
set_option maxRecDepth 20000 in
theorem gX7_askEach_X6_isJoined : GoodIn wsX7_askEach (va_wsS RX7 57 yX6_isJoined wsX6_isJoined) := goodIn_app (goodIn_of _ (by decide +kernel)) ggX7_askEach_X6_isJoined
set_option maxRecDepth 20000 in
theorem ggX7_askEach_X6_add : GoodIn wsX7_askEach wsX6_add := goodIn_r _ [32, 10, 149] (by decide +kernel) (by decide +kernel)
set_option maxRecDepth 20000 in
theorem gX7_askEach_X6_add : GoodIn wsX7_askEach (wsV RX7 61 RX6 yX6_add wsX6_add) := goodIn_app (goodIn_of _ (by decide +kernel)) ggX7_askEach_X6_add
set_option maxRecDepth 20000 in
theorem ggX7_askEach_X0_askEach : GoodIn wsX7_askEach wsX0_askEach := goodIn_r _ [38, 39, 40, 6, 7, 8, 9, 10, 41, 42, 43, 44, 45, 46, 47, 48, 19, 20, 21, 49, 50, 51, 52, 53, 54, 55, 56, 57, 58, 59, 60, 61, 62, 63, 64, 65, 66, 67, 68, 69, 70, 71, 72, 73, 12, 13, 14, 15, 16, 17, 18, 22, 23, 24, 25, 26, 27, 28, 74, 75, 76, 77, 78, 79, 80, 81, 82, 83, 84, 85, 86, 87, 88, 89, 90, 91, 92, 93, 94, 95, 96, 97, 98, 99, 100, 101, 102, 103, 104, 105, 1, 106, 107, 108, 30, 31, 32, 119, 120, 121, 122, 123, 124, 125, 126, 127, 128, 129, 130, 131, 132, 133, 134, 135, 136, 137, 138, 139, 140, 141, 142, 143, 144, 145, 146, 147, 148, 109, 110, 111, 112, 113, 114, 115, 116, 117, 118, 149] (by decide +kernel) (by decide +kernel)
set_option maxRecDepth 20000 in
theorem gX7_askEach_X0_askEach_s65 : GoodIn wsX7_askEach (va_wsSU RX7 65 yX0_askEach wsX0_askEach) := goodIn_app (goodIn_of _ (by decide +kernel)) ggX7_askEach_X0_askEach
theorem dX7_askEach_0 : decode cX7_askEach 0 = .ok (.aload_n 0, 1) := by decide +kernel
theorem dX7_askEach_1 : decode cX7_askEach 1 = .ok (.getfield 22, 3) := by decide +kernel
theorem dX7_askEach_4 : decode cX7_askEach 4 = .ok (.invokevirtual 46, 3) := by decide +kernel
theorem dX7_askEach_7 : decode cX7_askEach 7 = .ok (.iconst 0, 1) := by decide +kernel
theorem dX7_askEach_8 : decode cX7_askEach 8 = .ok (.istore_n 2, 1) := by decide +kernel
theorem dX7_askEach_9 : decode cX7_askEach 9 = .ok (.iload_n 2, 1) := by decide +kernel
theorem dX7_askEach_10 : decode cX7_askEach 10 = .ok (.aload_n 1, 1) := by decide +kernel
theorem dX7_askEach_11 : decode cX7_askEach 11 = .ok (.getfield 49, 3) := by decide +kernel
theorem dX7_askEach_14 : decode cX7_askEach 14 = .ok (.if_icmp .ge 60, 3) := by decide +kernel
theorem dX7_askEach_17 : decode cX7_askEach 17 = .ok (.iload_n 2, 1) := by decide +kernel
theorem dX7_askEach_18 : decode cX7_askEach 18 = .ok (.iconst 1, 1) := by decide +kernel
theorem dX7_askEach_19 : decode cX7_askEach 19 = .ok (.iadd, 1) := by decide +kernel
theorem dX7_askEach_20 : decode cX7_askEach 20 = .ok (.istore_n 3, 1) := by decide +kernel
theorem dX7_askEach_21 : decode cX7_askEach 21 = .ok (.iload_n 3, 1) := by decide +kernel
theorem dX7_askEach_22 : decode cX7_askEach 22 = .ok (.aload_n 1, 1) := by decide +kernel
theorem dX7_askEach_23 : decode cX7_askEach 23 = .ok (.getfield 49, 3) := by decide +kernel
theorem dX7_askEach_26 : decode cX7_askEach 26 = .ok (.if_icmp .gt 42, 3) := by decide +kernel
theorem dX7_askEach_29 : decode cX7_askEach 29 = .ok (.aload_n 0, 1) := by decide +kernel
theorem dX7_askEach_30 : decode cX7_askEach 30 = .ok (.getfield 28, 3) := by decide +kernel
theorem dX7_askEach_33 : decode cX7_askEach 33 = .ok (.getfield 54, 3) := by decide +kernel
theorem dX7_askEach_36 : decode cX7_askEach 36 = .ok (.aload_n 0, 1) := by decide +kernel
theorem dX7_askEach_37 : decode cX7_askEach 37 = .ok (.getfield 32, 3) := by decide +kernel
theorem dX7_askEach_40 : decode cX7_askEach 40 = .ok (.getfield 54, 3) := by decide +kernel
theorem dX7_askEach_43 : decode cX7_askEach 43 = .ok (.bipush 24, 2) := by decide +kernel
theorem dX7_askEach_45 : decode cX7_askEach 45 = .ok (.iload_n 2, 1) := by decide +kernel
theorem dX7_askEach_46 : decode cX7_askEach 46 = .ok (.iload_n 3, 1) := by decide +kernel
theorem dX7_askEach_47 : decode cX7_askEach 47 = .ok (.invokestatic 57, 3) := by decide +kernel
theorem dX7_askEach_50 : decode cX7_askEach 50 = .ok (.ifCond .eq 12, 3) := by decide +kernel
theorem dX7_askEach_53 : decode cX7_askEach 53 = .ok (.aload_n 0, 1) := by decide +kernel
theorem dX7_askEach_54 : decode cX7_askEach 54 = .ok (.getfield 22, 3) := by decide +kernel
theorem dX7_askEach_57 : decode cX7_askEach 57 = .ok (.iload_n 2, 1) := by decide +kernel
theorem dX7_askEach_58 : decode cX7_askEach 58 = .ok (.iload_n 3, 1) := by decide +kernel
theorem dX7_askEach_59 : decode cX7_askEach 59 = .ok (.invokevirtual 61, 3) := by decide +kernel
theorem dX7_askEach_62 : decode cX7_askEach 62 = .ok (.iinc 3 1, 3) := by decide +kernel
theorem dX7_askEach_65 : decode cX7_askEach 65 = .ok (.goto (-44), 3) := by decide +kernel
theorem dX7_askEach_68 : decode cX7_askEach 68 = .ok (.iinc 2 1, 3) := by decide +kernel
theorem dX7_askEach_71 : decode cX7_askEach 71 = .ok (.goto (-62), 3) := by decide +kernel
theorem dX7_askEach_74 : decode cX7_askEach 74 = .ok (.aload_n 0, 1) := by decide +kernel
theorem dX7_askEach_75 : decode cX7_askEach 75 = .ok (.aload_n 1, 1) := by decide +kernel
theorem dX7_askEach_76 : decode cX7_askEach 76 = .ok (.invokespecial 65, 3) := by decide +kernel
theorem dX7_askEach_79 : decode cX7_askEach 79 = .ok (.return_, 1) := by decide +kernel
set_option maxRecDepth 20000 in
theorem ggX7_isOne_X6_contains : GoodIn wsX7_isOne wsX6_contains := goodIn_r _ [6, 7, 28] (by decide +kernel) (by decide +kernel)
set_option maxRecDepth 20000 in
theorem gX7_isOne_X6_contains : GoodIn wsX7_isOne (wsV RX7 69 RX6 yX6_contains wsX6_contains) := goodIn_app (goodIn_of _ (by decide +kernel)) ggX7_isOne_X6_contains
set_option maxRecDepth 20000 in
theorem ggX7_isOne_X6_countLyingIn : GoodIn wsX7_isOne wsX6_countLyingIn := goodIn_r _ [11, 12, 13, 14, 5, 15, 16, 17, 18, 19, 20, 3, 4, 6, 7, 28] (by decide +kernel) (by decide +kernel)
set_option maxRecDepth 20000 in
theorem gX7_isOne_X6_countLyingIn : GoodIn wsX7_isOne (wsV RX7 73 RX6 yX6_countLyingIn wsX6_countLyingIn) := goodIn_app (goodIn_of _ (by decide +kernel)) ggX7_isOne_X6_countLyingIn
theorem dX7_isOne_0 : decode cX7_isOne 0 = .ok (.aload_n 0, 1) := by decide +kernel
theorem dX7_isOne_1 : decode cX7_isOne 1 = .ok (.getfield 22, 3) := by decide +kernel
theorem dX7_isOne_4 : decode cX7_isOne 4 = .ok (.iload_n 2, 1) := by decide +kernel
theorem dX7_isOne_5 : decode cX7_isOne 5 = .ok (.iload_n 3, 1) := by decide +kernel
theorem dX7_isOne_6 : decode cX7_isOne 6 = .ok (.invokevirtual 69, 3) := by decide +kernel
theorem dX7_isOne_9 : decode cX7_isOne 9 = .ok (.ifCond .eq 20, 3) := by decide +kernel
theorem dX7_isOne_12 : decode cX7_isOne 12 = .ok (.aload_n 0, 1) := by decide +kernel
theorem dX7_isOne_13 : decode cX7_isOne 13 = .ok (.getfield 22, 3) := by decide +kernel
theorem dX7_isOne_16 : decode cX7_isOne 16 = .ok (.iload_n 2, 1) := by decide +kernel
theorem dX7_isOne_17 : decode cX7_isOne 17 = .ok (.iload_n 3, 1) := by decide +kernel
theorem dX7_isOne_18 : decode cX7_isOne 18 = .ok (.invokevirtual 73, 3) := by decide +kernel
theorem dX7_isOne_21 : decode cX7_isOne 21 = .ok (.iconst 1, 1) := by decide +kernel
theorem dX7_isOne_22 : decode cX7_isOne 22 = .ok (.if_icmp .ne 7, 3) := by decide +kernel
theorem dX7_isOne_25 : decode cX7_isOne 25 = .ok (.iconst 1, 1) := by decide +kernel
theorem dX7_isOne_26 : decode cX7_isOne 26 = .ok (.goto 4, 3) := by decide +kernel
theorem dX7_isOne_29 : decode cX7_isOne 29 = .ok (.iconst 0, 1) := by decide +kernel
theorem dX7_isOne_30 : decode cX7_isOne 30 = .ok (.ireturn, 1) := by decide +kernel
set_option maxRecDepth 20000 in
theorem ggX8_init_X6_init : GoodIn wsX8_init wsX6_init := goodIn_r _ [11, 12, 2, 3, 4, 13, 17] (by decide +kernel) (by decide +kernel)
set_option maxRecDepth 20000 in
theorem gX8_init_X6_init_n21 : GoodIn wsX8_init (wsX6_init) := ggX8_init_X6_init
theorem dX8_init_0 : decode cX8_init 0 = .ok (.aload_n 0, 1) := by decide +kernel
theorem dX8_init_1 : decode cX8_init 1 = .ok (.invokespecial 3, 3) := by decide +kernel
theorem dX8_init_4 : decode cX8_init 4 = .ok (.aload_n 0, 1) := by decide +kernel
theorem dX8_init_5 : decode cX8_init 5 = .ok (.bipush 24, 2) := by decide +kernel
theorem dX8_init_7 : decode cX8_init 7 = .ok (.newarray .int, 2) := by decide +kernel
theorem dX8_init_9 : decode cX8_init 9 = .ok (.putfield 9, 3) := by decide +kernel
theorem dX8_init_12 : decode cX8_init 12 = .ok (.aload_n 0, 1) := by decide +kernel
theorem dX8_init_13 : decode cX8_init 13 = .ok (.iconst 4, 1) := by decide +kernel
theorem dX8_init_14 : decode cX8_init 14 = .ok (.anewarray 15, 3) := by decide +kernel
theorem dX8_init_17 : decode cX8_init 17 = .ok (.putfield 17, 3) := by decide +kernel
theorem dX8_init_20 : decode cX8_init 20 = .ok (.iconst 0, 1) := by decide +kernel
theorem dX8_init_21 : decode cX8_init 21 = .ok (.istore_n 1, 1) := by decide +kernel
theorem dX8_init_22 : decode cX8_init 22 = .ok (.iload_n 1, 1) := by decide +kernel
theorem dX8_init_23 : decode cX8_init 23 = .ok (.aload_n 0, 1) := by decide +kernel
theorem dX8_init_24 : decode cX8_init 24 = .ok (.getfield 17, 3) := by decide +kernel
theorem dX8_init_27 : decode cX8_init 27 = .ok (.arraylength, 1) := by decide +kernel
theorem dX8_init_28 : decode cX8_init 28 = .ok (.if_icmp .ge 22, 3) := by decide +kernel
theorem dX8_init_31 : decode cX8_init 31 = .ok (.aload_n 0, 1) := by decide +kernel
theorem dX8_init_32 : decode cX8_init 32 = .ok (.getfield 17, 3) := by decide +kernel
theorem dX8_init_35 : decode cX8_init 35 = .ok (.iload_n 1, 1) := by decide +kernel
theorem dX8_init_36 : decode cX8_init 36 = .ok (.new 15, 3) := by decide +kernel
theorem dX8_init_39 : decode cX8_init 39 = .ok (.dup, 1) := by decide +kernel
theorem dX8_init_40 : decode cX8_init 40 = .ok (.invokespecial 21, 3) := by decide +kernel
theorem dX8_init_43 : decode cX8_init 43 = .ok (.aastore, 1) := by decide +kernel
theorem dX8_init_44 : decode cX8_init 44 = .ok (.iinc 1 1, 3) := by decide +kernel
theorem dX8_init_47 : decode cX8_init 47 = .ok (.goto (-25), 3) := by decide +kernel
theorem dX8_init_50 : decode cX8_init 50 = .ok (.return_, 1) := by decide +kernel
set_option maxRecDepth 20000 in
theorem ggX8_put_X9_isLetter : GoodIn wsX8_put wsX9_isLetter := goodIn_r _ [12] (by decide +kernel) (by decide +kernel)
set_option maxRecDepth 20000 in
theorem gX8_put_X9_isLetter_n33 : GoodIn wsX8_put (wsX9_isLetter) := ggX8_put_X9_isLetter
set_option maxRecDepth 20000 in
theorem ggX8_put_X8_marksOf : GoodIn wsX8_put wsX8_marksOf := goodIn_ca (goodIn_r _ [17, 1, 2, 9, 40, 41, 42] (by decide +kernel) (by decide +kernel)) (goodIn_sub (fun _ h => List.mem_cons_of_mem _ (List.mem_append_left _ (List.mem_append_left _ (List.mem_append_right _ h)))) (by decide +kernel))
set_option maxRecDepth 20000 in
theorem gX8_put_X8_marksOf : GoodIn wsX8_put (wsV RX8 47 RX8 yX8_marksOf wsX8_marksOf) := goodIn_app (goodIn_of _ (by decide +kernel)) ggX8_put_X8_marksOf
set_option maxRecDepth 20000 in
theorem ggX8_put_X6_openAt : GoodIn wsX8_put wsX6_openAt := goodIn_r _ [22, 23, 24, 25, 26, 21, 27, 28, 29, 30, 31, 11, 32, 33, 34, 35, 36, 37, 38, 39, 43] (by decide +kernel) (by decide +kernel)
set_option maxRecDepth 20000 in
theorem gX8_put_X6_openAt : GoodIn wsX8_put (wsV RX8 51 RX6 yX6_openAt wsX6_openAt) := goodIn_app (goodIn_of _ (by decide +kernel)) ggX8_put_X6_openAt
theorem dX8_put_0 : decode cX8_put 0 = .ok (.iload_n 1, 1) := by decide +kernel
theorem dX8_put_1 : decode cX8_put 1 = .ok (.ifCond .lt 11, 3) := by decide +kernel
theorem dX8_put_4 : decode cX8_put 4 = .ok (.iload_n 1, 1) := by decide +kernel
theorem dX8_put_5 : decode cX8_put 5 = .ok (.aload_n 0, 1) := by decide +kernel
theorem dX8_put_6 : decode cX8_put 6 = .ok (.getfield 22, 3) := by decide +kernel
theorem dX8_put_9 : decode cX8_put 9 = .ok (.if_icmp .le 13, 3) := by decide +kernel
theorem dX8_put_12 : decode cX8_put 12 = .ok (.new 26, 3) := by decide +kernel
theorem dX8_put_15 : decode cX8_put 15 = .ok (.dup, 1) := by decide +kernel
theorem dX8_put_16 : decode cX8_put 16 = .ok (.ldc 28, 2) := by decide +kernel
theorem dX8_put_18 : decode cX8_put 18 = .ok (.invokespecial 30, 3) := by decide +kernel
theorem dX8_put_21 : decode cX8_put 21 = .ok (.athrow, 1) := by decide +kernel
theorem dX8_put_22 : decode cX8_put 22 = .ok (.iload_n 2, 1) := by decide +kernel
theorem dX8_put_23 : decode cX8_put 23 = .ok (.invokestatic 33, 3) := by decide +kernel
theorem dX8_put_26 : decode cX8_put 26 = .ok (.ifCond .ne 13, 3) := by decide +kernel
theorem dX8_put_29 : decode cX8_put 29 = .ok (.new 37, 3) := by decide +kernel
theorem dX8_put_32 : decode cX8_put 32 = .ok (.dup, 1) := by decide +kernel
theorem dX8_put_33 : decode cX8_put 33 = .ok (.ldc 39, 2) := by decide +kernel
theorem dX8_put_35 : decode cX8_put 35 = .ok (.invokespecial 41, 3) := by decide +kernel
theorem dX8_put_38 : decode cX8_put 38 = .ok (.athrow, 1) := by decide +kernel
theorem dX8_put_39 : decode cX8_put 39 = .ok (.aload_n 0, 1) := by decide +kernel
theorem dX8_put_40 : decode cX8_put 40 = .ok (.getfield 22, 3) := by decide +kernel
theorem dX8_put_43 : decode cX8_put 43 = .ok (.bipush 24, 2) := by decide +kernel
theorem dX8_put_45 : decode cX8_put 45 = .ok (.if_icmp .lt 13, 3) := by decide +kernel
theorem dX8_put_48 : decode cX8_put 48 = .ok (.new 42, 3) := by decide +kernel
theorem dX8_put_51 : decode cX8_put 51 = .ok (.dup, 1) := by decide +kernel
theorem dX8_put_52 : decode cX8_put 52 = .ok (.ldc 44, 2) := by decide +kernel
theorem dX8_put_54 : decode cX8_put 54 = .ok (.invokespecial 46, 3) := by decide +kernel
theorem dX8_put_57 : decode cX8_put 57 = .ok (.athrow, 1) := by decide +kernel
theorem dX8_put_58 : decode cX8_put 58 = .ok (.aload_n 0, 1) := by decide +kernel
theorem dX8_put_59 : decode cX8_put 59 = .ok (.getfield 22, 3) := by decide +kernel
theorem dX8_put_62 : decode cX8_put 62 = .ok (.istore_n 3, 1) := by decide +kernel
theorem dX8_put_63 : decode cX8_put 63 = .ok (.iload_n 3, 1) := by decide +kernel
theorem dX8_put_64 : decode cX8_put 64 = .ok (.iload_n 1, 1) := by decide +kernel
theorem dX8_put_65 : decode cX8_put 65 = .ok (.if_icmp .le 23, 3) := by decide +kernel
theorem dX8_put_68 : decode cX8_put 68 = .ok (.aload_n 0, 1) := by decide +kernel
theorem dX8_put_69 : decode cX8_put 69 = .ok (.getfield 9, 3) := by decide +kernel
theorem dX8_put_72 : decode cX8_put 72 = .ok (.iload_n 3, 1) := by decide +kernel
theorem dX8_put_73 : decode cX8_put 73 = .ok (.aload_n 0, 1) := by decide +kernel
theorem dX8_put_74 : decode cX8_put 74 = .ok (.getfield 9, 3) := by decide +kernel
theorem dX8_put_77 : decode cX8_put 77 = .ok (.iload_n 3, 1) := by decide +kernel
