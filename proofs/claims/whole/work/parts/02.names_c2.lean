theorem dX6_openAt_6 : decode cX6_openAt 6 = .ok (.isub, 1) := by decide +kernel
theorem dX6_openAt_7 : decode cX6_openAt 7 = .ok (.istore_n 2, 1) := by decide +kernel
theorem dX6_openAt_8 : decode cX6_openAt 8 = .ok (.iload_n 2, 1) := by decide +kernel
theorem dX6_openAt_9 : decode cX6_openAt 9 = .ok (.iload_n 1, 1) := by decide +kernel
theorem dX6_openAt_10 : decode cX6_openAt 10 = .ok (.if_icmp .le 25, 3) := by decide +kernel
theorem dX6_openAt_13 : decode cX6_openAt 13 = .ok (.aload_n 0, 1) := by decide +kernel
theorem dX6_openAt_14 : decode cX6_openAt 14 = .ok (.iload_n 2, 1) := by decide +kernel
theorem dX6_openAt_15 : decode cX6_openAt 15 = .ok (.iload_n 1, 1) := by decide +kernel
theorem dX6_openAt_16 : decode cX6_openAt 16 = .ok (.aload_n 0, 1) := by decide +kernel
theorem dX6_openAt_17 : decode cX6_openAt 17 = .ok (.iload_n 2, 1) := by decide +kernel
theorem dX6_openAt_18 : decode cX6_openAt 18 = .ok (.iconst 1, 1) := by decide +kernel
theorem dX6_openAt_19 : decode cX6_openAt 19 = .ok (.isub, 1) := by decide +kernel
theorem dX6_openAt_20 : decode cX6_openAt 20 = .ok (.invokevirtual 19, 3) := by decide +kernel
theorem dX6_openAt_23 : decode cX6_openAt 23 = .ok (.invokestatic 47, 3) := by decide +kernel
theorem dX6_openAt_26 : decode cX6_openAt 26 = .ok (.invokevirtual 23, 3) := by decide +kernel
theorem dX6_openAt_29 : decode cX6_openAt 29 = .ok (.iinc 2 (-1), 3) := by decide +kernel
theorem dX6_openAt_32 : decode cX6_openAt 32 = .ok (.goto (-24), 3) := by decide +kernel
theorem dX6_openAt_35 : decode cX6_openAt 35 = .ok (.aload_n 0, 1) := by decide +kernel
theorem dX6_openAt_36 : decode cX6_openAt 36 = .ok (.iload_n 1, 1) := by decide +kernel
theorem dX6_openAt_37 : decode cX6_openAt 37 = .ok (.iconst 0, 1) := by decide +kernel
theorem dX6_openAt_38 : decode cX6_openAt 38 = .ok (.invokevirtual 23, 3) := by decide +kernel
theorem dX6_openAt_41 : decode cX6_openAt 41 = .ok (.iconst 0, 1) := by decide +kernel
theorem dX6_openAt_42 : decode cX6_openAt 42 = .ok (.istore_n 2, 1) := by decide +kernel
theorem dX6_openAt_43 : decode cX6_openAt 43 = .ok (.iload_n 2, 1) := by decide +kernel
theorem dX6_openAt_44 : decode cX6_openAt 44 = .ok (.aload_n 0, 1) := by decide +kernel
theorem dX6_openAt_45 : decode cX6_openAt 45 = .ok (.getfield 9, 3) := by decide +kernel
theorem dX6_openAt_48 : decode cX6_openAt 48 = .ok (.arraylength, 1) := by decide +kernel
theorem dX6_openAt_49 : decode cX6_openAt 49 = .ok (.if_icmp .ge 30, 3) := by decide +kernel
theorem dX6_openAt_52 : decode cX6_openAt 52 = .ok (.iload_n 2, 1) := by decide +kernel
theorem dX6_openAt_53 : decode cX6_openAt 53 = .ok (.iload_n 1, 1) := by decide +kernel
theorem dX6_openAt_54 : decode cX6_openAt 54 = .ok (.if_icmp .ge 25, 3) := by decide +kernel
theorem dX6_openAt_57 : decode cX6_openAt 57 = .ok (.aload_n 0, 1) := by decide +kernel
theorem dX6_openAt_58 : decode cX6_openAt 58 = .ok (.getfield 9, 3) := by decide +kernel
theorem dX6_openAt_61 : decode cX6_openAt 61 = .ok (.iload_n 2, 1) := by decide +kernel
theorem dX6_openAt_62 : decode cX6_openAt 62 = .ok (.iload_n 1, 1) := by decide +kernel
theorem dX6_openAt_63 : decode cX6_openAt 63 = .ok (.aload_n 0, 1) := by decide +kernel
theorem dX6_openAt_64 : decode cX6_openAt 64 = .ok (.getfield 9, 3) := by decide +kernel
theorem dX6_openAt_67 : decode cX6_openAt 67 = .ok (.iload_n 2, 1) := by decide +kernel
theorem dX6_openAt_68 : decode cX6_openAt 68 = .ok (.iaload, 1) := by decide +kernel
theorem dX6_openAt_69 : decode cX6_openAt 69 = .ok (.invokestatic 47, 3) := by decide +kernel
theorem dX6_openAt_72 : decode cX6_openAt 72 = .ok (.iastore, 1) := by decide +kernel
theorem dX6_openAt_73 : decode cX6_openAt 73 = .ok (.iinc 2 1, 3) := by decide +kernel
theorem dX6_openAt_76 : decode cX6_openAt 76 = .ok (.goto (-33), 3) := by decide +kernel
theorem dX6_openAt_79 : decode cX6_openAt 79 = .ok (.return_, 1) := by decide +kernel
set_option maxRecDepth 20000 in
theorem ggX6_closeAt_X6_row : GoodIn wsX6_closeAt wsX6_row := goodIn_r _ [6, 1, 16] (by decide +kernel) (by decide +kernel)
set_option maxRecDepth 20000 in
theorem gX6_closeAt_X6_row : GoodIn wsX6_closeAt (wsV RX6 19 RX6 yX6_row wsX6_row) := goodIn_app (goodIn_of _ (by decide +kernel)) ggX6_closeAt_X6_row
set_option maxRecDepth 20000 in
theorem ggX6_closeAt_X6_endsClosedAt : GoodIn wsX6_closeAt wsX6_endsClosedAt := goodIn_r _ [9, 10, 11, 12, 13, 14, 15] (by decide +kernel) (by decide +kernel)
set_option maxRecDepth 20000 in
theorem gX6_closeAt_X6_endsClosedAt : GoodIn wsX6_closeAt (va_wsS RX6 50 yX6_endsClosedAt wsX6_endsClosedAt) := goodIn_app (goodIn_of _ (by decide +kernel)) ggX6_closeAt_X6_endsClosedAt
set_option maxRecDepth 20000 in
theorem ggX6_closeAt_X9_onwardFrom : GoodIn wsX6_closeAt wsX9_onwardFrom := goodIn_r _ [14, 15, 10, 11, 12] (by decide +kernel) (by decide +kernel)
set_option maxRecDepth 20000 in
theorem gX6_closeAt_X9_onwardFrom_n32 : GoodIn wsX6_closeAt (wsX9_onwardFrom) := ggX6_closeAt_X9_onwardFrom
theorem dX6_closeAt_0 : decode cX6_closeAt 0 = .ok (.iconst 0, 1) := by decide +kernel
theorem dX6_closeAt_1 : decode cX6_closeAt 1 = .ok (.istore_n 2, 1) := by decide +kernel
theorem dX6_closeAt_2 : decode cX6_closeAt 2 = .ok (.iload_n 2, 1) := by decide +kernel
theorem dX6_closeAt_3 : decode cX6_closeAt 3 = .ok (.aload_n 0, 1) := by decide +kernel
theorem dX6_closeAt_4 : decode cX6_closeAt 4 = .ok (.getfield 9, 3) := by decide +kernel
theorem dX6_closeAt_7 : decode cX6_closeAt 7 = .ok (.arraylength, 1) := by decide +kernel
theorem dX6_closeAt_8 : decode cX6_closeAt 8 = .ok (.if_icmp .ge 63, 3) := by decide +kernel
theorem dX6_closeAt_11 : decode cX6_closeAt 11 = .ok (.iload_n 2, 1) := by decide +kernel
theorem dX6_closeAt_12 : decode cX6_closeAt 12 = .ok (.iload_n 1, 1) := by decide +kernel
theorem dX6_closeAt_13 : decode cX6_closeAt 13 = .ok (.if_icmp .gt 11, 3) := by decide +kernel
theorem dX6_closeAt_16 : decode cX6_closeAt 16 = .ok (.aload_n 0, 1) := by decide +kernel
theorem dX6_closeAt_17 : decode cX6_closeAt 17 = .ok (.iload_n 2, 1) := by decide +kernel
theorem dX6_closeAt_18 : decode cX6_closeAt 18 = .ok (.invokevirtual 19, 3) := by decide +kernel
theorem dX6_closeAt_21 : decode cX6_closeAt 21 = .ok (.goto 4, 3) := by decide +kernel
theorem dX6_closeAt_24 : decode cX6_closeAt 24 = .ok (.iconst 0, 1) := by decide +kernel
theorem dX6_closeAt_25 : decode cX6_closeAt 25 = .ok (.istore_n 3, 1) := by decide +kernel
theorem dX6_closeAt_26 : decode cX6_closeAt 26 = .ok (.iload_n 2, 1) := by decide +kernel
theorem dX6_closeAt_27 : decode cX6_closeAt 27 = .ok (.iload_n 1, 1) := by decide +kernel
theorem dX6_closeAt_28 : decode cX6_closeAt 28 = .ok (.if_icmp .lt 13, 3) := by decide +kernel
theorem dX6_closeAt_31 : decode cX6_closeAt 31 = .ok (.aload_n 0, 1) := by decide +kernel
theorem dX6_closeAt_32 : decode cX6_closeAt 32 = .ok (.iload_n 2, 1) := by decide +kernel
theorem dX6_closeAt_33 : decode cX6_closeAt 33 = .ok (.iconst 1, 1) := by decide +kernel
theorem dX6_closeAt_34 : decode cX6_closeAt 34 = .ok (.iadd, 1) := by decide +kernel
theorem dX6_closeAt_35 : decode cX6_closeAt 35 = .ok (.invokevirtual 19, 3) := by decide +kernel
theorem dX6_closeAt_38 : decode cX6_closeAt 38 = .ok (.goto 4, 3) := by decide +kernel
theorem dX6_closeAt_41 : decode cX6_closeAt 41 = .ok (.iconst 0, 1) := by decide +kernel
theorem dX6_closeAt_42 : decode cX6_closeAt 42 = .ok (.istore 4, 2) := by decide +kernel
theorem dX6_closeAt_44 : decode cX6_closeAt 44 = .ok (.aload_n 0, 1) := by decide +kernel
theorem dX6_closeAt_45 : decode cX6_closeAt 45 = .ok (.getfield 9, 3) := by decide +kernel
theorem dX6_closeAt_48 : decode cX6_closeAt 48 = .ok (.iload_n 2, 1) := by decide +kernel
theorem dX6_closeAt_49 : decode cX6_closeAt 49 = .ok (.iload_n 1, 1) := by decide +kernel
theorem dX6_closeAt_50 : decode cX6_closeAt 50 = .ok (.iload_n 3, 1) := by decide +kernel
theorem dX6_closeAt_51 : decode cX6_closeAt 51 = .ok (.iload 4, 2) := by decide +kernel
theorem dX6_closeAt_53 : decode cX6_closeAt 53 = .ok (.ior, 1) := by decide +kernel
theorem dX6_closeAt_54 : decode cX6_closeAt 54 = .ok (.invokestatic 50, 3) := by decide +kernel
theorem dX6_closeAt_57 : decode cX6_closeAt 57 = .ok (.iload_n 2, 1) := by decide +kernel
theorem dX6_closeAt_58 : decode cX6_closeAt 58 = .ok (.iconst 1, 1) := by decide +kernel
theorem dX6_closeAt_59 : decode cX6_closeAt 59 = .ok (.iadd, 1) := by decide +kernel
theorem dX6_closeAt_60 : decode cX6_closeAt 60 = .ok (.invokestatic 32, 3) := by decide +kernel
theorem dX6_closeAt_63 : decode cX6_closeAt 63 = .ok (.iand, 1) := by decide +kernel
theorem dX6_closeAt_64 : decode cX6_closeAt 64 = .ok (.iastore, 1) := by decide +kernel
theorem dX6_closeAt_65 : decode cX6_closeAt 65 = .ok (.iinc 2 1, 3) := by decide +kernel
theorem dX6_closeAt_68 : decode cX6_closeAt 68 = .ok (.goto (-66), 3) := by decide +kernel
theorem dX6_closeAt_71 : decode cX6_closeAt 71 = .ok (.return_, 1) := by decide +kernel
set_option maxRecDepth 20000 in
theorem ggX6_endsOpenedAt_X9_upTo : GoodIn wsX6_endsOpenedAt wsX9_upTo := goodIn_r _ [3] (by decide +kernel) (by decide +kernel)
set_option maxRecDepth 20000 in
theorem gX6_endsOpenedAt_X9_upTo_n53 : GoodIn wsX6_endsOpenedAt (wsX9_upTo) := ggX6_endsOpenedAt_X9_upTo
set_option maxRecDepth 20000 in
theorem ggX6_endsOpenedAt_X9_onwardFrom : GoodIn wsX6_endsOpenedAt wsX9_onwardFrom := goodIn_r _ [5, 6, 1, 2, 3] (by decide +kernel) (by decide +kernel)
set_option maxRecDepth 20000 in
theorem gX6_endsOpenedAt_X9_onwardFrom_n32 : GoodIn wsX6_endsOpenedAt (wsX9_onwardFrom) := ggX6_endsOpenedAt_X9_onwardFrom
theorem dX6_endsOpenedAt_0 : decode cX6_endsOpenedAt 0 = .ok (.iload_n 1, 1) := by decide +kernel
theorem dX6_endsOpenedAt_1 : decode cX6_endsOpenedAt 1 = .ok (.iload_n 0, 1) := by decide +kernel
theorem dX6_endsOpenedAt_2 : decode cX6_endsOpenedAt 2 = .ok (.invokestatic 53, 3) := by decide +kernel
theorem dX6_endsOpenedAt_5 : decode cX6_endsOpenedAt 5 = .ok (.iand, 1) := by decide +kernel
theorem dX6_endsOpenedAt_6 : decode cX6_endsOpenedAt 6 = .ok (.iload_n 1, 1) := by decide +kernel
theorem dX6_endsOpenedAt_7 : decode cX6_endsOpenedAt 7 = .ok (.iload_n 0, 1) := by decide +kernel
theorem dX6_endsOpenedAt_8 : decode cX6_endsOpenedAt 8 = .ok (.iconst 1, 1) := by decide +kernel
theorem dX6_endsOpenedAt_9 : decode cX6_endsOpenedAt 9 = .ok (.iadd, 1) := by decide +kernel
theorem dX6_endsOpenedAt_10 : decode cX6_endsOpenedAt 10 = .ok (.invokestatic 32, 3) := by decide +kernel
theorem dX6_endsOpenedAt_13 : decode cX6_endsOpenedAt 13 = .ok (.iand, 1) := by decide +kernel
theorem dX6_endsOpenedAt_14 : decode cX6_endsOpenedAt 14 = .ok (.iconst 1, 1) := by decide +kernel
theorem dX6_endsOpenedAt_15 : decode cX6_endsOpenedAt 15 = .ok (.ishl, 1) := by decide +kernel
theorem dX6_endsOpenedAt_16 : decode cX6_endsOpenedAt 16 = .ok (.ior, 1) := by decide +kernel
theorem dX6_endsOpenedAt_17 : decode cX6_endsOpenedAt 17 = .ok (.ireturn, 1) := by decide +kernel
set_option maxRecDepth 20000 in
theorem ggX6_endsClosedAt_X9_upTo : GoodIn wsX6_endsClosedAt wsX9_upTo := goodIn_r _ [3] (by decide +kernel) (by decide +kernel)
set_option maxRecDepth 20000 in
theorem gX6_endsClosedAt_X9_upTo_n53 : GoodIn wsX6_endsClosedAt (wsX9_upTo) := ggX6_endsClosedAt_X9_upTo
set_option maxRecDepth 20000 in
theorem ggX6_endsClosedAt_X9_onwardFrom : GoodIn wsX6_endsClosedAt wsX9_onwardFrom := goodIn_r _ [5, 6, 1, 2, 3] (by decide +kernel) (by decide +kernel)
set_option maxRecDepth 20000 in
theorem gX6_endsClosedAt_X9_onwardFrom_n32 : GoodIn wsX6_endsClosedAt (wsX9_onwardFrom) := ggX6_endsClosedAt_X9_onwardFrom
theorem dX6_endsClosedAt_0 : decode cX6_endsClosedAt 0 = .ok (.iload_n 1, 1) := by decide +kernel
theorem dX6_endsClosedAt_1 : decode cX6_endsClosedAt 1 = .ok (.iload_n 0, 1) := by decide +kernel
theorem dX6_endsClosedAt_2 : decode cX6_endsClosedAt 2 = .ok (.invokestatic 53, 3) := by decide +kernel
theorem dX6_endsClosedAt_5 : decode cX6_endsClosedAt 5 = .ok (.iand, 1) := by decide +kernel
theorem dX6_endsClosedAt_6 : decode cX6_endsClosedAt 6 = .ok (.iload_n 1, 1) := by decide +kernel
theorem dX6_endsClosedAt_7 : decode cX6_endsClosedAt 7 = .ok (.iload_n 0, 1) := by decide +kernel
theorem dX6_endsClosedAt_8 : decode cX6_endsClosedAt 8 = .ok (.iconst 1, 1) := by decide +kernel
theorem dX6_endsClosedAt_9 : decode cX6_endsClosedAt 9 = .ok (.iadd, 1) := by decide +kernel
theorem dX6_endsClosedAt_10 : decode cX6_endsClosedAt 10 = .ok (.invokestatic 32, 3) := by decide +kernel
theorem dX6_endsClosedAt_13 : decode cX6_endsClosedAt 13 = .ok (.iand, 1) := by decide +kernel
theorem dX6_endsClosedAt_14 : decode cX6_endsClosedAt 14 = .ok (.iconst 1, 1) := by decide +kernel
theorem dX6_endsClosedAt_15 : decode cX6_endsClosedAt 15 = .ok (.iushr, 1) := by decide +kernel
theorem dX6_endsClosedAt_16 : decode cX6_endsClosedAt 16 = .ok (.ior, 1) := by decide +kernel
theorem dX6_endsClosedAt_17 : decode cX6_endsClosedAt 17 = .ok (.ireturn, 1) := by decide +kernel
set_option maxRecDepth 20000 in
theorem ggX6_join_X9_upTo : GoodIn wsX6_join wsX9_upTo := goodIn_r _ [4] (by decide +kernel) (by decide +kernel)
set_option maxRecDepth 20000 in
theorem gX6_join_X9_upTo_n53 : GoodIn wsX6_join (wsX9_upTo) := ggX6_join_X9_upTo
set_option maxRecDepth 20000 in
theorem ggX6_join_X9_onwardFrom : GoodIn wsX6_join wsX9_onwardFrom := goodIn_r _ [6, 7, 2, 3, 4] (by decide +kernel) (by decide +kernel)
set_option maxRecDepth 20000 in
theorem gX6_join_X9_onwardFrom_n32 : GoodIn wsX6_join (wsX9_onwardFrom) := ggX6_join_X9_onwardFrom
set_option maxRecDepth 20000 in
theorem ggX6_join_X6_row : GoodIn wsX6_join wsX6_row := goodIn_r _ [12, 1, 13] (by decide +kernel) (by decide +kernel)
set_option maxRecDepth 20000 in
theorem gX6_join_X6_row : GoodIn wsX6_join (wsV RX6 19 RX6 yX6_row wsX6_row) := goodIn_app (goodIn_of _ (by decide +kernel)) ggX6_join_X6_row
theorem dX6_join_0 : decode cX6_join 0 = .ok (.iconst 0, 1) := by decide +kernel
theorem dX6_join_1 : decode cX6_join 1 = .ok (.istore 4, 2) := by decide +kernel
theorem dX6_join_3 : decode cX6_join 3 = .ok (.iload 4, 2) := by decide +kernel
theorem dX6_join_5 : decode cX6_join 5 = .ok (.aload_n 0, 1) := by decide +kernel
theorem dX6_join_6 : decode cX6_join 6 = .ok (.getfield 9, 3) := by decide +kernel
theorem dX6_join_9 : decode cX6_join 9 = .ok (.arraylength, 1) := by decide +kernel
theorem dX6_join_10 : decode cX6_join 10 = .ok (.if_icmp .ge 82, 3) := by decide +kernel
theorem dX6_join_13 : decode cX6_join 13 = .ok (.aload_n 0, 1) := by decide +kernel
theorem dX6_join_14 : decode cX6_join 14 = .ok (.getfield 9, 3) := by decide +kernel
theorem dX6_join_17 : decode cX6_join 17 = .ok (.iload 4, 2) := by decide +kernel
theorem dX6_join_19 : decode cX6_join 19 = .ok (.iconst 0, 1) := by decide +kernel
theorem dX6_join_20 : decode cX6_join 20 = .ok (.iastore, 1) := by decide +kernel
theorem dX6_join_21 : decode cX6_join 21 = .ok (.iload 4, 2) := by decide +kernel
theorem dX6_join_23 : decode cX6_join 23 = .ok (.iconst 1, 1) := by decide +kernel
theorem dX6_join_24 : decode cX6_join 24 = .ok (.iadd, 1) := by decide +kernel
theorem dX6_join_25 : decode cX6_join 25 = .ok (.istore 5, 2) := by decide +kernel
theorem dX6_join_27 : decode cX6_join 27 = .ok (.iload 5, 2) := by decide +kernel
theorem dX6_join_29 : decode cX6_join 29 = .ok (.aload_n 0, 1) := by decide +kernel
theorem dX6_join_30 : decode cX6_join 30 = .ok (.getfield 9, 3) := by decide +kernel
theorem dX6_join_33 : decode cX6_join 33 = .ok (.arraylength, 1) := by decide +kernel
theorem dX6_join_34 : decode cX6_join 34 = .ok (.if_icmp .ge 52, 3) := by decide +kernel
theorem dX6_join_37 : decode cX6_join 37 = .ok (.iload 5, 2) := by decide +kernel
theorem dX6_join_39 : decode cX6_join 39 = .ok (.invokestatic 53, 3) := by decide +kernel
theorem dX6_join_42 : decode cX6_join 42 = .ok (.iload 5, 2) := by decide +kernel
theorem dX6_join_44 : decode cX6_join 44 = .ok (.iload_n 3, 1) := by decide +kernel
theorem dX6_join_45 : decode cX6_join 45 = .ok (.isub, 1) := by decide +kernel
theorem dX6_join_46 : decode cX6_join 46 = .ok (.invokestatic 32, 3) := by decide +kernel
theorem dX6_join_49 : decode cX6_join 49 = .ok (.iand, 1) := by decide +kernel
theorem dX6_join_50 : decode cX6_join 50 = .ok (.istore 6, 2) := by decide +kernel
theorem dX6_join_52 : decode cX6_join 52 = .ok (.aload_n 1, 1) := by decide +kernel
theorem dX6_join_53 : decode cX6_join 53 = .ok (.iload 4, 2) := by decide +kernel
theorem dX6_join_55 : decode cX6_join 55 = .ok (.invokevirtual 19, 3) := by decide +kernel
theorem dX6_join_58 : decode cX6_join 58 = .ok (.iload 6, 2) := by decide +kernel
theorem dX6_join_60 : decode cX6_join 60 = .ok (.iand, 1) := by decide +kernel
theorem dX6_join_61 : decode cX6_join 61 = .ok (.ifCond .eq 19, 3) := by decide +kernel
theorem dX6_join_64 : decode cX6_join 64 = .ok (.aload_n 0, 1) := by decide +kernel
theorem dX6_join_65 : decode cX6_join 65 = .ok (.getfield 9, 3) := by decide +kernel
theorem dX6_join_68 : decode cX6_join 68 = .ok (.iload 4, 2) := by decide +kernel
theorem dX6_join_70 : decode cX6_join 70 = .ok (.dup2, 1) := by decide +kernel
theorem dX6_join_71 : decode cX6_join 71 = .ok (.iaload, 1) := by decide +kernel
theorem dX6_join_72 : decode cX6_join 72 = .ok (.aload_n 2, 1) := by decide +kernel
theorem dX6_join_73 : decode cX6_join 73 = .ok (.iload 5, 2) := by decide +kernel
theorem dX6_join_75 : decode cX6_join 75 = .ok (.invokevirtual 19, 3) := by decide +kernel
theorem dX6_join_78 : decode cX6_join 78 = .ok (.ior, 1) := by decide +kernel
theorem dX6_join_79 : decode cX6_join 79 = .ok (.iastore, 1) := by decide +kernel
theorem dX6_join_80 : decode cX6_join 80 = .ok (.iinc 5 1, 3) := by decide +kernel
theorem dX6_join_83 : decode cX6_join 83 = .ok (.goto (-56), 3) := by decide +kernel
theorem dX6_join_86 : decode cX6_join 86 = .ok (.iinc 4 1, 3) := by decide +kernel
theorem dX6_join_89 : decode cX6_join 89 = .ok (.goto (-86), 3) := by decide +kernel
theorem dX6_join_92 : decode cX6_join 92 = .ok (.return_, 1) := by decide +kernel
set_option maxRecDepth 20000 in
theorem ggX6_keepInner_X6_lowestEnd : GoodIn wsX6_keepInner wsX6_lowestEnd := goodIn_r _ [10, 11, 12, 13, 9, 14, 1, 15] (by decide +kernel) (by decide +kernel)
set_option maxRecDepth 20000 in
theorem gX6_keepInner_X6_lowestEnd : GoodIn wsX6_keepInner (wsV RX6 56 RX6 yX6_lowestEnd wsX6_lowestEnd) := goodIn_app (goodIn_of _ (by decide +kernel)) ggX6_keepInner_X6_lowestEnd
theorem dX6_keepInner_0 : decode cX6_keepInner 0 = .ok (.bipush 25, 2) := by decide +kernel
theorem dX6_keepInner_2 : decode cX6_keepInner 2 = .ok (.istore_n 1, 1) := by decide +kernel
theorem dX6_keepInner_3 : decode cX6_keepInner 3 = .ok (.aload_n 0, 1) := by decide +kernel
theorem dX6_keepInner_4 : decode cX6_keepInner 4 = .ok (.getfield 9, 3) := by decide +kernel
theorem dX6_keepInner_7 : decode cX6_keepInner 7 = .ok (.arraylength, 1) := by decide +kernel
theorem dX6_keepInner_8 : decode cX6_keepInner 8 = .ok (.iconst 1, 1) := by decide +kernel
theorem dX6_keepInner_9 : decode cX6_keepInner 9 = .ok (.isub, 1) := by decide +kernel
theorem dX6_keepInner_10 : decode cX6_keepInner 10 = .ok (.istore_n 2, 1) := by decide +kernel
theorem dX6_keepInner_11 : decode cX6_keepInner 11 = .ok (.iload_n 2, 1) := by decide +kernel
theorem dX6_keepInner_12 : decode cX6_keepInner 12 = .ok (.ifCond .lt 39, 3) := by decide +kernel
theorem dX6_keepInner_15 : decode cX6_keepInner 15 = .ok (.aload_n 0, 1) := by decide +kernel
theorem dX6_keepInner_16 : decode cX6_keepInner 16 = .ok (.iload_n 2, 1) := by decide +kernel
theorem dX6_keepInner_17 : decode cX6_keepInner 17 = .ok (.invokevirtual 56, 3) := by decide +kernel
theorem dX6_keepInner_20 : decode cX6_keepInner 20 = .ok (.istore_n 3, 1) := by decide +kernel
theorem dX6_keepInner_21 : decode cX6_keepInner 21 = .ok (.aload_n 0, 1) := by decide +kernel
theorem dX6_keepInner_22 : decode cX6_keepInner 22 = .ok (.getfield 9, 3) := by decide +kernel
theorem dX6_keepInner_25 : decode cX6_keepInner 25 = .ok (.iload_n 2, 1) := by decide +kernel
theorem dX6_keepInner_26 : decode cX6_keepInner 26 = .ok (.iload_n 3, 1) := by decide +kernel
theorem dX6_keepInner_27 : decode cX6_keepInner 27 = .ok (.iload_n 1, 1) := by decide +kernel
theorem dX6_keepInner_28 : decode cX6_keepInner 28 = .ok (.if_icmp .ge 9, 3) := by decide +kernel
theorem dX6_keepInner_31 : decode cX6_keepInner 31 = .ok (.iconst 1, 1) := by decide +kernel
theorem dX6_keepInner_32 : decode cX6_keepInner 32 = .ok (.iload_n 3, 1) := by decide +kernel
theorem dX6_keepInner_33 : decode cX6_keepInner 33 = .ok (.ishl, 1) := by decide +kernel
theorem dX6_keepInner_34 : decode cX6_keepInner 34 = .ok (.goto 4, 3) := by decide +kernel
theorem dX6_keepInner_37 : decode cX6_keepInner 37 = .ok (.iconst 0, 1) := by decide +kernel
theorem dX6_keepInner_38 : decode cX6_keepInner 38 = .ok (.iastore, 1) := by decide +kernel
theorem dX6_keepInner_39 : decode cX6_keepInner 39 = .ok (.iload_n 1, 1) := by decide +kernel
theorem dX6_keepInner_40 : decode cX6_keepInner 40 = .ok (.iload_n 3, 1) := by decide +kernel
theorem dX6_keepInner_41 : decode cX6_keepInner 41 = .ok (.invokestatic 59, 3) := by decide +kernel
theorem dX6_keepInner_44 : decode cX6_keepInner 44 = .ok (.istore_n 1, 1) := by decide +kernel
theorem dX6_keepInner_45 : decode cX6_keepInner 45 = .ok (.iinc 2 (-1), 3) := by decide +kernel
theorem dX6_keepInner_48 : decode cX6_keepInner 48 = .ok (.goto (-37), 3) := by decide +kernel
theorem dX6_keepInner_51 : decode cX6_keepInner 51 = .ok (.return_, 1) := by decide +kernel
set_option maxRecDepth 20000 in
theorem ggX6_keepOuter_X6_highestEnd : GoodIn wsX6_keepOuter wsX6_highestEnd := goodIn_r _ [10, 11, 12, 13, 9, 14, 1, 15] (by decide +kernel) (by decide +kernel)
set_option maxRecDepth 20000 in
theorem gX6_keepOuter_X6_highestEnd : GoodIn wsX6_keepOuter (wsV RX6 44 RX6 yX6_highestEnd wsX6_highestEnd) := goodIn_app (goodIn_of _ (by decide +kernel)) ggX6_keepOuter_X6_highestEnd
theorem dX6_keepOuter_0 : decode cX6_keepOuter 0 = .ok (.iconst 0, 1) := by decide +kernel
theorem dX6_keepOuter_1 : decode cX6_keepOuter 1 = .ok (.istore_n 1, 1) := by decide +kernel
theorem dX6_keepOuter_2 : decode cX6_keepOuter 2 = .ok (.iconst 0, 1) := by decide +kernel
theorem dX6_keepOuter_3 : decode cX6_keepOuter 3 = .ok (.istore_n 2, 1) := by decide +kernel
theorem dX6_keepOuter_4 : decode cX6_keepOuter 4 = .ok (.iload_n 2, 1) := by decide +kernel
theorem dX6_keepOuter_5 : decode cX6_keepOuter 5 = .ok (.aload_n 0, 1) := by decide +kernel
theorem dX6_keepOuter_6 : decode cX6_keepOuter 6 = .ok (.getfield 9, 3) := by decide +kernel
theorem dX6_keepOuter_9 : decode cX6_keepOuter 9 = .ok (.arraylength, 1) := by decide +kernel
theorem dX6_keepOuter_10 : decode cX6_keepOuter 10 = .ok (.if_icmp .ge 39, 3) := by decide +kernel
theorem dX6_keepOuter_13 : decode cX6_keepOuter 13 = .ok (.aload_n 0, 1) := by decide +kernel
theorem dX6_keepOuter_14 : decode cX6_keepOuter 14 = .ok (.iload_n 2, 1) := by decide +kernel
theorem dX6_keepOuter_15 : decode cX6_keepOuter 15 = .ok (.invokevirtual 44, 3) := by decide +kernel
theorem dX6_keepOuter_18 : decode cX6_keepOuter 18 = .ok (.istore_n 3, 1) := by decide +kernel
theorem dX6_keepOuter_19 : decode cX6_keepOuter 19 = .ok (.aload_n 0, 1) := by decide +kernel
theorem dX6_keepOuter_20 : decode cX6_keepOuter 20 = .ok (.getfield 9, 3) := by decide +kernel
theorem dX6_keepOuter_23 : decode cX6_keepOuter 23 = .ok (.iload_n 2, 1) := by decide +kernel
theorem dX6_keepOuter_24 : decode cX6_keepOuter 24 = .ok (.iload_n 3, 1) := by decide +kernel
theorem dX6_keepOuter_25 : decode cX6_keepOuter 25 = .ok (.iload_n 1, 1) := by decide +kernel
theorem dX6_keepOuter_26 : decode cX6_keepOuter 26 = .ok (.if_icmp .le 9, 3) := by decide +kernel
theorem dX6_keepOuter_29 : decode cX6_keepOuter 29 = .ok (.iconst 1, 1) := by decide +kernel
theorem dX6_keepOuter_30 : decode cX6_keepOuter 30 = .ok (.iload_n 3, 1) := by decide +kernel
theorem dX6_keepOuter_31 : decode cX6_keepOuter 31 = .ok (.ishl, 1) := by decide +kernel
theorem dX6_keepOuter_32 : decode cX6_keepOuter 32 = .ok (.goto 4, 3) := by decide +kernel
theorem dX6_keepOuter_35 : decode cX6_keepOuter 35 = .ok (.iconst 0, 1) := by decide +kernel
theorem dX6_keepOuter_36 : decode cX6_keepOuter 36 = .ok (.iastore, 1) := by decide +kernel
theorem dX6_keepOuter_37 : decode cX6_keepOuter 37 = .ok (.iload_n 1, 1) := by decide +kernel
theorem dX6_keepOuter_38 : decode cX6_keepOuter 38 = .ok (.iload_n 3, 1) := by decide +kernel
theorem dX6_keepOuter_39 : decode cX6_keepOuter 39 = .ok (.invokestatic 38, 3) := by decide +kernel
theorem dX6_keepOuter_42 : decode cX6_keepOuter 42 = .ok (.istore_n 1, 1) := by decide +kernel
theorem dX6_keepOuter_43 : decode cX6_keepOuter 43 = .ok (.iinc 2 1, 3) := by decide +kernel
theorem dX6_keepOuter_46 : decode cX6_keepOuter 46 = .ok (.goto (-42), 3) := by decide +kernel
theorem dX6_keepOuter_49 : decode cX6_keepOuter 49 = .ok (.return_, 1) := by decide +kernel
set_option maxRecDepth 20000 in
theorem ggX6_countWithin_X6_contains : GoodIn wsX6_countWithin wsX6_contains := goodIn_r _ [9, 10, 11] (by decide +kernel) (by decide +kernel)
set_option maxRecDepth 20000 in
theorem gX6_countWithin_X6_contains : GoodIn wsX6_countWithin (wsV RX6 15 RX6 yX6_contains wsX6_contains) := goodIn_app (goodIn_of _ (by decide +kernel)) ggX6_countWithin_X6_contains
theorem dX6_countWithin_0 : decode cX6_countWithin 0 = .ok (.iconst 0, 1) := by decide +kernel
theorem dX6_countWithin_1 : decode cX6_countWithin 1 = .ok (.istore 5, 2) := by decide +kernel
theorem dX6_countWithin_3 : decode cX6_countWithin 3 = .ok (.iload_n 1, 1) := by decide +kernel
theorem dX6_countWithin_4 : decode cX6_countWithin 4 = .ok (.istore 6, 2) := by decide +kernel
theorem dX6_countWithin_6 : decode cX6_countWithin 6 = .ok (.iload 6, 2) := by decide +kernel
theorem dX6_countWithin_8 : decode cX6_countWithin 8 = .ok (.iload_n 2, 1) := by decide +kernel
theorem dX6_countWithin_9 : decode cX6_countWithin 9 = .ok (.if_icmp .gt 46, 3) := by decide +kernel
theorem dX6_countWithin_12 : decode cX6_countWithin 12 = .ok (.iload_n 3, 1) := by decide +kernel
theorem dX6_countWithin_13 : decode cX6_countWithin 13 = .ok (.iload 6, 2) := by decide +kernel
theorem dX6_countWithin_15 : decode cX6_countWithin 15 = .ok (.iconst 1, 1) := by decide +kernel
theorem dX6_countWithin_16 : decode cX6_countWithin 16 = .ok (.iadd, 1) := by decide +kernel
theorem dX6_countWithin_17 : decode cX6_countWithin 17 = .ok (.invokestatic 38, 3) := by decide +kernel
theorem dX6_countWithin_20 : decode cX6_countWithin 20 = .ok (.istore 7, 2) := by decide +kernel
theorem dX6_countWithin_22 : decode cX6_countWithin 22 = .ok (.iload 7, 2) := by decide +kernel
theorem dX6_countWithin_24 : decode cX6_countWithin 24 = .ok (.iload 4, 2) := by decide +kernel
theorem dX6_countWithin_26 : decode cX6_countWithin 26 = .ok (.if_icmp .gt 23, 3) := by decide +kernel
theorem dX6_countWithin_29 : decode cX6_countWithin 29 = .ok (.aload_n 0, 1) := by decide +kernel
theorem dX6_countWithin_30 : decode cX6_countWithin 30 = .ok (.iload 6, 2) := by decide +kernel
theorem dX6_countWithin_32 : decode cX6_countWithin 32 = .ok (.iload 7, 2) := by decide +kernel
theorem dX6_countWithin_34 : decode cX6_countWithin 34 = .ok (.invokevirtual 15, 3) := by decide +kernel
theorem dX6_countWithin_37 : decode cX6_countWithin 37 = .ok (.ifCond .eq 6, 3) := by decide +kernel
theorem dX6_countWithin_40 : decode cX6_countWithin 40 = .ok (.iinc 5 1, 3) := by decide +kernel
theorem dX6_countWithin_43 : decode cX6_countWithin 43 = .ok (.iinc 7 1, 3) := by decide +kernel
theorem dX6_countWithin_46 : decode cX6_countWithin 46 = .ok (.goto (-24), 3) := by decide +kernel
theorem dX6_countWithin_49 : decode cX6_countWithin 49 = .ok (.iinc 6 1, 3) := by decide +kernel
theorem dX6_countWithin_52 : decode cX6_countWithin 52 = .ok (.goto (-46), 3) := by decide +kernel
theorem dX6_countWithin_55 : decode cX6_countWithin 55 = .ok (.iload 5, 2) := by decide +kernel
theorem dX6_countWithin_57 : decode cX6_countWithin 57 = .ok (.ireturn, 1) := by decide +kernel
set_option maxRecDepth 20000 in
theorem ggX6_countLyingIn_X6_countWithin : GoodIn wsX6_countLyingIn wsX6_countWithin := goodIn_r _ [5, 6, 7, 8, 9, 10, 11, 12, 4, 13, 14, 15] (by decide +kernel) (by decide +kernel)
set_option maxRecDepth 20000 in
theorem gX6_countLyingIn_X6_countWithin : GoodIn wsX6_countLyingIn (wsV RX6 62 RX6 yX6_countWithin wsX6_countWithin) := goodIn_app (goodIn_of _ (by decide +kernel)) ggX6_countLyingIn_X6_countWithin
theorem dX6_countLyingIn_0 : decode cX6_countLyingIn 0 = .ok (.aload_n 0, 1) := by decide +kernel
theorem dX6_countLyingIn_1 : decode cX6_countLyingIn 1 = .ok (.iload_n 1, 1) := by decide +kernel
theorem dX6_countLyingIn_2 : decode cX6_countLyingIn 2 = .ok (.iload_n 2, 1) := by decide +kernel
theorem dX6_countLyingIn_3 : decode cX6_countLyingIn 3 = .ok (.iconst 1, 1) := by decide +kernel
theorem dX6_countLyingIn_4 : decode cX6_countLyingIn 4 = .ok (.isub, 1) := by decide +kernel
theorem dX6_countLyingIn_5 : decode cX6_countLyingIn 5 = .ok (.iload_n 1, 1) := by decide +kernel
theorem dX6_countLyingIn_6 : decode cX6_countLyingIn 6 = .ok (.iconst 1, 1) := by decide +kernel
theorem dX6_countLyingIn_7 : decode cX6_countLyingIn 7 = .ok (.iadd, 1) := by decide +kernel
theorem dX6_countLyingIn_8 : decode cX6_countLyingIn 8 = .ok (.iload_n 2, 1) := by decide +kernel
theorem dX6_countLyingIn_9 : decode cX6_countLyingIn 9 = .ok (.invokevirtual 62, 3) := by decide +kernel
theorem dX6_countLyingIn_12 : decode cX6_countLyingIn 12 = .ok (.ireturn, 1) := by decide +kernel
set_option maxRecDepth 20000 in
theorem ggX6_countLyingRound_X6_countWithin : GoodIn wsX6_countLyingRound wsX6_countWithin := goodIn_r _ [5, 6, 7, 8, 9, 10, 11, 12, 4, 13, 14, 15] (by decide +kernel) (by decide +kernel)
set_option maxRecDepth 20000 in
theorem gX6_countLyingRound_X6_countWithin : GoodIn wsX6_countLyingRound (wsV RX6 62 RX6 yX6_countWithin wsX6_countWithin) := goodIn_app (goodIn_of _ (by decide +kernel)) ggX6_countLyingRound_X6_countWithin
theorem dX6_countLyingRound_0 : decode cX6_countLyingRound 0 = .ok (.aload_n 0, 1) := by decide +kernel
theorem dX6_countLyingRound_1 : decode cX6_countLyingRound 1 = .ok (.iconst 0, 1) := by decide +kernel
theorem dX6_countLyingRound_2 : decode cX6_countLyingRound 2 = .ok (.iload_n 1, 1) := by decide +kernel
theorem dX6_countLyingRound_3 : decode cX6_countLyingRound 3 = .ok (.iload_n 2, 1) := by decide +kernel
theorem dX6_countLyingRound_4 : decode cX6_countLyingRound 4 = .ok (.bipush 24, 2) := by decide +kernel
theorem dX6_countLyingRound_6 : decode cX6_countLyingRound 6 = .ok (.invokevirtual 62, 3) := by decide +kernel
theorem dX6_countLyingRound_9 : decode cX6_countLyingRound 9 = .ok (.ireturn, 1) := by decide +kernel
set_option maxRecDepth 20000 in
theorem ggX6_isJoined_X6_contains : GoodIn wsX6_isJoined wsX6_contains := goodIn_r _ [9, 10, 18] (by decide +kernel) (by decide +kernel)
set_option maxRecDepth 20000 in
theorem gX6_isJoined_X6_contains : GoodIn wsX6_isJoined (wsV RX6 15 RX6 yX6_contains wsX6_contains) := goodIn_app (goodIn_of _ (by decide +kernel)) ggX6_isJoined_X6_contains
set_option maxRecDepth 20000 in
theorem ggX6_isJoined_X6_countWithin : GoodIn wsX6_isJoined wsX6_countWithin := goodIn_r _ [14, 15, 16, 3, 17, 5, 6, 7, 8, 9, 10, 18] (by decide +kernel) (by decide +kernel)
set_option maxRecDepth 20000 in
theorem gX6_isJoined_X6_countWithin : GoodIn wsX6_isJoined (wsV RX6 62 RX6 yX6_countWithin wsX6_countWithin) := goodIn_app (goodIn_of _ (by decide +kernel)) ggX6_isJoined_X6_countWithin
theorem dX6_isJoined_0 : decode cX6_isJoined 0 = .ok (.iload_n 3, 1) := by decide +kernel
theorem dX6_isJoined_1 : decode cX6_isJoined 1 = .ok (.iconst 1, 1) := by decide +kernel
theorem dX6_isJoined_2 : decode cX6_isJoined 2 = .ok (.iadd, 1) := by decide +kernel
theorem dX6_isJoined_3 : decode cX6_isJoined 3 = .ok (.istore 5, 2) := by decide +kernel
theorem dX6_isJoined_5 : decode cX6_isJoined 5 = .ok (.iload 5, 2) := by decide +kernel
theorem dX6_isJoined_7 : decode cX6_isJoined 7 = .ok (.iload 4, 2) := by decide +kernel
theorem dX6_isJoined_9 : decode cX6_isJoined 9 = .ok (.if_icmp .ge 49, 3) := by decide +kernel
theorem dX6_isJoined_12 : decode cX6_isJoined 12 = .ok (.iload 5, 2) := by decide +kernel
theorem dX6_isJoined_14 : decode cX6_isJoined 14 = .ok (.iload_n 2, 1) := by decide +kernel
theorem dX6_isJoined_15 : decode cX6_isJoined 15 = .ok (.iadd, 1) := by decide +kernel
theorem dX6_isJoined_16 : decode cX6_isJoined 16 = .ok (.iload 4, 2) := by decide +kernel
theorem dX6_isJoined_18 : decode cX6_isJoined 18 = .ok (.iconst 1, 1) := by decide +kernel
theorem dX6_isJoined_19 : decode cX6_isJoined 19 = .ok (.isub, 1) := by decide +kernel
theorem dX6_isJoined_20 : decode cX6_isJoined 20 = .ok (.invokestatic 59, 3) := by decide +kernel
theorem dX6_isJoined_23 : decode cX6_isJoined 23 = .ok (.istore 6, 2) := by decide +kernel
theorem dX6_isJoined_25 : decode cX6_isJoined 25 = .ok (.aload_n 0, 1) := by decide +kernel
theorem dX6_isJoined_26 : decode cX6_isJoined 26 = .ok (.iload_n 3, 1) := by decide +kernel
theorem dX6_isJoined_27 : decode cX6_isJoined 27 = .ok (.iload 5, 2) := by decide +kernel
theorem dX6_isJoined_29 : decode cX6_isJoined 29 = .ok (.invokevirtual 15, 3) := by decide +kernel
theorem dX6_isJoined_32 : decode cX6_isJoined 32 = .ok (.ifCond .eq 20, 3) := by decide +kernel
theorem dX6_isJoined_35 : decode cX6_isJoined 35 = .ok (.aload_n 1, 1) := by decide +kernel
theorem dX6_isJoined_36 : decode cX6_isJoined 36 = .ok (.iload 5, 2) := by decide +kernel
theorem dX6_isJoined_38 : decode cX6_isJoined 38 = .ok (.iload 6, 2) := by decide +kernel
theorem dX6_isJoined_40 : decode cX6_isJoined 40 = .ok (.iload 4, 2) := by decide +kernel
theorem dX6_isJoined_42 : decode cX6_isJoined 42 = .ok (.iload 4, 2) := by decide +kernel
theorem dX6_isJoined_44 : decode cX6_isJoined 44 = .ok (.invokevirtual 62, 3) := by decide +kernel
theorem dX6_isJoined_47 : decode cX6_isJoined 47 = .ok (.ifCond .le 5, 3) := by decide +kernel
theorem dX6_isJoined_50 : decode cX6_isJoined 50 = .ok (.iconst 1, 1) := by decide +kernel
theorem dX6_isJoined_51 : decode cX6_isJoined 51 = .ok (.ireturn, 1) := by decide +kernel
theorem dX6_isJoined_52 : decode cX6_isJoined 52 = .ok (.iinc 5 1, 3) := by decide +kernel
theorem dX6_isJoined_55 : decode cX6_isJoined 55 = .ok (.goto (-50), 3) := by decide +kernel
theorem dX6_isJoined_58 : decode cX6_isJoined 58 = .ok (.iconst 0, 1) := by decide +kernel
theorem dX6_isJoined_59 : decode cX6_isJoined 59 = .ok (.ireturn, 1) := by decide +kernel
set_option maxRecDepth 20000 in
theorem ggX7_init_X9_depthAbove : GoodIn wsX7_init wsX9_depthAbove := goodIn_r _ [10, 11, 12, 13, 14, 15, 33, 34, 35, 36, 37, 38, 39, 40, 41, 42, 43, 44, 45, 46, 47, 48, 49, 50, 51, 52, 53, 54, 55, 56, 57, 58, 59, 60, 61, 62, 63, 64, 65, 66, 67, 68, 69] (by decide +kernel) (by decide +kernel)
set_option maxRecDepth 20000 in
theorem gX7_init_X9_depthAbove_n3 : GoodIn wsX7_init (wsX9_depthAbove) := ggX7_init_X9_depthAbove
set_option maxRecDepth 20000 in
theorem ggX7_init_X0_init : GoodIn wsX7_init wsX0_init := goodIn_r _ [19, 20, 21, 22, 23, 3, 4, 24, 25, 26, 27, 28, 29, 30, 31, 32, 70, 33, 34, 35, 36, 37, 38, 39, 40, 41, 42, 43, 44, 45, 46, 47, 48, 49, 50, 51, 52, 53, 54, 55, 56, 57, 58, 59, 60, 61, 62, 63, 64, 65, 66, 67, 68, 69] (by decide +kernel) (by decide +kernel)
set_option maxRecDepth 20000 in
theorem gX7_init_X0_init : GoodIn wsX7_init (wsX0_init) := ggX7_init_X0_init
set_option maxRecDepth 20000 in
theorem ggX7_init_X6_init : GoodIn wsX7_init wsX6_init := goodIn_r _ [29, 30, 21, 22, 31, 32, 70] (by decide +kernel) (by decide +kernel)
set_option maxRecDepth 20000 in
theorem gX7_init_X6_init_n19 : GoodIn wsX7_init (wsX6_init) := ggX7_init_X6_init
theorem dX7_init_0 : decode cX7_init 0 = .ok (.aload_n 0, 1) := by decide +kernel
theorem dX7_init_1 : decode cX7_init 1 = .ok (.iload_n 1, 1) := by decide +kernel
theorem dX7_init_2 : decode cX7_init 2 = .ok (.aload_n 2, 1) := by decide +kernel
theorem dX7_init_3 : decode cX7_init 3 = .ok (.aload_n 3, 1) := by decide +kernel
theorem dX7_init_4 : decode cX7_init 4 = .ok (.invokestatic 3, 3) := by decide +kernel
theorem dX7_init_7 : decode cX7_init 7 = .ok (.aload_n 2, 1) := by decide +kernel
theorem dX7_init_8 : decode cX7_init 8 = .ok (.getfield 7, 3) := by decide +kernel
theorem dX7_init_11 : decode cX7_init 11 = .ok (.aload_n 3, 1) := by decide +kernel
theorem dX7_init_12 : decode cX7_init 12 = .ok (.getfield 7, 3) := by decide +kernel
theorem dX7_init_15 : decode cX7_init 15 = .ok (.ior, 1) := by decide +kernel
theorem dX7_init_16 : decode cX7_init 16 = .ok (.invokespecial 13, 3) := by decide +kernel
theorem dX7_init_19 : decode cX7_init 19 = .ok (.aload_n 0, 1) := by decide +kernel
theorem dX7_init_20 : decode cX7_init 20 = .ok (.new 17, 3) := by decide +kernel
theorem dX7_init_23 : decode cX7_init 23 = .ok (.dup, 1) := by decide +kernel
theorem dX7_init_24 : decode cX7_init 24 = .ok (.invokespecial 19, 3) := by decide +kernel
theorem dX7_init_27 : decode cX7_init 27 = .ok (.putfield 22, 3) := by decide +kernel
theorem dX7_init_30 : decode cX7_init 30 = .ok (.aload_n 0, 1) := by decide +kernel
theorem dX7_init_31 : decode cX7_init 31 = .ok (.aload_n 2, 1) := by decide +kernel
theorem dX7_init_32 : decode cX7_init 32 = .ok (.putfield 28, 3) := by decide +kernel
theorem dX7_init_35 : decode cX7_init 35 = .ok (.aload_n 0, 1) := by decide +kernel
theorem dX7_init_36 : decode cX7_init 36 = .ok (.aload_n 3, 1) := by decide +kernel
theorem dX7_init_37 : decode cX7_init 37 = .ok (.putfield 32, 3) := by decide +kernel
theorem dX7_init_40 : decode cX7_init 40 = .ok (.return_, 1) := by decide +kernel
set_option maxRecDepth 20000 in
theorem ggX7_gather_X6_join : GoodIn wsX7_gather wsX6_join := goodIn_r _ [10, 11, 12, 13, 14, 15, 16, 17, 18, 19, 20, 9, 21, 71] (by decide +kernel) (by decide +kernel)
set_option maxRecDepth 20000 in
theorem gX7_gather_X6_join : GoodIn wsX7_gather (wsV RX7 39 RX6 yX6_join wsX6_join) := goodIn_app (goodIn_of _ (by decide +kernel)) ggX7_gather_X6_join
set_option maxRecDepth 20000 in
theorem ggX7_gather_X6_keepInner : GoodIn wsX7_gather wsX6_keepInner := goodIn_r _ [25, 11, 26, 27, 28, 29, 30, 31, 32, 9, 33, 18, 19, 20, 21, 71] (by decide +kernel) (by decide +kernel)
set_option maxRecDepth 20000 in
theorem gX7_gather_X6_keepInner : GoodIn wsX7_gather (wsV RX7 43 RX6 yX6_keepInner wsX6_keepInner) := goodIn_app (goodIn_of _ (by decide +kernel)) ggX7_gather_X6_keepInner
theorem dX7_gather_0 : decode cX7_gather 0 = .ok (.aload_n 0, 1) := by decide +kernel
theorem dX7_gather_1 : decode cX7_gather 1 = .ok (.getfield 35, 3) := by decide +kernel
theorem dX7_gather_4 : decode cX7_gather 4 = .ok (.aload_n 0, 1) := by decide +kernel
theorem dX7_gather_5 : decode cX7_gather 5 = .ok (.getfield 28, 3) := by decide +kernel
theorem dX7_gather_8 : decode cX7_gather 8 = .ok (.getfield 38, 3) := by decide +kernel
theorem dX7_gather_11 : decode cX7_gather 11 = .ok (.aload_n 0, 1) := by decide +kernel
theorem dX7_gather_12 : decode cX7_gather 12 = .ok (.getfield 32, 3) := by decide +kernel
theorem dX7_gather_15 : decode cX7_gather 15 = .ok (.getfield 38, 3) := by decide +kernel
theorem dX7_gather_18 : decode cX7_gather 18 = .ok (.bipush 24, 2) := by decide +kernel
theorem dX7_gather_20 : decode cX7_gather 20 = .ok (.invokevirtual 39, 3) := by decide +kernel
theorem dX7_gather_23 : decode cX7_gather 23 = .ok (.aload_n 0, 1) := by decide +kernel
theorem dX7_gather_24 : decode cX7_gather 24 = .ok (.getfield 35, 3) := by decide +kernel
theorem dX7_gather_27 : decode cX7_gather 27 = .ok (.invokevirtual 43, 3) := by decide +kernel
theorem dX7_gather_30 : decode cX7_gather 30 = .ok (.return_, 1) := by decide +kernel
set_option maxRecDepth 20000 in
theorem ggX7_askEach_X6_clear : GoodIn wsX7_askEach wsX6_clear := goodIn_r _ [9, 10, 149] (by decide +kernel) (by decide +kernel)
set_option maxRecDepth 20000 in
theorem gX7_askEach_X6_clear : GoodIn wsX7_askEach (wsV RX7 46 RX6 yX6_clear wsX6_clear) := goodIn_app (goodIn_of _ (by decide +kernel)) ggX7_askEach_X6_clear
set_option maxRecDepth 20000 in
theorem ggX7_askEach_X6_isJoined : GoodIn wsX7_askEach wsX6_isJoined := goodIn_r _ [13, 14, 15, 16, 17, 18, 19, 20, 8, 21, 10, 22, 23, 24, 25, 26, 27, 28, 149] (by decide +kernel) (by decide +kernel)
set_option maxRecDepth 20000 in
theorem gX7_askEach_X6_isJoined : GoodIn wsX7_askEach (va_wsS RX7 57 yX6_isJoined wsX6_isJoined) := goodIn_app (goodIn_of _ (by decide +kernel)) ggX7_askEach_X6_isJoined
set_option maxRecDepth 20000 in
theorem ggX7_askEach_X6_add : GoodIn wsX7_askEach wsX6_add := goodIn_r _ [32, 10, 149] (by decide +kernel) (by decide +kernel)
set_option maxRecDepth 20000 in
theorem gX7_askEach_X6_add : GoodIn wsX7_askEach (wsV RX7 61 RX6 yX6_add wsX6_add) := goodIn_app (goodIn_of _ (by decide +kernel)) ggX7_askEach_X6_add
set_option maxRecDepth 20000 in
theorem ggX7_askEach_X0_askEach : GoodIn wsX7_askEach wsX0_askEach := goodIn_r _ [38, 39, 40, 6, 7, 8, 9, 10, 41, 42, 43, 44, 45, 46, 47, 48, 19, 20, 21, 49, 50, 51, 52, 53, 54, 55, 56, 57, 58, 59, 60, 61, 62, 63, 64, 65, 66, 67, 68, 69, 70, 71, 72, 73, 12, 13, 14, 15, 16, 17, 18, 22, 23, 24, 25, 26, 27, 28, 74, 75, 76, 77, 78, 79, 80, 81, 82, 83, 84, 85, 86, 87, 88, 89, 90, 91, 92, 93, 94, 95, 96, 97, 98, 99, 100, 101, 102, 103, 104, 105, 1, 106, 107, 108, 30, 31, 32, 119, 120, 121, 122, 123, 124, 125, 126, 127, 128, 129, 130, 131, 132, 133, 134, 135, 136, 137, 138, 139, 140, 141, 142, 143, 144, 145, 146, 147, 148, 109, 110, 111, 112, 113, 114, 115, 116, 117, 118, 149] (by decide +kernel) (by decide +kernel)
set_option maxRecDepth 20000 in
theorem gX7_askEach_X0_askEach_s65 : GoodIn wsX7_askEach (va_wsSU RX7 65 yX0_askEach wsX0_askEach) := goodIn_app (goodIn_of _ (by decide +kernel)) ggX7_askEach_X0_askEach
theorem dX7_askEach_0 : decode cX7_askEach 0 = .ok (.aload_n 0, 1) := by decide +kernel
theorem dX7_askEach_1 : decode cX7_askEach 1 = .ok (.getfield 22, 3) := by decide +kernel
theorem dX7_askEach_4 : decode cX7_askEach 4 = .ok (.invokevirtual 46, 3) := by decide +kernel
theorem dX7_askEach_7 : decode cX7_askEach 7 = .ok (.iconst 0, 1) := by decide +kernel
theorem dX7_askEach_8 : decode cX7_askEach 8 = .ok (.istore_n 2, 1) := by decide +kernel
theorem dX7_askEach_9 : decode cX7_askEach 9 = .ok (.iload_n 2, 1) := by decide +kernel
theorem dX7_askEach_10 : decode cX7_askEach 10 = .ok (.aload_n 1, 1) := by decide +kernel
theorem dX7_askEach_11 : decode cX7_askEach 11 = .ok (.getfield 49, 3) := by decide +kernel
theorem dX7_askEach_14 : decode cX7_askEach 14 = .ok (.if_icmp .ge 60, 3) := by decide +kernel
theorem dX7_askEach_17 : decode cX7_askEach 17 = .ok (.iload_n 2, 1) := by decide +kernel
theorem dX7_askEach_18 : decode cX7_askEach 18 = .ok (.iconst 1, 1) := by decide +kernel
theorem dX7_askEach_19 : decode cX7_askEach 19 = .ok (.iadd, 1) := by decide +kernel
theorem dX7_askEach_20 : decode cX7_askEach 20 = .ok (.istore_n 3, 1) := by decide +kernel
theorem dX7_askEach_21 : decode cX7_askEach 21 = .ok (.iload_n 3, 1) := by decide +kernel
theorem dX7_askEach_22 : decode cX7_askEach 22 = .ok (.aload_n 1, 1) := by decide +kernel
theorem dX7_askEach_23 : decode cX7_askEach 23 = .ok (.getfield 49, 3) := by decide +kernel
theorem dX7_askEach_26 : decode cX7_askEach 26 = .ok (.if_icmp .gt 42, 3) := by decide +kernel
theorem dX7_askEach_29 : decode cX7_askEach 29 = .ok (.aload_n 0, 1) := by decide +kernel
theorem dX7_askEach_30 : decode cX7_askEach 30 = .ok (.getfield 28, 3) := by decide +kernel
theorem dX7_askEach_33 : decode cX7_askEach 33 = .ok (.getfield 54, 3) := by decide +kernel
theorem dX7_askEach_36 : decode cX7_askEach 36 = .ok (.aload_n 0, 1) := by decide +kernel
theorem dX7_askEach_37 : decode cX7_askEach 37 = .ok (.getfield 32, 3) := by decide +kernel
theorem dX7_askEach_40 : decode cX7_askEach 40 = .ok (.getfield 54, 3) := by decide +kernel
theorem dX7_askEach_43 : decode cX7_askEach 43 = .ok (.bipush 24, 2) := by decide +kernel
theorem dX7_askEach_45 : decode cX7_askEach 45 = .ok (.iload_n 2, 1) := by decide +kernel
theorem dX7_askEach_46 : decode cX7_askEach 46 = .ok (.iload_n 3, 1) := by decide +kernel
theorem dX7_askEach_47 : decode cX7_askEach 47 = .ok (.invokestatic 57, 3) := by decide +kernel
theorem dX7_askEach_50 : decode cX7_askEach 50 = .ok (.ifCond .eq 12, 3) := by decide +kernel
theorem dX7_askEach_53 : decode cX7_askEach 53 = .ok (.aload_n 0, 1) := by decide +kernel
theorem dX7_askEach_54 : decode cX7_askEach 54 = .ok (.getfield 22, 3) := by decide +kernel
theorem dX7_askEach_57 : decode cX7_askEach 57 = .ok (.iload_n 2, 1) := by decide +kernel
theorem dX7_askEach_58 : decode cX7_askEach 58 = .ok (.iload_n 3, 1) := by decide +kernel
theorem dX7_askEach_59 : decode cX7_askEach 59 = .ok (.invokevirtual 61, 3) := by decide +kernel
theorem dX7_askEach_62 : decode cX7_askEach 62 = .ok (.iinc 3 1, 3) := by decide +kernel
theorem dX7_askEach_65 : decode cX7_askEach 65 = .ok (.goto (-44), 3) := by decide +kernel
theorem dX7_askEach_68 : decode cX7_askEach 68 = .ok (.iinc 2 1, 3) := by decide +kernel
theorem dX7_askEach_71 : decode cX7_askEach 71 = .ok (.goto (-62), 3) := by decide +kernel
theorem dX7_askEach_74 : decode cX7_askEach 74 = .ok (.aload_n 0, 1) := by decide +kernel
theorem dX7_askEach_75 : decode cX7_askEach 75 = .ok (.aload_n 1, 1) := by decide +kernel
theorem dX7_askEach_76 : decode cX7_askEach 76 = .ok (.invokespecial 65, 3) := by decide +kernel
theorem dX7_askEach_79 : decode cX7_askEach 79 = .ok (.return_, 1) := by decide +kernel
set_option maxRecDepth 20000 in
theorem ggX7_isOne_X6_contains : GoodIn wsX7_isOne wsX6_contains := goodIn_r _ [6, 7, 28] (by decide +kernel) (by decide +kernel)
set_option maxRecDepth 20000 in
theorem gX7_isOne_X6_contains : GoodIn wsX7_isOne (wsV RX7 69 RX6 yX6_contains wsX6_contains) := goodIn_app (goodIn_of _ (by decide +kernel)) ggX7_isOne_X6_contains
set_option maxRecDepth 20000 in
theorem ggX7_isOne_X6_countLyingIn : GoodIn wsX7_isOne wsX6_countLyingIn := goodIn_r _ [11, 12, 13, 14, 5, 15, 16, 17, 18, 19, 20, 3, 4, 6, 7, 28] (by decide +kernel) (by decide +kernel)
set_option maxRecDepth 20000 in
theorem gX7_isOne_X6_countLyingIn : GoodIn wsX7_isOne (wsV RX7 73 RX6 yX6_countLyingIn wsX6_countLyingIn) := goodIn_app (goodIn_of _ (by decide +kernel)) ggX7_isOne_X6_countLyingIn
theorem dX7_isOne_0 : decode cX7_isOne 0 = .ok (.aload_n 0, 1) := by decide +kernel
theorem dX7_isOne_1 : decode cX7_isOne 1 = .ok (.getfield 22, 3) := by decide +kernel
theorem dX7_isOne_4 : decode cX7_isOne 4 = .ok (.iload_n 2, 1) := by decide +kernel
theorem dX7_isOne_5 : decode cX7_isOne 5 = .ok (.iload_n 3, 1) := by decide +kernel
theorem dX7_isOne_6 : decode cX7_isOne 6 = .ok (.invokevirtual 69, 3) := by decide +kernel
theorem dX7_isOne_9 : decode cX7_isOne 9 = .ok (.ifCond .eq 20, 3) := by decide +kernel
theorem dX7_isOne_12 : decode cX7_isOne 12 = .ok (.aload_n 0, 1) := by decide +kernel
theorem dX7_isOne_13 : decode cX7_isOne 13 = .ok (.getfield 22, 3) := by decide +kernel
theorem dX7_isOne_16 : decode cX7_isOne 16 = .ok (.iload_n 2, 1) := by decide +kernel
theorem dX7_isOne_17 : decode cX7_isOne 17 = .ok (.iload_n 3, 1) := by decide +kernel
theorem dX7_isOne_18 : decode cX7_isOne 18 = .ok (.invokevirtual 73, 3) := by decide +kernel
theorem dX7_isOne_21 : decode cX7_isOne 21 = .ok (.iconst 1, 1) := by decide +kernel
theorem dX7_isOne_22 : decode cX7_isOne 22 = .ok (.if_icmp .ne 7, 3) := by decide +kernel
theorem dX7_isOne_25 : decode cX7_isOne 25 = .ok (.iconst 1, 1) := by decide +kernel
theorem dX7_isOne_26 : decode cX7_isOne 26 = .ok (.goto 4, 3) := by decide +kernel
theorem dX7_isOne_29 : decode cX7_isOne 29 = .ok (.iconst 0, 1) := by decide +kernel
theorem dX7_isOne_30 : decode cX7_isOne 30 = .ok (.ireturn, 1) := by decide +kernel
set_option maxRecDepth 20000 in
theorem ggX8_init_X6_init : GoodIn wsX8_init wsX6_init := goodIn_r _ [11, 12, 2, 3, 4, 13, 17] (by decide +kernel) (by decide +kernel)
set_option maxRecDepth 20000 in
theorem gX8_init_X6_init_n21 : GoodIn wsX8_init (wsX6_init) := ggX8_init_X6_init
theorem dX8_init_0 : decode cX8_init 0 = .ok (.aload_n 0, 1) := by decide +kernel
theorem dX8_init_1 : decode cX8_init 1 = .ok (.invokespecial 3, 3) := by decide +kernel
theorem dX8_init_4 : decode cX8_init 4 = .ok (.aload_n 0, 1) := by decide +kernel
theorem dX8_init_5 : decode cX8_init 5 = .ok (.bipush 24, 2) := by decide +kernel
theorem dX8_init_7 : decode cX8_init 7 = .ok (.newarray .int, 2) := by decide +kernel
theorem dX8_init_9 : decode cX8_init 9 = .ok (.putfield 9, 3) := by decide +kernel
theorem dX8_init_12 : decode cX8_init 12 = .ok (.aload_n 0, 1) := by decide +kernel
theorem dX8_init_13 : decode cX8_init 13 = .ok (.iconst 4, 1) := by decide +kernel
theorem dX8_init_14 : decode cX8_init 14 = .ok (.anewarray 15, 3) := by decide +kernel
theorem dX8_init_17 : decode cX8_init 17 = .ok (.putfield 17, 3) := by decide +kernel
theorem dX8_init_20 : decode cX8_init 20 = .ok (.iconst 0, 1) := by decide +kernel
theorem dX8_init_21 : decode cX8_init 21 = .ok (.istore_n 1, 1) := by decide +kernel
theorem dX8_init_22 : decode cX8_init 22 = .ok (.iload_n 1, 1) := by decide +kernel
theorem dX8_init_23 : decode cX8_init 23 = .ok (.aload_n 0, 1) := by decide +kernel
theorem dX8_init_24 : decode cX8_init 24 = .ok (.getfield 17, 3) := by decide +kernel
theorem dX8_init_27 : decode cX8_init 27 = .ok (.arraylength, 1) := by decide +kernel
theorem dX8_init_28 : decode cX8_init 28 = .ok (.if_icmp .ge 22, 3) := by decide +kernel
theorem dX8_init_31 : decode cX8_init 31 = .ok (.aload_n 0, 1) := by decide +kernel
theorem dX8_init_32 : decode cX8_init 32 = .ok (.getfield 17, 3) := by decide +kernel
theorem dX8_init_35 : decode cX8_init 35 = .ok (.iload_n 1, 1) := by decide +kernel
theorem dX8_init_36 : decode cX8_init 36 = .ok (.new 15, 3) := by decide +kernel
theorem dX8_init_39 : decode cX8_init 39 = .ok (.dup, 1) := by decide +kernel
theorem dX8_init_40 : decode cX8_init 40 = .ok (.invokespecial 21, 3) := by decide +kernel
theorem dX8_init_43 : decode cX8_init 43 = .ok (.aastore, 1) := by decide +kernel
theorem dX8_init_44 : decode cX8_init 44 = .ok (.iinc 1 1, 3) := by decide +kernel
theorem dX8_init_47 : decode cX8_init 47 = .ok (.goto (-25), 3) := by decide +kernel
theorem dX8_init_50 : decode cX8_init 50 = .ok (.return_, 1) := by decide +kernel
set_option maxRecDepth 20000 in
theorem ggX8_put_X9_isLetter : GoodIn wsX8_put wsX9_isLetter := goodIn_r _ [12] (by decide +kernel) (by decide +kernel)
set_option maxRecDepth 20000 in
theorem gX8_put_X9_isLetter_n33 : GoodIn wsX8_put (wsX9_isLetter) := ggX8_put_X9_isLetter
set_option maxRecDepth 20000 in
theorem ggX8_put_X8_marksOf : GoodIn wsX8_put wsX8_marksOf := goodIn_ca (goodIn_r _ [17, 1, 2, 9, 40, 41, 42] (by decide +kernel) (by decide +kernel)) (goodIn_sub (fun _ h => List.mem_cons_of_mem _ (List.mem_append_left _ (List.mem_append_left _ (List.mem_append_right _ h)))) (by decide +kernel))
set_option maxRecDepth 20000 in
theorem gX8_put_X8_marksOf : GoodIn wsX8_put (wsV RX8 47 RX8 yX8_marksOf wsX8_marksOf) := goodIn_app (goodIn_of _ (by decide +kernel)) ggX8_put_X8_marksOf
set_option maxRecDepth 20000 in
theorem ggX8_put_X6_openAt : GoodIn wsX8_put wsX6_openAt := goodIn_r _ [22, 23, 24, 25, 26, 21, 27, 28, 29, 30, 31, 11, 32, 33, 34, 35, 36, 37, 38, 39, 43] (by decide +kernel) (by decide +kernel)
set_option maxRecDepth 20000 in
theorem gX8_put_X6_openAt : GoodIn wsX8_put (wsV RX8 51 RX6 yX6_openAt wsX6_openAt) := goodIn_app (goodIn_of _ (by decide +kernel)) ggX8_put_X6_openAt
theorem dX8_put_0 : decode cX8_put 0 = .ok (.iload_n 1, 1) := by decide +kernel
theorem dX8_put_1 : decode cX8_put 1 = .ok (.ifCond .lt 11, 3) := by decide +kernel
theorem dX8_put_4 : decode cX8_put 4 = .ok (.iload_n 1, 1) := by decide +kernel
theorem dX8_put_5 : decode cX8_put 5 = .ok (.aload_n 0, 1) := by decide +kernel
theorem dX8_put_6 : decode cX8_put 6 = .ok (.getfield 22, 3) := by decide +kernel
theorem dX8_put_9 : decode cX8_put 9 = .ok (.if_icmp .le 13, 3) := by decide +kernel
theorem dX8_put_12 : decode cX8_put 12 = .ok (.new 26, 3) := by decide +kernel
theorem dX8_put_15 : decode cX8_put 15 = .ok (.dup, 1) := by decide +kernel
theorem dX8_put_16 : decode cX8_put 16 = .ok (.ldc 28, 2) := by decide +kernel
theorem dX8_put_18 : decode cX8_put 18 = .ok (.invokespecial 30, 3) := by decide +kernel
theorem dX8_put_21 : decode cX8_put 21 = .ok (.athrow, 1) := by decide +kernel
theorem dX8_put_22 : decode cX8_put 22 = .ok (.iload_n 2, 1) := by decide +kernel
theorem dX8_put_23 : decode cX8_put 23 = .ok (.invokestatic 33, 3) := by decide +kernel
theorem dX8_put_26 : decode cX8_put 26 = .ok (.ifCond .ne 13, 3) := by decide +kernel
theorem dX8_put_29 : decode cX8_put 29 = .ok (.new 37, 3) := by decide +kernel
theorem dX8_put_32 : decode cX8_put 32 = .ok (.dup, 1) := by decide +kernel
theorem dX8_put_33 : decode cX8_put 33 = .ok (.ldc 39, 2) := by decide +kernel
theorem dX8_put_35 : decode cX8_put 35 = .ok (.invokespecial 41, 3) := by decide +kernel
theorem dX8_put_38 : decode cX8_put 38 = .ok (.athrow, 1) := by decide +kernel
theorem dX8_put_39 : decode cX8_put 39 = .ok (.aload_n 0, 1) := by decide +kernel
theorem dX8_put_40 : decode cX8_put 40 = .ok (.getfield 22, 3) := by decide +kernel
theorem dX8_put_43 : decode cX8_put 43 = .ok (.bipush 24, 2) := by decide +kernel
theorem dX8_put_45 : decode cX8_put 45 = .ok (.if_icmp .lt 13, 3) := by decide +kernel
theorem dX8_put_48 : decode cX8_put 48 = .ok (.new 42, 3) := by decide +kernel
theorem dX8_put_51 : decode cX8_put 51 = .ok (.dup, 1) := by decide +kernel
theorem dX8_put_52 : decode cX8_put 52 = .ok (.ldc 44, 2) := by decide +kernel
theorem dX8_put_54 : decode cX8_put 54 = .ok (.invokespecial 46, 3) := by decide +kernel
theorem dX8_put_57 : decode cX8_put 57 = .ok (.athrow, 1) := by decide +kernel
theorem dX8_put_58 : decode cX8_put 58 = .ok (.aload_n 0, 1) := by decide +kernel
theorem dX8_put_59 : decode cX8_put 59 = .ok (.getfield 22, 3) := by decide +kernel
theorem dX8_put_62 : decode cX8_put 62 = .ok (.istore_n 3, 1) := by decide +kernel
theorem dX8_put_63 : decode cX8_put 63 = .ok (.iload_n 3, 1) := by decide +kernel
theorem dX8_put_64 : decode cX8_put 64 = .ok (.iload_n 1, 1) := by decide +kernel
theorem dX8_put_65 : decode cX8_put 65 = .ok (.if_icmp .le 23, 3) := by decide +kernel
theorem dX8_put_68 : decode cX8_put 68 = .ok (.aload_n 0, 1) := by decide +kernel
theorem dX8_put_69 : decode cX8_put 69 = .ok (.getfield 9, 3) := by decide +kernel
theorem dX8_put_72 : decode cX8_put 72 = .ok (.iload_n 3, 1) := by decide +kernel
theorem dX8_put_73 : decode cX8_put 73 = .ok (.aload_n 0, 1) := by decide +kernel
theorem dX8_put_74 : decode cX8_put 74 = .ok (.getfield 9, 3) := by decide +kernel
theorem dX8_put_77 : decode cX8_put 77 = .ok (.iload_n 3, 1) := by decide +kernel
theorem dX8_put_78 : decode cX8_put 78 = .ok (.iconst 1, 1) := by decide +kernel
theorem dX8_put_79 : decode cX8_put 79 = .ok (.isub, 1) := by decide +kernel
theorem dX8_put_80 : decode cX8_put 80 = .ok (.iaload, 1) := by decide +kernel
theorem dX8_put_81 : decode cX8_put 81 = .ok (.iastore, 1) := by decide +kernel
theorem dX8_put_82 : decode cX8_put 82 = .ok (.iinc 3 (-1), 3) := by decide +kernel
theorem dX8_put_85 : decode cX8_put 85 = .ok (.goto (-22), 3) := by decide +kernel
theorem dX8_put_88 : decode cX8_put 88 = .ok (.aload_n 0, 1) := by decide +kernel
theorem dX8_put_89 : decode cX8_put 89 = .ok (.getfield 9, 3) := by decide +kernel
theorem dX8_put_92 : decode cX8_put 92 = .ok (.iload_n 1, 1) := by decide +kernel
theorem dX8_put_93 : decode cX8_put 93 = .ok (.iload_n 2, 1) := by decide +kernel
theorem dX8_put_94 : decode cX8_put 94 = .ok (.iastore, 1) := by decide +kernel
theorem dX8_put_95 : decode cX8_put 95 = .ok (.aload_n 0, 1) := by decide +kernel
theorem dX8_put_96 : decode cX8_put 96 = .ok (.dup, 1) := by decide +kernel
theorem dX8_put_97 : decode cX8_put 97 = .ok (.getfield 22, 3) := by decide +kernel
theorem dX8_put_100 : decode cX8_put 100 = .ok (.iconst 1, 1) := by decide +kernel
theorem dX8_put_101 : decode cX8_put 101 = .ok (.iadd, 1) := by decide +kernel
theorem dX8_put_102 : decode cX8_put 102 = .ok (.putfield 22, 3) := by decide +kernel
theorem dX8_put_105 : decode cX8_put 105 = .ok (.iconst 0, 1) := by decide +kernel
theorem dX8_put_106 : decode cX8_put 106 = .ok (.istore_n 3, 1) := by decide +kernel
theorem dX8_put_107 : decode cX8_put 107 = .ok (.iload_n 3, 1) := by decide +kernel
theorem dX8_put_108 : decode cX8_put 108 = .ok (.aload_n 0, 1) := by decide +kernel
theorem dX8_put_109 : decode cX8_put 109 = .ok (.getfield 17, 3) := by decide +kernel
theorem dX8_put_112 : decode cX8_put 112 = .ok (.arraylength, 1) := by decide +kernel
theorem dX8_put_113 : decode cX8_put 113 = .ok (.if_icmp .ge 18, 3) := by decide +kernel
theorem dX8_put_116 : decode cX8_put 116 = .ok (.aload_n 0, 1) := by decide +kernel
theorem dX8_put_117 : decode cX8_put 117 = .ok (.iload_n 3, 1) := by decide +kernel
theorem dX8_put_118 : decode cX8_put 118 = .ok (.invokevirtual 47, 3) := by decide +kernel
theorem dX8_put_121 : decode cX8_put 121 = .ok (.iload_n 1, 1) := by decide +kernel
theorem dX8_put_122 : decode cX8_put 122 = .ok (.invokevirtual 51, 3) := by decide +kernel
theorem dX8_put_125 : decode cX8_put 125 = .ok (.iinc 3 1, 3) := by decide +kernel
theorem dX8_put_128 : decode cX8_put 128 = .ok (.goto (-21), 3) := by decide +kernel
theorem dX8_put_131 : decode cX8_put 131 = .ok (.aload_n 0, 1) := by decide +kernel
theorem dX8_put_132 : decode cX8_put 132 = .ok (.getfield 22, 3) := by decide +kernel
theorem dX8_put_135 : decode cX8_put 135 = .ok (.ireturn, 1) := by decide +kernel
set_option maxRecDepth 20000 in
theorem ggX8_take_X8_letterOf : GoodIn wsX8_take wsX8_letterOf := goodIn_ca (goodIn_r _ [8, 9, 10, 2, 11, 12, 13, 7, 14, 1, 38, 39, 40] (by decide +kernel) (by decide +kernel)) (goodIn_sub (fun _ h => List.mem_cons_of_mem _ (List.mem_append_right _ h)) (by decide +kernel))
set_option maxRecDepth 20000 in
theorem gX8_take_X8_letterOf : GoodIn wsX8_take (wsV RX8 55 RX8 yX8_letterOf wsX8_letterOf) := goodIn_app (goodIn_of _ (by decide +kernel)) ggX8_take_X8_letterOf
set_option maxRecDepth 20000 in
theorem ggX8_take_X8_marksOf : GoodIn wsX8_take wsX8_marksOf := goodIn_ca (goodIn_r _ [18, 9, 10, 3, 38, 39, 40] (by decide +kernel) (by decide +kernel)) (goodIn_sub (fun _ h => List.mem_cons_of_mem _ (List.mem_append_right _ h)) (by decide +kernel))
set_option maxRecDepth 20000 in
theorem gX8_take_X8_marksOf : GoodIn wsX8_take (wsV RX8 47 RX8 yX8_marksOf wsX8_marksOf) := goodIn_app (goodIn_of _ (by decide +kernel)) ggX8_take_X8_marksOf
set_option maxRecDepth 20000 in
theorem ggX8_take_X6_closeAt : GoodIn wsX8_take wsX6_closeAt := goodIn_r _ [23, 24, 25, 26, 27, 22, 28, 29, 30, 31, 32, 33, 34, 35, 36, 37, 41] (by decide +kernel) (by decide +kernel)
set_option maxRecDepth 20000 in
theorem gX8_take_X6_closeAt : GoodIn wsX8_take (wsV RX8 59 RX6 yX6_closeAt wsX6_closeAt) := goodIn_app (goodIn_of _ (by decide +kernel)) ggX8_take_X6_closeAt
theorem dX8_take_0 : decode cX8_take 0 = .ok (.aload_n 0, 1) := by decide +kernel
theorem dX8_take_1 : decode cX8_take 1 = .ok (.iload_n 1, 1) := by decide +kernel
theorem dX8_take_2 : decode cX8_take 2 = .ok (.invokevirtual 55, 3) := by decide +kernel
theorem dX8_take_5 : decode cX8_take 5 = .ok (.istore_n 2, 1) := by decide +kernel
theorem dX8_take_6 : decode cX8_take 6 = .ok (.aload_n 0, 1) := by decide +kernel
theorem dX8_take_7 : decode cX8_take 7 = .ok (.dup, 1) := by decide +kernel
theorem dX8_take_8 : decode cX8_take 8 = .ok (.getfield 22, 3) := by decide +kernel
theorem dX8_take_11 : decode cX8_take 11 = .ok (.iconst 1, 1) := by decide +kernel
theorem dX8_take_12 : decode cX8_take 12 = .ok (.isub, 1) := by decide +kernel
theorem dX8_take_13 : decode cX8_take 13 = .ok (.putfield 22, 3) := by decide +kernel
theorem dX8_take_16 : decode cX8_take 16 = .ok (.iload_n 1, 1) := by decide +kernel
theorem dX8_take_17 : decode cX8_take 17 = .ok (.istore_n 3, 1) := by decide +kernel
theorem dX8_take_18 : decode cX8_take 18 = .ok (.iload_n 3, 1) := by decide +kernel
theorem dX8_take_19 : decode cX8_take 19 = .ok (.aload_n 0, 1) := by decide +kernel
theorem dX8_take_20 : decode cX8_take 20 = .ok (.getfield 22, 3) := by decide +kernel
theorem dX8_take_23 : decode cX8_take 23 = .ok (.if_icmp .ge 34, 3) := by decide +kernel
theorem dX8_take_26 : decode cX8_take 26 = .ok (.iload_n 3, 1) := by decide +kernel
theorem dX8_take_27 : decode cX8_take 27 = .ok (.iconst 1, 1) := by decide +kernel
theorem dX8_take_28 : decode cX8_take 28 = .ok (.iadd, 1) := by decide +kernel
theorem dX8_take_29 : decode cX8_take 29 = .ok (.aload_n 0, 1) := by decide +kernel
theorem dX8_take_30 : decode cX8_take 30 = .ok (.getfield 9, 3) := by decide +kernel
theorem dX8_take_33 : decode cX8_take 33 = .ok (.arraylength, 1) := by decide +kernel
theorem dX8_take_34 : decode cX8_take 34 = .ok (.if_icmp .ge 23, 3) := by decide +kernel
theorem dX8_take_37 : decode cX8_take 37 = .ok (.aload_n 0, 1) := by decide +kernel
theorem dX8_take_38 : decode cX8_take 38 = .ok (.getfield 9, 3) := by decide +kernel
theorem dX8_take_41 : decode cX8_take 41 = .ok (.iload_n 3, 1) := by decide +kernel
theorem dX8_take_42 : decode cX8_take 42 = .ok (.aload_n 0, 1) := by decide +kernel
theorem dX8_take_43 : decode cX8_take 43 = .ok (.getfield 9, 3) := by decide +kernel
theorem dX8_take_46 : decode cX8_take 46 = .ok (.iload_n 3, 1) := by decide +kernel
theorem dX8_take_47 : decode cX8_take 47 = .ok (.iconst 1, 1) := by decide +kernel
theorem dX8_take_48 : decode cX8_take 48 = .ok (.iadd, 1) := by decide +kernel
theorem dX8_take_49 : decode cX8_take 49 = .ok (.iaload, 1) := by decide +kernel
theorem dX8_take_50 : decode cX8_take 50 = .ok (.iastore, 1) := by decide +kernel
theorem dX8_take_51 : decode cX8_take 51 = .ok (.iinc 3 1, 3) := by decide +kernel
theorem dX8_take_54 : decode cX8_take 54 = .ok (.goto (-36), 3) := by decide +kernel
theorem dX8_take_57 : decode cX8_take 57 = .ok (.iconst 0, 1) := by decide +kernel
theorem dX8_take_58 : decode cX8_take 58 = .ok (.istore_n 3, 1) := by decide +kernel
theorem dX8_take_59 : decode cX8_take 59 = .ok (.iload_n 3, 1) := by decide +kernel
theorem dX8_take_60 : decode cX8_take 60 = .ok (.aload_n 0, 1) := by decide +kernel
theorem dX8_take_61 : decode cX8_take 61 = .ok (.getfield 17, 3) := by decide +kernel
theorem dX8_take_64 : decode cX8_take 64 = .ok (.arraylength, 1) := by decide +kernel
theorem dX8_take_65 : decode cX8_take 65 = .ok (.if_icmp .ge 18, 3) := by decide +kernel
theorem dX8_take_68 : decode cX8_take 68 = .ok (.aload_n 0, 1) := by decide +kernel
theorem dX8_take_69 : decode cX8_take 69 = .ok (.iload_n 3, 1) := by decide +kernel
theorem dX8_take_70 : decode cX8_take 70 = .ok (.invokevirtual 47, 3) := by decide +kernel
theorem dX8_take_73 : decode cX8_take 73 = .ok (.iload_n 1, 1) := by decide +kernel
theorem dX8_take_74 : decode cX8_take 74 = .ok (.invokevirtual 59, 3) := by decide +kernel
theorem dX8_take_77 : decode cX8_take 77 = .ok (.iinc 3 1, 3) := by decide +kernel
theorem dX8_take_80 : decode cX8_take 80 = .ok (.goto (-21), 3) := by decide +kernel
theorem dX8_take_83 : decode cX8_take 83 = .ok (.iload_n 2, 1) := by decide +kernel
theorem dX8_take_84 : decode cX8_take 84 = .ok (.ireturn, 1) := by decide +kernel
set_option maxRecDepth 20000 in
theorem ggX8_letterOf_X8_isPlace : GoodIn wsX8_letterOf wsX8_isPlace := goodIn_r _ [8, 9, 3, 10, 11, 12] (by decide +kernel) (by decide +kernel)
set_option maxRecDepth 20000 in
theorem gX8_letterOf_X8_isPlace : GoodIn wsX8_letterOf (wsV RX8 62 RX8 yX8_isPlace wsX8_isPlace) := goodIn_app (goodIn_of _ (by decide +kernel)) ggX8_letterOf_X8_isPlace
theorem dX8_letterOf_0 : decode cX8_letterOf 0 = .ok (.aload_n 0, 1) := by decide +kernel
theorem dX8_letterOf_1 : decode cX8_letterOf 1 = .ok (.iload_n 1, 1) := by decide +kernel
theorem dX8_letterOf_2 : decode cX8_letterOf 2 = .ok (.invokevirtual 62, 3) := by decide +kernel
theorem dX8_letterOf_5 : decode cX8_letterOf 5 = .ok (.ifCond .ne 13, 3) := by decide +kernel
theorem dX8_letterOf_8 : decode cX8_letterOf 8 = .ok (.new 26, 3) := by decide +kernel
theorem dX8_letterOf_11 : decode cX8_letterOf 11 = .ok (.dup, 1) := by decide +kernel
theorem dX8_letterOf_12 : decode cX8_letterOf 12 = .ok (.ldc 28, 2) := by decide +kernel
theorem dX8_letterOf_14 : decode cX8_letterOf 14 = .ok (.invokespecial 30, 3) := by decide +kernel
theorem dX8_letterOf_17 : decode cX8_letterOf 17 = .ok (.athrow, 1) := by decide +kernel
theorem dX8_letterOf_18 : decode cX8_letterOf 18 = .ok (.aload_n 0, 1) := by decide +kernel
theorem dX8_letterOf_19 : decode cX8_letterOf 19 = .ok (.getfield 9, 3) := by decide +kernel
theorem dX8_letterOf_22 : decode cX8_letterOf 22 = .ok (.iload_n 1, 1) := by decide +kernel
theorem dX8_letterOf_23 : decode cX8_letterOf 23 = .ok (.iaload, 1) := by decide +kernel
theorem dX8_letterOf_24 : decode cX8_letterOf 24 = .ok (.ireturn, 1) := by decide +kernel
set_option maxRecDepth 20000 in
theorem ggX8_isAt_X8_isPlace : GoodIn wsX8_isAt wsX8_isPlace := goodIn_r _ [6, 7, 1, 8, 9, 10] (by decide +kernel) (by decide +kernel)
set_option maxRecDepth 20000 in
theorem gX8_isAt_X8_isPlace : GoodIn wsX8_isAt (wsV RX8 62 RX8 yX8_isPlace wsX8_isPlace) := goodIn_app (goodIn_of _ (by decide +kernel)) ggX8_isAt_X8_isPlace
theorem dX8_isAt_0 : decode cX8_isAt 0 = .ok (.aload_n 0, 1) := by decide +kernel
theorem dX8_isAt_1 : decode cX8_isAt 1 = .ok (.iload_n 2, 1) := by decide +kernel
theorem dX8_isAt_2 : decode cX8_isAt 2 = .ok (.invokevirtual 62, 3) := by decide +kernel
theorem dX8_isAt_5 : decode cX8_isAt 5 = .ok (.ifCond .eq 17, 3) := by decide +kernel
theorem dX8_isAt_8 : decode cX8_isAt 8 = .ok (.aload_n 0, 1) := by decide +kernel
theorem dX8_isAt_9 : decode cX8_isAt 9 = .ok (.getfield 9, 3) := by decide +kernel
theorem dX8_isAt_12 : decode cX8_isAt 12 = .ok (.iload_n 2, 1) := by decide +kernel
theorem dX8_isAt_13 : decode cX8_isAt 13 = .ok (.iaload, 1) := by decide +kernel
theorem dX8_isAt_14 : decode cX8_isAt 14 = .ok (.iload_n 1, 1) := by decide +kernel
theorem dX8_isAt_15 : decode cX8_isAt 15 = .ok (.if_icmp .ne 7, 3) := by decide +kernel
theorem dX8_isAt_18 : decode cX8_isAt 18 = .ok (.iconst 1, 1) := by decide +kernel
theorem dX8_isAt_19 : decode cX8_isAt 19 = .ok (.goto 4, 3) := by decide +kernel
theorem dX8_isAt_22 : decode cX8_isAt 22 = .ok (.iconst 0, 1) := by decide +kernel
theorem dX8_isAt_23 : decode cX8_isAt 23 = .ok (.ireturn, 1) := by decide +kernel
theorem dX8_isPlace_0 : decode cX8_isPlace 0 = .ok (.iload_n 1, 1) := by decide +kernel
theorem dX8_isPlace_1 : decode cX8_isPlace 1 = .ok (.ifCond .lt 24, 3) := by decide +kernel
theorem dX8_isPlace_4 : decode cX8_isPlace 4 = .ok (.iload_n 1, 1) := by decide +kernel
theorem dX8_isPlace_5 : decode cX8_isPlace 5 = .ok (.aload_n 0, 1) := by decide +kernel
theorem dX8_isPlace_6 : decode cX8_isPlace 6 = .ok (.getfield 22, 3) := by decide +kernel
theorem dX8_isPlace_9 : decode cX8_isPlace 9 = .ok (.if_icmp .ge 16, 3) := by decide +kernel
theorem dX8_isPlace_12 : decode cX8_isPlace 12 = .ok (.iload_n 1, 1) := by decide +kernel
theorem dX8_isPlace_13 : decode cX8_isPlace 13 = .ok (.aload_n 0, 1) := by decide +kernel
theorem dX8_isPlace_14 : decode cX8_isPlace 14 = .ok (.getfield 9, 3) := by decide +kernel
theorem dX8_isPlace_17 : decode cX8_isPlace 17 = .ok (.arraylength, 1) := by decide +kernel
theorem dX8_isPlace_18 : decode cX8_isPlace 18 = .ok (.if_icmp .ge 7, 3) := by decide +kernel
theorem dX8_isPlace_21 : decode cX8_isPlace 21 = .ok (.iconst 1, 1) := by decide +kernel
theorem dX8_isPlace_22 : decode cX8_isPlace 22 = .ok (.goto 4, 3) := by decide +kernel
theorem dX8_isPlace_25 : decode cX8_isPlace 25 = .ok (.iconst 0, 1) := by decide +kernel
theorem dX8_isPlace_26 : decode cX8_isPlace 26 = .ok (.ireturn, 1) := by decide +kernel
set_option maxRecDepth 20000 in
theorem ggX8_isRegion_X8_isPlace : GoodIn wsX8_isRegion wsX8_isPlace := goodIn_r _ [6, 1, 7, 8, 9, 10] (by decide +kernel) (by decide +kernel)
set_option maxRecDepth 20000 in
theorem gX8_isRegion_X8_isPlace : GoodIn wsX8_isRegion (wsV RX8 62 RX8 yX8_isPlace wsX8_isPlace) := goodIn_app (goodIn_of _ (by decide +kernel)) ggX8_isRegion_X8_isPlace
theorem dX8_isRegion_0 : decode cX8_isRegion 0 = .ok (.aload_n 0, 1) := by decide +kernel
theorem dX8_isRegion_1 : decode cX8_isRegion 1 = .ok (.iload_n 1, 1) := by decide +kernel
theorem dX8_isRegion_2 : decode cX8_isRegion 2 = .ok (.invokevirtual 62, 3) := by decide +kernel
theorem dX8_isRegion_5 : decode cX8_isRegion 5 = .ok (.ifCond .eq 20, 3) := by decide +kernel
theorem dX8_isRegion_8 : decode cX8_isRegion 8 = .ok (.iload_n 2, 1) := by decide +kernel
theorem dX8_isRegion_9 : decode cX8_isRegion 9 = .ok (.iload_n 1, 1) := by decide +kernel
theorem dX8_isRegion_10 : decode cX8_isRegion 10 = .ok (.if_icmp .le 15, 3) := by decide +kernel
theorem dX8_isRegion_13 : decode cX8_isRegion 13 = .ok (.iload_n 2, 1) := by decide +kernel
theorem dX8_isRegion_14 : decode cX8_isRegion 14 = .ok (.aload_n 0, 1) := by decide +kernel
theorem dX8_isRegion_15 : decode cX8_isRegion 15 = .ok (.getfield 22, 3) := by decide +kernel
theorem dX8_isRegion_18 : decode cX8_isRegion 18 = .ok (.if_icmp .gt 7, 3) := by decide +kernel
theorem dX8_isRegion_21 : decode cX8_isRegion 21 = .ok (.iconst 1, 1) := by decide +kernel
theorem dX8_isRegion_22 : decode cX8_isRegion 22 = .ok (.goto 4, 3) := by decide +kernel
theorem dX8_isRegion_25 : decode cX8_isRegion 25 = .ok (.iconst 0, 1) := by decide +kernel
theorem dX8_isRegion_26 : decode cX8_isRegion 26 = .ok (.ireturn, 1) := by decide +kernel
theorem dX8_marksOf_0 : decode cX8_marksOf 0 = .ok (.iload_n 1, 1) := by decide +kernel
theorem dX8_marksOf_1 : decode cX8_marksOf 1 = .ok (.ifCond .lt 21, 3) := by decide +kernel
theorem dX8_marksOf_4 : decode cX8_marksOf 4 = .ok (.iload_n 1, 1) := by decide +kernel
theorem dX8_marksOf_5 : decode cX8_marksOf 5 = .ok (.aload_n 0, 1) := by decide +kernel
theorem dX8_marksOf_6 : decode cX8_marksOf 6 = .ok (.getfield 17, 3) := by decide +kernel
theorem dX8_marksOf_9 : decode cX8_marksOf 9 = .ok (.arraylength, 1) := by decide +kernel
theorem dX8_marksOf_10 : decode cX8_marksOf 10 = .ok (.if_icmp .ge 12, 3) := by decide +kernel
theorem dX8_marksOf_13 : decode cX8_marksOf 13 = .ok (.aload_n 0, 1) := by decide +kernel
theorem dX8_marksOf_14 : decode cX8_marksOf 14 = .ok (.getfield 17, 3) := by decide +kernel
theorem dX8_marksOf_17 : decode cX8_marksOf 17 = .ok (.iload_n 1, 1) := by decide +kernel
theorem dX8_marksOf_18 : decode cX8_marksOf 18 = .ok (.aaload, 1) := by decide +kernel
theorem dX8_marksOf_19 : decode cX8_marksOf 19 = .ok (.ifnonnull 13, 3) := by decide +kernel
theorem dX8_marksOf_22 : decode cX8_marksOf 22 = .ok (.new 26, 3) := by decide +kernel
theorem dX8_marksOf_25 : decode cX8_marksOf 25 = .ok (.dup, 1) := by decide +kernel
theorem dX8_marksOf_26 : decode cX8_marksOf 26 = .ok (.ldc 65, 2) := by decide +kernel
theorem dX8_marksOf_28 : decode cX8_marksOf 28 = .ok (.invokespecial 30, 3) := by decide +kernel
theorem dX8_marksOf_31 : decode cX8_marksOf 31 = .ok (.athrow, 1) := by decide +kernel
theorem dX8_marksOf_32 : decode cX8_marksOf 32 = .ok (.aload_n 0, 1) := by decide +kernel
theorem dX8_marksOf_33 : decode cX8_marksOf 33 = .ok (.getfield 17, 3) := by decide +kernel
theorem dX8_marksOf_36 : decode cX8_marksOf 36 = .ok (.iload_n 1, 1) := by decide +kernel
theorem dX8_marksOf_37 : decode cX8_marksOf 37 = .ok (.aaload, 1) := by decide +kernel
theorem dX8_marksOf_38 : decode cX8_marksOf 38 = .ok (.areturn, 1) := by decide +kernel
set_option maxRecDepth 20000 in
theorem ggX9_init_X8_init : GoodIn wsX9_init wsX8_init := goodIn_r _ [13, 14, 2, 3, 15, 16, 17, 18, 19, 20, 21, 22, 23, 24, 25, 26, 27, 31] (by decide +kernel) (by decide +kernel)
set_option maxRecDepth 20000 in
theorem gX9_init_X8_init : GoodIn wsX9_init (wsX8_init) := ggX9_init_X8_init
theorem dX9_init_0 : decode cX9_init 0 = .ok (.aload_n 0, 1) := by decide +kernel
theorem dX9_init_1 : decode cX9_init 1 = .ok (.invokespecial 3, 3) := by decide +kernel
theorem dX9_init_4 : decode cX9_init 4 = .ok (.aload_n 0, 1) := by decide +kernel
theorem dX9_init_5 : decode cX9_init 5 = .ok (.new 9, 3) := by decide +kernel
theorem dX9_init_8 : decode cX9_init 8 = .ok (.dup, 1) := by decide +kernel
theorem dX9_init_9 : decode cX9_init 9 = .ok (.invokespecial 11, 3) := by decide +kernel
theorem dX9_init_12 : decode cX9_init 12 = .ok (.putfield 12, 3) := by decide +kernel
theorem dX9_init_15 : decode cX9_init 15 = .ok (.aload_n 0, 1) := by decide +kernel
theorem dX9_init_16 : decode cX9_init 16 = .ok (.bipush 30, 2) := by decide +kernel
theorem dX9_init_18 : decode cX9_init 18 = .ok (.anewarray 16, 3) := by decide +kernel
theorem dX9_init_21 : decode cX9_init 21 = .ok (.putfield 18, 3) := by decide +kernel
theorem dX9_init_24 : decode cX9_init 24 = .ok (.aload_n 0, 1) := by decide +kernel
theorem dX9_init_25 : decode cX9_init 25 = .ok (.iconst 0, 1) := by decide +kernel
theorem dX9_init_26 : decode cX9_init 26 = .ok (.putfield 22, 3) := by decide +kernel
theorem dX9_init_29 : decode cX9_init 29 = .ok (.return_, 1) := by decide +kernel
set_option maxRecDepth 20000 in
theorem ggX9_insert_X8_put : GoodIn wsX9_insert wsX8_put := goodIn_ca (goodIn_ca (goodIn_ca (goodIn_r _ [6, 7, 8, 9, 10, 11, 12, 13, 14, 15, 16, 17, 18, 19, 20, 21, 5, 22, 23, 24, 25, 26, 27, 28, 29, 30, 31, 32, 33, 34, 35, 36, 37, 38, 39, 40, 41, 42, 43, 44, 48, 49, 50, 51] (by decide +kernel) (by decide +kernel)) (goodIn_sub (fun _ h => List.mem_cons_of_mem _ (List.mem_append_left _ (List.mem_append_left _ (List.mem_append_right _ h)))) (by decide +kernel))) (goodIn_sub (fun _ h => List.mem_cons_of_mem _ (List.mem_append_left _ (List.mem_append_right _ h))) (by decide +kernel))) (goodIn_sub (fun _ h => List.mem_cons_of_mem _ (List.mem_append_right _ h)) (by decide +kernel))
set_option maxRecDepth 20000 in
theorem gX9_insert_X8_put : GoodIn wsX9_insert (wsV RX9 26 RX8 yX8_put wsX8_put) := goodIn_app (goodIn_of _ (by decide +kernel)) ggX9_insert_X8_put
theorem dX9_insert_0 : decode cX9_insert 0 = .ok (.aload_n 0, 1) := by decide +kernel
theorem dX9_insert_1 : decode cX9_insert 1 = .ok (.getfield 12, 3) := by decide +kernel
theorem dX9_insert_4 : decode cX9_insert 4 = .ok (.iload_n 1, 1) := by decide +kernel
theorem dX9_insert_5 : decode cX9_insert 5 = .ok (.iload_n 2, 1) := by decide +kernel
theorem dX9_insert_6 : decode cX9_insert 6 = .ok (.invokevirtual 26, 3) := by decide +kernel
theorem dX9_insert_9 : decode cX9_insert 9 = .ok (.ireturn, 1) := by decide +kernel
set_option maxRecDepth 20000 in
theorem ggX9_remove_X8_take : GoodIn wsX9_remove wsX8_take := goodIn_ca (goodIn_r _ [6, 7, 8, 9, 10, 11, 12, 5, 13, 14, 15, 16, 17, 18, 19, 20, 21, 22, 23, 24, 25, 26, 27, 28, 29, 30, 31, 32, 33, 34, 35, 36, 37, 38, 39, 40, 41, 42, 46, 47, 48, 49] (by decide +kernel) (by decide +kernel)) (goodIn_sub (fun _ h => List.mem_cons_of_mem _ (List.mem_append_right _ h)) (by decide +kernel))
set_option maxRecDepth 20000 in
theorem gX9_remove_X8_take : GoodIn wsX9_remove (wsV RX9 30 RX8 yX8_take wsX8_take) := goodIn_app (goodIn_of _ (by decide +kernel)) ggX9_remove_X8_take
theorem dX9_remove_0 : decode cX9_remove 0 = .ok (.aload_n 0, 1) := by decide +kernel
theorem dX9_remove_1 : decode cX9_remove 1 = .ok (.getfield 12, 3) := by decide +kernel
theorem dX9_remove_4 : decode cX9_remove 4 = .ok (.iload_n 1, 1) := by decide +kernel
theorem dX9_remove_5 : decode cX9_remove 5 = .ok (.invokevirtual 30, 3) := by decide +kernel
theorem dX9_remove_8 : decode cX9_remove 8 = .ok (.ireturn, 1) := by decide +kernel
theorem dX9_length_0 : decode cX9_length 0 = .ok (.aload_n 0, 1) := by decide +kernel
theorem dX9_length_1 : decode cX9_length 1 = .ok (.getfield 12, 3) := by decide +kernel
theorem dX9_length_4 : decode cX9_length 4 = .ok (.getfield 34, 3) := by decide +kernel
theorem dX9_length_7 : decode cX9_length 7 = .ok (.ireturn, 1) := by decide +kernel
set_option maxRecDepth 20000 in
theorem ggX9_letterAt_X8_letterOf : GoodIn wsX9_letterAt wsX8_letterOf := goodIn_ca (goodIn_r _ [6, 7, 8, 9, 10, 11, 12, 5, 13, 14, 18, 19, 20] (by decide +kernel) (by decide +kernel)) (goodIn_sub (fun _ h => List.mem_cons_of_mem _ (List.mem_append_right _ h)) (by decide +kernel))
set_option maxRecDepth 20000 in
theorem gX9_letterAt_X8_letterOf : GoodIn wsX9_letterAt (wsV RX9 37 RX8 yX8_letterOf wsX8_letterOf) := goodIn_app (goodIn_of _ (by decide +kernel)) ggX9_letterAt_X8_letterOf
theorem dX9_letterAt_0 : decode cX9_letterAt 0 = .ok (.aload_n 0, 1) := by decide +kernel
theorem dX9_letterAt_1 : decode cX9_letterAt 1 = .ok (.getfield 12, 3) := by decide +kernel
theorem dX9_letterAt_4 : decode cX9_letterAt 4 = .ok (.iload_n 1, 1) := by decide +kernel
theorem dX9_letterAt_5 : decode cX9_letterAt 5 = .ok (.invokevirtual 37, 3) := by decide +kernel
theorem dX9_letterAt_8 : decode cX9_letterAt 8 = .ok (.ireturn, 1) := by decide +kernel
set_option maxRecDepth 20000 in
theorem ggX9_mark_X8_marksOf : GoodIn wsX9_mark wsX8_marksOf := goodIn_ca (goodIn_r _ [8, 9, 10, 11, 35, 36, 37] (by decide +kernel) (by decide +kernel)) (goodIn_sub (fun _ h => List.mem_cons_of_mem _ (List.mem_append_right _ h)) (by decide +kernel))
set_option maxRecDepth 20000 in
theorem gX9_mark_X8_marksOf : GoodIn wsX9_mark (wsV RX9 40 RX8 yX8_marksOf wsX8_marksOf) := goodIn_app (goodIn_of _ (by decide +kernel)) ggX9_mark_X8_marksOf
set_option maxRecDepth 20000 in
theorem ggX9_mark_X8_isRegion : GoodIn wsX9_mark wsX8_isRegion := goodIn_r _ [15, 16, 17, 18, 19, 7, 20, 21, 35, 36, 37] (by decide +kernel) (by decide +kernel)
set_option maxRecDepth 20000 in
theorem gX9_mark_X8_isRegion : GoodIn wsX9_mark (wsV RX9 44 RX8 yX8_isRegion wsX8_isRegion) := goodIn_app (goodIn_of _ (by decide +kernel)) ggX9_mark_X8_isRegion
set_option maxRecDepth 20000 in
theorem ggX9_mark_X6_contains : GoodIn wsX9_mark wsX6_contains := goodIn_r _ [26, 27, 38] (by decide +kernel) (by decide +kernel)
set_option maxRecDepth 20000 in
theorem gX9_mark_X6_contains : GoodIn wsX9_mark (wsV RX9 55 RX6 yX6_contains wsX6_contains) := goodIn_app (goodIn_of _ (by decide +kernel)) ggX9_mark_X6_contains
set_option maxRecDepth 20000 in
theorem ggX9_mark_X6_add : GoodIn wsX9_mark wsX6_add := goodIn_r _ [31, 27, 38] (by decide +kernel) (by decide +kernel)
set_option maxRecDepth 20000 in
theorem gX9_mark_X6_add : GoodIn wsX9_mark (wsV RX9 60 RX6 yX6_add wsX6_add) := goodIn_app (goodIn_of _ (by decide +kernel)) ggX9_mark_X6_add
theorem dX9_mark_0 : decode cX9_mark 0 = .ok (.aload_n 0, 1) := by decide +kernel
theorem dX9_mark_1 : decode cX9_mark 1 = .ok (.getfield 12, 3) := by decide +kernel
theorem dX9_mark_4 : decode cX9_mark 4 = .ok (.iload_n 1, 1) := by decide +kernel
theorem dX9_mark_5 : decode cX9_mark 5 = .ok (.invokevirtual 40, 3) := by decide +kernel
theorem dX9_mark_8 : decode cX9_mark 8 = .ok (.astore 4, 2) := by decide +kernel
theorem dX9_mark_10 : decode cX9_mark 10 = .ok (.aload_n 0, 1) := by decide +kernel
theorem dX9_mark_11 : decode cX9_mark 11 = .ok (.getfield 12, 3) := by decide +kernel
theorem dX9_mark_14 : decode cX9_mark 14 = .ok (.iload_n 2, 1) := by decide +kernel
theorem dX9_mark_15 : decode cX9_mark 15 = .ok (.iload_n 3, 1) := by decide +kernel
theorem dX9_mark_16 : decode cX9_mark 16 = .ok (.invokevirtual 44, 3) := by decide +kernel
theorem dX9_mark_19 : decode cX9_mark 19 = .ok (.ifCond .ne 13, 3) := by decide +kernel
theorem dX9_mark_22 : decode cX9_mark 22 = .ok (.new 48, 3) := by decide +kernel
theorem dX9_mark_25 : decode cX9_mark 25 = .ok (.dup, 1) := by decide +kernel
theorem dX9_mark_26 : decode cX9_mark 26 = .ok (.ldc 50, 2) := by decide +kernel
theorem dX9_mark_28 : decode cX9_mark 28 = .ok (.invokespecial 52, 3) := by decide +kernel
theorem dX9_mark_31 : decode cX9_mark 31 = .ok (.athrow, 1) := by decide +kernel
theorem dX9_mark_32 : decode cX9_mark 32 = .ok (.aload 4, 2) := by decide +kernel
theorem dX9_mark_34 : decode cX9_mark 34 = .ok (.iload_n 2, 1) := by decide +kernel
theorem dX9_mark_35 : decode cX9_mark 35 = .ok (.iload_n 3, 1) := by decide +kernel
theorem dX9_mark_36 : decode cX9_mark 36 = .ok (.invokevirtual 55, 3) := by decide +kernel
theorem dX9_mark_39 : decode cX9_mark 39 = .ok (.ifCond .ne 7, 3) := by decide +kernel
theorem dX9_mark_42 : decode cX9_mark 42 = .ok (.iconst 1, 1) := by decide +kernel
theorem dX9_mark_43 : decode cX9_mark 43 = .ok (.goto 4, 3) := by decide +kernel
theorem dX9_mark_46 : decode cX9_mark 46 = .ok (.iconst 0, 1) := by decide +kernel
theorem dX9_mark_47 : decode cX9_mark 47 = .ok (.istore 5, 2) := by decide +kernel
theorem dX9_mark_49 : decode cX9_mark 49 = .ok (.aload 4, 2) := by decide +kernel
theorem dX9_mark_51 : decode cX9_mark 51 = .ok (.iload_n 2, 1) := by decide +kernel
theorem dX9_mark_52 : decode cX9_mark 52 = .ok (.iload_n 3, 1) := by decide +kernel
theorem dX9_mark_53 : decode cX9_mark 53 = .ok (.invokevirtual 60, 3) := by decide +kernel
theorem dX9_mark_56 : decode cX9_mark 56 = .ok (.iload 5, 2) := by decide +kernel
theorem dX9_mark_58 : decode cX9_mark 58 = .ok (.ireturn, 1) := by decide +kernel
set_option maxRecDepth 20000 in
theorem ggX9_unmark_X8_marksOf : GoodIn wsX9_unmark wsX8_marksOf := goodIn_ca (goodIn_r _ [8, 9, 2, 10, 47, 48, 49] (by decide +kernel) (by decide +kernel)) (goodIn_sub (fun _ h => List.mem_cons_of_mem _ (List.mem_append_right _ h)) (by decide +kernel))
set_option maxRecDepth 20000 in
theorem gX9_unmark_X8_marksOf : GoodIn wsX9_unmark (wsV RX9 40 RX8 yX8_marksOf wsX8_marksOf) := goodIn_app (goodIn_of _ (by decide +kernel)) ggX9_unmark_X8_marksOf
set_option maxRecDepth 20000 in
theorem ggX9_unmark_X6_told : GoodIn wsX9_unmark wsX6_told := goodIn_r _ [15, 16, 17, 18, 14, 19, 20, 50] (by decide +kernel) (by decide +kernel)
set_option maxRecDepth 20000 in
theorem gX9_unmark_X6_told : GoodIn wsX9_unmark (wsV RX9 64 RX6 yX6_told wsX6_told) := goodIn_app (goodIn_of _ (by decide +kernel)) ggX9_unmark_X6_told
set_option maxRecDepth 20000 in
theorem ggX9_unmark_X6_drop : GoodIn wsX9_unmark wsX6_drop := goodIn_r _ [24, 16, 17, 18, 14, 19, 20, 25, 26, 27, 28, 29, 30, 31, 32, 50] (by decide +kernel) (by decide +kernel)
set_option maxRecDepth 20000 in
theorem gX9_unmark_X6_drop : GoodIn wsX9_unmark (wsV RX9 72 RX6 yX6_drop wsX6_drop) := goodIn_app (goodIn_of _ (by decide +kernel)) ggX9_unmark_X6_drop
set_option maxRecDepth 20000 in
theorem ggX9_unmark_X6_size : GoodIn wsX9_unmark wsX6_size := goodIn_r _ [36, 20, 37, 38, 39, 40, 41, 42, 43, 50] (by decide +kernel) (by decide +kernel)
set_option maxRecDepth 20000 in
theorem gX9_unmark_X6_size : GoodIn wsX9_unmark (wsV RX9 75 RX6 yX6_size wsX6_size) := goodIn_app (goodIn_of _ (by decide +kernel)) ggX9_unmark_X6_size
theorem dX9_unmark_0 : decode cX9_unmark 0 = .ok (.aload_n 0, 1) := by decide +kernel
theorem dX9_unmark_1 : decode cX9_unmark 1 = .ok (.getfield 12, 3) := by decide +kernel
theorem dX9_unmark_4 : decode cX9_unmark 4 = .ok (.iload_n 1, 1) := by decide +kernel
theorem dX9_unmark_5 : decode cX9_unmark 5 = .ok (.invokevirtual 40, 3) := by decide +kernel
theorem dX9_unmark_8 : decode cX9_unmark 8 = .ok (.astore_n 3, 1) := by decide +kernel
theorem dX9_unmark_9 : decode cX9_unmark 9 = .ok (.aload_n 3, 1) := by decide +kernel
theorem dX9_unmark_10 : decode cX9_unmark 10 = .ok (.iload_n 2, 1) := by decide +kernel
theorem dX9_unmark_11 : decode cX9_unmark 11 = .ok (.invokevirtual 64, 3) := by decide +kernel
theorem dX9_unmark_14 : decode cX9_unmark 14 = .ok (.istore 4, 2) := by decide +kernel
theorem dX9_unmark_16 : decode cX9_unmark 16 = .ok (.iload 4, 2) := by decide +kernel
theorem dX9_unmark_18 : decode cX9_unmark 18 = .ok (.ifCond .ge 13, 3) := by decide +kernel
theorem dX9_unmark_21 : decode cX9_unmark 21 = .ok (.new 67, 3) := by decide +kernel
theorem dX9_unmark_24 : decode cX9_unmark 24 = .ok (.dup, 1) := by decide +kernel
theorem dX9_unmark_25 : decode cX9_unmark 25 = .ok (.ldc 69, 2) := by decide +kernel
theorem dX9_unmark_27 : decode cX9_unmark 27 = .ok (.invokespecial 71, 3) := by decide +kernel
theorem dX9_unmark_30 : decode cX9_unmark 30 = .ok (.athrow, 1) := by decide +kernel
theorem dX9_unmark_31 : decode cX9_unmark 31 = .ok (.aload_n 3, 1) := by decide +kernel
theorem dX9_unmark_32 : decode cX9_unmark 32 = .ok (.iload 4, 2) := by decide +kernel
theorem dX9_unmark_34 : decode cX9_unmark 34 = .ok (.bipush 100, 2) := by decide +kernel
theorem dX9_unmark_36 : decode cX9_unmark 36 = .ok (.idiv, 1) := by decide +kernel
theorem dX9_unmark_37 : decode cX9_unmark 37 = .ok (.iload 4, 2) := by decide +kernel
theorem dX9_unmark_39 : decode cX9_unmark 39 = .ok (.bipush 100, 2) := by decide +kernel
theorem dX9_unmark_41 : decode cX9_unmark 41 = .ok (.irem, 1) := by decide +kernel
theorem dX9_unmark_42 : decode cX9_unmark 42 = .ok (.invokevirtual 72, 3) := by decide +kernel
theorem dX9_unmark_45 : decode cX9_unmark 45 = .ok (.aload_n 3, 1) := by decide +kernel
theorem dX9_unmark_46 : decode cX9_unmark 46 = .ok (.invokevirtual 75, 3) := by decide +kernel
theorem dX9_unmark_49 : decode cX9_unmark 49 = .ok (.ireturn, 1) := by decide +kernel
set_option maxRecDepth 20000 in
theorem ggX9_letter_X9_isLetter : GoodIn wsX9_letter wsX9_isLetter := goodIn_r _ [10] (by decide +kernel) (by decide +kernel)
set_option maxRecDepth 20000 in
theorem gX9_letter_X9_isLetter : GoodIn wsX9_letter (va_wsS RX9 78 yX9_isLetter wsX9_isLetter) := goodIn_app (goodIn_of _ (by decide +kernel)) ggX9_letter_X9_isLetter
set_option maxRecDepth 20000 in
theorem ggX9_letter_X9_requireRoom : GoodIn wsX9_letter wsX9_requireRoom := goodIn_ca (goodIn_r _ [14, 15, 16, 6, 50, 51, 52] (by decide +kernel) (by decide +kernel)) (goodIn_sub (fun _ h => List.mem_cons_of_mem _ (List.mem_append_right _ h)) (by decide +kernel))
set_option maxRecDepth 20000 in
theorem gX9_letter_X9_requireRoom : GoodIn wsX9_letter (wsV RX9 84 RX9 yX9_requireRoom wsX9_requireRoom) := goodIn_app (goodIn_of _ (by decide +kernel)) ggX9_letter_X9_requireRoom
set_option maxRecDepth 20000 in
theorem ggX9_letter_X2_init : GoodIn wsX9_letter wsX2_init := goodIn_r _ [19, 20, 21, 22, 23, 24, 25, 26, 27, 28, 29, 30, 31, 32, 33, 34, 35, 36, 37, 38, 39, 45, 46, 47, 48, 49, 53, 54, 55, 56, 57, 58, 59, 60, 61, 62, 63, 64, 65, 66, 67, 68, 69, 70, 71, 72, 73, 74, 75, 76, 77, 78, 79, 80, 81, 82, 83, 84, 85] (by decide +kernel) (by decide +kernel)
set_option maxRecDepth 20000 in
theorem gX9_letter_X2_init : GoodIn wsX9_letter (wsX2_init) := ggX9_letter_X2_init
set_option maxRecDepth 20000 in
theorem ggX9_letter_X9_keep : GoodIn wsX9_letter wsX9_keep := goodIn_r _ [43, 6, 44, 50, 51, 52] (by decide +kernel) (by decide +kernel)
set_option maxRecDepth 20000 in
theorem gX9_letter_X9_keep : GoodIn wsX9_letter (wsV RX9 92 RX9 yX9_keep wsX9_keep) := goodIn_app (goodIn_of _ (by decide +kernel)) ggX9_letter_X9_keep
theorem dX9_letter_0 : decode cX9_letter 0 = .ok (.iload_n 1, 1) := by decide +kernel
theorem dX9_letter_1 : decode cX9_letter 1 = .ok (.invokestatic 78, 3) := by decide +kernel
theorem dX9_letter_4 : decode cX9_letter 4 = .ok (.ifCond .ne 13, 3) := by decide +kernel
theorem dX9_letter_7 : decode cX9_letter 7 = .ok (.new 48, 3) := by decide +kernel
theorem dX9_letter_10 : decode cX9_letter 10 = .ok (.dup, 1) := by decide +kernel
theorem dX9_letter_11 : decode cX9_letter 11 = .ok (.ldc 82, 2) := by decide +kernel
theorem dX9_letter_13 : decode cX9_letter 13 = .ok (.invokespecial 52, 3) := by decide +kernel
theorem dX9_letter_16 : decode cX9_letter 16 = .ok (.athrow, 1) := by decide +kernel
theorem dX9_letter_17 : decode cX9_letter 17 = .ok (.aload_n 0, 1) := by decide +kernel
theorem dX9_letter_18 : decode cX9_letter 18 = .ok (.iconst 1, 1) := by decide +kernel
theorem dX9_letter_19 : decode cX9_letter 19 = .ok (.invokevirtual 84, 3) := by decide +kernel
theorem dX9_letter_22 : decode cX9_letter 22 = .ok (.aload_n 0, 1) := by decide +kernel
theorem dX9_letter_23 : decode cX9_letter 23 = .ok (.new 88, 3) := by decide +kernel
theorem dX9_letter_26 : decode cX9_letter 26 = .ok (.dup, 1) := by decide +kernel
theorem dX9_letter_27 : decode cX9_letter 27 = .ok (.aload_n 0, 1) := by decide +kernel
theorem dX9_letter_28 : decode cX9_letter 28 = .ok (.getfield 22, 3) := by decide +kernel
theorem dX9_letter_31 : decode cX9_letter 31 = .ok (.iload_n 1, 1) := by decide +kernel
theorem dX9_letter_32 : decode cX9_letter 32 = .ok (.invokespecial 90, 3) := by decide +kernel
theorem dX9_letter_35 : decode cX9_letter 35 = .ok (.invokevirtual 92, 3) := by decide +kernel
theorem dX9_letter_38 : decode cX9_letter 38 = .ok (.ireturn, 1) := by decide +kernel
set_option maxRecDepth 20000 in
theorem ggX9_marked_X8_marksOf : GoodIn wsX9_marked wsX8_marksOf := goodIn_ca (goodIn_r _ [10, 11, 12, 13, 57, 58, 59] (by decide +kernel) (by decide +kernel)) (goodIn_sub (fun _ h => List.mem_cons_of_mem _ (List.mem_append_left _ (List.mem_append_right _ h))) (by decide +kernel))
set_option maxRecDepth 20000 in
theorem gX9_marked_X8_marksOf : GoodIn wsX9_marked (wsV RX9 40 RX8 yX8_marksOf wsX8_marksOf) := goodIn_app (goodIn_of _ (by decide +kernel)) ggX9_marked_X8_marksOf
set_option maxRecDepth 20000 in
theorem ggX9_marked_X9_requireRoom : GoodIn wsX9_marked wsX9_requireRoom := goodIn_ca (goodIn_r _ [18, 19, 20, 5, 49, 50, 51] (by decide +kernel) (by decide +kernel)) (goodIn_sub (fun _ h => List.mem_cons_of_mem _ (List.mem_append_right _ h)) (by decide +kernel))
set_option maxRecDepth 20000 in
theorem gX9_marked_X9_requireRoom : GoodIn wsX9_marked (wsV RX9 84 RX9 yX9_requireRoom wsX9_requireRoom) := goodIn_app (goodIn_of _ (by decide +kernel)) ggX9_marked_X9_requireRoom
set_option maxRecDepth 20000 in
theorem ggX9_marked_X1_init : GoodIn wsX9_marked wsX1_init := goodIn_r _ [23, 24, 25, 26, 27, 28, 29, 30, 31, 32, 33, 34, 35, 36, 37, 38, 39, 40, 41, 42, 43, 52, 53, 54, 55, 56, 60, 61, 62, 63, 64, 65, 66, 67, 68, 69, 70, 71, 72, 73, 74, 75, 76, 77, 78, 79, 80, 81, 82, 83, 84, 85, 86, 87, 88, 89, 90, 91, 92] (by decide +kernel) (by decide +kernel)
set_option maxRecDepth 20000 in
theorem gX9_marked_X1_init : GoodIn wsX9_marked (wsX1_init) := ggX9_marked_X1_init
set_option maxRecDepth 20000 in
theorem ggX9_marked_X9_keep : GoodIn wsX9_marked wsX9_keep := goodIn_r _ [47, 5, 48, 49, 50, 51] (by decide +kernel) (by decide +kernel)
set_option maxRecDepth 20000 in
theorem gX9_marked_X9_keep : GoodIn wsX9_marked (wsV RX9 92 RX9 yX9_keep wsX9_keep) := goodIn_app (goodIn_of _ (by decide +kernel)) ggX9_marked_X9_keep
theorem dX9_marked_0 : decode cX9_marked 0 = .ok (.aload_n 0, 1) := by decide +kernel
theorem dX9_marked_1 : decode cX9_marked 1 = .ok (.getfield 12, 3) := by decide +kernel
theorem dX9_marked_4 : decode cX9_marked 4 = .ok (.iload_n 1, 1) := by decide +kernel
theorem dX9_marked_5 : decode cX9_marked 5 = .ok (.invokevirtual 40, 3) := by decide +kernel
theorem dX9_marked_8 : decode cX9_marked 8 = .ok (.astore_n 2, 1) := by decide +kernel
theorem dX9_marked_9 : decode cX9_marked 9 = .ok (.aload_n 0, 1) := by decide +kernel
theorem dX9_marked_10 : decode cX9_marked 10 = .ok (.iconst 1, 1) := by decide +kernel
theorem dX9_marked_11 : decode cX9_marked 11 = .ok (.invokevirtual 84, 3) := by decide +kernel
theorem dX9_marked_14 : decode cX9_marked 14 = .ok (.aload_n 0, 1) := by decide +kernel
theorem dX9_marked_15 : decode cX9_marked 15 = .ok (.new 96, 3) := by decide +kernel
theorem dX9_marked_18 : decode cX9_marked 18 = .ok (.dup, 1) := by decide +kernel
theorem dX9_marked_19 : decode cX9_marked 19 = .ok (.aload_n 0, 1) := by decide +kernel
theorem dX9_marked_20 : decode cX9_marked 20 = .ok (.getfield 22, 3) := by decide +kernel
theorem dX9_marked_23 : decode cX9_marked 23 = .ok (.aload_n 2, 1) := by decide +kernel
theorem dX9_marked_24 : decode cX9_marked 24 = .ok (.invokespecial 98, 3) := by decide +kernel
theorem dX9_marked_27 : decode cX9_marked 27 = .ok (.invokevirtual 92, 3) := by decide +kernel
theorem dX9_marked_30 : decode cX9_marked 30 = .ok (.ireturn, 1) := by decide +kernel
set_option maxRecDepth 20000 in
theorem ggX9_pair_X9_expressionOf : GoodIn wsX9_pair wsX9_expressionOf := goodIn_ca (goodIn_r _ [14, 15, 16, 17, 78, 79, 80] (by decide +kernel) (by decide +kernel)) (goodIn_sub (fun _ h => List.mem_cons_of_mem _ (List.mem_append_left _ (List.mem_append_right _ h))) (by decide +kernel))
set_option maxRecDepth 20000 in
theorem gX9_pair_X9_expressionOf : GoodIn wsX9_pair (wsV RX9 101 RX9 yX9_expressionOf wsX9_expressionOf) := goodIn_app (goodIn_of _ (by decide +kernel)) ggX9_pair_X9_expressionOf
set_option maxRecDepth 20000 in
theorem ggX9_pair_X9_depthAbove : GoodIn wsX9_pair wsX9_depthAbove := goodIn_r _ [20, 21, 22, 23, 24, 25, 88, 89, 90, 91, 92, 93, 94, 95, 96, 97, 98, 99, 100, 101, 102, 103, 104, 105, 106, 107, 108, 109, 110, 81, 82, 83, 84, 85, 86, 87, 71, 72, 73, 74, 75, 76, 77] (by decide +kernel) (by decide +kernel)
set_option maxRecDepth 20000 in
theorem gX9_pair_X9_depthAbove : GoodIn wsX9_pair (va_wsS RX9 107 yX9_depthAbove wsX9_depthAbove) := goodIn_app (goodIn_of _ (by decide +kernel)) ggX9_pair_X9_depthAbove
set_option maxRecDepth 20000 in
theorem ggX9_pair_X9_requireRoom : GoodIn wsX9_pair wsX9_requireRoom := goodIn_ca (goodIn_r _ [29, 30, 31, 6, 78, 79, 80] (by decide +kernel) (by decide +kernel)) (goodIn_sub (fun _ h => List.mem_cons_of_mem _ (List.mem_append_right _ h)) (by decide +kernel))
set_option maxRecDepth 20000 in
theorem gX9_pair_X9_requireRoom : GoodIn wsX9_pair (wsV RX9 84 RX9 yX9_requireRoom wsX9_requireRoom) := goodIn_app (goodIn_of _ (by decide +kernel)) ggX9_pair_X9_requireRoom
set_option maxRecDepth 20000 in
theorem ggX9_pair_X7_init : GoodIn wsX9_pair wsX7_init := goodIn_r _ [34, 35, 36, 37, 38, 39, 40, 41, 19, 13, 20, 21, 22, 23, 24, 25, 42, 43, 44, 45, 46, 47, 48, 49, 50, 51, 52, 53, 54, 55, 56, 57, 58, 88, 89, 90, 91, 92, 93, 94, 95, 96, 97, 98, 99, 100, 101, 102, 103, 104, 105, 106, 107, 108, 109, 110, 81, 82, 83, 84, 85, 86, 87, 71, 72, 73, 74, 75, 76, 77, 111] (by decide +kernel) (by decide +kernel)
set_option maxRecDepth 20000 in
theorem gX9_pair_X7_init : GoodIn wsX9_pair (wsX7_init) := ggX9_pair_X7_init
set_option maxRecDepth 20000 in
theorem ggX9_pair_X9_keep : GoodIn wsX9_pair wsX9_keep := goodIn_r _ [62, 6, 17, 78, 79, 80] (by decide +kernel) (by decide +kernel)
set_option maxRecDepth 20000 in
theorem gX9_pair_X9_keep : GoodIn wsX9_pair (wsV RX9 92 RX9 yX9_keep wsX9_keep) := goodIn_app (goodIn_of _ (by decide +kernel)) ggX9_pair_X9_keep
set_option maxRecDepth 20000 in
theorem ggX9_pair_X5_init : GoodIn wsX9_pair wsX5_init := goodIn_r _ [65, 66, 67, 68, 69, 19, 13, 20, 21, 22, 23, 24, 25, 70, 43, 44, 45, 46, 47, 48, 49, 37, 38, 50, 51, 52, 53, 54, 55, 56, 57, 58, 88, 89, 90, 91, 92, 93, 94, 95, 96, 97, 98, 99, 100, 101, 102, 103, 104, 105, 106, 107, 108, 109, 110, 81, 82, 83, 84, 85, 86, 87, 71, 72, 73, 74, 75, 76, 77, 111] (by decide +kernel) (by decide +kernel)
set_option maxRecDepth 20000 in
theorem gX9_pair_X5_init : GoodIn wsX9_pair (wsX5_init) := ggX9_pair_X5_init
theorem dX9_pair_0 : decode cX9_pair 0 = .ok (.aload_n 0, 1) := by decide +kernel
theorem dX9_pair_1 : decode cX9_pair 1 = .ok (.iload_n 2, 1) := by decide +kernel
theorem dX9_pair_2 : decode cX9_pair 2 = .ok (.invokevirtual 101, 3) := by decide +kernel
theorem dX9_pair_5 : decode cX9_pair 5 = .ok (.astore 4, 2) := by decide +kernel
theorem dX9_pair_7 : decode cX9_pair 7 = .ok (.aload_n 0, 1) := by decide +kernel
theorem dX9_pair_8 : decode cX9_pair 8 = .ok (.iload_n 3, 1) := by decide +kernel
theorem dX9_pair_9 : decode cX9_pair 9 = .ok (.invokevirtual 101, 3) := by decide +kernel
theorem dX9_pair_12 : decode cX9_pair 12 = .ok (.astore 5, 2) := by decide +kernel
theorem dX9_pair_14 : decode cX9_pair 14 = .ok (.iload_n 1, 1) := by decide +kernel
theorem dX9_pair_15 : decode cX9_pair 15 = .ok (.ifCond .lt 9, 3) := by decide +kernel
theorem dX9_pair_18 : decode cX9_pair 18 = .ok (.iload_n 1, 1) := by decide +kernel
theorem dX9_pair_19 : decode cX9_pair 19 = .ok (.bipush 9, 2) := by decide +kernel
theorem dX9_pair_21 : decode cX9_pair 21 = .ok (.if_icmp .le 13, 3) := by decide +kernel
theorem dX9_pair_24 : decode cX9_pair 24 = .ok (.new 48, 3) := by decide +kernel
theorem dX9_pair_27 : decode cX9_pair 27 = .ok (.dup, 1) := by decide +kernel
theorem dX9_pair_28 : decode cX9_pair 28 = .ok (.ldc 105, 2) := by decide +kernel
theorem dX9_pair_30 : decode cX9_pair 30 = .ok (.invokespecial 52, 3) := by decide +kernel
theorem dX9_pair_33 : decode cX9_pair 33 = .ok (.athrow, 1) := by decide +kernel
theorem dX9_pair_34 : decode cX9_pair 34 = .ok (.aload_n 0, 1) := by decide +kernel
theorem dX9_pair_35 : decode cX9_pair 35 = .ok (.aload 4, 2) := by decide +kernel
theorem dX9_pair_37 : decode cX9_pair 37 = .ok (.aload 5, 2) := by decide +kernel
theorem dX9_pair_39 : decode cX9_pair 39 = .ok (.invokestatic 107, 3) := by decide +kernel
theorem dX9_pair_42 : decode cX9_pair 42 = .ok (.invokevirtual 84, 3) := by decide +kernel
theorem dX9_pair_45 : decode cX9_pair 45 = .ok (.iload_n 1, 1) := by decide +kernel
theorem dX9_pair_46 : decode cX9_pair 46 = .ok (.bipush 9, 2) := by decide +kernel
theorem dX9_pair_48 : decode cX9_pair 48 = .ok (.if_icmp .ne 23, 3) := by decide +kernel
theorem dX9_pair_51 : decode cX9_pair 51 = .ok (.aload_n 0, 1) := by decide +kernel
theorem dX9_pair_52 : decode cX9_pair 52 = .ok (.new 111, 3) := by decide +kernel
theorem dX9_pair_55 : decode cX9_pair 55 = .ok (.dup, 1) := by decide +kernel
theorem dX9_pair_56 : decode cX9_pair 56 = .ok (.aload_n 0, 1) := by decide +kernel
theorem dX9_pair_57 : decode cX9_pair 57 = .ok (.getfield 22, 3) := by decide +kernel
theorem dX9_pair_60 : decode cX9_pair 60 = .ok (.aload 4, 2) := by decide +kernel
theorem dX9_pair_62 : decode cX9_pair 62 = .ok (.aload 5, 2) := by decide +kernel
theorem dX9_pair_64 : decode cX9_pair 64 = .ok (.invokespecial 113, 3) := by decide +kernel
theorem dX9_pair_67 : decode cX9_pair 67 = .ok (.invokevirtual 92, 3) := by decide +kernel
theorem dX9_pair_70 : decode cX9_pair 70 = .ok (.ireturn, 1) := by decide +kernel
theorem dX9_pair_71 : decode cX9_pair 71 = .ok (.aload_n 0, 1) := by decide +kernel
theorem dX9_pair_72 : decode cX9_pair 72 = .ok (.new 116, 3) := by decide +kernel
theorem dX9_pair_75 : decode cX9_pair 75 = .ok (.dup, 1) := by decide +kernel
theorem dX9_pair_76 : decode cX9_pair 76 = .ok (.aload_n 0, 1) := by decide +kernel
theorem dX9_pair_77 : decode cX9_pair 77 = .ok (.getfield 22, 3) := by decide +kernel
theorem dX9_pair_80 : decode cX9_pair 80 = .ok (.iload_n 1, 1) := by decide +kernel
theorem dX9_pair_81 : decode cX9_pair 81 = .ok (.aload 4, 2) := by decide +kernel
theorem dX9_pair_83 : decode cX9_pair 83 = .ok (.aload 5, 2) := by decide +kernel
theorem dX9_pair_85 : decode cX9_pair 85 = .ok (.invokespecial 118, 3) := by decide +kernel
theorem dX9_pair_88 : decode cX9_pair 88 = .ok (.invokevirtual 92, 3) := by decide +kernel
theorem dX9_pair_91 : decode cX9_pair 91 = .ok (.ireturn, 1) := by decide +kernel
set_option maxRecDepth 20000 in
theorem ggX9_near_X9_expressionOf : GoodIn wsX9_near wsX9_expressionOf := goodIn_ca (goodIn_r _ [11, 12, 13, 14, 66, 67, 68] (by decide +kernel) (by decide +kernel)) (goodIn_sub (fun _ h => List.mem_cons_of_mem _ (List.mem_append_left _ (List.mem_append_right _ h))) (by decide +kernel))
set_option maxRecDepth 20000 in
theorem gX9_near_X9_expressionOf : GoodIn wsX9_near (wsV RX9 101 RX9 yX9_expressionOf wsX9_expressionOf) := goodIn_app (goodIn_of _ (by decide +kernel)) ggX9_near_X9_expressionOf
set_option maxRecDepth 20000 in
theorem ggX9_near_X9_depthAbove : GoodIn wsX9_near wsX9_depthAbove := goodIn_r _ [17, 18, 19, 20, 21, 22, 69, 70, 71, 72, 73, 74, 75, 76, 77, 78, 59, 60, 61, 62, 63, 64, 65, 79, 80, 81, 82, 83, 84, 85, 86, 87, 88, 89, 90, 91, 92, 93, 94, 95, 96, 97, 98] (by decide +kernel) (by decide +kernel)
set_option maxRecDepth 20000 in
theorem gX9_near_X9_depthAbove : GoodIn wsX9_near (va_wsS RX9 107 yX9_depthAbove wsX9_depthAbove) := goodIn_app (goodIn_of _ (by decide +kernel)) ggX9_near_X9_depthAbove
set_option maxRecDepth 20000 in
theorem ggX9_near_X9_requireRoom : GoodIn wsX9_near wsX9_requireRoom := goodIn_ca (goodIn_r _ [26, 27, 28, 6, 66, 67, 68] (by decide +kernel) (by decide +kernel)) (goodIn_sub (fun _ h => List.mem_cons_of_mem _ (List.mem_append_right _ h)) (by decide +kernel))
set_option maxRecDepth 20000 in
theorem gX9_near_X9_requireRoom : GoodIn wsX9_near (wsV RX9 84 RX9 yX9_requireRoom wsX9_requireRoom) := goodIn_app (goodIn_of _ (by decide +kernel)) ggX9_near_X9_requireRoom
set_option maxRecDepth 20000 in
theorem ggX9_near_X3_init : GoodIn wsX9_near wsX3_init := goodIn_r _ [31, 32, 33, 34, 35, 16, 10, 17, 18, 19, 20, 21, 22, 36, 37, 38, 39, 40, 41, 42, 43, 44, 45, 46, 47, 48, 49, 50, 51, 52, 53, 54, 69, 70, 71, 72, 73, 74, 75, 76, 77, 78, 59, 60, 61, 62, 63, 64, 65, 79, 80, 81, 82, 83, 84, 85, 86, 87, 88, 89, 90, 91, 92, 93, 94, 95, 96, 97, 98, 99] (by decide +kernel) (by decide +kernel)
set_option maxRecDepth 20000 in
theorem gX9_near_X3_init : GoodIn wsX9_near (wsX3_init) := ggX9_near_X3_init
set_option maxRecDepth 20000 in
theorem ggX9_near_X9_keep : GoodIn wsX9_near wsX9_keep := goodIn_r _ [58, 6, 14, 66, 67, 68] (by decide +kernel) (by decide +kernel)
set_option maxRecDepth 20000 in
theorem gX9_near_X9_keep : GoodIn wsX9_near (wsV RX9 92 RX9 yX9_keep wsX9_keep) := goodIn_app (goodIn_of _ (by decide +kernel)) ggX9_near_X9_keep
theorem dX9_near_0 : decode cX9_near 0 = .ok (.aload_n 0, 1) := by decide +kernel
theorem dX9_near_1 : decode cX9_near 1 = .ok (.iload_n 1, 1) := by decide +kernel
theorem dX9_near_2 : decode cX9_near 2 = .ok (.invokevirtual 101, 3) := by decide +kernel
theorem dX9_near_5 : decode cX9_near 5 = .ok (.astore 4, 2) := by decide +kernel
theorem dX9_near_7 : decode cX9_near 7 = .ok (.aload_n 0, 1) := by decide +kernel
theorem dX9_near_8 : decode cX9_near 8 = .ok (.iload_n 2, 1) := by decide +kernel
theorem dX9_near_9 : decode cX9_near 9 = .ok (.invokevirtual 101, 3) := by decide +kernel
theorem dX9_near_12 : decode cX9_near 12 = .ok (.astore 5, 2) := by decide +kernel
theorem dX9_near_14 : decode cX9_near 14 = .ok (.iload_n 3, 1) := by decide +kernel
theorem dX9_near_15 : decode cX9_near 15 = .ok (.ifCond .lt 9, 3) := by decide +kernel
theorem dX9_near_18 : decode cX9_near 18 = .ok (.iload_n 3, 1) := by decide +kernel
theorem dX9_near_19 : decode cX9_near 19 = .ok (.bipush 24, 2) := by decide +kernel
theorem dX9_near_21 : decode cX9_near 21 = .ok (.if_icmp .le 13, 3) := by decide +kernel
theorem dX9_near_24 : decode cX9_near 24 = .ok (.new 48, 3) := by decide +kernel
theorem dX9_near_27 : decode cX9_near 27 = .ok (.dup, 1) := by decide +kernel
theorem dX9_near_28 : decode cX9_near 28 = .ok (.ldc 121, 2) := by decide +kernel
theorem dX9_near_30 : decode cX9_near 30 = .ok (.invokespecial 52, 3) := by decide +kernel
theorem dX9_near_33 : decode cX9_near 33 = .ok (.athrow, 1) := by decide +kernel
theorem dX9_near_34 : decode cX9_near 34 = .ok (.aload_n 0, 1) := by decide +kernel
theorem dX9_near_35 : decode cX9_near 35 = .ok (.aload 4, 2) := by decide +kernel
theorem dX9_near_37 : decode cX9_near 37 = .ok (.aload 5, 2) := by decide +kernel
theorem dX9_near_39 : decode cX9_near 39 = .ok (.invokestatic 107, 3) := by decide +kernel
theorem dX9_near_42 : decode cX9_near 42 = .ok (.invokevirtual 84, 3) := by decide +kernel
theorem dX9_near_45 : decode cX9_near 45 = .ok (.aload_n 0, 1) := by decide +kernel
theorem dX9_near_46 : decode cX9_near 46 = .ok (.new 123, 3) := by decide +kernel
theorem dX9_near_49 : decode cX9_near 49 = .ok (.dup, 1) := by decide +kernel
theorem dX9_near_50 : decode cX9_near 50 = .ok (.aload_n 0, 1) := by decide +kernel
theorem dX9_near_51 : decode cX9_near 51 = .ok (.getfield 22, 3) := by decide +kernel
theorem dX9_near_54 : decode cX9_near 54 = .ok (.aload 4, 2) := by decide +kernel
theorem dX9_near_56 : decode cX9_near 56 = .ok (.aload 5, 2) := by decide +kernel
theorem dX9_near_58 : decode cX9_near 58 = .ok (.iload_n 3, 1) := by decide +kernel
theorem dX9_near_59 : decode cX9_near 59 = .ok (.invokespecial 125, 3) := by decide +kernel
theorem dX9_near_62 : decode cX9_near 62 = .ok (.invokevirtual 92, 3) := by decide +kernel
theorem dX9_near_65 : decode cX9_near 65 = .ok (.ireturn, 1) := by decide +kernel
set_option maxRecDepth 20000 in
theorem ggX9_only_X9_expressionOf : GoodIn wsX9_only wsX9_expressionOf := goodIn_ca (goodIn_r _ [9, 10, 11, 12, 62, 63, 64] (by decide +kernel) (by decide +kernel)) (goodIn_sub (fun _ h => List.mem_cons_of_mem _ (List.mem_append_left _ (List.mem_append_right _ h))) (by decide +kernel))
set_option maxRecDepth 20000 in
theorem gX9_only_X9_expressionOf : GoodIn wsX9_only (wsV RX9 101 RX9 yX9_expressionOf wsX9_expressionOf) := goodIn_app (goodIn_of _ (by decide +kernel)) ggX9_only_X9_expressionOf
set_option maxRecDepth 20000 in
theorem ggX9_only_X9_depthAbove : GoodIn wsX9_only wsX9_depthAbove := goodIn_r _ [15, 16, 17, 18, 19, 20, 65, 66, 67, 68, 69, 70, 71, 72, 73, 74, 75, 76, 77, 78, 79, 80, 81, 56, 57, 58, 59, 60, 61, 82, 83, 84, 85, 86, 87, 88, 89, 90, 91, 92, 93, 94, 95] (by decide +kernel) (by decide +kernel)
set_option maxRecDepth 20000 in
theorem gX9_only_X9_depthAbove : GoodIn wsX9_only (va_wsS RX9 107 yX9_depthAbove wsX9_depthAbove) := goodIn_app (goodIn_of _ (by decide +kernel)) ggX9_only_X9_depthAbove
set_option maxRecDepth 20000 in
theorem ggX9_only_X9_requireRoom : GoodIn wsX9_only wsX9_requireRoom := goodIn_ca (goodIn_r _ [24, 25, 26, 4, 62, 63, 64] (by decide +kernel) (by decide +kernel)) (goodIn_sub (fun _ h => List.mem_cons_of_mem _ (List.mem_append_right _ h)) (by decide +kernel))
set_option maxRecDepth 20000 in
theorem gX9_only_X9_requireRoom : GoodIn wsX9_only (wsV RX9 84 RX9 yX9_requireRoom wsX9_requireRoom) := goodIn_app (goodIn_of _ (by decide +kernel)) ggX9_only_X9_requireRoom
set_option maxRecDepth 20000 in
theorem ggX9_only_X4_init : GoodIn wsX9_only wsX4_init := goodIn_r _ [29, 30, 31, 32, 14, 8, 15, 16, 17, 18, 19, 20, 33, 34, 35, 36, 37, 38, 39, 40, 41, 42, 43, 44, 45, 46, 47, 48, 49, 50, 51, 65, 66, 67, 68, 69, 70, 71, 72, 73, 74, 75, 76, 77, 78, 79, 80, 81, 56, 57, 58, 59, 60, 61, 82, 83, 84, 85, 86, 87, 88, 89, 90, 91, 92, 93, 94, 95, 96] (by decide +kernel) (by decide +kernel)
set_option maxRecDepth 20000 in
theorem gX9_only_X4_init : GoodIn wsX9_only (wsX4_init) := ggX9_only_X4_init
set_option maxRecDepth 20000 in
theorem ggX9_only_X9_keep : GoodIn wsX9_only wsX9_keep := goodIn_r _ [55, 4, 12, 62, 63, 64] (by decide +kernel) (by decide +kernel)
set_option maxRecDepth 20000 in
theorem gX9_only_X9_keep : GoodIn wsX9_only (wsV RX9 92 RX9 yX9_keep wsX9_keep) := goodIn_app (goodIn_of _ (by decide +kernel)) ggX9_only_X9_keep
theorem dX9_only_0 : decode cX9_only 0 = .ok (.aload_n 0, 1) := by decide +kernel
theorem dX9_only_1 : decode cX9_only 1 = .ok (.iload_n 1, 1) := by decide +kernel
theorem dX9_only_2 : decode cX9_only 2 = .ok (.invokevirtual 101, 3) := by decide +kernel
theorem dX9_only_5 : decode cX9_only 5 = .ok (.astore_n 3, 1) := by decide +kernel
theorem dX9_only_6 : decode cX9_only 6 = .ok (.aload_n 0, 1) := by decide +kernel
theorem dX9_only_7 : decode cX9_only 7 = .ok (.aload_n 3, 1) := by decide +kernel
theorem dX9_only_8 : decode cX9_only 8 = .ok (.aload_n 3, 1) := by decide +kernel
theorem dX9_only_9 : decode cX9_only 9 = .ok (.invokestatic 107, 3) := by decide +kernel
theorem dX9_only_12 : decode cX9_only 12 = .ok (.invokevirtual 84, 3) := by decide +kernel
theorem dX9_only_15 : decode cX9_only 15 = .ok (.aload_n 0, 1) := by decide +kernel
theorem dX9_only_16 : decode cX9_only 16 = .ok (.new 128, 3) := by decide +kernel
theorem dX9_only_19 : decode cX9_only 19 = .ok (.dup, 1) := by decide +kernel
theorem dX9_only_20 : decode cX9_only 20 = .ok (.aload_n 0, 1) := by decide +kernel
theorem dX9_only_21 : decode cX9_only 21 = .ok (.getfield 22, 3) := by decide +kernel
theorem dX9_only_24 : decode cX9_only 24 = .ok (.aload_n 3, 1) := by decide +kernel
theorem dX9_only_25 : decode cX9_only 25 = .ok (.iload_n 2, 1) := by decide +kernel
theorem dX9_only_26 : decode cX9_only 26 = .ok (.invokespecial 130, 3) := by decide +kernel
theorem dX9_only_29 : decode cX9_only 29 = .ok (.invokevirtual 92, 3) := by decide +kernel
theorem dX9_only_32 : decode cX9_only 32 = .ok (.ireturn, 1) := by decide +kernel
theorem dX9_nodes_0 : decode cX9_nodes 0 = .ok (.aload_n 0, 1) := by decide +kernel
theorem dX9_nodes_1 : decode cX9_nodes 1 = .ok (.getfield 22, 3) := by decide +kernel
theorem dX9_nodes_4 : decode cX9_nodes 4 = .ok (.ireturn, 1) := by decide +kernel
set_option maxRecDepth 20000 in
theorem ggX9_regions_X9_gatheredOf : GoodIn wsX9_regions wsX9_gatheredOf := goodIn_ca (goodIn_r _ [5, 6, 7, 8, 9, 10, 11, 4, 12, 13, 14, 15, 16, 17, 18, 19, 20, 21, 22, 23, 24, 25, 26, 27, 28, 29, 30, 31, 32, 33, 34, 35, 36, 37, 38, 39, 40, 41, 42, 43, 44, 45, 46, 47, 48, 49, 50, 51, 52, 53, 54, 55, 56, 57, 58, 59, 60, 61, 62, 63, 64, 65, 66, 67, 68, 69, 70, 71, 72, 73, 74, 75, 76, 77, 78, 79, 80, 81, 82, 83, 84, 85, 86, 87, 88, 89, 90, 91, 92, 93, 94, 95, 96, 97, 98, 99, 100, 101, 102, 103, 104, 105, 106, 107, 108, 109, 110, 111, 112, 113, 114, 115, 116, 117, 118, 119, 120, 121, 122, 123, 124, 125, 126, 127, 128, 129, 130, 131, 132, 133, 134, 135, 136, 137, 138, 139, 140, 141, 142, 143, 144, 145, 146, 147, 148, 149, 150, 151, 152, 153, 154, 155, 156, 157, 158, 159, 160, 161, 162, 163, 164, 165, 166, 167, 168, 169, 170, 171, 172, 173, 185, 186, 187, 188, 189, 190, 191, 192, 193, 194, 195, 196, 197, 198, 199, 200, 201, 202, 203, 204, 205, 206, 207, 208, 209, 210, 211, 212, 213, 214, 215, 216, 217, 218, 219, 220, 221, 222, 223, 224, 225, 226, 227, 228] (by decide +kernel) (by decide +kernel)) (goodIn_sub (fun _ h => List.mem_cons_of_mem _ (List.mem_append_right _ h)) (by decide +kernel))
set_option maxRecDepth 20000 in
theorem gX9_regions_X9_gatheredOf : GoodIn wsX9_regions (wsV RX9 133 RX9 yX9_gatheredOf wsX9_gatheredOf) := goodIn_app (goodIn_of _ (by decide +kernel)) ggX9_regions_X9_gatheredOf
set_option maxRecDepth 20000 in
theorem ggX9_regions_X6_size : GoodIn wsX9_regions wsX6_size := goodIn_r _ [177, 41, 178, 179, 180, 181, 182, 183, 184, 225] (by decide +kernel) (by decide +kernel)
set_option maxRecDepth 20000 in
theorem gX9_regions_X6_size : GoodIn wsX9_regions (wsV RX9 75 RX6 yX6_size wsX6_size) := goodIn_app (goodIn_of _ (by decide +kernel)) ggX9_regions_X6_size
theorem dX9_regions_0 : decode cX9_regions 0 = .ok (.aload_n 0, 1) := by decide +kernel
theorem dX9_regions_1 : decode cX9_regions 1 = .ok (.iload_n 1, 1) := by decide +kernel
theorem dX9_regions_2 : decode cX9_regions 2 = .ok (.invokevirtual 133, 3) := by decide +kernel
theorem dX9_regions_5 : decode cX9_regions 5 = .ok (.invokevirtual 75, 3) := by decide +kernel
theorem dX9_regions_8 : decode cX9_regions 8 = .ok (.ireturn, 1) := by decide +kernel
set_option maxRecDepth 20000 in
theorem ggX9_regionsOneByOne_X9_askedOf : GoodIn wsX9_regionsOneByOne wsX9_askedOf := goodIn_ca (goodIn_r _ [5, 6, 7, 8, 9, 10, 11, 4, 12, 13, 14, 15, 16, 17, 18, 19, 20, 21, 22, 23, 24, 25, 26, 27, 28, 29, 30, 31, 32, 33, 34, 35, 36, 37, 38, 39, 40, 41, 42, 43, 44, 45, 46, 47, 48, 49, 50, 51, 52, 53, 54, 55, 56, 57, 58, 59, 60, 61, 62, 63, 64, 65, 66, 67, 68, 69, 70, 71, 72, 73, 74, 75, 76, 77, 78, 79, 80, 81, 82, 83, 84, 85, 86, 87, 88, 89, 90, 91, 92, 93, 94, 95, 96, 97, 98, 99, 100, 101, 102, 103, 104, 105, 106, 107, 108, 109, 110, 111, 112, 113, 114, 115, 116, 117, 118, 119, 120, 121, 122, 123, 124, 125, 126, 127, 128, 129, 130, 131, 132, 133, 134, 135, 136, 137, 138, 139, 140, 141, 142, 143, 155, 156, 157, 158, 159, 160, 161, 162, 163, 164, 165, 166, 167, 168, 169, 170, 171, 172, 173, 174, 175, 176, 177, 178, 179, 180, 181, 182, 183, 184, 185, 186, 187, 188, 189, 190, 191, 192, 193, 194, 195, 196, 197, 198] (by decide +kernel) (by decide +kernel)) (goodIn_sub (fun _ h => List.mem_cons_of_mem _ (List.mem_append_right _ h)) (by decide +kernel))
set_option maxRecDepth 20000 in
theorem gX9_regionsOneByOne_X9_askedOf : GoodIn wsX9_regionsOneByOne (wsV RX9 136 RX9 yX9_askedOf wsX9_askedOf) := goodIn_app (goodIn_of _ (by decide +kernel)) ggX9_regionsOneByOne_X9_askedOf
set_option maxRecDepth 20000 in
theorem ggX9_regionsOneByOne_X6_size : GoodIn wsX9_regionsOneByOne wsX6_size := goodIn_r _ [147, 38, 148, 149, 150, 151, 152, 153, 154, 198] (by decide +kernel) (by decide +kernel)
set_option maxRecDepth 20000 in
theorem gX9_regionsOneByOne_X6_size : GoodIn wsX9_regionsOneByOne (wsV RX9 75 RX6 yX6_size wsX6_size) := goodIn_app (goodIn_of _ (by decide +kernel)) ggX9_regionsOneByOne_X6_size
theorem dX9_regionsOneByOne_0 : decode cX9_regionsOneByOne 0 = .ok (.aload_n 0, 1) := by decide +kernel
theorem dX9_regionsOneByOne_1 : decode cX9_regionsOneByOne 1 = .ok (.iload_n 1, 1) := by decide +kernel
theorem dX9_regionsOneByOne_2 : decode cX9_regionsOneByOne 2 = .ok (.invokevirtual 136, 3) := by decide +kernel
theorem dX9_regionsOneByOne_5 : decode cX9_regionsOneByOne 5 = .ok (.invokevirtual 75, 3) := by decide +kernel
theorem dX9_regionsOneByOne_8 : decode cX9_regionsOneByOne 8 = .ok (.ireturn, 1) := by decide +kernel
set_option maxRecDepth 20000 in
theorem ggX9_regionAt_X9_gatheredOf : GoodIn wsX9_regionAt wsX9_gatheredOf := goodIn_ca (goodIn_r _ [7, 8, 9, 10, 11, 12, 13, 6, 14, 1, 2, 15, 16, 17, 18, 19, 20, 21, 22, 23, 24, 25, 26, 27, 28, 29, 30, 31, 32, 33, 34, 35, 36, 37, 38, 39, 40, 41, 42, 43, 44, 45, 46, 47, 48, 49, 50, 51, 52, 53, 54, 55, 56, 57, 58, 59, 60, 61, 62, 63, 64, 65, 66, 67, 68, 69, 70, 71, 72, 73, 74, 75, 76, 77, 78, 79, 80, 81, 82, 83, 84, 85, 86, 87, 88, 89, 90, 91, 92, 93, 94, 95, 96, 97, 98, 99, 100, 101, 102, 103, 104, 105, 106, 107, 108, 109, 110, 111, 112, 113, 114, 115, 116, 117, 118, 119, 120, 121, 122, 123, 124, 125, 126, 127, 128, 129, 130, 131, 132, 133, 134, 135, 136, 137, 138, 139, 140, 141, 142, 143, 144, 145, 146, 147, 148, 149, 150, 151, 152, 153, 154, 155, 156, 157, 158, 159, 160, 161, 162, 163, 164, 165, 166, 167, 168, 169, 170, 171, 172, 173, 182, 183, 184, 185, 186, 187, 188, 189, 190, 191, 192, 193, 194, 195, 196, 197, 198, 199, 200, 201, 202, 203, 204, 205, 206, 207, 208, 209, 210, 211, 212, 213, 214, 215, 216, 217, 218, 219, 220, 221, 222, 223, 224, 225] (by decide +kernel) (by decide +kernel)) (goodIn_sub (fun _ h => List.mem_cons_of_mem _ (List.mem_append_right _ h)) (by decide +kernel))
set_option maxRecDepth 20000 in
theorem gX9_regionAt_X9_gatheredOf : GoodIn wsX9_regionAt (wsV RX9 133 RX9 yX9_gatheredOf wsX9_gatheredOf) := goodIn_app (goodIn_of _ (by decide +kernel)) ggX9_regionAt_X9_gatheredOf
set_option maxRecDepth 20000 in
theorem ggX9_regionAt_X6_told : GoodIn wsX9_regionAt wsX6_told := goodIn_r _ [177, 178, 179, 180, 39, 181, 41, 222] (by decide +kernel) (by decide +kernel)
set_option maxRecDepth 20000 in
theorem gX9_regionAt_X6_told : GoodIn wsX9_regionAt (wsV RX9 64 RX6 yX6_told wsX6_told) := goodIn_app (goodIn_of _ (by decide +kernel)) ggX9_regionAt_X6_told
