set_option maxRecDepth 20000 in
theorem ggX0_init_X6_init : GoodIn wsX0_init wsX6_init := goodIn_r _ [12, 13, 2, 3, 14, 15, 16] (by decide +kernel) (by decide +kernel)
set_option maxRecDepth 20000 in
theorem gX0_init_X6_init_n9 : GoodIn wsX0_init (wsX6_init) := ggX0_init_X6_init
theorem dX0_init_0 : decode cX0_init 0 = .ok (.aload_n 0, 1) := by decide +kernel
theorem dX0_init_1 : decode cX0_init 1 = .ok (.invokespecial 1, 3) := by decide +kernel
theorem dX0_init_4 : decode cX0_init 4 = .ok (.aload_n 0, 1) := by decide +kernel
theorem dX0_init_5 : decode cX0_init 5 = .ok (.new 7, 3) := by decide +kernel
theorem dX0_init_8 : decode cX0_init 8 = .ok (.dup, 1) := by decide +kernel
theorem dX0_init_9 : decode cX0_init 9 = .ok (.invokespecial 9, 3) := by decide +kernel
theorem dX0_init_12 : decode cX0_init 12 = .ok (.putfield 10, 3) := by decide +kernel
theorem dX0_init_15 : decode cX0_init 15 = .ok (.aload_n 0, 1) := by decide +kernel
theorem dX0_init_16 : decode cX0_init 16 = .ok (.new 7, 3) := by decide +kernel
theorem dX0_init_19 : decode cX0_init 19 = .ok (.dup, 1) := by decide +kernel
theorem dX0_init_20 : decode cX0_init 20 = .ok (.invokespecial 9, 3) := by decide +kernel
theorem dX0_init_23 : decode cX0_init 23 = .ok (.putfield 16, 3) := by decide +kernel
theorem dX0_init_26 : decode cX0_init 26 = .ok (.aload_n 0, 1) := by decide +kernel
theorem dX0_init_27 : decode cX0_init 27 = .ok (.iload_n 2, 1) := by decide +kernel
theorem dX0_init_28 : decode cX0_init 28 = .ok (.putfield 19, 3) := by decide +kernel
theorem dX0_init_31 : decode cX0_init 31 = .ok (.aload_n 0, 1) := by decide +kernel
theorem dX0_init_32 : decode cX0_init 32 = .ok (.iload_n 3, 1) := by decide +kernel
theorem dX0_init_33 : decode cX0_init 33 = .ok (.iconst 1, 1) := by decide +kernel
theorem dX0_init_34 : decode cX0_init 34 = .ok (.iload_n 1, 1) := by decide +kernel
theorem dX0_init_35 : decode cX0_init 35 = .ok (.ishl, 1) := by decide +kernel
theorem dX0_init_36 : decode cX0_init 36 = .ok (.ior, 1) := by decide +kernel
theorem dX0_init_37 : decode cX0_init 37 = .ok (.putfield 23, 3) := by decide +kernel
theorem dX0_init_40 : decode cX0_init 40 = .ok (.return_, 1) := by decide +kernel
theorem dX0_needs_0 : decode cX0_needs 0 = .ok (.aload_n 0, 1) := by decide +kernel
theorem dX0_needs_1 : decode cX0_needs 1 = .ok (.getfield 23, 3) := by decide +kernel
theorem dX0_needs_4 : decode cX0_needs 4 = .ok (.iconst 1, 1) := by decide +kernel
theorem dX0_needs_5 : decode cX0_needs 5 = .ok (.iload_n 1, 1) := by decide +kernel
theorem dX0_needs_6 : decode cX0_needs 6 = .ok (.ishl, 1) := by decide +kernel
theorem dX0_needs_7 : decode cX0_needs 7 = .ok (.iand, 1) := by decide +kernel
theorem dX0_needs_8 : decode cX0_needs 8 = .ok (.ifCond .eq 7, 3) := by decide +kernel
theorem dX0_needs_11 : decode cX0_needs 11 = .ok (.iconst 1, 1) := by decide +kernel
theorem dX0_needs_12 : decode cX0_needs 12 = .ok (.goto 4, 3) := by decide +kernel
theorem dX0_needs_15 : decode cX0_needs 15 = .ok (.iconst 0, 1) := by decide +kernel
theorem dX0_needs_16 : decode cX0_needs 16 = .ok (.ireturn, 1) := by decide +kernel
set_option maxRecDepth 20000 in
theorem ggX0_askEach_X6_clear : GoodIn wsX0_askEach wsX6_clear := goodIn_r _ [6, 7, 137] (by decide +kernel) (by decide +kernel)
set_option maxRecDepth 20000 in
theorem gX0_askEach_X6_clear : GoodIn wsX0_askEach (wsV RX0 26 RX6 yX6_clear wsX6_clear) := goodIn_app (goodIn_of _ (by decide +kernel)) ggX0_askEach_X6_clear
set_option maxRecDepth 20000 in
theorem ggX0_askEach_X1_isOne : GoodIn wsX0_askEach wsX1_isOne := goodIn_r _ [13, 14, 15, 16, 17, 5, 18, 7, 97, 98, 99, 100, 101, 137] (by decide +kernel) (by decide +kernel)
set_option maxRecDepth 20000 in
theorem gX0_askEach_X1_isOne_u34X1 : GoodIn wsX0_askEach (va_wsU RX0 34 RX1 "Regionry$Expression" ⟨"Regionry$Expression", "isOne", "(LRegionry$Text;II)Z"⟩ yX1_isOne wsX1_isOne) := goodIn_app (goodIn_of _ (by decide +kernel)) ggX0_askEach_X1_isOne
set_option maxRecDepth 20000 in
theorem ggX0_askEach_X2_isOne : GoodIn wsX0_askEach wsX2_isOne := goodIn_r _ [22, 23, 24, 25, 26, 27, 28, 29, 30, 31, 32, 33, 34, 102, 103, 104, 105, 106, 134, 135, 136] (by decide +kernel) (by decide +kernel)
set_option maxRecDepth 20000 in
theorem gX0_askEach_X2_isOne_u34X2 : GoodIn wsX0_askEach (va_wsU RX0 34 RX2 "Regionry$Expression" ⟨"Regionry$Expression", "isOne", "(LRegionry$Text;II)Z"⟩ yX2_isOne wsX2_isOne) := goodIn_app (goodIn_of _ (by decide +kernel)) ggX0_askEach_X2_isOne
set_option maxRecDepth 20000 in
theorem ggX0_askEach_X3_isOne : GoodIn wsX0_askEach wsX3_isOne := goodIn_r _ [38, 39, 40, 41, 42, 43, 44, 5, 45, 46, 47, 48, 49, 50, 16, 17, 18, 7, 51, 52, 53, 54, 55, 56, 57, 107, 108, 109, 110, 111, 112, 113, 97, 98, 99, 100, 101, 102, 103, 104, 105, 106, 114, 115, 116, 117, 118, 119, 120, 121, 122, 123, 124, 125, 126, 127, 128, 129, 130, 131, 132, 133, 137] (by decide +kernel) (by decide +kernel)
set_option maxRecDepth 20000 in
theorem gX0_askEach_X3_isOne_u34X3 : GoodIn wsX0_askEach (va_wsU RX0 34 RX3 "Regionry$Expression" ⟨"Regionry$Expression", "isOne", "(LRegionry$Text;II)Z"⟩ yX3_isOne wsX3_isOne) := goodIn_app (goodIn_of _ (by decide +kernel)) ggX0_askEach_X3_isOne
set_option maxRecDepth 20000 in
theorem ggX0_askEach_X4_isOne : GoodIn wsX0_askEach wsX4_isOne := goodIn_r _ [61, 62, 63, 64, 65, 16, 17, 5, 18, 7, 66, 67, 68, 69, 51, 52, 53, 54, 55, 56, 48, 57, 50, 70, 71, 72, 73, 114, 115, 116, 117, 118, 119, 97, 98, 99, 100, 101, 102, 103, 104, 105, 106, 107, 108, 109, 110, 111, 112, 113, 120, 121, 122, 123, 124, 125, 126, 127, 128, 129, 130, 131, 132, 133, 137] (by decide +kernel) (by decide +kernel)
set_option maxRecDepth 20000 in
theorem gX0_askEach_X4_isOne_u34X4 : GoodIn wsX0_askEach (va_wsU RX0 34 RX4 "Regionry$Expression" ⟨"Regionry$Expression", "isOne", "(LRegionry$Text;II)Z"⟩ yX4_isOne wsX4_isOne) := goodIn_app (goodIn_of _ (by decide +kernel)) ggX0_askEach_X4_isOne
set_option maxRecDepth 20000 in
theorem ggX0_askEach_X5_isOne : GoodIn wsX0_askEach wsX5_isOne := goodIn_r _ [77, 78, 79, 80, 81, 82, 16, 17, 5, 18, 7, 83, 71, 72, 73, 51, 52, 53, 54, 55, 56, 48, 57, 50, 84, 67, 68, 69, 85, 120, 121, 122, 123, 124, 125, 126, 97, 98, 99, 100, 101, 102, 103, 104, 105, 106, 107, 108, 109, 110, 111, 112, 113, 114, 115, 116, 117, 118, 119, 127, 128, 129, 130, 131, 132, 133, 137] (by decide +kernel) (by decide +kernel)
set_option maxRecDepth 20000 in
theorem gX0_askEach_X5_isOne_u34X5 : GoodIn wsX0_askEach (va_wsU RX0 34 RX5 "Regionry$Expression" ⟨"Regionry$Expression", "isOne", "(LRegionry$Text;II)Z"⟩ yX5_isOne wsX5_isOne) := goodIn_app (goodIn_of _ (by decide +kernel)) ggX0_askEach_X5_isOne
set_option maxRecDepth 20000 in
theorem ggX0_askEach_X7_isOne : GoodIn wsX0_askEach wsX7_isOne := goodIn_r _ [89, 90, 91, 16, 17, 5, 18, 7, 92, 71, 72, 73, 51, 52, 53, 54, 55, 56, 48, 57, 50, 127, 128, 129, 130, 131, 132, 133, 137] (by decide +kernel) (by decide +kernel)
set_option maxRecDepth 20000 in
theorem gX0_askEach_X7_isOne_u34X7 : GoodIn wsX0_askEach (va_wsU RX0 34 RX7 "Regionry$Expression" ⟨"Regionry$Expression", "isOne", "(LRegionry$Text;II)Z"⟩ yX7_isOne wsX7_isOne) := goodIn_app (goodIn_of _ (by decide +kernel)) ggX0_askEach_X7_isOne
set_option maxRecDepth 20000 in
theorem ggX0_askEach_X6_add : GoodIn wsX0_askEach wsX6_add := goodIn_r _ [96, 7, 137] (by decide +kernel) (by decide +kernel)
set_option maxRecDepth 20000 in
theorem gX0_askEach_X6_add : GoodIn wsX0_askEach (wsV RX0 38 RX6 yX6_add wsX6_add) := goodIn_app (goodIn_of _ (by decide +kernel)) ggX0_askEach_X6_add
theorem dX0_askEach_0 : decode cX0_askEach 0 = .ok (.aload_n 0, 1) := by decide +kernel
theorem dX0_askEach_1 : decode cX0_askEach 1 = .ok (.getfield 16, 3) := by decide +kernel
theorem dX0_askEach_4 : decode cX0_askEach 4 = .ok (.invokevirtual 26, 3) := by decide +kernel
theorem dX0_askEach_7 : decode cX0_askEach 7 = .ok (.iconst 0, 1) := by decide +kernel
theorem dX0_askEach_8 : decode cX0_askEach 8 = .ok (.istore_n 2, 1) := by decide +kernel
theorem dX0_askEach_9 : decode cX0_askEach 9 = .ok (.iload_n 2, 1) := by decide +kernel
theorem dX0_askEach_10 : decode cX0_askEach 10 = .ok (.aload_n 1, 1) := by decide +kernel
theorem dX0_askEach_11 : decode cX0_askEach 11 = .ok (.getfield 29, 3) := by decide +kernel
theorem dX0_askEach_14 : decode cX0_askEach 14 = .ok (.if_icmp .ge 46, 3) := by decide +kernel
theorem dX0_askEach_17 : decode cX0_askEach 17 = .ok (.iload_n 2, 1) := by decide +kernel
theorem dX0_askEach_18 : decode cX0_askEach 18 = .ok (.iconst 1, 1) := by decide +kernel
theorem dX0_askEach_19 : decode cX0_askEach 19 = .ok (.iadd, 1) := by decide +kernel
theorem dX0_askEach_20 : decode cX0_askEach 20 = .ok (.istore_n 3, 1) := by decide +kernel
theorem dX0_askEach_21 : decode cX0_askEach 21 = .ok (.iload_n 3, 1) := by decide +kernel
theorem dX0_askEach_22 : decode cX0_askEach 22 = .ok (.aload_n 1, 1) := by decide +kernel
theorem dX0_askEach_23 : decode cX0_askEach 23 = .ok (.getfield 29, 3) := by decide +kernel
theorem dX0_askEach_26 : decode cX0_askEach 26 = .ok (.if_icmp .gt 28, 3) := by decide +kernel
theorem dX0_askEach_29 : decode cX0_askEach 29 = .ok (.aload_n 0, 1) := by decide +kernel
theorem dX0_askEach_30 : decode cX0_askEach 30 = .ok (.aload_n 1, 1) := by decide +kernel
theorem dX0_askEach_31 : decode cX0_askEach 31 = .ok (.iload_n 2, 1) := by decide +kernel
theorem dX0_askEach_32 : decode cX0_askEach 32 = .ok (.iload_n 3, 1) := by decide +kernel
theorem dX0_askEach_33 : decode cX0_askEach 33 = .ok (.invokevirtual 34, 3) := by decide +kernel
theorem dX0_askEach_36 : decode cX0_askEach 36 = .ok (.ifCond .eq 12, 3) := by decide +kernel
theorem dX0_askEach_39 : decode cX0_askEach 39 = .ok (.aload_n 0, 1) := by decide +kernel
theorem dX0_askEach_40 : decode cX0_askEach 40 = .ok (.getfield 16, 3) := by decide +kernel
theorem dX0_askEach_43 : decode cX0_askEach 43 = .ok (.iload_n 2, 1) := by decide +kernel
theorem dX0_askEach_44 : decode cX0_askEach 44 = .ok (.iload_n 3, 1) := by decide +kernel
theorem dX0_askEach_45 : decode cX0_askEach 45 = .ok (.invokevirtual 38, 3) := by decide +kernel
theorem dX0_askEach_48 : decode cX0_askEach 48 = .ok (.iinc 3 1, 3) := by decide +kernel
theorem dX0_askEach_51 : decode cX0_askEach 51 = .ok (.goto (-30), 3) := by decide +kernel
theorem dX0_askEach_54 : decode cX0_askEach 54 = .ok (.iinc 2 1, 3) := by decide +kernel
theorem dX0_askEach_57 : decode cX0_askEach 57 = .ok (.goto (-48), 3) := by decide +kernel
theorem dX0_askEach_60 : decode cX0_askEach 60 = .ok (.return_, 1) := by decide +kernel
set_option maxRecDepth 20000 in
theorem ggX1_init_X0_init : GoodIn wsX1_init wsX0_init := goodIn_r _ [5, 6, 7, 8, 9, 10, 11, 12, 13, 14, 15, 16, 17, 18, 19, 20, 26, 21, 22, 23, 24, 25, 27, 28, 29, 30, 31, 32, 33, 34, 35, 36, 37, 38, 39, 40, 41, 42, 43, 44, 45, 46, 47, 48, 49, 50, 51, 52, 53, 54, 55, 56, 57, 58] (by decide +kernel) (by decide +kernel)
set_option maxRecDepth 20000 in
theorem gX1_init_X0_init : GoodIn wsX1_init (wsX0_init) := ggX1_init_X0_init
theorem dX1_init_0 : decode cX1_init 0 = .ok (.aload_n 0, 1) := by decide +kernel
theorem dX1_init_1 : decode cX1_init 1 = .ok (.iload_n 1, 1) := by decide +kernel
theorem dX1_init_2 : decode cX1_init 2 = .ok (.iconst 1, 1) := by decide +kernel
theorem dX1_init_3 : decode cX1_init 3 = .ok (.iconst 0, 1) := by decide +kernel
theorem dX1_init_4 : decode cX1_init 4 = .ok (.invokespecial 1, 3) := by decide +kernel
theorem dX1_init_7 : decode cX1_init 7 = .ok (.aload_n 0, 1) := by decide +kernel
theorem dX1_init_8 : decode cX1_init 8 = .ok (.aload_n 2, 1) := by decide +kernel
theorem dX1_init_9 : decode cX1_init 9 = .ok (.putfield 7, 3) := by decide +kernel
theorem dX1_init_12 : decode cX1_init 12 = .ok (.return_, 1) := by decide +kernel
set_option maxRecDepth 20000 in
theorem ggX1_gather_X6_takeOver : GoodIn wsX1_gather wsX6_takeOver := goodIn_r _ [8, 9, 10, 11, 12, 7, 13, 51] (by decide +kernel) (by decide +kernel)
set_option maxRecDepth 20000 in
theorem gX1_gather_X6_takeOver : GoodIn wsX1_gather (wsV RX1 16 RX6 yX6_takeOver wsX6_takeOver) := goodIn_app (goodIn_of _ (by decide +kernel)) ggX1_gather_X6_takeOver
theorem dX1_gather_0 : decode cX1_gather 0 = .ok (.aload_n 0, 1) := by decide +kernel
theorem dX1_gather_1 : decode cX1_gather 1 = .ok (.getfield 13, 3) := by decide +kernel
theorem dX1_gather_4 : decode cX1_gather 4 = .ok (.aload_n 0, 1) := by decide +kernel
theorem dX1_gather_5 : decode cX1_gather 5 = .ok (.getfield 7, 3) := by decide +kernel
theorem dX1_gather_8 : decode cX1_gather 8 = .ok (.invokevirtual 16, 3) := by decide +kernel
theorem dX1_gather_11 : decode cX1_gather 11 = .ok (.return_, 1) := by decide +kernel
set_option maxRecDepth 20000 in
theorem ggX1_isOne_X6_contains : GoodIn wsX1_isOne wsX6_contains := goodIn_r _ [6, 7, 13] (by decide +kernel) (by decide +kernel)
set_option maxRecDepth 20000 in
theorem gX1_isOne_X6_contains : GoodIn wsX1_isOne (wsV RX1 22 RX6 yX6_contains wsX6_contains) := goodIn_app (goodIn_of _ (by decide +kernel)) ggX1_isOne_X6_contains
theorem dX1_isOne_0 : decode cX1_isOne 0 = .ok (.aload_n 0, 1) := by decide +kernel
theorem dX1_isOne_1 : decode cX1_isOne 1 = .ok (.getfield 7, 3) := by decide +kernel
theorem dX1_isOne_4 : decode cX1_isOne 4 = .ok (.iload_n 2, 1) := by decide +kernel
theorem dX1_isOne_5 : decode cX1_isOne 5 = .ok (.iload_n 3, 1) := by decide +kernel
theorem dX1_isOne_6 : decode cX1_isOne 6 = .ok (.invokevirtual 22, 3) := by decide +kernel
theorem dX1_isOne_9 : decode cX1_isOne 9 = .ok (.ireturn, 1) := by decide +kernel
set_option maxRecDepth 20000 in
theorem ggX2_init_X0_init : GoodIn wsX2_init wsX0_init := goodIn_r _ [5, 6, 7, 8, 9, 10, 11, 12, 13, 14, 15, 16, 17, 18, 19, 20, 26, 27, 28, 29, 30, 31, 21, 22, 23, 24, 25, 32, 33, 34, 35, 36, 37, 38, 39, 40, 41, 42, 43, 44, 45, 46, 47, 48, 49, 50, 51, 52, 53, 54, 55, 56, 57, 58] (by decide +kernel) (by decide +kernel)
set_option maxRecDepth 20000 in
theorem gX2_init_X0_init : GoodIn wsX2_init (wsX0_init) := ggX2_init_X0_init
theorem dX2_init_0 : decode cX2_init 0 = .ok (.aload_n 0, 1) := by decide +kernel
theorem dX2_init_1 : decode cX2_init 1 = .ok (.iload_n 1, 1) := by decide +kernel
theorem dX2_init_2 : decode cX2_init 2 = .ok (.iconst 1, 1) := by decide +kernel
theorem dX2_init_3 : decode cX2_init 3 = .ok (.iconst 0, 1) := by decide +kernel
theorem dX2_init_4 : decode cX2_init 4 = .ok (.invokespecial 1, 3) := by decide +kernel
theorem dX2_init_7 : decode cX2_init 7 = .ok (.aload_n 0, 1) := by decide +kernel
theorem dX2_init_8 : decode cX2_init 8 = .ok (.iload_n 2, 1) := by decide +kernel
theorem dX2_init_9 : decode cX2_init 9 = .ok (.putfield 7, 3) := by decide +kernel
theorem dX2_init_12 : decode cX2_init 12 = .ok (.return_, 1) := by decide +kernel
set_option maxRecDepth 20000 in
theorem ggX2_gather_X6_clear : GoodIn wsX2_gather wsX6_clear := goodIn_r _ [8, 9, 65] (by decide +kernel) (by decide +kernel)
set_option maxRecDepth 20000 in
theorem gX2_gather_X6_clear : GoodIn wsX2_gather (wsV RX2 17 RX6 yX6_clear wsX6_clear) := goodIn_app (goodIn_of _ (by decide +kernel)) ggX2_gather_X6_clear
set_option maxRecDepth 20000 in
theorem ggX2_gather_X8_isAt : GoodIn wsX2_gather wsX8_isAt := goodIn_r _ [14, 15, 16, 17, 18, 13, 19, 20, 62, 63, 64] (by decide +kernel) (by decide +kernel)
set_option maxRecDepth 20000 in
theorem gX2_gather_X8_isAt : GoodIn wsX2_gather (wsV RX2 28 RX8 yX8_isAt wsX8_isAt) := goodIn_app (goodIn_of _ (by decide +kernel)) ggX2_gather_X8_isAt
set_option maxRecDepth 20000 in
theorem ggX2_gather_X6_add : GoodIn wsX2_gather wsX6_add := goodIn_r _ [24, 9, 65] (by decide +kernel) (by decide +kernel)
set_option maxRecDepth 20000 in
theorem gX2_gather_X6_add : GoodIn wsX2_gather (wsV RX2 32 RX6 yX6_add wsX6_add) := goodIn_app (goodIn_of _ (by decide +kernel)) ggX2_gather_X6_add
theorem dX2_gather_0 : decode cX2_gather 0 = .ok (.aload_n 0, 1) := by decide +kernel
theorem dX2_gather_1 : decode cX2_gather 1 = .ok (.getfield 13, 3) := by decide +kernel
theorem dX2_gather_4 : decode cX2_gather 4 = .ok (.invokevirtual 17, 3) := by decide +kernel
theorem dX2_gather_7 : decode cX2_gather 7 = .ok (.iconst 0, 1) := by decide +kernel
theorem dX2_gather_8 : decode cX2_gather 8 = .ok (.istore_n 2, 1) := by decide +kernel
theorem dX2_gather_9 : decode cX2_gather 9 = .ok (.iload_n 2, 1) := by decide +kernel
theorem dX2_gather_10 : decode cX2_gather 10 = .ok (.aload_n 1, 1) := by decide +kernel
theorem dX2_gather_11 : decode cX2_gather 11 = .ok (.getfield 23, 3) := by decide +kernel
theorem dX2_gather_14 : decode cX2_gather 14 = .ok (.if_icmp .ge 32, 3) := by decide +kernel
theorem dX2_gather_17 : decode cX2_gather 17 = .ok (.aload_n 1, 1) := by decide +kernel
theorem dX2_gather_18 : decode cX2_gather 18 = .ok (.aload_n 0, 1) := by decide +kernel
theorem dX2_gather_19 : decode cX2_gather 19 = .ok (.getfield 7, 3) := by decide +kernel
theorem dX2_gather_22 : decode cX2_gather 22 = .ok (.iload_n 2, 1) := by decide +kernel
theorem dX2_gather_23 : decode cX2_gather 23 = .ok (.invokevirtual 28, 3) := by decide +kernel
theorem dX2_gather_26 : decode cX2_gather 26 = .ok (.ifCond .eq 14, 3) := by decide +kernel
theorem dX2_gather_29 : decode cX2_gather 29 = .ok (.aload_n 0, 1) := by decide +kernel
theorem dX2_gather_30 : decode cX2_gather 30 = .ok (.getfield 13, 3) := by decide +kernel
theorem dX2_gather_33 : decode cX2_gather 33 = .ok (.iload_n 2, 1) := by decide +kernel
theorem dX2_gather_34 : decode cX2_gather 34 = .ok (.iload_n 2, 1) := by decide +kernel
theorem dX2_gather_35 : decode cX2_gather 35 = .ok (.iconst 1, 1) := by decide +kernel
theorem dX2_gather_36 : decode cX2_gather 36 = .ok (.iadd, 1) := by decide +kernel
theorem dX2_gather_37 : decode cX2_gather 37 = .ok (.invokevirtual 32, 3) := by decide +kernel
theorem dX2_gather_40 : decode cX2_gather 40 = .ok (.iinc 2 1, 3) := by decide +kernel
theorem dX2_gather_43 : decode cX2_gather 43 = .ok (.goto (-34), 3) := by decide +kernel
theorem dX2_gather_46 : decode cX2_gather 46 = .ok (.return_, 1) := by decide +kernel
set_option maxRecDepth 20000 in
theorem ggX2_isOne_X8_isAt : GoodIn wsX2_isOne wsX8_isAt := goodIn_r _ [6, 7, 8, 9, 10, 5, 11, 12, 18, 19, 20] (by decide +kernel) (by decide +kernel)
set_option maxRecDepth 20000 in
theorem gX2_isOne_X8_isAt : GoodIn wsX2_isOne (wsV RX2 28 RX8 yX8_isAt wsX8_isAt) := goodIn_app (goodIn_of _ (by decide +kernel)) ggX2_isOne_X8_isAt
theorem dX2_isOne_0 : decode cX2_isOne 0 = .ok (.iload_n 3, 1) := by decide +kernel
theorem dX2_isOne_1 : decode cX2_isOne 1 = .ok (.iload_n 2, 1) := by decide +kernel
theorem dX2_isOne_2 : decode cX2_isOne 2 = .ok (.iconst 1, 1) := by decide +kernel
theorem dX2_isOne_3 : decode cX2_isOne 3 = .ok (.iadd, 1) := by decide +kernel
theorem dX2_isOne_4 : decode cX2_isOne 4 = .ok (.if_icmp .ne 19, 3) := by decide +kernel
theorem dX2_isOne_7 : decode cX2_isOne 7 = .ok (.aload_n 1, 1) := by decide +kernel
theorem dX2_isOne_8 : decode cX2_isOne 8 = .ok (.aload_n 0, 1) := by decide +kernel
theorem dX2_isOne_9 : decode cX2_isOne 9 = .ok (.getfield 7, 3) := by decide +kernel
theorem dX2_isOne_12 : decode cX2_isOne 12 = .ok (.iload_n 2, 1) := by decide +kernel
theorem dX2_isOne_13 : decode cX2_isOne 13 = .ok (.invokevirtual 28, 3) := by decide +kernel
theorem dX2_isOne_16 : decode cX2_isOne 16 = .ok (.ifCond .eq 7, 3) := by decide +kernel
theorem dX2_isOne_19 : decode cX2_isOne 19 = .ok (.iconst 1, 1) := by decide +kernel
theorem dX2_isOne_20 : decode cX2_isOne 20 = .ok (.goto 4, 3) := by decide +kernel
theorem dX2_isOne_23 : decode cX2_isOne 23 = .ok (.iconst 0, 1) := by decide +kernel
theorem dX2_isOne_24 : decode cX2_isOne 24 = .ok (.ireturn, 1) := by decide +kernel
set_option maxRecDepth 20000 in
theorem ggX3_init_X9_depthAbove : GoodIn wsX3_init wsX9_depthAbove := goodIn_r _ [7, 8, 9, 10, 11, 12, 32, 33, 34, 35, 36, 37, 38, 39, 40, 41, 42, 43, 44, 45, 46, 47, 48, 49, 50, 51, 52, 53, 54, 55, 56, 57, 58, 59, 60, 61, 62, 63, 64, 65, 66, 67, 68] (by decide +kernel) (by decide +kernel)
set_option maxRecDepth 20000 in
theorem gX3_init_X9_depthAbove_n1 : GoodIn wsX3_init (wsX9_depthAbove) := ggX3_init_X9_depthAbove
set_option maxRecDepth 20000 in
theorem ggX3_init_X0_init : GoodIn wsX3_init wsX0_init := goodIn_r _ [16, 17, 18, 19, 20, 21, 22, 23, 24, 25, 26, 27, 28, 29, 30, 31, 69, 32, 33, 34, 35, 36, 37, 38, 39, 40, 41, 42, 43, 44, 45, 46, 47, 48, 49, 50, 51, 52, 53, 54, 55, 56, 57, 58, 59, 60, 61, 62, 63, 64, 65, 66, 67, 68] (by decide +kernel) (by decide +kernel)
set_option maxRecDepth 20000 in
theorem gX3_init_X0_init : GoodIn wsX3_init (wsX0_init) := ggX3_init_X0_init
theorem dX3_init_0 : decode cX3_init 0 = .ok (.aload_n 0, 1) := by decide +kernel
theorem dX3_init_1 : decode cX3_init 1 = .ok (.iload_n 1, 1) := by decide +kernel
theorem dX3_init_2 : decode cX3_init 2 = .ok (.aload_n 2, 1) := by decide +kernel
theorem dX3_init_3 : decode cX3_init 3 = .ok (.aload_n 3, 1) := by decide +kernel
theorem dX3_init_4 : decode cX3_init 4 = .ok (.invokestatic 1, 3) := by decide +kernel
theorem dX3_init_7 : decode cX3_init 7 = .ok (.aload_n 2, 1) := by decide +kernel
theorem dX3_init_8 : decode cX3_init 8 = .ok (.getfield 7, 3) := by decide +kernel
theorem dX3_init_11 : decode cX3_init 11 = .ok (.aload_n 3, 1) := by decide +kernel
theorem dX3_init_12 : decode cX3_init 12 = .ok (.getfield 7, 3) := by decide +kernel
theorem dX3_init_15 : decode cX3_init 15 = .ok (.ior, 1) := by decide +kernel
theorem dX3_init_16 : decode cX3_init 16 = .ok (.invokespecial 13, 3) := by decide +kernel
theorem dX3_init_19 : decode cX3_init 19 = .ok (.aload_n 0, 1) := by decide +kernel
theorem dX3_init_20 : decode cX3_init 20 = .ok (.aload_n 2, 1) := by decide +kernel
theorem dX3_init_21 : decode cX3_init 21 = .ok (.putfield 17, 3) := by decide +kernel
theorem dX3_init_24 : decode cX3_init 24 = .ok (.aload_n 0, 1) := by decide +kernel
theorem dX3_init_25 : decode cX3_init 25 = .ok (.aload_n 3, 1) := by decide +kernel
theorem dX3_init_26 : decode cX3_init 26 = .ok (.putfield 23, 3) := by decide +kernel
theorem dX3_init_29 : decode cX3_init 29 = .ok (.aload_n 0, 1) := by decide +kernel
theorem dX3_init_30 : decode cX3_init 30 = .ok (.iload 4, 2) := by decide +kernel
theorem dX3_init_32 : decode cX3_init 32 = .ok (.putfield 26, 3) := by decide +kernel
theorem dX3_init_35 : decode cX3_init 35 = .ok (.return_, 1) := by decide +kernel
set_option maxRecDepth 20000 in
theorem ggX3_gather_X6_join : GoodIn wsX3_gather wsX6_join := goodIn_r _ [11, 12, 13, 14, 15, 16, 17, 18, 19, 20, 21, 10, 22, 60] (by decide +kernel) (by decide +kernel)
set_option maxRecDepth 20000 in
theorem gX3_gather_X6_join : GoodIn wsX3_gather (wsV RX3 34 RX6 yX6_join wsX6_join) := goodIn_app (goodIn_of _ (by decide +kernel)) ggX3_gather_X6_join
theorem dX3_gather_0 : decode cX3_gather 0 = .ok (.aload_n 0, 1) := by decide +kernel
theorem dX3_gather_1 : decode cX3_gather 1 = .ok (.getfield 29, 3) := by decide +kernel
theorem dX3_gather_4 : decode cX3_gather 4 = .ok (.aload_n 0, 1) := by decide +kernel
theorem dX3_gather_5 : decode cX3_gather 5 = .ok (.getfield 17, 3) := by decide +kernel
theorem dX3_gather_8 : decode cX3_gather 8 = .ok (.getfield 33, 3) := by decide +kernel
theorem dX3_gather_11 : decode cX3_gather 11 = .ok (.aload_n 0, 1) := by decide +kernel
theorem dX3_gather_12 : decode cX3_gather 12 = .ok (.getfield 23, 3) := by decide +kernel
theorem dX3_gather_15 : decode cX3_gather 15 = .ok (.getfield 33, 3) := by decide +kernel
theorem dX3_gather_18 : decode cX3_gather 18 = .ok (.aload_n 0, 1) := by decide +kernel
theorem dX3_gather_19 : decode cX3_gather 19 = .ok (.getfield 26, 3) := by decide +kernel
theorem dX3_gather_22 : decode cX3_gather 22 = .ok (.invokevirtual 34, 3) := by decide +kernel
theorem dX3_gather_25 : decode cX3_gather 25 = .ok (.return_, 1) := by decide +kernel
set_option maxRecDepth 20000 in
theorem ggX3_isOne_X6_isJoined : GoodIn wsX3_isOne wsX6_isJoined := goodIn_r _ [8, 9, 10, 11, 12, 13, 14, 15, 7, 16, 17, 18, 19, 20, 21, 22, 23, 24, 62] (by decide +kernel) (by decide +kernel)
set_option maxRecDepth 20000 in
theorem gX3_isOne_X6_isJoined : GoodIn wsX3_isOne (va_wsS RX3 43 yX6_isJoined wsX6_isJoined) := goodIn_app (goodIn_of _ (by decide +kernel)) ggX3_isOne_X6_isJoined
theorem dX3_isOne_0 : decode cX3_isOne 0 = .ok (.aload_n 0, 1) := by decide +kernel
theorem dX3_isOne_1 : decode cX3_isOne 1 = .ok (.getfield 17, 3) := by decide +kernel
theorem dX3_isOne_4 : decode cX3_isOne 4 = .ok (.getfield 40, 3) := by decide +kernel
theorem dX3_isOne_7 : decode cX3_isOne 7 = .ok (.aload_n 0, 1) := by decide +kernel
theorem dX3_isOne_8 : decode cX3_isOne 8 = .ok (.getfield 23, 3) := by decide +kernel
theorem dX3_isOne_11 : decode cX3_isOne 11 = .ok (.getfield 40, 3) := by decide +kernel
theorem dX3_isOne_14 : decode cX3_isOne 14 = .ok (.aload_n 0, 1) := by decide +kernel
theorem dX3_isOne_15 : decode cX3_isOne 15 = .ok (.getfield 26, 3) := by decide +kernel
theorem dX3_isOne_18 : decode cX3_isOne 18 = .ok (.iload_n 2, 1) := by decide +kernel
theorem dX3_isOne_19 : decode cX3_isOne 19 = .ok (.iload_n 3, 1) := by decide +kernel
theorem dX3_isOne_20 : decode cX3_isOne 20 = .ok (.invokestatic 43, 3) := by decide +kernel
theorem dX3_isOne_23 : decode cX3_isOne 23 = .ok (.ireturn, 1) := by decide +kernel
set_option maxRecDepth 20000 in
theorem ggX4_init_X9_depthAbove : GoodIn wsX4_init wsX9_depthAbove := goodIn_r _ [6, 7, 8, 9, 10, 11, 31, 32, 33, 34, 35, 36, 37, 38, 39, 40, 41, 42, 43, 44, 45, 46, 47, 48, 49, 50, 51, 52, 53, 54, 55, 56, 57, 58, 59, 60, 61, 62, 63, 64, 65, 66, 67] (by decide +kernel) (by decide +kernel)
set_option maxRecDepth 20000 in
theorem gX4_init_X9_depthAbove_n1 : GoodIn wsX4_init (wsX9_depthAbove) := ggX4_init_X9_depthAbove
set_option maxRecDepth 20000 in
theorem ggX4_init_X0_init : GoodIn wsX4_init wsX0_init := goodIn_r _ [15, 16, 17, 18, 19, 20, 21, 22, 23, 24, 25, 26, 27, 28, 29, 30, 68, 31, 32, 33, 34, 35, 36, 37, 38, 39, 40, 41, 42, 43, 44, 45, 46, 47, 48, 49, 50, 51, 52, 53, 54, 55, 56, 57, 58, 59, 60, 61, 62, 63, 64, 65, 66, 67] (by decide +kernel) (by decide +kernel)
set_option maxRecDepth 20000 in
theorem gX4_init_X0_init : GoodIn wsX4_init (wsX0_init) := ggX4_init_X0_init
theorem dX4_init_0 : decode cX4_init 0 = .ok (.aload_n 0, 1) := by decide +kernel
theorem dX4_init_1 : decode cX4_init 1 = .ok (.iload_n 1, 1) := by decide +kernel
theorem dX4_init_2 : decode cX4_init 2 = .ok (.aload_n 2, 1) := by decide +kernel
theorem dX4_init_3 : decode cX4_init 3 = .ok (.aload_n 2, 1) := by decide +kernel
theorem dX4_init_4 : decode cX4_init 4 = .ok (.invokestatic 1, 3) := by decide +kernel
theorem dX4_init_7 : decode cX4_init 7 = .ok (.aload_n 2, 1) := by decide +kernel
theorem dX4_init_8 : decode cX4_init 8 = .ok (.getfield 7, 3) := by decide +kernel
theorem dX4_init_11 : decode cX4_init 11 = .ok (.invokespecial 13, 3) := by decide +kernel
theorem dX4_init_14 : decode cX4_init 14 = .ok (.aload_n 0, 1) := by decide +kernel
theorem dX4_init_15 : decode cX4_init 15 = .ok (.aload_n 2, 1) := by decide +kernel
theorem dX4_init_16 : decode cX4_init 16 = .ok (.putfield 17, 3) := by decide +kernel
theorem dX4_init_19 : decode cX4_init 19 = .ok (.aload_n 0, 1) := by decide +kernel
theorem dX4_init_20 : decode cX4_init 20 = .ok (.iload_n 3, 1) := by decide +kernel
theorem dX4_init_21 : decode cX4_init 21 = .ok (.putfield 23, 3) := by decide +kernel
theorem dX4_init_24 : decode cX4_init 24 = .ok (.return_, 1) := by decide +kernel
set_option maxRecDepth 20000 in
theorem ggX4_gather_X6_takeOver : GoodIn wsX4_gather wsX6_takeOver := goodIn_r _ [10, 11, 12, 13, 14, 9, 15, 76] (by decide +kernel) (by decide +kernel)
set_option maxRecDepth 20000 in
theorem gX4_gather_X6_takeOver : GoodIn wsX4_gather (wsV RX4 32 RX6 yX6_takeOver wsX6_takeOver) := goodIn_app (goodIn_of _ (by decide +kernel)) ggX4_gather_X6_takeOver
set_option maxRecDepth 20000 in
theorem ggX4_gather_X6_keepOuter : GoodIn wsX4_gather wsX6_keepOuter := goodIn_r _ [19, 11, 20, 21, 22, 23, 24, 25, 26, 9, 27, 12, 13, 14, 15, 76] (by decide +kernel) (by decide +kernel)
set_option maxRecDepth 20000 in
theorem gX4_gather_X6_keepOuter : GoodIn wsX4_gather (wsV RX4 38 RX6 yX6_keepOuter wsX6_keepOuter) := goodIn_app (goodIn_of _ (by decide +kernel)) ggX4_gather_X6_keepOuter
set_option maxRecDepth 20000 in
theorem ggX4_gather_X6_keepInner : GoodIn wsX4_gather wsX6_keepInner := goodIn_r _ [31, 11, 32, 33, 22, 34, 35, 36, 37, 9, 38, 12, 13, 14, 15, 76] (by decide +kernel) (by decide +kernel)
set_option maxRecDepth 20000 in
theorem gX4_gather_X6_keepInner : GoodIn wsX4_gather (wsV RX4 42 RX6 yX6_keepInner wsX6_keepInner) := goodIn_app (goodIn_of _ (by decide +kernel)) ggX4_gather_X6_keepInner
theorem dX4_gather_0 : decode cX4_gather 0 = .ok (.aload_n 0, 1) := by decide +kernel
theorem dX4_gather_1 : decode cX4_gather 1 = .ok (.getfield 27, 3) := by decide +kernel
theorem dX4_gather_4 : decode cX4_gather 4 = .ok (.aload_n 0, 1) := by decide +kernel
theorem dX4_gather_5 : decode cX4_gather 5 = .ok (.getfield 17, 3) := by decide +kernel
theorem dX4_gather_8 : decode cX4_gather 8 = .ok (.getfield 31, 3) := by decide +kernel
theorem dX4_gather_11 : decode cX4_gather 11 = .ok (.invokevirtual 32, 3) := by decide +kernel
theorem dX4_gather_14 : decode cX4_gather 14 = .ok (.aload_n 0, 1) := by decide +kernel
theorem dX4_gather_15 : decode cX4_gather 15 = .ok (.getfield 23, 3) := by decide +kernel
theorem dX4_gather_18 : decode cX4_gather 18 = .ok (.ifCond .eq 13, 3) := by decide +kernel
theorem dX4_gather_21 : decode cX4_gather 21 = .ok (.aload_n 0, 1) := by decide +kernel
theorem dX4_gather_22 : decode cX4_gather 22 = .ok (.getfield 27, 3) := by decide +kernel
theorem dX4_gather_25 : decode cX4_gather 25 = .ok (.invokevirtual 38, 3) := by decide +kernel
theorem dX4_gather_28 : decode cX4_gather 28 = .ok (.goto 10, 3) := by decide +kernel
theorem dX4_gather_31 : decode cX4_gather 31 = .ok (.aload_n 0, 1) := by decide +kernel
theorem dX4_gather_32 : decode cX4_gather 32 = .ok (.getfield 27, 3) := by decide +kernel
theorem dX4_gather_35 : decode cX4_gather 35 = .ok (.invokevirtual 42, 3) := by decide +kernel
theorem dX4_gather_38 : decode cX4_gather 38 = .ok (.return_, 1) := by decide +kernel
set_option maxRecDepth 20000 in
theorem ggX4_isOne_X6_contains : GoodIn wsX4_isOne wsX6_contains := goodIn_r _ [8, 9, 64] (by decide +kernel) (by decide +kernel)
set_option maxRecDepth 20000 in
theorem gX4_isOne_X6_contains : GoodIn wsX4_isOne (wsV RX4 48 RX6 yX6_contains wsX6_contains) := goodIn_app (goodIn_of _ (by decide +kernel)) ggX4_isOne_X6_contains
set_option maxRecDepth 20000 in
theorem ggX4_isOne_X6_countLyingRound : GoodIn wsX4_isOne wsX6_countLyingRound := goodIn_r _ [13, 14, 15, 16, 7, 17, 18, 19, 20, 21, 22, 5, 6, 8, 9, 64] (by decide +kernel) (by decide +kernel)
set_option maxRecDepth 20000 in
theorem gX4_isOne_X6_countLyingRound : GoodIn wsX4_isOne (wsV RX4 52 RX6 yX6_countLyingRound wsX6_countLyingRound) := goodIn_app (goodIn_of _ (by decide +kernel)) ggX4_isOne_X6_countLyingRound
set_option maxRecDepth 20000 in
theorem ggX4_isOne_X6_countLyingIn : GoodIn wsX4_isOne wsX6_countLyingIn := goodIn_r _ [26, 14, 15, 16, 7, 17, 18, 19, 20, 21, 22, 5, 6, 8, 9, 64] (by decide +kernel) (by decide +kernel)
set_option maxRecDepth 20000 in
theorem gX4_isOne_X6_countLyingIn : GoodIn wsX4_isOne (wsV RX4 56 RX6 yX6_countLyingIn wsX6_countLyingIn) := goodIn_app (goodIn_of _ (by decide +kernel)) ggX4_isOne_X6_countLyingIn
theorem dX4_isOne_0 : decode cX4_isOne 0 = .ok (.aload_n 0, 1) := by decide +kernel
theorem dX4_isOne_1 : decode cX4_isOne 1 = .ok (.getfield 17, 3) := by decide +kernel
theorem dX4_isOne_4 : decode cX4_isOne 4 = .ok (.getfield 45, 3) := by decide +kernel
theorem dX4_isOne_7 : decode cX4_isOne 7 = .ok (.iload_n 2, 1) := by decide +kernel
theorem dX4_isOne_8 : decode cX4_isOne 8 = .ok (.iload_n 3, 1) := by decide +kernel
theorem dX4_isOne_9 : decode cX4_isOne 9 = .ok (.invokevirtual 48, 3) := by decide +kernel
theorem dX4_isOne_12 : decode cX4_isOne 12 = .ok (.ifCond .eq 45, 3) := by decide +kernel
theorem dX4_isOne_15 : decode cX4_isOne 15 = .ok (.aload_n 0, 1) := by decide +kernel
theorem dX4_isOne_16 : decode cX4_isOne 16 = .ok (.getfield 23, 3) := by decide +kernel
theorem dX4_isOne_19 : decode cX4_isOne 19 = .ok (.ifCond .eq 18, 3) := by decide +kernel
theorem dX4_isOne_22 : decode cX4_isOne 22 = .ok (.aload_n 0, 1) := by decide +kernel
theorem dX4_isOne_23 : decode cX4_isOne 23 = .ok (.getfield 17, 3) := by decide +kernel
theorem dX4_isOne_26 : decode cX4_isOne 26 = .ok (.getfield 45, 3) := by decide +kernel
theorem dX4_isOne_29 : decode cX4_isOne 29 = .ok (.iload_n 2, 1) := by decide +kernel
theorem dX4_isOne_30 : decode cX4_isOne 30 = .ok (.iload_n 3, 1) := by decide +kernel
theorem dX4_isOne_31 : decode cX4_isOne 31 = .ok (.invokevirtual 52, 3) := by decide +kernel
theorem dX4_isOne_34 : decode cX4_isOne 34 = .ok (.goto 15, 3) := by decide +kernel
theorem dX4_isOne_37 : decode cX4_isOne 37 = .ok (.aload_n 0, 1) := by decide +kernel
theorem dX4_isOne_38 : decode cX4_isOne 38 = .ok (.getfield 17, 3) := by decide +kernel
theorem dX4_isOne_41 : decode cX4_isOne 41 = .ok (.getfield 45, 3) := by decide +kernel
theorem dX4_isOne_44 : decode cX4_isOne 44 = .ok (.iload_n 2, 1) := by decide +kernel
theorem dX4_isOne_45 : decode cX4_isOne 45 = .ok (.iload_n 3, 1) := by decide +kernel
theorem dX4_isOne_46 : decode cX4_isOne 46 = .ok (.invokevirtual 56, 3) := by decide +kernel
theorem dX4_isOne_49 : decode cX4_isOne 49 = .ok (.iconst 1, 1) := by decide +kernel
theorem dX4_isOne_50 : decode cX4_isOne 50 = .ok (.if_icmp .ne 7, 3) := by decide +kernel
theorem dX4_isOne_53 : decode cX4_isOne 53 = .ok (.iconst 1, 1) := by decide +kernel
theorem dX4_isOne_54 : decode cX4_isOne 54 = .ok (.goto 4, 3) := by decide +kernel
theorem dX4_isOne_57 : decode cX4_isOne 57 = .ok (.iconst 0, 1) := by decide +kernel
theorem dX4_isOne_58 : decode cX4_isOne 58 = .ok (.ireturn, 1) := by decide +kernel
set_option maxRecDepth 20000 in
theorem ggX5_init_X9_depthAbove : GoodIn wsX5_init wsX9_depthAbove := goodIn_r _ [7, 8, 9, 10, 11, 12, 32, 33, 34, 35, 36, 37, 38, 39, 40, 41, 42, 43, 44, 45, 46, 47, 48, 49, 50, 51, 52, 53, 54, 55, 56, 57, 58, 59, 60, 61, 62, 63, 64, 65, 66, 67, 68] (by decide +kernel) (by decide +kernel)
set_option maxRecDepth 20000 in
theorem gX5_init_X9_depthAbove_n3 : GoodIn wsX5_init (wsX9_depthAbove) := ggX5_init_X9_depthAbove
set_option maxRecDepth 20000 in
theorem ggX5_init_X0_init : GoodIn wsX5_init wsX0_init := goodIn_r _ [16, 17, 18, 19, 20, 21, 22, 23, 24, 25, 26, 27, 28, 29, 30, 31, 69, 32, 33, 34, 35, 36, 37, 38, 39, 40, 41, 42, 43, 44, 45, 46, 47, 48, 49, 50, 51, 52, 53, 54, 55, 56, 57, 58, 59, 60, 61, 62, 63, 64, 65, 66, 67, 68] (by decide +kernel) (by decide +kernel)
set_option maxRecDepth 20000 in
theorem gX5_init_X0_init : GoodIn wsX5_init (wsX0_init) := ggX5_init_X0_init
theorem dX5_init_0 : decode cX5_init 0 = .ok (.aload_n 0, 1) := by decide +kernel
theorem dX5_init_1 : decode cX5_init 1 = .ok (.iload_n 1, 1) := by decide +kernel
theorem dX5_init_2 : decode cX5_init 2 = .ok (.aload_n 3, 1) := by decide +kernel
theorem dX5_init_3 : decode cX5_init 3 = .ok (.aload 4, 2) := by decide +kernel
theorem dX5_init_5 : decode cX5_init 5 = .ok (.invokestatic 3, 3) := by decide +kernel
theorem dX5_init_8 : decode cX5_init 8 = .ok (.aload_n 3, 1) := by decide +kernel
theorem dX5_init_9 : decode cX5_init 9 = .ok (.getfield 7, 3) := by decide +kernel
theorem dX5_init_12 : decode cX5_init 12 = .ok (.aload 4, 2) := by decide +kernel
theorem dX5_init_14 : decode cX5_init 14 = .ok (.getfield 7, 3) := by decide +kernel
theorem dX5_init_17 : decode cX5_init 17 = .ok (.ior, 1) := by decide +kernel
theorem dX5_init_18 : decode cX5_init 18 = .ok (.invokespecial 13, 3) := by decide +kernel
theorem dX5_init_21 : decode cX5_init 21 = .ok (.aload_n 0, 1) := by decide +kernel
theorem dX5_init_22 : decode cX5_init 22 = .ok (.iload_n 2, 1) := by decide +kernel
theorem dX5_init_23 : decode cX5_init 23 = .ok (.putfield 17, 3) := by decide +kernel
theorem dX5_init_26 : decode cX5_init 26 = .ok (.aload_n 0, 1) := by decide +kernel
theorem dX5_init_27 : decode cX5_init 27 = .ok (.aload_n 3, 1) := by decide +kernel
theorem dX5_init_28 : decode cX5_init 28 = .ok (.putfield 22, 3) := by decide +kernel
theorem dX5_init_31 : decode cX5_init 31 = .ok (.aload_n 0, 1) := by decide +kernel
theorem dX5_init_32 : decode cX5_init 32 = .ok (.aload 4, 2) := by decide +kernel
theorem dX5_init_34 : decode cX5_init 34 = .ok (.putfield 26, 3) := by decide +kernel
theorem dX5_init_37 : decode cX5_init 37 = .ok (.return_, 1) := by decide +kernel
set_option maxRecDepth 20000 in
theorem ggX5_gather_X5_gatherByHolding : GoodIn wsX5_gather wsX5_gatherByHolding := goodIn_r _ [6, 7, 8, 9, 10, 11, 12, 13, 14, 15, 16, 17, 18, 19, 20, 21, 22, 23, 24, 25, 26, 27, 28, 29, 30, 31, 32, 33, 34, 35, 36, 60, 61, 62, 63, 64, 65, 66, 67, 68, 69, 70, 71, 72, 73, 74, 75, 76, 77, 78, 79, 80, 81, 82, 83, 84, 85, 86, 87, 88, 89, 90, 91, 92, 93, 94, 95, 96, 97] (by decide +kernel) (by decide +kernel)
set_option maxRecDepth 20000 in
theorem gX5_gather_X5_gatherByHolding : GoodIn wsX5_gather (wsV RX5 29 RX5 yX5_gatherByHolding wsX5_gatherByHolding) := goodIn_app (goodIn_of _ (by decide +kernel)) ggX5_gather_X5_gatherByHolding
set_option maxRecDepth 20000 in
theorem ggX5_gather_X5_gatherByLying : GoodIn wsX5_gather wsX5_gatherByLying := goodIn_r _ [40, 7, 8, 41, 42, 11, 43, 13, 14, 15, 44, 45, 46, 19, 47, 21, 22, 23, 24, 25, 30, 27, 31, 32, 33, 34, 35, 36, 60, 61, 62, 63, 64, 65, 66, 67, 68, 69, 70, 71, 72, 73, 74, 75, 76, 77, 78, 79, 80, 81, 82, 83, 84, 85, 86, 87, 88, 89, 90, 91, 92, 93, 94, 95, 96, 97] (by decide +kernel) (by decide +kernel)
set_option maxRecDepth 20000 in
theorem gX5_gather_X5_gatherByLying : GoodIn wsX5_gather (wsV RX5 33 RX5 yX5_gatherByLying wsX5_gatherByLying) := goodIn_app (goodIn_of _ (by decide +kernel)) ggX5_gather_X5_gatherByLying
set_option maxRecDepth 20000 in
theorem ggX5_gather_X5_gatherAhead : GoodIn wsX5_gather wsX5_gatherAhead := goodIn_r _ [51, 7, 8, 13, 14, 15, 32, 22, 23, 19, 24, 25, 30, 27, 31, 33, 34, 35, 36, 60, 61, 62, 63, 64, 65, 66, 67, 68, 69, 70, 71, 72, 73, 74, 75, 76, 77, 78, 79, 80, 81, 82, 83, 84, 85, 86, 87, 88, 89, 90, 91, 92, 93, 94, 95, 96, 97] (by decide +kernel) (by decide +kernel)
set_option maxRecDepth 20000 in
theorem gX5_gather_X5_gatherAhead : GoodIn wsX5_gather (wsV RX5 36 RX5 yX5_gatherAhead wsX5_gatherAhead) := goodIn_app (goodIn_of _ (by decide +kernel)) ggX5_gather_X5_gatherAhead
set_option maxRecDepth 20000 in
theorem ggX5_gather_X5_gatherBehind : GoodIn wsX5_gather wsX5_gatherBehind := goodIn_r _ [55, 7, 8, 9, 10, 11, 12, 13, 14, 15, 16, 17, 18, 19, 20, 21, 22, 23, 24, 25, 32, 33, 34, 35, 36, 60, 61, 62, 63, 64, 65, 66, 67, 68, 69, 70, 71, 72, 73, 74, 75, 76, 77, 78, 79, 80, 81, 82, 83, 84, 85, 86, 87, 88, 89, 90, 91, 92, 93, 94, 95, 96, 97] (by decide +kernel) (by decide +kernel)
set_option maxRecDepth 20000 in
theorem gX5_gather_X5_gatherBehind : GoodIn wsX5_gather (wsV RX5 40 RX5 yX5_gatherBehind wsX5_gatherBehind) := goodIn_app (goodIn_of _ (by decide +kernel)) ggX5_gather_X5_gatherBehind
set_option maxRecDepth 20000 in
theorem ggX5_gather_X5_gatherRowByRow : GoodIn wsX5_gather wsX5_gatherRowByRow := goodIn_r _ [59, 15, 8, 7, 1, 13, 14, 32, 22, 23, 19, 24, 25, 33, 34, 35, 36, 60, 61, 62, 63, 64, 65, 66, 67, 68, 69, 70, 71, 72, 73, 74, 75, 76, 77, 78, 79, 80, 81, 82, 83, 84, 85, 86, 87, 88, 89, 90, 91, 92, 93, 94, 95, 96, 97] (by decide +kernel) (by decide +kernel)
set_option maxRecDepth 20000 in
theorem gX5_gather_X5_gatherRowByRow : GoodIn wsX5_gather (wsV RX5 43 RX5 yX5_gatherRowByRow wsX5_gatherRowByRow) := goodIn_app (goodIn_of _ (by decide +kernel)) ggX5_gather_X5_gatherRowByRow
theorem dX5_gather_0 : decode cX5_gather 0 = .ok (.aload_n 0, 1) := by decide +kernel
theorem dX5_gather_1 : decode cX5_gather 1 = .ok (.getfield 17, 3) := by decide +kernel
theorem dX5_gather_4 : decode cX5_gather 4 = .ok (.tableswitch 86 3 8 #[40, 48, 56, 64, 72, 79], 40) := by decide +kernel
theorem dX5_gather_44 : decode cX5_gather 44 = .ok (.aload_n 0, 1) := by decide +kernel
theorem dX5_gather_45 : decode cX5_gather 45 = .ok (.iconst 1, 1) := by decide +kernel
theorem dX5_gather_46 : decode cX5_gather 46 = .ok (.invokevirtual 29, 3) := by decide +kernel
theorem dX5_gather_49 : decode cX5_gather 49 = .ok (.goto 45, 3) := by decide +kernel
theorem dX5_gather_52 : decode cX5_gather 52 = .ok (.aload_n 0, 1) := by decide +kernel
theorem dX5_gather_53 : decode cX5_gather 53 = .ok (.iconst 0, 1) := by decide +kernel
theorem dX5_gather_54 : decode cX5_gather 54 = .ok (.invokevirtual 29, 3) := by decide +kernel
theorem dX5_gather_57 : decode cX5_gather 57 = .ok (.goto 37, 3) := by decide +kernel
theorem dX5_gather_60 : decode cX5_gather 60 = .ok (.aload_n 0, 1) := by decide +kernel
theorem dX5_gather_61 : decode cX5_gather 61 = .ok (.iconst 1, 1) := by decide +kernel
theorem dX5_gather_62 : decode cX5_gather 62 = .ok (.invokevirtual 33, 3) := by decide +kernel
theorem dX5_gather_65 : decode cX5_gather 65 = .ok (.goto 29, 3) := by decide +kernel
theorem dX5_gather_68 : decode cX5_gather 68 = .ok (.aload_n 0, 1) := by decide +kernel
theorem dX5_gather_69 : decode cX5_gather 69 = .ok (.iconst 0, 1) := by decide +kernel
theorem dX5_gather_70 : decode cX5_gather 70 = .ok (.invokevirtual 33, 3) := by decide +kernel
theorem dX5_gather_73 : decode cX5_gather 73 = .ok (.goto 21, 3) := by decide +kernel
theorem dX5_gather_76 : decode cX5_gather 76 = .ok (.aload_n 0, 1) := by decide +kernel
theorem dX5_gather_77 : decode cX5_gather 77 = .ok (.invokevirtual 36, 3) := by decide +kernel
theorem dX5_gather_80 : decode cX5_gather 80 = .ok (.goto 14, 3) := by decide +kernel
theorem dX5_gather_83 : decode cX5_gather 83 = .ok (.aload_n 0, 1) := by decide +kernel
theorem dX5_gather_84 : decode cX5_gather 84 = .ok (.invokevirtual 40, 3) := by decide +kernel
theorem dX5_gather_87 : decode cX5_gather 87 = .ok (.goto 7, 3) := by decide +kernel
theorem dX5_gather_90 : decode cX5_gather 90 = .ok (.aload_n 0, 1) := by decide +kernel
theorem dX5_gather_91 : decode cX5_gather 91 = .ok (.invokevirtual 43, 3) := by decide +kernel
theorem dX5_gather_94 : decode cX5_gather 94 = .ok (.return_, 1) := by decide +kernel
set_option maxRecDepth 20000 in
theorem ggX5_gatherRowByRow_X6_row : GoodIn wsX5_gatherRowByRow wsX6_row := goodIn_r _ [11, 12, 54] (by decide +kernel) (by decide +kernel)
set_option maxRecDepth 20000 in
theorem gX5_gatherRowByRow_X6_row : GoodIn wsX5_gatherRowByRow (wsV RX5 50 RX6 yX6_row wsX6_row) := goodIn_app (goodIn_of _ (by decide +kernel)) ggX5_gatherRowByRow_X6_row
set_option maxRecDepth 20000 in
theorem ggX5_gatherRowByRow_X6_setRow : GoodIn wsX5_gatherRowByRow wsX6_setRow := goodIn_r _ [16, 12, 54] (by decide +kernel) (by decide +kernel)
set_option maxRecDepth 20000 in
theorem gX5_gatherRowByRow_X6_setRow : GoodIn wsX5_gatherRowByRow (wsV RX5 57 RX6 yX6_setRow wsX6_setRow) := goodIn_app (goodIn_of _ (by decide +kernel)) ggX5_gatherRowByRow_X6_setRow
theorem dX5_gatherRowByRow_0 : decode cX5_gatherRowByRow 0 = .ok (.iconst 0, 1) := by decide +kernel
theorem dX5_gatherRowByRow_1 : decode cX5_gatherRowByRow 1 = .ok (.istore_n 1, 1) := by decide +kernel
theorem dX5_gatherRowByRow_2 : decode cX5_gatherRowByRow 2 = .ok (.iload_n 1, 1) := by decide +kernel
theorem dX5_gatherRowByRow_3 : decode cX5_gatherRowByRow 3 = .ok (.bipush 24, 2) := by decide +kernel
theorem dX5_gatherRowByRow_5 : decode cX5_gatherRowByRow 5 = .ok (.if_icmp .ge 89, 3) := by decide +kernel
theorem dX5_gatherRowByRow_8 : decode cX5_gatherRowByRow 8 = .ok (.aload_n 0, 1) := by decide +kernel
theorem dX5_gatherRowByRow_9 : decode cX5_gatherRowByRow 9 = .ok (.getfield 22, 3) := by decide +kernel
theorem dX5_gatherRowByRow_12 : decode cX5_gatherRowByRow 12 = .ok (.getfield 46, 3) := by decide +kernel
theorem dX5_gatherRowByRow_15 : decode cX5_gatherRowByRow 15 = .ok (.iload_n 1, 1) := by decide +kernel
theorem dX5_gatherRowByRow_16 : decode cX5_gatherRowByRow 16 = .ok (.invokevirtual 50, 3) := by decide +kernel
theorem dX5_gatherRowByRow_19 : decode cX5_gatherRowByRow 19 = .ok (.istore_n 2, 1) := by decide +kernel
theorem dX5_gatherRowByRow_20 : decode cX5_gatherRowByRow 20 = .ok (.aload_n 0, 1) := by decide +kernel
theorem dX5_gatherRowByRow_21 : decode cX5_gatherRowByRow 21 = .ok (.getfield 26, 3) := by decide +kernel
theorem dX5_gatherRowByRow_24 : decode cX5_gatherRowByRow 24 = .ok (.getfield 46, 3) := by decide +kernel
theorem dX5_gatherRowByRow_27 : decode cX5_gatherRowByRow 27 = .ok (.iload_n 1, 1) := by decide +kernel
theorem dX5_gatherRowByRow_28 : decode cX5_gatherRowByRow 28 = .ok (.invokevirtual 50, 3) := by decide +kernel
theorem dX5_gatherRowByRow_31 : decode cX5_gatherRowByRow 31 = .ok (.istore_n 3, 1) := by decide +kernel
theorem dX5_gatherRowByRow_32 : decode cX5_gatherRowByRow 32 = .ok (.aload_n 0, 1) := by decide +kernel
theorem dX5_gatherRowByRow_33 : decode cX5_gatherRowByRow 33 = .ok (.getfield 17, 3) := by decide +kernel
theorem dX5_gatherRowByRow_36 : decode cX5_gatherRowByRow 36 = .ok (.ifCond .ne 17, 3) := by decide +kernel
theorem dX5_gatherRowByRow_39 : decode cX5_gatherRowByRow 39 = .ok (.aload_n 0, 1) := by decide +kernel
theorem dX5_gatherRowByRow_40 : decode cX5_gatherRowByRow 40 = .ok (.getfield 56, 3) := by decide +kernel
theorem dX5_gatherRowByRow_43 : decode cX5_gatherRowByRow 43 = .ok (.iload_n 1, 1) := by decide +kernel
theorem dX5_gatherRowByRow_44 : decode cX5_gatherRowByRow 44 = .ok (.iload_n 2, 1) := by decide +kernel
theorem dX5_gatherRowByRow_45 : decode cX5_gatherRowByRow 45 = .ok (.iload_n 3, 1) := by decide +kernel
theorem dX5_gatherRowByRow_46 : decode cX5_gatherRowByRow 46 = .ok (.ior, 1) := by decide +kernel
theorem dX5_gatherRowByRow_47 : decode cX5_gatherRowByRow 47 = .ok (.invokevirtual 57, 3) := by decide +kernel
theorem dX5_gatherRowByRow_50 : decode cX5_gatherRowByRow 50 = .ok (.goto 38, 3) := by decide +kernel
theorem dX5_gatherRowByRow_53 : decode cX5_gatherRowByRow 53 = .ok (.aload_n 0, 1) := by decide +kernel
theorem dX5_gatherRowByRow_54 : decode cX5_gatherRowByRow 54 = .ok (.getfield 17, 3) := by decide +kernel
theorem dX5_gatherRowByRow_57 : decode cX5_gatherRowByRow 57 = .ok (.iconst 1, 1) := by decide +kernel
theorem dX5_gatherRowByRow_58 : decode cX5_gatherRowByRow 58 = .ok (.if_icmp .ne 17, 3) := by decide +kernel
theorem dX5_gatherRowByRow_61 : decode cX5_gatherRowByRow 61 = .ok (.aload_n 0, 1) := by decide +kernel
theorem dX5_gatherRowByRow_62 : decode cX5_gatherRowByRow 62 = .ok (.getfield 56, 3) := by decide +kernel
theorem dX5_gatherRowByRow_65 : decode cX5_gatherRowByRow 65 = .ok (.iload_n 1, 1) := by decide +kernel
theorem dX5_gatherRowByRow_66 : decode cX5_gatherRowByRow 66 = .ok (.iload_n 2, 1) := by decide +kernel
theorem dX5_gatherRowByRow_67 : decode cX5_gatherRowByRow 67 = .ok (.iload_n 3, 1) := by decide +kernel
theorem dX5_gatherRowByRow_68 : decode cX5_gatherRowByRow 68 = .ok (.iand, 1) := by decide +kernel
theorem dX5_gatherRowByRow_69 : decode cX5_gatherRowByRow 69 = .ok (.invokevirtual 57, 3) := by decide +kernel
theorem dX5_gatherRowByRow_72 : decode cX5_gatherRowByRow 72 = .ok (.goto 16, 3) := by decide +kernel
theorem dX5_gatherRowByRow_75 : decode cX5_gatherRowByRow 75 = .ok (.aload_n 0, 1) := by decide +kernel
theorem dX5_gatherRowByRow_76 : decode cX5_gatherRowByRow 76 = .ok (.getfield 56, 3) := by decide +kernel
theorem dX5_gatherRowByRow_79 : decode cX5_gatherRowByRow 79 = .ok (.iload_n 1, 1) := by decide +kernel
theorem dX5_gatherRowByRow_80 : decode cX5_gatherRowByRow 80 = .ok (.iload_n 2, 1) := by decide +kernel
theorem dX5_gatherRowByRow_81 : decode cX5_gatherRowByRow 81 = .ok (.iload_n 3, 1) := by decide +kernel
theorem dX5_gatherRowByRow_82 : decode cX5_gatherRowByRow 82 = .ok (.iconst (-1), 1) := by decide +kernel
theorem dX5_gatherRowByRow_83 : decode cX5_gatherRowByRow 83 = .ok (.ixor, 1) := by decide +kernel
theorem dX5_gatherRowByRow_84 : decode cX5_gatherRowByRow 84 = .ok (.iand, 1) := by decide +kernel
theorem dX5_gatherRowByRow_85 : decode cX5_gatherRowByRow 85 = .ok (.invokevirtual 57, 3) := by decide +kernel
theorem dX5_gatherRowByRow_88 : decode cX5_gatherRowByRow 88 = .ok (.iinc 1 1, 3) := by decide +kernel
theorem dX5_gatherRowByRow_91 : decode cX5_gatherRowByRow 91 = .ok (.goto (-89), 3) := by decide +kernel
theorem dX5_gatherRowByRow_94 : decode cX5_gatherRowByRow 94 = .ok (.return_, 1) := by decide +kernel
set_option maxRecDepth 20000 in
theorem ggX5_gatherByHolding_X6_lowestEnd : GoodIn wsX5_gatherByHolding wsX6_lowestEnd := goodIn_r _ [14, 15, 16, 17, 13, 18, 19, 68] (by decide +kernel) (by decide +kernel)
set_option maxRecDepth 20000 in
theorem gX5_gatherByHolding_X6_lowestEnd : GoodIn wsX5_gatherByHolding (wsV RX5 61 RX6 yX6_lowestEnd wsX6_lowestEnd) := goodIn_app (goodIn_of _ (by decide +kernel)) ggX5_gatherByHolding_X6_lowestEnd
set_option maxRecDepth 20000 in
theorem ggX5_gatherByHolding_X9_onwardFrom : GoodIn wsX5_gatherByHolding wsX9_onwardFrom := goodIn_r _ [22, 23, 24, 21, 25] (by decide +kernel) (by decide +kernel)
set_option maxRecDepth 20000 in
theorem gX5_gatherByHolding_X9_onwardFrom_n70 : GoodIn wsX5_gatherByHolding (wsX9_onwardFrom) := ggX5_gatherByHolding_X9_onwardFrom
set_option maxRecDepth 20000 in
theorem ggX5_gatherByHolding_X6_row : GoodIn wsX5_gatherByHolding wsX6_row := goodIn_r _ [18, 19, 68] (by decide +kernel) (by decide +kernel)
set_option maxRecDepth 20000 in
theorem gX5_gatherByHolding_X6_row : GoodIn wsX5_gatherByHolding (wsV RX5 50 RX6 yX6_row wsX6_row) := goodIn_app (goodIn_of _ (by decide +kernel)) ggX5_gatherByHolding_X6_row
set_option maxRecDepth 20000 in
theorem ggX5_gatherByHolding_X6_setRow : GoodIn wsX5_gatherByHolding wsX6_setRow := goodIn_r _ [30, 19, 68] (by decide +kernel) (by decide +kernel)
set_option maxRecDepth 20000 in
theorem gX5_gatherByHolding_X6_setRow : GoodIn wsX5_gatherByHolding (wsV RX5 57 RX6 yX6_setRow wsX6_setRow) := goodIn_app (goodIn_of _ (by decide +kernel)) ggX5_gatherByHolding_X6_setRow
theorem dX5_gatherByHolding_0 : decode cX5_gatherByHolding 0 = .ok (.bipush 25, 2) := by decide +kernel
theorem dX5_gatherByHolding_2 : decode cX5_gatherByHolding 2 = .ok (.istore_n 2, 1) := by decide +kernel
theorem dX5_gatherByHolding_3 : decode cX5_gatherByHolding 3 = .ok (.bipush 23, 2) := by decide +kernel
theorem dX5_gatherByHolding_5 : decode cX5_gatherByHolding 5 = .ok (.istore_n 3, 1) := by decide +kernel
theorem dX5_gatherByHolding_6 : decode cX5_gatherByHolding 6 = .ok (.iload_n 3, 1) := by decide +kernel
theorem dX5_gatherByHolding_7 : decode cX5_gatherByHolding 7 = .ok (.ifCond .lt 64, 3) := by decide +kernel
theorem dX5_gatherByHolding_10 : decode cX5_gatherByHolding 10 = .ok (.iload_n 2, 1) := by decide +kernel
theorem dX5_gatherByHolding_11 : decode cX5_gatherByHolding 11 = .ok (.aload_n 0, 1) := by decide +kernel
theorem dX5_gatherByHolding_12 : decode cX5_gatherByHolding 12 = .ok (.getfield 26, 3) := by decide +kernel
theorem dX5_gatherByHolding_15 : decode cX5_gatherByHolding 15 = .ok (.getfield 46, 3) := by decide +kernel
theorem dX5_gatherByHolding_18 : decode cX5_gatherByHolding 18 = .ok (.iload_n 3, 1) := by decide +kernel
theorem dX5_gatherByHolding_19 : decode cX5_gatherByHolding 19 = .ok (.invokevirtual 61, 3) := by decide +kernel
theorem dX5_gatherByHolding_22 : decode cX5_gatherByHolding 22 = .ok (.invokestatic 64, 3) := by decide +kernel
theorem dX5_gatherByHolding_25 : decode cX5_gatherByHolding 25 = .ok (.istore_n 2, 1) := by decide +kernel
theorem dX5_gatherByHolding_26 : decode cX5_gatherByHolding 26 = .ok (.iload_n 2, 1) := by decide +kernel
theorem dX5_gatherByHolding_27 : decode cX5_gatherByHolding 27 = .ok (.invokestatic 70, 3) := by decide +kernel
theorem dX5_gatherByHolding_30 : decode cX5_gatherByHolding 30 = .ok (.istore 4, 2) := by decide +kernel
theorem dX5_gatherByHolding_32 : decode cX5_gatherByHolding 32 = .ok (.aload_n 0, 1) := by decide +kernel
theorem dX5_gatherByHolding_33 : decode cX5_gatherByHolding 33 = .ok (.getfield 56, 3) := by decide +kernel
theorem dX5_gatherByHolding_36 : decode cX5_gatherByHolding 36 = .ok (.iload_n 3, 1) := by decide +kernel
theorem dX5_gatherByHolding_37 : decode cX5_gatherByHolding 37 = .ok (.aload_n 0, 1) := by decide +kernel
theorem dX5_gatherByHolding_38 : decode cX5_gatherByHolding 38 = .ok (.getfield 22, 3) := by decide +kernel
theorem dX5_gatherByHolding_41 : decode cX5_gatherByHolding 41 = .ok (.getfield 46, 3) := by decide +kernel
theorem dX5_gatherByHolding_44 : decode cX5_gatherByHolding 44 = .ok (.iload_n 3, 1) := by decide +kernel
theorem dX5_gatherByHolding_45 : decode cX5_gatherByHolding 45 = .ok (.invokevirtual 50, 3) := by decide +kernel
theorem dX5_gatherByHolding_48 : decode cX5_gatherByHolding 48 = .ok (.iload_n 1, 1) := by decide +kernel
theorem dX5_gatherByHolding_49 : decode cX5_gatherByHolding 49 = .ok (.ifCond .eq 8, 3) := by decide +kernel
theorem dX5_gatherByHolding_52 : decode cX5_gatherByHolding 52 = .ok (.iload 4, 2) := by decide +kernel
theorem dX5_gatherByHolding_54 : decode cX5_gatherByHolding 54 = .ok (.goto 7, 3) := by decide +kernel
theorem dX5_gatherByHolding_57 : decode cX5_gatherByHolding 57 = .ok (.iload 4, 2) := by decide +kernel
theorem dX5_gatherByHolding_59 : decode cX5_gatherByHolding 59 = .ok (.iconst (-1), 1) := by decide +kernel
theorem dX5_gatherByHolding_60 : decode cX5_gatherByHolding 60 = .ok (.ixor, 1) := by decide +kernel
theorem dX5_gatherByHolding_61 : decode cX5_gatherByHolding 61 = .ok (.iand, 1) := by decide +kernel
theorem dX5_gatherByHolding_62 : decode cX5_gatherByHolding 62 = .ok (.invokevirtual 57, 3) := by decide +kernel
theorem dX5_gatherByHolding_65 : decode cX5_gatherByHolding 65 = .ok (.iinc 3 (-1), 3) := by decide +kernel
theorem dX5_gatherByHolding_68 : decode cX5_gatherByHolding 68 = .ok (.goto (-62), 3) := by decide +kernel
theorem dX5_gatherByHolding_71 : decode cX5_gatherByHolding 71 = .ok (.return_, 1) := by decide +kernel
set_option maxRecDepth 20000 in
theorem ggX5_gatherByLying_X6_highestEnd : GoodIn wsX5_gatherByLying wsX6_highestEnd := goodIn_r _ [14, 15, 16, 17, 13, 18, 19, 65] (by decide +kernel) (by decide +kernel)
set_option maxRecDepth 20000 in
theorem gX5_gatherByLying_X6_highestEnd : GoodIn wsX5_gatherByLying (wsV RX5 73 RX6 yX6_highestEnd wsX6_highestEnd) := goodIn_app (goodIn_of _ (by decide +kernel)) ggX5_gatherByLying_X6_highestEnd
set_option maxRecDepth 20000 in
theorem ggX5_gatherByLying_X9_upTo : GoodIn wsX5_gatherByLying wsX9_upTo := goodIn_r _ [22] (by decide +kernel) (by decide +kernel)
set_option maxRecDepth 20000 in
theorem gX5_gatherByLying_X9_upTo_n79 : GoodIn wsX5_gatherByLying (wsX9_upTo) := ggX5_gatherByLying_X9_upTo
set_option maxRecDepth 20000 in
theorem ggX5_gatherByLying_X6_row : GoodIn wsX5_gatherByLying wsX6_row := goodIn_r _ [18, 19, 65] (by decide +kernel) (by decide +kernel)
set_option maxRecDepth 20000 in
theorem gX5_gatherByLying_X6_row : GoodIn wsX5_gatherByLying (wsV RX5 50 RX6 yX6_row wsX6_row) := goodIn_app (goodIn_of _ (by decide +kernel)) ggX5_gatherByLying_X6_row
set_option maxRecDepth 20000 in
theorem ggX5_gatherByLying_X6_setRow : GoodIn wsX5_gatherByLying wsX6_setRow := goodIn_r _ [27, 19, 65] (by decide +kernel) (by decide +kernel)
set_option maxRecDepth 20000 in
theorem gX5_gatherByLying_X6_setRow : GoodIn wsX5_gatherByLying (wsV RX5 57 RX6 yX6_setRow wsX6_setRow) := goodIn_app (goodIn_of _ (by decide +kernel)) ggX5_gatherByLying_X6_setRow
theorem dX5_gatherByLying_0 : decode cX5_gatherByLying 0 = .ok (.iconst 0, 1) := by decide +kernel
theorem dX5_gatherByLying_1 : decode cX5_gatherByLying 1 = .ok (.istore_n 2, 1) := by decide +kernel
theorem dX5_gatherByLying_2 : decode cX5_gatherByLying 2 = .ok (.iconst 0, 1) := by decide +kernel
theorem dX5_gatherByLying_3 : decode cX5_gatherByLying 3 = .ok (.istore_n 3, 1) := by decide +kernel
theorem dX5_gatherByLying_4 : decode cX5_gatherByLying 4 = .ok (.iload_n 3, 1) := by decide +kernel
theorem dX5_gatherByLying_5 : decode cX5_gatherByLying 5 = .ok (.bipush 24, 2) := by decide +kernel
theorem dX5_gatherByLying_7 : decode cX5_gatherByLying 7 = .ok (.if_icmp .ge 64, 3) := by decide +kernel
theorem dX5_gatherByLying_10 : decode cX5_gatherByLying 10 = .ok (.iload_n 2, 1) := by decide +kernel
theorem dX5_gatherByLying_11 : decode cX5_gatherByLying 11 = .ok (.aload_n 0, 1) := by decide +kernel
theorem dX5_gatherByLying_12 : decode cX5_gatherByLying 12 = .ok (.getfield 26, 3) := by decide +kernel
theorem dX5_gatherByLying_15 : decode cX5_gatherByLying 15 = .ok (.getfield 46, 3) := by decide +kernel
theorem dX5_gatherByLying_18 : decode cX5_gatherByLying 18 = .ok (.iload_n 3, 1) := by decide +kernel
theorem dX5_gatherByLying_19 : decode cX5_gatherByLying 19 = .ok (.invokevirtual 73, 3) := by decide +kernel
theorem dX5_gatherByLying_22 : decode cX5_gatherByLying 22 = .ok (.invokestatic 76, 3) := by decide +kernel
theorem dX5_gatherByLying_25 : decode cX5_gatherByLying 25 = .ok (.istore_n 2, 1) := by decide +kernel
theorem dX5_gatherByLying_26 : decode cX5_gatherByLying 26 = .ok (.iload_n 2, 1) := by decide +kernel
theorem dX5_gatherByLying_27 : decode cX5_gatherByLying 27 = .ok (.invokestatic 79, 3) := by decide +kernel
theorem dX5_gatherByLying_30 : decode cX5_gatherByLying 30 = .ok (.istore 4, 2) := by decide +kernel
theorem dX5_gatherByLying_32 : decode cX5_gatherByLying 32 = .ok (.aload_n 0, 1) := by decide +kernel
theorem dX5_gatherByLying_33 : decode cX5_gatherByLying 33 = .ok (.getfield 56, 3) := by decide +kernel
theorem dX5_gatherByLying_36 : decode cX5_gatherByLying 36 = .ok (.iload_n 3, 1) := by decide +kernel
theorem dX5_gatherByLying_37 : decode cX5_gatherByLying 37 = .ok (.aload_n 0, 1) := by decide +kernel
theorem dX5_gatherByLying_38 : decode cX5_gatherByLying 38 = .ok (.getfield 22, 3) := by decide +kernel
theorem dX5_gatherByLying_41 : decode cX5_gatherByLying 41 = .ok (.getfield 46, 3) := by decide +kernel
theorem dX5_gatherByLying_44 : decode cX5_gatherByLying 44 = .ok (.iload_n 3, 1) := by decide +kernel
theorem dX5_gatherByLying_45 : decode cX5_gatherByLying 45 = .ok (.invokevirtual 50, 3) := by decide +kernel
theorem dX5_gatherByLying_48 : decode cX5_gatherByLying 48 = .ok (.iload_n 1, 1) := by decide +kernel
theorem dX5_gatherByLying_49 : decode cX5_gatherByLying 49 = .ok (.ifCond .eq 8, 3) := by decide +kernel
theorem dX5_gatherByLying_52 : decode cX5_gatherByLying 52 = .ok (.iload 4, 2) := by decide +kernel
theorem dX5_gatherByLying_54 : decode cX5_gatherByLying 54 = .ok (.goto 7, 3) := by decide +kernel
theorem dX5_gatherByLying_57 : decode cX5_gatherByLying 57 = .ok (.iload 4, 2) := by decide +kernel
theorem dX5_gatherByLying_59 : decode cX5_gatherByLying 59 = .ok (.iconst (-1), 1) := by decide +kernel
theorem dX5_gatherByLying_60 : decode cX5_gatherByLying 60 = .ok (.ixor, 1) := by decide +kernel
theorem dX5_gatherByLying_61 : decode cX5_gatherByLying 61 = .ok (.iand, 1) := by decide +kernel
theorem dX5_gatherByLying_62 : decode cX5_gatherByLying 62 = .ok (.invokevirtual 57, 3) := by decide +kernel
theorem dX5_gatherByLying_65 : decode cX5_gatherByLying 65 = .ok (.iinc 3 1, 3) := by decide +kernel
theorem dX5_gatherByLying_68 : decode cX5_gatherByLying 68 = .ok (.goto (-64), 3) := by decide +kernel
theorem dX5_gatherByLying_71 : decode cX5_gatherByLying 71 = .ok (.return_, 1) := by decide +kernel
set_option maxRecDepth 20000 in
theorem ggX5_gatherAhead_X6_row : GoodIn wsX5_gatherAhead wsX6_row := goodIn_r _ [10, 11, 56] (by decide +kernel) (by decide +kernel)
set_option maxRecDepth 20000 in
theorem gX5_gatherAhead_X6_row : GoodIn wsX5_gatherAhead (wsV RX5 50 RX6 yX6_row wsX6_row) := goodIn_app (goodIn_of _ (by decide +kernel)) ggX5_gatherAhead_X6_row
set_option maxRecDepth 20000 in
theorem ggX5_gatherAhead_X9_upTo : GoodIn wsX5_gatherAhead wsX9_upTo := goodIn_r _ [14] (by decide +kernel) (by decide +kernel)
set_option maxRecDepth 20000 in
theorem gX5_gatherAhead_X9_upTo_n79 : GoodIn wsX5_gatherAhead (wsX9_upTo) := ggX5_gatherAhead_X9_upTo
set_option maxRecDepth 20000 in
theorem ggX5_gatherAhead_X6_setRow : GoodIn wsX5_gatherAhead wsX6_setRow := goodIn_r _ [18, 11, 56] (by decide +kernel) (by decide +kernel)
set_option maxRecDepth 20000 in
theorem gX5_gatherAhead_X6_setRow : GoodIn wsX5_gatherAhead (wsV RX5 57 RX6 yX6_setRow wsX6_setRow) := goodIn_app (goodIn_of _ (by decide +kernel)) ggX5_gatherAhead_X6_setRow
theorem dX5_gatherAhead_0 : decode cX5_gatherAhead 0 = .ok (.bipush 23, 2) := by decide +kernel
theorem dX5_gatherAhead_2 : decode cX5_gatherAhead 2 = .ok (.istore_n 1, 1) := by decide +kernel
theorem dX5_gatherAhead_3 : decode cX5_gatherAhead 3 = .ok (.iload_n 1, 1) := by decide +kernel
theorem dX5_gatherAhead_4 : decode cX5_gatherAhead 4 = .ok (.ifCond .lt 23, 3) := by decide +kernel
theorem dX5_gatherAhead_7 : decode cX5_gatherAhead 7 = .ok (.aload_n 0, 1) := by decide +kernel
theorem dX5_gatherAhead_8 : decode cX5_gatherAhead 8 = .ok (.getfield 26, 3) := by decide +kernel
theorem dX5_gatherAhead_11 : decode cX5_gatherAhead 11 = .ok (.getfield 46, 3) := by decide +kernel
theorem dX5_gatherAhead_14 : decode cX5_gatherAhead 14 = .ok (.iload_n 1, 1) := by decide +kernel
theorem dX5_gatherAhead_15 : decode cX5_gatherAhead 15 = .ok (.invokevirtual 50, 3) := by decide +kernel
theorem dX5_gatherAhead_18 : decode cX5_gatherAhead 18 = .ok (.ifCond .ne 9, 3) := by decide +kernel
theorem dX5_gatherAhead_21 : decode cX5_gatherAhead 21 = .ok (.iinc 1 (-1), 3) := by decide +kernel
theorem dX5_gatherAhead_24 : decode cX5_gatherAhead 24 = .ok (.goto (-21), 3) := by decide +kernel
theorem dX5_gatherAhead_27 : decode cX5_gatherAhead 27 = .ok (.iconst 0, 1) := by decide +kernel
theorem dX5_gatherAhead_28 : decode cX5_gatherAhead 28 = .ok (.istore_n 2, 1) := by decide +kernel
theorem dX5_gatherAhead_29 : decode cX5_gatherAhead 29 = .ok (.iload_n 2, 1) := by decide +kernel
theorem dX5_gatherAhead_30 : decode cX5_gatherAhead 30 = .ok (.bipush 24, 2) := by decide +kernel
theorem dX5_gatherAhead_32 : decode cX5_gatherAhead 32 = .ok (.if_icmp .ge 33, 3) := by decide +kernel
theorem dX5_gatherAhead_35 : decode cX5_gatherAhead 35 = .ok (.aload_n 0, 1) := by decide +kernel
theorem dX5_gatherAhead_36 : decode cX5_gatherAhead 36 = .ok (.getfield 56, 3) := by decide +kernel
theorem dX5_gatherAhead_39 : decode cX5_gatherAhead 39 = .ok (.iload_n 2, 1) := by decide +kernel
theorem dX5_gatherAhead_40 : decode cX5_gatherAhead 40 = .ok (.aload_n 0, 1) := by decide +kernel
theorem dX5_gatherAhead_41 : decode cX5_gatherAhead 41 = .ok (.getfield 22, 3) := by decide +kernel
theorem dX5_gatherAhead_44 : decode cX5_gatherAhead 44 = .ok (.getfield 46, 3) := by decide +kernel
theorem dX5_gatherAhead_47 : decode cX5_gatherAhead 47 = .ok (.iload_n 2, 1) := by decide +kernel
theorem dX5_gatherAhead_48 : decode cX5_gatherAhead 48 = .ok (.invokevirtual 50, 3) := by decide +kernel
theorem dX5_gatherAhead_51 : decode cX5_gatherAhead 51 = .ok (.iload_n 1, 1) := by decide +kernel
theorem dX5_gatherAhead_52 : decode cX5_gatherAhead 52 = .ok (.invokestatic 79, 3) := by decide +kernel
theorem dX5_gatherAhead_55 : decode cX5_gatherAhead 55 = .ok (.iand, 1) := by decide +kernel
theorem dX5_gatherAhead_56 : decode cX5_gatherAhead 56 = .ok (.invokevirtual 57, 3) := by decide +kernel
theorem dX5_gatherAhead_59 : decode cX5_gatherAhead 59 = .ok (.iinc 2 1, 3) := by decide +kernel
theorem dX5_gatherAhead_62 : decode cX5_gatherAhead 62 = .ok (.goto (-33), 3) := by decide +kernel
theorem dX5_gatherAhead_65 : decode cX5_gatherAhead 65 = .ok (.return_, 1) := by decide +kernel
set_option maxRecDepth 20000 in
theorem ggX5_gatherBehind_X6_lowestEnd : GoodIn wsX5_gatherBehind wsX6_lowestEnd := goodIn_r _ [14, 15, 16, 17, 13, 18, 19, 62] (by decide +kernel) (by decide +kernel)
set_option maxRecDepth 20000 in
theorem gX5_gatherBehind_X6_lowestEnd : GoodIn wsX5_gatherBehind (wsV RX5 61 RX6 yX6_lowestEnd wsX6_lowestEnd) := goodIn_app (goodIn_of _ (by decide +kernel)) ggX5_gatherBehind_X6_lowestEnd
set_option maxRecDepth 20000 in
theorem ggX5_gatherBehind_X6_row : GoodIn wsX5_gatherBehind wsX6_row := goodIn_r _ [18, 19, 62] (by decide +kernel) (by decide +kernel)
set_option maxRecDepth 20000 in
theorem gX5_gatherBehind_X6_row : GoodIn wsX5_gatherBehind (wsV RX5 50 RX6 yX6_row wsX6_row) := goodIn_app (goodIn_of _ (by decide +kernel)) ggX5_gatherBehind_X6_row
set_option maxRecDepth 20000 in
theorem ggX5_gatherBehind_X6_setRow : GoodIn wsX5_gatherBehind wsX6_setRow := goodIn_r _ [24, 19, 62] (by decide +kernel) (by decide +kernel)
set_option maxRecDepth 20000 in
theorem gX5_gatherBehind_X6_setRow : GoodIn wsX5_gatherBehind (wsV RX5 57 RX6 yX6_setRow wsX6_setRow) := goodIn_app (goodIn_of _ (by decide +kernel)) ggX5_gatherBehind_X6_setRow
theorem dX5_gatherBehind_0 : decode cX5_gatherBehind 0 = .ok (.bipush 25, 2) := by decide +kernel
theorem dX5_gatherBehind_2 : decode cX5_gatherBehind 2 = .ok (.istore_n 1, 1) := by decide +kernel
theorem dX5_gatherBehind_3 : decode cX5_gatherBehind 3 = .ok (.iconst 0, 1) := by decide +kernel
theorem dX5_gatherBehind_4 : decode cX5_gatherBehind 4 = .ok (.istore_n 2, 1) := by decide +kernel
theorem dX5_gatherBehind_5 : decode cX5_gatherBehind 5 = .ok (.iload_n 2, 1) := by decide +kernel
theorem dX5_gatherBehind_6 : decode cX5_gatherBehind 6 = .ok (.bipush 24, 2) := by decide +kernel
theorem dX5_gatherBehind_8 : decode cX5_gatherBehind 8 = .ok (.if_icmp .ge 25, 3) := by decide +kernel
theorem dX5_gatherBehind_11 : decode cX5_gatherBehind 11 = .ok (.iload_n 1, 1) := by decide +kernel
theorem dX5_gatherBehind_12 : decode cX5_gatherBehind 12 = .ok (.aload_n 0, 1) := by decide +kernel
theorem dX5_gatherBehind_13 : decode cX5_gatherBehind 13 = .ok (.getfield 26, 3) := by decide +kernel
theorem dX5_gatherBehind_16 : decode cX5_gatherBehind 16 = .ok (.getfield 46, 3) := by decide +kernel
theorem dX5_gatherBehind_19 : decode cX5_gatherBehind 19 = .ok (.iload_n 2, 1) := by decide +kernel
theorem dX5_gatherBehind_20 : decode cX5_gatherBehind 20 = .ok (.invokevirtual 61, 3) := by decide +kernel
theorem dX5_gatherBehind_23 : decode cX5_gatherBehind 23 = .ok (.invokestatic 64, 3) := by decide +kernel
theorem dX5_gatherBehind_26 : decode cX5_gatherBehind 26 = .ok (.istore_n 1, 1) := by decide +kernel
theorem dX5_gatherBehind_27 : decode cX5_gatherBehind 27 = .ok (.iinc 2 1, 3) := by decide +kernel
theorem dX5_gatherBehind_30 : decode cX5_gatherBehind 30 = .ok (.goto (-25), 3) := by decide +kernel
theorem dX5_gatherBehind_33 : decode cX5_gatherBehind 33 = .ok (.iconst 0, 1) := by decide +kernel
theorem dX5_gatherBehind_34 : decode cX5_gatherBehind 34 = .ok (.istore_n 2, 1) := by decide +kernel
theorem dX5_gatherBehind_35 : decode cX5_gatherBehind 35 = .ok (.iload_n 2, 1) := by decide +kernel
theorem dX5_gatherBehind_36 : decode cX5_gatherBehind 36 = .ok (.bipush 24, 2) := by decide +kernel
theorem dX5_gatherBehind_38 : decode cX5_gatherBehind 38 = .ok (.if_icmp .ge 37, 3) := by decide +kernel
theorem dX5_gatherBehind_41 : decode cX5_gatherBehind 41 = .ok (.aload_n 0, 1) := by decide +kernel
theorem dX5_gatherBehind_42 : decode cX5_gatherBehind 42 = .ok (.getfield 56, 3) := by decide +kernel
theorem dX5_gatherBehind_45 : decode cX5_gatherBehind 45 = .ok (.iload_n 2, 1) := by decide +kernel
theorem dX5_gatherBehind_46 : decode cX5_gatherBehind 46 = .ok (.iload_n 2, 1) := by decide +kernel
theorem dX5_gatherBehind_47 : decode cX5_gatherBehind 47 = .ok (.iload_n 1, 1) := by decide +kernel
theorem dX5_gatherBehind_48 : decode cX5_gatherBehind 48 = .ok (.if_icmp .lt 17, 3) := by decide +kernel
theorem dX5_gatherBehind_51 : decode cX5_gatherBehind 51 = .ok (.aload_n 0, 1) := by decide +kernel
theorem dX5_gatherBehind_52 : decode cX5_gatherBehind 52 = .ok (.getfield 22, 3) := by decide +kernel
theorem dX5_gatherBehind_55 : decode cX5_gatherBehind 55 = .ok (.getfield 46, 3) := by decide +kernel
theorem dX5_gatherBehind_58 : decode cX5_gatherBehind 58 = .ok (.iload_n 2, 1) := by decide +kernel
theorem dX5_gatherBehind_59 : decode cX5_gatherBehind 59 = .ok (.invokevirtual 50, 3) := by decide +kernel
theorem dX5_gatherBehind_62 : decode cX5_gatherBehind 62 = .ok (.goto 4, 3) := by decide +kernel
theorem dX5_gatherBehind_65 : decode cX5_gatherBehind 65 = .ok (.iconst 0, 1) := by decide +kernel
theorem dX5_gatherBehind_66 : decode cX5_gatherBehind 66 = .ok (.invokevirtual 57, 3) := by decide +kernel
theorem dX5_gatherBehind_69 : decode cX5_gatherBehind 69 = .ok (.iinc 2 1, 3) := by decide +kernel
theorem dX5_gatherBehind_72 : decode cX5_gatherBehind 72 = .ok (.goto (-37), 3) := by decide +kernel
theorem dX5_gatherBehind_75 : decode cX5_gatherBehind 75 = .ok (.return_, 1) := by decide +kernel
set_option maxRecDepth 20000 in
theorem ggX5_isOne_X6_contains : GoodIn wsX5_isOne wsX6_contains := goodIn_r _ [9, 10, 66] (by decide +kernel) (by decide +kernel)
set_option maxRecDepth 20000 in
theorem gX5_isOne_X6_contains : GoodIn wsX5_isOne (wsV RX5 85 RX6 yX6_contains wsX6_contains) := goodIn_app (goodIn_of _ (by decide +kernel)) ggX5_isOne_X6_contains
set_option maxRecDepth 20000 in
theorem ggX5_isOne_X6_countLyingIn : GoodIn wsX5_isOne wsX6_countLyingIn := goodIn_r _ [14, 15, 16, 17, 8, 18, 19, 20, 21, 22, 23, 6, 7, 9, 10, 66] (by decide +kernel) (by decide +kernel)
set_option maxRecDepth 20000 in
theorem gX5_isOne_X6_countLyingIn : GoodIn wsX5_isOne (wsV RX5 89 RX6 yX6_countLyingIn wsX6_countLyingIn) := goodIn_app (goodIn_of _ (by decide +kernel)) ggX5_isOne_X6_countLyingIn
set_option maxRecDepth 20000 in
theorem ggX5_isOne_X6_countLyingRound : GoodIn wsX5_isOne wsX6_countLyingRound := goodIn_r _ [27, 15, 16, 17, 8, 18, 19, 20, 21, 22, 23, 6, 7, 9, 10, 66] (by decide +kernel) (by decide +kernel)
set_option maxRecDepth 20000 in
theorem gX5_isOne_X6_countLyingRound : GoodIn wsX5_isOne (wsV RX5 92 RX6 yX6_countLyingRound wsX6_countLyingRound) := goodIn_app (goodIn_of _ (by decide +kernel)) ggX5_isOne_X6_countLyingRound
set_option maxRecDepth 20000 in
theorem ggX5_isOne_X6_countWithin : GoodIn wsX5_isOne wsX6_countWithin := goodIn_r _ [18, 19, 20, 21, 22, 23, 6, 7, 8, 9, 10, 66] (by decide +kernel) (by decide +kernel)
set_option maxRecDepth 20000 in
theorem gX5_isOne_X6_countWithin : GoodIn wsX5_isOne (wsV RX5 95 RX6 yX6_countWithin wsX6_countWithin) := goodIn_app (goodIn_of _ (by decide +kernel)) ggX5_isOne_X6_countWithin
theorem dX5_isOne_0 : decode cX5_isOne 0 = .ok (.aload_n 0, 1) := by decide +kernel
theorem dX5_isOne_1 : decode cX5_isOne 1 = .ok (.getfield 26, 3) := by decide +kernel
theorem dX5_isOne_4 : decode cX5_isOne 4 = .ok (.getfield 82, 3) := by decide +kernel
theorem dX5_isOne_7 : decode cX5_isOne 7 = .ok (.astore 4, 2) := by decide +kernel
theorem dX5_isOne_9 : decode cX5_isOne 9 = .ok (.aload_n 0, 1) := by decide +kernel
theorem dX5_isOne_10 : decode cX5_isOne 10 = .ok (.getfield 22, 3) := by decide +kernel
theorem dX5_isOne_13 : decode cX5_isOne 13 = .ok (.getfield 82, 3) := by decide +kernel
theorem dX5_isOne_16 : decode cX5_isOne 16 = .ok (.iload_n 2, 1) := by decide +kernel
theorem dX5_isOne_17 : decode cX5_isOne 17 = .ok (.iload_n 3, 1) := by decide +kernel
theorem dX5_isOne_18 : decode cX5_isOne 18 = .ok (.invokevirtual 85, 3) := by decide +kernel
theorem dX5_isOne_21 : decode cX5_isOne 21 = .ok (.istore 5, 2) := by decide +kernel
theorem dX5_isOne_23 : decode cX5_isOne 23 = .ok (.aload_n 0, 1) := by decide +kernel
theorem dX5_isOne_24 : decode cX5_isOne 24 = .ok (.getfield 17, 3) := by decide +kernel
theorem dX5_isOne_27 : decode cX5_isOne 27 = .ok (.ifCond .ne 24, 3) := by decide +kernel
theorem dX5_isOne_30 : decode cX5_isOne 30 = .ok (.iload 5, 2) := by decide +kernel
theorem dX5_isOne_32 : decode cX5_isOne 32 = .ok (.ifCond .ne 13, 3) := by decide +kernel
theorem dX5_isOne_35 : decode cX5_isOne 35 = .ok (.aload 4, 2) := by decide +kernel
theorem dX5_isOne_37 : decode cX5_isOne 37 = .ok (.iload_n 2, 1) := by decide +kernel
theorem dX5_isOne_38 : decode cX5_isOne 38 = .ok (.iload_n 3, 1) := by decide +kernel
theorem dX5_isOne_39 : decode cX5_isOne 39 = .ok (.invokevirtual 85, 3) := by decide +kernel
theorem dX5_isOne_42 : decode cX5_isOne 42 = .ok (.ifCond .eq 7, 3) := by decide +kernel
theorem dX5_isOne_45 : decode cX5_isOne 45 = .ok (.iconst 1, 1) := by decide +kernel
theorem dX5_isOne_46 : decode cX5_isOne 46 = .ok (.goto 4, 3) := by decide +kernel
theorem dX5_isOne_49 : decode cX5_isOne 49 = .ok (.iconst 0, 1) := by decide +kernel
theorem dX5_isOne_50 : decode cX5_isOne 50 = .ok (.ireturn, 1) := by decide +kernel
theorem dX5_isOne_51 : decode cX5_isOne 51 = .ok (.iload 5, 2) := by decide +kernel
theorem dX5_isOne_53 : decode cX5_isOne 53 = .ok (.ifCond .ne 5, 3) := by decide +kernel
theorem dX5_isOne_56 : decode cX5_isOne 56 = .ok (.iconst 0, 1) := by decide +kernel
theorem dX5_isOne_57 : decode cX5_isOne 57 = .ok (.ireturn, 1) := by decide +kernel
theorem dX5_isOne_58 : decode cX5_isOne 58 = .ok (.aload_n 0, 1) := by decide +kernel
theorem dX5_isOne_59 : decode cX5_isOne 59 = .ok (.getfield 17, 3) := by decide +kernel
theorem dX5_isOne_62 : decode cX5_isOne 62 = .ok (.tableswitch 152 1 7 #[42, 50, 66, 82, 98, 114, 130], 42) := by decide +kernel
theorem dX5_isOne_104 : decode cX5_isOne 104 = .ok (.aload 4, 2) := by decide +kernel
theorem dX5_isOne_106 : decode cX5_isOne 106 = .ok (.iload_n 2, 1) := by decide +kernel
theorem dX5_isOne_107 : decode cX5_isOne 107 = .ok (.iload_n 3, 1) := by decide +kernel
theorem dX5_isOne_108 : decode cX5_isOne 108 = .ok (.invokevirtual 85, 3) := by decide +kernel
theorem dX5_isOne_111 : decode cX5_isOne 111 = .ok (.ireturn, 1) := by decide +kernel
theorem dX5_isOne_112 : decode cX5_isOne 112 = .ok (.aload 4, 2) := by decide +kernel
theorem dX5_isOne_114 : decode cX5_isOne 114 = .ok (.iload_n 2, 1) := by decide +kernel
theorem dX5_isOne_115 : decode cX5_isOne 115 = .ok (.iload_n 3, 1) := by decide +kernel
theorem dX5_isOne_116 : decode cX5_isOne 116 = .ok (.invokevirtual 85, 3) := by decide +kernel
theorem dX5_isOne_119 : decode cX5_isOne 119 = .ok (.ifCond .ne 7, 3) := by decide +kernel
theorem dX5_isOne_122 : decode cX5_isOne 122 = .ok (.iconst 1, 1) := by decide +kernel
theorem dX5_isOne_123 : decode cX5_isOne 123 = .ok (.goto 4, 3) := by decide +kernel
theorem dX5_isOne_126 : decode cX5_isOne 126 = .ok (.iconst 0, 1) := by decide +kernel
theorem dX5_isOne_127 : decode cX5_isOne 127 = .ok (.ireturn, 1) := by decide +kernel
theorem dX5_isOne_128 : decode cX5_isOne 128 = .ok (.aload 4, 2) := by decide +kernel
theorem dX5_isOne_130 : decode cX5_isOne 130 = .ok (.iload_n 2, 1) := by decide +kernel
theorem dX5_isOne_131 : decode cX5_isOne 131 = .ok (.iload_n 3, 1) := by decide +kernel
theorem dX5_isOne_132 : decode cX5_isOne 132 = .ok (.invokevirtual 89, 3) := by decide +kernel
theorem dX5_isOne_135 : decode cX5_isOne 135 = .ok (.ifCond .le 7, 3) := by decide +kernel
theorem dX5_isOne_138 : decode cX5_isOne 138 = .ok (.iconst 1, 1) := by decide +kernel
theorem dX5_isOne_139 : decode cX5_isOne 139 = .ok (.goto 4, 3) := by decide +kernel
theorem dX5_isOne_142 : decode cX5_isOne 142 = .ok (.iconst 0, 1) := by decide +kernel
theorem dX5_isOne_143 : decode cX5_isOne 143 = .ok (.ireturn, 1) := by decide +kernel
theorem dX5_isOne_144 : decode cX5_isOne 144 = .ok (.aload 4, 2) := by decide +kernel
theorem dX5_isOne_146 : decode cX5_isOne 146 = .ok (.iload_n 2, 1) := by decide +kernel
theorem dX5_isOne_147 : decode cX5_isOne 147 = .ok (.iload_n 3, 1) := by decide +kernel
theorem dX5_isOne_148 : decode cX5_isOne 148 = .ok (.invokevirtual 89, 3) := by decide +kernel
theorem dX5_isOne_151 : decode cX5_isOne 151 = .ok (.ifCond .ne 7, 3) := by decide +kernel
theorem dX5_isOne_154 : decode cX5_isOne 154 = .ok (.iconst 1, 1) := by decide +kernel
theorem dX5_isOne_155 : decode cX5_isOne 155 = .ok (.goto 4, 3) := by decide +kernel
theorem dX5_isOne_158 : decode cX5_isOne 158 = .ok (.iconst 0, 1) := by decide +kernel
theorem dX5_isOne_159 : decode cX5_isOne 159 = .ok (.ireturn, 1) := by decide +kernel
theorem dX5_isOne_160 : decode cX5_isOne 160 = .ok (.aload 4, 2) := by decide +kernel
theorem dX5_isOne_162 : decode cX5_isOne 162 = .ok (.iload_n 2, 1) := by decide +kernel
theorem dX5_isOne_163 : decode cX5_isOne 163 = .ok (.iload_n 3, 1) := by decide +kernel
theorem dX5_isOne_164 : decode cX5_isOne 164 = .ok (.invokevirtual 92, 3) := by decide +kernel
theorem dX5_isOne_167 : decode cX5_isOne 167 = .ok (.ifCond .le 7, 3) := by decide +kernel
theorem dX5_isOne_170 : decode cX5_isOne 170 = .ok (.iconst 1, 1) := by decide +kernel
theorem dX5_isOne_171 : decode cX5_isOne 171 = .ok (.goto 4, 3) := by decide +kernel
theorem dX5_isOne_174 : decode cX5_isOne 174 = .ok (.iconst 0, 1) := by decide +kernel
theorem dX5_isOne_175 : decode cX5_isOne 175 = .ok (.ireturn, 1) := by decide +kernel
theorem dX5_isOne_176 : decode cX5_isOne 176 = .ok (.aload 4, 2) := by decide +kernel
theorem dX5_isOne_178 : decode cX5_isOne 178 = .ok (.iload_n 2, 1) := by decide +kernel
theorem dX5_isOne_179 : decode cX5_isOne 179 = .ok (.iload_n 3, 1) := by decide +kernel
theorem dX5_isOne_180 : decode cX5_isOne 180 = .ok (.invokevirtual 92, 3) := by decide +kernel
theorem dX5_isOne_183 : decode cX5_isOne 183 = .ok (.ifCond .ne 7, 3) := by decide +kernel
theorem dX5_isOne_186 : decode cX5_isOne 186 = .ok (.iconst 1, 1) := by decide +kernel
theorem dX5_isOne_187 : decode cX5_isOne 187 = .ok (.goto 4, 3) := by decide +kernel
theorem dX5_isOne_190 : decode cX5_isOne 190 = .ok (.iconst 0, 1) := by decide +kernel
theorem dX5_isOne_191 : decode cX5_isOne 191 = .ok (.ireturn, 1) := by decide +kernel
theorem dX5_isOne_192 : decode cX5_isOne 192 = .ok (.aload 4, 2) := by decide +kernel
theorem dX5_isOne_194 : decode cX5_isOne 194 = .ok (.iload_n 3, 1) := by decide +kernel
theorem dX5_isOne_195 : decode cX5_isOne 195 = .ok (.bipush 23, 2) := by decide +kernel
theorem dX5_isOne_197 : decode cX5_isOne 197 = .ok (.iload_n 3, 1) := by decide +kernel
theorem dX5_isOne_198 : decode cX5_isOne 198 = .ok (.iconst 1, 1) := by decide +kernel
theorem dX5_isOne_199 : decode cX5_isOne 199 = .ok (.iadd, 1) := by decide +kernel
theorem dX5_isOne_200 : decode cX5_isOne 200 = .ok (.bipush 24, 2) := by decide +kernel
theorem dX5_isOne_202 : decode cX5_isOne 202 = .ok (.invokevirtual 95, 3) := by decide +kernel
theorem dX5_isOne_205 : decode cX5_isOne 205 = .ok (.ifCond .le 7, 3) := by decide +kernel
theorem dX5_isOne_208 : decode cX5_isOne 208 = .ok (.iconst 1, 1) := by decide +kernel
theorem dX5_isOne_209 : decode cX5_isOne 209 = .ok (.goto 4, 3) := by decide +kernel
theorem dX5_isOne_212 : decode cX5_isOne 212 = .ok (.iconst 0, 1) := by decide +kernel
theorem dX5_isOne_213 : decode cX5_isOne 213 = .ok (.ireturn, 1) := by decide +kernel
theorem dX5_isOne_214 : decode cX5_isOne 214 = .ok (.aload 4, 2) := by decide +kernel
theorem dX5_isOne_216 : decode cX5_isOne 216 = .ok (.iconst 0, 1) := by decide +kernel
theorem dX5_isOne_217 : decode cX5_isOne 217 = .ok (.iload_n 2, 1) := by decide +kernel
theorem dX5_isOne_218 : decode cX5_isOne 218 = .ok (.iconst 1, 1) := by decide +kernel
theorem dX5_isOne_219 : decode cX5_isOne 219 = .ok (.isub, 1) := by decide +kernel
theorem dX5_isOne_220 : decode cX5_isOne 220 = .ok (.iconst 1, 1) := by decide +kernel
theorem dX5_isOne_221 : decode cX5_isOne 221 = .ok (.iload_n 2, 1) := by decide +kernel
theorem dX5_isOne_222 : decode cX5_isOne 222 = .ok (.invokevirtual 95, 3) := by decide +kernel
theorem dX5_isOne_225 : decode cX5_isOne 225 = .ok (.ifCond .le 7, 3) := by decide +kernel
theorem dX5_isOne_228 : decode cX5_isOne 228 = .ok (.iconst 1, 1) := by decide +kernel
theorem dX5_isOne_229 : decode cX5_isOne 229 = .ok (.goto 4, 3) := by decide +kernel
theorem dX5_isOne_232 : decode cX5_isOne 232 = .ok (.iconst 0, 1) := by decide +kernel
theorem dX5_isOne_233 : decode cX5_isOne 233 = .ok (.ireturn, 1) := by decide +kernel
theorem dX6_init_0 : decode cX6_init 0 = .ok (.aload_n 0, 1) := by decide +kernel
theorem dX6_init_1 : decode cX6_init 1 = .ok (.invokespecial 3, 3) := by decide +kernel
theorem dX6_init_4 : decode cX6_init 4 = .ok (.aload_n 0, 1) := by decide +kernel
theorem dX6_init_5 : decode cX6_init 5 = .ok (.bipush 24, 2) := by decide +kernel
theorem dX6_init_7 : decode cX6_init 7 = .ok (.newarray .int, 2) := by decide +kernel
theorem dX6_init_9 : decode cX6_init 9 = .ok (.putfield 9, 3) := by decide +kernel
theorem dX6_init_12 : decode cX6_init 12 = .ok (.return_, 1) := by decide +kernel
theorem dX6_row_0 : decode cX6_row 0 = .ok (.iload_n 1, 1) := by decide +kernel
theorem dX6_row_1 : decode cX6_row 1 = .ok (.ifCond .lt 21, 3) := by decide +kernel
theorem dX6_row_4 : decode cX6_row 4 = .ok (.iload_n 1, 1) := by decide +kernel
theorem dX6_row_5 : decode cX6_row 5 = .ok (.aload_n 0, 1) := by decide +kernel
theorem dX6_row_6 : decode cX6_row 6 = .ok (.getfield 9, 3) := by decide +kernel
theorem dX6_row_9 : decode cX6_row 9 = .ok (.arraylength, 1) := by decide +kernel
theorem dX6_row_10 : decode cX6_row 10 = .ok (.if_icmp .ge 12, 3) := by decide +kernel
theorem dX6_row_13 : decode cX6_row 13 = .ok (.aload_n 0, 1) := by decide +kernel
theorem dX6_row_14 : decode cX6_row 14 = .ok (.getfield 9, 3) := by decide +kernel
theorem dX6_row_17 : decode cX6_row 17 = .ok (.iload_n 1, 1) := by decide +kernel
theorem dX6_row_18 : decode cX6_row 18 = .ok (.iaload, 1) := by decide +kernel
theorem dX6_row_19 : decode cX6_row 19 = .ok (.goto 4, 3) := by decide +kernel
theorem dX6_row_22 : decode cX6_row 22 = .ok (.iconst 0, 1) := by decide +kernel
theorem dX6_row_23 : decode cX6_row 23 = .ok (.ireturn, 1) := by decide +kernel
theorem dX6_setRow_0 : decode cX6_setRow 0 = .ok (.iload_n 1, 1) := by decide +kernel
theorem dX6_setRow_1 : decode cX6_setRow 1 = .ok (.ifCond .lt 19, 3) := by decide +kernel
theorem dX6_setRow_4 : decode cX6_setRow 4 = .ok (.iload_n 1, 1) := by decide +kernel
theorem dX6_setRow_5 : decode cX6_setRow 5 = .ok (.aload_n 0, 1) := by decide +kernel
theorem dX6_setRow_6 : decode cX6_setRow 6 = .ok (.getfield 9, 3) := by decide +kernel
theorem dX6_setRow_9 : decode cX6_setRow 9 = .ok (.arraylength, 1) := by decide +kernel
theorem dX6_setRow_10 : decode cX6_setRow 10 = .ok (.if_icmp .ge 10, 3) := by decide +kernel
theorem dX6_setRow_13 : decode cX6_setRow 13 = .ok (.aload_n 0, 1) := by decide +kernel
theorem dX6_setRow_14 : decode cX6_setRow 14 = .ok (.getfield 9, 3) := by decide +kernel
theorem dX6_setRow_17 : decode cX6_setRow 17 = .ok (.iload_n 1, 1) := by decide +kernel
theorem dX6_setRow_18 : decode cX6_setRow 18 = .ok (.iload_n 2, 1) := by decide +kernel
theorem dX6_setRow_19 : decode cX6_setRow 19 = .ok (.iastore, 1) := by decide +kernel
theorem dX6_setRow_20 : decode cX6_setRow 20 = .ok (.return_, 1) := by decide +kernel
theorem dX6_contains_0 : decode cX6_contains 0 = .ok (.iload_n 1, 1) := by decide +kernel
theorem dX6_contains_1 : decode cX6_contains 1 = .ok (.ifCond .lt 40, 3) := by decide +kernel
theorem dX6_contains_4 : decode cX6_contains 4 = .ok (.iload_n 1, 1) := by decide +kernel
theorem dX6_contains_5 : decode cX6_contains 5 = .ok (.aload_n 0, 1) := by decide +kernel
theorem dX6_contains_6 : decode cX6_contains 6 = .ok (.getfield 9, 3) := by decide +kernel
theorem dX6_contains_9 : decode cX6_contains 9 = .ok (.arraylength, 1) := by decide +kernel
theorem dX6_contains_10 : decode cX6_contains 10 = .ok (.if_icmp .ge 31, 3) := by decide +kernel
theorem dX6_contains_13 : decode cX6_contains 13 = .ok (.iload_n 2, 1) := by decide +kernel
theorem dX6_contains_14 : decode cX6_contains 14 = .ok (.iload_n 1, 1) := by decide +kernel
theorem dX6_contains_15 : decode cX6_contains 15 = .ok (.if_icmp .le 26, 3) := by decide +kernel
theorem dX6_contains_18 : decode cX6_contains 18 = .ok (.iload_n 2, 1) := by decide +kernel
theorem dX6_contains_19 : decode cX6_contains 19 = .ok (.bipush 24, 2) := by decide +kernel
theorem dX6_contains_21 : decode cX6_contains 21 = .ok (.if_icmp .gt 20, 3) := by decide +kernel
theorem dX6_contains_24 : decode cX6_contains 24 = .ok (.aload_n 0, 1) := by decide +kernel
theorem dX6_contains_25 : decode cX6_contains 25 = .ok (.getfield 9, 3) := by decide +kernel
theorem dX6_contains_28 : decode cX6_contains 28 = .ok (.iload_n 1, 1) := by decide +kernel
theorem dX6_contains_29 : decode cX6_contains 29 = .ok (.iaload, 1) := by decide +kernel
theorem dX6_contains_30 : decode cX6_contains 30 = .ok (.iconst 1, 1) := by decide +kernel
theorem dX6_contains_31 : decode cX6_contains 31 = .ok (.iload_n 2, 1) := by decide +kernel
theorem dX6_contains_32 : decode cX6_contains 32 = .ok (.ishl, 1) := by decide +kernel
theorem dX6_contains_33 : decode cX6_contains 33 = .ok (.iand, 1) := by decide +kernel
theorem dX6_contains_34 : decode cX6_contains 34 = .ok (.ifCond .eq 7, 3) := by decide +kernel
theorem dX6_contains_37 : decode cX6_contains 37 = .ok (.iconst 1, 1) := by decide +kernel
theorem dX6_contains_38 : decode cX6_contains 38 = .ok (.goto 4, 3) := by decide +kernel
theorem dX6_contains_41 : decode cX6_contains 41 = .ok (.iconst 0, 1) := by decide +kernel
theorem dX6_contains_42 : decode cX6_contains 42 = .ok (.ireturn, 1) := by decide +kernel
theorem dX6_add_0 : decode cX6_add 0 = .ok (.iload_n 1, 1) := by decide +kernel
theorem dX6_add_1 : decode cX6_add 1 = .ok (.ifCond .lt 35, 3) := by decide +kernel
theorem dX6_add_4 : decode cX6_add 4 = .ok (.iload_n 1, 1) := by decide +kernel
theorem dX6_add_5 : decode cX6_add 5 = .ok (.aload_n 0, 1) := by decide +kernel
theorem dX6_add_6 : decode cX6_add 6 = .ok (.getfield 9, 3) := by decide +kernel
theorem dX6_add_9 : decode cX6_add 9 = .ok (.arraylength, 1) := by decide +kernel
theorem dX6_add_10 : decode cX6_add 10 = .ok (.if_icmp .ge 26, 3) := by decide +kernel
theorem dX6_add_13 : decode cX6_add 13 = .ok (.iload_n 2, 1) := by decide +kernel
theorem dX6_add_14 : decode cX6_add 14 = .ok (.iload_n 1, 1) := by decide +kernel
theorem dX6_add_15 : decode cX6_add 15 = .ok (.if_icmp .le 21, 3) := by decide +kernel
theorem dX6_add_18 : decode cX6_add 18 = .ok (.iload_n 2, 1) := by decide +kernel
theorem dX6_add_19 : decode cX6_add 19 = .ok (.bipush 24, 2) := by decide +kernel
theorem dX6_add_21 : decode cX6_add 21 = .ok (.if_icmp .gt 15, 3) := by decide +kernel
theorem dX6_add_24 : decode cX6_add 24 = .ok (.aload_n 0, 1) := by decide +kernel
theorem dX6_add_25 : decode cX6_add 25 = .ok (.getfield 9, 3) := by decide +kernel
theorem dX6_add_28 : decode cX6_add 28 = .ok (.iload_n 1, 1) := by decide +kernel
theorem dX6_add_29 : decode cX6_add 29 = .ok (.dup2, 1) := by decide +kernel
theorem dX6_add_30 : decode cX6_add 30 = .ok (.iaload, 1) := by decide +kernel
