theorem dX9_regionAt_0 : decode cX9_regionAt 0 = .ok (.aload_n 0, 1) := by decide +kernel
theorem dX9_regionAt_1 : decode cX9_regionAt 1 = .ok (.iload_n 1, 1) := by decide +kernel
theorem dX9_regionAt_2 : decode cX9_regionAt 2 = .ok (.invokevirtual 133, 3) := by decide +kernel
theorem dX9_regionAt_5 : decode cX9_regionAt 5 = .ok (.iload_n 2, 1) := by decide +kernel
theorem dX9_regionAt_6 : decode cX9_regionAt 6 = .ok (.invokevirtual 64, 3) := by decide +kernel
theorem dX9_regionAt_9 : decode cX9_regionAt 9 = .ok (.istore_n 3, 1) := by decide +kernel
theorem dX9_regionAt_10 : decode cX9_regionAt 10 = .ok (.iload_n 3, 1) := by decide +kernel
theorem dX9_regionAt_11 : decode cX9_regionAt 11 = .ok (.ifCond .ge 13, 3) := by decide +kernel
theorem dX9_regionAt_14 : decode cX9_regionAt 14 = .ok (.new 67, 3) := by decide +kernel
theorem dX9_regionAt_17 : decode cX9_regionAt 17 = .ok (.dup, 1) := by decide +kernel
theorem dX9_regionAt_18 : decode cX9_regionAt 18 = .ok (.ldc 50, 2) := by decide +kernel
theorem dX9_regionAt_20 : decode cX9_regionAt 20 = .ok (.invokespecial 71, 3) := by decide +kernel
theorem dX9_regionAt_23 : decode cX9_regionAt 23 = .ok (.athrow, 1) := by decide +kernel
theorem dX9_regionAt_24 : decode cX9_regionAt 24 = .ok (.iload_n 3, 1) := by decide +kernel
theorem dX9_regionAt_25 : decode cX9_regionAt 25 = .ok (.ireturn, 1) := by decide +kernel
set_option maxRecDepth 20000 in
theorem ggX9_has_X9_gatheredOf : GoodIn wsX9_has wsX9_gatheredOf := goodIn_ca (goodIn_r _ [5, 6, 7, 8, 9, 10, 11, 4, 12, 13, 14, 15, 16, 17, 18, 19, 20, 21, 22, 23, 24, 25, 26, 27, 28, 29, 30, 31, 32, 33, 34, 35, 36, 37, 38, 39, 40, 41, 42, 43, 44, 45, 46, 47, 48, 49, 50, 51, 52, 53, 54, 55, 56, 57, 58, 59, 60, 61, 62, 63, 64, 65, 66, 67, 68, 69, 70, 71, 72, 73, 74, 75, 76, 77, 78, 79, 80, 81, 82, 83, 84, 85, 86, 87, 88, 89, 90, 91, 92, 93, 94, 95, 96, 97, 98, 99, 100, 101, 102, 103, 104, 105, 106, 107, 108, 109, 110, 111, 112, 113, 114, 115, 116, 117, 118, 119, 120, 121, 122, 123, 124, 125, 126, 127, 128, 129, 130, 131, 132, 133, 134, 135, 136, 137, 138, 139, 140, 141, 142, 143, 144, 145, 146, 147, 148, 149, 150, 151, 152, 153, 154, 155, 156, 157, 158, 159, 160, 161, 162, 163, 164, 165, 166, 167, 168, 169, 170, 171, 172, 173, 178, 179, 180, 181, 182, 183, 184, 185, 186, 187, 188, 189, 190, 191, 192, 193, 194, 195, 196, 197, 198, 199, 200, 201, 202, 203, 204, 205, 206, 207, 208, 209, 210, 211, 212, 213, 214, 215, 216, 217, 218, 219, 220, 221] (by decide +kernel) (by decide +kernel)) (goodIn_sub (fun _ h => List.mem_cons_of_mem _ (List.mem_append_right _ h)) (by decide +kernel))
set_option maxRecDepth 20000 in
theorem gX9_has_X9_gatheredOf : GoodIn wsX9_has (wsV RX9 133 RX9 yX9_gatheredOf wsX9_gatheredOf) := goodIn_app (goodIn_of _ (by decide +kernel)) ggX9_has_X9_gatheredOf
set_option maxRecDepth 20000 in
theorem ggX9_has_X6_contains : GoodIn wsX9_has wsX6_contains := goodIn_r _ [177, 41, 218] (by decide +kernel) (by decide +kernel)
set_option maxRecDepth 20000 in
theorem gX9_has_X6_contains : GoodIn wsX9_has (wsV RX9 55 RX6 yX6_contains wsX6_contains) := goodIn_app (goodIn_of _ (by decide +kernel)) ggX9_has_X6_contains
theorem dX9_has_0 : decode cX9_has 0 = .ok (.aload_n 0, 1) := by decide +kernel
theorem dX9_has_1 : decode cX9_has 1 = .ok (.iload_n 1, 1) := by decide +kernel
theorem dX9_has_2 : decode cX9_has 2 = .ok (.invokevirtual 133, 3) := by decide +kernel
theorem dX9_has_5 : decode cX9_has 5 = .ok (.iload_n 2, 1) := by decide +kernel
theorem dX9_has_6 : decode cX9_has 6 = .ok (.iload_n 3, 1) := by decide +kernel
theorem dX9_has_7 : decode cX9_has 7 = .ok (.invokevirtual 55, 3) := by decide +kernel
theorem dX9_has_10 : decode cX9_has 10 = .ok (.ireturn, 1) := by decide +kernel
set_option maxRecDepth 20000 in
theorem ggX9_covered_X9_gatheredOf : GoodIn wsX9_covered wsX9_gatheredOf := goodIn_ca (goodIn_r _ [5, 6, 7, 8, 9, 10, 11, 4, 12, 13, 14, 15, 16, 17, 18, 19, 20, 21, 22, 23, 24, 25, 26, 27, 28, 29, 30, 31, 32, 33, 34, 35, 36, 37, 38, 39, 40, 41, 42, 43, 44, 45, 46, 47, 48, 49, 50, 51, 52, 53, 54, 55, 56, 57, 58, 59, 60, 61, 62, 63, 64, 65, 66, 67, 68, 69, 70, 71, 72, 73, 74, 75, 76, 77, 78, 79, 80, 81, 82, 83, 84, 85, 86, 87, 88, 89, 90, 91, 92, 93, 94, 95, 96, 97, 98, 99, 100, 101, 102, 103, 104, 105, 106, 107, 108, 109, 110, 111, 112, 113, 114, 115, 116, 117, 118, 119, 120, 121, 122, 123, 124, 125, 126, 127, 128, 129, 130, 131, 132, 133, 134, 135, 136, 137, 138, 139, 140, 141, 142, 143, 144, 145, 146, 147, 148, 149, 150, 151, 152, 153, 154, 155, 156, 157, 158, 159, 160, 161, 162, 163, 164, 165, 166, 167, 168, 169, 170, 171, 172, 173, 189, 190, 191, 192, 193, 194, 195, 196, 197, 198, 199, 200, 201, 202, 203, 204, 205, 206, 207, 208, 209, 210, 211, 212, 213, 214, 215, 216, 217, 218, 219, 220, 221, 222, 223, 224, 225, 226, 227, 228, 229, 230, 231, 232] (by decide +kernel) (by decide +kernel)) (goodIn_sub (fun _ h => List.mem_cons_of_mem _ (List.mem_append_right _ h)) (by decide +kernel))
set_option maxRecDepth 20000 in
theorem gX9_covered_X9_gatheredOf : GoodIn wsX9_covered (wsV RX9 133 RX9 yX9_gatheredOf wsX9_gatheredOf) := goodIn_app (goodIn_of _ (by decide +kernel)) ggX9_covered_X9_gatheredOf
set_option maxRecDepth 20000 in
theorem ggX9_covered_X6_coveredPlaces : GoodIn wsX9_covered wsX6_coveredPlaces := goodIn_r _ [177, 178, 179, 180, 39, 181, 42, 43, 44, 45, 41, 88, 4, 89, 90, 86, 87, 182, 183, 184, 185, 186, 187, 188, 229] (by decide +kernel) (by decide +kernel)
set_option maxRecDepth 20000 in
theorem gX9_covered_X6_coveredPlaces : GoodIn wsX9_covered (wsV RX9 139 RX6 yX6_coveredPlaces wsX6_coveredPlaces) := goodIn_app (goodIn_of _ (by decide +kernel)) ggX9_covered_X6_coveredPlaces
theorem dX9_covered_0 : decode cX9_covered 0 = .ok (.aload_n 0, 1) := by decide +kernel
theorem dX9_covered_1 : decode cX9_covered 1 = .ok (.iload_n 1, 1) := by decide +kernel
theorem dX9_covered_2 : decode cX9_covered 2 = .ok (.invokevirtual 133, 3) := by decide +kernel
theorem dX9_covered_5 : decode cX9_covered 5 = .ok (.invokevirtual 139, 3) := by decide +kernel
theorem dX9_covered_8 : decode cX9_covered 8 = .ok (.ireturn, 1) := by decide +kernel
set_option maxRecDepth 20000 in
theorem ggX9_longest_X9_gatheredOf : GoodIn wsX9_longest wsX9_gatheredOf := goodIn_ca (goodIn_r _ [5, 6, 7, 8, 9, 10, 11, 4, 12, 13, 14, 15, 16, 17, 18, 19, 20, 21, 22, 23, 24, 25, 26, 27, 28, 29, 30, 31, 32, 33, 34, 35, 36, 37, 38, 39, 40, 41, 42, 43, 44, 45, 46, 47, 48, 49, 50, 51, 52, 53, 54, 55, 56, 57, 58, 59, 60, 61, 62, 63, 64, 65, 66, 67, 68, 69, 70, 71, 72, 73, 74, 75, 76, 77, 78, 79, 80, 81, 82, 83, 84, 85, 86, 87, 88, 89, 90, 91, 92, 93, 94, 95, 96, 97, 98, 99, 100, 101, 102, 103, 104, 105, 106, 107, 108, 109, 110, 111, 112, 113, 114, 115, 116, 117, 118, 119, 120, 121, 122, 123, 124, 125, 126, 127, 128, 129, 130, 131, 132, 133, 134, 135, 136, 137, 138, 139, 140, 141, 142, 143, 144, 145, 146, 147, 148, 149, 150, 151, 152, 153, 154, 155, 156, 157, 158, 159, 160, 161, 162, 163, 164, 165, 166, 167, 168, 169, 170, 171, 172, 173, 178, 179, 180, 181, 182, 183, 184, 185, 186, 187, 188, 189, 190, 191, 192, 193, 194, 195, 196, 197, 198, 199, 200, 201, 202, 203, 204, 205, 206, 207, 208, 209, 210, 211, 212, 213, 214, 215, 216, 217, 218, 219, 220, 221] (by decide +kernel) (by decide +kernel)) (goodIn_sub (fun _ h => List.mem_cons_of_mem _ (List.mem_append_right _ h)) (by decide +kernel))
set_option maxRecDepth 20000 in
theorem gX9_longest_X9_gatheredOf : GoodIn wsX9_longest (wsV RX9 133 RX9 yX9_gatheredOf wsX9_gatheredOf) := goodIn_app (goodIn_of _ (by decide +kernel)) ggX9_longest_X9_gatheredOf
set_option maxRecDepth 20000 in
theorem ggX9_longest_X6_longestRegion : GoodIn wsX9_longest wsX6_longestRegion := goodIn_r _ [177, 41, 105, 106, 107, 108, 109, 110, 111, 39, 112, 42, 43, 44, 45, 218] (by decide +kernel) (by decide +kernel)
set_option maxRecDepth 20000 in
theorem gX9_longest_X6_longestRegion : GoodIn wsX9_longest (wsV RX9 142 RX6 yX6_longestRegion wsX6_longestRegion) := goodIn_app (goodIn_of _ (by decide +kernel)) ggX9_longest_X6_longestRegion
theorem dX9_longest_0 : decode cX9_longest 0 = .ok (.aload_n 0, 1) := by decide +kernel
theorem dX9_longest_1 : decode cX9_longest 1 = .ok (.iload_n 1, 1) := by decide +kernel
theorem dX9_longest_2 : decode cX9_longest 2 = .ok (.invokevirtual 133, 3) := by decide +kernel
theorem dX9_longest_5 : decode cX9_longest 5 = .ok (.invokevirtual 142, 3) := by decide +kernel
theorem dX9_longest_8 : decode cX9_longest 8 = .ok (.ireturn, 1) := by decide +kernel
set_option maxRecDepth 20000 in
theorem ggX9_deepest_X9_gatheredOf : GoodIn wsX9_deepest wsX9_gatheredOf := goodIn_ca (goodIn_r _ [5, 6, 7, 8, 9, 10, 11, 4, 12, 13, 14, 15, 16, 17, 18, 19, 20, 21, 22, 23, 24, 25, 26, 27, 28, 29, 30, 31, 32, 33, 34, 35, 36, 37, 38, 39, 40, 41, 42, 43, 44, 45, 46, 47, 48, 49, 50, 51, 52, 53, 54, 55, 56, 57, 58, 59, 60, 61, 62, 63, 64, 65, 66, 67, 68, 69, 70, 71, 72, 73, 74, 75, 76, 77, 78, 79, 80, 81, 82, 83, 84, 85, 86, 87, 88, 89, 90, 91, 92, 93, 94, 95, 96, 97, 98, 99, 100, 101, 102, 103, 104, 105, 106, 107, 108, 109, 110, 111, 112, 113, 114, 115, 116, 117, 118, 119, 120, 121, 122, 123, 124, 125, 126, 127, 128, 129, 130, 131, 132, 133, 134, 135, 136, 137, 138, 139, 140, 141, 142, 143, 144, 145, 146, 147, 148, 149, 150, 151, 152, 153, 154, 155, 156, 157, 158, 159, 160, 161, 162, 163, 164, 165, 166, 167, 168, 169, 170, 171, 172, 173, 189, 190, 191, 192, 193, 194, 195, 196, 197, 198, 199, 200, 201, 202, 203, 204, 205, 206, 207, 208, 209, 210, 211, 212, 213, 214, 215, 216, 217, 218, 219, 220, 221, 222, 223, 224, 225, 226, 227, 228, 229, 230, 231, 232] (by decide +kernel) (by decide +kernel)) (goodIn_sub (fun _ h => List.mem_cons_of_mem _ (List.mem_append_right _ h)) (by decide +kernel))
set_option maxRecDepth 20000 in
theorem gX9_deepest_X9_gatheredOf : GoodIn wsX9_deepest (wsV RX9 133 RX9 yX9_gatheredOf wsX9_gatheredOf) := goodIn_app (goodIn_of _ (by decide +kernel)) ggX9_deepest_X9_gatheredOf
set_option maxRecDepth 20000 in
theorem ggX9_deepest_X6_deepestPlace : GoodIn wsX9_deepest wsX6_deepestPlace := goodIn_r _ [177, 105, 106, 107, 108, 178, 179, 180, 39, 181, 42, 43, 44, 45, 41, 88, 4, 89, 90, 86, 87, 182, 183, 184, 185, 186, 187, 188, 229] (by decide +kernel) (by decide +kernel)
set_option maxRecDepth 20000 in
theorem gX9_deepest_X6_deepestPlace : GoodIn wsX9_deepest (wsV RX9 145 RX6 yX6_deepestPlace wsX6_deepestPlace) := goodIn_app (goodIn_of _ (by decide +kernel)) ggX9_deepest_X6_deepestPlace
theorem dX9_deepest_0 : decode cX9_deepest 0 = .ok (.aload_n 0, 1) := by decide +kernel
theorem dX9_deepest_1 : decode cX9_deepest 1 = .ok (.iload_n 1, 1) := by decide +kernel
theorem dX9_deepest_2 : decode cX9_deepest 2 = .ok (.invokevirtual 133, 3) := by decide +kernel
theorem dX9_deepest_5 : decode cX9_deepest 5 = .ok (.invokevirtual 145, 3) := by decide +kernel
theorem dX9_deepest_8 : decode cX9_deepest 8 = .ok (.ireturn, 1) := by decide +kernel
theorem dX9_expressionOf_0 : decode cX9_expressionOf 0 = .ok (.iload_n 1, 1) := by decide +kernel
theorem dX9_expressionOf_1 : decode cX9_expressionOf 1 = .ok (.ifCond .lt 18, 3) := by decide +kernel
theorem dX9_expressionOf_4 : decode cX9_expressionOf 4 = .ok (.iload_n 1, 1) := by decide +kernel
theorem dX9_expressionOf_5 : decode cX9_expressionOf 5 = .ok (.bipush 30, 2) := by decide +kernel
theorem dX9_expressionOf_7 : decode cX9_expressionOf 7 = .ok (.if_icmp .ge 12, 3) := by decide +kernel
theorem dX9_expressionOf_10 : decode cX9_expressionOf 10 = .ok (.aload_n 0, 1) := by decide +kernel
theorem dX9_expressionOf_11 : decode cX9_expressionOf 11 = .ok (.getfield 18, 3) := by decide +kernel
theorem dX9_expressionOf_14 : decode cX9_expressionOf 14 = .ok (.iload_n 1, 1) := by decide +kernel
theorem dX9_expressionOf_15 : decode cX9_expressionOf 15 = .ok (.aaload, 1) := by decide +kernel
theorem dX9_expressionOf_16 : decode cX9_expressionOf 16 = .ok (.ifnonnull 13, 3) := by decide +kernel
theorem dX9_expressionOf_19 : decode cX9_expressionOf 19 = .ok (.new 67, 3) := by decide +kernel
theorem dX9_expressionOf_22 : decode cX9_expressionOf 22 = .ok (.dup, 1) := by decide +kernel
theorem dX9_expressionOf_23 : decode cX9_expressionOf 23 = .ok (.ldc 148, 2) := by decide +kernel
theorem dX9_expressionOf_25 : decode cX9_expressionOf 25 = .ok (.invokespecial 71, 3) := by decide +kernel
theorem dX9_expressionOf_28 : decode cX9_expressionOf 28 = .ok (.athrow, 1) := by decide +kernel
theorem dX9_expressionOf_29 : decode cX9_expressionOf 29 = .ok (.aload_n 0, 1) := by decide +kernel
theorem dX9_expressionOf_30 : decode cX9_expressionOf 30 = .ok (.getfield 18, 3) := by decide +kernel
theorem dX9_expressionOf_33 : decode cX9_expressionOf 33 = .ok (.iload_n 1, 1) := by decide +kernel
theorem dX9_expressionOf_34 : decode cX9_expressionOf 34 = .ok (.aaload, 1) := by decide +kernel
theorem dX9_expressionOf_35 : decode cX9_expressionOf 35 = .ok (.areturn, 1) := by decide +kernel
theorem dX9_requireRoom_0 : decode cX9_requireRoom 0 = .ok (.aload_n 0, 1) := by decide +kernel
theorem dX9_requireRoom_1 : decode cX9_requireRoom 1 = .ok (.getfield 22, 3) := by decide +kernel
theorem dX9_requireRoom_4 : decode cX9_requireRoom 4 = .ok (.bipush 30, 2) := by decide +kernel
theorem dX9_requireRoom_6 : decode cX9_requireRoom 6 = .ok (.if_icmp .lt 13, 3) := by decide +kernel
theorem dX9_requireRoom_9 : decode cX9_requireRoom 9 = .ok (.new 150, 3) := by decide +kernel
theorem dX9_requireRoom_12 : decode cX9_requireRoom 12 = .ok (.dup, 1) := by decide +kernel
theorem dX9_requireRoom_13 : decode cX9_requireRoom 13 = .ok (.ldc 152, 2) := by decide +kernel
theorem dX9_requireRoom_15 : decode cX9_requireRoom 15 = .ok (.invokespecial 154, 3) := by decide +kernel
theorem dX9_requireRoom_18 : decode cX9_requireRoom 18 = .ok (.athrow, 1) := by decide +kernel
theorem dX9_requireRoom_19 : decode cX9_requireRoom 19 = .ok (.iload_n 1, 1) := by decide +kernel
theorem dX9_requireRoom_20 : decode cX9_requireRoom 20 = .ok (.bipush 6, 2) := by decide +kernel
theorem dX9_requireRoom_22 : decode cX9_requireRoom 22 = .ok (.if_icmp .le 13, 3) := by decide +kernel
theorem dX9_requireRoom_25 : decode cX9_requireRoom 25 = .ok (.new 150, 3) := by decide +kernel
theorem dX9_requireRoom_28 : decode cX9_requireRoom 28 = .ok (.dup, 1) := by decide +kernel
theorem dX9_requireRoom_29 : decode cX9_requireRoom 29 = .ok (.ldc 155, 2) := by decide +kernel
theorem dX9_requireRoom_31 : decode cX9_requireRoom 31 = .ok (.invokespecial 154, 3) := by decide +kernel
theorem dX9_requireRoom_34 : decode cX9_requireRoom 34 = .ok (.athrow, 1) := by decide +kernel
theorem dX9_requireRoom_35 : decode cX9_requireRoom 35 = .ok (.return_, 1) := by decide +kernel
theorem dX9_keep_0 : decode cX9_keep 0 = .ok (.aload_n 0, 1) := by decide +kernel
theorem dX9_keep_1 : decode cX9_keep 1 = .ok (.getfield 22, 3) := by decide +kernel
theorem dX9_keep_4 : decode cX9_keep 4 = .ok (.istore_n 2, 1) := by decide +kernel
theorem dX9_keep_5 : decode cX9_keep 5 = .ok (.iload_n 2, 1) := by decide +kernel
theorem dX9_keep_6 : decode cX9_keep 6 = .ok (.ifCond .lt 23, 3) := by decide +kernel
theorem dX9_keep_9 : decode cX9_keep 9 = .ok (.iload_n 2, 1) := by decide +kernel
theorem dX9_keep_10 : decode cX9_keep 10 = .ok (.bipush 30, 2) := by decide +kernel
theorem dX9_keep_12 : decode cX9_keep 12 = .ok (.if_icmp .ge 17, 3) := by decide +kernel
theorem dX9_keep_15 : decode cX9_keep 15 = .ok (.aload_n 0, 1) := by decide +kernel
theorem dX9_keep_16 : decode cX9_keep 16 = .ok (.getfield 18, 3) := by decide +kernel
theorem dX9_keep_19 : decode cX9_keep 19 = .ok (.iload_n 2, 1) := by decide +kernel
theorem dX9_keep_20 : decode cX9_keep 20 = .ok (.aload_n 1, 1) := by decide +kernel
theorem dX9_keep_21 : decode cX9_keep 21 = .ok (.aastore, 1) := by decide +kernel
theorem dX9_keep_22 : decode cX9_keep 22 = .ok (.aload_n 0, 1) := by decide +kernel
theorem dX9_keep_23 : decode cX9_keep 23 = .ok (.iload_n 2, 1) := by decide +kernel
theorem dX9_keep_24 : decode cX9_keep 24 = .ok (.iconst 1, 1) := by decide +kernel
theorem dX9_keep_25 : decode cX9_keep 25 = .ok (.iadd, 1) := by decide +kernel
theorem dX9_keep_26 : decode cX9_keep 26 = .ok (.putfield 22, 3) := by decide +kernel
theorem dX9_keep_29 : decode cX9_keep 29 = .ok (.iload_n 2, 1) := by decide +kernel
theorem dX9_keep_30 : decode cX9_keep 30 = .ok (.ireturn, 1) := by decide +kernel
set_option maxRecDepth 20000 in
theorem ggX9_gatheredOf_X9_expressionOf : GoodIn wsX9_gatheredOf wsX9_expressionOf := goodIn_ca (goodIn_r _ [8, 9, 10, 1, 170, 171, 172] (by decide +kernel) (by decide +kernel)) (goodIn_sub (fun _ h => List.mem_cons_of_mem _ (List.mem_append_right _ h)) (by decide +kernel))
set_option maxRecDepth 20000 in
theorem gX9_gatheredOf_X9_expressionOf : GoodIn wsX9_gatheredOf (wsV RX9 101 RX9 yX9_expressionOf wsX9_expressionOf) := goodIn_app (goodIn_of _ (by decide +kernel)) ggX9_gatheredOf_X9_expressionOf
set_option maxRecDepth 20000 in
theorem ggX9_gatheredOf_X0_needs : GoodIn wsX9_gatheredOf wsX0_needs := goodIn_r _ [16, 17, 173, 174, 175, 176, 177, 178, 179, 180, 181, 182, 183, 184, 185, 186, 187, 188, 189, 190, 191, 192, 193, 194, 195, 196, 197, 198, 199, 200, 201, 202, 203, 204, 205, 206, 207, 208, 209] (by decide +kernel) (by decide +kernel)
set_option maxRecDepth 20000 in
theorem gX9_gatheredOf_X0_needs_u157X1 : GoodIn wsX9_gatheredOf (va_wsU RX9 157 RX1 "Regionry$Expression" ⟨"Regionry$Expression", "needs", "(I)Z"⟩ yX0_needs wsX0_needs) := goodIn_app (goodIn_of _ (by decide +kernel)) ggX9_gatheredOf_X0_needs
set_option maxRecDepth 20000 in
theorem gX9_gatheredOf_X0_needs_u157X2 : GoodIn wsX9_gatheredOf (va_wsU RX9 157 RX2 "Regionry$Expression" ⟨"Regionry$Expression", "needs", "(I)Z"⟩ yX0_needs wsX0_needs) := goodIn_app (goodIn_of _ (by decide +kernel)) ggX9_gatheredOf_X0_needs
set_option maxRecDepth 20000 in
theorem gX9_gatheredOf_X0_needs_u157X3 : GoodIn wsX9_gatheredOf (va_wsU RX9 157 RX3 "Regionry$Expression" ⟨"Regionry$Expression", "needs", "(I)Z"⟩ yX0_needs wsX0_needs) := goodIn_app (goodIn_of _ (by decide +kernel)) ggX9_gatheredOf_X0_needs
set_option maxRecDepth 20000 in
theorem gX9_gatheredOf_X0_needs_u157X4 : GoodIn wsX9_gatheredOf (va_wsU RX9 157 RX4 "Regionry$Expression" ⟨"Regionry$Expression", "needs", "(I)Z"⟩ yX0_needs wsX0_needs) := goodIn_app (goodIn_of _ (by decide +kernel)) ggX9_gatheredOf_X0_needs
set_option maxRecDepth 20000 in
theorem gX9_gatheredOf_X0_needs_u157X5 : GoodIn wsX9_gatheredOf (va_wsU RX9 157 RX5 "Regionry$Expression" ⟨"Regionry$Expression", "needs", "(I)Z"⟩ yX0_needs wsX0_needs) := goodIn_app (goodIn_of _ (by decide +kernel)) ggX9_gatheredOf_X0_needs
set_option maxRecDepth 20000 in
theorem gX9_gatheredOf_X0_needs_u157X7 : GoodIn wsX9_gatheredOf (va_wsU RX9 157 RX7 "Regionry$Expression" ⟨"Regionry$Expression", "needs", "(I)Z"⟩ yX0_needs wsX0_needs) := goodIn_app (goodIn_of _ (by decide +kernel)) ggX9_gatheredOf_X0_needs
set_option maxRecDepth 20000 in
theorem ggX9_gatheredOf_X1_gather : GoodIn wsX9_gatheredOf wsX1_gather := goodIn_r _ [28, 29, 30, 31, 32, 33, 34, 35, 36, 37, 38, 39, 40, 41, 173, 174, 175, 176, 177, 178, 179, 180, 181, 182, 183, 184, 185, 186, 187, 188, 189, 190, 191, 192, 193, 194, 195, 196, 197, 198, 199, 200, 201, 202, 203, 204, 205, 206, 207, 208, 209, 210] (by decide +kernel) (by decide +kernel)
set_option maxRecDepth 20000 in
theorem gX9_gatheredOf_X1_gather_u160X1 : GoodIn wsX9_gatheredOf (va_wsU RX9 160 RX1 "Regionry$Expression" ⟨"Regionry$Expression", "gather", "(LRegionry$Text;)V"⟩ yX1_gather wsX1_gather) := goodIn_app (goodIn_of _ (by decide +kernel)) ggX9_gatheredOf_X1_gather
set_option maxRecDepth 20000 in
theorem ggX9_gatheredOf_X2_gather : GoodIn wsX9_gatheredOf wsX2_gather := goodIn_r _ [45, 46, 47, 48, 49, 50, 51, 35, 52, 37, 53, 54, 55, 56, 57, 58, 59, 60, 61, 62, 63, 64, 65, 66, 67, 173, 174, 175, 176, 177, 178, 179, 180, 181, 182, 183, 184, 185, 186, 187, 188, 189, 190, 191, 192, 193, 194, 195, 196, 197, 198, 199, 200, 201, 202, 203, 204, 205, 206, 207, 208, 209, 211, 212, 213, 210] (by decide +kernel) (by decide +kernel)
set_option maxRecDepth 20000 in
theorem gX9_gatheredOf_X2_gather_u160X2 : GoodIn wsX9_gatheredOf (va_wsU RX9 160 RX2 "Regionry$Expression" ⟨"Regionry$Expression", "gather", "(LRegionry$Text;)V"⟩ yX2_gather wsX2_gather) := goodIn_app (goodIn_of _ (by decide +kernel)) ggX9_gatheredOf_X2_gather
set_option maxRecDepth 20000 in
theorem ggX9_gatheredOf_X3_gather : GoodIn wsX9_gatheredOf wsX3_gather := goodIn_r _ [71, 72, 73, 74, 75, 76, 77, 78, 79, 80, 35, 81, 37, 82, 7, 83, 84, 85, 86, 38, 39, 40, 41, 173, 174, 175, 176, 177, 178, 179, 180, 181, 182, 183, 184, 185, 186, 187, 188, 189, 190, 191, 192, 193, 194, 195, 196, 197, 198, 199, 200, 201, 202, 203, 204, 205, 206, 207, 208, 209, 210] (by decide +kernel) (by decide +kernel)
set_option maxRecDepth 20000 in
theorem gX9_gatheredOf_X3_gather_u160X3 : GoodIn wsX9_gatheredOf (va_wsU RX9 160 RX3 "Regionry$Expression" ⟨"Regionry$Expression", "gather", "(LRegionry$Text;)V"⟩ yX3_gather wsX3_gather) := goodIn_app (goodIn_of _ (by decide +kernel)) ggX9_gatheredOf_X3_gather
set_option maxRecDepth 20000 in
theorem ggX9_gatheredOf_X4_gather : GoodIn wsX9_gatheredOf wsX4_gather := goodIn_r _ [90, 91, 92, 93, 94, 95, 96, 33, 34, 35, 36, 37, 38, 39, 40, 41, 97, 98, 99, 100, 101, 102, 103, 104, 105, 106, 107, 108, 109, 110, 111, 112, 113, 114, 115, 116, 117, 118, 119, 173, 174, 175, 176, 177, 178, 179, 180, 181, 182, 183, 184, 185, 186, 187, 188, 189, 190, 191, 192, 193, 194, 195, 196, 197, 198, 199, 200, 201, 202, 203, 204, 205, 206, 207, 208, 209, 210] (by decide +kernel) (by decide +kernel)
set_option maxRecDepth 20000 in
theorem gX9_gatheredOf_X4_gather_u160X4 : GoodIn wsX9_gatheredOf (va_wsU RX9 160 RX4 "Regionry$Expression" ⟨"Regionry$Expression", "gather", "(LRegionry$Text;)V"⟩ yX4_gather wsX4_gather) := goodIn_app (goodIn_of _ (by decide +kernel)) ggX9_gatheredOf_X4_gather
set_option maxRecDepth 20000 in
theorem ggX9_gatheredOf_X5_gather : GoodIn wsX9_gatheredOf wsX5_gather := goodIn_r _ [123, 124, 125, 126, 127, 122, 128, 129, 130, 131, 114, 103, 115, 132, 133, 134, 135, 117, 118, 35, 119, 38, 39, 40, 41, 37, 84, 7, 85, 86, 82, 83, 136, 137, 138, 139, 140, 141, 142, 143, 144, 145, 102, 104, 146, 106, 107, 108, 147, 148, 149, 150, 151, 152, 153, 154, 155, 156, 157, 158, 196, 197, 198, 199, 200, 201, 202, 173, 174, 175, 176, 177, 178, 179, 180, 181, 182, 183, 184, 185, 186, 187, 188, 189, 190, 191, 192, 193, 194, 195, 203, 204, 205, 206, 207, 208, 209, 210] (by decide +kernel) (by decide +kernel)
set_option maxRecDepth 20000 in
theorem gX9_gatheredOf_X5_gather_u160X5 : GoodIn wsX9_gatheredOf (va_wsU RX9 160 RX5 "Regionry$Expression" ⟨"Regionry$Expression", "gather", "(LRegionry$Text;)V"⟩ yX5_gather wsX5_gather) := goodIn_app (goodIn_of _ (by decide +kernel)) ggX9_gatheredOf_X5_gather
set_option maxRecDepth 20000 in
theorem ggX9_gatheredOf_X7_gather : GoodIn wsX9_gatheredOf wsX7_gather := goodIn_r _ [162, 163, 164, 165, 166, 167, 168, 79, 80, 35, 81, 37, 82, 7, 83, 84, 85, 86, 38, 39, 40, 41, 169, 110, 111, 112, 113, 114, 103, 115, 116, 117, 118, 119, 173, 174, 175, 176, 177, 178, 179, 180, 181, 182, 183, 184, 185, 186, 187, 188, 189, 190, 191, 192, 193, 194, 195, 196, 197, 198, 199, 200, 201, 202, 203, 204, 205, 206, 207, 208, 209, 210] (by decide +kernel) (by decide +kernel)
set_option maxRecDepth 20000 in
theorem gX9_gatheredOf_X7_gather_u160X7 : GoodIn wsX9_gatheredOf (va_wsU RX9 160 RX7 "Regionry$Expression" ⟨"Regionry$Expression", "gather", "(LRegionry$Text;)V"⟩ yX7_gather wsX7_gather) := goodIn_app (goodIn_of _ (by decide +kernel)) ggX9_gatheredOf_X7_gather
theorem dX9_gatheredOf_0 : decode cX9_gatheredOf 0 = .ok (.aload_n 0, 1) := by decide +kernel
theorem dX9_gatheredOf_1 : decode cX9_gatheredOf 1 = .ok (.iload_n 1, 1) := by decide +kernel
theorem dX9_gatheredOf_2 : decode cX9_gatheredOf 2 = .ok (.invokevirtual 101, 3) := by decide +kernel
theorem dX9_gatheredOf_5 : decode cX9_gatheredOf 5 = .ok (.astore_n 2, 1) := by decide +kernel
theorem dX9_gatheredOf_6 : decode cX9_gatheredOf 6 = .ok (.iconst 0, 1) := by decide +kernel
theorem dX9_gatheredOf_7 : decode cX9_gatheredOf 7 = .ok (.istore_n 3, 1) := by decide +kernel
theorem dX9_gatheredOf_8 : decode cX9_gatheredOf 8 = .ok (.iload_n 3, 1) := by decide +kernel
theorem dX9_gatheredOf_9 : decode cX9_gatheredOf 9 = .ok (.bipush 30, 2) := by decide +kernel
theorem dX9_gatheredOf_11 : decode cX9_gatheredOf 11 = .ok (.if_icmp .ge 39, 3) := by decide +kernel
theorem dX9_gatheredOf_14 : decode cX9_gatheredOf 14 = .ok (.aload_n 0, 1) := by decide +kernel
theorem dX9_gatheredOf_15 : decode cX9_gatheredOf 15 = .ok (.getfield 18, 3) := by decide +kernel
theorem dX9_gatheredOf_18 : decode cX9_gatheredOf 18 = .ok (.iload_n 3, 1) := by decide +kernel
theorem dX9_gatheredOf_19 : decode cX9_gatheredOf 19 = .ok (.aaload, 1) := by decide +kernel
theorem dX9_gatheredOf_20 : decode cX9_gatheredOf 20 = .ok (.astore 4, 2) := by decide +kernel
theorem dX9_gatheredOf_22 : decode cX9_gatheredOf 22 = .ok (.aload 4, 2) := by decide +kernel
theorem dX9_gatheredOf_24 : decode cX9_gatheredOf 24 = .ok (.ifnull 20, 3) := by decide +kernel
theorem dX9_gatheredOf_27 : decode cX9_gatheredOf 27 = .ok (.aload_n 2, 1) := by decide +kernel
theorem dX9_gatheredOf_28 : decode cX9_gatheredOf 28 = .ok (.iload_n 3, 1) := by decide +kernel
theorem dX9_gatheredOf_29 : decode cX9_gatheredOf 29 = .ok (.invokevirtual 157, 3) := by decide +kernel
theorem dX9_gatheredOf_32 : decode cX9_gatheredOf 32 = .ok (.ifCond .eq 12, 3) := by decide +kernel
theorem dX9_gatheredOf_35 : decode cX9_gatheredOf 35 = .ok (.aload 4, 2) := by decide +kernel
theorem dX9_gatheredOf_37 : decode cX9_gatheredOf 37 = .ok (.aload_n 0, 1) := by decide +kernel
theorem dX9_gatheredOf_38 : decode cX9_gatheredOf 38 = .ok (.getfield 12, 3) := by decide +kernel
theorem dX9_gatheredOf_41 : decode cX9_gatheredOf 41 = .ok (.invokevirtual 160, 3) := by decide +kernel
theorem dX9_gatheredOf_44 : decode cX9_gatheredOf 44 = .ok (.iinc 3 1, 3) := by decide +kernel
theorem dX9_gatheredOf_47 : decode cX9_gatheredOf 47 = .ok (.goto (-39), 3) := by decide +kernel
theorem dX9_gatheredOf_50 : decode cX9_gatheredOf 50 = .ok (.aload_n 2, 1) := by decide +kernel
theorem dX9_gatheredOf_51 : decode cX9_gatheredOf 51 = .ok (.getfield 164, 3) := by decide +kernel
theorem dX9_gatheredOf_54 : decode cX9_gatheredOf 54 = .ok (.areturn, 1) := by decide +kernel
set_option maxRecDepth 20000 in
theorem ggX9_askedOf_X9_expressionOf : GoodIn wsX9_askedOf wsX9_expressionOf := goodIn_ca (goodIn_r _ [8, 9, 10, 1, 140, 141, 142] (by decide +kernel) (by decide +kernel)) (goodIn_sub (fun _ h => List.mem_cons_of_mem _ (List.mem_append_right _ h)) (by decide +kernel))
set_option maxRecDepth 20000 in
theorem gX9_askedOf_X9_expressionOf : GoodIn wsX9_askedOf (wsV RX9 101 RX9 yX9_expressionOf wsX9_expressionOf) := goodIn_app (goodIn_of _ (by decide +kernel)) ggX9_askedOf_X9_expressionOf
set_option maxRecDepth 20000 in
theorem ggX9_askedOf_X0_needs : GoodIn wsX9_askedOf wsX0_needs := goodIn_r _ [16, 17, 143, 144, 145, 146, 147, 148, 149, 150, 151, 152, 153, 154, 155, 156, 157, 158, 159, 160, 161, 162, 163, 164, 165, 166, 167, 168, 169, 170, 171, 172, 173, 174, 175, 176, 177, 178, 179] (by decide +kernel) (by decide +kernel)
set_option maxRecDepth 20000 in
theorem gX9_askedOf_X0_needs_u157X1 : GoodIn wsX9_askedOf (va_wsU RX9 157 RX1 "Regionry$Expression" ⟨"Regionry$Expression", "needs", "(I)Z"⟩ yX0_needs wsX0_needs) := goodIn_app (goodIn_of _ (by decide +kernel)) ggX9_askedOf_X0_needs
set_option maxRecDepth 20000 in
theorem gX9_askedOf_X0_needs_u157X2 : GoodIn wsX9_askedOf (va_wsU RX9 157 RX2 "Regionry$Expression" ⟨"Regionry$Expression", "needs", "(I)Z"⟩ yX0_needs wsX0_needs) := goodIn_app (goodIn_of _ (by decide +kernel)) ggX9_askedOf_X0_needs
set_option maxRecDepth 20000 in
theorem gX9_askedOf_X0_needs_u157X3 : GoodIn wsX9_askedOf (va_wsU RX9 157 RX3 "Regionry$Expression" ⟨"Regionry$Expression", "needs", "(I)Z"⟩ yX0_needs wsX0_needs) := goodIn_app (goodIn_of _ (by decide +kernel)) ggX9_askedOf_X0_needs
set_option maxRecDepth 20000 in
theorem gX9_askedOf_X0_needs_u157X4 : GoodIn wsX9_askedOf (va_wsU RX9 157 RX4 "Regionry$Expression" ⟨"Regionry$Expression", "needs", "(I)Z"⟩ yX0_needs wsX0_needs) := goodIn_app (goodIn_of _ (by decide +kernel)) ggX9_askedOf_X0_needs
set_option maxRecDepth 20000 in
theorem gX9_askedOf_X0_needs_u157X5 : GoodIn wsX9_askedOf (va_wsU RX9 157 RX5 "Regionry$Expression" ⟨"Regionry$Expression", "needs", "(I)Z"⟩ yX0_needs wsX0_needs) := goodIn_app (goodIn_of _ (by decide +kernel)) ggX9_askedOf_X0_needs
set_option maxRecDepth 20000 in
theorem gX9_askedOf_X0_needs_u157X7 : GoodIn wsX9_askedOf (va_wsU RX9 157 RX7 "Regionry$Expression" ⟨"Regionry$Expression", "needs", "(I)Z"⟩ yX0_needs wsX0_needs) := goodIn_app (goodIn_of _ (by decide +kernel)) ggX9_askedOf_X0_needs
set_option maxRecDepth 20000 in
theorem ggX9_askedOf_X0_askEach : GoodIn wsX9_askedOf wsX0_askEach := goodIn_r _ [27, 28, 29, 30, 31, 32, 33, 34, 35, 36, 37, 38, 39, 40, 41, 42, 43, 44, 45, 46, 47, 48, 49, 50, 51, 52, 53, 54, 55, 56, 57, 58, 59, 60, 61, 62, 63, 64, 65, 66, 67, 68, 69, 70, 71, 72, 73, 74, 75, 76, 77, 78, 79, 80, 81, 82, 83, 84, 85, 86, 87, 88, 89, 90, 91, 92, 93, 94, 95, 96, 97, 98, 99, 100, 101, 102, 103, 104, 105, 106, 107, 108, 109, 110, 111, 112, 113, 114, 115, 116, 117, 118, 119, 120, 121, 122, 123, 143, 144, 145, 146, 147, 148, 149, 150, 151, 152, 153, 154, 155, 156, 157, 158, 159, 160, 161, 162, 163, 164, 165, 166, 167, 168, 169, 170, 171, 172, 173, 174, 175, 176, 177, 178, 179, 180, 181, 182, 183] (by decide +kernel) (by decide +kernel)
set_option maxRecDepth 20000 in
theorem gX9_askedOf_X0_askEach_u168X1 : GoodIn wsX9_askedOf (va_wsU RX9 168 RX1 "Regionry$Expression" ⟨"Regionry$Expression", "askEach", "(LRegionry$Text;)V"⟩ yX0_askEach wsX0_askEach) := goodIn_app (goodIn_of _ (by decide +kernel)) ggX9_askedOf_X0_askEach
set_option maxRecDepth 20000 in
theorem gX9_askedOf_X0_askEach_u168X2 : GoodIn wsX9_askedOf (va_wsU RX9 168 RX2 "Regionry$Expression" ⟨"Regionry$Expression", "askEach", "(LRegionry$Text;)V"⟩ yX0_askEach wsX0_askEach) := goodIn_app (goodIn_of _ (by decide +kernel)) ggX9_askedOf_X0_askEach
set_option maxRecDepth 20000 in
theorem gX9_askedOf_X0_askEach_u168X3 : GoodIn wsX9_askedOf (va_wsU RX9 168 RX3 "Regionry$Expression" ⟨"Regionry$Expression", "askEach", "(LRegionry$Text;)V"⟩ yX0_askEach wsX0_askEach) := goodIn_app (goodIn_of _ (by decide +kernel)) ggX9_askedOf_X0_askEach
set_option maxRecDepth 20000 in
theorem gX9_askedOf_X0_askEach_u168X4 : GoodIn wsX9_askedOf (va_wsU RX9 168 RX4 "Regionry$Expression" ⟨"Regionry$Expression", "askEach", "(LRegionry$Text;)V"⟩ yX0_askEach wsX0_askEach) := goodIn_app (goodIn_of _ (by decide +kernel)) ggX9_askedOf_X0_askEach
set_option maxRecDepth 20000 in
theorem gX9_askedOf_X0_askEach_u168X5 : GoodIn wsX9_askedOf (va_wsU RX9 168 RX5 "Regionry$Expression" ⟨"Regionry$Expression", "askEach", "(LRegionry$Text;)V"⟩ yX0_askEach wsX0_askEach) := goodIn_app (goodIn_of _ (by decide +kernel)) ggX9_askedOf_X0_askEach
set_option maxRecDepth 20000 in
theorem ggX9_askedOf_X7_askEach : GoodIn wsX9_askedOf wsX7_askEach := goodIn_r _ [131, 117, 132, 133, 134, 135, 30, 31, 32, 33, 34, 136, 71, 72, 73, 74, 75, 76, 77, 43, 44, 45, 78, 79, 80, 81, 82, 83, 84, 137, 121, 122, 123, 138, 24, 139, 26, 15, 27, 28, 29, 35, 36, 37, 38, 39, 40, 41, 42, 46, 47, 48, 49, 50, 51, 52, 53, 54, 55, 56, 57, 58, 59, 60, 61, 62, 63, 64, 65, 66, 67, 68, 69, 70, 85, 86, 87, 88, 89, 90, 91, 92, 93, 94, 95, 96, 97, 98, 99, 100, 101, 102, 103, 104, 105, 106, 107, 108, 109, 110, 111, 112, 113, 114, 115, 116, 118, 119, 120, 173, 174, 175, 176, 177, 178, 179, 180, 181, 182, 143, 144, 145, 146, 147, 148, 149, 150, 151, 152, 153, 154, 155, 156, 157, 158, 159, 160, 161, 162, 163, 164, 165, 166, 167, 168, 169, 170, 171, 172, 183] (by decide +kernel) (by decide +kernel)
set_option maxRecDepth 20000 in
theorem gX9_askedOf_X7_askEach_u168X7 : GoodIn wsX9_askedOf (va_wsO RX9 168 RX7 "Regionry$Expression" ⟨"Regionry$Expression", "askEach", "(LRegionry$Text;)V"⟩ yX7_askEach wsX7_askEach) := goodIn_app (goodIn_of _ (by decide +kernel)) ggX9_askedOf_X7_askEach
theorem dX9_askedOf_0 : decode cX9_askedOf 0 = .ok (.aload_n 0, 1) := by decide +kernel
theorem dX9_askedOf_1 : decode cX9_askedOf 1 = .ok (.iload_n 1, 1) := by decide +kernel
theorem dX9_askedOf_2 : decode cX9_askedOf 2 = .ok (.invokevirtual 101, 3) := by decide +kernel
theorem dX9_askedOf_5 : decode cX9_askedOf 5 = .ok (.astore_n 2, 1) := by decide +kernel
theorem dX9_askedOf_6 : decode cX9_askedOf 6 = .ok (.iconst 0, 1) := by decide +kernel
theorem dX9_askedOf_7 : decode cX9_askedOf 7 = .ok (.istore_n 3, 1) := by decide +kernel
theorem dX9_askedOf_8 : decode cX9_askedOf 8 = .ok (.iload_n 3, 1) := by decide +kernel
theorem dX9_askedOf_9 : decode cX9_askedOf 9 = .ok (.bipush 30, 2) := by decide +kernel
theorem dX9_askedOf_11 : decode cX9_askedOf 11 = .ok (.if_icmp .ge 39, 3) := by decide +kernel
theorem dX9_askedOf_14 : decode cX9_askedOf 14 = .ok (.aload_n 0, 1) := by decide +kernel
theorem dX9_askedOf_15 : decode cX9_askedOf 15 = .ok (.getfield 18, 3) := by decide +kernel
theorem dX9_askedOf_18 : decode cX9_askedOf 18 = .ok (.iload_n 3, 1) := by decide +kernel
theorem dX9_askedOf_19 : decode cX9_askedOf 19 = .ok (.aaload, 1) := by decide +kernel
theorem dX9_askedOf_20 : decode cX9_askedOf 20 = .ok (.astore 4, 2) := by decide +kernel
theorem dX9_askedOf_22 : decode cX9_askedOf 22 = .ok (.aload 4, 2) := by decide +kernel
theorem dX9_askedOf_24 : decode cX9_askedOf 24 = .ok (.ifnull 20, 3) := by decide +kernel
theorem dX9_askedOf_27 : decode cX9_askedOf 27 = .ok (.aload_n 2, 1) := by decide +kernel
theorem dX9_askedOf_28 : decode cX9_askedOf 28 = .ok (.iload_n 3, 1) := by decide +kernel
theorem dX9_askedOf_29 : decode cX9_askedOf 29 = .ok (.invokevirtual 157, 3) := by decide +kernel
theorem dX9_askedOf_32 : decode cX9_askedOf 32 = .ok (.ifCond .eq 12, 3) := by decide +kernel
theorem dX9_askedOf_35 : decode cX9_askedOf 35 = .ok (.aload 4, 2) := by decide +kernel
theorem dX9_askedOf_37 : decode cX9_askedOf 37 = .ok (.aload_n 0, 1) := by decide +kernel
theorem dX9_askedOf_38 : decode cX9_askedOf 38 = .ok (.getfield 12, 3) := by decide +kernel
theorem dX9_askedOf_41 : decode cX9_askedOf 41 = .ok (.invokevirtual 168, 3) := by decide +kernel
theorem dX9_askedOf_44 : decode cX9_askedOf 44 = .ok (.iinc 3 1, 3) := by decide +kernel
theorem dX9_askedOf_47 : decode cX9_askedOf 47 = .ok (.goto (-39), 3) := by decide +kernel
theorem dX9_askedOf_50 : decode cX9_askedOf 50 = .ok (.aload_n 2, 1) := by decide +kernel
theorem dX9_askedOf_51 : decode cX9_askedOf 51 = .ok (.getfield 171, 3) := by decide +kernel
theorem dX9_askedOf_54 : decode cX9_askedOf 54 = .ok (.areturn, 1) := by decide +kernel
theorem dX9_isLetter_0 : decode cX9_isLetter 0 = .ok (.iload_n 0, 1) := by decide +kernel
theorem dX9_isLetter_1 : decode cX9_isLetter 1 = .ok (.ifCond .lt 13, 3) := by decide +kernel
theorem dX9_isLetter_4 : decode cX9_isLetter 4 = .ok (.iload_n 0, 1) := by decide +kernel
theorem dX9_isLetter_5 : decode cX9_isLetter 5 = .ok (.bipush 6, 2) := by decide +kernel
theorem dX9_isLetter_7 : decode cX9_isLetter 7 = .ok (.if_icmp .ge 7, 3) := by decide +kernel
theorem dX9_isLetter_10 : decode cX9_isLetter 10 = .ok (.iconst 1, 1) := by decide +kernel
theorem dX9_isLetter_11 : decode cX9_isLetter 11 = .ok (.goto 4, 3) := by decide +kernel
theorem dX9_isLetter_14 : decode cX9_isLetter 14 = .ok (.iconst 0, 1) := by decide +kernel
theorem dX9_isLetter_15 : decode cX9_isLetter 15 = .ok (.ireturn, 1) := by decide +kernel
theorem dX9_depthAbove_0 : decode cX9_depthAbove 0 = .ok (.iconst 1, 1) := by decide +kernel
theorem dX9_depthAbove_1 : decode cX9_depthAbove 1 = .ok (.aload_n 0, 1) := by decide +kernel
theorem dX9_depthAbove_2 : decode cX9_depthAbove 2 = .ok (.getfield 174, 3) := by decide +kernel
theorem dX9_depthAbove_5 : decode cX9_depthAbove 5 = .ok (.aload_n 1, 1) := by decide +kernel
theorem dX9_depthAbove_6 : decode cX9_depthAbove 6 = .ok (.getfield 174, 3) := by decide +kernel
theorem dX9_depthAbove_9 : decode cX9_depthAbove 9 = .ok (.invokestatic 177, 3) := by decide +kernel
theorem dX9_depthAbove_12 : decode cX9_depthAbove 12 = .ok (.iadd, 1) := by decide +kernel
theorem dX9_depthAbove_13 : decode cX9_depthAbove 13 = .ok (.ireturn, 1) := by decide +kernel
theorem dX9_upTo_0 : decode cX9_upTo 0 = .ok (.iload_n 0, 1) := by decide +kernel
theorem dX9_upTo_1 : decode cX9_upTo 1 = .ok (.ifCond .ge 5, 3) := by decide +kernel
theorem dX9_upTo_4 : decode cX9_upTo 4 = .ok (.iconst 0, 1) := by decide +kernel
theorem dX9_upTo_5 : decode cX9_upTo 5 = .ok (.ireturn, 1) := by decide +kernel
theorem dX9_upTo_6 : decode cX9_upTo 6 = .ok (.iload_n 0, 1) := by decide +kernel
theorem dX9_upTo_7 : decode cX9_upTo 7 = .ok (.bipush 24, 2) := by decide +kernel
theorem dX9_upTo_9 : decode cX9_upTo 9 = .ok (.if_icmp .le 7, 3) := by decide +kernel
theorem dX9_upTo_12 : decode cX9_upTo 12 = .ok (.iconst (-1), 1) := by decide +kernel
theorem dX9_upTo_13 : decode cX9_upTo 13 = .ok (.goto 10, 3) := by decide +kernel
theorem dX9_upTo_16 : decode cX9_upTo 16 = .ok (.iconst 1, 1) := by decide +kernel
theorem dX9_upTo_17 : decode cX9_upTo 17 = .ok (.iload_n 0, 1) := by decide +kernel
theorem dX9_upTo_18 : decode cX9_upTo 18 = .ok (.iconst 1, 1) := by decide +kernel
theorem dX9_upTo_19 : decode cX9_upTo 19 = .ok (.iadd, 1) := by decide +kernel
theorem dX9_upTo_20 : decode cX9_upTo 20 = .ok (.ishl, 1) := by decide +kernel
theorem dX9_upTo_21 : decode cX9_upTo 21 = .ok (.iconst 1, 1) := by decide +kernel
theorem dX9_upTo_22 : decode cX9_upTo 22 = .ok (.isub, 1) := by decide +kernel
theorem dX9_upTo_23 : decode cX9_upTo 23 = .ok (.ireturn, 1) := by decide +kernel
set_option maxRecDepth 20000 in
theorem ggX9_onwardFrom_X9_upTo : GoodIn wsX9_onwardFrom wsX9_upTo := goodIn_r _ [4] (by decide +kernel) (by decide +kernel)
set_option maxRecDepth 20000 in
theorem gX9_onwardFrom_X9_upTo : GoodIn wsX9_onwardFrom (va_wsS RX9 182 yX9_upTo wsX9_upTo) := goodIn_app (goodIn_of _ (by decide +kernel)) ggX9_onwardFrom_X9_upTo
theorem dX9_onwardFrom_0 : decode cX9_onwardFrom 0 = .ok (.iload_n 0, 1) := by decide +kernel
theorem dX9_onwardFrom_1 : decode cX9_onwardFrom 1 = .ok (.iconst 1, 1) := by decide +kernel
theorem dX9_onwardFrom_2 : decode cX9_onwardFrom 2 = .ok (.isub, 1) := by decide +kernel
theorem dX9_onwardFrom_3 : decode cX9_onwardFrom 3 = .ok (.invokestatic 182, 3) := by decide +kernel
theorem dX9_onwardFrom_6 : decode cX9_onwardFrom 6 = .ok (.iconst (-1), 1) := by decide +kernel
theorem dX9_onwardFrom_7 : decode cX9_onwardFrom 7 = .ok (.ixor, 1) := by decide +kernel
theorem dX9_onwardFrom_8 : decode cX9_onwardFrom 8 = .ok (.ireturn, 1) := by decide +kernel
theorem dX10_init_0 : decode cX10_init 0 = .ok (.aload_n 0, 1) := by decide +kernel
theorem dX10_init_1 : decode cX10_init 1 = .ok (.invokespecial 1, 3) := by decide +kernel
theorem dX10_init_4 : decode cX10_init 4 = .ok (.aload_n 0, 1) := by decide +kernel
theorem dX10_init_5 : decode cX10_init 5 = .ok (.bipush 24, 2) := by decide +kernel
theorem dX10_init_7 : decode cX10_init 7 = .ok (.newarray .int, 2) := by decide +kernel
theorem dX10_init_9 : decode cX10_init 9 = .ok (.putfield 7, 3) := by decide +kernel
theorem dX10_init_12 : decode cX10_init 12 = .ok (.aload_n 0, 1) := by decide +kernel
theorem dX10_init_13 : decode cX10_init 13 = .ok (.bipush 100, 2) := by decide +kernel
theorem dX10_init_15 : decode cX10_init 15 = .ok (.newarray .int, 2) := by decide +kernel
theorem dX10_init_17 : decode cX10_init 17 = .ok (.putfield 13, 3) := by decide +kernel
theorem dX10_init_20 : decode cX10_init 20 = .ok (.aload_n 0, 1) := by decide +kernel
theorem dX10_init_21 : decode cX10_init 21 = .ok (.bipush 30, 2) := by decide +kernel
theorem dX10_init_23 : decode cX10_init 23 = .ok (.newarray .int, 2) := by decide +kernel
theorem dX10_init_25 : decode cX10_init 25 = .ok (.putfield 16, 3) := by decide +kernel
theorem dX10_init_28 : decode cX10_init 28 = .ok (.aload_n 0, 1) := by decide +kernel
theorem dX10_init_29 : decode cX10_init 29 = .ok (.bipush 30, 2) := by decide +kernel
theorem dX10_init_31 : decode cX10_init 31 = .ok (.newarray .int, 2) := by decide +kernel
theorem dX10_init_33 : decode cX10_init 33 = .ok (.putfield 19, 3) := by decide +kernel
theorem dX10_init_36 : decode cX10_init 36 = .ok (.aload_n 0, 1) := by decide +kernel
theorem dX10_init_37 : decode cX10_init 37 = .ok (.bipush 30, 2) := by decide +kernel
theorem dX10_init_39 : decode cX10_init 39 = .ok (.newarray .int, 2) := by decide +kernel
theorem dX10_init_41 : decode cX10_init 41 = .ok (.putfield 22, 3) := by decide +kernel
theorem dX10_init_44 : decode cX10_init 44 = .ok (.aload_n 0, 1) := by decide +kernel
theorem dX10_init_45 : decode cX10_init 45 = .ok (.bipush 30, 2) := by decide +kernel
theorem dX10_init_47 : decode cX10_init 47 = .ok (.newarray .int, 2) := by decide +kernel
theorem dX10_init_49 : decode cX10_init 49 = .ok (.putfield 25, 3) := by decide +kernel
theorem dX10_init_52 : decode cX10_init 52 = .ok (.aload_n 0, 1) := by decide +kernel
theorem dX10_init_53 : decode cX10_init 53 = .ok (.bipush 30, 2) := by decide +kernel
theorem dX10_init_55 : decode cX10_init 55 = .ok (.newarray .int, 2) := by decide +kernel
theorem dX10_init_57 : decode cX10_init 57 = .ok (.putfield 28, 3) := by decide +kernel
theorem dX10_init_60 : decode cX10_init 60 = .ok (.aload_n 0, 1) := by decide +kernel
theorem dX10_init_61 : decode cX10_init 61 = .ok (.bipush 30, 2) := by decide +kernel
theorem dX10_init_63 : decode cX10_init 63 = .ok (.newarray .boolean, 2) := by decide +kernel
theorem dX10_init_65 : decode cX10_init 65 = .ok (.putfield 31, 3) := by decide +kernel
theorem dX10_init_68 : decode cX10_init 68 = .ok (.aload_n 0, 1) := by decide +kernel
theorem dX10_init_69 : decode cX10_init 69 = .ok (.sipush 750, 3) := by decide +kernel
theorem dX10_init_72 : decode cX10_init 72 = .ok (.newarray .int, 2) := by decide +kernel
theorem dX10_init_74 : decode cX10_init 74 = .ok (.putfield 35, 3) := by decide +kernel
theorem dX10_init_77 : decode cX10_init 77 = .ok (.aload_n 0, 1) := by decide +kernel
theorem dX10_init_78 : decode cX10_init 78 = .ok (.bipush 25, 2) := by decide +kernel
theorem dX10_init_80 : decode cX10_init 80 = .ok (.newarray .int, 2) := by decide +kernel
theorem dX10_init_82 : decode cX10_init 82 = .ok (.putfield 38, 3) := by decide +kernel
theorem dX10_init_85 : decode cX10_init 85 = .ok (.return_, 1) := by decide +kernel
theorem dX10_thrown_0 : decode cX10_thrown 0 = .ok (.aload_n 0, 1) := by decide +kernel
theorem dX10_thrown_1 : decode cX10_thrown 1 = .ok (.getfield 41, 3) := by decide +kernel
theorem dX10_thrown_4 : decode cX10_thrown 4 = .ok (.ireturn, 1) := by decide +kernel
theorem dX10_goesWell_0 : decode cX10_goesWell 0 = .ok (.aload_n 0, 1) := by decide +kernel
theorem dX10_goesWell_1 : decode cX10_goesWell 1 = .ok (.iload_n 1, 1) := by decide +kernel
theorem dX10_goesWell_2 : decode cX10_goesWell 2 = .ok (.putfield 41, 3) := by decide +kernel
theorem dX10_goesWell_5 : decode cX10_goesWell 5 = .ok (.iload_n 1, 1) := by decide +kernel
theorem dX10_goesWell_6 : decode cX10_goesWell 6 = .ok (.ifCond .ne 7, 3) := by decide +kernel
theorem dX10_goesWell_9 : decode cX10_goesWell 9 = .ok (.iconst 1, 1) := by decide +kernel
theorem dX10_goesWell_10 : decode cX10_goesWell 10 = .ok (.goto 4, 3) := by decide +kernel
theorem dX10_goesWell_13 : decode cX10_goesWell 13 = .ok (.iconst 0, 1) := by decide +kernel
theorem dX10_goesWell_14 : decode cX10_goesWell 14 = .ok (.ireturn, 1) := by decide +kernel
theorem dX10_in_0 : decode cX10_in 0 = .ok (.iload_n 0, 1) := by decide +kernel
theorem dX10_in_1 : decode cX10_in 1 = .ok (.iload_n 1, 1) := by decide +kernel
theorem dX10_in_2 : decode cX10_in 2 = .ok (.if_icmp .lt 12, 3) := by decide +kernel
theorem dX10_in_5 : decode cX10_in 5 = .ok (.iload_n 0, 1) := by decide +kernel
theorem dX10_in_6 : decode cX10_in 6 = .ok (.iload_n 2, 1) := by decide +kernel
theorem dX10_in_7 : decode cX10_in 7 = .ok (.if_icmp .gt 7, 3) := by decide +kernel
theorem dX10_in_10 : decode cX10_in 10 = .ok (.iconst 1, 1) := by decide +kernel
theorem dX10_in_11 : decode cX10_in 11 = .ok (.goto 4, 3) := by decide +kernel
theorem dX10_in_14 : decode cX10_in 14 = .ok (.iconst 0, 1) := by decide +kernel
theorem dX10_in_15 : decode cX10_in 15 = .ok (.ireturn, 1) := by decide +kernel
set_option maxRecDepth 20000 in
theorem ggX10_isKind_X10_in : GoodIn wsX10_isKind wsX10_in := goodIn_r _ [4] (by decide +kernel) (by decide +kernel)
set_option maxRecDepth 20000 in
theorem gX10_isKind_X10_in : GoodIn wsX10_isKind (va_wsS RX10 45 yX10_in wsX10_in) := goodIn_app (goodIn_of _ (by decide +kernel)) ggX10_isKind_X10_in
theorem dX10_isKind_0 : decode cX10_isKind 0 = .ok (.iload_n 0, 1) := by decide +kernel
theorem dX10_isKind_1 : decode cX10_isKind 1 = .ok (.iconst 0, 1) := by decide +kernel
theorem dX10_isKind_2 : decode cX10_isKind 2 = .ok (.iconst 3, 1) := by decide +kernel
theorem dX10_isKind_3 : decode cX10_isKind 3 = .ok (.invokestatic 45, 3) := by decide +kernel
theorem dX10_isKind_6 : decode cX10_isKind 6 = .ok (.ireturn, 1) := by decide +kernel
set_option maxRecDepth 20000 in
theorem ggX10_isNode_X10_in : GoodIn wsX10_isNode wsX10_in := goodIn_r _ [5] (by decide +kernel) (by decide +kernel)
set_option maxRecDepth 20000 in
theorem gX10_isNode_X10_in : GoodIn wsX10_isNode (va_wsS RX10 45 yX10_in wsX10_in) := goodIn_app (goodIn_of _ (by decide +kernel)) ggX10_isNode_X10_in
theorem dX10_isNode_0 : decode cX10_isNode 0 = .ok (.iload_n 1, 1) := by decide +kernel
theorem dX10_isNode_1 : decode cX10_isNode 1 = .ok (.iconst 0, 1) := by decide +kernel
theorem dX10_isNode_2 : decode cX10_isNode 2 = .ok (.aload_n 0, 1) := by decide +kernel
theorem dX10_isNode_3 : decode cX10_isNode 3 = .ok (.getfield 49, 3) := by decide +kernel
theorem dX10_isNode_6 : decode cX10_isNode 6 = .ok (.iconst 1, 1) := by decide +kernel
theorem dX10_isNode_7 : decode cX10_isNode 7 = .ok (.isub, 1) := by decide +kernel
theorem dX10_isNode_8 : decode cX10_isNode 8 = .ok (.invokestatic 45, 3) := by decide +kernel
theorem dX10_isNode_11 : decode cX10_isNode 11 = .ok (.ireturn, 1) := by decide +kernel
theorem dX10_move_0 : decode cX10_move 0 = .ok (.iconst 0, 1) := by decide +kernel
theorem dX10_move_1 : decode cX10_move 1 = .ok (.istore 5, 2) := by decide +kernel
theorem dX10_move_3 : decode cX10_move 3 = .ok (.iload 5, 2) := by decide +kernel
theorem dX10_move_5 : decode cX10_move 5 = .ok (.bipush 25, 2) := by decide +kernel
theorem dX10_move_7 : decode cX10_move 7 = .ok (.if_icmp .ge 17, 3) := by decide +kernel
theorem dX10_move_10 : decode cX10_move 10 = .ok (.aload_n 0, 1) := by decide +kernel
theorem dX10_move_11 : decode cX10_move 11 = .ok (.getfield 38, 3) := by decide +kernel
theorem dX10_move_14 : decode cX10_move 14 = .ok (.iload 5, 2) := by decide +kernel
theorem dX10_move_16 : decode cX10_move 16 = .ok (.iconst 0, 1) := by decide +kernel
theorem dX10_move_17 : decode cX10_move 17 = .ok (.iastore, 1) := by decide +kernel
theorem dX10_move_18 : decode cX10_move 18 = .ok (.iinc 5 1, 3) := by decide +kernel
theorem dX10_move_21 : decode cX10_move 21 = .ok (.goto (-18), 3) := by decide +kernel
theorem dX10_move_24 : decode cX10_move 24 = .ok (.iconst 0, 1) := by decide +kernel
theorem dX10_move_25 : decode cX10_move 25 = .ok (.istore 5, 2) := by decide +kernel
theorem dX10_move_27 : decode cX10_move 27 = .ok (.iload 5, 2) := by decide +kernel
theorem dX10_move_29 : decode cX10_move 29 = .ok (.sipush 625, 3) := by decide +kernel
theorem dX10_move_32 : decode cX10_move 32 = .ok (.if_icmp .ge 105, 3) := by decide +kernel
theorem dX10_move_35 : decode cX10_move 35 = .ok (.iload 5, 2) := by decide +kernel
theorem dX10_move_37 : decode cX10_move 37 = .ok (.bipush 25, 2) := by decide +kernel
theorem dX10_move_39 : decode cX10_move 39 = .ok (.idiv, 1) := by decide +kernel
theorem dX10_move_40 : decode cX10_move 40 = .ok (.istore 6, 2) := by decide +kernel
theorem dX10_move_42 : decode cX10_move 42 = .ok (.iload 5, 2) := by decide +kernel
theorem dX10_move_44 : decode cX10_move 44 = .ok (.bipush 25, 2) := by decide +kernel
theorem dX10_move_46 : decode cX10_move 46 = .ok (.irem, 1) := by decide +kernel
theorem dX10_move_47 : decode cX10_move 47 = .ok (.istore 7, 2) := by decide +kernel
theorem dX10_move_49 : decode cX10_move 49 = .ok (.aload_n 0, 1) := by decide +kernel
theorem dX10_move_50 : decode cX10_move 50 = .ok (.getfield 13, 3) := by decide +kernel
theorem dX10_move_53 : decode cX10_move 53 = .ok (.bipush 25, 2) := by decide +kernel
theorem dX10_move_55 : decode cX10_move 55 = .ok (.iload_n 1, 1) := by decide +kernel
theorem dX10_move_56 : decode cX10_move 56 = .ok (.imul, 1) := by decide +kernel
theorem dX10_move_57 : decode cX10_move 57 = .ok (.iload 6, 2) := by decide +kernel
theorem dX10_move_59 : decode cX10_move 59 = .ok (.iadd, 1) := by decide +kernel
theorem dX10_move_60 : decode cX10_move 60 = .ok (.iaload, 1) := by decide +kernel
theorem dX10_move_61 : decode cX10_move 61 = .ok (.iload 7, 2) := by decide +kernel
theorem dX10_move_63 : decode cX10_move 63 = .ok (.ishr, 1) := by decide +kernel
theorem dX10_move_64 : decode cX10_move 64 = .ok (.iconst 1, 1) := by decide +kernel
theorem dX10_move_65 : decode cX10_move 65 = .ok (.iand, 1) := by decide +kernel
theorem dX10_move_66 : decode cX10_move 66 = .ok (.iconst 1, 1) := by decide +kernel
theorem dX10_move_67 : decode cX10_move 67 = .ok (.if_icmp .ne 64, 3) := by decide +kernel
theorem dX10_move_70 : decode cX10_move 70 = .ok (.iload 6, 2) := by decide +kernel
theorem dX10_move_72 : decode cX10_move 72 = .ok (.iload_n 2, 1) := by decide +kernel
theorem dX10_move_73 : decode cX10_move 73 = .ok (.if_icmp .lt 11, 3) := by decide +kernel
theorem dX10_move_76 : decode cX10_move 76 = .ok (.iload 6, 2) := by decide +kernel
theorem dX10_move_78 : decode cX10_move 78 = .ok (.iload 4, 2) := by decide +kernel
theorem dX10_move_80 : decode cX10_move 80 = .ok (.iadd, 1) := by decide +kernel
theorem dX10_move_81 : decode cX10_move 81 = .ok (.goto 5, 3) := by decide +kernel
theorem dX10_move_84 : decode cX10_move 84 = .ok (.iload 6, 2) := by decide +kernel
theorem dX10_move_86 : decode cX10_move 86 = .ok (.istore 8, 2) := by decide +kernel
theorem dX10_move_88 : decode cX10_move 88 = .ok (.iload 7, 2) := by decide +kernel
theorem dX10_move_90 : decode cX10_move 90 = .ok (.iload_n 3, 1) := by decide +kernel
theorem dX10_move_91 : decode cX10_move 91 = .ok (.if_icmp .lt 11, 3) := by decide +kernel
theorem dX10_move_94 : decode cX10_move 94 = .ok (.iload 7, 2) := by decide +kernel
theorem dX10_move_96 : decode cX10_move 96 = .ok (.iload 4, 2) := by decide +kernel
theorem dX10_move_98 : decode cX10_move 98 = .ok (.iadd, 1) := by decide +kernel
theorem dX10_move_99 : decode cX10_move 99 = .ok (.goto 5, 3) := by decide +kernel
theorem dX10_move_102 : decode cX10_move 102 = .ok (.iload 7, 2) := by decide +kernel
theorem dX10_move_104 : decode cX10_move 104 = .ok (.istore 9, 2) := by decide +kernel
theorem dX10_move_106 : decode cX10_move 106 = .ok (.aload_n 0, 1) := by decide +kernel
theorem dX10_move_107 : decode cX10_move 107 = .ok (.getfield 38, 3) := by decide +kernel
theorem dX10_move_110 : decode cX10_move 110 = .ok (.iload 8, 2) := by decide +kernel
theorem dX10_move_112 : decode cX10_move 112 = .ok (.dup2, 1) := by decide +kernel
theorem dX10_move_113 : decode cX10_move 113 = .ok (.iaload, 1) := by decide +kernel
theorem dX10_move_114 : decode cX10_move 114 = .ok (.iload 8, 2) := by decide +kernel
theorem dX10_move_116 : decode cX10_move 116 = .ok (.iload 9, 2) := by decide +kernel
theorem dX10_move_118 : decode cX10_move 118 = .ok (.if_icmp .ge 10, 3) := by decide +kernel
theorem dX10_move_121 : decode cX10_move 121 = .ok (.iconst 1, 1) := by decide +kernel
theorem dX10_move_122 : decode cX10_move 122 = .ok (.iload 9, 2) := by decide +kernel
theorem dX10_move_124 : decode cX10_move 124 = .ok (.ishl, 1) := by decide +kernel
theorem dX10_move_125 : decode cX10_move 125 = .ok (.goto 4, 3) := by decide +kernel
theorem dX10_move_128 : decode cX10_move 128 = .ok (.iconst 0, 1) := by decide +kernel
theorem dX10_move_129 : decode cX10_move 129 = .ok (.ior, 1) := by decide +kernel
theorem dX10_move_130 : decode cX10_move 130 = .ok (.iastore, 1) := by decide +kernel
theorem dX10_move_131 : decode cX10_move 131 = .ok (.iinc 5 1, 3) := by decide +kernel
theorem dX10_move_134 : decode cX10_move 134 = .ok (.goto (-107), 3) := by decide +kernel
theorem dX10_move_137 : decode cX10_move 137 = .ok (.iconst 0, 1) := by decide +kernel
theorem dX10_move_138 : decode cX10_move 138 = .ok (.istore 5, 2) := by decide +kernel
theorem dX10_move_140 : decode cX10_move 140 = .ok (.iload 5, 2) := by decide +kernel
theorem dX10_move_142 : decode cX10_move 142 = .ok (.bipush 25, 2) := by decide +kernel
theorem dX10_move_144 : decode cX10_move 144 = .ok (.if_icmp .ge 28, 3) := by decide +kernel
theorem dX10_move_147 : decode cX10_move 147 = .ok (.aload_n 0, 1) := by decide +kernel
theorem dX10_move_148 : decode cX10_move 148 = .ok (.getfield 13, 3) := by decide +kernel
theorem dX10_move_151 : decode cX10_move 151 = .ok (.bipush 25, 2) := by decide +kernel
theorem dX10_move_153 : decode cX10_move 153 = .ok (.iload_n 1, 1) := by decide +kernel
theorem dX10_move_154 : decode cX10_move 154 = .ok (.imul, 1) := by decide +kernel
theorem dX10_move_155 : decode cX10_move 155 = .ok (.iload 5, 2) := by decide +kernel
theorem dX10_move_157 : decode cX10_move 157 = .ok (.iadd, 1) := by decide +kernel
theorem dX10_move_158 : decode cX10_move 158 = .ok (.aload_n 0, 1) := by decide +kernel
theorem dX10_move_159 : decode cX10_move 159 = .ok (.getfield 38, 3) := by decide +kernel
theorem dX10_move_162 : decode cX10_move 162 = .ok (.iload 5, 2) := by decide +kernel
theorem dX10_move_164 : decode cX10_move 164 = .ok (.iaload, 1) := by decide +kernel
theorem dX10_move_165 : decode cX10_move 165 = .ok (.iastore, 1) := by decide +kernel
theorem dX10_move_166 : decode cX10_move 166 = .ok (.iinc 5 1, 3) := by decide +kernel
theorem dX10_move_169 : decode cX10_move 169 = .ok (.goto (-29), 3) := by decide +kernel
theorem dX10_move_172 : decode cX10_move 172 = .ok (.return_, 1) := by decide +kernel
set_option maxRecDepth 20000 in
theorem ggX10_insert_X10_in : GoodIn wsX10_insert wsX10_in := goodIn_r _ [6] (by decide +kernel) (by decide +kernel)
set_option maxRecDepth 20000 in
theorem gX10_insert_X10_in : GoodIn wsX10_insert (va_wsS RX10 45 yX10_in wsX10_in) := goodIn_app (goodIn_of _ (by decide +kernel)) ggX10_insert_X10_in
set_option maxRecDepth 20000 in
theorem ggX10_insert_X10_goesWell : GoodIn wsX10_insert wsX10_goesWell := goodIn_r _ [10, 11, 18, 19, 20, 21, 22, 23, 24, 25, 26, 27, 28, 29, 30] (by decide +kernel) (by decide +kernel)
set_option maxRecDepth 20000 in
theorem gX10_insert_X10_goesWell : GoodIn wsX10_insert (wsV RX10 55 RX10 yX10_goesWell wsX10_goesWell) := goodIn_app (goodIn_of _ (by decide +kernel)) ggX10_insert_X10_goesWell
set_option maxRecDepth 20000 in
theorem ggX10_insert_X10_move : GoodIn wsX10_insert wsX10_move := goodIn_r _ [15, 16, 17, 18, 19, 20, 21, 22, 23, 24, 25, 26, 27, 28, 29, 30] (by decide +kernel) (by decide +kernel)
set_option maxRecDepth 20000 in
theorem gX10_insert_X10_move : GoodIn wsX10_insert (wsV RX10 59 RX10 yX10_move wsX10_move) := goodIn_app (goodIn_of _ (by decide +kernel)) ggX10_insert_X10_move
theorem dX10_insert_0 : decode cX10_insert 0 = .ok (.iload_n 1, 1) := by decide +kernel
theorem dX10_insert_1 : decode cX10_insert 1 = .ok (.iconst 0, 1) := by decide +kernel
theorem dX10_insert_2 : decode cX10_insert 2 = .ok (.aload_n 0, 1) := by decide +kernel
theorem dX10_insert_3 : decode cX10_insert 3 = .ok (.getfield 52, 3) := by decide +kernel
theorem dX10_insert_6 : decode cX10_insert 6 = .ok (.invokestatic 45, 3) := by decide +kernel
theorem dX10_insert_9 : decode cX10_insert 9 = .ok (.ifCond .ne 7, 3) := by decide +kernel
theorem dX10_insert_12 : decode cX10_insert 12 = .ok (.iconst 1, 1) := by decide +kernel
theorem dX10_insert_13 : decode cX10_insert 13 = .ok (.goto 30, 3) := by decide +kernel
theorem dX10_insert_16 : decode cX10_insert 16 = .ok (.iload_n 2, 1) := by decide +kernel
theorem dX10_insert_17 : decode cX10_insert 17 = .ok (.iconst 0, 1) := by decide +kernel
theorem dX10_insert_18 : decode cX10_insert 18 = .ok (.iconst 5, 1) := by decide +kernel
theorem dX10_insert_19 : decode cX10_insert 19 = .ok (.invokestatic 45, 3) := by decide +kernel
theorem dX10_insert_22 : decode cX10_insert 22 = .ok (.ifCond .ne 7, 3) := by decide +kernel
theorem dX10_insert_25 : decode cX10_insert 25 = .ok (.iconst 2, 1) := by decide +kernel
theorem dX10_insert_26 : decode cX10_insert 26 = .ok (.goto 17, 3) := by decide +kernel
theorem dX10_insert_29 : decode cX10_insert 29 = .ok (.aload_n 0, 1) := by decide +kernel
theorem dX10_insert_30 : decode cX10_insert 30 = .ok (.getfield 52, 3) := by decide +kernel
theorem dX10_insert_33 : decode cX10_insert 33 = .ok (.bipush 24, 2) := by decide +kernel
theorem dX10_insert_35 : decode cX10_insert 35 = .ok (.if_icmp .ne 7, 3) := by decide +kernel
theorem dX10_insert_38 : decode cX10_insert 38 = .ok (.iconst 3, 1) := by decide +kernel
theorem dX10_insert_39 : decode cX10_insert 39 = .ok (.goto 4, 3) := by decide +kernel
theorem dX10_insert_42 : decode cX10_insert 42 = .ok (.iconst 0, 1) := by decide +kernel
theorem dX10_insert_43 : decode cX10_insert 43 = .ok (.istore_n 3, 1) := by decide +kernel
theorem dX10_insert_44 : decode cX10_insert 44 = .ok (.aload_n 0, 1) := by decide +kernel
theorem dX10_insert_45 : decode cX10_insert 45 = .ok (.iload_n 3, 1) := by decide +kernel
theorem dX10_insert_46 : decode cX10_insert 46 = .ok (.invokevirtual 55, 3) := by decide +kernel
theorem dX10_insert_49 : decode cX10_insert 49 = .ok (.ifCond .ne 5, 3) := by decide +kernel
theorem dX10_insert_52 : decode cX10_insert 52 = .ok (.iconst 0, 1) := by decide +kernel
theorem dX10_insert_53 : decode cX10_insert 53 = .ok (.ireturn, 1) := by decide +kernel
theorem dX10_insert_54 : decode cX10_insert 54 = .ok (.aload_n 0, 1) := by decide +kernel
theorem dX10_insert_55 : decode cX10_insert 55 = .ok (.getfield 52, 3) := by decide +kernel
theorem dX10_insert_58 : decode cX10_insert 58 = .ok (.istore 4, 2) := by decide +kernel
theorem dX10_insert_60 : decode cX10_insert 60 = .ok (.iload 4, 2) := by decide +kernel
theorem dX10_insert_62 : decode cX10_insert 62 = .ok (.iload_n 1, 1) := by decide +kernel
theorem dX10_insert_63 : decode cX10_insert 63 = .ok (.if_icmp .le 25, 3) := by decide +kernel
theorem dX10_insert_66 : decode cX10_insert 66 = .ok (.aload_n 0, 1) := by decide +kernel
theorem dX10_insert_67 : decode cX10_insert 67 = .ok (.getfield 7, 3) := by decide +kernel
theorem dX10_insert_70 : decode cX10_insert 70 = .ok (.iload 4, 2) := by decide +kernel
theorem dX10_insert_72 : decode cX10_insert 72 = .ok (.aload_n 0, 1) := by decide +kernel
theorem dX10_insert_73 : decode cX10_insert 73 = .ok (.getfield 7, 3) := by decide +kernel
theorem dX10_insert_76 : decode cX10_insert 76 = .ok (.iload 4, 2) := by decide +kernel
theorem dX10_insert_78 : decode cX10_insert 78 = .ok (.iconst 1, 1) := by decide +kernel
theorem dX10_insert_79 : decode cX10_insert 79 = .ok (.isub, 1) := by decide +kernel
theorem dX10_insert_80 : decode cX10_insert 80 = .ok (.iaload, 1) := by decide +kernel
theorem dX10_insert_81 : decode cX10_insert 81 = .ok (.iastore, 1) := by decide +kernel
theorem dX10_insert_82 : decode cX10_insert 82 = .ok (.iinc 4 (-1), 3) := by decide +kernel
theorem dX10_insert_85 : decode cX10_insert 85 = .ok (.goto (-25), 3) := by decide +kernel
theorem dX10_insert_88 : decode cX10_insert 88 = .ok (.aload_n 0, 1) := by decide +kernel
theorem dX10_insert_89 : decode cX10_insert 89 = .ok (.getfield 7, 3) := by decide +kernel
theorem dX10_insert_92 : decode cX10_insert 92 = .ok (.iload_n 1, 1) := by decide +kernel
theorem dX10_insert_93 : decode cX10_insert 93 = .ok (.iload_n 2, 1) := by decide +kernel
theorem dX10_insert_94 : decode cX10_insert 94 = .ok (.iastore, 1) := by decide +kernel
theorem dX10_insert_95 : decode cX10_insert 95 = .ok (.aload_n 0, 1) := by decide +kernel
theorem dX10_insert_96 : decode cX10_insert 96 = .ok (.dup, 1) := by decide +kernel
theorem dX10_insert_97 : decode cX10_insert 97 = .ok (.getfield 52, 3) := by decide +kernel
theorem dX10_insert_100 : decode cX10_insert 100 = .ok (.iconst 1, 1) := by decide +kernel
theorem dX10_insert_101 : decode cX10_insert 101 = .ok (.iadd, 1) := by decide +kernel
theorem dX10_insert_102 : decode cX10_insert 102 = .ok (.putfield 52, 3) := by decide +kernel
theorem dX10_insert_105 : decode cX10_insert 105 = .ok (.iconst 0, 1) := by decide +kernel
theorem dX10_insert_106 : decode cX10_insert 106 = .ok (.istore 4, 2) := by decide +kernel
theorem dX10_insert_108 : decode cX10_insert 108 = .ok (.iload 4, 2) := by decide +kernel
theorem dX10_insert_110 : decode cX10_insert 110 = .ok (.iconst 4, 1) := by decide +kernel
theorem dX10_insert_111 : decode cX10_insert 111 = .ok (.if_icmp .ge 20, 3) := by decide +kernel
theorem dX10_insert_114 : decode cX10_insert 114 = .ok (.aload_n 0, 1) := by decide +kernel
theorem dX10_insert_115 : decode cX10_insert 115 = .ok (.iload 4, 2) := by decide +kernel
theorem dX10_insert_117 : decode cX10_insert 117 = .ok (.iload_n 1, 1) := by decide +kernel
theorem dX10_insert_118 : decode cX10_insert 118 = .ok (.iload_n 1, 1) := by decide +kernel
theorem dX10_insert_119 : decode cX10_insert 119 = .ok (.iconst 1, 1) := by decide +kernel
theorem dX10_insert_120 : decode cX10_insert 120 = .ok (.iadd, 1) := by decide +kernel
theorem dX10_insert_121 : decode cX10_insert 121 = .ok (.iconst 1, 1) := by decide +kernel
theorem dX10_insert_122 : decode cX10_insert 122 = .ok (.invokevirtual 59, 3) := by decide +kernel
theorem dX10_insert_125 : decode cX10_insert 125 = .ok (.iinc 4 1, 3) := by decide +kernel
theorem dX10_insert_128 : decode cX10_insert 128 = .ok (.goto (-20), 3) := by decide +kernel
theorem dX10_insert_131 : decode cX10_insert 131 = .ok (.aload_n 0, 1) := by decide +kernel
theorem dX10_insert_132 : decode cX10_insert 132 = .ok (.getfield 52, 3) := by decide +kernel
theorem dX10_insert_135 : decode cX10_insert 135 = .ok (.ireturn, 1) := by decide +kernel
set_option maxRecDepth 20000 in
theorem ggX10_remove_X10_in : GoodIn wsX10_remove wsX10_in := goodIn_r _ [6] (by decide +kernel) (by decide +kernel)
set_option maxRecDepth 20000 in
theorem gX10_remove_X10_in : GoodIn wsX10_remove (va_wsS RX10 45 yX10_in wsX10_in) := goodIn_app (goodIn_of _ (by decide +kernel)) ggX10_remove_X10_in
set_option maxRecDepth 20000 in
theorem ggX10_remove_X10_goesWell : GoodIn wsX10_remove wsX10_goesWell := goodIn_r _ [10, 11, 18, 19, 20, 21, 22, 23, 24, 25, 26, 27, 28, 29, 30] (by decide +kernel) (by decide +kernel)
set_option maxRecDepth 20000 in
theorem gX10_remove_X10_goesWell : GoodIn wsX10_remove (wsV RX10 55 RX10 yX10_goesWell wsX10_goesWell) := goodIn_app (goodIn_of _ (by decide +kernel)) ggX10_remove_X10_goesWell
set_option maxRecDepth 20000 in
theorem ggX10_remove_X10_move : GoodIn wsX10_remove wsX10_move := goodIn_r _ [15, 16, 17, 18, 19, 20, 21, 22, 23, 24, 25, 26, 27, 28, 29, 30] (by decide +kernel) (by decide +kernel)
set_option maxRecDepth 20000 in
theorem gX10_remove_X10_move : GoodIn wsX10_remove (wsV RX10 59 RX10 yX10_move wsX10_move) := goodIn_app (goodIn_of _ (by decide +kernel)) ggX10_remove_X10_move
theorem dX10_remove_0 : decode cX10_remove 0 = .ok (.aload_n 0, 1) := by decide +kernel
theorem dX10_remove_1 : decode cX10_remove 1 = .ok (.iload_n 1, 1) := by decide +kernel
theorem dX10_remove_2 : decode cX10_remove 2 = .ok (.iconst 0, 1) := by decide +kernel
theorem dX10_remove_3 : decode cX10_remove 3 = .ok (.aload_n 0, 1) := by decide +kernel
theorem dX10_remove_4 : decode cX10_remove 4 = .ok (.getfield 52, 3) := by decide +kernel
theorem dX10_remove_7 : decode cX10_remove 7 = .ok (.iconst 1, 1) := by decide +kernel
theorem dX10_remove_8 : decode cX10_remove 8 = .ok (.isub, 1) := by decide +kernel
theorem dX10_remove_9 : decode cX10_remove 9 = .ok (.invokestatic 45, 3) := by decide +kernel
theorem dX10_remove_12 : decode cX10_remove 12 = .ok (.ifCond .eq 7, 3) := by decide +kernel
theorem dX10_remove_15 : decode cX10_remove 15 = .ok (.iconst 0, 1) := by decide +kernel
theorem dX10_remove_16 : decode cX10_remove 16 = .ok (.goto 4, 3) := by decide +kernel
theorem dX10_remove_19 : decode cX10_remove 19 = .ok (.iconst 1, 1) := by decide +kernel
theorem dX10_remove_20 : decode cX10_remove 20 = .ok (.invokevirtual 55, 3) := by decide +kernel
theorem dX10_remove_23 : decode cX10_remove 23 = .ok (.ifCond .ne 5, 3) := by decide +kernel
theorem dX10_remove_26 : decode cX10_remove 26 = .ok (.iconst 0, 1) := by decide +kernel
theorem dX10_remove_27 : decode cX10_remove 27 = .ok (.ireturn, 1) := by decide +kernel
theorem dX10_remove_28 : decode cX10_remove 28 = .ok (.aload_n 0, 1) := by decide +kernel
theorem dX10_remove_29 : decode cX10_remove 29 = .ok (.getfield 7, 3) := by decide +kernel
theorem dX10_remove_32 : decode cX10_remove 32 = .ok (.iload_n 1, 1) := by decide +kernel
theorem dX10_remove_33 : decode cX10_remove 33 = .ok (.iaload, 1) := by decide +kernel
theorem dX10_remove_34 : decode cX10_remove 34 = .ok (.istore_n 2, 1) := by decide +kernel
theorem dX10_remove_35 : decode cX10_remove 35 = .ok (.aload_n 0, 1) := by decide +kernel
theorem dX10_remove_36 : decode cX10_remove 36 = .ok (.dup, 1) := by decide +kernel
theorem dX10_remove_37 : decode cX10_remove 37 = .ok (.getfield 52, 3) := by decide +kernel
theorem dX10_remove_40 : decode cX10_remove 40 = .ok (.iconst 1, 1) := by decide +kernel
theorem dX10_remove_41 : decode cX10_remove 41 = .ok (.isub, 1) := by decide +kernel
theorem dX10_remove_42 : decode cX10_remove 42 = .ok (.putfield 52, 3) := by decide +kernel
theorem dX10_remove_45 : decode cX10_remove 45 = .ok (.iload_n 1, 1) := by decide +kernel
theorem dX10_remove_46 : decode cX10_remove 46 = .ok (.istore_n 3, 1) := by decide +kernel
theorem dX10_remove_47 : decode cX10_remove 47 = .ok (.iload_n 3, 1) := by decide +kernel
theorem dX10_remove_48 : decode cX10_remove 48 = .ok (.aload_n 0, 1) := by decide +kernel
theorem dX10_remove_49 : decode cX10_remove 49 = .ok (.getfield 52, 3) := by decide +kernel
theorem dX10_remove_52 : decode cX10_remove 52 = .ok (.if_icmp .ge 23, 3) := by decide +kernel
theorem dX10_remove_55 : decode cX10_remove 55 = .ok (.aload_n 0, 1) := by decide +kernel
theorem dX10_remove_56 : decode cX10_remove 56 = .ok (.getfield 7, 3) := by decide +kernel
theorem dX10_remove_59 : decode cX10_remove 59 = .ok (.iload_n 3, 1) := by decide +kernel
theorem dX10_remove_60 : decode cX10_remove 60 = .ok (.aload_n 0, 1) := by decide +kernel
theorem dX10_remove_61 : decode cX10_remove 61 = .ok (.getfield 7, 3) := by decide +kernel
theorem dX10_remove_64 : decode cX10_remove 64 = .ok (.iload_n 3, 1) := by decide +kernel
theorem dX10_remove_65 : decode cX10_remove 65 = .ok (.iconst 1, 1) := by decide +kernel
theorem dX10_remove_66 : decode cX10_remove 66 = .ok (.iadd, 1) := by decide +kernel
theorem dX10_remove_67 : decode cX10_remove 67 = .ok (.iaload, 1) := by decide +kernel
theorem dX10_remove_68 : decode cX10_remove 68 = .ok (.iastore, 1) := by decide +kernel
theorem dX10_remove_69 : decode cX10_remove 69 = .ok (.iinc 3 1, 3) := by decide +kernel
theorem dX10_remove_72 : decode cX10_remove 72 = .ok (.goto (-25), 3) := by decide +kernel
theorem dX10_remove_75 : decode cX10_remove 75 = .ok (.iconst 0, 1) := by decide +kernel
theorem dX10_remove_76 : decode cX10_remove 76 = .ok (.istore_n 3, 1) := by decide +kernel
theorem dX10_remove_77 : decode cX10_remove 77 = .ok (.iload_n 3, 1) := by decide +kernel
theorem dX10_remove_78 : decode cX10_remove 78 = .ok (.iconst 4, 1) := by decide +kernel
theorem dX10_remove_79 : decode cX10_remove 79 = .ok (.if_icmp .ge 21, 3) := by decide +kernel
theorem dX10_remove_82 : decode cX10_remove 82 = .ok (.aload_n 0, 1) := by decide +kernel
theorem dX10_remove_83 : decode cX10_remove 83 = .ok (.iload_n 3, 1) := by decide +kernel
theorem dX10_remove_84 : decode cX10_remove 84 = .ok (.iload_n 1, 1) := by decide +kernel
theorem dX10_remove_85 : decode cX10_remove 85 = .ok (.iconst 1, 1) := by decide +kernel
theorem dX10_remove_86 : decode cX10_remove 86 = .ok (.iadd, 1) := by decide +kernel
theorem dX10_remove_87 : decode cX10_remove 87 = .ok (.iload_n 1, 1) := by decide +kernel
theorem dX10_remove_88 : decode cX10_remove 88 = .ok (.iconst 1, 1) := by decide +kernel
theorem dX10_remove_89 : decode cX10_remove 89 = .ok (.iadd, 1) := by decide +kernel
theorem dX10_remove_90 : decode cX10_remove 90 = .ok (.iconst (-1), 1) := by decide +kernel
theorem dX10_remove_91 : decode cX10_remove 91 = .ok (.invokevirtual 59, 3) := by decide +kernel
theorem dX10_remove_94 : decode cX10_remove 94 = .ok (.iinc 3 1, 3) := by decide +kernel
theorem dX10_remove_97 : decode cX10_remove 97 = .ok (.goto (-20), 3) := by decide +kernel
theorem dX10_remove_100 : decode cX10_remove 100 = .ok (.iload_n 2, 1) := by decide +kernel
theorem dX10_remove_101 : decode cX10_remove 101 = .ok (.ireturn, 1) := by decide +kernel
theorem dX10_length_0 : decode cX10_length 0 = .ok (.aload_n 0, 1) := by decide +kernel
theorem dX10_length_1 : decode cX10_length 1 = .ok (.iconst 0, 1) := by decide +kernel
theorem dX10_length_2 : decode cX10_length 2 = .ok (.putfield 41, 3) := by decide +kernel
theorem dX10_length_5 : decode cX10_length 5 = .ok (.aload_n 0, 1) := by decide +kernel
theorem dX10_length_6 : decode cX10_length 6 = .ok (.getfield 52, 3) := by decide +kernel
theorem dX10_length_9 : decode cX10_length 9 = .ok (.ireturn, 1) := by decide +kernel
set_option maxRecDepth 20000 in
theorem ggX10_letterAt_X10_in : GoodIn wsX10_letterAt wsX10_in := goodIn_r _ [6] (by decide +kernel) (by decide +kernel)
set_option maxRecDepth 20000 in
theorem gX10_letterAt_X10_in : GoodIn wsX10_letterAt (va_wsS RX10 45 yX10_in wsX10_in) := goodIn_app (goodIn_of _ (by decide +kernel)) ggX10_letterAt_X10_in
set_option maxRecDepth 20000 in
theorem ggX10_letterAt_X10_goesWell : GoodIn wsX10_letterAt wsX10_goesWell := goodIn_r _ [10, 11, 12, 13, 14, 15, 16, 17, 18, 19, 20, 21, 22, 23, 24] (by decide +kernel) (by decide +kernel)
set_option maxRecDepth 20000 in
theorem gX10_letterAt_X10_goesWell : GoodIn wsX10_letterAt (wsV RX10 55 RX10 yX10_goesWell wsX10_goesWell) := goodIn_app (goodIn_of _ (by decide +kernel)) ggX10_letterAt_X10_goesWell
theorem dX10_letterAt_0 : decode cX10_letterAt 0 = .ok (.aload_n 0, 1) := by decide +kernel
theorem dX10_letterAt_1 : decode cX10_letterAt 1 = .ok (.iload_n 1, 1) := by decide +kernel
theorem dX10_letterAt_2 : decode cX10_letterAt 2 = .ok (.iconst 0, 1) := by decide +kernel
theorem dX10_letterAt_3 : decode cX10_letterAt 3 = .ok (.aload_n 0, 1) := by decide +kernel
theorem dX10_letterAt_4 : decode cX10_letterAt 4 = .ok (.getfield 52, 3) := by decide +kernel
theorem dX10_letterAt_7 : decode cX10_letterAt 7 = .ok (.iconst 1, 1) := by decide +kernel
theorem dX10_letterAt_8 : decode cX10_letterAt 8 = .ok (.isub, 1) := by decide +kernel
theorem dX10_letterAt_9 : decode cX10_letterAt 9 = .ok (.invokestatic 45, 3) := by decide +kernel
theorem dX10_letterAt_12 : decode cX10_letterAt 12 = .ok (.ifCond .eq 7, 3) := by decide +kernel
theorem dX10_letterAt_15 : decode cX10_letterAt 15 = .ok (.iconst 0, 1) := by decide +kernel
theorem dX10_letterAt_16 : decode cX10_letterAt 16 = .ok (.goto 4, 3) := by decide +kernel
theorem dX10_letterAt_19 : decode cX10_letterAt 19 = .ok (.iconst 1, 1) := by decide +kernel
theorem dX10_letterAt_20 : decode cX10_letterAt 20 = .ok (.invokevirtual 55, 3) := by decide +kernel
theorem dX10_letterAt_23 : decode cX10_letterAt 23 = .ok (.ifCond .eq 12, 3) := by decide +kernel
theorem dX10_letterAt_26 : decode cX10_letterAt 26 = .ok (.aload_n 0, 1) := by decide +kernel
theorem dX10_letterAt_27 : decode cX10_letterAt 27 = .ok (.getfield 7, 3) := by decide +kernel
theorem dX10_letterAt_30 : decode cX10_letterAt 30 = .ok (.iload_n 1, 1) := by decide +kernel
theorem dX10_letterAt_31 : decode cX10_letterAt 31 = .ok (.iaload, 1) := by decide +kernel
theorem dX10_letterAt_32 : decode cX10_letterAt 32 = .ok (.goto 4, 3) := by decide +kernel
theorem dX10_letterAt_35 : decode cX10_letterAt 35 = .ok (.iconst 0, 1) := by decide +kernel
theorem dX10_letterAt_36 : decode cX10_letterAt 36 = .ok (.ireturn, 1) := by decide +kernel
set_option maxRecDepth 20000 in
theorem ggX10_mark_X10_in : GoodIn wsX10_mark wsX10_in := goodIn_r _ [6] (by decide +kernel) (by decide +kernel)
set_option maxRecDepth 20000 in
theorem gX10_mark_X10_in : GoodIn wsX10_mark (va_wsS RX10 45 yX10_in wsX10_in) := goodIn_app (goodIn_of _ (by decide +kernel)) ggX10_mark_X10_in
set_option maxRecDepth 20000 in
theorem ggX10_mark_X10_isKind : GoodIn wsX10_mark wsX10_isKind := goodIn_r _ [9, 3, 4, 5, 6] (by decide +kernel) (by decide +kernel)
set_option maxRecDepth 20000 in
theorem gX10_mark_X10_isKind : GoodIn wsX10_mark (va_wsS RX10 63 yX10_isKind wsX10_isKind) := goodIn_app (goodIn_of _ (by decide +kernel)) ggX10_mark_X10_isKind
set_option maxRecDepth 20000 in
theorem ggX10_mark_X10_goesWell : GoodIn wsX10_mark wsX10_goesWell := goodIn_r _ [13, 14, 15, 16, 17, 18, 19, 20, 21, 22, 23, 24, 25, 26, 27] (by decide +kernel) (by decide +kernel)
set_option maxRecDepth 20000 in
theorem gX10_mark_X10_goesWell : GoodIn wsX10_mark (wsV RX10 55 RX10 yX10_goesWell wsX10_goesWell) := goodIn_app (goodIn_of _ (by decide +kernel)) ggX10_mark_X10_goesWell
theorem dX10_mark_0 : decode cX10_mark 0 = .ok (.iload_n 2, 1) := by decide +kernel
theorem dX10_mark_1 : decode cX10_mark 1 = .ok (.iconst 0, 1) := by decide +kernel
theorem dX10_mark_2 : decode cX10_mark 2 = .ok (.aload_n 0, 1) := by decide +kernel
theorem dX10_mark_3 : decode cX10_mark 3 = .ok (.getfield 52, 3) := by decide +kernel
theorem dX10_mark_6 : decode cX10_mark 6 = .ok (.iconst 1, 1) := by decide +kernel
theorem dX10_mark_7 : decode cX10_mark 7 = .ok (.isub, 1) := by decide +kernel
theorem dX10_mark_8 : decode cX10_mark 8 = .ok (.invokestatic 45, 3) := by decide +kernel
theorem dX10_mark_11 : decode cX10_mark 11 = .ok (.ifCond .eq 21, 3) := by decide +kernel
theorem dX10_mark_14 : decode cX10_mark 14 = .ok (.iload_n 3, 1) := by decide +kernel
theorem dX10_mark_15 : decode cX10_mark 15 = .ok (.iload_n 2, 1) := by decide +kernel
theorem dX10_mark_16 : decode cX10_mark 16 = .ok (.iconst 1, 1) := by decide +kernel
theorem dX10_mark_17 : decode cX10_mark 17 = .ok (.iadd, 1) := by decide +kernel
theorem dX10_mark_18 : decode cX10_mark 18 = .ok (.aload_n 0, 1) := by decide +kernel
theorem dX10_mark_19 : decode cX10_mark 19 = .ok (.getfield 52, 3) := by decide +kernel
theorem dX10_mark_22 : decode cX10_mark 22 = .ok (.invokestatic 45, 3) := by decide +kernel
theorem dX10_mark_25 : decode cX10_mark 25 = .ok (.ifCond .eq 7, 3) := by decide +kernel
theorem dX10_mark_28 : decode cX10_mark 28 = .ok (.iconst 1, 1) := by decide +kernel
theorem dX10_mark_29 : decode cX10_mark 29 = .ok (.goto 4, 3) := by decide +kernel
theorem dX10_mark_32 : decode cX10_mark 32 = .ok (.iconst 0, 1) := by decide +kernel
theorem dX10_mark_33 : decode cX10_mark 33 = .ok (.istore 4, 2) := by decide +kernel
theorem dX10_mark_35 : decode cX10_mark 35 = .ok (.aload_n 0, 1) := by decide +kernel
theorem dX10_mark_36 : decode cX10_mark 36 = .ok (.iload_n 1, 1) := by decide +kernel
theorem dX10_mark_37 : decode cX10_mark 37 = .ok (.invokestatic 63, 3) := by decide +kernel
theorem dX10_mark_40 : decode cX10_mark 40 = .ok (.ifCond .ne 7, 3) := by decide +kernel
theorem dX10_mark_43 : decode cX10_mark 43 = .ok (.iconst 1, 1) := by decide +kernel
theorem dX10_mark_44 : decode cX10_mark 44 = .ok (.goto 13, 3) := by decide +kernel
theorem dX10_mark_47 : decode cX10_mark 47 = .ok (.iload 4, 2) := by decide +kernel
theorem dX10_mark_49 : decode cX10_mark 49 = .ok (.ifCond .eq 7, 3) := by decide +kernel
theorem dX10_mark_52 : decode cX10_mark 52 = .ok (.iconst 0, 1) := by decide +kernel
theorem dX10_mark_53 : decode cX10_mark 53 = .ok (.goto 4, 3) := by decide +kernel
theorem dX10_mark_56 : decode cX10_mark 56 = .ok (.iconst 2, 1) := by decide +kernel
theorem dX10_mark_57 : decode cX10_mark 57 = .ok (.invokevirtual 55, 3) := by decide +kernel
theorem dX10_mark_60 : decode cX10_mark 60 = .ok (.ifCond .ne 5, 3) := by decide +kernel
theorem dX10_mark_63 : decode cX10_mark 63 = .ok (.iconst 0, 1) := by decide +kernel
theorem dX10_mark_64 : decode cX10_mark 64 = .ok (.ireturn, 1) := by decide +kernel
theorem dX10_mark_65 : decode cX10_mark 65 = .ok (.aload_n 0, 1) := by decide +kernel
theorem dX10_mark_66 : decode cX10_mark 66 = .ok (.getfield 13, 3) := by decide +kernel
theorem dX10_mark_69 : decode cX10_mark 69 = .ok (.bipush 25, 2) := by decide +kernel
theorem dX10_mark_71 : decode cX10_mark 71 = .ok (.iload_n 1, 1) := by decide +kernel
theorem dX10_mark_72 : decode cX10_mark 72 = .ok (.imul, 1) := by decide +kernel
theorem dX10_mark_73 : decode cX10_mark 73 = .ok (.iload_n 2, 1) := by decide +kernel
theorem dX10_mark_74 : decode cX10_mark 74 = .ok (.iadd, 1) := by decide +kernel
theorem dX10_mark_75 : decode cX10_mark 75 = .ok (.iaload, 1) := by decide +kernel
theorem dX10_mark_76 : decode cX10_mark 76 = .ok (.iload_n 3, 1) := by decide +kernel
theorem dX10_mark_77 : decode cX10_mark 77 = .ok (.ishr, 1) := by decide +kernel
theorem dX10_mark_78 : decode cX10_mark 78 = .ok (.iconst 1, 1) := by decide +kernel
theorem dX10_mark_79 : decode cX10_mark 79 = .ok (.iand, 1) := by decide +kernel
theorem dX10_mark_80 : decode cX10_mark 80 = .ok (.iconst 1, 1) := by decide +kernel
theorem dX10_mark_81 : decode cX10_mark 81 = .ok (.if_icmp .ne 7, 3) := by decide +kernel
theorem dX10_mark_84 : decode cX10_mark 84 = .ok (.iconst 1, 1) := by decide +kernel
theorem dX10_mark_85 : decode cX10_mark 85 = .ok (.goto 4, 3) := by decide +kernel
theorem dX10_mark_88 : decode cX10_mark 88 = .ok (.iconst 0, 1) := by decide +kernel
theorem dX10_mark_89 : decode cX10_mark 89 = .ok (.istore 5, 2) := by decide +kernel
theorem dX10_mark_91 : decode cX10_mark 91 = .ok (.aload_n 0, 1) := by decide +kernel
theorem dX10_mark_92 : decode cX10_mark 92 = .ok (.getfield 13, 3) := by decide +kernel
theorem dX10_mark_95 : decode cX10_mark 95 = .ok (.bipush 25, 2) := by decide +kernel
theorem dX10_mark_97 : decode cX10_mark 97 = .ok (.iload_n 1, 1) := by decide +kernel
theorem dX10_mark_98 : decode cX10_mark 98 = .ok (.imul, 1) := by decide +kernel
theorem dX10_mark_99 : decode cX10_mark 99 = .ok (.iload_n 2, 1) := by decide +kernel
theorem dX10_mark_100 : decode cX10_mark 100 = .ok (.iadd, 1) := by decide +kernel
theorem dX10_mark_101 : decode cX10_mark 101 = .ok (.dup2, 1) := by decide +kernel
theorem dX10_mark_102 : decode cX10_mark 102 = .ok (.iaload, 1) := by decide +kernel
theorem dX10_mark_103 : decode cX10_mark 103 = .ok (.iconst 1, 1) := by decide +kernel
theorem dX10_mark_104 : decode cX10_mark 104 = .ok (.iload_n 3, 1) := by decide +kernel
theorem dX10_mark_105 : decode cX10_mark 105 = .ok (.ishl, 1) := by decide +kernel
theorem dX10_mark_106 : decode cX10_mark 106 = .ok (.ior, 1) := by decide +kernel
theorem dX10_mark_107 : decode cX10_mark 107 = .ok (.iastore, 1) := by decide +kernel
theorem dX10_mark_108 : decode cX10_mark 108 = .ok (.iload 5, 2) := by decide +kernel
theorem dX10_mark_110 : decode cX10_mark 110 = .ok (.ifCond .ne 7, 3) := by decide +kernel
theorem dX10_mark_113 : decode cX10_mark 113 = .ok (.iconst 1, 1) := by decide +kernel
theorem dX10_mark_114 : decode cX10_mark 114 = .ok (.goto 4, 3) := by decide +kernel
theorem dX10_mark_117 : decode cX10_mark 117 = .ok (.iconst 0, 1) := by decide +kernel
theorem dX10_mark_118 : decode cX10_mark 118 = .ok (.ireturn, 1) := by decide +kernel
theorem dX10_bits_0 : decode cX10_bits 0 = .ok (.iconst 0, 1) := by decide +kernel
theorem dX10_bits_1 : decode cX10_bits 1 = .ok (.istore_n 1, 1) := by decide +kernel
theorem dX10_bits_2 : decode cX10_bits 2 = .ok (.iconst 0, 1) := by decide +kernel
theorem dX10_bits_3 : decode cX10_bits 3 = .ok (.istore_n 2, 1) := by decide +kernel
theorem dX10_bits_4 : decode cX10_bits 4 = .ok (.iload_n 2, 1) := by decide +kernel
theorem dX10_bits_5 : decode cX10_bits 5 = .ok (.bipush 25, 2) := by decide +kernel
theorem dX10_bits_7 : decode cX10_bits 7 = .ok (.if_icmp .ge 17, 3) := by decide +kernel
theorem dX10_bits_10 : decode cX10_bits 10 = .ok (.iload_n 1, 1) := by decide +kernel
theorem dX10_bits_11 : decode cX10_bits 11 = .ok (.iload_n 0, 1) := by decide +kernel
theorem dX10_bits_12 : decode cX10_bits 12 = .ok (.iload_n 2, 1) := by decide +kernel
theorem dX10_bits_13 : decode cX10_bits 13 = .ok (.ishr, 1) := by decide +kernel
theorem dX10_bits_14 : decode cX10_bits 14 = .ok (.iconst 1, 1) := by decide +kernel
theorem dX10_bits_15 : decode cX10_bits 15 = .ok (.iand, 1) := by decide +kernel
theorem dX10_bits_16 : decode cX10_bits 16 = .ok (.iadd, 1) := by decide +kernel
theorem dX10_bits_17 : decode cX10_bits 17 = .ok (.istore_n 1, 1) := by decide +kernel
theorem dX10_bits_18 : decode cX10_bits 18 = .ok (.iinc 2 1, 3) := by decide +kernel
theorem dX10_bits_21 : decode cX10_bits 21 = .ok (.goto (-17), 3) := by decide +kernel
theorem dX10_bits_24 : decode cX10_bits 24 = .ok (.iload_n 1, 1) := by decide +kernel
theorem dX10_bits_25 : decode cX10_bits 25 = .ok (.ireturn, 1) := by decide +kernel
set_option maxRecDepth 20000 in
theorem ggX10_countMarks_X10_bits : GoodIn wsX10_countMarks wsX10_bits := goodIn_r _ [5] (by decide +kernel) (by decide +kernel)
set_option maxRecDepth 20000 in
theorem gX10_countMarks_X10_bits : GoodIn wsX10_countMarks (va_wsS RX10 66 yX10_bits wsX10_bits) := goodIn_app (goodIn_of _ (by decide +kernel)) ggX10_countMarks_X10_bits
theorem dX10_countMarks_0 : decode cX10_countMarks 0 = .ok (.iconst 0, 1) := by decide +kernel
theorem dX10_countMarks_1 : decode cX10_countMarks 1 = .ok (.istore_n 2, 1) := by decide +kernel
theorem dX10_countMarks_2 : decode cX10_countMarks 2 = .ok (.iconst 0, 1) := by decide +kernel
theorem dX10_countMarks_3 : decode cX10_countMarks 3 = .ok (.istore_n 3, 1) := by decide +kernel
theorem dX10_countMarks_4 : decode cX10_countMarks 4 = .ok (.iload_n 3, 1) := by decide +kernel
theorem dX10_countMarks_5 : decode cX10_countMarks 5 = .ok (.bipush 25, 2) := by decide +kernel
theorem dX10_countMarks_7 : decode cX10_countMarks 7 = .ok (.if_icmp .ge 26, 3) := by decide +kernel
theorem dX10_countMarks_10 : decode cX10_countMarks 10 = .ok (.iload_n 2, 1) := by decide +kernel
theorem dX10_countMarks_11 : decode cX10_countMarks 11 = .ok (.aload_n 0, 1) := by decide +kernel
theorem dX10_countMarks_12 : decode cX10_countMarks 12 = .ok (.getfield 13, 3) := by decide +kernel
theorem dX10_countMarks_15 : decode cX10_countMarks 15 = .ok (.bipush 25, 2) := by decide +kernel
theorem dX10_countMarks_17 : decode cX10_countMarks 17 = .ok (.iload_n 1, 1) := by decide +kernel
theorem dX10_countMarks_18 : decode cX10_countMarks 18 = .ok (.imul, 1) := by decide +kernel
theorem dX10_countMarks_19 : decode cX10_countMarks 19 = .ok (.iload_n 3, 1) := by decide +kernel
theorem dX10_countMarks_20 : decode cX10_countMarks 20 = .ok (.iadd, 1) := by decide +kernel
theorem dX10_countMarks_21 : decode cX10_countMarks 21 = .ok (.iaload, 1) := by decide +kernel
theorem dX10_countMarks_22 : decode cX10_countMarks 22 = .ok (.invokestatic 66, 3) := by decide +kernel
theorem dX10_countMarks_25 : decode cX10_countMarks 25 = .ok (.iadd, 1) := by decide +kernel
theorem dX10_countMarks_26 : decode cX10_countMarks 26 = .ok (.istore_n 2, 1) := by decide +kernel
theorem dX10_countMarks_27 : decode cX10_countMarks 27 = .ok (.iinc 3 1, 3) := by decide +kernel
theorem dX10_countMarks_30 : decode cX10_countMarks 30 = .ok (.goto (-26), 3) := by decide +kernel
theorem dX10_countMarks_33 : decode cX10_countMarks 33 = .ok (.iload_n 2, 1) := by decide +kernel
theorem dX10_countMarks_34 : decode cX10_countMarks 34 = .ok (.ireturn, 1) := by decide +kernel
set_option maxRecDepth 20000 in
theorem ggX10_unmark_X10_isKind : GoodIn wsX10_unmark wsX10_isKind := goodIn_r _ [5, 6, 7, 4, 8] (by decide +kernel) (by decide +kernel)
set_option maxRecDepth 20000 in
theorem gX10_unmark_X10_isKind : GoodIn wsX10_unmark (va_wsS RX10 63 yX10_isKind wsX10_isKind) := goodIn_app (goodIn_of _ (by decide +kernel)) ggX10_unmark_X10_isKind
set_option maxRecDepth 20000 in
theorem ggX10_unmark_X10_countMarks : GoodIn wsX10_unmark wsX10_countMarks := goodIn_r _ [12, 1, 13, 14, 4, 15, 21, 22, 23, 24, 25, 26, 27, 28, 29, 30, 31, 32, 33] (by decide +kernel) (by decide +kernel)
set_option maxRecDepth 20000 in
theorem gX10_unmark_X10_countMarks : GoodIn wsX10_unmark (wsV RX10 70 RX10 yX10_countMarks wsX10_countMarks) := goodIn_app (goodIn_of _ (by decide +kernel)) ggX10_unmark_X10_countMarks
set_option maxRecDepth 20000 in
theorem ggX10_unmark_X10_in : GoodIn wsX10_unmark wsX10_in := goodIn_r _ [8] (by decide +kernel) (by decide +kernel)
set_option maxRecDepth 20000 in
theorem gX10_unmark_X10_in : GoodIn wsX10_unmark (va_wsS RX10 45 yX10_in wsX10_in) := goodIn_app (goodIn_of _ (by decide +kernel)) ggX10_unmark_X10_in
set_option maxRecDepth 20000 in
theorem ggX10_unmark_X10_goesWell : GoodIn wsX10_unmark wsX10_goesWell := goodIn_r _ [19, 20, 21, 22, 23, 24, 25, 26, 27, 28, 29, 30, 31, 32, 33] (by decide +kernel) (by decide +kernel)
set_option maxRecDepth 20000 in
theorem gX10_unmark_X10_goesWell : GoodIn wsX10_unmark (wsV RX10 55 RX10 yX10_goesWell wsX10_goesWell) := goodIn_app (goodIn_of _ (by decide +kernel)) ggX10_unmark_X10_goesWell
theorem dX10_unmark_0 : decode cX10_unmark 0 = .ok (.iload_n 1, 1) := by decide +kernel
theorem dX10_unmark_1 : decode cX10_unmark 1 = .ok (.invokestatic 63, 3) := by decide +kernel
theorem dX10_unmark_4 : decode cX10_unmark 4 = .ok (.ifCond .eq 22, 3) := by decide +kernel
theorem dX10_unmark_7 : decode cX10_unmark 7 = .ok (.iload_n 2, 1) := by decide +kernel
theorem dX10_unmark_8 : decode cX10_unmark 8 = .ok (.iconst 0, 1) := by decide +kernel
theorem dX10_unmark_9 : decode cX10_unmark 9 = .ok (.aload_n 0, 1) := by decide +kernel
theorem dX10_unmark_10 : decode cX10_unmark 10 = .ok (.iload_n 1, 1) := by decide +kernel
theorem dX10_unmark_11 : decode cX10_unmark 11 = .ok (.invokevirtual 70, 3) := by decide +kernel
theorem dX10_unmark_14 : decode cX10_unmark 14 = .ok (.iconst 1, 1) := by decide +kernel
theorem dX10_unmark_15 : decode cX10_unmark 15 = .ok (.isub, 1) := by decide +kernel
theorem dX10_unmark_16 : decode cX10_unmark 16 = .ok (.invokestatic 45, 3) := by decide +kernel
theorem dX10_unmark_19 : decode cX10_unmark 19 = .ok (.ifCond .eq 7, 3) := by decide +kernel
theorem dX10_unmark_22 : decode cX10_unmark 22 = .ok (.iconst 1, 1) := by decide +kernel
theorem dX10_unmark_23 : decode cX10_unmark 23 = .ok (.goto 4, 3) := by decide +kernel
theorem dX10_unmark_26 : decode cX10_unmark 26 = .ok (.iconst 0, 1) := by decide +kernel
theorem dX10_unmark_27 : decode cX10_unmark 27 = .ok (.istore_n 3, 1) := by decide +kernel
theorem dX10_unmark_28 : decode cX10_unmark 28 = .ok (.aload_n 0, 1) := by decide +kernel
theorem dX10_unmark_29 : decode cX10_unmark 29 = .ok (.iload_n 3, 1) := by decide +kernel
theorem dX10_unmark_30 : decode cX10_unmark 30 = .ok (.ifCond .eq 7, 3) := by decide +kernel
theorem dX10_unmark_33 : decode cX10_unmark 33 = .ok (.iconst 0, 1) := by decide +kernel
theorem dX10_unmark_34 : decode cX10_unmark 34 = .ok (.goto 4, 3) := by decide +kernel
theorem dX10_unmark_37 : decode cX10_unmark 37 = .ok (.iconst 1, 1) := by decide +kernel
theorem dX10_unmark_38 : decode cX10_unmark 38 = .ok (.invokevirtual 55, 3) := by decide +kernel
theorem dX10_unmark_41 : decode cX10_unmark 41 = .ok (.ifCond .ne 5, 3) := by decide +kernel
theorem dX10_unmark_44 : decode cX10_unmark 44 = .ok (.iconst 0, 1) := by decide +kernel
theorem dX10_unmark_45 : decode cX10_unmark 45 = .ok (.ireturn, 1) := by decide +kernel
theorem dX10_unmark_46 : decode cX10_unmark 46 = .ok (.iload_n 2, 1) := by decide +kernel
theorem dX10_unmark_47 : decode cX10_unmark 47 = .ok (.istore 4, 2) := by decide +kernel
theorem dX10_unmark_49 : decode cX10_unmark 49 = .ok (.iconst 0, 1) := by decide +kernel
theorem dX10_unmark_50 : decode cX10_unmark 50 = .ok (.istore 5, 2) := by decide +kernel
theorem dX10_unmark_52 : decode cX10_unmark 52 = .ok (.iload 5, 2) := by decide +kernel
theorem dX10_unmark_54 : decode cX10_unmark 54 = .ok (.sipush 625, 3) := by decide +kernel
theorem dX10_unmark_57 : decode cX10_unmark 57 = .ok (.if_icmp .ge 85, 3) := by decide +kernel
theorem dX10_unmark_60 : decode cX10_unmark 60 = .ok (.iload 4, 2) := by decide +kernel
theorem dX10_unmark_62 : decode cX10_unmark 62 = .ok (.ifCond .lt 80, 3) := by decide +kernel
theorem dX10_unmark_65 : decode cX10_unmark 65 = .ok (.bipush 25, 2) := by decide +kernel
theorem dX10_unmark_67 : decode cX10_unmark 67 = .ok (.iload_n 1, 1) := by decide +kernel
theorem dX10_unmark_68 : decode cX10_unmark 68 = .ok (.imul, 1) := by decide +kernel
theorem dX10_unmark_69 : decode cX10_unmark 69 = .ok (.iload 5, 2) := by decide +kernel
theorem dX10_unmark_71 : decode cX10_unmark 71 = .ok (.bipush 25, 2) := by decide +kernel
theorem dX10_unmark_73 : decode cX10_unmark 73 = .ok (.idiv, 1) := by decide +kernel
theorem dX10_unmark_74 : decode cX10_unmark 74 = .ok (.iadd, 1) := by decide +kernel
theorem dX10_unmark_75 : decode cX10_unmark 75 = .ok (.istore 6, 2) := by decide +kernel
theorem dX10_unmark_77 : decode cX10_unmark 77 = .ok (.iconst 1, 1) := by decide +kernel
theorem dX10_unmark_78 : decode cX10_unmark 78 = .ok (.iload 5, 2) := by decide +kernel
theorem dX10_unmark_80 : decode cX10_unmark 80 = .ok (.bipush 25, 2) := by decide +kernel
theorem dX10_unmark_82 : decode cX10_unmark 82 = .ok (.irem, 1) := by decide +kernel
theorem dX10_unmark_83 : decode cX10_unmark 83 = .ok (.ishl, 1) := by decide +kernel
theorem dX10_unmark_84 : decode cX10_unmark 84 = .ok (.istore 7, 2) := by decide +kernel
theorem dX10_unmark_86 : decode cX10_unmark 86 = .ok (.aload_n 0, 1) := by decide +kernel
theorem dX10_unmark_87 : decode cX10_unmark 87 = .ok (.getfield 13, 3) := by decide +kernel
theorem dX10_unmark_90 : decode cX10_unmark 90 = .ok (.iload 6, 2) := by decide +kernel
theorem dX10_unmark_92 : decode cX10_unmark 92 = .ok (.iaload, 1) := by decide +kernel
theorem dX10_unmark_93 : decode cX10_unmark 93 = .ok (.iload 7, 2) := by decide +kernel
theorem dX10_unmark_95 : decode cX10_unmark 95 = .ok (.iand, 1) := by decide +kernel
theorem dX10_unmark_96 : decode cX10_unmark 96 = .ok (.ifCond .eq 40, 3) := by decide +kernel
theorem dX10_unmark_99 : decode cX10_unmark 99 = .ok (.aload_n 0, 1) := by decide +kernel
theorem dX10_unmark_100 : decode cX10_unmark 100 = .ok (.getfield 13, 3) := by decide +kernel
theorem dX10_unmark_103 : decode cX10_unmark 103 = .ok (.iload 6, 2) := by decide +kernel
theorem dX10_unmark_105 : decode cX10_unmark 105 = .ok (.iload 4, 2) := by decide +kernel
theorem dX10_unmark_107 : decode cX10_unmark 107 = .ok (.ifCond .ne 18, 3) := by decide +kernel
theorem dX10_unmark_110 : decode cX10_unmark 110 = .ok (.aload_n 0, 1) := by decide +kernel
theorem dX10_unmark_111 : decode cX10_unmark 111 = .ok (.getfield 13, 3) := by decide +kernel
theorem dX10_unmark_114 : decode cX10_unmark 114 = .ok (.iload 6, 2) := by decide +kernel
theorem dX10_unmark_116 : decode cX10_unmark 116 = .ok (.iaload, 1) := by decide +kernel
theorem dX10_unmark_117 : decode cX10_unmark 117 = .ok (.iload 7, 2) := by decide +kernel
theorem dX10_unmark_119 : decode cX10_unmark 119 = .ok (.iconst (-1), 1) := by decide +kernel
theorem dX10_unmark_120 : decode cX10_unmark 120 = .ok (.ixor, 1) := by decide +kernel
theorem dX10_unmark_121 : decode cX10_unmark 121 = .ok (.iand, 1) := by decide +kernel
theorem dX10_unmark_122 : decode cX10_unmark 122 = .ok (.goto 10, 3) := by decide +kernel
theorem dX10_unmark_125 : decode cX10_unmark 125 = .ok (.aload_n 0, 1) := by decide +kernel
theorem dX10_unmark_126 : decode cX10_unmark 126 = .ok (.getfield 13, 3) := by decide +kernel
theorem dX10_unmark_129 : decode cX10_unmark 129 = .ok (.iload 6, 2) := by decide +kernel
theorem dX10_unmark_131 : decode cX10_unmark 131 = .ok (.iaload, 1) := by decide +kernel
theorem dX10_unmark_132 : decode cX10_unmark 132 = .ok (.iastore, 1) := by decide +kernel
theorem dX10_unmark_133 : decode cX10_unmark 133 = .ok (.iinc 4 (-1), 3) := by decide +kernel
theorem dX10_unmark_136 : decode cX10_unmark 136 = .ok (.iinc 5 1, 3) := by decide +kernel
theorem dX10_unmark_139 : decode cX10_unmark 139 = .ok (.goto (-87), 3) := by decide +kernel
theorem dX10_unmark_142 : decode cX10_unmark 142 = .ok (.aload_n 0, 1) := by decide +kernel
theorem dX10_unmark_143 : decode cX10_unmark 143 = .ok (.iload_n 1, 1) := by decide +kernel
theorem dX10_unmark_144 : decode cX10_unmark 144 = .ok (.invokevirtual 70, 3) := by decide +kernel
theorem dX10_unmark_147 : decode cX10_unmark 147 = .ok (.ireturn, 1) := by decide +kernel
theorem dX10_make_0 : decode cX10_make 0 = .ok (.aload_n 0, 1) := by decide +kernel
theorem dX10_make_1 : decode cX10_make 1 = .ok (.getfield 16, 3) := by decide +kernel
theorem dX10_make_4 : decode cX10_make 4 = .ok (.aload_n 0, 1) := by decide +kernel
theorem dX10_make_5 : decode cX10_make 5 = .ok (.getfield 49, 3) := by decide +kernel
theorem dX10_make_8 : decode cX10_make 8 = .ok (.iload_n 1, 1) := by decide +kernel
theorem dX10_make_9 : decode cX10_make 9 = .ok (.iastore, 1) := by decide +kernel
theorem dX10_make_10 : decode cX10_make 10 = .ok (.aload_n 0, 1) := by decide +kernel
theorem dX10_make_11 : decode cX10_make 11 = .ok (.getfield 19, 3) := by decide +kernel
theorem dX10_make_14 : decode cX10_make 14 = .ok (.aload_n 0, 1) := by decide +kernel
theorem dX10_make_15 : decode cX10_make 15 = .ok (.getfield 49, 3) := by decide +kernel
theorem dX10_make_18 : decode cX10_make 18 = .ok (.iload_n 2, 1) := by decide +kernel
theorem dX10_make_19 : decode cX10_make 19 = .ok (.iastore, 1) := by decide +kernel
theorem dX10_make_20 : decode cX10_make 20 = .ok (.aload_n 0, 1) := by decide +kernel
theorem dX10_make_21 : decode cX10_make 21 = .ok (.getfield 22, 3) := by decide +kernel
theorem dX10_make_24 : decode cX10_make 24 = .ok (.aload_n 0, 1) := by decide +kernel
theorem dX10_make_25 : decode cX10_make 25 = .ok (.getfield 49, 3) := by decide +kernel
theorem dX10_make_28 : decode cX10_make 28 = .ok (.iload_n 3, 1) := by decide +kernel
theorem dX10_make_29 : decode cX10_make 29 = .ok (.iastore, 1) := by decide +kernel
theorem dX10_make_30 : decode cX10_make 30 = .ok (.aload_n 0, 1) := by decide +kernel
theorem dX10_make_31 : decode cX10_make 31 = .ok (.getfield 25, 3) := by decide +kernel
theorem dX10_make_34 : decode cX10_make 34 = .ok (.aload_n 0, 1) := by decide +kernel
theorem dX10_make_35 : decode cX10_make 35 = .ok (.getfield 49, 3) := by decide +kernel
theorem dX10_make_38 : decode cX10_make 38 = .ok (.iload 4, 2) := by decide +kernel
theorem dX10_make_40 : decode cX10_make 40 = .ok (.iastore, 1) := by decide +kernel
theorem dX10_make_41 : decode cX10_make 41 = .ok (.aload_n 0, 1) := by decide +kernel
theorem dX10_make_42 : decode cX10_make 42 = .ok (.getfield 28, 3) := by decide +kernel
theorem dX10_make_45 : decode cX10_make 45 = .ok (.aload_n 0, 1) := by decide +kernel
theorem dX10_make_46 : decode cX10_make 46 = .ok (.getfield 49, 3) := by decide +kernel
theorem dX10_make_49 : decode cX10_make 49 = .ok (.iload 5, 2) := by decide +kernel
theorem dX10_make_51 : decode cX10_make 51 = .ok (.iastore, 1) := by decide +kernel
theorem dX10_make_52 : decode cX10_make 52 = .ok (.aload_n 0, 1) := by decide +kernel
theorem dX10_make_53 : decode cX10_make 53 = .ok (.dup, 1) := by decide +kernel
theorem dX10_make_54 : decode cX10_make 54 = .ok (.getfield 49, 3) := by decide +kernel
theorem dX10_make_57 : decode cX10_make 57 = .ok (.iconst 1, 1) := by decide +kernel
theorem dX10_make_58 : decode cX10_make 58 = .ok (.iadd, 1) := by decide +kernel
theorem dX10_make_59 : decode cX10_make 59 = .ok (.putfield 49, 3) := by decide +kernel
theorem dX10_make_62 : decode cX10_make 62 = .ok (.aload_n 0, 1) := by decide +kernel
theorem dX10_make_63 : decode cX10_make 63 = .ok (.getfield 49, 3) := by decide +kernel
theorem dX10_make_66 : decode cX10_make 66 = .ok (.iconst 1, 1) := by decide +kernel
theorem dX10_make_67 : decode cX10_make 67 = .ok (.isub, 1) := by decide +kernel
theorem dX10_make_68 : decode cX10_make 68 = .ok (.ireturn, 1) := by decide +kernel
set_option maxRecDepth 20000 in
theorem ggX10_letter_X10_in : GoodIn wsX10_letter wsX10_in := goodIn_r _ [5] (by decide +kernel) (by decide +kernel)
set_option maxRecDepth 20000 in
theorem gX10_letter_X10_in : GoodIn wsX10_letter (va_wsS RX10 45 yX10_in wsX10_in) := goodIn_app (goodIn_of _ (by decide +kernel)) ggX10_letter_X10_in
set_option maxRecDepth 20000 in
theorem ggX10_letter_X10_goesWell : GoodIn wsX10_letter wsX10_goesWell := goodIn_r _ [9, 10, 20, 21, 22, 23, 24, 25, 26, 27, 28, 29, 30, 31, 32] (by decide +kernel) (by decide +kernel)
set_option maxRecDepth 20000 in
theorem gX10_letter_X10_goesWell : GoodIn wsX10_letter (wsV RX10 55 RX10 yX10_goesWell wsX10_goesWell) := goodIn_app (goodIn_of _ (by decide +kernel)) ggX10_letter_X10_goesWell
set_option maxRecDepth 20000 in
theorem ggX10_letter_X10_make : GoodIn wsX10_letter wsX10_make := goodIn_r _ [14, 15, 1, 16, 17, 18, 19, 20, 21, 22, 23, 24, 25, 26, 27, 28, 29, 30, 31, 32] (by decide +kernel) (by decide +kernel)
set_option maxRecDepth 20000 in
theorem gX10_letter_X10_make : GoodIn wsX10_letter (wsV RX10 73 RX10 yX10_make wsX10_make) := goodIn_app (goodIn_of _ (by decide +kernel)) ggX10_letter_X10_make
theorem dX10_letter_0 : decode cX10_letter 0 = .ok (.aload_n 0, 1) := by decide +kernel
theorem dX10_letter_1 : decode cX10_letter 1 = .ok (.iload_n 1, 1) := by decide +kernel
theorem dX10_letter_2 : decode cX10_letter 2 = .ok (.iconst 0, 1) := by decide +kernel
theorem dX10_letter_3 : decode cX10_letter 3 = .ok (.iconst 5, 1) := by decide +kernel
theorem dX10_letter_4 : decode cX10_letter 4 = .ok (.invokestatic 45, 3) := by decide +kernel
theorem dX10_letter_7 : decode cX10_letter 7 = .ok (.ifCond .ne 7, 3) := by decide +kernel
theorem dX10_letter_10 : decode cX10_letter 10 = .ok (.iconst 1, 1) := by decide +kernel
theorem dX10_letter_11 : decode cX10_letter 11 = .ok (.goto 17, 3) := by decide +kernel
theorem dX10_letter_14 : decode cX10_letter 14 = .ok (.aload_n 0, 1) := by decide +kernel
theorem dX10_letter_15 : decode cX10_letter 15 = .ok (.getfield 49, 3) := by decide +kernel
theorem dX10_letter_18 : decode cX10_letter 18 = .ok (.bipush 30, 2) := by decide +kernel
theorem dX10_letter_20 : decode cX10_letter 20 = .ok (.if_icmp .ne 7, 3) := by decide +kernel
theorem dX10_letter_23 : decode cX10_letter 23 = .ok (.iconst 2, 1) := by decide +kernel
theorem dX10_letter_24 : decode cX10_letter 24 = .ok (.goto 4, 3) := by decide +kernel
theorem dX10_letter_27 : decode cX10_letter 27 = .ok (.iconst 0, 1) := by decide +kernel
theorem dX10_letter_28 : decode cX10_letter 28 = .ok (.invokevirtual 55, 3) := by decide +kernel
theorem dX10_letter_31 : decode cX10_letter 31 = .ok (.ifCond .eq 16, 3) := by decide +kernel
theorem dX10_letter_34 : decode cX10_letter 34 = .ok (.aload_n 0, 1) := by decide +kernel
theorem dX10_letter_35 : decode cX10_letter 35 = .ok (.bipush 11, 2) := by decide +kernel
theorem dX10_letter_37 : decode cX10_letter 37 = .ok (.iload_n 1, 1) := by decide +kernel
theorem dX10_letter_38 : decode cX10_letter 38 = .ok (.iconst 0, 1) := by decide +kernel
theorem dX10_letter_39 : decode cX10_letter 39 = .ok (.iconst 0, 1) := by decide +kernel
theorem dX10_letter_40 : decode cX10_letter 40 = .ok (.iconst 1, 1) := by decide +kernel
theorem dX10_letter_41 : decode cX10_letter 41 = .ok (.invokevirtual 73, 3) := by decide +kernel
theorem dX10_letter_44 : decode cX10_letter 44 = .ok (.goto 4, 3) := by decide +kernel
theorem dX10_letter_47 : decode cX10_letter 47 = .ok (.iconst 0, 1) := by decide +kernel
theorem dX10_letter_48 : decode cX10_letter 48 = .ok (.ireturn, 1) := by decide +kernel
set_option maxRecDepth 20000 in
theorem ggX10_marked_X10_isKind : GoodIn wsX10_marked wsX10_isKind := goodIn_r _ [5, 6, 7, 4, 8] (by decide +kernel) (by decide +kernel)
set_option maxRecDepth 20000 in
theorem gX10_marked_X10_isKind : GoodIn wsX10_marked (va_wsS RX10 63 yX10_isKind wsX10_isKind) := goodIn_app (goodIn_of _ (by decide +kernel)) ggX10_marked_X10_isKind
set_option maxRecDepth 20000 in
theorem ggX10_marked_X10_goesWell : GoodIn wsX10_marked wsX10_goesWell := goodIn_r _ [12, 13, 23, 24, 25, 26, 27, 28, 29, 30, 31, 32, 33, 34, 35] (by decide +kernel) (by decide +kernel)
set_option maxRecDepth 20000 in
theorem gX10_marked_X10_goesWell : GoodIn wsX10_marked (wsV RX10 55 RX10 yX10_goesWell wsX10_goesWell) := goodIn_app (goodIn_of _ (by decide +kernel)) ggX10_marked_X10_goesWell
set_option maxRecDepth 20000 in
theorem ggX10_marked_X10_make : GoodIn wsX10_marked wsX10_make := goodIn_r _ [17, 18, 1, 19, 20, 21, 22, 23, 24, 25, 26, 27, 28, 29, 30, 31, 32, 33, 34, 35] (by decide +kernel) (by decide +kernel)
set_option maxRecDepth 20000 in
theorem gX10_marked_X10_make : GoodIn wsX10_marked (wsV RX10 73 RX10 yX10_make wsX10_make) := goodIn_app (goodIn_of _ (by decide +kernel)) ggX10_marked_X10_make
theorem dX10_marked_0 : decode cX10_marked 0 = .ok (.aload_n 0, 1) := by decide +kernel
theorem dX10_marked_1 : decode cX10_marked 1 = .ok (.iload_n 1, 1) := by decide +kernel
theorem dX10_marked_2 : decode cX10_marked 2 = .ok (.invokestatic 63, 3) := by decide +kernel
theorem dX10_marked_5 : decode cX10_marked 5 = .ok (.ifCond .ne 7, 3) := by decide +kernel
theorem dX10_marked_8 : decode cX10_marked 8 = .ok (.iconst 1, 1) := by decide +kernel
theorem dX10_marked_9 : decode cX10_marked 9 = .ok (.goto 17, 3) := by decide +kernel
theorem dX10_marked_12 : decode cX10_marked 12 = .ok (.aload_n 0, 1) := by decide +kernel
theorem dX10_marked_13 : decode cX10_marked 13 = .ok (.getfield 49, 3) := by decide +kernel
theorem dX10_marked_16 : decode cX10_marked 16 = .ok (.bipush 30, 2) := by decide +kernel
theorem dX10_marked_18 : decode cX10_marked 18 = .ok (.if_icmp .ne 7, 3) := by decide +kernel
theorem dX10_marked_21 : decode cX10_marked 21 = .ok (.iconst 2, 1) := by decide +kernel
theorem dX10_marked_22 : decode cX10_marked 22 = .ok (.goto 4, 3) := by decide +kernel
theorem dX10_marked_25 : decode cX10_marked 25 = .ok (.iconst 0, 1) := by decide +kernel
theorem dX10_marked_26 : decode cX10_marked 26 = .ok (.invokevirtual 55, 3) := by decide +kernel
theorem dX10_marked_29 : decode cX10_marked 29 = .ok (.ifCond .eq 16, 3) := by decide +kernel
theorem dX10_marked_32 : decode cX10_marked 32 = .ok (.aload_n 0, 1) := by decide +kernel
theorem dX10_marked_33 : decode cX10_marked 33 = .ok (.bipush 12, 2) := by decide +kernel
theorem dX10_marked_35 : decode cX10_marked 35 = .ok (.iload_n 1, 1) := by decide +kernel
theorem dX10_marked_36 : decode cX10_marked 36 = .ok (.iconst 0, 1) := by decide +kernel
theorem dX10_marked_37 : decode cX10_marked 37 = .ok (.iconst 0, 1) := by decide +kernel
theorem dX10_marked_38 : decode cX10_marked 38 = .ok (.iconst 1, 1) := by decide +kernel
theorem dX10_marked_39 : decode cX10_marked 39 = .ok (.invokevirtual 73, 3) := by decide +kernel
theorem dX10_marked_42 : decode cX10_marked 42 = .ok (.goto 4, 3) := by decide +kernel
theorem dX10_marked_45 : decode cX10_marked 45 = .ok (.iconst 0, 1) := by decide +kernel
theorem dX10_marked_46 : decode cX10_marked 46 = .ok (.ireturn, 1) := by decide +kernel
theorem dX10_depthOf_0 : decode cX10_depthOf 0 = .ok (.iconst 1, 1) := by decide +kernel
theorem dX10_depthOf_1 : decode cX10_depthOf 1 = .ok (.aload_n 0, 1) := by decide +kernel
theorem dX10_depthOf_2 : decode cX10_depthOf 2 = .ok (.getfield 28, 3) := by decide +kernel
theorem dX10_depthOf_5 : decode cX10_depthOf 5 = .ok (.iload_n 1, 1) := by decide +kernel
theorem dX10_depthOf_6 : decode cX10_depthOf 6 = .ok (.iaload, 1) := by decide +kernel
theorem dX10_depthOf_7 : decode cX10_depthOf 7 = .ok (.aload_n 0, 1) := by decide +kernel
theorem dX10_depthOf_8 : decode cX10_depthOf 8 = .ok (.getfield 28, 3) := by decide +kernel
theorem dX10_depthOf_11 : decode cX10_depthOf 11 = .ok (.iload_n 2, 1) := by decide +kernel
theorem dX10_depthOf_12 : decode cX10_depthOf 12 = .ok (.iaload, 1) := by decide +kernel
theorem dX10_depthOf_13 : decode cX10_depthOf 13 = .ok (.if_icmp .le 12, 3) := by decide +kernel
theorem dX10_depthOf_16 : decode cX10_depthOf 16 = .ok (.aload_n 0, 1) := by decide +kernel
theorem dX10_depthOf_17 : decode cX10_depthOf 17 = .ok (.getfield 28, 3) := by decide +kernel
theorem dX10_depthOf_20 : decode cX10_depthOf 20 = .ok (.iload_n 1, 1) := by decide +kernel
theorem dX10_depthOf_21 : decode cX10_depthOf 21 = .ok (.iaload, 1) := by decide +kernel
theorem dX10_depthOf_22 : decode cX10_depthOf 22 = .ok (.goto 9, 3) := by decide +kernel
theorem dX10_depthOf_25 : decode cX10_depthOf 25 = .ok (.aload_n 0, 1) := by decide +kernel
theorem dX10_depthOf_26 : decode cX10_depthOf 26 = .ok (.getfield 28, 3) := by decide +kernel
theorem dX10_depthOf_29 : decode cX10_depthOf 29 = .ok (.iload_n 2, 1) := by decide +kernel
theorem dX10_depthOf_30 : decode cX10_depthOf 30 = .ok (.iaload, 1) := by decide +kernel
theorem dX10_depthOf_31 : decode cX10_depthOf 31 = .ok (.iadd, 1) := by decide +kernel
theorem dX10_depthOf_32 : decode cX10_depthOf 32 = .ok (.ireturn, 1) := by decide +kernel
set_option maxRecDepth 20000 in
theorem ggX10_reason_X10_isNode : GoodIn wsX10_reason wsX10_isNode := goodIn_r _ [6, 1, 7, 8, 5, 9, 15, 16, 17, 18, 19, 20, 21, 22, 23, 24, 25, 26, 27] (by decide +kernel) (by decide +kernel)
set_option maxRecDepth 20000 in
theorem gX10_reason_X10_isNode : GoodIn wsX10_reason (wsV RX10 77 RX10 yX10_isNode wsX10_isNode) := goodIn_app (goodIn_of _ (by decide +kernel)) ggX10_reason_X10_isNode
set_option maxRecDepth 20000 in
theorem ggX10_reason_X10_depthOf : GoodIn wsX10_reason wsX10_depthOf := goodIn_r _ [13, 14, 15, 16, 17, 18, 19, 20, 21, 22, 23, 24, 25, 26, 27] (by decide +kernel) (by decide +kernel)
set_option maxRecDepth 20000 in
theorem gX10_reason_X10_depthOf : GoodIn wsX10_reason (wsV RX10 80 RX10 yX10_depthOf wsX10_depthOf) := goodIn_app (goodIn_of _ (by decide +kernel)) ggX10_reason_X10_depthOf
theorem dX10_reason_0 : decode cX10_reason 0 = .ok (.aload_n 0, 1) := by decide +kernel
theorem dX10_reason_1 : decode cX10_reason 1 = .ok (.iload_n 1, 1) := by decide +kernel
theorem dX10_reason_2 : decode cX10_reason 2 = .ok (.invokevirtual 77, 3) := by decide +kernel
theorem dX10_reason_5 : decode cX10_reason 5 = .ok (.ifCond .eq 15, 3) := by decide +kernel
theorem dX10_reason_8 : decode cX10_reason 8 = .ok (.aload_n 0, 1) := by decide +kernel
theorem dX10_reason_9 : decode cX10_reason 9 = .ok (.iload_n 2, 1) := by decide +kernel
theorem dX10_reason_10 : decode cX10_reason 10 = .ok (.invokevirtual 77, 3) := by decide +kernel
theorem dX10_reason_13 : decode cX10_reason 13 = .ok (.ifCond .eq 7, 3) := by decide +kernel
theorem dX10_reason_16 : decode cX10_reason 16 = .ok (.iconst 1, 1) := by decide +kernel
theorem dX10_reason_17 : decode cX10_reason 17 = .ok (.goto 4, 3) := by decide +kernel
theorem dX10_reason_20 : decode cX10_reason 20 = .ok (.iconst 0, 1) := by decide +kernel
theorem dX10_reason_21 : decode cX10_reason 21 = .ok (.istore 4, 2) := by decide +kernel
theorem dX10_reason_23 : decode cX10_reason 23 = .ok (.iload 4, 2) := by decide +kernel
theorem dX10_reason_25 : decode cX10_reason 25 = .ok (.ifCond .ne 7, 3) := by decide +kernel
theorem dX10_reason_28 : decode cX10_reason 28 = .ok (.iconst 1, 1) := by decide +kernel
theorem dX10_reason_29 : decode cX10_reason 29 = .ok (.goto 36, 3) := by decide +kernel
theorem dX10_reason_32 : decode cX10_reason 32 = .ok (.iload_n 3, 1) := by decide +kernel
theorem dX10_reason_33 : decode cX10_reason 33 = .ok (.ifCond .ne 7, 3) := by decide +kernel
theorem dX10_reason_36 : decode cX10_reason 36 = .ok (.iconst 2, 1) := by decide +kernel
theorem dX10_reason_37 : decode cX10_reason 37 = .ok (.goto 28, 3) := by decide +kernel
theorem dX10_reason_40 : decode cX10_reason 40 = .ok (.aload_n 0, 1) := by decide +kernel
theorem dX10_reason_41 : decode cX10_reason 41 = .ok (.getfield 49, 3) := by decide +kernel
theorem dX10_reason_44 : decode cX10_reason 44 = .ok (.bipush 30, 2) := by decide +kernel
theorem dX10_reason_46 : decode cX10_reason 46 = .ok (.if_icmp .eq 14, 3) := by decide +kernel
theorem dX10_reason_49 : decode cX10_reason 49 = .ok (.aload_n 0, 1) := by decide +kernel
theorem dX10_reason_50 : decode cX10_reason 50 = .ok (.iload_n 1, 1) := by decide +kernel
theorem dX10_reason_51 : decode cX10_reason 51 = .ok (.iload_n 2, 1) := by decide +kernel
theorem dX10_reason_52 : decode cX10_reason 52 = .ok (.invokevirtual 80, 3) := by decide +kernel
theorem dX10_reason_55 : decode cX10_reason 55 = .ok (.bipush 6, 2) := by decide +kernel
theorem dX10_reason_57 : decode cX10_reason 57 = .ok (.if_icmp .le 7, 3) := by decide +kernel
theorem dX10_reason_60 : decode cX10_reason 60 = .ok (.iconst 3, 1) := by decide +kernel
theorem dX10_reason_61 : decode cX10_reason 61 = .ok (.goto 4, 3) := by decide +kernel
theorem dX10_reason_64 : decode cX10_reason 64 = .ok (.iconst 0, 1) := by decide +kernel
theorem dX10_reason_65 : decode cX10_reason 65 = .ok (.ireturn, 1) := by decide +kernel
set_option maxRecDepth 20000 in
theorem ggX10_pair_X10_in : GoodIn wsX10_pair wsX10_in := goodIn_r _ [4] (by decide +kernel) (by decide +kernel)
set_option maxRecDepth 20000 in
theorem gX10_pair_X10_in : GoodIn wsX10_pair (va_wsS RX10 45 yX10_in wsX10_in) := goodIn_app (goodIn_of _ (by decide +kernel)) ggX10_pair_X10_in
set_option maxRecDepth 20000 in
theorem ggX10_pair_X10_reason : GoodIn wsX10_pair wsX10_reason := goodIn_r _ [8, 9, 10, 11, 12, 3, 13, 1, 2, 4, 14, 15, 16, 17, 18, 32, 33, 34, 35, 36, 37, 38, 39, 40, 41, 42, 43, 44] (by decide +kernel) (by decide +kernel)
set_option maxRecDepth 20000 in
theorem gX10_pair_X10_reason : GoodIn wsX10_pair (wsV RX10 84 RX10 yX10_reason wsX10_reason) := goodIn_app (goodIn_of _ (by decide +kernel)) ggX10_pair_X10_reason
set_option maxRecDepth 20000 in
theorem ggX10_pair_X10_goesWell : GoodIn wsX10_pair wsX10_goesWell := goodIn_r _ [22, 23, 32, 33, 34, 35, 36, 37, 38, 39, 40, 41, 42, 43, 44] (by decide +kernel) (by decide +kernel)
set_option maxRecDepth 20000 in
theorem gX10_pair_X10_goesWell : GoodIn wsX10_pair (wsV RX10 55 RX10 yX10_goesWell wsX10_goesWell) := goodIn_app (goodIn_of _ (by decide +kernel)) ggX10_pair_X10_goesWell
set_option maxRecDepth 20000 in
theorem ggX10_pair_X10_depthOf : GoodIn wsX10_pair wsX10_depthOf := goodIn_r _ [17, 18, 32, 33, 34, 35, 36, 37, 38, 39, 40, 41, 42, 43, 44] (by decide +kernel) (by decide +kernel)
set_option maxRecDepth 20000 in
theorem gX10_pair_X10_depthOf : GoodIn wsX10_pair (wsV RX10 80 RX10 yX10_depthOf wsX10_depthOf) := goodIn_app (goodIn_of _ (by decide +kernel)) ggX10_pair_X10_depthOf
set_option maxRecDepth 20000 in
theorem ggX10_pair_X10_make : GoodIn wsX10_pair wsX10_make := goodIn_r _ [27, 28, 9, 29, 30, 31, 18, 32, 33, 34, 35, 36, 37, 38, 39, 40, 41, 42, 43, 44] (by decide +kernel) (by decide +kernel)
set_option maxRecDepth 20000 in
theorem gX10_pair_X10_make : GoodIn wsX10_pair (wsV RX10 73 RX10 yX10_make wsX10_make) := goodIn_app (goodIn_of _ (by decide +kernel)) ggX10_pair_X10_make
theorem dX10_pair_0 : decode cX10_pair 0 = .ok (.aload_n 0, 1) := by decide +kernel
theorem dX10_pair_1 : decode cX10_pair 1 = .ok (.aload_n 0, 1) := by decide +kernel
theorem dX10_pair_2 : decode cX10_pair 2 = .ok (.iload_n 2, 1) := by decide +kernel
theorem dX10_pair_3 : decode cX10_pair 3 = .ok (.iload_n 3, 1) := by decide +kernel
theorem dX10_pair_4 : decode cX10_pair 4 = .ok (.iload_n 1, 1) := by decide +kernel
theorem dX10_pair_5 : decode cX10_pair 5 = .ok (.iconst 0, 1) := by decide +kernel
theorem dX10_pair_6 : decode cX10_pair 6 = .ok (.bipush 9, 2) := by decide +kernel
theorem dX10_pair_8 : decode cX10_pair 8 = .ok (.invokestatic 45, 3) := by decide +kernel
theorem dX10_pair_11 : decode cX10_pair 11 = .ok (.invokevirtual 84, 3) := by decide +kernel
theorem dX10_pair_14 : decode cX10_pair 14 = .ok (.invokevirtual 55, 3) := by decide +kernel
theorem dX10_pair_17 : decode cX10_pair 17 = .ok (.ifCond .eq 20, 3) := by decide +kernel
theorem dX10_pair_20 : decode cX10_pair 20 = .ok (.aload_n 0, 1) := by decide +kernel
theorem dX10_pair_21 : decode cX10_pair 21 = .ok (.iload_n 1, 1) := by decide +kernel
theorem dX10_pair_22 : decode cX10_pair 22 = .ok (.iload_n 2, 1) := by decide +kernel
theorem dX10_pair_23 : decode cX10_pair 23 = .ok (.iload_n 3, 1) := by decide +kernel
theorem dX10_pair_24 : decode cX10_pair 24 = .ok (.iconst 0, 1) := by decide +kernel
theorem dX10_pair_25 : decode cX10_pair 25 = .ok (.aload_n 0, 1) := by decide +kernel
theorem dX10_pair_26 : decode cX10_pair 26 = .ok (.iload_n 2, 1) := by decide +kernel
theorem dX10_pair_27 : decode cX10_pair 27 = .ok (.iload_n 3, 1) := by decide +kernel
theorem dX10_pair_28 : decode cX10_pair 28 = .ok (.invokevirtual 80, 3) := by decide +kernel
theorem dX10_pair_31 : decode cX10_pair 31 = .ok (.invokevirtual 73, 3) := by decide +kernel
theorem dX10_pair_34 : decode cX10_pair 34 = .ok (.goto 4, 3) := by decide +kernel
theorem dX10_pair_37 : decode cX10_pair 37 = .ok (.iconst 0, 1) := by decide +kernel
theorem dX10_pair_38 : decode cX10_pair 38 = .ok (.ireturn, 1) := by decide +kernel
set_option maxRecDepth 20000 in
theorem ggX10_near_X10_in : GoodIn wsX10_near wsX10_in := goodIn_r _ [4] (by decide +kernel) (by decide +kernel)
set_option maxRecDepth 20000 in
theorem gX10_near_X10_in : GoodIn wsX10_near (va_wsS RX10 45 yX10_in wsX10_in) := goodIn_app (goodIn_of _ (by decide +kernel)) ggX10_near_X10_in
set_option maxRecDepth 20000 in
theorem ggX10_near_X10_reason : GoodIn wsX10_near wsX10_reason := goodIn_r _ [8, 9, 10, 11, 12, 3, 13, 1, 2, 4, 14, 15, 16, 17, 18, 32, 33, 34, 35, 36, 37, 38, 39, 40, 41, 42, 43, 44] (by decide +kernel) (by decide +kernel)
set_option maxRecDepth 20000 in
theorem gX10_near_X10_reason : GoodIn wsX10_near (wsV RX10 84 RX10 yX10_reason wsX10_reason) := goodIn_app (goodIn_of _ (by decide +kernel)) ggX10_near_X10_reason
set_option maxRecDepth 20000 in
theorem ggX10_near_X10_goesWell : GoodIn wsX10_near wsX10_goesWell := goodIn_r _ [22, 23, 32, 33, 34, 35, 36, 37, 38, 39, 40, 41, 42, 43, 44] (by decide +kernel) (by decide +kernel)
set_option maxRecDepth 20000 in
theorem gX10_near_X10_goesWell : GoodIn wsX10_near (wsV RX10 55 RX10 yX10_goesWell wsX10_goesWell) := goodIn_app (goodIn_of _ (by decide +kernel)) ggX10_near_X10_goesWell
set_option maxRecDepth 20000 in
theorem ggX10_near_X10_depthOf : GoodIn wsX10_near wsX10_depthOf := goodIn_r _ [17, 18, 32, 33, 34, 35, 36, 37, 38, 39, 40, 41, 42, 43, 44] (by decide +kernel) (by decide +kernel)
set_option maxRecDepth 20000 in
theorem gX10_near_X10_depthOf : GoodIn wsX10_near (wsV RX10 80 RX10 yX10_depthOf wsX10_depthOf) := goodIn_app (goodIn_of _ (by decide +kernel)) ggX10_near_X10_depthOf
set_option maxRecDepth 20000 in
theorem ggX10_near_X10_make : GoodIn wsX10_near wsX10_make := goodIn_r _ [27, 28, 9, 29, 30, 31, 18, 32, 33, 34, 35, 36, 37, 38, 39, 40, 41, 42, 43, 44] (by decide +kernel) (by decide +kernel)
set_option maxRecDepth 20000 in
theorem gX10_near_X10_make : GoodIn wsX10_near (wsV RX10 73 RX10 yX10_make wsX10_make) := goodIn_app (goodIn_of _ (by decide +kernel)) ggX10_near_X10_make
theorem dX10_near_0 : decode cX10_near 0 = .ok (.aload_n 0, 1) := by decide +kernel
theorem dX10_near_1 : decode cX10_near 1 = .ok (.aload_n 0, 1) := by decide +kernel
theorem dX10_near_2 : decode cX10_near 2 = .ok (.iload_n 1, 1) := by decide +kernel
theorem dX10_near_3 : decode cX10_near 3 = .ok (.iload_n 2, 1) := by decide +kernel
theorem dX10_near_4 : decode cX10_near 4 = .ok (.iload_n 3, 1) := by decide +kernel
theorem dX10_near_5 : decode cX10_near 5 = .ok (.iconst 0, 1) := by decide +kernel
theorem dX10_near_6 : decode cX10_near 6 = .ok (.bipush 24, 2) := by decide +kernel
theorem dX10_near_8 : decode cX10_near 8 = .ok (.invokestatic 45, 3) := by decide +kernel
theorem dX10_near_11 : decode cX10_near 11 = .ok (.invokevirtual 84, 3) := by decide +kernel
theorem dX10_near_14 : decode cX10_near 14 = .ok (.invokevirtual 55, 3) := by decide +kernel
theorem dX10_near_17 : decode cX10_near 17 = .ok (.ifCond .eq 21, 3) := by decide +kernel
theorem dX10_near_20 : decode cX10_near 20 = .ok (.aload_n 0, 1) := by decide +kernel
theorem dX10_near_21 : decode cX10_near 21 = .ok (.bipush 10, 2) := by decide +kernel
theorem dX10_near_23 : decode cX10_near 23 = .ok (.iload_n 1, 1) := by decide +kernel
theorem dX10_near_24 : decode cX10_near 24 = .ok (.iload_n 2, 1) := by decide +kernel
theorem dX10_near_25 : decode cX10_near 25 = .ok (.iload_n 3, 1) := by decide +kernel
theorem dX10_near_26 : decode cX10_near 26 = .ok (.aload_n 0, 1) := by decide +kernel
theorem dX10_near_27 : decode cX10_near 27 = .ok (.iload_n 1, 1) := by decide +kernel
theorem dX10_near_28 : decode cX10_near 28 = .ok (.iload_n 2, 1) := by decide +kernel
theorem dX10_near_29 : decode cX10_near 29 = .ok (.invokevirtual 80, 3) := by decide +kernel
theorem dX10_near_32 : decode cX10_near 32 = .ok (.invokevirtual 73, 3) := by decide +kernel
theorem dX10_near_35 : decode cX10_near 35 = .ok (.goto 4, 3) := by decide +kernel
theorem dX10_near_38 : decode cX10_near 38 = .ok (.iconst 0, 1) := by decide +kernel
theorem dX10_near_39 : decode cX10_near 39 = .ok (.ireturn, 1) := by decide +kernel
set_option maxRecDepth 20000 in
theorem ggX10_only_X10_isNode : GoodIn wsX10_only wsX10_isNode := goodIn_r _ [7, 1, 8, 9, 6, 10, 24, 25, 26, 27, 28, 29, 30, 31, 32, 33, 34, 35, 36] (by decide +kernel) (by decide +kernel)
set_option maxRecDepth 20000 in
theorem gX10_only_X10_isNode : GoodIn wsX10_only (wsV RX10 77 RX10 yX10_isNode wsX10_isNode) := goodIn_app (goodIn_of _ (by decide +kernel)) ggX10_only_X10_isNode
set_option maxRecDepth 20000 in
theorem ggX10_only_X10_goesWell : GoodIn wsX10_only wsX10_goesWell := goodIn_r _ [14, 15, 24, 25, 26, 27, 28, 29, 30, 31, 32, 33, 34, 35, 36] (by decide +kernel) (by decide +kernel)
set_option maxRecDepth 20000 in
theorem gX10_only_X10_goesWell : GoodIn wsX10_only (wsV RX10 55 RX10 yX10_goesWell wsX10_goesWell) := goodIn_app (goodIn_of _ (by decide +kernel)) ggX10_only_X10_goesWell
set_option maxRecDepth 20000 in
theorem ggX10_only_X10_make : GoodIn wsX10_only wsX10_make := goodIn_r _ [19, 20, 1, 21, 22, 23, 2, 24, 25, 26, 27, 28, 29, 30, 31, 32, 33, 34, 35, 36] (by decide +kernel) (by decide +kernel)
set_option maxRecDepth 20000 in
theorem gX10_only_X10_make : GoodIn wsX10_only (wsV RX10 73 RX10 yX10_make wsX10_make) := goodIn_app (goodIn_of _ (by decide +kernel)) ggX10_only_X10_make
theorem dX10_only_0 : decode cX10_only 0 = .ok (.aload_n 0, 1) := by decide +kernel
theorem dX10_only_1 : decode cX10_only 1 = .ok (.iload_n 1, 1) := by decide +kernel
theorem dX10_only_2 : decode cX10_only 2 = .ok (.invokevirtual 77, 3) := by decide +kernel
theorem dX10_only_5 : decode cX10_only 5 = .ok (.istore_n 3, 1) := by decide +kernel
theorem dX10_only_6 : decode cX10_only 6 = .ok (.aload_n 0, 1) := by decide +kernel
theorem dX10_only_7 : decode cX10_only 7 = .ok (.iload_n 3, 1) := by decide +kernel
