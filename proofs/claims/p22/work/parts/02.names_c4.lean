theorem dX9_onwardFrom_1 : decode cX9_onwardFrom 1 = .ok (.iconst 1, 1) := by decide +kernel
theorem dX9_onwardFrom_2 : decode cX9_onwardFrom 2 = .ok (.isub, 1) := by decide +kernel
theorem dX9_onwardFrom_3 : decode cX9_onwardFrom 3 = .ok (.invokestatic 182, 3) := by decide +kernel
theorem dX9_onwardFrom_6 : decode cX9_onwardFrom 6 = .ok (.iconst (-1), 1) := by decide +kernel
theorem dX9_onwardFrom_7 : decode cX9_onwardFrom 7 = .ok (.ixor, 1) := by decide +kernel
theorem dX9_onwardFrom_8 : decode cX9_onwardFrom 8 = .ok (.ireturn, 1) := by decide +kernel
theorem dJ6_bitCount_0f7a4_0 : decode cJ6_bitCount_0f7a4 0 = .ok (.iload_n 0, 1) := by decide +kernel
theorem dJ6_bitCount_0f7a4_1 : decode cJ6_bitCount_0f7a4 1 = .ok (.iload_n 0, 1) := by decide +kernel
theorem dJ6_bitCount_0f7a4_2 : decode cJ6_bitCount_0f7a4 2 = .ok (.iconst 1, 1) := by decide +kernel
theorem dJ6_bitCount_0f7a4_3 : decode cJ6_bitCount_0f7a4 3 = .ok (.iushr, 1) := by decide +kernel
theorem dJ6_bitCount_0f7a4_4 : decode cJ6_bitCount_0f7a4 4 = .ok (.ldc_w 265, 3) := by decide +kernel
theorem dJ6_bitCount_0f7a4_7 : decode cJ6_bitCount_0f7a4 7 = .ok (.iand, 1) := by decide +kernel
theorem dJ6_bitCount_0f7a4_8 : decode cJ6_bitCount_0f7a4 8 = .ok (.isub, 1) := by decide +kernel
theorem dJ6_bitCount_0f7a4_9 : decode cJ6_bitCount_0f7a4 9 = .ok (.istore_n 0, 1) := by decide +kernel
theorem dJ6_bitCount_0f7a4_10 : decode cJ6_bitCount_0f7a4 10 = .ok (.iload_n 0, 1) := by decide +kernel
theorem dJ6_bitCount_0f7a4_11 : decode cJ6_bitCount_0f7a4 11 = .ok (.ldc_w 266, 3) := by decide +kernel
theorem dJ6_bitCount_0f7a4_14 : decode cJ6_bitCount_0f7a4 14 = .ok (.iand, 1) := by decide +kernel
theorem dJ6_bitCount_0f7a4_15 : decode cJ6_bitCount_0f7a4 15 = .ok (.iload_n 0, 1) := by decide +kernel
theorem dJ6_bitCount_0f7a4_16 : decode cJ6_bitCount_0f7a4 16 = .ok (.iconst 2, 1) := by decide +kernel
theorem dJ6_bitCount_0f7a4_17 : decode cJ6_bitCount_0f7a4 17 = .ok (.iushr, 1) := by decide +kernel
theorem dJ6_bitCount_0f7a4_18 : decode cJ6_bitCount_0f7a4 18 = .ok (.ldc_w 266, 3) := by decide +kernel
theorem dJ6_bitCount_0f7a4_21 : decode cJ6_bitCount_0f7a4 21 = .ok (.iand, 1) := by decide +kernel
theorem dJ6_bitCount_0f7a4_22 : decode cJ6_bitCount_0f7a4 22 = .ok (.iadd, 1) := by decide +kernel
theorem dJ6_bitCount_0f7a4_23 : decode cJ6_bitCount_0f7a4 23 = .ok (.istore_n 0, 1) := by decide +kernel
theorem dJ6_bitCount_0f7a4_24 : decode cJ6_bitCount_0f7a4 24 = .ok (.iload_n 0, 1) := by decide +kernel
theorem dJ6_bitCount_0f7a4_25 : decode cJ6_bitCount_0f7a4 25 = .ok (.iload_n 0, 1) := by decide +kernel
theorem dJ6_bitCount_0f7a4_26 : decode cJ6_bitCount_0f7a4 26 = .ok (.iconst 4, 1) := by decide +kernel
theorem dJ6_bitCount_0f7a4_27 : decode cJ6_bitCount_0f7a4 27 = .ok (.iushr, 1) := by decide +kernel
theorem dJ6_bitCount_0f7a4_28 : decode cJ6_bitCount_0f7a4 28 = .ok (.iadd, 1) := by decide +kernel
theorem dJ6_bitCount_0f7a4_29 : decode cJ6_bitCount_0f7a4 29 = .ok (.ldc_w 267, 3) := by decide +kernel
theorem dJ6_bitCount_0f7a4_32 : decode cJ6_bitCount_0f7a4 32 = .ok (.iand, 1) := by decide +kernel
theorem dJ6_bitCount_0f7a4_33 : decode cJ6_bitCount_0f7a4 33 = .ok (.istore_n 0, 1) := by decide +kernel
theorem dJ6_bitCount_0f7a4_34 : decode cJ6_bitCount_0f7a4 34 = .ok (.iload_n 0, 1) := by decide +kernel
theorem dJ6_bitCount_0f7a4_35 : decode cJ6_bitCount_0f7a4 35 = .ok (.iload_n 0, 1) := by decide +kernel
theorem dJ6_bitCount_0f7a4_36 : decode cJ6_bitCount_0f7a4 36 = .ok (.bipush 8, 2) := by decide +kernel
theorem dJ6_bitCount_0f7a4_38 : decode cJ6_bitCount_0f7a4 38 = .ok (.iushr, 1) := by decide +kernel
theorem dJ6_bitCount_0f7a4_39 : decode cJ6_bitCount_0f7a4 39 = .ok (.iadd, 1) := by decide +kernel
theorem dJ6_bitCount_0f7a4_40 : decode cJ6_bitCount_0f7a4 40 = .ok (.istore_n 0, 1) := by decide +kernel
theorem dJ6_bitCount_0f7a4_41 : decode cJ6_bitCount_0f7a4 41 = .ok (.iload_n 0, 1) := by decide +kernel
theorem dJ6_bitCount_0f7a4_42 : decode cJ6_bitCount_0f7a4 42 = .ok (.iload_n 0, 1) := by decide +kernel
theorem dJ6_bitCount_0f7a4_43 : decode cJ6_bitCount_0f7a4 43 = .ok (.bipush 16, 2) := by decide +kernel
theorem dJ6_bitCount_0f7a4_45 : decode cJ6_bitCount_0f7a4 45 = .ok (.iushr, 1) := by decide +kernel
theorem dJ6_bitCount_0f7a4_46 : decode cJ6_bitCount_0f7a4 46 = .ok (.iadd, 1) := by decide +kernel
theorem dJ6_bitCount_0f7a4_47 : decode cJ6_bitCount_0f7a4 47 = .ok (.istore_n 0, 1) := by decide +kernel
theorem dJ6_bitCount_0f7a4_48 : decode cJ6_bitCount_0f7a4 48 = .ok (.iload_n 0, 1) := by decide +kernel
theorem dJ6_bitCount_0f7a4_49 : decode cJ6_bitCount_0f7a4 49 = .ok (.bipush 63, 2) := by decide +kernel
theorem dJ6_bitCount_0f7a4_51 : decode cJ6_bitCount_0f7a4 51 = .ok (.iand, 1) := by decide +kernel
theorem dJ6_bitCount_0f7a4_52 : decode cJ6_bitCount_0f7a4 52 = .ok (.ireturn, 1) := by decide +kernel
theorem dJ9_max_7cf53_0 : decode cJ9_max_7cf53 0 = .ok (.iload_n 0, 1) := by decide +kernel
theorem dJ9_max_7cf53_1 : decode cJ9_max_7cf53 1 = .ok (.iload_n 1, 1) := by decide +kernel
theorem dJ9_max_7cf53_2 : decode cJ9_max_7cf53 2 = .ok (.if_icmp .lt 7, 3) := by decide +kernel
theorem dJ9_max_7cf53_5 : decode cJ9_max_7cf53 5 = .ok (.iload_n 0, 1) := by decide +kernel
theorem dJ9_max_7cf53_6 : decode cJ9_max_7cf53 6 = .ok (.goto 4, 3) := by decide +kernel
theorem dJ9_max_7cf53_9 : decode cJ9_max_7cf53 9 = .ok (.iload_n 1, 1) := by decide +kernel
theorem dJ9_max_7cf53_10 : decode cJ9_max_7cf53 10 = .ok (.ireturn, 1) := by decide +kernel
theorem dJ9_min_7cf53_0 : decode cJ9_min_7cf53 0 = .ok (.iload_n 0, 1) := by decide +kernel
theorem dJ9_min_7cf53_1 : decode cJ9_min_7cf53 1 = .ok (.iload_n 1, 1) := by decide +kernel
theorem dJ9_min_7cf53_2 : decode cJ9_min_7cf53 2 = .ok (.if_icmp .gt 7, 3) := by decide +kernel
theorem dJ9_min_7cf53_5 : decode cJ9_min_7cf53 5 = .ok (.iload_n 0, 1) := by decide +kernel
theorem dJ9_min_7cf53_6 : decode cJ9_min_7cf53 6 = .ok (.goto 4, 3) := by decide +kernel
theorem dJ9_min_7cf53_9 : decode cJ9_min_7cf53 9 = .ok (.iload_n 1, 1) := by decide +kernel
theorem dJ9_min_7cf53_10 : decode cJ9_min_7cf53 10 = .ok (.ireturn, 1) := by decide +kernel
theorem dL_cell_0 : decode cL_cell 0 = .ok (.iload_n 1, 1) := by decide +kernel
theorem dL_cell_1 : decode cL_cell 1 = .ok (.aload_n 0, 1) := by decide +kernel
theorem dL_cell_2 : decode cL_cell 2 = .ok (.arraylength, 1) := by decide +kernel
theorem dL_cell_3 : decode cL_cell 3 = .ok (.if_icmp .ge 9, 3) := by decide +kernel
theorem dL_cell_6 : decode cL_cell 6 = .ok (.aload_n 0, 1) := by decide +kernel
theorem dL_cell_7 : decode cL_cell 7 = .ok (.iload_n 1, 1) := by decide +kernel
theorem dL_cell_8 : decode cL_cell 8 = .ok (.iaload, 1) := by decide +kernel
theorem dL_cell_9 : decode cL_cell 9 = .ok (.goto 18, 3) := by decide +kernel
theorem dL_cell_12 : decode cL_cell 12 = .ok (.sipush 7919, 3) := by decide +kernel
theorem dL_cell_15 : decode cL_cell 15 = .ok (.iload_n 1, 1) := by decide +kernel
theorem dL_cell_16 : decode cL_cell 16 = .ok (.sipush 907, 3) := by decide +kernel
theorem dL_cell_19 : decode cL_cell 19 = .ok (.iadd, 1) := by decide +kernel
theorem dL_cell_20 : decode cL_cell 20 = .ok (.imul, 1) := by decide +kernel
theorem dL_cell_21 : decode cL_cell 21 = .ok (.iload_n 1, 1) := by decide +kernel
theorem dL_cell_22 : decode cL_cell 22 = .ok (.sipush 937, 3) := by decide +kernel
theorem dL_cell_25 : decode cL_cell 25 = .ok (.iadd, 1) := by decide +kernel
theorem dL_cell_26 : decode cL_cell 26 = .ok (.imul, 1) := by decide +kernel
theorem dL_cell_27 : decode cL_cell 27 = .ok (.ireturn, 1) := by decide +kernel
theorem dL_low_0 : decode cL_low 0 = .ok (.iload_n 0, 1) := by decide +kernel
theorem dL_low_1 : decode cL_low 1 = .ok (.ldc 7, 2) := by decide +kernel
theorem dL_low_3 : decode cL_low 3 = .ok (.iand, 1) := by decide +kernel
theorem dL_low_4 : decode cL_low 4 = .ok (.iload_n 1, 1) := by decide +kernel
theorem dL_low_5 : decode cL_low 5 = .ok (.irem, 1) := by decide +kernel
theorem dL_low_6 : decode cL_low 6 = .ok (.ireturn, 1) := by decide +kernel
set_option maxRecDepth 20000 in
theorem ggL_insert_X9_insert : GoodIn wsL_insert wsX9_insert := goodIn_ca (goodIn_ca (goodIn_ca (goodIn_r _ [9, 10, 11, 12, 13, 14, 15, 16, 17, 18, 19, 20, 21, 22, 23, 24, 25, 8, 26, 27, 28, 29, 30, 31, 32, 33, 34, 35, 36, 37, 38, 39, 40, 41, 42, 43, 44, 45, 46, 47, 48, 49, 50, 51, 52, 53, 54, 55, 56, 57, 58, 59] (by decide +kernel) (by decide +kernel)) (goodIn_sub (fun _ h => List.mem_cons_of_mem _ (List.mem_append_left _ (List.mem_append_left _ (List.mem_append_right _ h)))) (by decide +kernel))) (goodIn_sub (fun _ h => List.mem_cons_of_mem _ (List.mem_append_left _ (List.mem_append_right _ h))) (by decide +kernel))) (goodIn_sub (fun _ h => List.mem_cons_of_mem _ (List.mem_append_right _ h)) (by decide +kernel))
set_option maxRecDepth 20000 in
theorem gL_insert_X9_insert : GoodIn wsL_insert (wsV RL 8 RX9 yX9_insert wsX9_insert) := goodIn_app (goodIn_of _ (by decide +kernel)) ggL_insert_X9_insert
theorem dL_insert_0 : decode cL_insert 0 = .ok (.aload_n 0, 1) := by decide +kernel
theorem dL_insert_1 : decode cL_insert 1 = .ok (.iload_n 1, 1) := by decide +kernel
theorem dL_insert_2 : decode cL_insert 2 = .ok (.iload_n 2, 1) := by decide +kernel
theorem dL_insert_3 : decode cL_insert 3 = .ok (.invokevirtual 8, 3) := by decide +kernel
theorem dL_insert_6 : decode cL_insert 6 = .ok (.ireturn, 1) := by decide +kernel
theorem dL_insert_7 : decode cL_insert 7 = .ok (.astore_n 3, 1) := by decide +kernel
theorem dL_insert_8 : decode cL_insert 8 = .ok (.ldc 16, 2) := by decide +kernel
theorem dL_insert_10 : decode cL_insert 10 = .ok (.ireturn, 1) := by decide +kernel
theorem dL_insert_11 : decode cL_insert 11 = .ok (.astore_n 3, 1) := by decide +kernel
theorem dL_insert_12 : decode cL_insert 12 = .ok (.ldc 16, 2) := by decide +kernel
theorem dL_insert_14 : decode cL_insert 14 = .ok (.ireturn, 1) := by decide +kernel
theorem dL_insert_15 : decode cL_insert 15 = .ok (.astore_n 3, 1) := by decide +kernel
theorem dL_insert_16 : decode cL_insert 16 = .ok (.ldc 16, 2) := by decide +kernel
theorem dL_insert_18 : decode cL_insert 18 = .ok (.ireturn, 1) := by decide +kernel
set_option maxRecDepth 20000 in
theorem ggL_remove_X9_remove : GoodIn wsL_remove wsX9_remove := goodIn_ca (goodIn_r _ [7, 8, 9, 10, 11, 12, 13, 14, 15, 16, 17, 18, 19, 20, 21, 22, 23, 24, 25, 26, 27, 28, 29, 30, 31, 32, 33, 34, 35, 36, 37, 38, 39, 40, 41, 42, 43, 44, 6, 45, 46, 47, 48, 49, 50, 51, 52, 53, 54, 55] (by decide +kernel) (by decide +kernel)) (goodIn_sub (fun _ h => List.mem_cons_of_mem _ (List.mem_append_right _ h)) (by decide +kernel))
set_option maxRecDepth 20000 in
theorem gL_remove_X9_remove : GoodIn wsL_remove (wsV RL 21 RX9 yX9_remove wsX9_remove) := goodIn_app (goodIn_of _ (by decide +kernel)) ggL_remove_X9_remove
theorem dL_remove_0 : decode cL_remove 0 = .ok (.aload_n 0, 1) := by decide +kernel
theorem dL_remove_1 : decode cL_remove 1 = .ok (.iload_n 1, 1) := by decide +kernel
theorem dL_remove_2 : decode cL_remove 2 = .ok (.invokevirtual 21, 3) := by decide +kernel
theorem dL_remove_5 : decode cL_remove 5 = .ok (.ireturn, 1) := by decide +kernel
theorem dL_remove_6 : decode cL_remove 6 = .ok (.astore_n 2, 1) := by decide +kernel
theorem dL_remove_7 : decode cL_remove 7 = .ok (.ldc 16, 2) := by decide +kernel
theorem dL_remove_9 : decode cL_remove 9 = .ok (.ireturn, 1) := by decide +kernel
set_option maxRecDepth 20000 in
theorem ggL_mark_X9_mark : GoodIn wsL_mark wsX9_mark := goodIn_ca (goodIn_ca (goodIn_r _ [8, 9, 10, 11, 12, 13, 14, 15, 16, 17, 18, 19, 20, 21, 22, 23, 24, 25, 26, 27, 28, 29, 30, 31, 32, 33, 34, 35, 36, 37, 38, 39, 40, 41, 42, 43, 44, 45, 46] (by decide +kernel) (by decide +kernel)) (goodIn_sub (fun _ h => List.mem_cons_of_mem _ (List.mem_append_left _ (List.mem_append_right _ h))) (by decide +kernel))) (goodIn_sub (fun _ h => List.mem_cons_of_mem _ (List.mem_append_right _ h)) (by decide +kernel))
set_option maxRecDepth 20000 in
theorem gL_mark_X9_mark : GoodIn wsL_mark (wsV RL 25 RX9 yX9_mark wsX9_mark) := goodIn_app (goodIn_of _ (by decide +kernel)) ggL_mark_X9_mark
theorem dL_mark_0 : decode cL_mark 0 = .ok (.aload_n 0, 1) := by decide +kernel
theorem dL_mark_1 : decode cL_mark 1 = .ok (.iload_n 1, 1) := by decide +kernel
theorem dL_mark_2 : decode cL_mark 2 = .ok (.iload_n 2, 1) := by decide +kernel
theorem dL_mark_3 : decode cL_mark 3 = .ok (.iload_n 3, 1) := by decide +kernel
theorem dL_mark_4 : decode cL_mark 4 = .ok (.invokevirtual 25, 3) := by decide +kernel
theorem dL_mark_7 : decode cL_mark 7 = .ok (.ifCond .eq 7, 3) := by decide +kernel
theorem dL_mark_10 : decode cL_mark 10 = .ok (.iconst 1, 1) := by decide +kernel
theorem dL_mark_11 : decode cL_mark 11 = .ok (.goto 4, 3) := by decide +kernel
theorem dL_mark_14 : decode cL_mark 14 = .ok (.iconst 0, 1) := by decide +kernel
theorem dL_mark_15 : decode cL_mark 15 = .ok (.ireturn, 1) := by decide +kernel
theorem dL_mark_16 : decode cL_mark 16 = .ok (.astore 4, 2) := by decide +kernel
theorem dL_mark_18 : decode cL_mark 18 = .ok (.ldc 16, 2) := by decide +kernel
theorem dL_mark_20 : decode cL_mark 20 = .ok (.ireturn, 1) := by decide +kernel
theorem dL_mark_21 : decode cL_mark 21 = .ok (.astore 4, 2) := by decide +kernel
theorem dL_mark_23 : decode cL_mark 23 = .ok (.ldc 16, 2) := by decide +kernel
theorem dL_mark_25 : decode cL_mark 25 = .ok (.ireturn, 1) := by decide +kernel
set_option maxRecDepth 20000 in
theorem ggL_unmark_X9_unmark : GoodIn wsL_unmark wsX9_unmark := goodIn_ca (goodIn_ca (goodIn_r _ [7, 8, 9, 10, 11, 12, 13, 14, 15, 16, 17, 18, 19, 20, 21, 22, 23, 24, 25, 26, 27, 28, 29, 30, 31, 32, 33, 34, 35, 36, 37, 38, 39, 40, 41, 42, 43, 44, 45, 46, 47, 48, 49, 50, 51, 52, 53, 54, 55, 56, 57] (by decide +kernel) (by decide +kernel)) (goodIn_sub (fun _ h => List.mem_cons_of_mem _ (List.mem_append_left _ (List.mem_append_right _ h))) (by decide +kernel))) (goodIn_sub (fun _ h => List.mem_cons_of_mem _ (List.mem_append_right _ h)) (by decide +kernel))
set_option maxRecDepth 20000 in
theorem gL_unmark_X9_unmark : GoodIn wsL_unmark (wsV RL 29 RX9 yX9_unmark wsX9_unmark) := goodIn_app (goodIn_of _ (by decide +kernel)) ggL_unmark_X9_unmark
theorem dL_unmark_0 : decode cL_unmark 0 = .ok (.aload_n 0, 1) := by decide +kernel
theorem dL_unmark_1 : decode cL_unmark 1 = .ok (.iload_n 1, 1) := by decide +kernel
theorem dL_unmark_2 : decode cL_unmark 2 = .ok (.iload_n 2, 1) := by decide +kernel
theorem dL_unmark_3 : decode cL_unmark 3 = .ok (.invokevirtual 29, 3) := by decide +kernel
theorem dL_unmark_6 : decode cL_unmark 6 = .ok (.ireturn, 1) := by decide +kernel
theorem dL_unmark_7 : decode cL_unmark 7 = .ok (.astore_n 3, 1) := by decide +kernel
theorem dL_unmark_8 : decode cL_unmark 8 = .ok (.ldc 16, 2) := by decide +kernel
theorem dL_unmark_10 : decode cL_unmark 10 = .ok (.ireturn, 1) := by decide +kernel
set_option maxRecDepth 20000 in
theorem ggL_letter_X9_letter : GoodIn wsL_letter wsX9_letter := goodIn_ca (goodIn_ca (goodIn_r _ [8, 9, 10, 11, 12, 13, 14, 15, 16, 7, 17, 18, 19, 20, 21, 22, 23, 24, 25, 26, 27, 28, 29, 30, 31, 32, 33, 34, 35, 36, 37, 38, 39, 40, 41, 42, 43, 44, 45, 46, 47, 48, 49, 50, 51, 52, 53, 54, 55, 56, 57, 58, 59, 60, 61, 62, 63, 64, 65, 66, 67, 68, 69, 70, 71, 72, 73, 74, 75, 76, 77, 78, 79, 80, 81, 82, 83, 84, 85, 86, 87, 88, 89, 90, 91, 92] (by decide +kernel) (by decide +kernel)) (goodIn_sub (fun _ h => List.mem_cons_of_mem _ (List.mem_append_left _ (List.mem_append_right _ h))) (by decide +kernel))) (goodIn_sub (fun _ h => List.mem_cons_of_mem _ (List.mem_append_right _ h)) (by decide +kernel))
set_option maxRecDepth 20000 in
theorem gL_letter_X9_letter : GoodIn wsL_letter (wsV RL 32 RX9 yX9_letter wsX9_letter) := goodIn_app (goodIn_of _ (by decide +kernel)) ggL_letter_X9_letter
theorem dL_letter_0 : decode cL_letter 0 = .ok (.aload_n 0, 1) := by decide +kernel
theorem dL_letter_1 : decode cL_letter 1 = .ok (.iload_n 1, 1) := by decide +kernel
theorem dL_letter_2 : decode cL_letter 2 = .ok (.invokevirtual 32, 3) := by decide +kernel
theorem dL_letter_5 : decode cL_letter 5 = .ok (.ireturn, 1) := by decide +kernel
theorem dL_letter_6 : decode cL_letter 6 = .ok (.astore_n 2, 1) := by decide +kernel
theorem dL_letter_7 : decode cL_letter 7 = .ok (.ldc 16, 2) := by decide +kernel
theorem dL_letter_9 : decode cL_letter 9 = .ok (.ireturn, 1) := by decide +kernel
theorem dL_letter_10 : decode cL_letter 10 = .ok (.astore_n 2, 1) := by decide +kernel
theorem dL_letter_11 : decode cL_letter 11 = .ok (.ldc 16, 2) := by decide +kernel
theorem dL_letter_13 : decode cL_letter 13 = .ok (.ireturn, 1) := by decide +kernel
set_option maxRecDepth 20000 in
theorem ggL_marked_X9_marked : GoodIn wsL_marked wsX9_marked := goodIn_ca (goodIn_ca (goodIn_r _ [8, 9, 10, 11, 12, 13, 14, 15, 16, 17, 18, 19, 20, 21, 22, 23, 24, 7, 25, 26, 27, 28, 29, 30, 31, 32, 33, 34, 35, 36, 37, 38, 39, 40, 41, 42, 43, 44, 45, 46, 47, 48, 49, 50, 51, 52, 53, 54, 55, 56, 57, 58, 59, 60, 61, 62, 63, 64, 65, 66, 67, 68, 69, 70, 71, 72, 73, 74, 75, 76, 77, 78, 79, 80, 81, 82, 83, 84, 85, 86, 87, 88, 89, 90, 91, 92, 93, 94, 95, 96, 97, 98, 99] (by decide +kernel) (by decide +kernel)) (goodIn_sub (fun _ h => List.mem_cons_of_mem _ (List.mem_append_left _ (List.mem_append_right _ h))) (by decide +kernel))) (goodIn_sub (fun _ h => List.mem_cons_of_mem _ (List.mem_append_right _ h)) (by decide +kernel))
set_option maxRecDepth 20000 in
theorem gL_marked_X9_marked : GoodIn wsL_marked (wsV RL 35 RX9 yX9_marked wsX9_marked) := goodIn_app (goodIn_of _ (by decide +kernel)) ggL_marked_X9_marked
theorem dL_marked_0 : decode cL_marked 0 = .ok (.aload_n 0, 1) := by decide +kernel
theorem dL_marked_1 : decode cL_marked 1 = .ok (.iload_n 1, 1) := by decide +kernel
theorem dL_marked_2 : decode cL_marked 2 = .ok (.invokevirtual 35, 3) := by decide +kernel
theorem dL_marked_5 : decode cL_marked 5 = .ok (.ireturn, 1) := by decide +kernel
theorem dL_marked_6 : decode cL_marked 6 = .ok (.astore_n 2, 1) := by decide +kernel
theorem dL_marked_7 : decode cL_marked 7 = .ok (.ldc 16, 2) := by decide +kernel
theorem dL_marked_9 : decode cL_marked 9 = .ok (.ireturn, 1) := by decide +kernel
theorem dL_marked_10 : decode cL_marked 10 = .ok (.astore_n 2, 1) := by decide +kernel
theorem dL_marked_11 : decode cL_marked 11 = .ok (.ldc 16, 2) := by decide +kernel
theorem dL_marked_13 : decode cL_marked 13 = .ok (.ireturn, 1) := by decide +kernel
set_option maxRecDepth 20000 in
theorem ggL_pair_X9_pair : GoodIn wsL_pair wsX9_pair := goodIn_ca (goodIn_ca (goodIn_ca (goodIn_r _ [9, 10, 11, 12, 13, 14, 15, 16, 17, 18, 19, 20, 21, 8, 22, 23, 24, 25, 26, 27, 28, 29, 30, 31, 32, 33, 34, 35, 36, 37, 38, 39, 40, 41, 42, 43, 44, 45, 46, 47, 48, 49, 50, 51, 52, 53, 54, 55, 56, 57, 58, 59, 60, 61, 62, 63, 64, 65, 66, 67, 68, 69, 70, 71, 72, 73, 74, 75, 76, 77, 78, 79, 80, 81, 82, 83, 84, 85, 86, 87, 88, 89, 90, 91, 92, 93, 94, 95, 96, 97, 98, 99, 100, 101, 102, 103, 104, 105, 106, 107, 108, 109, 110, 111, 112, 113, 114, 115, 116, 117, 118, 119] (by decide +kernel) (by decide +kernel)) (goodIn_sub (fun _ h => List.mem_cons_of_mem _ (List.mem_append_left _ (List.mem_append_left _ (List.mem_append_right _ h)))) (by decide +kernel))) (goodIn_sub (fun _ h => List.mem_cons_of_mem _ (List.mem_append_left _ (List.mem_append_right _ h))) (by decide +kernel))) (goodIn_sub (fun _ h => List.mem_cons_of_mem _ (List.mem_append_right _ h)) (by decide +kernel))
set_option maxRecDepth 20000 in
theorem gL_pair_X9_pair : GoodIn wsL_pair (wsV RL 38 RX9 yX9_pair wsX9_pair) := goodIn_app (goodIn_of _ (by decide +kernel)) ggL_pair_X9_pair
theorem dL_pair_0 : decode cL_pair 0 = .ok (.aload_n 0, 1) := by decide +kernel
theorem dL_pair_1 : decode cL_pair 1 = .ok (.iload_n 1, 1) := by decide +kernel
theorem dL_pair_2 : decode cL_pair 2 = .ok (.iload_n 2, 1) := by decide +kernel
theorem dL_pair_3 : decode cL_pair 3 = .ok (.iload_n 3, 1) := by decide +kernel
theorem dL_pair_4 : decode cL_pair 4 = .ok (.invokevirtual 38, 3) := by decide +kernel
theorem dL_pair_7 : decode cL_pair 7 = .ok (.ireturn, 1) := by decide +kernel
theorem dL_pair_8 : decode cL_pair 8 = .ok (.astore 4, 2) := by decide +kernel
theorem dL_pair_10 : decode cL_pair 10 = .ok (.ldc 16, 2) := by decide +kernel
theorem dL_pair_12 : decode cL_pair 12 = .ok (.ireturn, 1) := by decide +kernel
theorem dL_pair_13 : decode cL_pair 13 = .ok (.astore 4, 2) := by decide +kernel
theorem dL_pair_15 : decode cL_pair 15 = .ok (.ldc 16, 2) := by decide +kernel
theorem dL_pair_17 : decode cL_pair 17 = .ok (.ireturn, 1) := by decide +kernel
theorem dL_pair_18 : decode cL_pair 18 = .ok (.astore 4, 2) := by decide +kernel
theorem dL_pair_20 : decode cL_pair 20 = .ok (.ldc 16, 2) := by decide +kernel
theorem dL_pair_22 : decode cL_pair 22 = .ok (.ireturn, 1) := by decide +kernel
set_option maxRecDepth 20000 in
theorem ggL_near_X9_near : GoodIn wsL_near wsX9_near := goodIn_ca (goodIn_ca (goodIn_ca (goodIn_r _ [9, 10, 11, 12, 13, 14, 15, 16, 17, 18, 8, 19, 20, 21, 22, 23, 24, 25, 26, 27, 28, 29, 30, 31, 32, 33, 34, 35, 36, 37, 38, 39, 40, 41, 42, 43, 44, 45, 46, 47, 48, 49, 50, 51, 52, 53, 54, 55, 56, 57, 58, 59, 60, 61, 62, 63, 64, 65, 66, 67, 68, 69, 70, 71, 72, 73, 74, 75, 76, 77, 78, 79, 80, 81, 82, 83, 84, 85, 86, 87, 88, 89, 90, 91, 92, 93, 94, 95, 96, 97, 98, 99, 100, 101, 102, 103, 104, 105, 106, 107] (by decide +kernel) (by decide +kernel)) (goodIn_sub (fun _ h => List.mem_cons_of_mem _ (List.mem_append_left _ (List.mem_append_left _ (List.mem_append_right _ h)))) (by decide +kernel))) (goodIn_sub (fun _ h => List.mem_cons_of_mem _ (List.mem_append_left _ (List.mem_append_right _ h))) (by decide +kernel))) (goodIn_sub (fun _ h => List.mem_cons_of_mem _ (List.mem_append_right _ h)) (by decide +kernel))
set_option maxRecDepth 20000 in
theorem gL_near_X9_near : GoodIn wsL_near (wsV RL 42 RX9 yX9_near wsX9_near) := goodIn_app (goodIn_of _ (by decide +kernel)) ggL_near_X9_near
theorem dL_near_0 : decode cL_near 0 = .ok (.aload_n 0, 1) := by decide +kernel
theorem dL_near_1 : decode cL_near 1 = .ok (.iload_n 1, 1) := by decide +kernel
theorem dL_near_2 : decode cL_near 2 = .ok (.iload_n 2, 1) := by decide +kernel
theorem dL_near_3 : decode cL_near 3 = .ok (.iload_n 3, 1) := by decide +kernel
theorem dL_near_4 : decode cL_near 4 = .ok (.invokevirtual 42, 3) := by decide +kernel
theorem dL_near_7 : decode cL_near 7 = .ok (.ireturn, 1) := by decide +kernel
theorem dL_near_8 : decode cL_near 8 = .ok (.astore 4, 2) := by decide +kernel
theorem dL_near_10 : decode cL_near 10 = .ok (.ldc 16, 2) := by decide +kernel
theorem dL_near_12 : decode cL_near 12 = .ok (.ireturn, 1) := by decide +kernel
theorem dL_near_13 : decode cL_near 13 = .ok (.astore 4, 2) := by decide +kernel
theorem dL_near_15 : decode cL_near 15 = .ok (.ldc 16, 2) := by decide +kernel
theorem dL_near_17 : decode cL_near 17 = .ok (.ireturn, 1) := by decide +kernel
theorem dL_near_18 : decode cL_near 18 = .ok (.astore 4, 2) := by decide +kernel
theorem dL_near_20 : decode cL_near 20 = .ok (.ldc 16, 2) := by decide +kernel
theorem dL_near_22 : decode cL_near 22 = .ok (.ireturn, 1) := by decide +kernel
set_option maxRecDepth 20000 in
theorem ggL_only_X9_only : GoodIn wsL_only wsX9_only := goodIn_ca (goodIn_ca (goodIn_r _ [8, 9, 10, 11, 12, 13, 14, 15, 7, 16, 17, 18, 19, 20, 21, 22, 23, 24, 25, 26, 27, 28, 29, 30, 31, 32, 33, 34, 35, 36, 37, 38, 39, 40, 41, 42, 43, 44, 45, 46, 47, 48, 49, 50, 51, 52, 53, 54, 55, 56, 57, 58, 59, 60, 61, 62, 63, 64, 65, 66, 67, 68, 69, 70, 71, 72, 73, 74, 75, 76, 77, 78, 79, 80, 81, 82, 83, 84, 85, 86, 87, 88, 89, 90, 91, 92, 93, 94, 95, 96, 97, 98, 99, 100, 101, 102, 103] (by decide +kernel) (by decide +kernel)) (goodIn_sub (fun _ h => List.mem_cons_of_mem _ (List.mem_append_left _ (List.mem_append_right _ h))) (by decide +kernel))) (goodIn_sub (fun _ h => List.mem_cons_of_mem _ (List.mem_append_right _ h)) (by decide +kernel))
set_option maxRecDepth 20000 in
theorem gL_only_X9_only : GoodIn wsL_only (wsV RL 45 RX9 yX9_only wsX9_only) := goodIn_app (goodIn_of _ (by decide +kernel)) ggL_only_X9_only
theorem dL_only_0 : decode cL_only 0 = .ok (.aload_n 0, 1) := by decide +kernel
theorem dL_only_1 : decode cL_only 1 = .ok (.iload_n 1, 1) := by decide +kernel
theorem dL_only_2 : decode cL_only 2 = .ok (.iload_n 2, 1) := by decide +kernel
theorem dL_only_3 : decode cL_only 3 = .ok (.invokevirtual 45, 3) := by decide +kernel
theorem dL_only_6 : decode cL_only 6 = .ok (.ireturn, 1) := by decide +kernel
theorem dL_only_7 : decode cL_only 7 = .ok (.astore_n 3, 1) := by decide +kernel
theorem dL_only_8 : decode cL_only 8 = .ok (.ldc 16, 2) := by decide +kernel
theorem dL_only_10 : decode cL_only 10 = .ok (.ireturn, 1) := by decide +kernel
theorem dL_only_11 : decode cL_only 11 = .ok (.astore_n 3, 1) := by decide +kernel
theorem dL_only_12 : decode cL_only 12 = .ok (.ldc 16, 2) := by decide +kernel
theorem dL_only_14 : decode cL_only 14 = .ok (.ireturn, 1) := by decide +kernel
set_option maxRecDepth 20000 in
theorem ggL_regionAt_X9_regionAt : GoodIn wsL_regionAt wsX9_regionAt := goodIn_ca (goodIn_r _ [6, 7, 8, 9, 10, 11, 5, 12, 13, 14, 15, 16, 17, 18, 19, 20, 21, 22, 23, 24, 25, 26, 27, 28, 29, 30, 31, 32, 33, 34, 35, 36, 37, 38, 39, 40, 41, 42, 43, 44, 45, 46, 47, 48, 49, 50, 51, 52, 53, 54, 55, 56, 57, 58, 59, 60, 61, 62, 63, 64, 65, 66, 67, 68, 69, 70, 71, 72, 73, 74, 75, 76, 77, 78, 79, 80, 81, 82, 83, 84, 85, 86, 87, 88, 89, 90, 91, 92, 93, 94, 95, 96, 97, 98, 99, 100, 101, 102, 103, 104, 105, 106, 107, 108, 109, 110, 111, 112, 113, 114, 115, 116, 117, 118, 119, 120, 121, 122, 123, 124, 125, 126, 127, 128, 129, 130, 131, 132, 133, 134, 135, 136, 137, 138, 139, 140, 141, 142, 143, 144, 145, 146, 147, 148, 149, 150, 151, 152, 153, 154, 155, 156, 157, 158, 159, 160, 161, 162, 163, 164, 165, 166, 167, 168, 169, 170, 171, 172, 173, 174, 175, 176, 177, 178, 179, 180, 181, 182, 183, 184, 185, 186, 187, 188, 189, 190, 191, 192, 193, 194, 195, 196, 197, 198, 199, 200, 201, 202, 203, 204, 205, 206, 207, 208, 209, 210, 211, 212, 213, 214, 215, 216, 217, 218, 219, 220, 221, 222, 223, 224, 225, 226, 227, 228, 229, 230] (by decide +kernel) (by decide +kernel)) (goodIn_sub (fun _ h => List.mem_cons_of_mem _ (List.mem_append_right _ h)) (by decide +kernel))
set_option maxRecDepth 20000 in
theorem gL_regionAt_X9_regionAt : GoodIn wsL_regionAt (wsV RL 49 RX9 yX9_regionAt wsX9_regionAt) := goodIn_app (goodIn_of _ (by decide +kernel)) ggL_regionAt_X9_regionAt
theorem dL_regionAt_0 : decode cL_regionAt 0 = .ok (.aload_n 0, 1) := by decide +kernel
theorem dL_regionAt_1 : decode cL_regionAt 1 = .ok (.iload_n 1, 1) := by decide +kernel
theorem dL_regionAt_2 : decode cL_regionAt 2 = .ok (.iload_n 2, 1) := by decide +kernel
theorem dL_regionAt_3 : decode cL_regionAt 3 = .ok (.invokevirtual 49, 3) := by decide +kernel
theorem dL_regionAt_6 : decode cL_regionAt 6 = .ok (.ireturn, 1) := by decide +kernel
theorem dL_regionAt_7 : decode cL_regionAt 7 = .ok (.astore_n 3, 1) := by decide +kernel
theorem dL_regionAt_8 : decode cL_regionAt 8 = .ok (.iconst (-1), 1) := by decide +kernel
theorem dL_regionAt_9 : decode cL_regionAt 9 = .ok (.ireturn, 1) := by decide +kernel
set_option maxRecDepth 20000 in
theorem ggL_act_L_low : GoodIn wsL_act wsL_low := goodIn_r _ [4, 5] (by decide +kernel) (by decide +kernel)
set_option maxRecDepth 20000 in
theorem gL_act_L_low : GoodIn wsL_act (va_wsS RL 52 yL_low wsL_low) := goodIn_app (goodIn_of _ (by decide +kernel)) ggL_act_L_low
set_option maxRecDepth 20000 in
theorem ggL_act_X9_length : GoodIn wsL_act wsX9_length := goodIn_r _ [10, 11, 279, 280, 281, 282, 283, 284] (by decide +kernel) (by decide +kernel)
set_option maxRecDepth 20000 in
theorem gL_act_X9_length : GoodIn wsL_act (wsV RL 57 RX9 yX9_length wsX9_length) := goodIn_app (goodIn_of _ (by decide +kernel)) ggL_act_X9_length
set_option maxRecDepth 20000 in
theorem ggL_act_X9_nodes : GoodIn wsL_act wsX9_nodes := goodIn_r _ [15, 16, 279, 280, 281] (by decide +kernel) (by decide +kernel)
set_option maxRecDepth 20000 in
theorem gL_act_X9_nodes : GoodIn wsL_act (wsV RL 61 RX9 yX9_nodes wsX9_nodes) := goodIn_app (goodIn_of _ (by decide +kernel)) ggL_act_X9_nodes
set_option maxRecDepth 20000 in
theorem ggL_act_L_insert : GoodIn wsL_act wsL_insert := goodIn_ca (goodIn_ca (goodIn_ca (goodIn_r _ [19, 20, 21, 22, 23, 24, 25, 26, 9, 27, 11, 28, 29, 30, 31, 32, 33, 34, 35, 36, 37, 38, 39, 40, 41, 42, 43, 44, 45, 46, 47, 48, 49, 50, 51, 52, 53, 54, 55, 56, 57, 58, 59, 60, 61, 62, 63, 64, 65, 66, 67, 68, 69, 279, 280, 281, 282, 283, 284, 285] (by decide +kernel) (by decide +kernel)) (goodIn_sub (fun _ h => List.mem_cons_of_mem _ (List.mem_append_left _ (List.mem_append_left _ (List.mem_append_left _ (List.mem_append_left _ (List.mem_append_left _ (List.mem_append_right _ h))))))) (by decide +kernel))) (goodIn_sub (fun _ h => List.mem_cons_of_mem _ (List.mem_append_left _ (List.mem_append_left _ (List.mem_append_left _ (List.mem_append_left _ (List.mem_append_right _ h)))))) (by decide +kernel))) (goodIn_sub (fun _ h => List.mem_cons_of_mem _ (List.mem_append_left _ (List.mem_append_left _ (List.mem_append_left _ (List.mem_append_right _ h))))) (by decide +kernel))
set_option maxRecDepth 20000 in
theorem gL_act_L_insert : GoodIn wsL_act (va_wsS RL 64 yL_insert wsL_insert) := goodIn_app (goodIn_of _ (by decide +kernel)) ggL_act_L_insert
set_option maxRecDepth 20000 in
theorem ggL_act_L_remove : GoodIn wsL_act wsL_remove := goodIn_ca (goodIn_r _ [72, 20, 23, 73, 74, 75, 9, 76, 11, 77, 78, 79, 31, 80, 39, 40, 41, 81, 82, 83, 84, 33, 34, 85, 86, 87, 88, 44, 45, 46, 47, 89, 90, 91, 51, 92, 53, 54, 55, 56, 57, 93, 94, 95, 61, 62, 63, 64, 65, 279, 280, 281, 282, 283, 284, 285] (by decide +kernel) (by decide +kernel)) (goodIn_sub (fun _ h => List.mem_cons_of_mem _ (List.mem_append_left _ (List.mem_append_left _ (List.mem_append_left _ (List.mem_append_left _ (List.mem_append_left _ (List.mem_append_right _ h))))))) (by decide +kernel))
set_option maxRecDepth 20000 in
theorem gL_act_L_remove : GoodIn wsL_act (va_wsS RL 67 yL_remove wsL_remove) := goodIn_app (goodIn_of _ (by decide +kernel)) ggL_act_L_remove
set_option maxRecDepth 20000 in
theorem ggL_act_L_mark : GoodIn wsL_act wsL_mark := goodIn_ca (goodIn_ca (goodIn_r _ [98, 20, 21, 23, 99, 100, 101, 9, 102, 103, 36, 11, 104, 45, 46, 31, 47, 33, 34, 41, 105, 106, 107, 108, 39, 85, 86, 87, 88, 40, 109, 110, 111, 51, 112, 53, 113, 114, 115, 116, 279, 280, 281, 282, 283, 284, 285] (by decide +kernel) (by decide +kernel)) (goodIn_sub (fun _ h => List.mem_cons_of_mem _ (List.mem_append_left _ (List.mem_append_left _ (List.mem_append_right _ h)))) (by decide +kernel))) (goodIn_sub (fun _ h => List.mem_cons_of_mem _ (List.mem_append_left _ (List.mem_append_left _ (List.mem_append_left _ (List.mem_append_left _ (List.mem_append_left _ (List.mem_append_right _ h))))))) (by decide +kernel))
set_option maxRecDepth 20000 in
theorem gL_act_L_mark : GoodIn wsL_act (va_wsS RL 70 yL_mark wsL_mark) := goodIn_app (goodIn_of _ (by decide +kernel)) ggL_act_L_mark
set_option maxRecDepth 20000 in
theorem ggL_act_L_unmark : GoodIn wsL_act wsL_unmark := goodIn_ca (goodIn_ca (goodIn_r _ [119, 20, 23, 120, 121, 122, 9, 123, 124, 34, 11, 104, 45, 46, 31, 47, 33, 41, 125, 126, 127, 51, 128, 129, 110, 111, 112, 53, 130, 131, 132, 133, 54, 55, 56, 57, 66, 67, 68, 69, 134, 135, 136, 137, 138, 139, 140, 141, 142, 143, 144, 279, 280, 281, 282, 283, 284, 285] (by decide +kernel) (by decide +kernel)) (goodIn_sub (fun _ h => List.mem_cons_of_mem _ (List.mem_append_left _ (List.mem_append_right _ h))) (by decide +kernel))) (goodIn_sub (fun _ h => List.mem_cons_of_mem _ (List.mem_append_left _ (List.mem_append_left _ (List.mem_append_left _ (List.mem_append_left _ (List.mem_append_left _ (List.mem_append_right _ h))))))) (by decide +kernel))
set_option maxRecDepth 20000 in
theorem gL_act_L_unmark : GoodIn wsL_act (va_wsS RL 73 yL_unmark wsL_unmark) := goodIn_app (goodIn_of _ (by decide +kernel)) ggL_act_L_unmark
set_option maxRecDepth 20000 in
theorem ggL_act_L_letter : GoodIn wsL_act wsL_letter := goodIn_ca (goodIn_ca (goodIn_r _ [147, 21, 22, 23, 148, 149, 150, 9, 151, 103, 36, 152, 153, 154, 16, 155, 42, 43, 156, 157, 158, 159, 160, 38, 161, 162, 163, 164, 165, 166, 167, 168, 169, 170, 171, 172, 173, 51, 174, 175, 176, 177, 178, 179, 180, 181, 53, 182, 183, 184, 185, 186, 286, 287, 288, 289, 290, 279, 280, 281, 285, 291, 292, 293, 294, 295, 296, 297, 298, 299, 300, 301, 302, 303, 304, 305, 306, 307, 308, 309, 310, 311, 312, 313, 314, 315, 316, 317, 318, 319, 320, 321, 322] (by decide +kernel) (by decide +kernel)) (goodIn_sub (fun _ h => List.mem_cons_of_mem _ (List.mem_append_left _ (List.mem_append_left _ (List.mem_append_right _ h)))) (by decide +kernel))) (goodIn_sub (fun _ h => List.mem_cons_of_mem _ (List.mem_append_right _ h)) (by decide +kernel))
set_option maxRecDepth 20000 in
theorem gL_act_L_letter : GoodIn wsL_act (va_wsS RL 75 yL_letter wsL_letter) := goodIn_app (goodIn_of _ (by decide +kernel)) ggL_act_L_letter
set_option maxRecDepth 20000 in
theorem ggL_act_L_marked : GoodIn wsL_act wsL_marked := goodIn_ca (goodIn_ca (goodIn_r _ [189, 20, 22, 23, 190, 191, 192, 9, 193, 11, 194, 195, 196, 16, 104, 45, 46, 31, 47, 33, 34, 41, 156, 157, 158, 159, 160, 38, 197, 198, 199, 200, 201, 166, 167, 168, 169, 170, 171, 172, 173, 51, 174, 175, 176, 177, 178, 179, 180, 181, 53, 182, 183, 184, 185, 186, 279, 280, 281, 291, 292, 293, 294, 295, 282, 283, 284, 285, 286, 287, 288, 289, 290, 296, 297, 298, 299, 300, 301, 302, 303, 304, 305, 306, 307, 308, 309, 310, 311, 312, 313, 314, 315, 316, 317, 318, 319, 320, 321, 322] (by decide +kernel) (by decide +kernel)) (goodIn_sub (fun _ h => List.mem_cons_of_mem _ (List.mem_append_left _ (List.mem_append_left _ (List.mem_append_left _ (List.mem_append_left _ (List.mem_append_left _ (List.mem_append_right _ h))))))) (by decide +kernel))) (goodIn_sub (fun _ h => List.mem_cons_of_mem _ (List.mem_append_right _ h)) (by decide +kernel))
set_option maxRecDepth 20000 in
theorem gL_act_L_marked : GoodIn wsL_act (va_wsS RL 77 yL_marked wsL_marked) := goodIn_app (goodIn_of _ (by decide +kernel)) ggL_act_L_marked
set_option maxRecDepth 20000 in
theorem ggL_act_L_near : GoodIn wsL_act wsL_near := goodIn_ca (goodIn_ca (goodIn_ca (goodIn_r _ [204, 20, 21, 22, 23, 205, 206, 207, 9, 208, 103, 36, 209, 210, 211, 16, 212, 213, 214, 215, 124, 34, 186, 216, 217, 218, 219, 220, 221, 222, 223, 156, 157, 158, 159, 160, 38, 224, 225, 226, 227, 228, 229, 230, 231, 166, 167, 168, 169, 170, 171, 172, 173, 51, 174, 175, 176, 177, 178, 179, 180, 181, 53, 182, 183, 184, 185, 296, 297, 298, 299, 300, 301, 302, 279, 280, 281, 291, 292, 293, 294, 295, 286, 287, 288, 289, 290, 303, 304, 305, 306, 307, 308, 309, 310, 311, 312, 313, 314, 315, 316, 317, 318, 319, 320, 321, 322, 285] (by decide +kernel) (by decide +kernel)) (goodIn_sub (fun _ h => List.mem_cons_of_mem _ (List.mem_append_left _ (List.mem_append_left _ (List.mem_append_right _ h)))) (by decide +kernel))) (goodIn_sub (fun _ h => List.mem_cons_of_mem _ (List.mem_append_left _ (List.mem_append_right _ h))) (by decide +kernel))) (goodIn_sub (fun _ h => List.mem_cons_of_mem _ (List.mem_append_right _ h)) (by decide +kernel))
set_option maxRecDepth 20000 in
theorem gL_act_L_near : GoodIn wsL_act (va_wsS RL 79 yL_near wsL_near) := goodIn_app (goodIn_of _ (by decide +kernel)) ggL_act_L_near
set_option maxRecDepth 20000 in
theorem ggL_act_L_only : GoodIn wsL_act wsL_only := goodIn_ca (goodIn_ca (goodIn_r _ [234, 20, 22, 23, 235, 236, 237, 9, 238, 239, 240, 241, 16, 212, 213, 214, 215, 124, 34, 186, 216, 217, 218, 219, 220, 221, 222, 223, 156, 157, 158, 159, 160, 38, 242, 243, 244, 245, 246, 247, 248, 166, 167, 168, 169, 170, 171, 172, 173, 51, 174, 175, 176, 177, 178, 179, 180, 181, 53, 182, 183, 184, 185, 303, 304, 305, 306, 307, 308, 279, 280, 281, 291, 292, 293, 294, 295, 286, 287, 288, 289, 290, 296, 297, 298, 299, 300, 301, 302, 309, 310, 311, 312, 313, 314, 315, 316, 317, 318, 319, 320, 321, 322, 285] (by decide +kernel) (by decide +kernel)) (goodIn_sub (fun _ h => List.mem_cons_of_mem _ (List.mem_append_left _ (List.mem_append_right _ h))) (by decide +kernel))) (goodIn_sub (fun _ h => List.mem_cons_of_mem _ (List.mem_append_right _ h)) (by decide +kernel))
set_option maxRecDepth 20000 in
theorem gL_act_L_only : GoodIn wsL_act (va_wsS RL 81 yL_only wsL_only) := goodIn_app (goodIn_of _ (by decide +kernel)) ggL_act_L_only
set_option maxRecDepth 20000 in
theorem ggL_act_L_pair : GoodIn wsL_act wsL_pair := goodIn_ca (goodIn_ca (goodIn_ca (goodIn_r _ [251, 20, 21, 22, 23, 252, 253, 254, 9, 255, 103, 36, 256, 257, 258, 16, 259, 260, 261, 212, 213, 214, 215, 124, 34, 186, 216, 217, 218, 219, 220, 221, 222, 223, 156, 157, 158, 159, 160, 38, 262, 263, 264, 265, 266, 173, 51, 267, 268, 269, 270, 166, 167, 168, 169, 170, 171, 172, 174, 175, 176, 177, 178, 179, 180, 181, 53, 182, 183, 184, 185, 271, 272, 273, 274, 275, 276, 277, 278, 316, 317, 318, 319, 320, 321, 322, 279, 280, 281, 309, 310, 311, 312, 313, 314, 315, 291, 292, 293, 294, 295, 286, 287, 288, 289, 290, 296, 297, 298, 299, 300, 301, 302, 303, 304, 305, 306, 307, 308, 285] (by decide +kernel) (by decide +kernel)) (goodIn_sub (fun _ h => List.mem_cons_of_mem _ (List.mem_append_left _ (List.mem_append_left _ (List.mem_append_right _ h)))) (by decide +kernel))) (goodIn_sub (fun _ h => List.mem_cons_of_mem _ (List.mem_append_left _ (List.mem_append_right _ h))) (by decide +kernel))) (goodIn_sub (fun _ h => List.mem_cons_of_mem _ (List.mem_append_right _ h)) (by decide +kernel))
set_option maxRecDepth 20000 in
theorem gL_act_L_pair : GoodIn wsL_act (va_wsS RL 84 yL_pair wsL_pair) := goodIn_app (goodIn_of _ (by decide +kernel)) ggL_act_L_pair
theorem dL_act_0 : decode cL_act 0 = .ok (.iload_n 1, 1) := by decide +kernel
theorem dL_act_1 : decode cL_act 1 = .ok (.bipush 24, 2) := by decide +kernel
theorem dL_act_3 : decode cL_act 3 = .ok (.ishr, 1) := by decide +kernel
theorem dL_act_4 : decode cL_act 4 = .ok (.bipush 9, 2) := by decide +kernel
theorem dL_act_6 : decode cL_act 6 = .ok (.invokestatic 52, 3) := by decide +kernel
theorem dL_act_9 : decode cL_act 9 = .ok (.ifCond .ne 7, 3) := by decide +kernel
theorem dL_act_12 : decode cL_act 12 = .ok (.iconst 1, 1) := by decide +kernel
theorem dL_act_13 : decode cL_act 13 = .ok (.goto 4, 3) := by decide +kernel
theorem dL_act_16 : decode cL_act 16 = .ok (.iconst 0, 1) := by decide +kernel
theorem dL_act_17 : decode cL_act 17 = .ok (.istore_n 2, 1) := by decide +kernel
theorem dL_act_18 : decode cL_act 18 = .ok (.aload_n 0, 1) := by decide +kernel
theorem dL_act_19 : decode cL_act 19 = .ok (.invokevirtual 57, 3) := by decide +kernel
theorem dL_act_22 : decode cL_act 22 = .ok (.istore_n 3, 1) := by decide +kernel
theorem dL_act_23 : decode cL_act 23 = .ok (.iload_n 1, 1) := by decide +kernel
theorem dL_act_24 : decode cL_act 24 = .ok (.iconst 4, 1) := by decide +kernel
theorem dL_act_25 : decode cL_act 25 = .ok (.ishr, 1) := by decide +kernel
theorem dL_act_26 : decode cL_act 26 = .ok (.iload_n 2, 1) := by decide +kernel
theorem dL_act_27 : decode cL_act 27 = .ok (.ifCond .eq 9, 3) := by decide +kernel
theorem dL_act_30 : decode cL_act 30 = .ok (.iload_n 3, 1) := by decide +kernel
theorem dL_act_31 : decode cL_act 31 = .ok (.iconst 3, 1) := by decide +kernel
theorem dL_act_32 : decode cL_act 32 = .ok (.iadd, 1) := by decide +kernel
theorem dL_act_33 : decode cL_act 33 = .ok (.goto 6, 3) := by decide +kernel
theorem dL_act_36 : decode cL_act 36 = .ok (.iload_n 3, 1) := by decide +kernel
theorem dL_act_37 : decode cL_act 37 = .ok (.iconst 1, 1) := by decide +kernel
theorem dL_act_38 : decode cL_act 38 = .ok (.iadd, 1) := by decide +kernel
theorem dL_act_39 : decode cL_act 39 = .ok (.invokestatic 52, 3) := by decide +kernel
theorem dL_act_42 : decode cL_act 42 = .ok (.iload_n 2, 1) := by decide +kernel
theorem dL_act_43 : decode cL_act 43 = .ok (.ifCond .eq 7, 3) := by decide +kernel
theorem dL_act_46 : decode cL_act 46 = .ok (.iconst 1, 1) := by decide +kernel
theorem dL_act_47 : decode cL_act 47 = .ok (.goto 4, 3) := by decide +kernel
theorem dL_act_50 : decode cL_act 50 = .ok (.iconst 0, 1) := by decide +kernel
theorem dL_act_51 : decode cL_act 51 = .ok (.isub, 1) := by decide +kernel
theorem dL_act_52 : decode cL_act 52 = .ok (.istore 4, 2) := by decide +kernel
theorem dL_act_54 : decode cL_act 54 = .ok (.iload_n 1, 1) := by decide +kernel
theorem dL_act_55 : decode cL_act 55 = .ok (.bipush 9, 2) := by decide +kernel
theorem dL_act_57 : decode cL_act 57 = .ok (.ishr, 1) := by decide +kernel
theorem dL_act_58 : decode cL_act 58 = .ok (.iload_n 2, 1) := by decide +kernel
theorem dL_act_59 : decode cL_act 59 = .ok (.ifCond .eq 7, 3) := by decide +kernel
theorem dL_act_62 : decode cL_act 62 = .ok (.iconst 5, 1) := by decide +kernel
theorem dL_act_63 : decode cL_act 63 = .ok (.goto 4, 3) := by decide +kernel
theorem dL_act_66 : decode cL_act 66 = .ok (.iconst 3, 1) := by decide +kernel
theorem dL_act_67 : decode cL_act 67 = .ok (.invokestatic 52, 3) := by decide +kernel
theorem dL_act_70 : decode cL_act 70 = .ok (.istore 5, 2) := by decide +kernel
theorem dL_act_72 : decode cL_act 72 = .ok (.iload_n 1, 1) := by decide +kernel
theorem dL_act_73 : decode cL_act 73 = .ok (.bipush 9, 2) := by decide +kernel
theorem dL_act_75 : decode cL_act 75 = .ok (.ishr, 1) := by decide +kernel
theorem dL_act_76 : decode cL_act 76 = .ok (.aload_n 0, 1) := by decide +kernel
theorem dL_act_77 : decode cL_act 77 = .ok (.invokevirtual 61, 3) := by decide +kernel
theorem dL_act_80 : decode cL_act 80 = .ok (.iconst 1, 1) := by decide +kernel
theorem dL_act_81 : decode cL_act 81 = .ok (.iadd, 1) := by decide +kernel
theorem dL_act_82 : decode cL_act 82 = .ok (.invokestatic 52, 3) := by decide +kernel
theorem dL_act_85 : decode cL_act 85 = .ok (.iload_n 2, 1) := by decide +kernel
theorem dL_act_86 : decode cL_act 86 = .ok (.ifCond .eq 7, 3) := by decide +kernel
theorem dL_act_89 : decode cL_act 89 = .ok (.iconst 1, 1) := by decide +kernel
theorem dL_act_90 : decode cL_act 90 = .ok (.goto 4, 3) := by decide +kernel
theorem dL_act_93 : decode cL_act 93 = .ok (.iconst 0, 1) := by decide +kernel
theorem dL_act_94 : decode cL_act 94 = .ok (.isub, 1) := by decide +kernel
theorem dL_act_95 : decode cL_act 95 = .ok (.istore 6, 2) := by decide +kernel
theorem dL_act_97 : decode cL_act 97 = .ok (.iload_n 1, 1) := by decide +kernel
theorem dL_act_98 : decode cL_act 98 = .ok (.bipush 14, 2) := by decide +kernel
theorem dL_act_100 : decode cL_act 100 = .ok (.ishr, 1) := by decide +kernel
theorem dL_act_101 : decode cL_act 101 = .ok (.aload_n 0, 1) := by decide +kernel
theorem dL_act_102 : decode cL_act 102 = .ok (.invokevirtual 61, 3) := by decide +kernel
theorem dL_act_105 : decode cL_act 105 = .ok (.iconst 1, 1) := by decide +kernel
theorem dL_act_106 : decode cL_act 106 = .ok (.iadd, 1) := by decide +kernel
theorem dL_act_107 : decode cL_act 107 = .ok (.invokestatic 52, 3) := by decide +kernel
theorem dL_act_110 : decode cL_act 110 = .ok (.istore 7, 2) := by decide +kernel
theorem dL_act_112 : decode cL_act 112 = .ok (.iload_n 1, 1) := by decide +kernel
theorem dL_act_113 : decode cL_act 113 = .ok (.bipush 16, 2) := by decide +kernel
theorem dL_act_115 : decode cL_act 115 = .ok (.invokestatic 52, 3) := by decide +kernel
theorem dL_act_118 : decode cL_act 118 = .ok (.istore 8, 2) := by decide +kernel
theorem dL_act_120 : decode cL_act 120 = .ok (.iload 8, 2) := by decide +kernel
theorem dL_act_122 : decode cL_act 122 = .ok (.iconst 5, 1) := by decide +kernel
theorem dL_act_123 : decode cL_act 123 = .ok (.if_icmp .ge 9, 3) := by decide +kernel
theorem dL_act_126 : decode cL_act 126 = .ok (.iload_n 3, 1) := by decide +kernel
theorem dL_act_127 : decode cL_act 127 = .ok (.bipush 6, 2) := by decide +kernel
theorem dL_act_129 : decode cL_act 129 = .ok (.if_icmp .gt 19, 3) := by decide +kernel
theorem dL_act_132 : decode cL_act 132 = .ok (.iload 8, 2) := by decide +kernel
theorem dL_act_134 : decode cL_act 134 = .ok (.bipush 9, 2) := by decide +kernel
theorem dL_act_136 : decode cL_act 136 = .ok (.if_icmp .le 17, 3) := by decide +kernel
theorem dL_act_139 : decode cL_act 139 = .ok (.aload_n 0, 1) := by decide +kernel
theorem dL_act_140 : decode cL_act 140 = .ok (.invokevirtual 61, 3) := by decide +kernel
theorem dL_act_143 : decode cL_act 143 = .ok (.bipush 8, 2) := by decide +kernel
theorem dL_act_145 : decode cL_act 145 = .ok (.if_icmp .le 8, 3) := by decide +kernel
theorem dL_act_148 : decode cL_act 148 = .ok (.bipush 16, 2) := by decide +kernel
theorem dL_act_150 : decode cL_act 150 = .ok (.goto 5, 3) := by decide +kernel
theorem dL_act_153 : decode cL_act 153 = .ok (.iload 8, 2) := by decide +kernel
theorem dL_act_155 : decode cL_act 155 = .ok (.istore 8, 2) := by decide +kernel
theorem dL_act_157 : decode cL_act 157 = .ok (.iload 8, 2) := by decide +kernel
theorem dL_act_159 : decode cL_act 159 = .ok (.tableswitch 348 0 16 #[81, 81, 81, 81, 105, 140, 140, 140, 140, 179, 204, 246, 280, 348, 348, 348, 303], 81) := by decide +kernel
theorem dL_act_240 : decode cL_act 240 = .ok (.aload_n 0, 1) := by decide +kernel
theorem dL_act_241 : decode cL_act 241 = .ok (.iload 4, 2) := by decide +kernel
theorem dL_act_243 : decode cL_act 243 = .ok (.iload_n 1, 1) := by decide +kernel
theorem dL_act_244 : decode cL_act 244 = .ok (.bipush 9, 2) := by decide +kernel
theorem dL_act_246 : decode cL_act 246 = .ok (.ishr, 1) := by decide +kernel
theorem dL_act_247 : decode cL_act 247 = .ok (.iload_n 2, 1) := by decide +kernel
theorem dL_act_248 : decode cL_act 248 = .ok (.ifCond .eq 8, 3) := by decide +kernel
theorem dL_act_251 : decode cL_act 251 = .ok (.bipush 8, 2) := by decide +kernel
theorem dL_act_253 : decode cL_act 253 = .ok (.goto 4, 3) := by decide +kernel
theorem dL_act_256 : decode cL_act 256 = .ok (.iconst 3, 1) := by decide +kernel
theorem dL_act_257 : decode cL_act 257 = .ok (.invokestatic 52, 3) := by decide +kernel
theorem dL_act_260 : decode cL_act 260 = .ok (.invokestatic 64, 3) := by decide +kernel
theorem dL_act_263 : decode cL_act 263 = .ok (.ireturn, 1) := by decide +kernel
theorem dL_act_264 : decode cL_act 264 = .ok (.iload_n 1, 1) := by decide +kernel
theorem dL_act_265 : decode cL_act 265 = .ok (.bipush 14, 2) := by decide +kernel
theorem dL_act_267 : decode cL_act 267 = .ok (.ishr, 1) := by decide +kernel
theorem dL_act_268 : decode cL_act 268 = .ok (.iconst 2, 1) := by decide +kernel
theorem dL_act_269 : decode cL_act 269 = .ok (.invokestatic 52, 3) := by decide +kernel
theorem dL_act_272 : decode cL_act 272 = .ok (.ifCond .ne 12, 3) := by decide +kernel
theorem dL_act_275 : decode cL_act 275 = .ok (.aload_n 0, 1) := by decide +kernel
theorem dL_act_276 : decode cL_act 276 = .ok (.iload 4, 2) := by decide +kernel
theorem dL_act_278 : decode cL_act 278 = .ok (.invokestatic 67, 3) := by decide +kernel
theorem dL_act_281 : decode cL_act 281 = .ok (.goto 17, 3) := by decide +kernel
theorem dL_act_284 : decode cL_act 284 = .ok (.aload_n 0, 1) := by decide +kernel
theorem dL_act_285 : decode cL_act 285 = .ok (.iload 4, 2) := by decide +kernel
theorem dL_act_287 : decode cL_act 287 = .ok (.iload_n 1, 1) := by decide +kernel
theorem dL_act_288 : decode cL_act 288 = .ok (.bipush 9, 2) := by decide +kernel
theorem dL_act_290 : decode cL_act 290 = .ok (.ishr, 1) := by decide +kernel
theorem dL_act_291 : decode cL_act 291 = .ok (.iconst 3, 1) := by decide +kernel
theorem dL_act_292 : decode cL_act 292 = .ok (.invokestatic 52, 3) := by decide +kernel
theorem dL_act_295 : decode cL_act 295 = .ok (.invokestatic 64, 3) := by decide +kernel
theorem dL_act_298 : decode cL_act 298 = .ok (.ireturn, 1) := by decide +kernel
theorem dL_act_299 : decode cL_act 299 = .ok (.aload_n 0, 1) := by decide +kernel
theorem dL_act_300 : decode cL_act 300 = .ok (.iload 5, 2) := by decide +kernel
theorem dL_act_302 : decode cL_act 302 = .ok (.iload 4, 2) := by decide +kernel
theorem dL_act_304 : decode cL_act 304 = .ok (.iload 4, 2) := by decide +kernel
theorem dL_act_306 : decode cL_act 306 = .ok (.iload_n 1, 1) := by decide +kernel
theorem dL_act_307 : decode cL_act 307 = .ok (.bipush 12, 2) := by decide +kernel
theorem dL_act_309 : decode cL_act 309 = .ok (.ishr, 1) := by decide +kernel
theorem dL_act_310 : decode cL_act 310 = .ok (.iload_n 2, 1) := by decide +kernel
theorem dL_act_311 : decode cL_act 311 = .ok (.ifCond .eq 8, 3) := by decide +kernel
theorem dL_act_314 : decode cL_act 314 = .ok (.bipush 9, 2) := by decide +kernel
theorem dL_act_316 : decode cL_act 316 = .ok (.goto 4, 3) := by decide +kernel
theorem dL_act_319 : decode cL_act 319 = .ok (.iconst 5, 1) := by decide +kernel
theorem dL_act_320 : decode cL_act 320 = .ok (.invokestatic 52, 3) := by decide +kernel
theorem dL_act_323 : decode cL_act 323 = .ok (.iadd, 1) := by decide +kernel
theorem dL_act_324 : decode cL_act 324 = .ok (.iload_n 2, 1) := by decide +kernel
theorem dL_act_325 : decode cL_act 325 = .ok (.ifCond .eq 7, 3) := by decide +kernel
theorem dL_act_328 : decode cL_act 328 = .ok (.iconst 0, 1) := by decide +kernel
theorem dL_act_329 : decode cL_act 329 = .ok (.goto 4, 3) := by decide +kernel
theorem dL_act_332 : decode cL_act 332 = .ok (.iconst 1, 1) := by decide +kernel
theorem dL_act_333 : decode cL_act 333 = .ok (.iadd, 1) := by decide +kernel
theorem dL_act_334 : decode cL_act 334 = .ok (.invokestatic 70, 3) := by decide +kernel
theorem dL_act_337 : decode cL_act 337 = .ok (.ireturn, 1) := by decide +kernel
theorem dL_act_338 : decode cL_act 338 = .ok (.aload_n 0, 1) := by decide +kernel
theorem dL_act_339 : decode cL_act 339 = .ok (.iload 5, 2) := by decide +kernel
theorem dL_act_341 : decode cL_act 341 = .ok (.iload_n 1, 1) := by decide +kernel
theorem dL_act_342 : decode cL_act 342 = .ok (.bipush 12, 2) := by decide +kernel
theorem dL_act_344 : decode cL_act 344 = .ok (.ishr, 1) := by decide +kernel
theorem dL_act_345 : decode cL_act 345 = .ok (.iconst 5, 1) := by decide +kernel
theorem dL_act_346 : decode cL_act 346 = .ok (.invokestatic 52, 3) := by decide +kernel
theorem dL_act_349 : decode cL_act 349 = .ok (.iload_n 2, 1) := by decide +kernel
theorem dL_act_350 : decode cL_act 350 = .ok (.ifCond .eq 7, 3) := by decide +kernel
theorem dL_act_353 : decode cL_act 353 = .ok (.iconst 1, 1) := by decide +kernel
theorem dL_act_354 : decode cL_act 354 = .ok (.goto 4, 3) := by decide +kernel
theorem dL_act_357 : decode cL_act 357 = .ok (.iconst 0, 1) := by decide +kernel
theorem dL_act_358 : decode cL_act 358 = .ok (.isub, 1) := by decide +kernel
theorem dL_act_359 : decode cL_act 359 = .ok (.invokestatic 73, 3) := by decide +kernel
theorem dL_act_362 : decode cL_act 362 = .ok (.ireturn, 1) := by decide +kernel
theorem dL_act_363 : decode cL_act 363 = .ok (.iload_n 1, 1) := by decide +kernel
theorem dL_act_364 : decode cL_act 364 = .ok (.bipush 14, 2) := by decide +kernel
theorem dL_act_366 : decode cL_act 366 = .ok (.ishr, 1) := by decide +kernel
theorem dL_act_367 : decode cL_act 367 = .ok (.iconst 2, 1) := by decide +kernel
theorem dL_act_368 : decode cL_act 368 = .ok (.invokestatic 52, 3) := by decide +kernel
theorem dL_act_371 : decode cL_act 371 = .ok (.ifCond .ne 27, 3) := by decide +kernel
theorem dL_act_374 : decode cL_act 374 = .ok (.aload_n 0, 1) := by decide +kernel
theorem dL_act_375 : decode cL_act 375 = .ok (.iload_n 1, 1) := by decide +kernel
theorem dL_act_376 : decode cL_act 376 = .ok (.bipush 9, 2) := by decide +kernel
theorem dL_act_378 : decode cL_act 378 = .ok (.ishr, 1) := by decide +kernel
theorem dL_act_379 : decode cL_act 379 = .ok (.iload_n 2, 1) := by decide +kernel
theorem dL_act_380 : decode cL_act 380 = .ok (.ifCond .eq 8, 3) := by decide +kernel
theorem dL_act_383 : decode cL_act 383 = .ok (.bipush 7, 2) := by decide +kernel
theorem dL_act_385 : decode cL_act 385 = .ok (.goto 4, 3) := by decide +kernel
theorem dL_act_388 : decode cL_act 388 = .ok (.iconst 3, 1) := by decide +kernel
theorem dL_act_389 : decode cL_act 389 = .ok (.invokestatic 52, 3) := by decide +kernel
theorem dL_act_392 : decode cL_act 392 = .ok (.invokestatic 75, 3) := by decide +kernel
theorem dL_act_395 : decode cL_act 395 = .ok (.goto 9, 3) := by decide +kernel
theorem dL_act_398 : decode cL_act 398 = .ok (.aload_n 0, 1) := by decide +kernel
theorem dL_act_399 : decode cL_act 399 = .ok (.iload 5, 2) := by decide +kernel
theorem dL_act_401 : decode cL_act 401 = .ok (.invokestatic 77, 3) := by decide +kernel
theorem dL_act_404 : decode cL_act 404 = .ok (.ireturn, 1) := by decide +kernel
theorem dL_act_405 : decode cL_act 405 = .ok (.aload_n 0, 1) := by decide +kernel
theorem dL_act_406 : decode cL_act 406 = .ok (.iload 6, 2) := by decide +kernel
theorem dL_act_408 : decode cL_act 408 = .ok (.iload 7, 2) := by decide +kernel
theorem dL_act_410 : decode cL_act 410 = .ok (.iload_n 2, 1) := by decide +kernel
theorem dL_act_411 : decode cL_act 411 = .ok (.ifCond .eq 16, 3) := by decide +kernel
theorem dL_act_414 : decode cL_act 414 = .ok (.iload_n 1, 1) := by decide +kernel
theorem dL_act_415 : decode cL_act 415 = .ok (.iconst 4, 1) := by decide +kernel
theorem dL_act_416 : decode cL_act 416 = .ok (.ishr, 1) := by decide +kernel
theorem dL_act_417 : decode cL_act 417 = .ok (.bipush 27, 2) := by decide +kernel
theorem dL_act_419 : decode cL_act 419 = .ok (.invokestatic 52, 3) := by decide +kernel
theorem dL_act_422 : decode cL_act 422 = .ok (.iconst 1, 1) := by decide +kernel
theorem dL_act_423 : decode cL_act 423 = .ok (.isub, 1) := by decide +kernel
theorem dL_act_424 : decode cL_act 424 = .ok (.goto 11, 3) := by decide +kernel
theorem dL_act_427 : decode cL_act 427 = .ok (.iload_n 1, 1) := by decide +kernel
theorem dL_act_428 : decode cL_act 428 = .ok (.iconst 4, 1) := by decide +kernel
theorem dL_act_429 : decode cL_act 429 = .ok (.ishr, 1) := by decide +kernel
theorem dL_act_430 : decode cL_act 430 = .ok (.bipush 6, 2) := by decide +kernel
theorem dL_act_432 : decode cL_act 432 = .ok (.invokestatic 52, 3) := by decide +kernel
theorem dL_act_435 : decode cL_act 435 = .ok (.invokestatic 79, 3) := by decide +kernel
theorem dL_act_438 : decode cL_act 438 = .ok (.ireturn, 1) := by decide +kernel
theorem dL_act_439 : decode cL_act 439 = .ok (.aload_n 0, 1) := by decide +kernel
theorem dL_act_440 : decode cL_act 440 = .ok (.iload 6, 2) := by decide +kernel
theorem dL_act_442 : decode cL_act 442 = .ok (.iload_n 1, 1) := by decide +kernel
theorem dL_act_443 : decode cL_act 443 = .ok (.bipush 14, 2) := by decide +kernel
theorem dL_act_445 : decode cL_act 445 = .ok (.ishr, 1) := by decide +kernel
theorem dL_act_446 : decode cL_act 446 = .ok (.iconst 2, 1) := by decide +kernel
theorem dL_act_447 : decode cL_act 447 = .ok (.invokestatic 52, 3) := by decide +kernel
theorem dL_act_450 : decode cL_act 450 = .ok (.ifCond .ne 7, 3) := by decide +kernel
theorem dL_act_453 : decode cL_act 453 = .ok (.iconst 1, 1) := by decide +kernel
theorem dL_act_454 : decode cL_act 454 = .ok (.goto 4, 3) := by decide +kernel
theorem dL_act_457 : decode cL_act 457 = .ok (.iconst 0, 1) := by decide +kernel
theorem dL_act_458 : decode cL_act 458 = .ok (.invokestatic 81, 3) := by decide +kernel
theorem dL_act_461 : decode cL_act 461 = .ok (.ireturn, 1) := by decide +kernel
theorem dL_act_462 : decode cL_act 462 = .ok (.iload_n 1, 1) := by decide +kernel
theorem dL_act_463 : decode cL_act 463 = .ok (.bipush 14, 2) := by decide +kernel
theorem dL_act_465 : decode cL_act 465 = .ok (.ishr, 1) := by decide +kernel
theorem dL_act_466 : decode cL_act 466 = .ok (.iconst 2, 1) := by decide +kernel
theorem dL_act_467 : decode cL_act 467 = .ok (.invokestatic 52, 3) := by decide +kernel
theorem dL_act_470 : decode cL_act 470 = .ok (.ifCond .ne 12, 3) := by decide +kernel
theorem dL_act_473 : decode cL_act 473 = .ok (.aload_n 0, 1) := by decide +kernel
theorem dL_act_474 : decode cL_act 474 = .ok (.iload 4, 2) := by decide +kernel
theorem dL_act_476 : decode cL_act 476 = .ok (.invokestatic 67, 3) := by decide +kernel
theorem dL_act_479 : decode cL_act 479 = .ok (.goto 27, 3) := by decide +kernel
theorem dL_act_482 : decode cL_act 482 = .ok (.aload_n 0, 1) := by decide +kernel
theorem dL_act_483 : decode cL_act 483 = .ok (.iload 5, 2) := by decide +kernel
theorem dL_act_485 : decode cL_act 485 = .ok (.iload_n 1, 1) := by decide +kernel
theorem dL_act_486 : decode cL_act 486 = .ok (.bipush 12, 2) := by decide +kernel
theorem dL_act_488 : decode cL_act 488 = .ok (.ishr, 1) := by decide +kernel
theorem dL_act_489 : decode cL_act 489 = .ok (.iconst 5, 1) := by decide +kernel
theorem dL_act_490 : decode cL_act 490 = .ok (.invokestatic 52, 3) := by decide +kernel
theorem dL_act_493 : decode cL_act 493 = .ok (.iload_n 2, 1) := by decide +kernel
theorem dL_act_494 : decode cL_act 494 = .ok (.ifCond .eq 7, 3) := by decide +kernel
theorem dL_act_497 : decode cL_act 497 = .ok (.iconst 1, 1) := by decide +kernel
theorem dL_act_498 : decode cL_act 498 = .ok (.goto 4, 3) := by decide +kernel
theorem dL_act_501 : decode cL_act 501 = .ok (.iconst 0, 1) := by decide +kernel
theorem dL_act_502 : decode cL_act 502 = .ok (.isub, 1) := by decide +kernel
theorem dL_act_503 : decode cL_act 503 = .ok (.invokestatic 73, 3) := by decide +kernel
theorem dL_act_506 : decode cL_act 506 = .ok (.ireturn, 1) := by decide +kernel
theorem dL_act_507 : decode cL_act 507 = .ok (.aload_n 0, 1) := by decide +kernel
theorem dL_act_508 : decode cL_act 508 = .ok (.iload_n 2, 1) := by decide +kernel
theorem dL_act_509 : decode cL_act 509 = .ok (.ifCond .eq 16, 3) := by decide +kernel
theorem dL_act_512 : decode cL_act 512 = .ok (.iload_n 1, 1) := by decide +kernel
theorem dL_act_513 : decode cL_act 513 = .ok (.iconst 4, 1) := by decide +kernel
theorem dL_act_514 : decode cL_act 514 = .ok (.ishr, 1) := by decide +kernel
theorem dL_act_515 : decode cL_act 515 = .ok (.bipush 13, 2) := by decide +kernel
theorem dL_act_517 : decode cL_act 517 = .ok (.invokestatic 52, 3) := by decide +kernel
theorem dL_act_520 : decode cL_act 520 = .ok (.iconst 1, 1) := by decide +kernel
theorem dL_act_521 : decode cL_act 521 = .ok (.isub, 1) := by decide +kernel
theorem dL_act_522 : decode cL_act 522 = .ok (.goto 11, 3) := by decide +kernel
theorem dL_act_525 : decode cL_act 525 = .ok (.iload_n 1, 1) := by decide +kernel
theorem dL_act_526 : decode cL_act 526 = .ok (.iconst 4, 1) := by decide +kernel
theorem dL_act_527 : decode cL_act 527 = .ok (.ishr, 1) := by decide +kernel
theorem dL_act_528 : decode cL_act 528 = .ok (.bipush 10, 2) := by decide +kernel
theorem dL_act_530 : decode cL_act 530 = .ok (.invokestatic 52, 3) := by decide +kernel
theorem dL_act_533 : decode cL_act 533 = .ok (.iload 6, 2) := by decide +kernel
theorem dL_act_535 : decode cL_act 535 = .ok (.iload 7, 2) := by decide +kernel
theorem dL_act_537 : decode cL_act 537 = .ok (.invokestatic 84, 3) := by decide +kernel
theorem dL_act_540 : decode cL_act 540 = .ok (.ireturn, 1) := by decide +kernel
set_option maxRecDepth 20000 in
theorem ggL_areAlike_X9_length : GoodIn wsL_areAlike wsX9_length := goodIn_r _ [5, 6, 29, 30, 31, 32, 33, 34] (by decide +kernel) (by decide +kernel)
set_option maxRecDepth 20000 in
theorem gL_areAlike_X9_length : GoodIn wsL_areAlike (wsV RL 57 RX9 yX9_length wsX9_length) := goodIn_app (goodIn_of _ (by decide +kernel)) ggL_areAlike_X9_length
set_option maxRecDepth 20000 in
theorem ggL_areAlike_X9_nodes : GoodIn wsL_areAlike wsX9_nodes := goodIn_r _ [10, 11, 29, 30, 31] (by decide +kernel) (by decide +kernel)
set_option maxRecDepth 20000 in
theorem gL_areAlike_X9_nodes : GoodIn wsL_areAlike (wsV RL 61 RX9 yX9_nodes wsX9_nodes) := goodIn_app (goodIn_of _ (by decide +kernel)) ggL_areAlike_X9_nodes
set_option maxRecDepth 20000 in
theorem ggL_areAlike_X9_letterAt : GoodIn wsL_areAlike wsX9_letterAt := goodIn_ca (goodIn_r _ [15, 6, 16, 17, 18, 19, 20, 21, 22, 23, 24, 25, 26, 27, 28, 29, 30, 31, 32, 33, 34] (by decide +kernel) (by decide +kernel)) (goodIn_sub (fun _ h => List.mem_cons_of_mem _ (List.mem_append_right _ h)) (by decide +kernel))
set_option maxRecDepth 20000 in
theorem gL_areAlike_X9_letterAt : GoodIn wsL_areAlike (wsV RL 86 RX9 yX9_letterAt wsX9_letterAt) := goodIn_app (goodIn_of _ (by decide +kernel)) ggL_areAlike_X9_letterAt
theorem dL_areAlike_0 : decode cL_areAlike 0 = .ok (.aload_n 0, 1) := by decide +kernel
theorem dL_areAlike_1 : decode cL_areAlike 1 = .ok (.invokevirtual 57, 3) := by decide +kernel
theorem dL_areAlike_4 : decode cL_areAlike 4 = .ok (.aload_n 1, 1) := by decide +kernel
theorem dL_areAlike_5 : decode cL_areAlike 5 = .ok (.invokevirtual 57, 3) := by decide +kernel
theorem dL_areAlike_8 : decode cL_areAlike 8 = .ok (.if_icmp .ne 18, 3) := by decide +kernel
theorem dL_areAlike_11 : decode cL_areAlike 11 = .ok (.aload_n 0, 1) := by decide +kernel
theorem dL_areAlike_12 : decode cL_areAlike 12 = .ok (.invokevirtual 61, 3) := by decide +kernel
theorem dL_areAlike_15 : decode cL_areAlike 15 = .ok (.aload_n 1, 1) := by decide +kernel
theorem dL_areAlike_16 : decode cL_areAlike 16 = .ok (.invokevirtual 61, 3) := by decide +kernel
theorem dL_areAlike_19 : decode cL_areAlike 19 = .ok (.if_icmp .ne 7, 3) := by decide +kernel
theorem dL_areAlike_22 : decode cL_areAlike 22 = .ok (.iconst 1, 1) := by decide +kernel
theorem dL_areAlike_23 : decode cL_areAlike 23 = .ok (.goto 4, 3) := by decide +kernel
theorem dL_areAlike_26 : decode cL_areAlike 26 = .ok (.iconst 0, 1) := by decide +kernel
theorem dL_areAlike_27 : decode cL_areAlike 27 = .ok (.istore_n 2, 1) := by decide +kernel
theorem dL_areAlike_28 : decode cL_areAlike 28 = .ok (.iconst 0, 1) := by decide +kernel
theorem dL_areAlike_29 : decode cL_areAlike 29 = .ok (.istore_n 3, 1) := by decide +kernel
theorem dL_areAlike_30 : decode cL_areAlike 30 = .ok (.iload_n 3, 1) := by decide +kernel
theorem dL_areAlike_31 : decode cL_areAlike 31 = .ok (.aload_n 0, 1) := by decide +kernel
theorem dL_areAlike_32 : decode cL_areAlike 32 = .ok (.invokevirtual 57, 3) := by decide +kernel
theorem dL_areAlike_35 : decode cL_areAlike 35 = .ok (.if_icmp .ge 32, 3) := by decide +kernel
theorem dL_areAlike_38 : decode cL_areAlike 38 = .ok (.iload_n 2, 1) := by decide +kernel
theorem dL_areAlike_39 : decode cL_areAlike 39 = .ok (.ifCond .eq 28, 3) := by decide +kernel
theorem dL_areAlike_42 : decode cL_areAlike 42 = .ok (.aload_n 0, 1) := by decide +kernel
theorem dL_areAlike_43 : decode cL_areAlike 43 = .ok (.iload_n 3, 1) := by decide +kernel
theorem dL_areAlike_44 : decode cL_areAlike 44 = .ok (.invokevirtual 86, 3) := by decide +kernel
theorem dL_areAlike_47 : decode cL_areAlike 47 = .ok (.aload_n 1, 1) := by decide +kernel
theorem dL_areAlike_48 : decode cL_areAlike 48 = .ok (.iload_n 3, 1) := by decide +kernel
theorem dL_areAlike_49 : decode cL_areAlike 49 = .ok (.invokevirtual 86, 3) := by decide +kernel
theorem dL_areAlike_52 : decode cL_areAlike 52 = .ok (.if_icmp .ne 7, 3) := by decide +kernel
theorem dL_areAlike_55 : decode cL_areAlike 55 = .ok (.iconst 1, 1) := by decide +kernel
theorem dL_areAlike_56 : decode cL_areAlike 56 = .ok (.goto 4, 3) := by decide +kernel
theorem dL_areAlike_59 : decode cL_areAlike 59 = .ok (.iconst 0, 1) := by decide +kernel
theorem dL_areAlike_60 : decode cL_areAlike 60 = .ok (.istore_n 2, 1) := by decide +kernel
theorem dL_areAlike_61 : decode cL_areAlike 61 = .ok (.iinc 3 1, 3) := by decide +kernel
theorem dL_areAlike_64 : decode cL_areAlike 64 = .ok (.goto (-34), 3) := by decide +kernel
theorem dL_areAlike_67 : decode cL_areAlike 67 = .ok (.iload_n 2, 1) := by decide +kernel
theorem dL_areAlike_68 : decode cL_areAlike 68 = .ok (.ireturn, 1) := by decide +kernel
set_option maxRecDepth 20000 in
theorem ggL_isNodeSo_X9_regions : GoodIn wsL_isNodeSo wsX9_regions := goodIn_ca (goodIn_r _ [5, 6, 7, 8, 4, 9, 10, 11, 12, 13, 14, 15, 16, 17, 18, 19, 20, 21, 22, 23, 24, 25, 26, 27, 28, 29, 30, 31, 32, 33, 34, 35, 36, 37, 38, 39, 40, 41, 42, 43, 44, 45, 46, 47, 48, 49, 50, 51, 52, 53, 54, 55, 56, 57, 58, 59, 60, 61, 62, 63, 64, 65, 66, 67, 68, 69, 70, 71, 72, 73, 74, 75, 76, 77, 78, 79, 80, 81, 82, 83, 84, 85, 86, 87, 88, 89, 90, 91, 92, 93, 94, 95, 96, 97, 98, 99, 100, 101, 102, 103, 104, 105, 106, 107, 108, 109, 110, 111, 112, 113, 114, 115, 116, 117, 118, 119, 120, 121, 122, 123, 124, 125, 126, 127, 128, 129, 130, 131, 132, 133, 134, 135, 136, 137, 138, 139, 140, 141, 142, 143, 144, 145, 146, 147, 148, 149, 150, 151, 152, 153, 154, 155, 156, 157, 158, 159, 160, 161, 162, 163, 164, 165, 166, 167, 168, 169, 170, 171, 172, 173, 174, 175, 176, 177, 178, 179, 180, 181, 182, 183, 184, 185, 186, 187, 188, 321, 322, 323, 324, 325, 326, 327, 328, 329, 330, 331, 332, 333, 334, 335, 336, 337, 338, 339, 340, 341, 342, 343, 344, 345, 346, 347, 348, 349, 350, 351, 352, 353, 354, 355, 356, 357, 358, 359, 360, 361, 362, 363, 364] (by decide +kernel) (by decide +kernel)) (goodIn_sub (fun _ h => List.mem_cons_of_mem _ (List.mem_append_right _ h)) (by decide +kernel))
set_option maxRecDepth 20000 in
theorem gL_isNodeSo_X9_regions : GoodIn wsL_isNodeSo (wsV RL 89 RX9 yX9_regions wsX9_regions) := goodIn_app (goodIn_of _ (by decide +kernel)) ggL_isNodeSo_X9_regions
set_option maxRecDepth 20000 in
theorem ggL_isNodeSo_X9_length : GoodIn wsL_isNodeSo wsX9_length := goodIn_r _ [192, 11, 321, 322, 323, 362, 363, 364] (by decide +kernel) (by decide +kernel)
set_option maxRecDepth 20000 in
theorem gL_isNodeSo_X9_length : GoodIn wsL_isNodeSo (wsV RL 57 RX9 yX9_length wsX9_length) := goodIn_app (goodIn_of _ (by decide +kernel)) ggL_isNodeSo_X9_length
set_option maxRecDepth 20000 in
theorem ggL_isNodeSo_X9_regionsOneByOne : GoodIn wsL_isNodeSo wsX9_regionsOneByOne := goodIn_ca (goodIn_r _ [196, 197, 198, 199, 4, 200, 10, 11, 201, 13, 14, 15, 16, 17, 18, 19, 20, 21, 22, 23, 24, 25, 26, 27, 28, 29, 30, 202, 203, 204, 205, 206, 207, 208, 58, 59, 43, 60, 45, 209, 210, 211, 212, 35, 213, 39, 214, 215, 216, 217, 218, 219, 52, 220, 56, 61, 62, 63, 64, 65, 66, 67, 68, 69, 70, 71, 221, 222, 78, 223, 82, 224, 84, 85, 225, 226, 227, 121, 122, 111, 123, 228, 229, 230, 231, 232, 109, 110, 112, 233, 234, 97, 235, 101, 236, 103, 237, 238, 239, 240, 241, 242, 243, 244, 245, 246, 247, 130, 248, 137, 249, 142, 132, 250, 251, 252, 253, 254, 255, 169, 256, 257, 258, 259, 260, 73, 74, 75, 261, 262, 263, 264, 265, 266, 267, 268, 173, 269, 175, 270, 271, 272, 273, 274, 178, 179, 180, 181, 182, 183, 184, 185, 186, 187, 188, 321, 322, 323, 324, 325, 326, 327, 328, 329, 330, 331, 332, 333, 334, 335, 336, 337, 338, 339, 340, 341, 342, 343, 344, 345, 346, 347, 348, 349, 350, 351, 352, 353, 354, 355, 356, 357, 358, 359, 360, 362, 363, 364, 361] (by decide +kernel) (by decide +kernel)) (goodIn_sub (fun _ h => List.mem_cons_of_mem _ (List.mem_append_right _ h)) (by decide +kernel))
set_option maxRecDepth 20000 in
theorem gL_isNodeSo_X9_regionsOneByOne : GoodIn wsL_isNodeSo (wsV RL 92 RX9 yX9_regionsOneByOne wsX9_regionsOneByOne) := goodIn_app (goodIn_of _ (by decide +kernel)) ggL_isNodeSo_X9_regionsOneByOne
set_option maxRecDepth 20000 in
theorem ggL_isNodeSo_L_regionAt : GoodIn wsL_isNodeSo wsL_regionAt := goodIn_ca (goodIn_r _ [278, 279, 280, 281, 282, 4, 283, 17, 18, 6, 7, 8, 9, 10, 11, 12, 13, 14, 15, 16, 19, 20, 21, 22, 23, 24, 25, 26, 27, 28, 29, 30, 31, 32, 33, 34, 35, 36, 37, 38, 39, 40, 41, 42, 43, 44, 45, 46, 47, 48, 49, 50, 51, 52, 53, 54, 55, 56, 57, 58, 59, 60, 61, 62, 63, 64, 65, 66, 67, 68, 69, 70, 71, 72, 73, 74, 75, 76, 77, 78, 79, 80, 81, 82, 83, 84, 85, 86, 87, 88, 89, 90, 91, 92, 93, 94, 95, 96, 97, 98, 99, 100, 101, 102, 103, 104, 105, 106, 107, 108, 109, 110, 111, 112, 113, 114, 115, 116, 117, 118, 119, 120, 121, 122, 123, 124, 125, 126, 127, 128, 129, 130, 131, 132, 133, 134, 135, 136, 137, 138, 139, 140, 141, 142, 143, 144, 145, 146, 147, 148, 149, 150, 151, 152, 153, 154, 155, 156, 157, 158, 159, 160, 161, 162, 163, 164, 165, 166, 167, 168, 169, 170, 171, 172, 173, 174, 175, 176, 177, 284, 285, 286, 287, 228, 215, 216, 217, 321, 322, 323, 324, 325, 326, 327, 328, 329, 330, 331, 332, 333, 334, 335, 336, 337, 338, 339, 340, 341, 342, 343, 344, 345, 346, 347, 348, 349, 350, 351, 352, 353, 354, 355, 356, 357, 358, 359, 360, 361, 362, 363, 364] (by decide +kernel) (by decide +kernel)) (goodIn_sub (fun _ h => List.mem_cons_of_mem _ (List.mem_append_right _ h)) (by decide +kernel))
set_option maxRecDepth 20000 in
theorem gL_isNodeSo_L_regionAt : GoodIn wsL_isNodeSo (va_wsS RL 95 yL_regionAt wsL_regionAt) := goodIn_app (goodIn_of _ (by decide +kernel)) ggL_isNodeSo_L_regionAt
set_option maxRecDepth 20000 in
theorem ggL_isNodeSo_X9_regionAt : GoodIn wsL_isNodeSo wsX9_regionAt := goodIn_ca (goodIn_r _ [283, 17, 18, 6, 7, 8, 4, 9, 10, 11, 12, 13, 14, 15, 16, 19, 20, 21, 22, 23, 24, 25, 26, 27, 28, 29, 30, 31, 32, 33, 34, 35, 36, 37, 38, 39, 40, 41, 42, 43, 44, 45, 46, 47, 48, 49, 50, 51, 52, 53, 54, 55, 56, 57, 58, 59, 60, 61, 62, 63, 64, 65, 66, 67, 68, 69, 70, 71, 72, 73, 74, 75, 76, 77, 78, 79, 80, 81, 82, 83, 84, 85, 86, 87, 88, 89, 90, 91, 92, 93, 94, 95, 96, 97, 98, 99, 100, 101, 102, 103, 104, 105, 106, 107, 108, 109, 110, 111, 112, 113, 114, 115, 116, 117, 118, 119, 120, 121, 122, 123, 124, 125, 126, 127, 128, 129, 130, 131, 132, 133, 134, 135, 136, 137, 138, 139, 140, 141, 142, 143, 144, 145, 146, 147, 148, 149, 150, 151, 152, 153, 154, 155, 156, 157, 158, 159, 160, 161, 162, 163, 164, 165, 166, 167, 168, 169, 170, 171, 172, 173, 174, 175, 176, 177, 284, 285, 286, 287, 228, 215, 216, 217, 321, 322, 323, 324, 325, 326, 327, 328, 329, 330, 331, 332, 333, 334, 335, 336, 337, 338, 339, 340, 341, 342, 343, 344, 345, 346, 347, 348, 349, 350, 351, 352, 353, 354, 355, 356, 357, 358, 359, 360, 361, 362, 363, 364] (by decide +kernel) (by decide +kernel)) (goodIn_sub (fun _ h => List.mem_cons_of_mem _ (List.mem_append_right _ h)) (by decide +kernel))
set_option maxRecDepth 20000 in
theorem gL_isNodeSo_X9_regionAt : GoodIn wsL_isNodeSo (wsV RL 49 RX9 yX9_regionAt wsX9_regionAt) := goodIn_app (goodIn_of _ (by decide +kernel)) ggL_isNodeSo_X9_regionAt
set_option maxRecDepth 20000 in
theorem ggL_isNodeSo_X9_has : GoodIn wsL_isNodeSo wsX9_has := goodIn_ca (goodIn_r _ [291, 6, 7, 8, 4, 9, 10, 11, 12, 13, 14, 15, 16, 17, 18, 19, 20, 21, 22, 23, 24, 25, 26, 27, 28, 29, 30, 31, 32, 33, 34, 35, 36, 37, 38, 39, 40, 41, 42, 43, 44, 45, 46, 47, 48, 49, 50, 51, 52, 53, 54, 55, 56, 57, 58, 59, 60, 61, 62, 63, 64, 65, 66, 67, 68, 69, 70, 71, 72, 73, 74, 75, 76, 77, 78, 79, 80, 81, 82, 83, 84, 85, 86, 87, 88, 89, 90, 91, 92, 93, 94, 95, 96, 97, 98, 99, 100, 101, 102, 103, 104, 105, 106, 107, 108, 109, 110, 111, 112, 113, 114, 115, 116, 117, 118, 119, 120, 121, 122, 123, 124, 125, 126, 127, 128, 129, 130, 131, 132, 133, 134, 135, 136, 137, 138, 139, 140, 141, 142, 143, 144, 145, 146, 147, 148, 149, 150, 151, 152, 153, 154, 155, 156, 157, 158, 159, 160, 161, 162, 163, 164, 165, 166, 167, 168, 169, 170, 171, 172, 173, 174, 175, 176, 177, 292, 215, 216, 217, 321, 322, 323, 324, 325, 326, 327, 328, 329, 330, 331, 332, 333, 334, 335, 336, 337, 338, 339, 340, 341, 342, 343, 344, 345, 346, 347, 348, 349, 350, 351, 352, 353, 354, 355, 356, 357, 358, 359, 360, 361, 362, 363, 364] (by decide +kernel) (by decide +kernel)) (goodIn_sub (fun _ h => List.mem_cons_of_mem _ (List.mem_append_right _ h)) (by decide +kernel))
set_option maxRecDepth 20000 in
theorem gL_isNodeSo_X9_has : GoodIn wsL_isNodeSo (wsV RL 97 RX9 yX9_has wsX9_has) := goodIn_app (goodIn_of _ (by decide +kernel)) ggL_isNodeSo_X9_has
set_option maxRecDepth 20000 in
theorem ggL_isNodeSo_X9_deepest : GoodIn wsL_isNodeSo wsX9_deepest := goodIn_ca (goodIn_r _ [296, 6, 7, 8, 4, 9, 10, 11, 12, 13, 14, 15, 16, 17, 18, 19, 20, 21, 22, 23, 24, 25, 26, 27, 28, 29, 30, 31, 32, 33, 34, 35, 36, 37, 38, 39, 40, 41, 42, 43, 44, 45, 46, 47, 48, 49, 50, 51, 52, 53, 54, 55, 56, 57, 58, 59, 60, 61, 62, 63, 64, 65, 66, 67, 68, 69, 70, 71, 72, 73, 74, 75, 76, 77, 78, 79, 80, 81, 82, 83, 84, 85, 86, 87, 88, 89, 90, 91, 92, 93, 94, 95, 96, 97, 98, 99, 100, 101, 102, 103, 104, 105, 106, 107, 108, 109, 110, 111, 112, 113, 114, 115, 116, 117, 118, 119, 120, 121, 122, 123, 124, 125, 126, 127, 128, 129, 130, 131, 132, 133, 134, 135, 136, 137, 138, 139, 140, 141, 142, 143, 144, 145, 146, 147, 148, 149, 150, 151, 152, 153, 154, 155, 156, 157, 158, 159, 160, 161, 162, 163, 164, 165, 166, 167, 168, 169, 170, 171, 172, 173, 174, 175, 176, 177, 297, 298, 299, 300, 301, 302, 303, 304, 182, 183, 184, 185, 186, 187, 188, 321, 322, 323, 324, 325, 326, 327, 328, 329, 330, 331, 332, 333, 334, 335, 336, 337, 338, 339, 340, 341, 342, 343, 344, 345, 346, 347, 348, 349, 350, 351, 352, 353, 354, 355, 356, 357, 358, 359, 360, 361, 362, 363, 364] (by decide +kernel) (by decide +kernel)) (goodIn_sub (fun _ h => List.mem_cons_of_mem _ (List.mem_append_right _ h)) (by decide +kernel))
set_option maxRecDepth 20000 in
theorem gL_isNodeSo_X9_deepest : GoodIn wsL_isNodeSo (wsV RL 100 RX9 yX9_deepest wsX9_deepest) := goodIn_app (goodIn_of _ (by decide +kernel)) ggL_isNodeSo_X9_deepest
set_option maxRecDepth 20000 in
theorem ggL_isNodeSo_X9_longest : GoodIn wsL_isNodeSo wsX9_longest := goodIn_ca (goodIn_r _ [308, 6, 7, 8, 4, 9, 10, 11, 12, 13, 14, 15, 16, 17, 18, 19, 20, 21, 22, 23, 24, 25, 26, 27, 28, 29, 30, 31, 32, 33, 34, 35, 36, 37, 38, 39, 40, 41, 42, 43, 44, 45, 46, 47, 48, 49, 50, 51, 52, 53, 54, 55, 56, 57, 58, 59, 60, 61, 62, 63, 64, 65, 66, 67, 68, 69, 70, 71, 72, 73, 74, 75, 76, 77, 78, 79, 80, 81, 82, 83, 84, 85, 86, 87, 88, 89, 90, 91, 92, 93, 94, 95, 96, 97, 98, 99, 100, 101, 102, 103, 104, 105, 106, 107, 108, 109, 110, 111, 112, 113, 114, 115, 116, 117, 118, 119, 120, 121, 122, 123, 124, 125, 126, 127, 128, 129, 130, 131, 132, 133, 134, 135, 136, 137, 138, 139, 140, 141, 142, 143, 144, 145, 146, 147, 148, 149, 150, 151, 152, 153, 154, 155, 156, 157, 158, 159, 160, 161, 162, 163, 164, 165, 166, 167, 168, 169, 170, 171, 172, 173, 174, 175, 176, 177, 309, 310, 311, 312, 321, 322, 323, 324, 325, 326, 327, 328, 329, 330, 331, 332, 333, 334, 335, 336, 337, 338, 339, 340, 341, 342, 343, 344, 345, 346, 347, 348, 349, 350, 351, 352, 353, 354, 355, 356, 357, 358, 359, 360, 361, 362, 363, 364] (by decide +kernel) (by decide +kernel)) (goodIn_sub (fun _ h => List.mem_cons_of_mem _ (List.mem_append_right _ h)) (by decide +kernel))
set_option maxRecDepth 20000 in
theorem gL_isNodeSo_X9_longest : GoodIn wsL_isNodeSo (wsV RL 103 RX9 yX9_longest wsX9_longest) := goodIn_app (goodIn_of _ (by decide +kernel)) ggL_isNodeSo_X9_longest
set_option maxRecDepth 20000 in
theorem ggL_isNodeSo_X9_covered : GoodIn wsL_isNodeSo wsX9_covered := goodIn_ca (goodIn_r _ [316, 6, 7, 8, 4, 9, 10, 11, 12, 13, 14, 15, 16, 17, 18, 19, 20, 21, 22, 23, 24, 25, 26, 27, 28, 29, 30, 31, 32, 33, 34, 35, 36, 37, 38, 39, 40, 41, 42, 43, 44, 45, 46, 47, 48, 49, 50, 51, 52, 53, 54, 55, 56, 57, 58, 59, 60, 61, 62, 63, 64, 65, 66, 67, 68, 69, 70, 71, 72, 73, 74, 75, 76, 77, 78, 79, 80, 81, 82, 83, 84, 85, 86, 87, 88, 89, 90, 91, 92, 93, 94, 95, 96, 97, 98, 99, 100, 101, 102, 103, 104, 105, 106, 107, 108, 109, 110, 111, 112, 113, 114, 115, 116, 117, 118, 119, 120, 121, 122, 123, 124, 125, 126, 127, 128, 129, 130, 131, 132, 133, 134, 135, 136, 137, 138, 139, 140, 141, 142, 143, 144, 145, 146, 147, 148, 149, 150, 151, 152, 153, 154, 155, 156, 157, 158, 159, 160, 161, 162, 163, 164, 165, 166, 167, 168, 169, 170, 171, 172, 173, 174, 175, 176, 177, 317, 318, 319, 320, 301, 302, 303, 304, 182, 183, 184, 185, 186, 187, 188, 321, 322, 323, 324, 325, 326, 327, 328, 329, 330, 331, 332, 333, 334, 335, 336, 337, 338, 339, 340, 341, 342, 343, 344, 345, 346, 347, 348, 349, 350, 351, 352, 353, 354, 355, 356, 357, 358, 359, 360, 361, 362, 363, 364] (by decide +kernel) (by decide +kernel)) (goodIn_sub (fun _ h => List.mem_cons_of_mem _ (List.mem_append_right _ h)) (by decide +kernel))
set_option maxRecDepth 20000 in
theorem gL_isNodeSo_X9_covered : GoodIn wsL_isNodeSo (wsV RL 106 RX9 yX9_covered wsX9_covered) := goodIn_app (goodIn_of _ (by decide +kernel)) ggL_isNodeSo_X9_covered
theorem dL_isNodeSo_0 : decode cL_isNodeSo 0 = .ok (.aload_n 0, 1) := by decide +kernel
theorem dL_isNodeSo_1 : decode cL_isNodeSo 1 = .ok (.iload_n 1, 1) := by decide +kernel
theorem dL_isNodeSo_2 : decode cL_isNodeSo 2 = .ok (.invokevirtual 89, 3) := by decide +kernel
theorem dL_isNodeSo_5 : decode cL_isNodeSo 5 = .ok (.istore_n 2, 1) := by decide +kernel
theorem dL_isNodeSo_6 : decode cL_isNodeSo 6 = .ok (.aload_n 0, 1) := by decide +kernel
theorem dL_isNodeSo_7 : decode cL_isNodeSo 7 = .ok (.invokevirtual 57, 3) := by decide +kernel
theorem dL_isNodeSo_10 : decode cL_isNodeSo 10 = .ok (.istore_n 3, 1) := by decide +kernel
theorem dL_isNodeSo_11 : decode cL_isNodeSo 11 = .ok (.iconst (-1), 1) := by decide +kernel
theorem dL_isNodeSo_12 : decode cL_isNodeSo 12 = .ok (.istore 4, 2) := by decide +kernel
theorem dL_isNodeSo_14 : decode cL_isNodeSo 14 = .ok (.iconst 0, 1) := by decide +kernel
theorem dL_isNodeSo_15 : decode cL_isNodeSo 15 = .ok (.istore 5, 2) := by decide +kernel
theorem dL_isNodeSo_17 : decode cL_isNodeSo 17 = .ok (.iconst 0, 1) := by decide +kernel
theorem dL_isNodeSo_18 : decode cL_isNodeSo 18 = .ok (.istore 6, 2) := by decide +kernel
theorem dL_isNodeSo_20 : decode cL_isNodeSo 20 = .ok (.iconst 0, 1) := by decide +kernel
theorem dL_isNodeSo_21 : decode cL_isNodeSo 21 = .ok (.istore 7, 2) := by decide +kernel
theorem dL_isNodeSo_23 : decode cL_isNodeSo 23 = .ok (.aload_n 0, 1) := by decide +kernel
theorem dL_isNodeSo_24 : decode cL_isNodeSo 24 = .ok (.iload_n 1, 1) := by decide +kernel
theorem dL_isNodeSo_25 : decode cL_isNodeSo 25 = .ok (.invokevirtual 92, 3) := by decide +kernel
theorem dL_isNodeSo_28 : decode cL_isNodeSo 28 = .ok (.iload_n 2, 1) := by decide +kernel
theorem dL_isNodeSo_29 : decode cL_isNodeSo 29 = .ok (.if_icmp .ne 23, 3) := by decide +kernel
theorem dL_isNodeSo_32 : decode cL_isNodeSo 32 = .ok (.aload_n 0, 1) := by decide +kernel
theorem dL_isNodeSo_33 : decode cL_isNodeSo 33 = .ok (.iload_n 1, 1) := by decide +kernel
theorem dL_isNodeSo_34 : decode cL_isNodeSo 34 = .ok (.iload_n 2, 1) := by decide +kernel
theorem dL_isNodeSo_35 : decode cL_isNodeSo 35 = .ok (.invokestatic 95, 3) := by decide +kernel
theorem dL_isNodeSo_38 : decode cL_isNodeSo 38 = .ok (.iconst (-1), 1) := by decide +kernel
theorem dL_isNodeSo_39 : decode cL_isNodeSo 39 = .ok (.if_icmp .ne 13, 3) := by decide +kernel
theorem dL_isNodeSo_42 : decode cL_isNodeSo 42 = .ok (.aload_n 0, 1) := by decide +kernel
theorem dL_isNodeSo_43 : decode cL_isNodeSo 43 = .ok (.iload_n 1, 1) := by decide +kernel
theorem dL_isNodeSo_44 : decode cL_isNodeSo 44 = .ok (.iconst (-1), 1) := by decide +kernel
theorem dL_isNodeSo_45 : decode cL_isNodeSo 45 = .ok (.invokestatic 95, 3) := by decide +kernel
theorem dL_isNodeSo_48 : decode cL_isNodeSo 48 = .ok (.iconst (-1), 1) := by decide +kernel
theorem dL_isNodeSo_49 : decode cL_isNodeSo 49 = .ok (.if_icmp .eq 5, 3) := by decide +kernel
theorem dL_isNodeSo_52 : decode cL_isNodeSo 52 = .ok (.iconst 0, 1) := by decide +kernel
theorem dL_isNodeSo_53 : decode cL_isNodeSo 53 = .ok (.ireturn, 1) := by decide +kernel
theorem dL_isNodeSo_54 : decode cL_isNodeSo 54 = .ok (.iconst 0, 1) := by decide +kernel
theorem dL_isNodeSo_55 : decode cL_isNodeSo 55 = .ok (.istore 8, 2) := by decide +kernel
theorem dL_isNodeSo_57 : decode cL_isNodeSo 57 = .ok (.iload 8, 2) := by decide +kernel
theorem dL_isNodeSo_59 : decode cL_isNodeSo 59 = .ok (.iload_n 2, 1) := by decide +kernel
theorem dL_isNodeSo_60 : decode cL_isNodeSo 60 = .ok (.if_icmp .ge 138, 3) := by decide +kernel
theorem dL_isNodeSo_63 : decode cL_isNodeSo 63 = .ok (.aload_n 0, 1) := by decide +kernel
theorem dL_isNodeSo_64 : decode cL_isNodeSo 64 = .ok (.iload_n 1, 1) := by decide +kernel
theorem dL_isNodeSo_65 : decode cL_isNodeSo 65 = .ok (.iload 8, 2) := by decide +kernel
theorem dL_isNodeSo_67 : decode cL_isNodeSo 67 = .ok (.invokevirtual 49, 3) := by decide +kernel
theorem dL_isNodeSo_70 : decode cL_isNodeSo 70 = .ok (.istore 9, 2) := by decide +kernel
theorem dL_isNodeSo_72 : decode cL_isNodeSo 72 = .ok (.iload 9, 2) := by decide +kernel
theorem dL_isNodeSo_74 : decode cL_isNodeSo 74 = .ok (.bipush 100, 2) := by decide +kernel
theorem dL_isNodeSo_76 : decode cL_isNodeSo 76 = .ok (.idiv, 1) := by decide +kernel
theorem dL_isNodeSo_77 : decode cL_isNodeSo 77 = .ok (.istore 10, 2) := by decide +kernel
theorem dL_isNodeSo_79 : decode cL_isNodeSo 79 = .ok (.iload 9, 2) := by decide +kernel
theorem dL_isNodeSo_81 : decode cL_isNodeSo 81 = .ok (.bipush 100, 2) := by decide +kernel
theorem dL_isNodeSo_83 : decode cL_isNodeSo 83 = .ok (.irem, 1) := by decide +kernel
theorem dL_isNodeSo_84 : decode cL_isNodeSo 84 = .ok (.istore 11, 2) := by decide +kernel
theorem dL_isNodeSo_86 : decode cL_isNodeSo 86 = .ok (.iload 9, 2) := by decide +kernel
theorem dL_isNodeSo_88 : decode cL_isNodeSo 88 = .ok (.iload 4, 2) := by decide +kernel
theorem dL_isNodeSo_90 : decode cL_isNodeSo 90 = .ok (.if_icmp .le 28, 3) := by decide +kernel
theorem dL_isNodeSo_93 : decode cL_isNodeSo 93 = .ok (.iload 10, 2) := by decide +kernel
theorem dL_isNodeSo_95 : decode cL_isNodeSo 95 = .ok (.iload 11, 2) := by decide +kernel
theorem dL_isNodeSo_97 : decode cL_isNodeSo 97 = .ok (.if_icmp .ge 21, 3) := by decide +kernel
theorem dL_isNodeSo_100 : decode cL_isNodeSo 100 = .ok (.iload 11, 2) := by decide +kernel
theorem dL_isNodeSo_102 : decode cL_isNodeSo 102 = .ok (.iload_n 3, 1) := by decide +kernel
theorem dL_isNodeSo_103 : decode cL_isNodeSo 103 = .ok (.if_icmp .gt 15, 3) := by decide +kernel
theorem dL_isNodeSo_106 : decode cL_isNodeSo 106 = .ok (.aload_n 0, 1) := by decide +kernel
theorem dL_isNodeSo_107 : decode cL_isNodeSo 107 = .ok (.iload_n 1, 1) := by decide +kernel
theorem dL_isNodeSo_108 : decode cL_isNodeSo 108 = .ok (.iload 10, 2) := by decide +kernel
theorem dL_isNodeSo_110 : decode cL_isNodeSo 110 = .ok (.iload 11, 2) := by decide +kernel
theorem dL_isNodeSo_112 : decode cL_isNodeSo 112 = .ok (.invokevirtual 97, 3) := by decide +kernel
theorem dL_isNodeSo_115 : decode cL_isNodeSo 115 = .ok (.ifCond .ne 5, 3) := by decide +kernel
theorem dL_isNodeSo_118 : decode cL_isNodeSo 118 = .ok (.iconst 0, 1) := by decide +kernel
theorem dL_isNodeSo_119 : decode cL_isNodeSo 119 = .ok (.ireturn, 1) := by decide +kernel
theorem dL_isNodeSo_120 : decode cL_isNodeSo 120 = .ok (.iload 9, 2) := by decide +kernel
theorem dL_isNodeSo_122 : decode cL_isNodeSo 122 = .ok (.istore 4, 2) := by decide +kernel
theorem dL_isNodeSo_124 : decode cL_isNodeSo 124 = .ok (.iload 11, 2) := by decide +kernel
theorem dL_isNodeSo_126 : decode cL_isNodeSo 126 = .ok (.iload 10, 2) := by decide +kernel
theorem dL_isNodeSo_128 : decode cL_isNodeSo 128 = .ok (.isub, 1) := by decide +kernel
theorem dL_isNodeSo_129 : decode cL_isNodeSo 129 = .ok (.iload 5, 2) := by decide +kernel
theorem dL_isNodeSo_131 : decode cL_isNodeSo 131 = .ok (.if_icmp .le 11, 3) := by decide +kernel
theorem dL_isNodeSo_134 : decode cL_isNodeSo 134 = .ok (.iload 11, 2) := by decide +kernel
theorem dL_isNodeSo_136 : decode cL_isNodeSo 136 = .ok (.iload 10, 2) := by decide +kernel
theorem dL_isNodeSo_138 : decode cL_isNodeSo 138 = .ok (.isub, 1) := by decide +kernel
theorem dL_isNodeSo_139 : decode cL_isNodeSo 139 = .ok (.goto 5, 3) := by decide +kernel
theorem dL_isNodeSo_142 : decode cL_isNodeSo 142 = .ok (.iload 5, 2) := by decide +kernel
theorem dL_isNodeSo_144 : decode cL_isNodeSo 144 = .ok (.istore 5, 2) := by decide +kernel
theorem dL_isNodeSo_146 : decode cL_isNodeSo 146 = .ok (.iload 10, 2) := by decide +kernel
theorem dL_isNodeSo_148 : decode cL_isNodeSo 148 = .ok (.istore 12, 2) := by decide +kernel
theorem dL_isNodeSo_150 : decode cL_isNodeSo 150 = .ok (.iload 12, 2) := by decide +kernel
theorem dL_isNodeSo_152 : decode cL_isNodeSo 152 = .ok (.iload 11, 2) := by decide +kernel
theorem dL_isNodeSo_154 : decode cL_isNodeSo 154 = .ok (.if_icmp .ge 38, 3) := by decide +kernel
theorem dL_isNodeSo_157 : decode cL_isNodeSo 157 = .ok (.iload 7, 2) := by decide +kernel
theorem dL_isNodeSo_159 : decode cL_isNodeSo 159 = .ok (.iload 6, 2) := by decide +kernel
theorem dL_isNodeSo_161 : decode cL_isNodeSo 161 = .ok (.iload 12, 2) := by decide +kernel
theorem dL_isNodeSo_163 : decode cL_isNodeSo 163 = .ok (.ishr, 1) := by decide +kernel
theorem dL_isNodeSo_164 : decode cL_isNodeSo 164 = .ok (.iconst 1, 1) := by decide +kernel
theorem dL_isNodeSo_165 : decode cL_isNodeSo 165 = .ok (.iand, 1) := by decide +kernel
theorem dL_isNodeSo_166 : decode cL_isNodeSo 166 = .ok (.ifCond .ne 7, 3) := by decide +kernel
theorem dL_isNodeSo_169 : decode cL_isNodeSo 169 = .ok (.iconst 1, 1) := by decide +kernel
theorem dL_isNodeSo_170 : decode cL_isNodeSo 170 = .ok (.goto 4, 3) := by decide +kernel
theorem dL_isNodeSo_173 : decode cL_isNodeSo 173 = .ok (.iconst 0, 1) := by decide +kernel
theorem dL_isNodeSo_174 : decode cL_isNodeSo 174 = .ok (.iadd, 1) := by decide +kernel
theorem dL_isNodeSo_175 : decode cL_isNodeSo 175 = .ok (.istore 7, 2) := by decide +kernel
theorem dL_isNodeSo_177 : decode cL_isNodeSo 177 = .ok (.iload 6, 2) := by decide +kernel
theorem dL_isNodeSo_179 : decode cL_isNodeSo 179 = .ok (.iconst 1, 1) := by decide +kernel
theorem dL_isNodeSo_180 : decode cL_isNodeSo 180 = .ok (.iload 12, 2) := by decide +kernel
theorem dL_isNodeSo_182 : decode cL_isNodeSo 182 = .ok (.ishl, 1) := by decide +kernel
theorem dL_isNodeSo_183 : decode cL_isNodeSo 183 = .ok (.ior, 1) := by decide +kernel
theorem dL_isNodeSo_184 : decode cL_isNodeSo 184 = .ok (.istore 6, 2) := by decide +kernel
theorem dL_isNodeSo_186 : decode cL_isNodeSo 186 = .ok (.iinc 12 1, 3) := by decide +kernel
theorem dL_isNodeSo_189 : decode cL_isNodeSo 189 = .ok (.goto (-39), 3) := by decide +kernel
theorem dL_isNodeSo_192 : decode cL_isNodeSo 192 = .ok (.iinc 8 1, 3) := by decide +kernel
theorem dL_isNodeSo_195 : decode cL_isNodeSo 195 = .ok (.goto (-138), 3) := by decide +kernel
theorem dL_isNodeSo_198 : decode cL_isNodeSo 198 = .ok (.aload_n 0, 1) := by decide +kernel
theorem dL_isNodeSo_199 : decode cL_isNodeSo 199 = .ok (.iload_n 1, 1) := by decide +kernel
theorem dL_isNodeSo_200 : decode cL_isNodeSo 200 = .ok (.invokevirtual 100, 3) := by decide +kernel
theorem dL_isNodeSo_203 : decode cL_isNodeSo 203 = .ok (.istore 8, 2) := by decide +kernel
theorem dL_isNodeSo_205 : decode cL_isNodeSo 205 = .ok (.aload_n 0, 1) := by decide +kernel
theorem dL_isNodeSo_206 : decode cL_isNodeSo 206 = .ok (.iload_n 1, 1) := by decide +kernel
theorem dL_isNodeSo_207 : decode cL_isNodeSo 207 = .ok (.invokevirtual 103, 3) := by decide +kernel
theorem dL_isNodeSo_210 : decode cL_isNodeSo 210 = .ok (.iload 5, 2) := by decide +kernel
theorem dL_isNodeSo_212 : decode cL_isNodeSo 212 = .ok (.if_icmp .ne 77, 3) := by decide +kernel
theorem dL_isNodeSo_215 : decode cL_isNodeSo 215 = .ok (.aload_n 0, 1) := by decide +kernel
theorem dL_isNodeSo_216 : decode cL_isNodeSo 216 = .ok (.iload_n 1, 1) := by decide +kernel
theorem dL_isNodeSo_217 : decode cL_isNodeSo 217 = .ok (.invokevirtual 106, 3) := by decide +kernel
theorem dL_isNodeSo_220 : decode cL_isNodeSo 220 = .ok (.iload 7, 2) := by decide +kernel
theorem dL_isNodeSo_222 : decode cL_isNodeSo 222 = .ok (.if_icmp .ne 67, 3) := by decide +kernel
theorem dL_isNodeSo_225 : decode cL_isNodeSo 225 = .ok (.iload 8, 2) := by decide +kernel
theorem dL_isNodeSo_227 : decode cL_isNodeSo 227 = .ok (.iload_n 2, 1) := by decide +kernel
theorem dL_isNodeSo_228 : decode cL_isNodeSo 228 = .ok (.if_icmp .gt 61, 3) := by decide +kernel
theorem dL_isNodeSo_231 : decode cL_isNodeSo 231 = .ok (.iload 8, 2) := by decide +kernel
theorem dL_isNodeSo_233 : decode cL_isNodeSo 233 = .ok (.ifCond .ne 7, 3) := by decide +kernel
theorem dL_isNodeSo_236 : decode cL_isNodeSo 236 = .ok (.iconst 1, 1) := by decide +kernel
theorem dL_isNodeSo_237 : decode cL_isNodeSo 237 = .ok (.goto 4, 3) := by decide +kernel
theorem dL_isNodeSo_240 : decode cL_isNodeSo 240 = .ok (.iconst 0, 1) := by decide +kernel
theorem dL_isNodeSo_241 : decode cL_isNodeSo 241 = .ok (.iload_n 2, 1) := by decide +kernel
theorem dL_isNodeSo_242 : decode cL_isNodeSo 242 = .ok (.ifCond .ne 7, 3) := by decide +kernel
theorem dL_isNodeSo_245 : decode cL_isNodeSo 245 = .ok (.iconst 1, 1) := by decide +kernel
theorem dL_isNodeSo_246 : decode cL_isNodeSo 246 = .ok (.goto 4, 3) := by decide +kernel
theorem dL_isNodeSo_249 : decode cL_isNodeSo 249 = .ok (.iconst 0, 1) := by decide +kernel
theorem dL_isNodeSo_250 : decode cL_isNodeSo 250 = .ok (.if_icmp .ne 39, 3) := by decide +kernel
theorem dL_isNodeSo_253 : decode cL_isNodeSo 253 = .ok (.aload_n 0, 1) := by decide +kernel
theorem dL_isNodeSo_254 : decode cL_isNodeSo 254 = .ok (.iload_n 1, 1) := by decide +kernel
theorem dL_isNodeSo_255 : decode cL_isNodeSo 255 = .ok (.iconst 0, 1) := by decide +kernel
theorem dL_isNodeSo_256 : decode cL_isNodeSo 256 = .ok (.iconst 0, 1) := by decide +kernel
theorem dL_isNodeSo_257 : decode cL_isNodeSo 257 = .ok (.invokevirtual 97, 3) := by decide +kernel
theorem dL_isNodeSo_260 : decode cL_isNodeSo 260 = .ok (.ifCond .ne 29, 3) := by decide +kernel
theorem dL_isNodeSo_263 : decode cL_isNodeSo 263 = .ok (.aload_n 0, 1) := by decide +kernel
theorem dL_isNodeSo_264 : decode cL_isNodeSo 264 = .ok (.iload_n 1, 1) := by decide +kernel
theorem dL_isNodeSo_265 : decode cL_isNodeSo 265 = .ok (.iconst (-1), 1) := by decide +kernel
theorem dL_isNodeSo_266 : decode cL_isNodeSo 266 = .ok (.iconst 2, 1) := by decide +kernel
theorem dL_isNodeSo_267 : decode cL_isNodeSo 267 = .ok (.invokevirtual 97, 3) := by decide +kernel
theorem dL_isNodeSo_270 : decode cL_isNodeSo 270 = .ok (.ifCond .ne 19, 3) := by decide +kernel
theorem dL_isNodeSo_273 : decode cL_isNodeSo 273 = .ok (.aload_n 0, 1) := by decide +kernel
theorem dL_isNodeSo_274 : decode cL_isNodeSo 274 = .ok (.iload_n 1, 1) := by decide +kernel
theorem dL_isNodeSo_275 : decode cL_isNodeSo 275 = .ok (.iload_n 3, 1) := by decide +kernel
theorem dL_isNodeSo_276 : decode cL_isNodeSo 276 = .ok (.iload_n 3, 1) := by decide +kernel
theorem dL_isNodeSo_277 : decode cL_isNodeSo 277 = .ok (.iconst 1, 1) := by decide +kernel
theorem dL_isNodeSo_278 : decode cL_isNodeSo 278 = .ok (.iadd, 1) := by decide +kernel
theorem dL_isNodeSo_279 : decode cL_isNodeSo 279 = .ok (.invokevirtual 97, 3) := by decide +kernel
theorem dL_isNodeSo_282 : decode cL_isNodeSo 282 = .ok (.ifCond .ne 7, 3) := by decide +kernel
theorem dL_isNodeSo_285 : decode cL_isNodeSo 285 = .ok (.iconst 1, 1) := by decide +kernel
theorem dL_isNodeSo_286 : decode cL_isNodeSo 286 = .ok (.goto 4, 3) := by decide +kernel
theorem dL_isNodeSo_289 : decode cL_isNodeSo 289 = .ok (.iconst 0, 1) := by decide +kernel
theorem dL_isNodeSo_290 : decode cL_isNodeSo 290 = .ok (.ireturn, 1) := by decide +kernel
set_option maxRecDepth 20000 in
theorem ggL_law_X9_init : GoodIn wsL_law wsX9_init := goodIn_r _ [6, 7, 8, 9, 10, 11, 12, 13, 14, 15, 16, 17, 18, 19, 20, 21, 22, 23, 24, 25, 26, 27, 28, 29, 30, 548, 549, 550, 545, 546, 547, 551] (by decide +kernel) (by decide +kernel)
set_option maxRecDepth 20000 in
theorem gL_law_X9_init : GoodIn wsL_law (wsX9_init) := ggL_law_X9_init
set_option maxRecDepth 20000 in
theorem ggL_law_L_cell : GoodIn wsL_law wsL_cell := goodIn_r _ [34] (by decide +kernel) (by decide +kernel)
set_option maxRecDepth 20000 in
theorem gL_law_L_cell : GoodIn wsL_law (va_wsS RL 110 yL_cell wsL_cell) := goodIn_app (goodIn_of _ (by decide +kernel)) ggL_law_L_cell
