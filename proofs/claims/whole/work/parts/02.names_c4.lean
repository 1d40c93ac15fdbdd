theorem dX10_only_8 : decode cX10_only 8 = .ok (.ifCond .ne 7, 3) := by decide +kernel
theorem dX10_only_11 : decode cX10_only 11 = .ok (.iconst 1, 1) := by decide +kernel
theorem dX10_only_12 : decode cX10_only 12 = .ok (.goto 28, 3) := by decide +kernel
theorem dX10_only_15 : decode cX10_only 15 = .ok (.aload_n 0, 1) := by decide +kernel
theorem dX10_only_16 : decode cX10_only 16 = .ok (.getfield 49, 3) := by decide +kernel
theorem dX10_only_19 : decode cX10_only 19 = .ok (.bipush 30, 2) := by decide +kernel
theorem dX10_only_21 : decode cX10_only 21 = .ok (.if_icmp .eq 14, 3) := by decide +kernel
theorem dX10_only_24 : decode cX10_only 24 = .ok (.aload_n 0, 1) := by decide +kernel
theorem dX10_only_25 : decode cX10_only 25 = .ok (.getfield 28, 3) := by decide +kernel
theorem dX10_only_28 : decode cX10_only 28 = .ok (.iload_n 1, 1) := by decide +kernel
theorem dX10_only_29 : decode cX10_only 29 = .ok (.iaload, 1) := by decide +kernel
theorem dX10_only_30 : decode cX10_only 30 = .ok (.bipush 6, 2) := by decide +kernel
theorem dX10_only_32 : decode cX10_only 32 = .ok (.if_icmp .ne 7, 3) := by decide +kernel
theorem dX10_only_35 : decode cX10_only 35 = .ok (.iconst 2, 1) := by decide +kernel
theorem dX10_only_36 : decode cX10_only 36 = .ok (.goto 4, 3) := by decide +kernel
theorem dX10_only_39 : decode cX10_only 39 = .ok (.iconst 0, 1) := by decide +kernel
theorem dX10_only_40 : decode cX10_only 40 = .ok (.invokevirtual 55, 3) := by decide +kernel
theorem dX10_only_43 : decode cX10_only 43 = .ok (.ifCond .ne 5, 3) := by decide +kernel
theorem dX10_only_46 : decode cX10_only 46 = .ok (.iconst 0, 1) := by decide +kernel
theorem dX10_only_47 : decode cX10_only 47 = .ok (.ireturn, 1) := by decide +kernel
theorem dX10_only_48 : decode cX10_only 48 = .ok (.aload_n 0, 1) := by decide +kernel
theorem dX10_only_49 : decode cX10_only 49 = .ok (.iload_n 2, 1) := by decide +kernel
theorem dX10_only_50 : decode cX10_only 50 = .ok (.ifCond .eq 8, 3) := by decide +kernel
theorem dX10_only_53 : decode cX10_only 53 = .ok (.bipush 14, 2) := by decide +kernel
theorem dX10_only_55 : decode cX10_only 55 = .ok (.goto 5, 3) := by decide +kernel
theorem dX10_only_58 : decode cX10_only 58 = .ok (.bipush 13, 2) := by decide +kernel
theorem dX10_only_60 : decode cX10_only 60 = .ok (.iload_n 1, 1) := by decide +kernel
theorem dX10_only_61 : decode cX10_only 61 = .ok (.iload_n 1, 1) := by decide +kernel
theorem dX10_only_62 : decode cX10_only 62 = .ok (.iconst 0, 1) := by decide +kernel
theorem dX10_only_63 : decode cX10_only 63 = .ok (.aload_n 0, 1) := by decide +kernel
theorem dX10_only_64 : decode cX10_only 64 = .ok (.getfield 28, 3) := by decide +kernel
theorem dX10_only_67 : decode cX10_only 67 = .ok (.iload_n 1, 1) := by decide +kernel
theorem dX10_only_68 : decode cX10_only 68 = .ok (.iaload, 1) := by decide +kernel
theorem dX10_only_69 : decode cX10_only 69 = .ok (.iconst 1, 1) := by decide +kernel
theorem dX10_only_70 : decode cX10_only 70 = .ok (.iadd, 1) := by decide +kernel
theorem dX10_only_71 : decode cX10_only 71 = .ok (.invokevirtual 73, 3) := by decide +kernel
theorem dX10_only_74 : decode cX10_only 74 = .ok (.ireturn, 1) := by decide +kernel
theorem dX10_nodes_0 : decode cX10_nodes 0 = .ok (.aload_n 0, 1) := by decide +kernel
theorem dX10_nodes_1 : decode cX10_nodes 1 = .ok (.iconst 0, 1) := by decide +kernel
theorem dX10_nodes_2 : decode cX10_nodes 2 = .ok (.putfield 41, 3) := by decide +kernel
theorem dX10_nodes_5 : decode cX10_nodes 5 = .ok (.aload_n 0, 1) := by decide +kernel
theorem dX10_nodes_6 : decode cX10_nodes 6 = .ok (.getfield 49, 3) := by decide +kernel
theorem dX10_nodes_9 : decode cX10_nodes 9 = .ok (.ireturn, 1) := by decide +kernel
theorem dX10_holds_0 : decode cX10_holds 0 = .ok (.aload_n 0, 1) := by decide +kernel
theorem dX10_holds_1 : decode cX10_holds 1 = .ok (.getfield 35, 3) := by decide +kernel
theorem dX10_holds_4 : decode cX10_holds 4 = .ok (.bipush 25, 2) := by decide +kernel
theorem dX10_holds_6 : decode cX10_holds 6 = .ok (.iload_n 1, 1) := by decide +kernel
theorem dX10_holds_7 : decode cX10_holds 7 = .ok (.imul, 1) := by decide +kernel
theorem dX10_holds_8 : decode cX10_holds 8 = .ok (.iload_n 2, 1) := by decide +kernel
theorem dX10_holds_9 : decode cX10_holds 9 = .ok (.iadd, 1) := by decide +kernel
theorem dX10_holds_10 : decode cX10_holds 10 = .ok (.iaload, 1) := by decide +kernel
theorem dX10_holds_11 : decode cX10_holds 11 = .ok (.iload_n 3, 1) := by decide +kernel
theorem dX10_holds_12 : decode cX10_holds 12 = .ok (.ishr, 1) := by decide +kernel
theorem dX10_holds_13 : decode cX10_holds 13 = .ok (.iconst 1, 1) := by decide +kernel
theorem dX10_holds_14 : decode cX10_holds 14 = .ok (.iand, 1) := by decide +kernel
theorem dX10_holds_15 : decode cX10_holds 15 = .ok (.iconst 1, 1) := by decide +kernel
theorem dX10_holds_16 : decode cX10_holds 16 = .ok (.if_icmp .ne 7, 3) := by decide +kernel
theorem dX10_holds_19 : decode cX10_holds 19 = .ok (.iconst 1, 1) := by decide +kernel
theorem dX10_holds_20 : decode cX10_holds 20 = .ok (.goto 4, 3) := by decide +kernel
theorem dX10_holds_23 : decode cX10_holds 23 = .ok (.iconst 0, 1) := by decide +kernel
theorem dX10_holds_24 : decode cX10_holds 24 = .ok (.ireturn, 1) := by decide +kernel
theorem dX10_upTo_0 : decode cX10_upTo 0 = .ok (.iconst 2, 1) := by decide +kernel
theorem dX10_upTo_1 : decode cX10_upTo 1 = .ok (.iload_n 0, 1) := by decide +kernel
theorem dX10_upTo_2 : decode cX10_upTo 2 = .ok (.ishl, 1) := by decide +kernel
theorem dX10_upTo_3 : decode cX10_upTo 3 = .ok (.iconst 1, 1) := by decide +kernel
theorem dX10_upTo_4 : decode cX10_upTo 4 = .ok (.isub, 1) := by decide +kernel
theorem dX10_upTo_5 : decode cX10_upTo 5 = .ok (.ireturn, 1) := by decide +kernel
theorem dX10_fromOn_0 : decode cX10_fromOn 0 = .ok (.iconst (-1), 1) := by decide +kernel
theorem dX10_fromOn_1 : decode cX10_fromOn 1 = .ok (.iload_n 0, 1) := by decide +kernel
theorem dX10_fromOn_2 : decode cX10_fromOn 2 = .ok (.ishl, 1) := by decide +kernel
theorem dX10_fromOn_3 : decode cX10_fromOn 3 = .ok (.ireturn, 1) := by decide +kernel
set_option maxRecDepth 20000 in
theorem ggX10_hasWithin_X10_upTo : GoodIn wsX10_hasWithin wsX10_upTo := goodIn_r _ [5] (by decide +kernel) (by decide +kernel)
set_option maxRecDepth 20000 in
theorem gX10_hasWithin_X10_upTo : GoodIn wsX10_hasWithin (va_wsS RX10 88 yX10_upTo wsX10_upTo) := goodIn_app (goodIn_of _ (by decide +kernel)) ggX10_hasWithin_X10_upTo
theorem dX10_hasWithin_0 : decode cX10_hasWithin 0 = .ok (.iconst 0, 1) := by decide +kernel
theorem dX10_hasWithin_1 : decode cX10_hasWithin 1 = .ok (.istore 5, 2) := by decide +kernel
theorem dX10_hasWithin_3 : decode cX10_hasWithin 3 = .ok (.iload_n 2, 1) := by decide +kernel
theorem dX10_hasWithin_4 : decode cX10_hasWithin 4 = .ok (.istore 6, 2) := by decide +kernel
theorem dX10_hasWithin_6 : decode cX10_hasWithin 6 = .ok (.iload 6, 2) := by decide +kernel
theorem dX10_hasWithin_8 : decode cX10_hasWithin 8 = .ok (.iload_n 3, 1) := by decide +kernel
theorem dX10_hasWithin_9 : decode cX10_hasWithin 9 = .ok (.if_icmp .ge 71, 3) := by decide +kernel
theorem dX10_hasWithin_12 : decode cX10_hasWithin 12 = .ok (.aload_n 0, 1) := by decide +kernel
theorem dX10_hasWithin_13 : decode cX10_hasWithin 13 = .ok (.getfield 35, 3) := by decide +kernel
theorem dX10_hasWithin_16 : decode cX10_hasWithin 16 = .ok (.bipush 25, 2) := by decide +kernel
theorem dX10_hasWithin_18 : decode cX10_hasWithin 18 = .ok (.iload_n 1, 1) := by decide +kernel
theorem dX10_hasWithin_19 : decode cX10_hasWithin 19 = .ok (.imul, 1) := by decide +kernel
theorem dX10_hasWithin_20 : decode cX10_hasWithin 20 = .ok (.iload 6, 2) := by decide +kernel
theorem dX10_hasWithin_22 : decode cX10_hasWithin 22 = .ok (.iadd, 1) := by decide +kernel
theorem dX10_hasWithin_23 : decode cX10_hasWithin 23 = .ok (.iaload, 1) := by decide +kernel
theorem dX10_hasWithin_24 : decode cX10_hasWithin 24 = .ok (.iload_n 3, 1) := by decide +kernel
theorem dX10_hasWithin_25 : decode cX10_hasWithin 25 = .ok (.invokestatic 88, 3) := by decide +kernel
theorem dX10_hasWithin_28 : decode cX10_hasWithin 28 = .ok (.iand, 1) := by decide +kernel
theorem dX10_hasWithin_29 : decode cX10_hasWithin 29 = .ok (.istore 7, 2) := by decide +kernel
theorem dX10_hasWithin_31 : decode cX10_hasWithin 31 = .ok (.iload 6, 2) := by decide +kernel
theorem dX10_hasWithin_33 : decode cX10_hasWithin 33 = .ok (.iload_n 2, 1) := by decide +kernel
theorem dX10_hasWithin_34 : decode cX10_hasWithin 34 = .ok (.if_icmp .ne 19, 3) := by decide +kernel
theorem dX10_hasWithin_37 : decode cX10_hasWithin 37 = .ok (.iload 4, 2) := by decide +kernel
theorem dX10_hasWithin_39 : decode cX10_hasWithin 39 = .ok (.ifCond .eq 14, 3) := by decide +kernel
theorem dX10_hasWithin_42 : decode cX10_hasWithin 42 = .ok (.iload 7, 2) := by decide +kernel
theorem dX10_hasWithin_44 : decode cX10_hasWithin 44 = .ok (.iconst 1, 1) := by decide +kernel
theorem dX10_hasWithin_45 : decode cX10_hasWithin 45 = .ok (.iload_n 3, 1) := by decide +kernel
theorem dX10_hasWithin_46 : decode cX10_hasWithin 46 = .ok (.ishl, 1) := by decide +kernel
theorem dX10_hasWithin_47 : decode cX10_hasWithin 47 = .ok (.iconst (-1), 1) := by decide +kernel
theorem dX10_hasWithin_48 : decode cX10_hasWithin 48 = .ok (.ixor, 1) := by decide +kernel
theorem dX10_hasWithin_49 : decode cX10_hasWithin 49 = .ok (.iand, 1) := by decide +kernel
theorem dX10_hasWithin_50 : decode cX10_hasWithin 50 = .ok (.goto 5, 3) := by decide +kernel
theorem dX10_hasWithin_53 : decode cX10_hasWithin 53 = .ok (.iload 7, 2) := by decide +kernel
theorem dX10_hasWithin_55 : decode cX10_hasWithin 55 = .ok (.istore 7, 2) := by decide +kernel
theorem dX10_hasWithin_57 : decode cX10_hasWithin 57 = .ok (.iload 5, 2) := by decide +kernel
theorem dX10_hasWithin_59 : decode cX10_hasWithin 59 = .ok (.ifCond .ne 8, 3) := by decide +kernel
theorem dX10_hasWithin_62 : decode cX10_hasWithin 62 = .ok (.iload 7, 2) := by decide +kernel
theorem dX10_hasWithin_64 : decode cX10_hasWithin 64 = .ok (.ifCond .eq 7, 3) := by decide +kernel
theorem dX10_hasWithin_67 : decode cX10_hasWithin 67 = .ok (.iconst 1, 1) := by decide +kernel
theorem dX10_hasWithin_68 : decode cX10_hasWithin 68 = .ok (.goto 4, 3) := by decide +kernel
theorem dX10_hasWithin_71 : decode cX10_hasWithin 71 = .ok (.iconst 0, 1) := by decide +kernel
theorem dX10_hasWithin_72 : decode cX10_hasWithin 72 = .ok (.istore 5, 2) := by decide +kernel
theorem dX10_hasWithin_74 : decode cX10_hasWithin 74 = .ok (.iinc 6 1, 3) := by decide +kernel
theorem dX10_hasWithin_77 : decode cX10_hasWithin 77 = .ok (.goto (-71), 3) := by decide +kernel
theorem dX10_hasWithin_80 : decode cX10_hasWithin 80 = .ok (.iload 5, 2) := by decide +kernel
theorem dX10_hasWithin_82 : decode cX10_hasWithin 82 = .ok (.ireturn, 1) := by decide +kernel
set_option maxRecDepth 20000 in
theorem ggX10_liesWithin_X10_fromOn : GoodIn wsX10_liesWithin wsX10_fromOn := goodIn_r _ [5] (by decide +kernel) (by decide +kernel)
set_option maxRecDepth 20000 in
theorem gX10_liesWithin_X10_fromOn : GoodIn wsX10_liesWithin (va_wsS RX10 91 yX10_fromOn wsX10_fromOn) := goodIn_app (goodIn_of _ (by decide +kernel)) ggX10_liesWithin_X10_fromOn
theorem dX10_liesWithin_0 : decode cX10_liesWithin 0 = .ok (.iconst 0, 1) := by decide +kernel
theorem dX10_liesWithin_1 : decode cX10_liesWithin 1 = .ok (.istore 5, 2) := by decide +kernel
theorem dX10_liesWithin_3 : decode cX10_liesWithin 3 = .ok (.iconst 0, 1) := by decide +kernel
theorem dX10_liesWithin_4 : decode cX10_liesWithin 4 = .ok (.istore 6, 2) := by decide +kernel
theorem dX10_liesWithin_6 : decode cX10_liesWithin 6 = .ok (.iload 6, 2) := by decide +kernel
theorem dX10_liesWithin_8 : decode cX10_liesWithin 8 = .ok (.iload_n 2, 1) := by decide +kernel
theorem dX10_liesWithin_9 : decode cX10_liesWithin 9 = .ok (.if_icmp .gt 71, 3) := by decide +kernel
theorem dX10_liesWithin_12 : decode cX10_liesWithin 12 = .ok (.aload_n 0, 1) := by decide +kernel
theorem dX10_liesWithin_13 : decode cX10_liesWithin 13 = .ok (.getfield 35, 3) := by decide +kernel
theorem dX10_liesWithin_16 : decode cX10_liesWithin 16 = .ok (.bipush 25, 2) := by decide +kernel
theorem dX10_liesWithin_18 : decode cX10_liesWithin 18 = .ok (.iload_n 1, 1) := by decide +kernel
theorem dX10_liesWithin_19 : decode cX10_liesWithin 19 = .ok (.imul, 1) := by decide +kernel
theorem dX10_liesWithin_20 : decode cX10_liesWithin 20 = .ok (.iload 6, 2) := by decide +kernel
theorem dX10_liesWithin_22 : decode cX10_liesWithin 22 = .ok (.iadd, 1) := by decide +kernel
theorem dX10_liesWithin_23 : decode cX10_liesWithin 23 = .ok (.iaload, 1) := by decide +kernel
theorem dX10_liesWithin_24 : decode cX10_liesWithin 24 = .ok (.iload_n 3, 1) := by decide +kernel
theorem dX10_liesWithin_25 : decode cX10_liesWithin 25 = .ok (.invokestatic 91, 3) := by decide +kernel
theorem dX10_liesWithin_28 : decode cX10_liesWithin 28 = .ok (.iand, 1) := by decide +kernel
theorem dX10_liesWithin_29 : decode cX10_liesWithin 29 = .ok (.istore 7, 2) := by decide +kernel
theorem dX10_liesWithin_31 : decode cX10_liesWithin 31 = .ok (.iload 6, 2) := by decide +kernel
theorem dX10_liesWithin_33 : decode cX10_liesWithin 33 = .ok (.iload_n 2, 1) := by decide +kernel
theorem dX10_liesWithin_34 : decode cX10_liesWithin 34 = .ok (.if_icmp .ne 19, 3) := by decide +kernel
theorem dX10_liesWithin_37 : decode cX10_liesWithin 37 = .ok (.iload 4, 2) := by decide +kernel
theorem dX10_liesWithin_39 : decode cX10_liesWithin 39 = .ok (.ifCond .eq 14, 3) := by decide +kernel
theorem dX10_liesWithin_42 : decode cX10_liesWithin 42 = .ok (.iload 7, 2) := by decide +kernel
theorem dX10_liesWithin_44 : decode cX10_liesWithin 44 = .ok (.iconst 1, 1) := by decide +kernel
theorem dX10_liesWithin_45 : decode cX10_liesWithin 45 = .ok (.iload_n 3, 1) := by decide +kernel
theorem dX10_liesWithin_46 : decode cX10_liesWithin 46 = .ok (.ishl, 1) := by decide +kernel
theorem dX10_liesWithin_47 : decode cX10_liesWithin 47 = .ok (.iconst (-1), 1) := by decide +kernel
theorem dX10_liesWithin_48 : decode cX10_liesWithin 48 = .ok (.ixor, 1) := by decide +kernel
theorem dX10_liesWithin_49 : decode cX10_liesWithin 49 = .ok (.iand, 1) := by decide +kernel
theorem dX10_liesWithin_50 : decode cX10_liesWithin 50 = .ok (.goto 5, 3) := by decide +kernel
theorem dX10_liesWithin_53 : decode cX10_liesWithin 53 = .ok (.iload 7, 2) := by decide +kernel
theorem dX10_liesWithin_55 : decode cX10_liesWithin 55 = .ok (.istore 7, 2) := by decide +kernel
theorem dX10_liesWithin_57 : decode cX10_liesWithin 57 = .ok (.iload 5, 2) := by decide +kernel
theorem dX10_liesWithin_59 : decode cX10_liesWithin 59 = .ok (.ifCond .ne 8, 3) := by decide +kernel
theorem dX10_liesWithin_62 : decode cX10_liesWithin 62 = .ok (.iload 7, 2) := by decide +kernel
theorem dX10_liesWithin_64 : decode cX10_liesWithin 64 = .ok (.ifCond .eq 7, 3) := by decide +kernel
theorem dX10_liesWithin_67 : decode cX10_liesWithin 67 = .ok (.iconst 1, 1) := by decide +kernel
theorem dX10_liesWithin_68 : decode cX10_liesWithin 68 = .ok (.goto 4, 3) := by decide +kernel
theorem dX10_liesWithin_71 : decode cX10_liesWithin 71 = .ok (.iconst 0, 1) := by decide +kernel
theorem dX10_liesWithin_72 : decode cX10_liesWithin 72 = .ok (.istore 5, 2) := by decide +kernel
theorem dX10_liesWithin_74 : decode cX10_liesWithin 74 = .ok (.iinc 6 1, 3) := by decide +kernel
theorem dX10_liesWithin_77 : decode cX10_liesWithin 77 = .ok (.goto (-71), 3) := by decide +kernel
theorem dX10_liesWithin_80 : decode cX10_liesWithin 80 = .ok (.iload 5, 2) := by decide +kernel
theorem dX10_liesWithin_82 : decode cX10_liesWithin 82 = .ok (.ireturn, 1) := by decide +kernel
theorem dX10_beginsFrom_0 : decode cX10_beginsFrom 0 = .ok (.iconst 0, 1) := by decide +kernel
theorem dX10_beginsFrom_1 : decode cX10_beginsFrom 1 = .ok (.istore_n 3, 1) := by decide +kernel
theorem dX10_beginsFrom_2 : decode cX10_beginsFrom 2 = .ok (.iload_n 2, 1) := by decide +kernel
theorem dX10_beginsFrom_3 : decode cX10_beginsFrom 3 = .ok (.istore 4, 2) := by decide +kernel
theorem dX10_beginsFrom_5 : decode cX10_beginsFrom 5 = .ok (.iload 4, 2) := by decide +kernel
theorem dX10_beginsFrom_7 : decode cX10_beginsFrom 7 = .ok (.bipush 25, 2) := by decide +kernel
theorem dX10_beginsFrom_9 : decode cX10_beginsFrom 9 = .ok (.if_icmp .ge 34, 3) := by decide +kernel
theorem dX10_beginsFrom_12 : decode cX10_beginsFrom 12 = .ok (.iload_n 3, 1) := by decide +kernel
theorem dX10_beginsFrom_13 : decode cX10_beginsFrom 13 = .ok (.ifCond .ne 18, 3) := by decide +kernel
theorem dX10_beginsFrom_16 : decode cX10_beginsFrom 16 = .ok (.aload_n 0, 1) := by decide +kernel
theorem dX10_beginsFrom_17 : decode cX10_beginsFrom 17 = .ok (.getfield 35, 3) := by decide +kernel
theorem dX10_beginsFrom_20 : decode cX10_beginsFrom 20 = .ok (.bipush 25, 2) := by decide +kernel
theorem dX10_beginsFrom_22 : decode cX10_beginsFrom 22 = .ok (.iload_n 1, 1) := by decide +kernel
theorem dX10_beginsFrom_23 : decode cX10_beginsFrom 23 = .ok (.imul, 1) := by decide +kernel
theorem dX10_beginsFrom_24 : decode cX10_beginsFrom 24 = .ok (.iload 4, 2) := by decide +kernel
theorem dX10_beginsFrom_26 : decode cX10_beginsFrom 26 = .ok (.iadd, 1) := by decide +kernel
theorem dX10_beginsFrom_27 : decode cX10_beginsFrom 27 = .ok (.iaload, 1) := by decide +kernel
theorem dX10_beginsFrom_28 : decode cX10_beginsFrom 28 = .ok (.ifCond .eq 7, 3) := by decide +kernel
theorem dX10_beginsFrom_31 : decode cX10_beginsFrom 31 = .ok (.iconst 1, 1) := by decide +kernel
theorem dX10_beginsFrom_32 : decode cX10_beginsFrom 32 = .ok (.goto 4, 3) := by decide +kernel
theorem dX10_beginsFrom_35 : decode cX10_beginsFrom 35 = .ok (.iconst 0, 1) := by decide +kernel
theorem dX10_beginsFrom_36 : decode cX10_beginsFrom 36 = .ok (.istore_n 3, 1) := by decide +kernel
theorem dX10_beginsFrom_37 : decode cX10_beginsFrom 37 = .ok (.iinc 4 1, 3) := by decide +kernel
theorem dX10_beginsFrom_40 : decode cX10_beginsFrom 40 = .ok (.goto (-35), 3) := by decide +kernel
theorem dX10_beginsFrom_43 : decode cX10_beginsFrom 43 = .ok (.iload_n 3, 1) := by decide +kernel
theorem dX10_beginsFrom_44 : decode cX10_beginsFrom 44 = .ok (.ireturn, 1) := by decide +kernel
set_option maxRecDepth 20000 in
theorem ggX10_endsUpTo_X10_upTo : GoodIn wsX10_endsUpTo wsX10_upTo := goodIn_r _ [5] (by decide +kernel) (by decide +kernel)
set_option maxRecDepth 20000 in
theorem gX10_endsUpTo_X10_upTo : GoodIn wsX10_endsUpTo (va_wsS RX10 88 yX10_upTo wsX10_upTo) := goodIn_app (goodIn_of _ (by decide +kernel)) ggX10_endsUpTo_X10_upTo
theorem dX10_endsUpTo_0 : decode cX10_endsUpTo 0 = .ok (.iconst 0, 1) := by decide +kernel
theorem dX10_endsUpTo_1 : decode cX10_endsUpTo 1 = .ok (.istore_n 3, 1) := by decide +kernel
theorem dX10_endsUpTo_2 : decode cX10_endsUpTo 2 = .ok (.iconst 0, 1) := by decide +kernel
theorem dX10_endsUpTo_3 : decode cX10_endsUpTo 3 = .ok (.istore 4, 2) := by decide +kernel
theorem dX10_endsUpTo_5 : decode cX10_endsUpTo 5 = .ok (.iload 4, 2) := by decide +kernel
theorem dX10_endsUpTo_7 : decode cX10_endsUpTo 7 = .ok (.bipush 25, 2) := by decide +kernel
theorem dX10_endsUpTo_9 : decode cX10_endsUpTo 9 = .ok (.if_icmp .ge 39, 3) := by decide +kernel
theorem dX10_endsUpTo_12 : decode cX10_endsUpTo 12 = .ok (.iload_n 3, 1) := by decide +kernel
theorem dX10_endsUpTo_13 : decode cX10_endsUpTo 13 = .ok (.ifCond .ne 23, 3) := by decide +kernel
theorem dX10_endsUpTo_16 : decode cX10_endsUpTo 16 = .ok (.aload_n 0, 1) := by decide +kernel
theorem dX10_endsUpTo_17 : decode cX10_endsUpTo 17 = .ok (.getfield 35, 3) := by decide +kernel
theorem dX10_endsUpTo_20 : decode cX10_endsUpTo 20 = .ok (.bipush 25, 2) := by decide +kernel
theorem dX10_endsUpTo_22 : decode cX10_endsUpTo 22 = .ok (.iload_n 1, 1) := by decide +kernel
theorem dX10_endsUpTo_23 : decode cX10_endsUpTo 23 = .ok (.imul, 1) := by decide +kernel
theorem dX10_endsUpTo_24 : decode cX10_endsUpTo 24 = .ok (.iload 4, 2) := by decide +kernel
theorem dX10_endsUpTo_26 : decode cX10_endsUpTo 26 = .ok (.iadd, 1) := by decide +kernel
theorem dX10_endsUpTo_27 : decode cX10_endsUpTo 27 = .ok (.iaload, 1) := by decide +kernel
theorem dX10_endsUpTo_28 : decode cX10_endsUpTo 28 = .ok (.iload_n 2, 1) := by decide +kernel
theorem dX10_endsUpTo_29 : decode cX10_endsUpTo 29 = .ok (.invokestatic 88, 3) := by decide +kernel
theorem dX10_endsUpTo_32 : decode cX10_endsUpTo 32 = .ok (.iand, 1) := by decide +kernel
theorem dX10_endsUpTo_33 : decode cX10_endsUpTo 33 = .ok (.ifCond .eq 7, 3) := by decide +kernel
theorem dX10_endsUpTo_36 : decode cX10_endsUpTo 36 = .ok (.iconst 1, 1) := by decide +kernel
theorem dX10_endsUpTo_37 : decode cX10_endsUpTo 37 = .ok (.goto 4, 3) := by decide +kernel
theorem dX10_endsUpTo_40 : decode cX10_endsUpTo 40 = .ok (.iconst 0, 1) := by decide +kernel
theorem dX10_endsUpTo_41 : decode cX10_endsUpTo 41 = .ok (.istore_n 3, 1) := by decide +kernel
theorem dX10_endsUpTo_42 : decode cX10_endsUpTo 42 = .ok (.iinc 4 1, 3) := by decide +kernel
theorem dX10_endsUpTo_45 : decode cX10_endsUpTo 45 = .ok (.goto (-40), 3) := by decide +kernel
theorem dX10_endsUpTo_48 : decode cX10_endsUpTo 48 = .ok (.iload_n 3, 1) := by decide +kernel
theorem dX10_endsUpTo_49 : decode cX10_endsUpTo 49 = .ok (.ireturn, 1) := by decide +kernel
set_option maxRecDepth 20000 in
theorem ggX10_isOne_X10_holds : GoodIn wsX10_isOne wsX10_holds := goodIn_r _ [5, 6, 29, 30, 31, 32, 33, 34, 35, 36, 37, 38, 39, 40, 41] (by decide +kernel) (by decide +kernel)
set_option maxRecDepth 20000 in
theorem gX10_isOne_X10_holds : GoodIn wsX10_isOne (wsV RX10 94 RX10 yX10_holds wsX10_holds) := goodIn_app (goodIn_of _ (by decide +kernel)) ggX10_isOne_X10_holds
set_option maxRecDepth 20000 in
theorem ggX10_isOne_X10_hasWithin : GoodIn wsX10_isOne wsX10_hasWithin := goodIn_r _ [10, 6, 11, 12, 4, 13, 29, 30, 31, 32, 33, 34, 35, 36, 37, 38, 39, 40, 41] (by decide +kernel) (by decide +kernel)
set_option maxRecDepth 20000 in
theorem gX10_isOne_X10_hasWithin : GoodIn wsX10_isOne (wsV RX10 97 RX10 yX10_hasWithin wsX10_hasWithin) := goodIn_app (goodIn_of _ (by decide +kernel)) ggX10_isOne_X10_hasWithin
set_option maxRecDepth 20000 in
theorem ggX10_isOne_X10_liesWithin : GoodIn wsX10_isOne wsX10_liesWithin := goodIn_r _ [17, 6, 18, 19, 4, 20, 29, 30, 31, 32, 33, 34, 35, 36, 37, 38, 39, 40, 41] (by decide +kernel) (by decide +kernel)
set_option maxRecDepth 20000 in
theorem gX10_isOne_X10_liesWithin : GoodIn wsX10_isOne (wsV RX10 101 RX10 yX10_liesWithin wsX10_liesWithin) := goodIn_app (goodIn_of _ (by decide +kernel)) ggX10_isOne_X10_liesWithin
set_option maxRecDepth 20000 in
theorem ggX10_isOne_X10_beginsFrom : GoodIn wsX10_isOne wsX10_beginsFrom := goodIn_r _ [24, 6, 29, 30, 31, 32, 33, 34, 35, 36, 37, 38, 39, 40, 41] (by decide +kernel) (by decide +kernel)
set_option maxRecDepth 20000 in
theorem gX10_isOne_X10_beginsFrom : GoodIn wsX10_isOne (wsV RX10 104 RX10 yX10_beginsFrom wsX10_beginsFrom) := goodIn_app (goodIn_of _ (by decide +kernel)) ggX10_isOne_X10_beginsFrom
set_option maxRecDepth 20000 in
theorem ggX10_isOne_X10_endsUpTo : GoodIn wsX10_isOne wsX10_endsUpTo := goodIn_r _ [28, 6, 11, 12, 4, 13, 29, 30, 31, 32, 33, 34, 35, 36, 37, 38, 39, 40, 41] (by decide +kernel) (by decide +kernel)
set_option maxRecDepth 20000 in
theorem gX10_isOne_X10_endsUpTo : GoodIn wsX10_isOne (wsV RX10 108 RX10 yX10_endsUpTo wsX10_endsUpTo) := goodIn_app (goodIn_of _ (by decide +kernel)) ggX10_isOne_X10_endsUpTo
theorem dX10_isOne_0 : decode cX10_isOne 0 = .ok (.iload_n 1, 1) := by decide +kernel
theorem dX10_isOne_1 : decode cX10_isOne 1 = .ok (.tableswitch 182 1 13 #[67, 76, 93, 103, 121, 131, 149, 157, 182, 182, 182, 182, 164], 67) := by decide +kernel
theorem dX10_isOne_68 : decode cX10_isOne 68 = .ok (.aload_n 0, 1) := by decide +kernel
theorem dX10_isOne_69 : decode cX10_isOne 69 = .ok (.iload_n 2, 1) := by decide +kernel
theorem dX10_isOne_70 : decode cX10_isOne 70 = .ok (.iload_n 3, 1) := by decide +kernel
theorem dX10_isOne_71 : decode cX10_isOne 71 = .ok (.iload 4, 2) := by decide +kernel
theorem dX10_isOne_73 : decode cX10_isOne 73 = .ok (.invokevirtual 94, 3) := by decide +kernel
theorem dX10_isOne_76 : decode cX10_isOne 76 = .ok (.ireturn, 1) := by decide +kernel
theorem dX10_isOne_77 : decode cX10_isOne 77 = .ok (.aload_n 0, 1) := by decide +kernel
theorem dX10_isOne_78 : decode cX10_isOne 78 = .ok (.iload_n 2, 1) := by decide +kernel
theorem dX10_isOne_79 : decode cX10_isOne 79 = .ok (.iload_n 3, 1) := by decide +kernel
theorem dX10_isOne_80 : decode cX10_isOne 80 = .ok (.iload 4, 2) := by decide +kernel
theorem dX10_isOne_82 : decode cX10_isOne 82 = .ok (.invokevirtual 94, 3) := by decide +kernel
theorem dX10_isOne_85 : decode cX10_isOne 85 = .ok (.ifCond .ne 7, 3) := by decide +kernel
theorem dX10_isOne_88 : decode cX10_isOne 88 = .ok (.iconst 1, 1) := by decide +kernel
theorem dX10_isOne_89 : decode cX10_isOne 89 = .ok (.goto 4, 3) := by decide +kernel
theorem dX10_isOne_92 : decode cX10_isOne 92 = .ok (.iconst 0, 1) := by decide +kernel
theorem dX10_isOne_93 : decode cX10_isOne 93 = .ok (.ireturn, 1) := by decide +kernel
theorem dX10_isOne_94 : decode cX10_isOne 94 = .ok (.aload_n 0, 1) := by decide +kernel
theorem dX10_isOne_95 : decode cX10_isOne 95 = .ok (.iload_n 2, 1) := by decide +kernel
theorem dX10_isOne_96 : decode cX10_isOne 96 = .ok (.iload_n 3, 1) := by decide +kernel
theorem dX10_isOne_97 : decode cX10_isOne 97 = .ok (.iload 4, 2) := by decide +kernel
theorem dX10_isOne_99 : decode cX10_isOne 99 = .ok (.iconst 0, 1) := by decide +kernel
theorem dX10_isOne_100 : decode cX10_isOne 100 = .ok (.invokevirtual 97, 3) := by decide +kernel
theorem dX10_isOne_103 : decode cX10_isOne 103 = .ok (.ireturn, 1) := by decide +kernel
theorem dX10_isOne_104 : decode cX10_isOne 104 = .ok (.aload_n 0, 1) := by decide +kernel
theorem dX10_isOne_105 : decode cX10_isOne 105 = .ok (.iload_n 2, 1) := by decide +kernel
theorem dX10_isOne_106 : decode cX10_isOne 106 = .ok (.iload_n 3, 1) := by decide +kernel
theorem dX10_isOne_107 : decode cX10_isOne 107 = .ok (.iload 4, 2) := by decide +kernel
theorem dX10_isOne_109 : decode cX10_isOne 109 = .ok (.iconst 0, 1) := by decide +kernel
theorem dX10_isOne_110 : decode cX10_isOne 110 = .ok (.invokevirtual 97, 3) := by decide +kernel
theorem dX10_isOne_113 : decode cX10_isOne 113 = .ok (.ifCond .ne 7, 3) := by decide +kernel
theorem dX10_isOne_116 : decode cX10_isOne 116 = .ok (.iconst 1, 1) := by decide +kernel
theorem dX10_isOne_117 : decode cX10_isOne 117 = .ok (.goto 4, 3) := by decide +kernel
theorem dX10_isOne_120 : decode cX10_isOne 120 = .ok (.iconst 0, 1) := by decide +kernel
theorem dX10_isOne_121 : decode cX10_isOne 121 = .ok (.ireturn, 1) := by decide +kernel
theorem dX10_isOne_122 : decode cX10_isOne 122 = .ok (.aload_n 0, 1) := by decide +kernel
theorem dX10_isOne_123 : decode cX10_isOne 123 = .ok (.iload_n 2, 1) := by decide +kernel
theorem dX10_isOne_124 : decode cX10_isOne 124 = .ok (.iload_n 3, 1) := by decide +kernel
theorem dX10_isOne_125 : decode cX10_isOne 125 = .ok (.iload 4, 2) := by decide +kernel
theorem dX10_isOne_127 : decode cX10_isOne 127 = .ok (.iconst 0, 1) := by decide +kernel
theorem dX10_isOne_128 : decode cX10_isOne 128 = .ok (.invokevirtual 101, 3) := by decide +kernel
theorem dX10_isOne_131 : decode cX10_isOne 131 = .ok (.ireturn, 1) := by decide +kernel
theorem dX10_isOne_132 : decode cX10_isOne 132 = .ok (.aload_n 0, 1) := by decide +kernel
theorem dX10_isOne_133 : decode cX10_isOne 133 = .ok (.iload_n 2, 1) := by decide +kernel
theorem dX10_isOne_134 : decode cX10_isOne 134 = .ok (.iload_n 3, 1) := by decide +kernel
theorem dX10_isOne_135 : decode cX10_isOne 135 = .ok (.iload 4, 2) := by decide +kernel
theorem dX10_isOne_137 : decode cX10_isOne 137 = .ok (.iconst 0, 1) := by decide +kernel
theorem dX10_isOne_138 : decode cX10_isOne 138 = .ok (.invokevirtual 101, 3) := by decide +kernel
theorem dX10_isOne_141 : decode cX10_isOne 141 = .ok (.ifCond .ne 7, 3) := by decide +kernel
theorem dX10_isOne_144 : decode cX10_isOne 144 = .ok (.iconst 1, 1) := by decide +kernel
theorem dX10_isOne_145 : decode cX10_isOne 145 = .ok (.goto 4, 3) := by decide +kernel
theorem dX10_isOne_148 : decode cX10_isOne 148 = .ok (.iconst 0, 1) := by decide +kernel
theorem dX10_isOne_149 : decode cX10_isOne 149 = .ok (.ireturn, 1) := by decide +kernel
theorem dX10_isOne_150 : decode cX10_isOne 150 = .ok (.aload_n 0, 1) := by decide +kernel
theorem dX10_isOne_151 : decode cX10_isOne 151 = .ok (.iload_n 2, 1) := by decide +kernel
theorem dX10_isOne_152 : decode cX10_isOne 152 = .ok (.iload 4, 2) := by decide +kernel
theorem dX10_isOne_154 : decode cX10_isOne 154 = .ok (.invokevirtual 104, 3) := by decide +kernel
theorem dX10_isOne_157 : decode cX10_isOne 157 = .ok (.ireturn, 1) := by decide +kernel
theorem dX10_isOne_158 : decode cX10_isOne 158 = .ok (.aload_n 0, 1) := by decide +kernel
theorem dX10_isOne_159 : decode cX10_isOne 159 = .ok (.iload_n 2, 1) := by decide +kernel
theorem dX10_isOne_160 : decode cX10_isOne 160 = .ok (.iload_n 3, 1) := by decide +kernel
theorem dX10_isOne_161 : decode cX10_isOne 161 = .ok (.invokevirtual 108, 3) := by decide +kernel
theorem dX10_isOne_164 : decode cX10_isOne 164 = .ok (.ireturn, 1) := by decide +kernel
theorem dX10_isOne_165 : decode cX10_isOne 165 = .ok (.aload_n 0, 1) := by decide +kernel
theorem dX10_isOne_166 : decode cX10_isOne 166 = .ok (.iload_n 2, 1) := by decide +kernel
theorem dX10_isOne_167 : decode cX10_isOne 167 = .ok (.iload_n 3, 1) := by decide +kernel
theorem dX10_isOne_168 : decode cX10_isOne 168 = .ok (.iload 4, 2) := by decide +kernel
theorem dX10_isOne_170 : decode cX10_isOne 170 = .ok (.iconst 1, 1) := by decide +kernel
theorem dX10_isOne_171 : decode cX10_isOne 171 = .ok (.invokevirtual 97, 3) := by decide +kernel
theorem dX10_isOne_174 : decode cX10_isOne 174 = .ok (.ifCond .ne 7, 3) := by decide +kernel
theorem dX10_isOne_177 : decode cX10_isOne 177 = .ok (.iconst 1, 1) := by decide +kernel
theorem dX10_isOne_178 : decode cX10_isOne 178 = .ok (.goto 4, 3) := by decide +kernel
theorem dX10_isOne_181 : decode cX10_isOne 181 = .ok (.iconst 0, 1) := by decide +kernel
theorem dX10_isOne_182 : decode cX10_isOne 182 = .ok (.ireturn, 1) := by decide +kernel
theorem dX10_isOne_183 : decode cX10_isOne 183 = .ok (.aload_n 0, 1) := by decide +kernel
theorem dX10_isOne_184 : decode cX10_isOne 184 = .ok (.iload_n 2, 1) := by decide +kernel
theorem dX10_isOne_185 : decode cX10_isOne 185 = .ok (.iload_n 3, 1) := by decide +kernel
theorem dX10_isOne_186 : decode cX10_isOne 186 = .ok (.iload 4, 2) := by decide +kernel
theorem dX10_isOne_188 : decode cX10_isOne 188 = .ok (.iconst 1, 1) := by decide +kernel
theorem dX10_isOne_189 : decode cX10_isOne 189 = .ok (.invokevirtual 101, 3) := by decide +kernel
theorem dX10_isOne_192 : decode cX10_isOne 192 = .ok (.ifCond .ne 7, 3) := by decide +kernel
theorem dX10_isOne_195 : decode cX10_isOne 195 = .ok (.iconst 1, 1) := by decide +kernel
theorem dX10_isOne_196 : decode cX10_isOne 196 = .ok (.goto 4, 3) := by decide +kernel
theorem dX10_isOne_199 : decode cX10_isOne 199 = .ok (.iconst 0, 1) := by decide +kernel
theorem dX10_isOne_200 : decode cX10_isOne 200 = .ok (.ireturn, 1) := by decide +kernel
theorem dX10_layLeaf_0 : decode cX10_layLeaf 0 = .ok (.iconst 0, 1) := by decide +kernel
theorem dX10_layLeaf_1 : decode cX10_layLeaf 1 = .ok (.istore_n 2, 1) := by decide +kernel
theorem dX10_layLeaf_2 : decode cX10_layLeaf 2 = .ok (.iload_n 2, 1) := by decide +kernel
theorem dX10_layLeaf_3 : decode cX10_layLeaf 3 = .ok (.bipush 25, 2) := by decide +kernel
theorem dX10_layLeaf_5 : decode cX10_layLeaf 5 = .ok (.if_icmp .ge 90, 3) := by decide +kernel
theorem dX10_layLeaf_8 : decode cX10_layLeaf 8 = .ok (.iload_n 2, 1) := by decide +kernel
theorem dX10_layLeaf_9 : decode cX10_layLeaf 9 = .ok (.aload_n 0, 1) := by decide +kernel
theorem dX10_layLeaf_10 : decode cX10_layLeaf 10 = .ok (.getfield 52, 3) := by decide +kernel
theorem dX10_layLeaf_13 : decode cX10_layLeaf 13 = .ok (.if_icmp .ge 22, 3) := by decide +kernel
theorem dX10_layLeaf_16 : decode cX10_layLeaf 16 = .ok (.aload_n 0, 1) := by decide +kernel
theorem dX10_layLeaf_17 : decode cX10_layLeaf 17 = .ok (.getfield 7, 3) := by decide +kernel
theorem dX10_layLeaf_20 : decode cX10_layLeaf 20 = .ok (.iload_n 2, 1) := by decide +kernel
theorem dX10_layLeaf_21 : decode cX10_layLeaf 21 = .ok (.iaload, 1) := by decide +kernel
theorem dX10_layLeaf_22 : decode cX10_layLeaf 22 = .ok (.aload_n 0, 1) := by decide +kernel
theorem dX10_layLeaf_23 : decode cX10_layLeaf 23 = .ok (.getfield 19, 3) := by decide +kernel
theorem dX10_layLeaf_26 : decode cX10_layLeaf 26 = .ok (.iload_n 1, 1) := by decide +kernel
theorem dX10_layLeaf_27 : decode cX10_layLeaf 27 = .ok (.iaload, 1) := by decide +kernel
theorem dX10_layLeaf_28 : decode cX10_layLeaf 28 = .ok (.if_icmp .ne 7, 3) := by decide +kernel
theorem dX10_layLeaf_31 : decode cX10_layLeaf 31 = .ok (.iconst 1, 1) := by decide +kernel
theorem dX10_layLeaf_32 : decode cX10_layLeaf 32 = .ok (.goto 4, 3) := by decide +kernel
theorem dX10_layLeaf_35 : decode cX10_layLeaf 35 = .ok (.iconst 0, 1) := by decide +kernel
theorem dX10_layLeaf_36 : decode cX10_layLeaf 36 = .ok (.istore_n 3, 1) := by decide +kernel
theorem dX10_layLeaf_37 : decode cX10_layLeaf 37 = .ok (.aload_n 0, 1) := by decide +kernel
theorem dX10_layLeaf_38 : decode cX10_layLeaf 38 = .ok (.getfield 35, 3) := by decide +kernel
theorem dX10_layLeaf_41 : decode cX10_layLeaf 41 = .ok (.bipush 25, 2) := by decide +kernel
theorem dX10_layLeaf_43 : decode cX10_layLeaf 43 = .ok (.iload_n 1, 1) := by decide +kernel
theorem dX10_layLeaf_44 : decode cX10_layLeaf 44 = .ok (.imul, 1) := by decide +kernel
theorem dX10_layLeaf_45 : decode cX10_layLeaf 45 = .ok (.iload_n 2, 1) := by decide +kernel
theorem dX10_layLeaf_46 : decode cX10_layLeaf 46 = .ok (.iadd, 1) := by decide +kernel
theorem dX10_layLeaf_47 : decode cX10_layLeaf 47 = .ok (.aload_n 0, 1) := by decide +kernel
theorem dX10_layLeaf_48 : decode cX10_layLeaf 48 = .ok (.getfield 16, 3) := by decide +kernel
theorem dX10_layLeaf_51 : decode cX10_layLeaf 51 = .ok (.iload_n 1, 1) := by decide +kernel
theorem dX10_layLeaf_52 : decode cX10_layLeaf 52 = .ok (.iaload, 1) := by decide +kernel
theorem dX10_layLeaf_53 : decode cX10_layLeaf 53 = .ok (.bipush 12, 2) := by decide +kernel
theorem dX10_layLeaf_55 : decode cX10_layLeaf 55 = .ok (.if_icmp .ne 22, 3) := by decide +kernel
theorem dX10_layLeaf_58 : decode cX10_layLeaf 58 = .ok (.aload_n 0, 1) := by decide +kernel
theorem dX10_layLeaf_59 : decode cX10_layLeaf 59 = .ok (.getfield 13, 3) := by decide +kernel
theorem dX10_layLeaf_62 : decode cX10_layLeaf 62 = .ok (.bipush 25, 2) := by decide +kernel
theorem dX10_layLeaf_64 : decode cX10_layLeaf 64 = .ok (.aload_n 0, 1) := by decide +kernel
theorem dX10_layLeaf_65 : decode cX10_layLeaf 65 = .ok (.getfield 19, 3) := by decide +kernel
theorem dX10_layLeaf_68 : decode cX10_layLeaf 68 = .ok (.iload_n 1, 1) := by decide +kernel
theorem dX10_layLeaf_69 : decode cX10_layLeaf 69 = .ok (.iaload, 1) := by decide +kernel
theorem dX10_layLeaf_70 : decode cX10_layLeaf 70 = .ok (.imul, 1) := by decide +kernel
theorem dX10_layLeaf_71 : decode cX10_layLeaf 71 = .ok (.iload_n 2, 1) := by decide +kernel
theorem dX10_layLeaf_72 : decode cX10_layLeaf 72 = .ok (.iadd, 1) := by decide +kernel
theorem dX10_layLeaf_73 : decode cX10_layLeaf 73 = .ok (.iaload, 1) := by decide +kernel
theorem dX10_layLeaf_74 : decode cX10_layLeaf 74 = .ok (.goto 14, 3) := by decide +kernel
theorem dX10_layLeaf_77 : decode cX10_layLeaf 77 = .ok (.iload_n 3, 1) := by decide +kernel
theorem dX10_layLeaf_78 : decode cX10_layLeaf 78 = .ok (.ifCond .eq 9, 3) := by decide +kernel
theorem dX10_layLeaf_81 : decode cX10_layLeaf 81 = .ok (.iconst 2, 1) := by decide +kernel
theorem dX10_layLeaf_82 : decode cX10_layLeaf 82 = .ok (.iload_n 2, 1) := by decide +kernel
theorem dX10_layLeaf_83 : decode cX10_layLeaf 83 = .ok (.ishl, 1) := by decide +kernel
theorem dX10_layLeaf_84 : decode cX10_layLeaf 84 = .ok (.goto 4, 3) := by decide +kernel
theorem dX10_layLeaf_87 : decode cX10_layLeaf 87 = .ok (.iconst 0, 1) := by decide +kernel
theorem dX10_layLeaf_88 : decode cX10_layLeaf 88 = .ok (.iastore, 1) := by decide +kernel
theorem dX10_layLeaf_89 : decode cX10_layLeaf 89 = .ok (.iinc 2 1, 3) := by decide +kernel
theorem dX10_layLeaf_92 : decode cX10_layLeaf 92 = .ok (.goto (-90), 3) := by decide +kernel
theorem dX10_layLeaf_95 : decode cX10_layLeaf 95 = .ok (.return_, 1) := by decide +kernel
set_option maxRecDepth 20000 in
theorem ggX10_layJoined_X10_holds : GoodIn wsX10_layJoined wsX10_holds := goodIn_r _ [8, 3, 9, 10, 11, 12, 13, 14, 15, 16, 17, 18, 19, 20, 21] (by decide +kernel) (by decide +kernel)
set_option maxRecDepth 20000 in
theorem gX10_layJoined_X10_holds : GoodIn wsX10_layJoined (wsV RX10 94 RX10 yX10_holds wsX10_holds) := goodIn_app (goodIn_of _ (by decide +kernel)) ggX10_layJoined_X10_holds
theorem dX10_layJoined_0 : decode cX10_layJoined 0 = .ok (.aload_n 0, 1) := by decide +kernel
theorem dX10_layJoined_1 : decode cX10_layJoined 1 = .ok (.getfield 19, 3) := by decide +kernel
theorem dX10_layJoined_4 : decode cX10_layJoined 4 = .ok (.iload_n 1, 1) := by decide +kernel
theorem dX10_layJoined_5 : decode cX10_layJoined 5 = .ok (.iaload, 1) := by decide +kernel
theorem dX10_layJoined_6 : decode cX10_layJoined 6 = .ok (.istore_n 3, 1) := by decide +kernel
theorem dX10_layJoined_7 : decode cX10_layJoined 7 = .ok (.aload_n 0, 1) := by decide +kernel
theorem dX10_layJoined_8 : decode cX10_layJoined 8 = .ok (.getfield 22, 3) := by decide +kernel
theorem dX10_layJoined_11 : decode cX10_layJoined 11 = .ok (.iload_n 1, 1) := by decide +kernel
theorem dX10_layJoined_12 : decode cX10_layJoined 12 = .ok (.iaload, 1) := by decide +kernel
theorem dX10_layJoined_13 : decode cX10_layJoined 13 = .ok (.istore 4, 2) := by decide +kernel
theorem dX10_layJoined_15 : decode cX10_layJoined 15 = .ok (.iconst 0, 1) := by decide +kernel
theorem dX10_layJoined_16 : decode cX10_layJoined 16 = .ok (.istore 5, 2) := by decide +kernel
theorem dX10_layJoined_18 : decode cX10_layJoined 18 = .ok (.iload 5, 2) := by decide +kernel
theorem dX10_layJoined_20 : decode cX10_layJoined 20 = .ok (.bipush 25, 2) := by decide +kernel
theorem dX10_layJoined_22 : decode cX10_layJoined 22 = .ok (.if_icmp .ge 101, 3) := by decide +kernel
theorem dX10_layJoined_25 : decode cX10_layJoined 25 = .ok (.iconst 0, 1) := by decide +kernel
theorem dX10_layJoined_26 : decode cX10_layJoined 26 = .ok (.istore 6, 2) := by decide +kernel
theorem dX10_layJoined_28 : decode cX10_layJoined 28 = .ok (.iload 5, 2) := by decide +kernel
theorem dX10_layJoined_30 : decode cX10_layJoined 30 = .ok (.iconst 1, 1) := by decide +kernel
theorem dX10_layJoined_31 : decode cX10_layJoined 31 = .ok (.iadd, 1) := by decide +kernel
theorem dX10_layJoined_32 : decode cX10_layJoined 32 = .ok (.istore 7, 2) := by decide +kernel
theorem dX10_layJoined_34 : decode cX10_layJoined 34 = .ok (.iload 7, 2) := by decide +kernel
theorem dX10_layJoined_36 : decode cX10_layJoined 36 = .ok (.bipush 25, 2) := by decide +kernel
theorem dX10_layJoined_38 : decode cX10_layJoined 38 = .ok (.if_icmp .ge 65, 3) := by decide +kernel
theorem dX10_layJoined_41 : decode cX10_layJoined 41 = .ok (.iload 7, 2) := by decide +kernel
theorem dX10_layJoined_43 : decode cX10_layJoined 43 = .ok (.istore 8, 2) := by decide +kernel
theorem dX10_layJoined_45 : decode cX10_layJoined 45 = .ok (.iload 8, 2) := by decide +kernel
theorem dX10_layJoined_47 : decode cX10_layJoined 47 = .ok (.bipush 25, 2) := by decide +kernel
theorem dX10_layJoined_49 : decode cX10_layJoined 49 = .ok (.if_icmp .ge 48, 3) := by decide +kernel
theorem dX10_layJoined_52 : decode cX10_layJoined 52 = .ok (.iload 8, 2) := by decide +kernel
theorem dX10_layJoined_54 : decode cX10_layJoined 54 = .ok (.iload 7, 2) := by decide +kernel
theorem dX10_layJoined_56 : decode cX10_layJoined 56 = .ok (.iload_n 2, 1) := by decide +kernel
theorem dX10_layJoined_57 : decode cX10_layJoined 57 = .ok (.iadd, 1) := by decide +kernel
theorem dX10_layJoined_58 : decode cX10_layJoined 58 = .ok (.if_icmp .gt 39, 3) := by decide +kernel
theorem dX10_layJoined_61 : decode cX10_layJoined 61 = .ok (.aload_n 0, 1) := by decide +kernel
theorem dX10_layJoined_62 : decode cX10_layJoined 62 = .ok (.iload_n 3, 1) := by decide +kernel
theorem dX10_layJoined_63 : decode cX10_layJoined 63 = .ok (.iload 5, 2) := by decide +kernel
theorem dX10_layJoined_65 : decode cX10_layJoined 65 = .ok (.iload 7, 2) := by decide +kernel
theorem dX10_layJoined_67 : decode cX10_layJoined 67 = .ok (.invokevirtual 94, 3) := by decide +kernel
theorem dX10_layJoined_70 : decode cX10_layJoined 70 = .ok (.ifCond .eq 27, 3) := by decide +kernel
theorem dX10_layJoined_73 : decode cX10_layJoined 73 = .ok (.iload 6, 2) := by decide +kernel
theorem dX10_layJoined_75 : decode cX10_layJoined 75 = .ok (.aload_n 0, 1) := by decide +kernel
theorem dX10_layJoined_76 : decode cX10_layJoined 76 = .ok (.getfield 35, 3) := by decide +kernel
theorem dX10_layJoined_79 : decode cX10_layJoined 79 = .ok (.bipush 25, 2) := by decide +kernel
theorem dX10_layJoined_81 : decode cX10_layJoined 81 = .ok (.iload 4, 2) := by decide +kernel
theorem dX10_layJoined_83 : decode cX10_layJoined 83 = .ok (.imul, 1) := by decide +kernel
theorem dX10_layJoined_84 : decode cX10_layJoined 84 = .ok (.iload 8, 2) := by decide +kernel
theorem dX10_layJoined_86 : decode cX10_layJoined 86 = .ok (.iadd, 1) := by decide +kernel
theorem dX10_layJoined_87 : decode cX10_layJoined 87 = .ok (.iaload, 1) := by decide +kernel
theorem dX10_layJoined_88 : decode cX10_layJoined 88 = .ok (.ior, 1) := by decide +kernel
theorem dX10_layJoined_89 : decode cX10_layJoined 89 = .ok (.istore 6, 2) := by decide +kernel
theorem dX10_layJoined_91 : decode cX10_layJoined 91 = .ok (.iinc 8 1, 3) := by decide +kernel
theorem dX10_layJoined_94 : decode cX10_layJoined 94 = .ok (.goto (-49), 3) := by decide +kernel
theorem dX10_layJoined_97 : decode cX10_layJoined 97 = .ok (.iinc 7 1, 3) := by decide +kernel
theorem dX10_layJoined_100 : decode cX10_layJoined 100 = .ok (.goto (-66), 3) := by decide +kernel
theorem dX10_layJoined_103 : decode cX10_layJoined 103 = .ok (.aload_n 0, 1) := by decide +kernel
theorem dX10_layJoined_104 : decode cX10_layJoined 104 = .ok (.getfield 35, 3) := by decide +kernel
theorem dX10_layJoined_107 : decode cX10_layJoined 107 = .ok (.bipush 25, 2) := by decide +kernel
theorem dX10_layJoined_109 : decode cX10_layJoined 109 = .ok (.iload_n 1, 1) := by decide +kernel
theorem dX10_layJoined_110 : decode cX10_layJoined 110 = .ok (.imul, 1) := by decide +kernel
theorem dX10_layJoined_111 : decode cX10_layJoined 111 = .ok (.iload 5, 2) := by decide +kernel
theorem dX10_layJoined_113 : decode cX10_layJoined 113 = .ok (.iadd, 1) := by decide +kernel
theorem dX10_layJoined_114 : decode cX10_layJoined 114 = .ok (.iload 6, 2) := by decide +kernel
theorem dX10_layJoined_116 : decode cX10_layJoined 116 = .ok (.iastore, 1) := by decide +kernel
theorem dX10_layJoined_117 : decode cX10_layJoined 117 = .ok (.iinc 5 1, 3) := by decide +kernel
theorem dX10_layJoined_120 : decode cX10_layJoined 120 = .ok (.goto (-102), 3) := by decide +kernel
theorem dX10_layJoined_123 : decode cX10_layJoined 123 = .ok (.return_, 1) := by decide +kernel
set_option maxRecDepth 20000 in
theorem ggX10_leaveInner_X10_holds : GoodIn wsX10_leaveInner wsX10_holds := goodIn_r _ [7, 2, 15, 16, 17, 18, 19, 20, 21, 22, 23, 24, 25, 26, 27] (by decide +kernel) (by decide +kernel)
set_option maxRecDepth 20000 in
theorem gX10_leaveInner_X10_holds : GoodIn wsX10_leaveInner (wsV RX10 94 RX10 yX10_holds wsX10_holds) := goodIn_app (goodIn_of _ (by decide +kernel)) ggX10_leaveInner_X10_holds
set_option maxRecDepth 20000 in
theorem ggX10_leaveInner_X10_hasWithin : GoodIn wsX10_leaveInner wsX10_hasWithin := goodIn_r _ [11, 2, 12, 13, 6, 14, 15, 16, 17, 18, 19, 20, 21, 22, 23, 24, 25, 26, 27] (by decide +kernel) (by decide +kernel)
set_option maxRecDepth 20000 in
theorem gX10_leaveInner_X10_hasWithin : GoodIn wsX10_leaveInner (wsV RX10 97 RX10 yX10_hasWithin wsX10_hasWithin) := goodIn_app (goodIn_of _ (by decide +kernel)) ggX10_leaveInner_X10_hasWithin
theorem dX10_leaveInner_0 : decode cX10_leaveInner 0 = .ok (.iconst 0, 1) := by decide +kernel
theorem dX10_leaveInner_1 : decode cX10_leaveInner 1 = .ok (.istore_n 2, 1) := by decide +kernel
theorem dX10_leaveInner_2 : decode cX10_leaveInner 2 = .ok (.iload_n 2, 1) := by decide +kernel
theorem dX10_leaveInner_3 : decode cX10_leaveInner 3 = .ok (.bipush 25, 2) := by decide +kernel
theorem dX10_leaveInner_5 : decode cX10_leaveInner 5 = .ok (.if_icmp .ge 16, 3) := by decide +kernel
theorem dX10_leaveInner_8 : decode cX10_leaveInner 8 = .ok (.aload_n 0, 1) := by decide +kernel
theorem dX10_leaveInner_9 : decode cX10_leaveInner 9 = .ok (.getfield 38, 3) := by decide +kernel
theorem dX10_leaveInner_12 : decode cX10_leaveInner 12 = .ok (.iload_n 2, 1) := by decide +kernel
theorem dX10_leaveInner_13 : decode cX10_leaveInner 13 = .ok (.iconst 0, 1) := by decide +kernel
theorem dX10_leaveInner_14 : decode cX10_leaveInner 14 = .ok (.iastore, 1) := by decide +kernel
theorem dX10_leaveInner_15 : decode cX10_leaveInner 15 = .ok (.iinc 2 1, 3) := by decide +kernel
theorem dX10_leaveInner_18 : decode cX10_leaveInner 18 = .ok (.goto (-16), 3) := by decide +kernel
theorem dX10_leaveInner_21 : decode cX10_leaveInner 21 = .ok (.iconst 0, 1) := by decide +kernel
theorem dX10_leaveInner_22 : decode cX10_leaveInner 22 = .ok (.istore_n 2, 1) := by decide +kernel
theorem dX10_leaveInner_23 : decode cX10_leaveInner 23 = .ok (.iload_n 2, 1) := by decide +kernel
theorem dX10_leaveInner_24 : decode cX10_leaveInner 24 = .ok (.sipush 625, 3) := by decide +kernel
theorem dX10_leaveInner_27 : decode cX10_leaveInner 27 = .ok (.if_icmp .ge 56, 3) := by decide +kernel
theorem dX10_leaveInner_30 : decode cX10_leaveInner 30 = .ok (.iload_n 2, 1) := by decide +kernel
theorem dX10_leaveInner_31 : decode cX10_leaveInner 31 = .ok (.bipush 25, 2) := by decide +kernel
theorem dX10_leaveInner_33 : decode cX10_leaveInner 33 = .ok (.idiv, 1) := by decide +kernel
theorem dX10_leaveInner_34 : decode cX10_leaveInner 34 = .ok (.istore_n 3, 1) := by decide +kernel
theorem dX10_leaveInner_35 : decode cX10_leaveInner 35 = .ok (.iload_n 2, 1) := by decide +kernel
theorem dX10_leaveInner_36 : decode cX10_leaveInner 36 = .ok (.bipush 25, 2) := by decide +kernel
theorem dX10_leaveInner_38 : decode cX10_leaveInner 38 = .ok (.irem, 1) := by decide +kernel
theorem dX10_leaveInner_39 : decode cX10_leaveInner 39 = .ok (.istore 4, 2) := by decide +kernel
theorem dX10_leaveInner_41 : decode cX10_leaveInner 41 = .ok (.aload_n 0, 1) := by decide +kernel
theorem dX10_leaveInner_42 : decode cX10_leaveInner 42 = .ok (.iload_n 1, 1) := by decide +kernel
theorem dX10_leaveInner_43 : decode cX10_leaveInner 43 = .ok (.iload_n 3, 1) := by decide +kernel
theorem dX10_leaveInner_44 : decode cX10_leaveInner 44 = .ok (.iload 4, 2) := by decide +kernel
theorem dX10_leaveInner_46 : decode cX10_leaveInner 46 = .ok (.invokevirtual 94, 3) := by decide +kernel
theorem dX10_leaveInner_49 : decode cX10_leaveInner 49 = .ok (.ifCond .eq 28, 3) := by decide +kernel
theorem dX10_leaveInner_52 : decode cX10_leaveInner 52 = .ok (.aload_n 0, 1) := by decide +kernel
theorem dX10_leaveInner_53 : decode cX10_leaveInner 53 = .ok (.iload_n 1, 1) := by decide +kernel
theorem dX10_leaveInner_54 : decode cX10_leaveInner 54 = .ok (.iload_n 3, 1) := by decide +kernel
theorem dX10_leaveInner_55 : decode cX10_leaveInner 55 = .ok (.iload 4, 2) := by decide +kernel
theorem dX10_leaveInner_57 : decode cX10_leaveInner 57 = .ok (.iconst 1, 1) := by decide +kernel
theorem dX10_leaveInner_58 : decode cX10_leaveInner 58 = .ok (.invokevirtual 97, 3) := by decide +kernel
theorem dX10_leaveInner_61 : decode cX10_leaveInner 61 = .ok (.ifCond .ne 16, 3) := by decide +kernel
theorem dX10_leaveInner_64 : decode cX10_leaveInner 64 = .ok (.aload_n 0, 1) := by decide +kernel
theorem dX10_leaveInner_65 : decode cX10_leaveInner 65 = .ok (.getfield 38, 3) := by decide +kernel
theorem dX10_leaveInner_68 : decode cX10_leaveInner 68 = .ok (.iload_n 3, 1) := by decide +kernel
theorem dX10_leaveInner_69 : decode cX10_leaveInner 69 = .ok (.dup2, 1) := by decide +kernel
theorem dX10_leaveInner_70 : decode cX10_leaveInner 70 = .ok (.iaload, 1) := by decide +kernel
theorem dX10_leaveInner_71 : decode cX10_leaveInner 71 = .ok (.iconst 1, 1) := by decide +kernel
theorem dX10_leaveInner_72 : decode cX10_leaveInner 72 = .ok (.iload 4, 2) := by decide +kernel
theorem dX10_leaveInner_74 : decode cX10_leaveInner 74 = .ok (.ishl, 1) := by decide +kernel
theorem dX10_leaveInner_75 : decode cX10_leaveInner 75 = .ok (.ior, 1) := by decide +kernel
theorem dX10_leaveInner_76 : decode cX10_leaveInner 76 = .ok (.iastore, 1) := by decide +kernel
theorem dX10_leaveInner_77 : decode cX10_leaveInner 77 = .ok (.iinc 2 1, 3) := by decide +kernel
theorem dX10_leaveInner_80 : decode cX10_leaveInner 80 = .ok (.goto (-57), 3) := by decide +kernel
theorem dX10_leaveInner_83 : decode cX10_leaveInner 83 = .ok (.iconst 0, 1) := by decide +kernel
theorem dX10_leaveInner_84 : decode cX10_leaveInner 84 = .ok (.istore_n 2, 1) := by decide +kernel
theorem dX10_leaveInner_85 : decode cX10_leaveInner 85 = .ok (.iload_n 2, 1) := by decide +kernel
theorem dX10_leaveInner_86 : decode cX10_leaveInner 86 = .ok (.bipush 25, 2) := by decide +kernel
theorem dX10_leaveInner_88 : decode cX10_leaveInner 88 = .ok (.if_icmp .ge 26, 3) := by decide +kernel
theorem dX10_leaveInner_91 : decode cX10_leaveInner 91 = .ok (.aload_n 0, 1) := by decide +kernel
theorem dX10_leaveInner_92 : decode cX10_leaveInner 92 = .ok (.getfield 35, 3) := by decide +kernel
theorem dX10_leaveInner_95 : decode cX10_leaveInner 95 = .ok (.bipush 25, 2) := by decide +kernel
theorem dX10_leaveInner_97 : decode cX10_leaveInner 97 = .ok (.iload_n 1, 1) := by decide +kernel
theorem dX10_leaveInner_98 : decode cX10_leaveInner 98 = .ok (.imul, 1) := by decide +kernel
theorem dX10_leaveInner_99 : decode cX10_leaveInner 99 = .ok (.iload_n 2, 1) := by decide +kernel
theorem dX10_leaveInner_100 : decode cX10_leaveInner 100 = .ok (.iadd, 1) := by decide +kernel
theorem dX10_leaveInner_101 : decode cX10_leaveInner 101 = .ok (.aload_n 0, 1) := by decide +kernel
theorem dX10_leaveInner_102 : decode cX10_leaveInner 102 = .ok (.getfield 38, 3) := by decide +kernel
theorem dX10_leaveInner_105 : decode cX10_leaveInner 105 = .ok (.iload_n 2, 1) := by decide +kernel
theorem dX10_leaveInner_106 : decode cX10_leaveInner 106 = .ok (.iaload, 1) := by decide +kernel
theorem dX10_leaveInner_107 : decode cX10_leaveInner 107 = .ok (.iastore, 1) := by decide +kernel
theorem dX10_leaveInner_108 : decode cX10_leaveInner 108 = .ok (.iinc 2 1, 3) := by decide +kernel
theorem dX10_leaveInner_111 : decode cX10_leaveInner 111 = .ok (.goto (-26), 3) := by decide +kernel
theorem dX10_leaveInner_114 : decode cX10_leaveInner 114 = .ok (.return_, 1) := by decide +kernel
set_option maxRecDepth 20000 in
theorem ggX10_layNode_X10_layLeaf : GoodIn wsX10_layNode wsX10_layLeaf := goodIn_r _ [10, 11, 12, 5, 3, 1, 13, 53, 54, 55, 56, 57, 58, 59, 60, 61, 62, 63, 64, 65] (by decide +kernel) (by decide +kernel)
set_option maxRecDepth 20000 in
theorem gX10_layNode_X10_layLeaf : GoodIn wsX10_layNode (wsV RX10 111 RX10 yX10_layLeaf wsX10_layLeaf) := goodIn_app (goodIn_of _ (by decide +kernel)) ggX10_layNode_X10_layLeaf
set_option maxRecDepth 20000 in
theorem ggX10_layNode_X10_layJoined : GoodIn wsX10_layNode wsX10_layJoined := goodIn_r _ [17, 5, 4, 3, 18, 19, 20, 9, 21, 53, 54, 55, 56, 57, 58, 59, 60, 61, 62, 63, 64, 65] (by decide +kernel) (by decide +kernel)
set_option maxRecDepth 20000 in
theorem gX10_layNode_X10_layJoined : GoodIn wsX10_layNode (wsV RX10 115 RX10 yX10_layJoined wsX10_layJoined) := goodIn_app (goodIn_of _ (by decide +kernel)) ggX10_layNode_X10_layJoined
set_option maxRecDepth 20000 in
theorem ggX10_layNode_X10_leaveInner : GoodIn wsX10_layNode wsX10_leaveInner := goodIn_r _ [25, 26, 3, 18, 19, 20, 9, 21, 27, 28, 29, 30, 31, 32, 33, 53, 54, 55, 56, 57, 58, 59, 60, 61, 62, 63, 64, 65] (by decide +kernel) (by decide +kernel)
set_option maxRecDepth 20000 in
theorem gX10_layNode_X10_leaveInner : GoodIn wsX10_layNode (wsV RX10 119 RX10 yX10_leaveInner wsX10_leaveInner) := goodIn_app (goodIn_of _ (by decide +kernel)) ggX10_layNode_X10_leaveInner
set_option maxRecDepth 20000 in
theorem ggX10_layNode_X10_holds : GoodIn wsX10_layNode wsX10_holds := goodIn_r _ [21, 3, 53, 54, 55, 56, 57, 58, 59, 60, 61, 62, 63, 64, 65] (by decide +kernel) (by decide +kernel)
set_option maxRecDepth 20000 in
theorem gX10_layNode_X10_holds : GoodIn wsX10_layNode (wsV RX10 94 RX10 yX10_holds wsX10_holds) := goodIn_app (goodIn_of _ (by decide +kernel)) ggX10_layNode_X10_holds
set_option maxRecDepth 20000 in
theorem ggX10_layNode_X10_isOne : GoodIn wsX10_layNode wsX10_isOne := goodIn_r _ [37, 18, 19, 20, 9, 21, 3, 27, 28, 29, 30, 31, 32, 33, 38, 39, 40, 41, 42, 43, 44, 45, 46, 47, 48, 49, 50, 51, 52, 53, 54, 55, 56, 57, 58, 59, 60, 61, 62, 63, 64, 65] (by decide +kernel) (by decide +kernel)
set_option maxRecDepth 20000 in
theorem gX10_layNode_X10_isOne : GoodIn wsX10_layNode (wsV RX10 122 RX10 yX10_isOne wsX10_isOne) := goodIn_app (goodIn_of _ (by decide +kernel)) ggX10_layNode_X10_isOne
theorem dX10_layNode_0 : decode cX10_layNode 0 = .ok (.aload_n 0, 1) := by decide +kernel
theorem dX10_layNode_1 : decode cX10_layNode 1 = .ok (.getfield 16, 3) := by decide +kernel
theorem dX10_layNode_4 : decode cX10_layNode 4 = .ok (.iload_n 1, 1) := by decide +kernel
theorem dX10_layNode_5 : decode cX10_layNode 5 = .ok (.iaload, 1) := by decide +kernel
theorem dX10_layNode_6 : decode cX10_layNode 6 = .ok (.istore_n 2, 1) := by decide +kernel
theorem dX10_layNode_7 : decode cX10_layNode 7 = .ok (.iload_n 2, 1) := by decide +kernel
theorem dX10_layNode_8 : decode cX10_layNode 8 = .ok (.bipush 11, 2) := by decide +kernel
theorem dX10_layNode_10 : decode cX10_layNode 10 = .ok (.if_icmp .eq 9, 3) := by decide +kernel
theorem dX10_layNode_13 : decode cX10_layNode 13 = .ok (.iload_n 2, 1) := by decide +kernel
theorem dX10_layNode_14 : decode cX10_layNode 14 = .ok (.bipush 12, 2) := by decide +kernel
theorem dX10_layNode_16 : decode cX10_layNode 16 = .ok (.if_icmp .ne 11, 3) := by decide +kernel
theorem dX10_layNode_19 : decode cX10_layNode 19 = .ok (.aload_n 0, 1) := by decide +kernel
theorem dX10_layNode_20 : decode cX10_layNode 20 = .ok (.iload_n 1, 1) := by decide +kernel
theorem dX10_layNode_21 : decode cX10_layNode 21 = .ok (.invokevirtual 111, 3) := by decide +kernel
theorem dX10_layNode_24 : decode cX10_layNode 24 = .ok (.goto 184, 3) := by decide +kernel
theorem dX10_layNode_27 : decode cX10_layNode 27 = .ok (.iload_n 2, 1) := by decide +kernel
theorem dX10_layNode_28 : decode cX10_layNode 28 = .ok (.bipush 9, 2) := by decide +kernel
theorem dX10_layNode_30 : decode cX10_layNode 30 = .ok (.if_icmp .eq 9, 3) := by decide +kernel
theorem dX10_layNode_33 : decode cX10_layNode 33 = .ok (.iload_n 2, 1) := by decide +kernel
theorem dX10_layNode_34 : decode cX10_layNode 34 = .ok (.bipush 10, 2) := by decide +kernel
theorem dX10_layNode_36 : decode cX10_layNode 36 = .ok (.if_icmp .ne 39, 3) := by decide +kernel
theorem dX10_layNode_39 : decode cX10_layNode 39 = .ok (.aload_n 0, 1) := by decide +kernel
theorem dX10_layNode_40 : decode cX10_layNode 40 = .ok (.iload_n 1, 1) := by decide +kernel
theorem dX10_layNode_41 : decode cX10_layNode 41 = .ok (.iload_n 2, 1) := by decide +kernel
theorem dX10_layNode_42 : decode cX10_layNode 42 = .ok (.bipush 9, 2) := by decide +kernel
theorem dX10_layNode_44 : decode cX10_layNode 44 = .ok (.if_icmp .ne 8, 3) := by decide +kernel
theorem dX10_layNode_47 : decode cX10_layNode 47 = .ok (.bipush 24, 2) := by decide +kernel
theorem dX10_layNode_49 : decode cX10_layNode 49 = .ok (.goto 9, 3) := by decide +kernel
theorem dX10_layNode_52 : decode cX10_layNode 52 = .ok (.aload_n 0, 1) := by decide +kernel
theorem dX10_layNode_53 : decode cX10_layNode 53 = .ok (.getfield 25, 3) := by decide +kernel
theorem dX10_layNode_56 : decode cX10_layNode 56 = .ok (.iload_n 1, 1) := by decide +kernel
theorem dX10_layNode_57 : decode cX10_layNode 57 = .ok (.iaload, 1) := by decide +kernel
theorem dX10_layNode_58 : decode cX10_layNode 58 = .ok (.invokevirtual 115, 3) := by decide +kernel
theorem dX10_layNode_61 : decode cX10_layNode 61 = .ok (.iload_n 2, 1) := by decide +kernel
theorem dX10_layNode_62 : decode cX10_layNode 62 = .ok (.bipush 9, 2) := by decide +kernel
theorem dX10_layNode_64 : decode cX10_layNode 64 = .ok (.if_icmp .ne 144, 3) := by decide +kernel
theorem dX10_layNode_67 : decode cX10_layNode 67 = .ok (.aload_n 0, 1) := by decide +kernel
theorem dX10_layNode_68 : decode cX10_layNode 68 = .ok (.iload_n 1, 1) := by decide +kernel
theorem dX10_layNode_69 : decode cX10_layNode 69 = .ok (.invokevirtual 119, 3) := by decide +kernel
theorem dX10_layNode_72 : decode cX10_layNode 72 = .ok (.goto 136, 3) := by decide +kernel
theorem dX10_layNode_75 : decode cX10_layNode 75 = .ok (.iconst 0, 1) := by decide +kernel
theorem dX10_layNode_76 : decode cX10_layNode 76 = .ok (.istore_n 3, 1) := by decide +kernel
theorem dX10_layNode_77 : decode cX10_layNode 77 = .ok (.iload_n 3, 1) := by decide +kernel
theorem dX10_layNode_78 : decode cX10_layNode 78 = .ok (.bipush 25, 2) := by decide +kernel
theorem dX10_layNode_80 : decode cX10_layNode 80 = .ok (.if_icmp .ge 128, 3) := by decide +kernel
theorem dX10_layNode_83 : decode cX10_layNode 83 = .ok (.iload_n 2, 1) := by decide +kernel
theorem dX10_layNode_84 : decode cX10_layNode 84 = .ok (.ifCond .ne 22, 3) := by decide +kernel
theorem dX10_layNode_87 : decode cX10_layNode 87 = .ok (.aload_n 0, 1) := by decide +kernel
theorem dX10_layNode_88 : decode cX10_layNode 88 = .ok (.getfield 35, 3) := by decide +kernel
theorem dX10_layNode_91 : decode cX10_layNode 91 = .ok (.bipush 25, 2) := by decide +kernel
theorem dX10_layNode_93 : decode cX10_layNode 93 = .ok (.aload_n 0, 1) := by decide +kernel
theorem dX10_layNode_94 : decode cX10_layNode 94 = .ok (.getfield 22, 3) := by decide +kernel
theorem dX10_layNode_97 : decode cX10_layNode 97 = .ok (.iload_n 1, 1) := by decide +kernel
theorem dX10_layNode_98 : decode cX10_layNode 98 = .ok (.iaload, 1) := by decide +kernel
theorem dX10_layNode_99 : decode cX10_layNode 99 = .ok (.imul, 1) := by decide +kernel
theorem dX10_layNode_100 : decode cX10_layNode 100 = .ok (.iload_n 3, 1) := by decide +kernel
theorem dX10_layNode_101 : decode cX10_layNode 101 = .ok (.iadd, 1) := by decide +kernel
theorem dX10_layNode_102 : decode cX10_layNode 102 = .ok (.iaload, 1) := by decide +kernel
theorem dX10_layNode_103 : decode cX10_layNode 103 = .ok (.goto 4, 3) := by decide +kernel
theorem dX10_layNode_106 : decode cX10_layNode 106 = .ok (.iconst 0, 1) := by decide +kernel
theorem dX10_layNode_107 : decode cX10_layNode 107 = .ok (.istore 4, 2) := by decide +kernel
theorem dX10_layNode_109 : decode cX10_layNode 109 = .ok (.iload_n 3, 1) := by decide +kernel
theorem dX10_layNode_110 : decode cX10_layNode 110 = .ok (.iconst 1, 1) := by decide +kernel
theorem dX10_layNode_111 : decode cX10_layNode 111 = .ok (.iadd, 1) := by decide +kernel
theorem dX10_layNode_112 : decode cX10_layNode 112 = .ok (.istore 5, 2) := by decide +kernel
theorem dX10_layNode_114 : decode cX10_layNode 114 = .ok (.iload 5, 2) := by decide +kernel
theorem dX10_layNode_116 : decode cX10_layNode 116 = .ok (.bipush 25, 2) := by decide +kernel
theorem dX10_layNode_118 : decode cX10_layNode 118 = .ok (.if_icmp .ge 71, 3) := by decide +kernel
theorem dX10_layNode_121 : decode cX10_layNode 121 = .ok (.aload_n 0, 1) := by decide +kernel
theorem dX10_layNode_122 : decode cX10_layNode 122 = .ok (.aload_n 0, 1) := by decide +kernel
theorem dX10_layNode_123 : decode cX10_layNode 123 = .ok (.getfield 19, 3) := by decide +kernel
theorem dX10_layNode_126 : decode cX10_layNode 126 = .ok (.iload_n 1, 1) := by decide +kernel
theorem dX10_layNode_127 : decode cX10_layNode 127 = .ok (.iaload, 1) := by decide +kernel
theorem dX10_layNode_128 : decode cX10_layNode 128 = .ok (.iload_n 3, 1) := by decide +kernel
theorem dX10_layNode_129 : decode cX10_layNode 129 = .ok (.iload 5, 2) := by decide +kernel
theorem dX10_layNode_131 : decode cX10_layNode 131 = .ok (.invokevirtual 94, 3) := by decide +kernel
theorem dX10_layNode_134 : decode cX10_layNode 134 = .ok (.ifCond .eq 28, 3) := by decide +kernel
theorem dX10_layNode_137 : decode cX10_layNode 137 = .ok (.iload_n 2, 1) := by decide +kernel
theorem dX10_layNode_138 : decode cX10_layNode 138 = .ok (.ifCond .eq 20, 3) := by decide +kernel
theorem dX10_layNode_141 : decode cX10_layNode 141 = .ok (.aload_n 0, 1) := by decide +kernel
theorem dX10_layNode_142 : decode cX10_layNode 142 = .ok (.iload_n 2, 1) := by decide +kernel
theorem dX10_layNode_143 : decode cX10_layNode 143 = .ok (.aload_n 0, 1) := by decide +kernel
theorem dX10_layNode_144 : decode cX10_layNode 144 = .ok (.getfield 22, 3) := by decide +kernel
theorem dX10_layNode_147 : decode cX10_layNode 147 = .ok (.iload_n 1, 1) := by decide +kernel
theorem dX10_layNode_148 : decode cX10_layNode 148 = .ok (.iaload, 1) := by decide +kernel
theorem dX10_layNode_149 : decode cX10_layNode 149 = .ok (.iload_n 3, 1) := by decide +kernel
theorem dX10_layNode_150 : decode cX10_layNode 150 = .ok (.iload 5, 2) := by decide +kernel
theorem dX10_layNode_152 : decode cX10_layNode 152 = .ok (.invokevirtual 122, 3) := by decide +kernel
theorem dX10_layNode_155 : decode cX10_layNode 155 = .ok (.ifCond .eq 7, 3) := by decide +kernel
theorem dX10_layNode_158 : decode cX10_layNode 158 = .ok (.iconst 1, 1) := by decide +kernel
theorem dX10_layNode_159 : decode cX10_layNode 159 = .ok (.goto 4, 3) := by decide +kernel
theorem dX10_layNode_162 : decode cX10_layNode 162 = .ok (.iconst 0, 1) := by decide +kernel
theorem dX10_layNode_163 : decode cX10_layNode 163 = .ok (.istore 6, 2) := by decide +kernel
theorem dX10_layNode_165 : decode cX10_layNode 165 = .ok (.iload 4, 2) := by decide +kernel
theorem dX10_layNode_167 : decode cX10_layNode 167 = .ok (.iload 6, 2) := by decide +kernel
theorem dX10_layNode_169 : decode cX10_layNode 169 = .ok (.ifCond .eq 10, 3) := by decide +kernel
theorem dX10_layNode_172 : decode cX10_layNode 172 = .ok (.iconst 1, 1) := by decide +kernel
theorem dX10_layNode_173 : decode cX10_layNode 173 = .ok (.iload 5, 2) := by decide +kernel
theorem dX10_layNode_175 : decode cX10_layNode 175 = .ok (.ishl, 1) := by decide +kernel
theorem dX10_layNode_176 : decode cX10_layNode 176 = .ok (.goto 4, 3) := by decide +kernel
theorem dX10_layNode_179 : decode cX10_layNode 179 = .ok (.iconst 0, 1) := by decide +kernel
theorem dX10_layNode_180 : decode cX10_layNode 180 = .ok (.ior, 1) := by decide +kernel
theorem dX10_layNode_181 : decode cX10_layNode 181 = .ok (.istore 4, 2) := by decide +kernel
theorem dX10_layNode_183 : decode cX10_layNode 183 = .ok (.iinc 5 1, 3) := by decide +kernel
theorem dX10_layNode_186 : decode cX10_layNode 186 = .ok (.goto (-72), 3) := by decide +kernel
theorem dX10_layNode_189 : decode cX10_layNode 189 = .ok (.aload_n 0, 1) := by decide +kernel
theorem dX10_layNode_190 : decode cX10_layNode 190 = .ok (.getfield 35, 3) := by decide +kernel
theorem dX10_layNode_193 : decode cX10_layNode 193 = .ok (.bipush 25, 2) := by decide +kernel
theorem dX10_layNode_195 : decode cX10_layNode 195 = .ok (.iload_n 1, 1) := by decide +kernel
theorem dX10_layNode_196 : decode cX10_layNode 196 = .ok (.imul, 1) := by decide +kernel
theorem dX10_layNode_197 : decode cX10_layNode 197 = .ok (.iload_n 3, 1) := by decide +kernel
theorem dX10_layNode_198 : decode cX10_layNode 198 = .ok (.iadd, 1) := by decide +kernel
theorem dX10_layNode_199 : decode cX10_layNode 199 = .ok (.iload 4, 2) := by decide +kernel
theorem dX10_layNode_201 : decode cX10_layNode 201 = .ok (.iastore, 1) := by decide +kernel
theorem dX10_layNode_202 : decode cX10_layNode 202 = .ok (.iinc 3 1, 3) := by decide +kernel
theorem dX10_layNode_205 : decode cX10_layNode 205 = .ok (.goto (-128), 3) := by decide +kernel
theorem dX10_layNode_208 : decode cX10_layNode 208 = .ok (.return_, 1) := by decide +kernel
set_option maxRecDepth 20000 in
theorem ggX10_lay_X10_layNode : GoodIn wsX10_lay wsX10_layNode := goodIn_r _ [9, 2, 10, 11, 4, 3, 12, 13, 14, 8, 15, 16, 17, 18, 19, 20, 21, 22, 23, 24, 25, 26, 27, 28, 29, 30, 31, 32, 33, 34, 35, 36, 37, 38, 39, 40, 41, 42, 43, 44, 45, 46, 47, 48, 49, 50, 51, 52, 53, 54, 55, 56, 57, 58, 59, 60, 61, 62, 63, 64, 65, 66, 67, 68, 69, 70] (by decide +kernel) (by decide +kernel)
set_option maxRecDepth 20000 in
theorem gX10_lay_X10_layNode : GoodIn wsX10_lay (wsV RX10 126 RX10 yX10_layNode wsX10_layNode) := goodIn_app (goodIn_of _ (by decide +kernel)) ggX10_lay_X10_layNode
theorem dX10_lay_0 : decode cX10_lay 0 = .ok (.iconst 0, 1) := by decide +kernel
theorem dX10_lay_1 : decode cX10_lay 1 = .ok (.istore_n 2, 1) := by decide +kernel
theorem dX10_lay_2 : decode cX10_lay 2 = .ok (.iload_n 2, 1) := by decide +kernel
theorem dX10_lay_3 : decode cX10_lay 3 = .ok (.bipush 30, 2) := by decide +kernel
theorem dX10_lay_5 : decode cX10_lay 5 = .ok (.if_icmp .ge 25, 3) := by decide +kernel
theorem dX10_lay_8 : decode cX10_lay 8 = .ok (.aload_n 0, 1) := by decide +kernel
theorem dX10_lay_9 : decode cX10_lay 9 = .ok (.getfield 31, 3) := by decide +kernel
theorem dX10_lay_12 : decode cX10_lay 12 = .ok (.iload_n 2, 1) := by decide +kernel
theorem dX10_lay_13 : decode cX10_lay 13 = .ok (.iload_n 2, 1) := by decide +kernel
theorem dX10_lay_14 : decode cX10_lay 14 = .ok (.iload_n 1, 1) := by decide +kernel
theorem dX10_lay_15 : decode cX10_lay 15 = .ok (.if_icmp .ne 7, 3) := by decide +kernel
theorem dX10_lay_18 : decode cX10_lay 18 = .ok (.iconst 1, 1) := by decide +kernel
theorem dX10_lay_19 : decode cX10_lay 19 = .ok (.goto 4, 3) := by decide +kernel
theorem dX10_lay_22 : decode cX10_lay 22 = .ok (.iconst 0, 1) := by decide +kernel
theorem dX10_lay_23 : decode cX10_lay 23 = .ok (.bastore, 1) := by decide +kernel
theorem dX10_lay_24 : decode cX10_lay 24 = .ok (.iinc 2 1, 3) := by decide +kernel
theorem dX10_lay_27 : decode cX10_lay 27 = .ok (.goto (-25), 3) := by decide +kernel
theorem dX10_lay_30 : decode cX10_lay 30 = .ok (.iload_n 1, 1) := by decide +kernel
theorem dX10_lay_31 : decode cX10_lay 31 = .ok (.istore_n 2, 1) := by decide +kernel
theorem dX10_lay_32 : decode cX10_lay 32 = .ok (.iload_n 2, 1) := by decide +kernel
theorem dX10_lay_33 : decode cX10_lay 33 = .ok (.ifCond .lt 64, 3) := by decide +kernel
theorem dX10_lay_36 : decode cX10_lay 36 = .ok (.aload_n 0, 1) := by decide +kernel
theorem dX10_lay_37 : decode cX10_lay 37 = .ok (.getfield 31, 3) := by decide +kernel
theorem dX10_lay_40 : decode cX10_lay 40 = .ok (.iload_n 2, 1) := by decide +kernel
theorem dX10_lay_41 : decode cX10_lay 41 = .ok (.baload, 1) := by decide +kernel
theorem dX10_lay_42 : decode cX10_lay 42 = .ok (.ifCond .eq 49, 3) := by decide +kernel
theorem dX10_lay_45 : decode cX10_lay 45 = .ok (.aload_n 0, 1) := by decide +kernel
theorem dX10_lay_46 : decode cX10_lay 46 = .ok (.getfield 16, 3) := by decide +kernel
theorem dX10_lay_49 : decode cX10_lay 49 = .ok (.iload_n 2, 1) := by decide +kernel
theorem dX10_lay_50 : decode cX10_lay 50 = .ok (.iaload, 1) := by decide +kernel
theorem dX10_lay_51 : decode cX10_lay 51 = .ok (.bipush 11, 2) := by decide +kernel
theorem dX10_lay_53 : decode cX10_lay 53 = .ok (.if_icmp .eq 38, 3) := by decide +kernel
theorem dX10_lay_56 : decode cX10_lay 56 = .ok (.aload_n 0, 1) := by decide +kernel
theorem dX10_lay_57 : decode cX10_lay 57 = .ok (.getfield 16, 3) := by decide +kernel
theorem dX10_lay_60 : decode cX10_lay 60 = .ok (.iload_n 2, 1) := by decide +kernel
theorem dX10_lay_61 : decode cX10_lay 61 = .ok (.iaload, 1) := by decide +kernel
theorem dX10_lay_62 : decode cX10_lay 62 = .ok (.bipush 12, 2) := by decide +kernel
theorem dX10_lay_64 : decode cX10_lay 64 = .ok (.if_icmp .eq 27, 3) := by decide +kernel
theorem dX10_lay_67 : decode cX10_lay 67 = .ok (.aload_n 0, 1) := by decide +kernel
theorem dX10_lay_68 : decode cX10_lay 68 = .ok (.getfield 31, 3) := by decide +kernel
theorem dX10_lay_71 : decode cX10_lay 71 = .ok (.aload_n 0, 1) := by decide +kernel
theorem dX10_lay_72 : decode cX10_lay 72 = .ok (.getfield 19, 3) := by decide +kernel
theorem dX10_lay_75 : decode cX10_lay 75 = .ok (.iload_n 2, 1) := by decide +kernel
theorem dX10_lay_76 : decode cX10_lay 76 = .ok (.iaload, 1) := by decide +kernel
theorem dX10_lay_77 : decode cX10_lay 77 = .ok (.iconst 1, 1) := by decide +kernel
theorem dX10_lay_78 : decode cX10_lay 78 = .ok (.bastore, 1) := by decide +kernel
theorem dX10_lay_79 : decode cX10_lay 79 = .ok (.aload_n 0, 1) := by decide +kernel
theorem dX10_lay_80 : decode cX10_lay 80 = .ok (.getfield 31, 3) := by decide +kernel
theorem dX10_lay_83 : decode cX10_lay 83 = .ok (.aload_n 0, 1) := by decide +kernel
theorem dX10_lay_84 : decode cX10_lay 84 = .ok (.getfield 22, 3) := by decide +kernel
theorem dX10_lay_87 : decode cX10_lay 87 = .ok (.iload_n 2, 1) := by decide +kernel
theorem dX10_lay_88 : decode cX10_lay 88 = .ok (.iaload, 1) := by decide +kernel
theorem dX10_lay_89 : decode cX10_lay 89 = .ok (.iconst 1, 1) := by decide +kernel
theorem dX10_lay_90 : decode cX10_lay 90 = .ok (.bastore, 1) := by decide +kernel
theorem dX10_lay_91 : decode cX10_lay 91 = .ok (.iinc 2 (-1), 3) := by decide +kernel
theorem dX10_lay_94 : decode cX10_lay 94 = .ok (.goto (-62), 3) := by decide +kernel
theorem dX10_lay_97 : decode cX10_lay 97 = .ok (.iconst 0, 1) := by decide +kernel
theorem dX10_lay_98 : decode cX10_lay 98 = .ok (.istore_n 2, 1) := by decide +kernel
theorem dX10_lay_99 : decode cX10_lay 99 = .ok (.iload_n 2, 1) := by decide +kernel
theorem dX10_lay_100 : decode cX10_lay 100 = .ok (.iload_n 1, 1) := by decide +kernel
theorem dX10_lay_101 : decode cX10_lay 101 = .ok (.if_icmp .gt 23, 3) := by decide +kernel
theorem dX10_lay_104 : decode cX10_lay 104 = .ok (.aload_n 0, 1) := by decide +kernel
theorem dX10_lay_105 : decode cX10_lay 105 = .ok (.getfield 31, 3) := by decide +kernel
theorem dX10_lay_108 : decode cX10_lay 108 = .ok (.iload_n 2, 1) := by decide +kernel
theorem dX10_lay_109 : decode cX10_lay 109 = .ok (.baload, 1) := by decide +kernel
theorem dX10_lay_110 : decode cX10_lay 110 = .ok (.ifCond .eq 8, 3) := by decide +kernel
theorem dX10_lay_113 : decode cX10_lay 113 = .ok (.aload_n 0, 1) := by decide +kernel
theorem dX10_lay_114 : decode cX10_lay 114 = .ok (.iload_n 2, 1) := by decide +kernel
theorem dX10_lay_115 : decode cX10_lay 115 = .ok (.invokevirtual 126, 3) := by decide +kernel
theorem dX10_lay_118 : decode cX10_lay 118 = .ok (.iinc 2 1, 3) := by decide +kernel
theorem dX10_lay_121 : decode cX10_lay 121 = .ok (.goto (-22), 3) := by decide +kernel
theorem dX10_lay_124 : decode cX10_lay 124 = .ok (.return_, 1) := by decide +kernel
set_option maxRecDepth 20000 in
theorem ggX10_canAsk_X10_isNode : GoodIn wsX10_canAsk wsX10_isNode := goodIn_r _ [5, 6, 7, 8, 4, 9, 75, 76, 77, 78, 79, 80, 81, 82, 83, 84, 85, 86, 87] (by decide +kernel) (by decide +kernel)
set_option maxRecDepth 20000 in
theorem gX10_canAsk_X10_isNode : GoodIn wsX10_canAsk (wsV RX10 77 RX10 yX10_isNode wsX10_isNode) := goodIn_app (goodIn_of _ (by decide +kernel)) ggX10_canAsk_X10_isNode
set_option maxRecDepth 20000 in
theorem ggX10_canAsk_X10_goesWell : GoodIn wsX10_canAsk wsX10_goesWell := goodIn_r _ [13, 14, 75, 76, 77, 78, 79, 80, 81, 82, 83, 84, 85, 86, 87] (by decide +kernel) (by decide +kernel)
set_option maxRecDepth 20000 in
theorem gX10_canAsk_X10_goesWell : GoodIn wsX10_canAsk (wsV RX10 55 RX10 yX10_goesWell wsX10_goesWell) := goodIn_app (goodIn_of _ (by decide +kernel)) ggX10_canAsk_X10_goesWell
set_option maxRecDepth 20000 in
theorem ggX10_canAsk_X10_lay : GoodIn wsX10_canAsk wsX10_lay := goodIn_r _ [18, 19, 20, 21, 22, 23, 24, 25, 4, 26, 27, 28, 29, 30, 31, 32, 33, 34, 35, 36, 37, 38, 39, 40, 41, 42, 43, 44, 45, 46, 47, 48, 49, 50, 51, 52, 53, 54, 55, 56, 57, 58, 59, 60, 61, 62, 63, 64, 65, 66, 67, 68, 69, 70, 71, 72, 73, 74, 75, 76, 77, 78, 79, 80, 81, 82, 83, 84, 85, 86, 87] (by decide +kernel) (by decide +kernel)
set_option maxRecDepth 20000 in
theorem gX10_canAsk_X10_lay : GoodIn wsX10_canAsk (wsV RX10 129 RX10 yX10_lay wsX10_lay) := goodIn_app (goodIn_of _ (by decide +kernel)) ggX10_canAsk_X10_lay
theorem dX10_canAsk_0 : decode cX10_canAsk 0 = .ok (.aload_n 0, 1) := by decide +kernel
theorem dX10_canAsk_1 : decode cX10_canAsk 1 = .ok (.aload_n 0, 1) := by decide +kernel
theorem dX10_canAsk_2 : decode cX10_canAsk 2 = .ok (.iload_n 1, 1) := by decide +kernel
theorem dX10_canAsk_3 : decode cX10_canAsk 3 = .ok (.invokevirtual 77, 3) := by decide +kernel
theorem dX10_canAsk_6 : decode cX10_canAsk 6 = .ok (.ifCond .eq 7, 3) := by decide +kernel
theorem dX10_canAsk_9 : decode cX10_canAsk 9 = .ok (.iconst 0, 1) := by decide +kernel
theorem dX10_canAsk_10 : decode cX10_canAsk 10 = .ok (.goto 4, 3) := by decide +kernel
theorem dX10_canAsk_13 : decode cX10_canAsk 13 = .ok (.iconst 1, 1) := by decide +kernel
theorem dX10_canAsk_14 : decode cX10_canAsk 14 = .ok (.invokevirtual 55, 3) := by decide +kernel
theorem dX10_canAsk_17 : decode cX10_canAsk 17 = .ok (.ifCond .ne 5, 3) := by decide +kernel
theorem dX10_canAsk_20 : decode cX10_canAsk 20 = .ok (.iconst 0, 1) := by decide +kernel
theorem dX10_canAsk_21 : decode cX10_canAsk 21 = .ok (.ireturn, 1) := by decide +kernel
theorem dX10_canAsk_22 : decode cX10_canAsk 22 = .ok (.aload_n 0, 1) := by decide +kernel
theorem dX10_canAsk_23 : decode cX10_canAsk 23 = .ok (.iload_n 1, 1) := by decide +kernel
theorem dX10_canAsk_24 : decode cX10_canAsk 24 = .ok (.invokevirtual 129, 3) := by decide +kernel
theorem dX10_canAsk_27 : decode cX10_canAsk 27 = .ok (.iconst 1, 1) := by decide +kernel
theorem dX10_canAsk_28 : decode cX10_canAsk 28 = .ok (.ireturn, 1) := by decide +kernel
set_option maxRecDepth 20000 in
theorem ggX10_countRegions_X10_bits : GoodIn wsX10_countRegions wsX10_bits := goodIn_r _ [5] (by decide +kernel) (by decide +kernel)
set_option maxRecDepth 20000 in
theorem gX10_countRegions_X10_bits : GoodIn wsX10_countRegions (va_wsS RX10 66 yX10_bits wsX10_bits) := goodIn_app (goodIn_of _ (by decide +kernel)) ggX10_countRegions_X10_bits
theorem dX10_countRegions_0 : decode cX10_countRegions 0 = .ok (.iconst 0, 1) := by decide +kernel
theorem dX10_countRegions_1 : decode cX10_countRegions 1 = .ok (.istore_n 2, 1) := by decide +kernel
theorem dX10_countRegions_2 : decode cX10_countRegions 2 = .ok (.iconst 0, 1) := by decide +kernel
theorem dX10_countRegions_3 : decode cX10_countRegions 3 = .ok (.istore_n 3, 1) := by decide +kernel
theorem dX10_countRegions_4 : decode cX10_countRegions 4 = .ok (.iload_n 3, 1) := by decide +kernel
theorem dX10_countRegions_5 : decode cX10_countRegions 5 = .ok (.bipush 25, 2) := by decide +kernel
theorem dX10_countRegions_7 : decode cX10_countRegions 7 = .ok (.if_icmp .ge 26, 3) := by decide +kernel
theorem dX10_countRegions_10 : decode cX10_countRegions 10 = .ok (.iload_n 2, 1) := by decide +kernel
theorem dX10_countRegions_11 : decode cX10_countRegions 11 = .ok (.aload_n 0, 1) := by decide +kernel
theorem dX10_countRegions_12 : decode cX10_countRegions 12 = .ok (.getfield 35, 3) := by decide +kernel
theorem dX10_countRegions_15 : decode cX10_countRegions 15 = .ok (.bipush 25, 2) := by decide +kernel
theorem dX10_countRegions_17 : decode cX10_countRegions 17 = .ok (.iload_n 1, 1) := by decide +kernel
theorem dX10_countRegions_18 : decode cX10_countRegions 18 = .ok (.imul, 1) := by decide +kernel
theorem dX10_countRegions_19 : decode cX10_countRegions 19 = .ok (.iload_n 3, 1) := by decide +kernel
theorem dX10_countRegions_20 : decode cX10_countRegions 20 = .ok (.iadd, 1) := by decide +kernel
theorem dX10_countRegions_21 : decode cX10_countRegions 21 = .ok (.iaload, 1) := by decide +kernel
theorem dX10_countRegions_22 : decode cX10_countRegions 22 = .ok (.invokestatic 66, 3) := by decide +kernel
theorem dX10_countRegions_25 : decode cX10_countRegions 25 = .ok (.iadd, 1) := by decide +kernel
theorem dX10_countRegions_26 : decode cX10_countRegions 26 = .ok (.istore_n 2, 1) := by decide +kernel
theorem dX10_countRegions_27 : decode cX10_countRegions 27 = .ok (.iinc 3 1, 3) := by decide +kernel
theorem dX10_countRegions_30 : decode cX10_countRegions 30 = .ok (.goto (-26), 3) := by decide +kernel
theorem dX10_countRegions_33 : decode cX10_countRegions 33 = .ok (.iload_n 2, 1) := by decide +kernel
theorem dX10_countRegions_34 : decode cX10_countRegions 34 = .ok (.ireturn, 1) := by decide +kernel
set_option maxRecDepth 20000 in
theorem ggX10_regions_X10_regionsOneByOne : GoodIn wsX10_regions wsX10_regionsOneByOne := goodIn_r _ [5, 6, 7, 8, 4, 9, 10, 11, 12, 13, 14, 15, 16, 17, 18, 19, 20, 21, 22, 23, 24, 25, 26, 27, 28, 29, 30, 31, 32, 33, 34, 35, 36, 37, 38, 39, 40, 41, 42, 43, 44, 45, 46, 47, 48, 49, 50, 51, 52, 53, 54, 55, 56, 57, 58, 59, 60, 61, 62, 63, 64, 65, 66, 67, 68, 69, 70, 71, 72, 73, 74, 75, 76, 77, 78, 79, 80, 81, 82, 83, 84, 85, 86, 87, 88, 89, 90, 91, 92, 93, 94, 95, 96, 97, 98, 99, 100, 101, 102] (by decide +kernel) (by decide +kernel)
set_option maxRecDepth 20000 in
theorem gX10_regions_X10_regionsOneByOne : GoodIn wsX10_regions (wsV RX10 132 RX10 yX10_regionsOneByOne wsX10_regionsOneByOne) := goodIn_app (goodIn_of _ (by decide +kernel)) ggX10_regions_X10_regionsOneByOne
theorem dX10_regions_0 : decode cX10_regions 0 = .ok (.aload_n 0, 1) := by decide +kernel
theorem dX10_regions_1 : decode cX10_regions 1 = .ok (.iload_n 1, 1) := by decide +kernel
theorem dX10_regions_2 : decode cX10_regions 2 = .ok (.invokevirtual 132, 3) := by decide +kernel
theorem dX10_regions_5 : decode cX10_regions 5 = .ok (.ireturn, 1) := by decide +kernel
set_option maxRecDepth 20000 in
theorem ggX10_regionsOneByOne_X10_canAsk : GoodIn wsX10_regionsOneByOne wsX10_canAsk := goodIn_r _ [5, 6, 7, 8, 4, 9, 10, 11, 12, 13, 14, 15, 16, 17, 18, 19, 20, 21, 22, 23, 24, 25, 26, 27, 28, 29, 30, 31, 32, 33, 34, 35, 36, 37, 38, 39, 40, 41, 42, 43, 44, 45, 46, 47, 48, 49, 50, 51, 52, 53, 54, 55, 56, 57, 58, 59, 60, 61, 62, 63, 64, 65, 66, 67, 68, 69, 70, 71, 72, 73, 74, 75, 76, 77, 78, 86, 87, 88, 89, 90, 91, 92, 93, 94, 95, 96, 97, 98] (by decide +kernel) (by decide +kernel)
set_option maxRecDepth 20000 in
theorem gX10_regionsOneByOne_X10_canAsk : GoodIn wsX10_regionsOneByOne (wsV RX10 135 RX10 yX10_canAsk wsX10_canAsk) := goodIn_app (goodIn_of _ (by decide +kernel)) ggX10_regionsOneByOne_X10_canAsk
set_option maxRecDepth 20000 in
theorem ggX10_regionsOneByOne_X10_countRegions : GoodIn wsX10_regionsOneByOne wsX10_countRegions := goodIn_r _ [82, 32, 83, 84, 4, 85, 86, 87, 88, 89, 90, 91, 92, 93, 94, 95, 96, 97, 98] (by decide +kernel) (by decide +kernel)
set_option maxRecDepth 20000 in
theorem gX10_regionsOneByOne_X10_countRegions : GoodIn wsX10_regionsOneByOne (wsV RX10 138 RX10 yX10_countRegions wsX10_countRegions) := goodIn_app (goodIn_of _ (by decide +kernel)) ggX10_regionsOneByOne_X10_countRegions
theorem dX10_regionsOneByOne_0 : decode cX10_regionsOneByOne 0 = .ok (.aload_n 0, 1) := by decide +kernel
theorem dX10_regionsOneByOne_1 : decode cX10_regionsOneByOne 1 = .ok (.iload_n 1, 1) := by decide +kernel
theorem dX10_regionsOneByOne_2 : decode cX10_regionsOneByOne 2 = .ok (.invokevirtual 135, 3) := by decide +kernel
theorem dX10_regionsOneByOne_5 : decode cX10_regionsOneByOne 5 = .ok (.ifCond .eq 11, 3) := by decide +kernel
theorem dX10_regionsOneByOne_8 : decode cX10_regionsOneByOne 8 = .ok (.aload_n 0, 1) := by decide +kernel
theorem dX10_regionsOneByOne_9 : decode cX10_regionsOneByOne 9 = .ok (.iload_n 1, 1) := by decide +kernel
theorem dX10_regionsOneByOne_10 : decode cX10_regionsOneByOne 10 = .ok (.invokevirtual 138, 3) := by decide +kernel
theorem dX10_regionsOneByOne_13 : decode cX10_regionsOneByOne 13 = .ok (.goto 4, 3) := by decide +kernel
theorem dX10_regionsOneByOne_16 : decode cX10_regionsOneByOne 16 = .ok (.iconst 0, 1) := by decide +kernel
theorem dX10_regionsOneByOne_17 : decode cX10_regionsOneByOne 17 = .ok (.ireturn, 1) := by decide +kernel
set_option maxRecDepth 20000 in
theorem ggX10_regionAt_X10_isNode : GoodIn wsX10_regionAt wsX10_isNode := goodIn_r _ [5, 6, 7, 8, 4, 9, 82, 83, 84, 85, 86, 87, 88, 89, 90, 91, 92, 93, 94] (by decide +kernel) (by decide +kernel)
set_option maxRecDepth 20000 in
theorem gX10_regionAt_X10_isNode : GoodIn wsX10_regionAt (wsV RX10 77 RX10 yX10_isNode wsX10_isNode) := goodIn_app (goodIn_of _ (by decide +kernel)) ggX10_regionAt_X10_isNode
set_option maxRecDepth 20000 in
theorem ggX10_regionAt_X10_lay : GoodIn wsX10_regionAt wsX10_lay := goodIn_r _ [13, 14, 15, 16, 17, 18, 19, 20, 4, 21, 22, 23, 24, 25, 26, 27, 28, 29, 30, 31, 32, 33, 34, 35, 36, 37, 38, 39, 40, 41, 42, 43, 44, 45, 46, 47, 48, 49, 50, 51, 52, 53, 54, 55, 56, 57, 58, 59, 60, 61, 62, 63, 64, 65, 66, 67, 68, 69, 82, 83, 84, 85, 86, 87, 88, 89, 90, 91, 92, 93, 94] (by decide +kernel) (by decide +kernel)
set_option maxRecDepth 20000 in
theorem gX10_regionAt_X10_lay : GoodIn wsX10_regionAt (wsV RX10 129 RX10 yX10_lay wsX10_lay) := goodIn_app (goodIn_of _ (by decide +kernel)) ggX10_regionAt_X10_lay
set_option maxRecDepth 20000 in
theorem ggX10_regionAt_X10_countRegions : GoodIn wsX10_regionAt wsX10_countRegions := goodIn_r _ [73, 23, 74, 75, 4, 76, 82, 83, 84, 85, 86, 87, 88, 89, 90, 91, 92, 93, 94] (by decide +kernel) (by decide +kernel)
set_option maxRecDepth 20000 in
theorem gX10_regionAt_X10_countRegions : GoodIn wsX10_regionAt (wsV RX10 138 RX10 yX10_countRegions wsX10_countRegions) := goodIn_app (goodIn_of _ (by decide +kernel)) ggX10_regionAt_X10_countRegions
set_option maxRecDepth 20000 in
theorem ggX10_regionAt_X10_in : GoodIn wsX10_regionAt wsX10_in := goodIn_r _ [9] (by decide +kernel) (by decide +kernel)
set_option maxRecDepth 20000 in
theorem gX10_regionAt_X10_in : GoodIn wsX10_regionAt (va_wsS RX10 45 yX10_in wsX10_in) := goodIn_app (goodIn_of _ (by decide +kernel)) ggX10_regionAt_X10_in
set_option maxRecDepth 20000 in
theorem ggX10_regionAt_X10_goesWell : GoodIn wsX10_regionAt wsX10_goesWell := goodIn_r _ [80, 81, 82, 83, 84, 85, 86, 87, 88, 89, 90, 91, 92, 93, 94] (by decide +kernel) (by decide +kernel)
set_option maxRecDepth 20000 in
theorem gX10_regionAt_X10_goesWell : GoodIn wsX10_regionAt (wsV RX10 55 RX10 yX10_goesWell wsX10_goesWell) := goodIn_app (goodIn_of _ (by decide +kernel)) ggX10_regionAt_X10_goesWell
set_option maxRecDepth 20000 in
theorem ggX10_regionAt_X10_holds : GoodIn wsX10_regionAt wsX10_holds := goodIn_r _ [38, 23, 82, 83, 84, 85, 86, 87, 88, 89, 90, 91, 92, 93, 94] (by decide +kernel) (by decide +kernel)
set_option maxRecDepth 20000 in
theorem gX10_regionAt_X10_holds : GoodIn wsX10_regionAt (wsV RX10 94 RX10 yX10_holds wsX10_holds) := goodIn_app (goodIn_of _ (by decide +kernel)) ggX10_regionAt_X10_holds
theorem dX10_regionAt_0 : decode cX10_regionAt 0 = .ok (.aload_n 0, 1) := by decide +kernel
theorem dX10_regionAt_1 : decode cX10_regionAt 1 = .ok (.iload_n 1, 1) := by decide +kernel
theorem dX10_regionAt_2 : decode cX10_regionAt 2 = .ok (.invokevirtual 77, 3) := by decide +kernel
theorem dX10_regionAt_5 : decode cX10_regionAt 5 = .ok (.ifCond .eq 8, 3) := by decide +kernel
theorem dX10_regionAt_8 : decode cX10_regionAt 8 = .ok (.aload_n 0, 1) := by decide +kernel
theorem dX10_regionAt_9 : decode cX10_regionAt 9 = .ok (.iload_n 1, 1) := by decide +kernel
theorem dX10_regionAt_10 : decode cX10_regionAt 10 = .ok (.invokevirtual 129, 3) := by decide +kernel
theorem dX10_regionAt_13 : decode cX10_regionAt 13 = .ok (.aload_n 0, 1) := by decide +kernel
theorem dX10_regionAt_14 : decode cX10_regionAt 14 = .ok (.aload_n 0, 1) := by decide +kernel
theorem dX10_regionAt_15 : decode cX10_regionAt 15 = .ok (.iload_n 1, 1) := by decide +kernel
theorem dX10_regionAt_16 : decode cX10_regionAt 16 = .ok (.invokevirtual 77, 3) := by decide +kernel
theorem dX10_regionAt_19 : decode cX10_regionAt 19 = .ok (.ifCond .eq 22, 3) := by decide +kernel
theorem dX10_regionAt_22 : decode cX10_regionAt 22 = .ok (.iload_n 2, 1) := by decide +kernel
theorem dX10_regionAt_23 : decode cX10_regionAt 23 = .ok (.iconst 0, 1) := by decide +kernel
theorem dX10_regionAt_24 : decode cX10_regionAt 24 = .ok (.aload_n 0, 1) := by decide +kernel
theorem dX10_regionAt_25 : decode cX10_regionAt 25 = .ok (.iload_n 1, 1) := by decide +kernel
theorem dX10_regionAt_26 : decode cX10_regionAt 26 = .ok (.invokevirtual 138, 3) := by decide +kernel
theorem dX10_regionAt_29 : decode cX10_regionAt 29 = .ok (.iconst 1, 1) := by decide +kernel
theorem dX10_regionAt_30 : decode cX10_regionAt 30 = .ok (.isub, 1) := by decide +kernel
theorem dX10_regionAt_31 : decode cX10_regionAt 31 = .ok (.invokestatic 45, 3) := by decide +kernel
theorem dX10_regionAt_34 : decode cX10_regionAt 34 = .ok (.ifCond .eq 7, 3) := by decide +kernel
theorem dX10_regionAt_37 : decode cX10_regionAt 37 = .ok (.iconst 0, 1) := by decide +kernel
theorem dX10_regionAt_38 : decode cX10_regionAt 38 = .ok (.goto 4, 3) := by decide +kernel
theorem dX10_regionAt_41 : decode cX10_regionAt 41 = .ok (.iconst 1, 1) := by decide +kernel
theorem dX10_regionAt_42 : decode cX10_regionAt 42 = .ok (.invokevirtual 55, 3) := by decide +kernel
theorem dX10_regionAt_45 : decode cX10_regionAt 45 = .ok (.ifCond .ne 5, 3) := by decide +kernel
theorem dX10_regionAt_48 : decode cX10_regionAt 48 = .ok (.iconst 0, 1) := by decide +kernel
theorem dX10_regionAt_49 : decode cX10_regionAt 49 = .ok (.ireturn, 1) := by decide +kernel
theorem dX10_regionAt_50 : decode cX10_regionAt 50 = .ok (.iload_n 2, 1) := by decide +kernel
theorem dX10_regionAt_51 : decode cX10_regionAt 51 = .ok (.istore_n 3, 1) := by decide +kernel
theorem dX10_regionAt_52 : decode cX10_regionAt 52 = .ok (.iconst 0, 1) := by decide +kernel
theorem dX10_regionAt_53 : decode cX10_regionAt 53 = .ok (.istore 4, 2) := by decide +kernel
theorem dX10_regionAt_55 : decode cX10_regionAt 55 = .ok (.iload 4, 2) := by decide +kernel
theorem dX10_regionAt_57 : decode cX10_regionAt 57 = .ok (.sipush 625, 3) := by decide +kernel
theorem dX10_regionAt_60 : decode cX10_regionAt 60 = .ok (.if_icmp .ge 49, 3) := by decide +kernel
theorem dX10_regionAt_63 : decode cX10_regionAt 63 = .ok (.aload_n 0, 1) := by decide +kernel
theorem dX10_regionAt_64 : decode cX10_regionAt 64 = .ok (.iload_n 1, 1) := by decide +kernel
theorem dX10_regionAt_65 : decode cX10_regionAt 65 = .ok (.iload 4, 2) := by decide +kernel
theorem dX10_regionAt_67 : decode cX10_regionAt 67 = .ok (.bipush 25, 2) := by decide +kernel
theorem dX10_regionAt_69 : decode cX10_regionAt 69 = .ok (.idiv, 1) := by decide +kernel
theorem dX10_regionAt_70 : decode cX10_regionAt 70 = .ok (.iload 4, 2) := by decide +kernel
theorem dX10_regionAt_72 : decode cX10_regionAt 72 = .ok (.bipush 25, 2) := by decide +kernel
theorem dX10_regionAt_74 : decode cX10_regionAt 74 = .ok (.irem, 1) := by decide +kernel
theorem dX10_regionAt_75 : decode cX10_regionAt 75 = .ok (.invokevirtual 94, 3) := by decide +kernel
theorem dX10_regionAt_78 : decode cX10_regionAt 78 = .ok (.ifCond .eq 25, 3) := by decide +kernel
theorem dX10_regionAt_81 : decode cX10_regionAt 81 = .ok (.iload_n 3, 1) := by decide +kernel
theorem dX10_regionAt_82 : decode cX10_regionAt 82 = .ok (.ifCond .ne 18, 3) := by decide +kernel
theorem dX10_regionAt_85 : decode cX10_regionAt 85 = .ok (.bipush 100, 2) := by decide +kernel
theorem dX10_regionAt_87 : decode cX10_regionAt 87 = .ok (.iload 4, 2) := by decide +kernel
theorem dX10_regionAt_89 : decode cX10_regionAt 89 = .ok (.bipush 25, 2) := by decide +kernel
theorem dX10_regionAt_91 : decode cX10_regionAt 91 = .ok (.idiv, 1) := by decide +kernel
theorem dX10_regionAt_92 : decode cX10_regionAt 92 = .ok (.imul, 1) := by decide +kernel
theorem dX10_regionAt_93 : decode cX10_regionAt 93 = .ok (.iload 4, 2) := by decide +kernel
theorem dX10_regionAt_95 : decode cX10_regionAt 95 = .ok (.bipush 25, 2) := by decide +kernel
theorem dX10_regionAt_97 : decode cX10_regionAt 97 = .ok (.irem, 1) := by decide +kernel
theorem dX10_regionAt_98 : decode cX10_regionAt 98 = .ok (.iadd, 1) := by decide +kernel
theorem dX10_regionAt_99 : decode cX10_regionAt 99 = .ok (.ireturn, 1) := by decide +kernel
theorem dX10_regionAt_100 : decode cX10_regionAt 100 = .ok (.iinc 3 (-1), 3) := by decide +kernel
theorem dX10_regionAt_103 : decode cX10_regionAt 103 = .ok (.iinc 4 1, 3) := by decide +kernel
theorem dX10_regionAt_106 : decode cX10_regionAt 106 = .ok (.goto (-51), 3) := by decide +kernel
theorem dX10_regionAt_109 : decode cX10_regionAt 109 = .ok (.iconst 0, 1) := by decide +kernel
theorem dX10_regionAt_110 : decode cX10_regionAt 110 = .ok (.ireturn, 1) := by decide +kernel
set_option maxRecDepth 20000 in
theorem ggX10_has_X10_in : GoodIn wsX10_has wsX10_in := goodIn_r _ [5] (by decide +kernel) (by decide +kernel)
set_option maxRecDepth 20000 in
theorem gX10_has_X10_in : GoodIn wsX10_has (va_wsS RX10 45 yX10_in wsX10_in) := goodIn_app (goodIn_of _ (by decide +kernel)) ggX10_has_X10_in
set_option maxRecDepth 20000 in
theorem ggX10_has_X10_canAsk : GoodIn wsX10_has wsX10_canAsk := goodIn_r _ [9, 10, 11, 12, 4, 13, 14, 2, 3, 5, 15, 16, 17, 18, 19, 20, 21, 22, 23, 24, 25, 26, 27, 28, 29, 30, 31, 32, 33, 34, 35, 36, 37, 1, 38, 39, 40, 41, 42, 43, 44, 45, 46, 47, 48, 49, 50, 51, 52, 53, 54, 55, 56, 57, 58, 59, 60, 61, 62, 63, 64, 65, 66, 67, 68, 69, 70, 71, 72, 73, 74, 75, 76, 77, 78, 79, 80, 81, 82, 83, 84, 85, 86, 87, 88, 89, 90, 91] (by decide +kernel) (by decide +kernel)
set_option maxRecDepth 20000 in
theorem gX10_has_X10_canAsk : GoodIn wsX10_has (wsV RX10 135 RX10 yX10_canAsk wsX10_canAsk) := goodIn_app (goodIn_of _ (by decide +kernel)) ggX10_has_X10_canAsk
set_option maxRecDepth 20000 in
theorem ggX10_has_X10_holds : GoodIn wsX10_has wsX10_holds := goodIn_r _ [47, 33, 79, 80, 81, 82, 83, 84, 85, 86, 87, 88, 89, 90, 91] (by decide +kernel) (by decide +kernel)
set_option maxRecDepth 20000 in
theorem gX10_has_X10_holds : GoodIn wsX10_has (wsV RX10 94 RX10 yX10_holds wsX10_holds) := goodIn_app (goodIn_of _ (by decide +kernel)) ggX10_has_X10_holds
theorem dX10_has_0 : decode cX10_has 0 = .ok (.iload_n 2, 1) := by decide +kernel
theorem dX10_has_1 : decode cX10_has 1 = .ok (.iconst 0, 1) := by decide +kernel
theorem dX10_has_2 : decode cX10_has 2 = .ok (.aload_n 0, 1) := by decide +kernel
theorem dX10_has_3 : decode cX10_has 3 = .ok (.getfield 52, 3) := by decide +kernel
theorem dX10_has_6 : decode cX10_has 6 = .ok (.iconst 1, 1) := by decide +kernel
theorem dX10_has_7 : decode cX10_has 7 = .ok (.isub, 1) := by decide +kernel
theorem dX10_has_8 : decode cX10_has 8 = .ok (.invokestatic 45, 3) := by decide +kernel
theorem dX10_has_11 : decode cX10_has 11 = .ok (.ifCond .eq 21, 3) := by decide +kernel
theorem dX10_has_14 : decode cX10_has 14 = .ok (.iload_n 3, 1) := by decide +kernel
theorem dX10_has_15 : decode cX10_has 15 = .ok (.iload_n 2, 1) := by decide +kernel
theorem dX10_has_16 : decode cX10_has 16 = .ok (.iconst 1, 1) := by decide +kernel
theorem dX10_has_17 : decode cX10_has 17 = .ok (.iadd, 1) := by decide +kernel
theorem dX10_has_18 : decode cX10_has 18 = .ok (.aload_n 0, 1) := by decide +kernel
theorem dX10_has_19 : decode cX10_has 19 = .ok (.getfield 52, 3) := by decide +kernel
theorem dX10_has_22 : decode cX10_has 22 = .ok (.invokestatic 45, 3) := by decide +kernel
theorem dX10_has_25 : decode cX10_has 25 = .ok (.ifCond .eq 7, 3) := by decide +kernel
theorem dX10_has_28 : decode cX10_has 28 = .ok (.iconst 1, 1) := by decide +kernel
theorem dX10_has_29 : decode cX10_has 29 = .ok (.goto 4, 3) := by decide +kernel
theorem dX10_has_32 : decode cX10_has 32 = .ok (.iconst 0, 1) := by decide +kernel
theorem dX10_has_33 : decode cX10_has 33 = .ok (.istore 4, 2) := by decide +kernel
theorem dX10_has_35 : decode cX10_has 35 = .ok (.aload_n 0, 1) := by decide +kernel
theorem dX10_has_36 : decode cX10_has 36 = .ok (.iload_n 1, 1) := by decide +kernel
theorem dX10_has_37 : decode cX10_has 37 = .ok (.invokevirtual 135, 3) := by decide +kernel
theorem dX10_has_40 : decode cX10_has 40 = .ok (.ifCond .eq 22, 3) := by decide +kernel
theorem dX10_has_43 : decode cX10_has 43 = .ok (.iload 4, 2) := by decide +kernel
theorem dX10_has_45 : decode cX10_has 45 = .ok (.ifCond .eq 17, 3) := by decide +kernel
theorem dX10_has_48 : decode cX10_has 48 = .ok (.aload_n 0, 1) := by decide +kernel
theorem dX10_has_49 : decode cX10_has 49 = .ok (.iload_n 1, 1) := by decide +kernel
theorem dX10_has_50 : decode cX10_has 50 = .ok (.iload_n 2, 1) := by decide +kernel
theorem dX10_has_51 : decode cX10_has 51 = .ok (.iload_n 3, 1) := by decide +kernel
theorem dX10_has_52 : decode cX10_has 52 = .ok (.invokevirtual 94, 3) := by decide +kernel
theorem dX10_has_55 : decode cX10_has 55 = .ok (.ifCond .eq 7, 3) := by decide +kernel
theorem dX10_has_58 : decode cX10_has 58 = .ok (.iconst 1, 1) := by decide +kernel
theorem dX10_has_59 : decode cX10_has 59 = .ok (.goto 4, 3) := by decide +kernel
theorem dX10_has_62 : decode cX10_has 62 = .ok (.iconst 0, 1) := by decide +kernel
theorem dX10_has_63 : decode cX10_has 63 = .ok (.ireturn, 1) := by decide +kernel
set_option maxRecDepth 20000 in
theorem ggX10_countAt_X10_fromOn : GoodIn wsX10_countAt wsX10_fromOn := goodIn_r _ [5] (by decide +kernel) (by decide +kernel)
set_option maxRecDepth 20000 in
theorem gX10_countAt_X10_fromOn : GoodIn wsX10_countAt (va_wsS RX10 91 yX10_fromOn wsX10_fromOn) := goodIn_app (goodIn_of _ (by decide +kernel)) ggX10_countAt_X10_fromOn
set_option maxRecDepth 20000 in
theorem ggX10_countAt_X10_bits : GoodIn wsX10_countAt wsX10_bits := goodIn_r _ [8] (by decide +kernel) (by decide +kernel)
set_option maxRecDepth 20000 in
theorem gX10_countAt_X10_bits : GoodIn wsX10_countAt (va_wsS RX10 66 yX10_bits wsX10_bits) := goodIn_app (goodIn_of _ (by decide +kernel)) ggX10_countAt_X10_bits
theorem dX10_countAt_0 : decode cX10_countAt 0 = .ok (.iconst 0, 1) := by decide +kernel
theorem dX10_countAt_1 : decode cX10_countAt 1 = .ok (.istore_n 3, 1) := by decide +kernel
theorem dX10_countAt_2 : decode cX10_countAt 2 = .ok (.iconst 0, 1) := by decide +kernel
theorem dX10_countAt_3 : decode cX10_countAt 3 = .ok (.istore 4, 2) := by decide +kernel
theorem dX10_countAt_5 : decode cX10_countAt 5 = .ok (.iload 4, 2) := by decide +kernel
theorem dX10_countAt_7 : decode cX10_countAt 7 = .ok (.iload_n 2, 1) := by decide +kernel
theorem dX10_countAt_8 : decode cX10_countAt 8 = .ok (.if_icmp .gt 34, 3) := by decide +kernel
theorem dX10_countAt_11 : decode cX10_countAt 11 = .ok (.iload_n 3, 1) := by decide +kernel
theorem dX10_countAt_12 : decode cX10_countAt 12 = .ok (.aload_n 0, 1) := by decide +kernel
theorem dX10_countAt_13 : decode cX10_countAt 13 = .ok (.getfield 35, 3) := by decide +kernel
theorem dX10_countAt_16 : decode cX10_countAt 16 = .ok (.bipush 25, 2) := by decide +kernel
theorem dX10_countAt_18 : decode cX10_countAt 18 = .ok (.iload_n 1, 1) := by decide +kernel
theorem dX10_countAt_19 : decode cX10_countAt 19 = .ok (.imul, 1) := by decide +kernel
theorem dX10_countAt_20 : decode cX10_countAt 20 = .ok (.iload 4, 2) := by decide +kernel
theorem dX10_countAt_22 : decode cX10_countAt 22 = .ok (.iadd, 1) := by decide +kernel
theorem dX10_countAt_23 : decode cX10_countAt 23 = .ok (.iaload, 1) := by decide +kernel
theorem dX10_countAt_24 : decode cX10_countAt 24 = .ok (.iload_n 2, 1) := by decide +kernel
theorem dX10_countAt_25 : decode cX10_countAt 25 = .ok (.iconst 1, 1) := by decide +kernel
theorem dX10_countAt_26 : decode cX10_countAt 26 = .ok (.iadd, 1) := by decide +kernel
theorem dX10_countAt_27 : decode cX10_countAt 27 = .ok (.invokestatic 91, 3) := by decide +kernel
theorem dX10_countAt_30 : decode cX10_countAt 30 = .ok (.iand, 1) := by decide +kernel
theorem dX10_countAt_31 : decode cX10_countAt 31 = .ok (.invokestatic 66, 3) := by decide +kernel
theorem dX10_countAt_34 : decode cX10_countAt 34 = .ok (.iadd, 1) := by decide +kernel
theorem dX10_countAt_35 : decode cX10_countAt 35 = .ok (.istore_n 3, 1) := by decide +kernel
theorem dX10_countAt_36 : decode cX10_countAt 36 = .ok (.iinc 4 1, 3) := by decide +kernel
theorem dX10_countAt_39 : decode cX10_countAt 39 = .ok (.goto (-34), 3) := by decide +kernel
theorem dX10_countAt_42 : decode cX10_countAt 42 = .ok (.iload_n 3, 1) := by decide +kernel
theorem dX10_countAt_43 : decode cX10_countAt 43 = .ok (.ireturn, 1) := by decide +kernel
set_option maxRecDepth 20000 in
theorem ggX10_covered_X10_canAsk : GoodIn wsX10_covered wsX10_canAsk := goodIn_r _ [6, 7, 8, 9, 5, 10, 11, 12, 13, 14, 15, 16, 17, 18, 19, 20, 21, 22, 23, 24, 25, 26, 27, 28, 29, 30, 31, 32, 33, 34, 35, 36, 37, 1, 38, 39, 40, 41, 42, 43, 44, 45, 46, 47, 48, 49, 50, 51, 52, 53, 54, 55, 56, 57, 58, 59, 60, 61, 62, 63, 64, 65, 66, 67, 68, 69, 70, 71, 72, 73, 74, 75, 76, 77, 78, 86, 87, 88, 89, 90, 91, 92, 93, 94, 95, 96, 97, 98] (by decide +kernel) (by decide +kernel)
set_option maxRecDepth 20000 in
theorem gX10_covered_X10_canAsk : GoodIn wsX10_covered (wsV RX10 135 RX10 yX10_canAsk wsX10_canAsk) := goodIn_app (goodIn_of _ (by decide +kernel)) ggX10_covered_X10_canAsk
set_option maxRecDepth 20000 in
theorem ggX10_covered_X10_countAt : GoodIn wsX10_covered wsX10_countAt := goodIn_r _ [82, 33, 68, 69, 5, 70, 83, 84, 85, 86, 87, 88, 89, 90, 91, 92, 93, 94, 95, 96, 97, 98] (by decide +kernel) (by decide +kernel)
set_option maxRecDepth 20000 in
theorem gX10_covered_X10_countAt : GoodIn wsX10_covered (wsV RX10 141 RX10 yX10_countAt wsX10_countAt) := goodIn_app (goodIn_of _ (by decide +kernel)) ggX10_covered_X10_countAt
theorem dX10_covered_0 : decode cX10_covered 0 = .ok (.iconst 0, 1) := by decide +kernel
theorem dX10_covered_1 : decode cX10_covered 1 = .ok (.istore_n 2, 1) := by decide +kernel
theorem dX10_covered_2 : decode cX10_covered 2 = .ok (.aload_n 0, 1) := by decide +kernel
theorem dX10_covered_3 : decode cX10_covered 3 = .ok (.iload_n 1, 1) := by decide +kernel
theorem dX10_covered_4 : decode cX10_covered 4 = .ok (.invokevirtual 135, 3) := by decide +kernel
theorem dX10_covered_7 : decode cX10_covered 7 = .ok (.istore_n 3, 1) := by decide +kernel
theorem dX10_covered_8 : decode cX10_covered 8 = .ok (.iconst 0, 1) := by decide +kernel
theorem dX10_covered_9 : decode cX10_covered 9 = .ok (.istore 4, 2) := by decide +kernel
theorem dX10_covered_11 : decode cX10_covered 11 = .ok (.iload 4, 2) := by decide +kernel
theorem dX10_covered_13 : decode cX10_covered 13 = .ok (.aload_n 0, 1) := by decide +kernel
theorem dX10_covered_14 : decode cX10_covered 14 = .ok (.getfield 52, 3) := by decide +kernel
theorem dX10_covered_17 : decode cX10_covered 17 = .ok (.if_icmp .ge 31, 3) := by decide +kernel
theorem dX10_covered_20 : decode cX10_covered 20 = .ok (.iload_n 3, 1) := by decide +kernel
theorem dX10_covered_21 : decode cX10_covered 21 = .ok (.ifCond .eq 27, 3) := by decide +kernel
theorem dX10_covered_24 : decode cX10_covered 24 = .ok (.iload_n 2, 1) := by decide +kernel
theorem dX10_covered_25 : decode cX10_covered 25 = .ok (.aload_n 0, 1) := by decide +kernel
theorem dX10_covered_26 : decode cX10_covered 26 = .ok (.iload_n 1, 1) := by decide +kernel
theorem dX10_covered_27 : decode cX10_covered 27 = .ok (.iload 4, 2) := by decide +kernel
theorem dX10_covered_29 : decode cX10_covered 29 = .ok (.invokevirtual 141, 3) := by decide +kernel
theorem dX10_covered_32 : decode cX10_covered 32 = .ok (.ifCond .le 7, 3) := by decide +kernel
theorem dX10_covered_35 : decode cX10_covered 35 = .ok (.iconst 1, 1) := by decide +kernel
theorem dX10_covered_36 : decode cX10_covered 36 = .ok (.goto 4, 3) := by decide +kernel
theorem dX10_covered_39 : decode cX10_covered 39 = .ok (.iconst 0, 1) := by decide +kernel
theorem dX10_covered_40 : decode cX10_covered 40 = .ok (.iadd, 1) := by decide +kernel
theorem dX10_covered_41 : decode cX10_covered 41 = .ok (.istore_n 2, 1) := by decide +kernel
theorem dX10_covered_42 : decode cX10_covered 42 = .ok (.iinc 4 1, 3) := by decide +kernel
theorem dX10_covered_45 : decode cX10_covered 45 = .ok (.goto (-34), 3) := by decide +kernel
theorem dX10_covered_48 : decode cX10_covered 48 = .ok (.iload_n 2, 1) := by decide +kernel
theorem dX10_covered_49 : decode cX10_covered 49 = .ok (.ireturn, 1) := by decide +kernel
set_option maxRecDepth 20000 in
theorem ggX10_longest_X10_canAsk : GoodIn wsX10_longest wsX10_canAsk := goodIn_r _ [5, 6, 7, 8, 4, 9, 10, 11, 12, 13, 14, 15, 16, 17, 18, 19, 20, 21, 22, 23, 24, 25, 26, 27, 28, 29, 30, 31, 32, 33, 34, 35, 36, 37, 38, 39, 40, 41, 42, 43, 44, 45, 46, 47, 48, 49, 50, 51, 52, 53, 54, 55, 56, 57, 58, 59, 60, 61, 62, 63, 64, 65, 66, 67, 68, 69, 70, 71, 72, 73, 74, 75, 76, 77, 78, 79, 80, 81, 82, 83, 84, 85, 86, 87, 88, 89, 90, 91] (by decide +kernel) (by decide +kernel)
set_option maxRecDepth 20000 in
theorem gX10_longest_X10_canAsk : GoodIn wsX10_longest (wsV RX10 135 RX10 yX10_canAsk wsX10_canAsk) := goodIn_app (goodIn_of _ (by decide +kernel)) ggX10_longest_X10_canAsk
set_option maxRecDepth 20000 in
theorem ggX10_longest_X10_holds : GoodIn wsX10_longest wsX10_holds := goodIn_r _ [47, 32, 79, 80, 81, 82, 83, 84, 85, 86, 87, 88, 89, 90, 91] (by decide +kernel) (by decide +kernel)
set_option maxRecDepth 20000 in
theorem gX10_longest_X10_holds : GoodIn wsX10_longest (wsV RX10 94 RX10 yX10_holds wsX10_holds) := goodIn_app (goodIn_of _ (by decide +kernel)) ggX10_longest_X10_holds
theorem dX10_longest_0 : decode cX10_longest 0 = .ok (.iconst 0, 1) := by decide +kernel
theorem dX10_longest_1 : decode cX10_longest 1 = .ok (.istore_n 2, 1) := by decide +kernel
theorem dX10_longest_2 : decode cX10_longest 2 = .ok (.aload_n 0, 1) := by decide +kernel
theorem dX10_longest_3 : decode cX10_longest 3 = .ok (.iload_n 1, 1) := by decide +kernel
theorem dX10_longest_4 : decode cX10_longest 4 = .ok (.invokevirtual 135, 3) := by decide +kernel
theorem dX10_longest_7 : decode cX10_longest 7 = .ok (.istore_n 3, 1) := by decide +kernel
theorem dX10_longest_8 : decode cX10_longest 8 = .ok (.iconst 0, 1) := by decide +kernel
theorem dX10_longest_9 : decode cX10_longest 9 = .ok (.istore 4, 2) := by decide +kernel
theorem dX10_longest_11 : decode cX10_longest 11 = .ok (.iload 4, 2) := by decide +kernel
theorem dX10_longest_13 : decode cX10_longest 13 = .ok (.sipush 625, 3) := by decide +kernel
theorem dX10_longest_16 : decode cX10_longest 16 = .ok (.if_icmp .ge 57, 3) := by decide +kernel
theorem dX10_longest_19 : decode cX10_longest 19 = .ok (.iload_n 3, 1) := by decide +kernel
theorem dX10_longest_20 : decode cX10_longest 20 = .ok (.ifCond .eq 53, 3) := by decide +kernel
theorem dX10_longest_23 : decode cX10_longest 23 = .ok (.iload 4, 2) := by decide +kernel
theorem dX10_longest_25 : decode cX10_longest 25 = .ok (.bipush 25, 2) := by decide +kernel
theorem dX10_longest_27 : decode cX10_longest 27 = .ok (.irem, 1) := by decide +kernel
theorem dX10_longest_28 : decode cX10_longest 28 = .ok (.iload 4, 2) := by decide +kernel
theorem dX10_longest_30 : decode cX10_longest 30 = .ok (.bipush 25, 2) := by decide +kernel
theorem dX10_longest_32 : decode cX10_longest 32 = .ok (.idiv, 1) := by decide +kernel
theorem dX10_longest_33 : decode cX10_longest 33 = .ok (.isub, 1) := by decide +kernel
theorem dX10_longest_34 : decode cX10_longest 34 = .ok (.istore 5, 2) := by decide +kernel
theorem dX10_longest_36 : decode cX10_longest 36 = .ok (.aload_n 0, 1) := by decide +kernel
theorem dX10_longest_37 : decode cX10_longest 37 = .ok (.iload_n 1, 1) := by decide +kernel
theorem dX10_longest_38 : decode cX10_longest 38 = .ok (.iload 4, 2) := by decide +kernel
theorem dX10_longest_40 : decode cX10_longest 40 = .ok (.bipush 25, 2) := by decide +kernel
theorem dX10_longest_42 : decode cX10_longest 42 = .ok (.idiv, 1) := by decide +kernel
theorem dX10_longest_43 : decode cX10_longest 43 = .ok (.iload 4, 2) := by decide +kernel
theorem dX10_longest_45 : decode cX10_longest 45 = .ok (.bipush 25, 2) := by decide +kernel
theorem dX10_longest_47 : decode cX10_longest 47 = .ok (.irem, 1) := by decide +kernel
theorem dX10_longest_48 : decode cX10_longest 48 = .ok (.invokevirtual 94, 3) := by decide +kernel
theorem dX10_longest_51 : decode cX10_longest 51 = .ok (.ifCond .eq 14, 3) := by decide +kernel
theorem dX10_longest_54 : decode cX10_longest 54 = .ok (.iload 5, 2) := by decide +kernel
theorem dX10_longest_56 : decode cX10_longest 56 = .ok (.iload_n 2, 1) := by decide +kernel
theorem dX10_longest_57 : decode cX10_longest 57 = .ok (.if_icmp .le 8, 3) := by decide +kernel
theorem dX10_longest_60 : decode cX10_longest 60 = .ok (.iload 5, 2) := by decide +kernel
theorem dX10_longest_62 : decode cX10_longest 62 = .ok (.goto 4, 3) := by decide +kernel
theorem dX10_longest_65 : decode cX10_longest 65 = .ok (.iload_n 2, 1) := by decide +kernel
theorem dX10_longest_66 : decode cX10_longest 66 = .ok (.istore_n 2, 1) := by decide +kernel
theorem dX10_longest_67 : decode cX10_longest 67 = .ok (.iinc 4 1, 3) := by decide +kernel
theorem dX10_longest_70 : decode cX10_longest 70 = .ok (.goto (-59), 3) := by decide +kernel
theorem dX10_longest_73 : decode cX10_longest 73 = .ok (.iload_n 2, 1) := by decide +kernel
theorem dX10_longest_74 : decode cX10_longest 74 = .ok (.ireturn, 1) := by decide +kernel
set_option maxRecDepth 20000 in
theorem ggX10_deepest_X10_canAsk : GoodIn wsX10_deepest wsX10_canAsk := goodIn_r _ [6, 7, 8, 9, 5, 10, 11, 12, 13, 14, 15, 16, 17, 18, 19, 20, 21, 22, 23, 24, 25, 26, 27, 28, 29, 30, 31, 32, 33, 34, 35, 36, 37, 1, 38, 39, 40, 41, 42, 43, 44, 45, 46, 47, 48, 49, 50, 51, 52, 53, 54, 55, 56, 57, 58, 59, 60, 61, 62, 63, 64, 65, 66, 67, 68, 69, 70, 71, 72, 73, 74, 75, 76, 77, 78, 86, 87, 88, 89, 90, 91, 92, 93, 94, 95, 96, 97, 98] (by decide +kernel) (by decide +kernel)
set_option maxRecDepth 20000 in
theorem gX10_deepest_X10_canAsk : GoodIn wsX10_deepest (wsV RX10 135 RX10 yX10_canAsk wsX10_canAsk) := goodIn_app (goodIn_of _ (by decide +kernel)) ggX10_deepest_X10_canAsk
set_option maxRecDepth 20000 in
theorem ggX10_deepest_X10_countAt : GoodIn wsX10_deepest wsX10_countAt := goodIn_r _ [82, 33, 68, 69, 5, 70, 83, 84, 85, 86, 87, 88, 89, 90, 91, 92, 93, 94, 95, 96, 97, 98] (by decide +kernel) (by decide +kernel)
set_option maxRecDepth 20000 in
theorem gX10_deepest_X10_countAt : GoodIn wsX10_deepest (wsV RX10 141 RX10 yX10_countAt wsX10_countAt) := goodIn_app (goodIn_of _ (by decide +kernel)) ggX10_deepest_X10_countAt
theorem dX10_deepest_0 : decode cX10_deepest 0 = .ok (.iconst 0, 1) := by decide +kernel
theorem dX10_deepest_1 : decode cX10_deepest 1 = .ok (.istore_n 2, 1) := by decide +kernel
theorem dX10_deepest_2 : decode cX10_deepest 2 = .ok (.aload_n 0, 1) := by decide +kernel
theorem dX10_deepest_3 : decode cX10_deepest 3 = .ok (.iload_n 1, 1) := by decide +kernel
theorem dX10_deepest_4 : decode cX10_deepest 4 = .ok (.invokevirtual 135, 3) := by decide +kernel
theorem dX10_deepest_7 : decode cX10_deepest 7 = .ok (.istore_n 3, 1) := by decide +kernel
theorem dX10_deepest_8 : decode cX10_deepest 8 = .ok (.iconst 0, 1) := by decide +kernel
theorem dX10_deepest_9 : decode cX10_deepest 9 = .ok (.istore 4, 2) := by decide +kernel
theorem dX10_deepest_11 : decode cX10_deepest 11 = .ok (.iload 4, 2) := by decide +kernel
theorem dX10_deepest_13 : decode cX10_deepest 13 = .ok (.aload_n 0, 1) := by decide +kernel
theorem dX10_deepest_14 : decode cX10_deepest 14 = .ok (.getfield 52, 3) := by decide +kernel
theorem dX10_deepest_17 : decode cX10_deepest 17 = .ok (.if_icmp .ge 35, 3) := by decide +kernel
theorem dX10_deepest_20 : decode cX10_deepest 20 = .ok (.iload_n 3, 1) := by decide +kernel
theorem dX10_deepest_21 : decode cX10_deepest 21 = .ok (.ifCond .eq 31, 3) := by decide +kernel
theorem dX10_deepest_24 : decode cX10_deepest 24 = .ok (.aload_n 0, 1) := by decide +kernel
theorem dX10_deepest_25 : decode cX10_deepest 25 = .ok (.iload_n 1, 1) := by decide +kernel
theorem dX10_deepest_26 : decode cX10_deepest 26 = .ok (.iload 4, 2) := by decide +kernel
theorem dX10_deepest_28 : decode cX10_deepest 28 = .ok (.invokevirtual 141, 3) := by decide +kernel
theorem dX10_deepest_31 : decode cX10_deepest 31 = .ok (.istore 5, 2) := by decide +kernel
theorem dX10_deepest_33 : decode cX10_deepest 33 = .ok (.iload 5, 2) := by decide +kernel
theorem dX10_deepest_35 : decode cX10_deepest 35 = .ok (.iload_n 2, 1) := by decide +kernel
theorem dX10_deepest_36 : decode cX10_deepest 36 = .ok (.if_icmp .le 8, 3) := by decide +kernel
theorem dX10_deepest_39 : decode cX10_deepest 39 = .ok (.iload 5, 2) := by decide +kernel
theorem dX10_deepest_41 : decode cX10_deepest 41 = .ok (.goto 4, 3) := by decide +kernel
theorem dX10_deepest_44 : decode cX10_deepest 44 = .ok (.iload_n 2, 1) := by decide +kernel
theorem dX10_deepest_45 : decode cX10_deepest 45 = .ok (.istore_n 2, 1) := by decide +kernel
theorem dX10_deepest_46 : decode cX10_deepest 46 = .ok (.iinc 4 1, 3) := by decide +kernel
theorem dX10_deepest_49 : decode cX10_deepest 49 = .ok (.goto (-38), 3) := by decide +kernel
theorem dX10_deepest_52 : decode cX10_deepest 52 = .ok (.iload_n 2, 1) := by decide +kernel
theorem dX10_deepest_53 : decode cX10_deepest 53 = .ok (.ireturn, 1) := by decide +kernel
theorem dJ6_bitCount_0f7a4_0 : decode cJ6_bitCount_0f7a4 0 = .ok (.iload_n 0, 1) := by decide +kernel
theorem dJ6_bitCount_0f7a4_1 : decode cJ6_bitCount_0f7a4 1 = .ok (.iload_n 0, 1) := by decide +kernel
theorem dJ6_bitCount_0f7a4_2 : decode cJ6_bitCount_0f7a4 2 = .ok (.iconst 1, 1) := by decide +kernel
theorem dJ6_bitCount_0f7a4_3 : decode cJ6_bitCount_0f7a4 3 = .ok (.iushr, 1) := by decide +kernel
theorem dJ6_bitCount_0f7a4_4 : decode cJ6_bitCount_0f7a4 4 = .ok (.ldc_w 265, 3) := by decide +kernel
theorem dJ6_bitCount_0f7a4_7 : decode cJ6_bitCount_0f7a4 7 = .ok (.iand, 1) := by decide +kernel
theorem dJ6_bitCount_0f7a4_8 : decode cJ6_bitCount_0f7a4 8 = .ok (.isub, 1) := by decide +kernel
theorem dJ6_bitCount_0f7a4_9 : decode cJ6_bitCount_0f7a4 9 = .ok (.istore_n 0, 1) := by decide +kernel
theorem dJ6_bitCount_0f7a4_10 : decode cJ6_bitCount_0f7a4 10 = .ok (.iload_n 0, 1) := by decide +kernel
theorem dJ6_bitCount_0f7a4_11 : decode cJ6_bitCount_0f7a4 11 = .ok (.ldc_w 266, 3) := by decide +kernel
theorem dJ6_bitCount_0f7a4_14 : decode cJ6_bitCount_0f7a4 14 = .ok (.iand, 1) := by decide +kernel
theorem dJ6_bitCount_0f7a4_15 : decode cJ6_bitCount_0f7a4 15 = .ok (.iload_n 0, 1) := by decide +kernel
theorem dJ6_bitCount_0f7a4_16 : decode cJ6_bitCount_0f7a4 16 = .ok (.iconst 2, 1) := by decide +kernel
theorem dJ6_bitCount_0f7a4_17 : decode cJ6_bitCount_0f7a4 17 = .ok (.iushr, 1) := by decide +kernel
theorem dJ6_bitCount_0f7a4_18 : decode cJ6_bitCount_0f7a4 18 = .ok (.ldc_w 266, 3) := by decide +kernel
theorem dJ6_bitCount_0f7a4_21 : decode cJ6_bitCount_0f7a4 21 = .ok (.iand, 1) := by decide +kernel
theorem dJ6_bitCount_0f7a4_22 : decode cJ6_bitCount_0f7a4 22 = .ok (.iadd, 1) := by decide +kernel
theorem dJ6_bitCount_0f7a4_23 : decode cJ6_bitCount_0f7a4 23 = .ok (.istore_n 0, 1) := by decide +kernel
theorem dJ6_bitCount_0f7a4_24 : decode cJ6_bitCount_0f7a4 24 = .ok (.iload_n 0, 1) := by decide +kernel
theorem dJ6_bitCount_0f7a4_25 : decode cJ6_bitCount_0f7a4 25 = .ok (.iload_n 0, 1) := by decide +kernel
theorem dJ6_bitCount_0f7a4_26 : decode cJ6_bitCount_0f7a4 26 = .ok (.iconst 4, 1) := by decide +kernel
theorem dJ6_bitCount_0f7a4_27 : decode cJ6_bitCount_0f7a4 27 = .ok (.iushr, 1) := by decide +kernel
theorem dJ6_bitCount_0f7a4_28 : decode cJ6_bitCount_0f7a4 28 = .ok (.iadd, 1) := by decide +kernel
theorem dJ6_bitCount_0f7a4_29 : decode cJ6_bitCount_0f7a4 29 = .ok (.ldc_w 267, 3) := by decide +kernel
theorem dJ6_bitCount_0f7a4_32 : decode cJ6_bitCount_0f7a4 32 = .ok (.iand, 1) := by decide +kernel
theorem dJ6_bitCount_0f7a4_33 : decode cJ6_bitCount_0f7a4 33 = .ok (.istore_n 0, 1) := by decide +kernel
theorem dJ6_bitCount_0f7a4_34 : decode cJ6_bitCount_0f7a4 34 = .ok (.iload_n 0, 1) := by decide +kernel
theorem dJ6_bitCount_0f7a4_35 : decode cJ6_bitCount_0f7a4 35 = .ok (.iload_n 0, 1) := by decide +kernel
theorem dJ6_bitCount_0f7a4_36 : decode cJ6_bitCount_0f7a4 36 = .ok (.bipush 8, 2) := by decide +kernel
theorem dJ6_bitCount_0f7a4_38 : decode cJ6_bitCount_0f7a4 38 = .ok (.iushr, 1) := by decide +kernel
theorem dJ6_bitCount_0f7a4_39 : decode cJ6_bitCount_0f7a4 39 = .ok (.iadd, 1) := by decide +kernel
theorem dJ6_bitCount_0f7a4_40 : decode cJ6_bitCount_0f7a4 40 = .ok (.istore_n 0, 1) := by decide +kernel
theorem dJ6_bitCount_0f7a4_41 : decode cJ6_bitCount_0f7a4 41 = .ok (.iload_n 0, 1) := by decide +kernel
theorem dJ6_bitCount_0f7a4_42 : decode cJ6_bitCount_0f7a4 42 = .ok (.iload_n 0, 1) := by decide +kernel
theorem dJ6_bitCount_0f7a4_43 : decode cJ6_bitCount_0f7a4 43 = .ok (.bipush 16, 2) := by decide +kernel
theorem dJ6_bitCount_0f7a4_45 : decode cJ6_bitCount_0f7a4 45 = .ok (.iushr, 1) := by decide +kernel
theorem dJ6_bitCount_0f7a4_46 : decode cJ6_bitCount_0f7a4 46 = .ok (.iadd, 1) := by decide +kernel
theorem dJ6_bitCount_0f7a4_47 : decode cJ6_bitCount_0f7a4 47 = .ok (.istore_n 0, 1) := by decide +kernel
theorem dJ6_bitCount_0f7a4_48 : decode cJ6_bitCount_0f7a4 48 = .ok (.iload_n 0, 1) := by decide +kernel
theorem dJ6_bitCount_0f7a4_49 : decode cJ6_bitCount_0f7a4 49 = .ok (.bipush 63, 2) := by decide +kernel
theorem dJ6_bitCount_0f7a4_51 : decode cJ6_bitCount_0f7a4 51 = .ok (.iand, 1) := by decide +kernel
theorem dJ6_bitCount_0f7a4_52 : decode cJ6_bitCount_0f7a4 52 = .ok (.ireturn, 1) := by decide +kernel
theorem dJ9_max_7cf53_0 : decode cJ9_max_7cf53 0 = .ok (.iload_n 0, 1) := by decide +kernel
theorem dJ9_max_7cf53_1 : decode cJ9_max_7cf53 1 = .ok (.iload_n 1, 1) := by decide +kernel
theorem dJ9_max_7cf53_2 : decode cJ9_max_7cf53 2 = .ok (.if_icmp .lt 7, 3) := by decide +kernel
theorem dJ9_max_7cf53_5 : decode cJ9_max_7cf53 5 = .ok (.iload_n 0, 1) := by decide +kernel
theorem dJ9_max_7cf53_6 : decode cJ9_max_7cf53 6 = .ok (.goto 4, 3) := by decide +kernel
theorem dJ9_max_7cf53_9 : decode cJ9_max_7cf53 9 = .ok (.iload_n 1, 1) := by decide +kernel
theorem dJ9_max_7cf53_10 : decode cJ9_max_7cf53 10 = .ok (.ireturn, 1) := by decide +kernel
theorem dJ9_min_7cf53_0 : decode cJ9_min_7cf53 0 = .ok (.iload_n 0, 1) := by decide +kernel
theorem dJ9_min_7cf53_1 : decode cJ9_min_7cf53 1 = .ok (.iload_n 1, 1) := by decide +kernel
theorem dJ9_min_7cf53_2 : decode cJ9_min_7cf53 2 = .ok (.if_icmp .gt 7, 3) := by decide +kernel
theorem dJ9_min_7cf53_5 : decode cJ9_min_7cf53 5 = .ok (.iload_n 0, 1) := by decide +kernel
theorem dJ9_min_7cf53_6 : decode cJ9_min_7cf53 6 = .ok (.goto 4, 3) := by decide +kernel
theorem dJ9_min_7cf53_9 : decode cJ9_min_7cf53 9 = .ok (.iload_n 1, 1) := by decide +kernel
theorem dJ9_min_7cf53_10 : decode cJ9_min_7cf53 10 = .ok (.ireturn, 1) := by decide +kernel
set_option maxRecDepth 20000 in
theorem ggL_insert_X9_insert : GoodIn wsL_insert wsX9_insert := goodIn_ca (goodIn_ca (goodIn_ca (goodIn_r _ [8, 9, 10, 11, 12, 13, 14, 15, 16, 17, 18, 19, 20, 21, 22, 23, 24, 7, 25, 26, 27, 28, 29, 30, 31, 32, 33, 34, 35, 36, 37, 38, 39, 40, 41, 42, 43, 44, 45, 46, 47, 48, 49, 50, 51, 52, 53, 54, 55, 56, 57, 58] (by decide +kernel) (by decide +kernel)) (goodIn_sub (fun _ h => List.mem_cons_of_mem _ (List.mem_append_left _ (List.mem_append_left _ (List.mem_append_right _ h)))) (by decide +kernel))) (goodIn_sub (fun _ h => List.mem_cons_of_mem _ (List.mem_append_left _ (List.mem_append_right _ h))) (by decide +kernel))) (goodIn_sub (fun _ h => List.mem_cons_of_mem _ (List.mem_append_right _ h)) (by decide +kernel))
set_option maxRecDepth 20000 in
theorem gL_insert_X9_insert : GoodIn wsL_insert (wsV RL 7 RX9 yX9_insert wsX9_insert) := goodIn_app (goodIn_of _ (by decide +kernel)) ggL_insert_X9_insert
theorem dL_insert_0 : decode cL_insert 0 = .ok (.aload_n 3, 1) := by decide +kernel
theorem dL_insert_1 : decode cL_insert 1 = .ok (.iconst 0, 1) := by decide +kernel
theorem dL_insert_2 : decode cL_insert 2 = .ok (.aload_n 0, 1) := by decide +kernel
theorem dL_insert_3 : decode cL_insert 3 = .ok (.iload_n 1, 1) := by decide +kernel
theorem dL_insert_4 : decode cL_insert 4 = .ok (.iload_n 2, 1) := by decide +kernel
theorem dL_insert_5 : decode cL_insert 5 = .ok (.invokevirtual 7, 3) := by decide +kernel
theorem dL_insert_8 : decode cL_insert 8 = .ok (.i2l, 1) := by decide +kernel
