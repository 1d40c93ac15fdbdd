theorem goodIn_c1 {big a : List Cond} {c : Cond} (hc : GoodIn big [c]) (ha : GoodIn big a) : GoodIn big (c :: a) := fun w h => (List.mem_cons.mp h).elim (fun e => hc w (List.mem_cons.mpr (Or.inl e))) (ha w)
set_option maxRecDepth 20000 in
theorem gq_act_0 : GoodIn wsL_law [.code yL_act cL_act 9 (some .int)] := goodIn_r _ [37] (by decide +kernel) (by decide +kernel)
set_option maxRecDepth 20000 in
theorem gq_act_r1 : GoodIn wsL_law wsL_act_r1 := goodIn_r _ [38, 39, 33, 40, 41, 42, 43, 44, 2, 45, 13, 46, 47, 48, 49, 16, 50, 51, 52, 53, 54, 55, 3, 56] (by decide +kernel) (by decide +kernel)
set_option maxRecDepth 20000 in
theorem gq_act_r2 : GoodIn wsL_law wsL_act_r2 := goodIn_r _ [57, 58, 59, 60, 61, 62, 12, 63, 64, 65, 66, 67, 68, 69, 70, 22, 24, 71, 72, 73, 74, 75, 76, 77] (by decide +kernel) (by decide +kernel)
set_option maxRecDepth 20000 in
theorem gq_act_r3 : GoodIn wsL_law wsL_act_r3 := goodIn_r _ [78, 79, 26, 80, 30, 81, 82, 83, 84, 85, 86, 87, 88, 89, 90, 91, 92, 93, 94, 95, 96, 97, 98, 99] (by decide +kernel) (by decide +kernel)
set_option maxRecDepth 20000 in
theorem gq_act_r4 : GoodIn wsL_law wsL_act_r4 := goodIn_r _ [100, 101, 102, 103, 104, 105, 106, 107, 108, 109, 110, 111, 112, 113, 114, 115, 116, 117, 118, 119, 120, 121, 122, 123] (by decide +kernel) (by decide +kernel)
set_option maxRecDepth 20000 in
theorem gq_act_r5 : GoodIn wsL_law wsL_act_r5 := goodIn_r _ [124, 125, 126, 127, 128, 129, 130, 131, 132, 133, 134, 135, 136, 137, 138, 139, 140, 141, 142, 143, 144, 145, 146, 147] (by decide +kernel) (by decide +kernel)
set_option maxRecDepth 20000 in
theorem gq_act_r6 : GoodIn wsL_law wsL_act_r6 := goodIn_r _ [148, 149, 150, 151, 152, 153, 154, 155, 156, 157, 158, 159, 160, 161, 162, 163, 164, 165, 166, 167, 168, 169, 170, 171] (by decide +kernel) (by decide +kernel)
