set_option maxRecDepth 20000 in
theorem gq_isNodeSo_r8 : GoodIn wsL_law wsL_isNodeSo_r8 := goodIn_r _ [277, 424, 425, 426, 287, 427, 288, 428, 429, 161, 162, 163, 164, 165, 166, 167, 168, 169, 170, 171, 42, 43, 44, 45] (by decide +kernel) (by decide +kernel)
set_option maxRecDepth 20000 in
theorem gq_isNodeSo_r9 : GoodIn wsL_law wsL_isNodeSo_r9 := goodIn_r _ [430, 431, 432, 433, 434, 435, 436, 437, 438, 439, 440, 441, 442, 443, 199, 444, 445, 446, 447, 448, 449, 450, 137, 138] (by decide +kernel) (by decide +kernel)
set_option maxRecDepth 20000 in
theorem gq_isNodeSo_r10 : GoodIn wsL_law wsL_isNodeSo_r10 := goodIn_r _ [139, 451, 452, 453, 454, 455, 456, 457, 458, 459, 460, 156, 461, 462, 463, 464, 465, 466, 467, 468, 469, 470, 471, 472] (by decide +kernel) (by decide +kernel)
set_option maxRecDepth 20000 in
theorem gq_isNodeSo_r11 : GoodIn wsL_law wsL_isNodeSo_r11 := goodIn_r _ [473, 474, 475, 476, 477, 478, 479, 480, 481, 482, 483, 484, 485, 486, 487, 488, 286, 489, 490, 491, 492, 493, 494, 495] (by decide +kernel) (by decide +kernel)
set_option maxRecDepth 20000 in
theorem gq_isNodeSo_r12 : GoodIn wsL_law wsL_isNodeSo_r12 := goodIn_r _ [496, 497, 498, 499, 500, 501, 502, 503, 504, 505, 506, 507, 33, 508, 53, 509, 510, 511, 512, 152, 153, 154, 155, 513] (by decide +kernel) (by decide +kernel)
set_option maxRecDepth 20000 in
theorem gq_isNodeSo_r13 : GoodIn wsL_law wsL_isNodeSo_r13 := goodIn_r _ [514, 515, 516, 136, 517, 518, 519, 520, 521, 522, 523, 524, 525, 526, 527, 528, 529, 530, 531, 532, 533, 534, 535, 536] (by decide +kernel) (by decide +kernel)
set_option maxRecDepth 20000 in
theorem gq_isNodeSo_r14 : GoodIn wsL_law wsL_isNodeSo_r14 := goodIn_r _ [537, 538, 539, 540, 541, 542, 543, 544] (by decide +kernel) (by decide +kernel)
set_option maxRecDepth 20000 in
theorem ggL_law_L_isNodeSo : GoodIn wsL_law wsL_isNodeSo := goodIn_ca (goodIn_ca (goodIn_ca (goodIn_ca (goodIn_ca (goodIn_ca (goodIn_ca (goodIn_ca (goodIn_ca (goodIn_ca (goodIn_c1 gq_isNodeSo_0 (goodIn_app gq_isNodeSo_r1 (goodIn_app gq_isNodeSo_r2 (goodIn_app gq_isNodeSo_r3 (goodIn_app gq_isNodeSo_r4 (goodIn_app gq_isNodeSo_r5 (goodIn_app gq_isNodeSo_r6 (goodIn_app gq_isNodeSo_r7 (goodIn_app gq_isNodeSo_r8 (goodIn_app gq_isNodeSo_r9 (goodIn_app gq_isNodeSo_r10 (goodIn_app gq_isNodeSo_r11 (goodIn_app gq_isNodeSo_r12 (goodIn_app gq_isNodeSo_r13 (gq_isNodeSo_r14))))))))))))))) (goodIn_sub inlX9 (by decide +kernel))) (goodIn_sub inlX1 (by decide +kernel))) (goodIn_sub inlX2 (by decide +kernel))) (goodIn_sub inlX3 (by decide +kernel))) (goodIn_sub inlX4 (by decide +kernel))) (goodIn_sub inlX5 (by decide +kernel))) (goodIn_sub inlX7 (by decide +kernel))) (goodIn_sub inlX6 (by decide +kernel))) (goodIn_sub inlX8 (by decide +kernel))) (goodIn_sub (fun _ h => List.mem_append_left _ (List.mem_append_right _ h)) (by decide +kernel))
set_option maxRecDepth 20000 in
theorem gL_law_L_isNodeSo : GoodIn wsL_law (va_wsS RL 121 yL_isNodeSo wsL_isNodeSo) := goodIn_app (goodIn_of _ (by decide +kernel)) ggL_law_L_isNodeSo
