set_option maxRecDepth 20000 in
theorem ggL_law_L_areAlike : GoodIn wsL_law wsL_areAlike := goodIn_ca (goodIn_r _ [300, 42, 43, 44, 2, 45, 13, 46, 47, 48, 49, 16, 301, 302, 303, 304, 305, 109, 110, 12, 111, 64, 65, 22, 112, 113, 114, 115, 70, 545, 546, 547, 548, 549, 550] (by decide +kernel) (by decide +kernel)) (goodIn_sub (fun _ h => List.mem_append_left _ (List.mem_append_left _ (List.mem_append_left _ (List.mem_append_left _ (List.mem_append_left _ (List.mem_append_right _ h)))))) (by decide +kernel))
set_option maxRecDepth 20000 in
theorem gL_law_L_areAlike : GoodIn wsL_law (va_wsS RL 117 yL_areAlike wsL_areAlike) := goodIn_app (goodIn_of _ (by decide +kernel)) ggL_law_L_areAlike
set_option maxRecDepth 20000 in
theorem ggL_law_X9_nodes : GoodIn wsL_law wsX9_nodes := goodIn_r _ [49, 16, 545, 546, 547] (by decide +kernel) (by decide +kernel)
set_option maxRecDepth 20000 in
theorem gL_law_X9_nodes : GoodIn wsL_law (wsV RL 61 RX9 yX9_nodes wsX9_nodes) := goodIn_app (goodIn_of _ (by decide +kernel)) ggL_law_X9_nodes
set_option maxRecDepth 20000 in
theorem ggL_law_L_low : GoodIn wsL_law wsL_low := goodIn_r _ [40, 41] (by decide +kernel) (by decide +kernel)
set_option maxRecDepth 20000 in
theorem gL_law_L_low : GoodIn wsL_law (va_wsS RL 52 yL_low wsL_low) := goodIn_app (goodIn_of _ (by decide +kernel)) ggL_law_L_low
set_option maxRecDepth 20000 in
theorem ggL_law_X9_regions : GoodIn wsL_law wsX9_regions := goodIn_ca (goodIn_r _ [312, 313, 314, 315, 2, 316, 15, 13, 317, 231, 232, 233, 234, 151, 65, 318, 319, 320, 321, 194, 322, 201, 323, 324, 325, 326, 327, 328, 329, 330, 331, 215, 332, 333, 334, 219, 335, 336, 337, 26, 338, 30, 81, 82, 83, 84, 339, 340, 181, 341, 342, 343, 191, 344, 345, 346, 347, 348, 349, 350, 12, 351, 22, 112, 113, 114, 115, 70, 352, 141, 142, 143, 353, 354, 230, 355, 356, 357, 247, 358, 248, 249, 359, 360, 361, 362, 88, 89, 90, 91, 92, 363, 364, 260, 365, 366, 367, 265, 368, 266, 369, 370, 371, 372, 373, 374, 240, 241, 242, 375, 376, 377, 378, 379, 380, 381, 382, 383, 384, 385, 386, 387, 388, 389, 390, 391, 280, 392, 294, 393, 394, 395, 396, 296, 397, 398, 399, 400, 295, 401, 402, 403, 94, 95, 96, 404, 405, 406, 407, 408, 409, 410, 411, 412, 413, 414, 415, 416, 417, 418, 419, 420, 421, 422, 423, 277, 424, 425, 426, 287, 427, 288, 428, 429, 161, 162, 163, 164, 165, 166, 167, 168, 169, 170, 171, 545, 546, 547, 557, 558, 559, 560, 561, 552, 553, 554, 555, 556, 562, 563, 564, 565, 566, 567, 568, 569, 570, 571, 572, 573, 574, 575, 576, 577, 578, 579, 580, 581, 582, 583, 584, 585, 586, 587, 588, 551, 548, 549, 550] (by decide +kernel) (by decide +kernel)) (goodIn_sub (fun _ h => List.mem_append_left _ (List.mem_append_right _ h)) (by decide +kernel))
set_option maxRecDepth 20000 in
theorem gL_law_X9_regions : GoodIn wsL_law (wsV RL 89 RX9 yX9_regions wsX9_regions) := goodIn_app (goodIn_of _ (by decide +kernel)) ggL_law_X9_regions
