set_option maxRecDepth 20000 in
theorem gq_isNodeSo_0 : GoodIn wsL_law [.code yL_isNodeSo cL_isNodeSo 13 (some .boolean)] := goodIn_r _ [308] (by decide +kernel) (by decide +kernel)
set_option maxRecDepth 20000 in
theorem gq_isNodeSo_r1 : GoodIn wsL_law wsL_isNodeSo_r1 := goodIn_r _ [309, 310, 311, 2, 312, 313, 314, 315, 316, 15, 13, 317, 231, 232, 233, 234, 151, 65, 318, 319, 320, 321, 194, 322] (by decide +kernel) (by decide +kernel)
set_option maxRecDepth 20000 in
theorem gq_isNodeSo_r2 : GoodIn wsL_law wsL_isNodeSo_r2 := goodIn_r _ [201, 323, 324, 325, 326, 327, 328, 329, 330, 331, 215, 332, 333, 334, 219, 335, 336, 337, 26, 338, 30, 81, 82, 83] (by decide +kernel) (by decide +kernel)
set_option maxRecDepth 20000 in
theorem gq_isNodeSo_r3 : GoodIn wsL_law wsL_isNodeSo_r3 := goodIn_r _ [84, 339, 340, 181, 341, 342, 343, 191, 344, 345, 346, 347, 348, 349, 350, 12, 351, 22, 112, 113, 114, 115, 70, 352] (by decide +kernel) (by decide +kernel)
set_option maxRecDepth 20000 in
theorem gq_isNodeSo_r4 : GoodIn wsL_law wsL_isNodeSo_r4 := goodIn_r _ [141, 142, 143, 353, 354, 230, 355, 356, 357, 247, 358, 248, 249, 359, 360, 361, 362, 88, 89, 90, 91, 92, 363, 364] (by decide +kernel) (by decide +kernel)
set_option maxRecDepth 20000 in
theorem gq_isNodeSo_r5 : GoodIn wsL_law wsL_isNodeSo_r5 := goodIn_r _ [260, 365, 366, 367, 265, 368, 266, 369, 370, 371, 372, 373, 374, 240, 241, 242, 375, 376, 377, 378, 379, 380, 381, 382] (by decide +kernel) (by decide +kernel)
set_option maxRecDepth 20000 in
theorem gq_isNodeSo_r6 : GoodIn wsL_law wsL_isNodeSo_r6 := goodIn_r _ [383, 384, 385, 386, 387, 388, 389, 390, 391, 280, 392, 294, 393, 394, 395, 396, 296, 397, 398, 399, 400, 295, 401, 402] (by decide +kernel) (by decide +kernel)
set_option maxRecDepth 20000 in
theorem gq_isNodeSo_r7 : GoodIn wsL_law wsL_isNodeSo_r7 := goodIn_r _ [403, 94, 95, 96, 404, 405, 406, 407, 408, 409, 410, 411, 412, 413, 414, 415, 416, 417, 418, 419, 420, 421, 422, 423] (by decide +kernel) (by decide +kernel)
