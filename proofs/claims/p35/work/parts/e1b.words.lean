/-! The law's words: what order asks, by segments. -/
set_option maxRecDepth 20000 in
theorem gs_wsL_order_r1 : GoodIn wsL_law (.code yL_order cL_order 14 (some .boolean) :: wsL_order_r1) := goodIn_r _ [351, 130, 131, 126, 132, 133, 352, 353, 354, 2, 355, 23, 13, 356, 357, 358, 255, 359, 360, 361, 362, 209, 210, 211, 212] (by decide +kernel) (by decide +kernel)
set_option maxRecDepth 20000 in
theorem gs_wsL_order_r2 : GoodIn wsL_law wsL_order_r2 := goodIn_r _ [141, 142, 143, 144, 145, 363, 364, 365, 22, 366, 367, 368, 369, 370, 371, 372, 373, 117, 374, 118, 375, 376, 377, 163] (by decide +kernel) (by decide +kernel)
set_option maxRecDepth 20000 in
theorem gs_wsL_order_r3 : GoodIn wsL_law wsL_order_r3 := goodIn_r _ [164, 165, 166, 167, 168, 169, 170, 171, 172, 378, 379, 380, 12, 381, 36, 382, 40, 344, 48, 383, 384, 385, 339, 340] (by decide +kernel) (by decide +kernel)
set_option maxRecDepth 20000 in
theorem gs_wsL_order_r4 : GoodIn wsL_law wsL_order_r4 := goodIn_r _ [341, 342, 343, 345, 346, 347, 47, 348, 92, 386, 387, 388, 389, 390, 391, 392, 393, 394, 395, 396, 397, 398, 399, 400] (by decide +kernel) (by decide +kernel)
set_option maxRecDepth 20000 in
theorem gs_wsL_order_r5 : GoodIn wsL_law wsL_order_r5 := goodIn_r _ [401, 402, 403, 404, 405, 406, 407, 408, 409, 114, 115, 116, 410, 411, 412, 413, 414, 415, 234, 235, 35, 236, 61, 416] (by decide +kernel) (by decide +kernel)
set_option maxRecDepth 20000 in
theorem gs_wsL_order_r6 : GoodIn wsL_law wsL_order_r6 := goodIn_r _ [417, 418, 419, 420, 270, 271, 272, 273, 202, 208, 274, 275, 276, 206, 207, 277, 278, 279, 280, 281, 266, 19, 282, 283] (by decide +kernel) (by decide +kernel)
set_option maxRecDepth 20000 in
theorem gs_wsL_order_r7 : GoodIn wsL_law wsL_order_r7 := goodIn_r _ [284, 285, 286, 39, 287, 177, 288, 289, 290, 291, 73, 292, 293, 294, 295, 43, 296, 182, 297, 298, 299, 300, 79, 421] (by decide +kernel) (by decide +kernel)
set_option maxRecDepth 20000 in
theorem gs_wsL_order_r8 : GoodIn wsL_law wsL_order_r8 := goodIn_r _ [422, 423, 424, 146, 147, 148, 18, 149, 150, 151, 110, 152, 153, 154, 155, 44, 52, 54, 156, 157, 158, 159, 160, 161] (by decide +kernel) (by decide +kernel)
set_option maxRecDepth 20000 in
theorem gs_wsL_order_r9 : GoodIn wsL_law wsL_order_r9 := goodIn_r _ [162, 58, 59, 60, 173, 174, 175, 176, 65, 66, 67, 68, 69, 70, 71, 178, 179, 180, 181, 183, 77, 78, 80, 81] (by decide +kernel) (by decide +kernel)
set_option maxRecDepth 20000 in
theorem gs_wsL_order_r10 : GoodIn wsL_law wsL_order_r10 := goodIn_r _ [82, 83, 84, 85, 86, 87, 88, 184, 185, 186, 187, 97, 188, 189, 190, 51, 191, 192, 193, 101, 102, 103, 104, 425] (by decide +kernel) (by decide +kernel)
set_option maxRecDepth 20000 in
theorem gs_wsL_order_r11 : GoodIn wsL_law wsL_order_r11 := goodIn_r _ [426, 427, 428, 429, 430, 431, 432, 433, 434, 435, 436, 437, 438, 439, 440, 441, 442, 443, 444, 445, 317, 318, 319, 320] (by decide +kernel) (by decide +kernel)
set_option maxRecDepth 20000 in
theorem gs_wsL_order_r12 : GoodIn wsL_law wsL_order_r12 := goodIn_r _ [321, 446, 447, 448, 449, 450, 451, 452, 453, 454, 455, 456, 457, 458, 459, 460, 461, 462, 463, 464, 465, 466, 467, 468] (by decide +kernel) (by decide +kernel)
set_option maxRecDepth 20000 in
theorem gs_wsL_order_r13 : GoodIn wsL_law wsL_order_r13 := goodIn_r _ [469, 470, 471, 472, 473, 474, 475, 476, 477, 478, 479, 480, 481, 482, 483, 484, 485, 486, 487, 488, 489] (by decide +kernel) (by decide +kernel)
theorem ggL_law_L_order : GoodIn wsL_law wsL_order := goodIn_ca (goodIn_ca (goodIn_ca (goodIn_ca (goodIn_ca (goodIn_ca (goodIn_ca (goodIn_ca (goodIn_ca (goodIn_ca gs_wsL_order_r1 (goodIn_app gs_wsL_order_r2 (goodIn_app gs_wsL_order_r3 (goodIn_app gs_wsL_order_r4 (goodIn_app gs_wsL_order_r5 (goodIn_app gs_wsL_order_r6 (goodIn_app gs_wsL_order_r7 (goodIn_app gs_wsL_order_r8 (goodIn_app gs_wsL_order_r9 (goodIn_app gs_wsL_order_r10 (goodIn_app gs_wsL_order_r11 (goodIn_app gs_wsL_order_r12 (gs_wsL_order_r13))))))))))))) (goodIn_sub inlX9 (by decide +kernel))) (goodIn_sub inlX2 (by decide +kernel))) (goodIn_sub inlX8 (by decide +kernel))) (goodIn_sub inlX3 (by decide +kernel))) (goodIn_sub inlX0 (by decide +kernel))) (goodIn_sub inlX7 (by decide +kernel))) (goodIn_sub inlX6 (by decide +kernel))) (goodIn_sub inlX4 (by decide +kernel))) (goodIn_sub inlX5 (by decide +kernel))
set_option maxRecDepth 20000 in
theorem gL_law_L_order : GoodIn wsL_law (va_wsS RL 105 yL_order wsL_order) := goodIn_app (goodIn_of _ (by decide +kernel)) ggL_law_L_order
