/-! The law's words: what pass asks, by segments. -/
set_option maxRecDepth 20000 in
theorem gs_wsL_pass_r1 : GoodIn wsL_law (.code yL_pass cL_pass 7 (some .boolean) :: wsL_pass_r1) := goodIn_r _ [492, 270, 271, 272, 2, 273, 13, 202, 208, 274, 141, 142, 275, 276, 206, 207, 277, 278, 279, 280, 281, 266, 19, 282, 283] (by decide +kernel) (by decide +kernel)
set_option maxRecDepth 20000 in
theorem gs_wsL_pass_r2 : GoodIn wsL_law wsL_pass_r2 := goodIn_r _ [284, 285, 286, 39, 287, 177, 288, 289, 290, 291, 73, 292, 293, 294, 295, 43, 296, 182, 297, 298, 299, 300, 79, 493] (by decide +kernel) (by decide +kernel)
set_option maxRecDepth 20000 in
theorem gs_wsL_pass_r3 : GoodIn wsL_law wsL_pass_r3 := goodIn_r _ [494, 495, 496, 15, 330, 331, 332, 333, 143, 144, 145, 497, 153, 154, 12, 155, 36, 40, 44, 48, 52, 54, 156, 157] (by decide +kernel) (by decide +kernel)
set_option maxRecDepth 20000 in
theorem gs_wsL_pass_r4 : GoodIn wsL_law wsL_pass_r4 := goodIn_r _ [158, 159, 160, 35, 161, 162, 58, 59, 60, 61, 163, 164, 165, 166, 167, 168, 169, 170, 171, 172, 173, 174, 175, 176] (by decide +kernel) (by decide +kernel)
set_option maxRecDepth 20000 in
theorem gs_wsL_pass_r5 : GoodIn wsL_law wsL_pass_r5 := goodIn_r _ [65, 66, 67, 68, 69, 70, 71, 178, 179, 180, 181, 183, 77, 78, 80, 81, 82, 83, 84, 85, 86, 87, 88, 184] (by decide +kernel) (by decide +kernel)
set_option maxRecDepth 20000 in
theorem gs_wsL_pass_r6 : GoodIn wsL_law wsL_pass_r6 := goodIn_r _ [185, 186, 47, 187, 92, 97, 188, 189, 190, 51, 191, 192, 193, 101, 102, 103, 104, 498, 499, 500, 501, 502, 503, 504] (by decide +kernel) (by decide +kernel)
set_option maxRecDepth 20000 in
theorem gs_wsL_pass_r7 : GoodIn wsL_law wsL_pass_r7 := goodIn_r _ [505, 506, 507, 508, 509, 510, 436, 342, 511, 512, 513, 514, 515, 317, 318, 319, 320, 321, 516, 517, 518, 519, 520, 385] (by decide +kernel) (by decide +kernel)
set_option maxRecDepth 20000 in
theorem gs_wsL_pass_r8 : GoodIn wsL_law wsL_pass_r8 := goodIn_r _ [339, 340, 341, 343, 344, 345, 346, 347, 348, 521, 522, 523, 524, 525, 322, 323, 324, 325, 326, 327, 328, 329, 334, 335] (by decide +kernel) (by decide +kernel)
set_option maxRecDepth 20000 in
theorem gs_wsL_pass_r9 : GoodIn wsL_law wsL_pass_r9 := goodIn_r _ [336, 337, 338, 526, 527, 528, 529, 146, 147, 148, 18, 149, 150, 151, 110, 152] (by decide +kernel) (by decide +kernel)
theorem ggL_law_L_pass : GoodIn wsL_law wsL_pass := goodIn_ca (goodIn_ca (goodIn_ca (goodIn_ca (goodIn_ca (goodIn_ca (goodIn_ca (goodIn_ca (goodIn_ca gs_wsL_pass_r1 (goodIn_app gs_wsL_pass_r2 (goodIn_app gs_wsL_pass_r3 (goodIn_app gs_wsL_pass_r4 (goodIn_app gs_wsL_pass_r5 (goodIn_app gs_wsL_pass_r6 (goodIn_app gs_wsL_pass_r7 (goodIn_app gs_wsL_pass_r8 (gs_wsL_pass_r9))))))))) (goodIn_sub inlX9 (by decide +kernel))) (goodIn_sub inlX8 (by decide +kernel))) (goodIn_sub inlX3 (by decide +kernel))) (goodIn_sub inlX0 (by decide +kernel))) (goodIn_sub inlX6 (by decide +kernel))) (goodIn_sub inlX4 (by decide +kernel))) (goodIn_sub inlX7 (by decide +kernel))) (goodIn_sub inlX5 (by decide +kernel))
set_option maxRecDepth 20000 in
theorem gL_law_L_pass : GoodIn wsL_law (va_wsS RL 108 yL_pass wsL_pass) := goodIn_app (goodIn_of _ (by decide +kernel)) ggL_law_L_pass
