/-! The law's words: what stageIn asks, by segments. -/
set_option maxRecDepth 20000 in
theorem gs_wsL_stageIn_r1 : GoodIn wsL_law (.code yL_stageIn cL_stageIn 8 (some .boolean) :: wsL_stageIn_r1) := goodIn_r _ [540, 541, 542, 543, 2, 544, 13, 202, 206, 328, 141, 204, 326, 545, 330, 331, 332, 333, 275, 143, 144, 145, 546, 346, 347] (by decide +kernel) (by decide +kernel)
set_option maxRecDepth 20000 in
theorem gs_wsL_stageIn_r2 : GoodIn wsL_law wsL_stageIn_r2 := goodIn_r _ [47, 348, 92, 322, 323, 324, 325, 327, 207, 277, 278, 329, 334, 335, 336, 39, 337, 73, 338, 339, 340, 12, 341, 48] (by decide +kernel) (by decide +kernel)
set_option maxRecDepth 20000 in
theorem gs_wsL_stageIn_r3 : GoodIn wsL_law wsL_stageIn_r3 := goodIn_r _ [40, 342, 36, 343, 344, 345, 270, 271, 272, 273, 208, 274, 142, 276, 279, 280, 281, 266, 19, 282, 283, 284, 285, 286] (by decide +kernel) (by decide +kernel)
set_option maxRecDepth 20000 in
theorem gs_wsL_stageIn_r4 : GoodIn wsL_law wsL_stageIn_r4 := goodIn_r _ [287, 177, 288, 289, 290, 291, 292, 293, 294, 295, 43, 296, 182, 297, 298, 299, 300, 79, 262, 263, 264, 265, 267, 268] (by decide +kernel) (by decide +kernel)
set_option maxRecDepth 20000 in
theorem gs_wsL_stageIn_r5 : GoodIn wsL_law wsL_stageIn_r5 := goodIn_r _ [269, 146, 147, 148, 18, 149, 150, 151, 110, 152, 153, 154, 155, 44, 52, 54, 156, 157, 158, 159, 160, 35, 161, 162] (by decide +kernel) (by decide +kernel)
set_option maxRecDepth 20000 in
theorem gs_wsL_stageIn_r6 : GoodIn wsL_law wsL_stageIn_r6 := goodIn_r _ [58, 59, 60, 61, 163, 164, 165, 166, 167, 168, 169, 170, 171, 172, 173, 174, 175, 176, 65, 66, 67, 68, 69, 70] (by decide +kernel) (by decide +kernel)
set_option maxRecDepth 20000 in
theorem gs_wsL_stageIn_r7 : GoodIn wsL_law wsL_stageIn_r7 := goodIn_r _ [71, 178, 179, 180, 181, 183, 77, 78, 80, 81, 82, 83, 84, 85, 86, 87, 88, 184, 185, 186, 187, 97, 188, 189] (by decide +kernel) (by decide +kernel)
set_option maxRecDepth 20000 in
theorem gs_wsL_stageIn_r8 : GoodIn wsL_law wsL_stageIn_r8 := goodIn_r _ [190, 51, 191, 192, 193, 101, 102, 103, 104, 526, 527, 528, 529, 498, 499, 500, 501, 502, 503, 504, 505, 506, 507, 508] (by decide +kernel) (by decide +kernel)
set_option maxRecDepth 20000 in
theorem gs_wsL_stageIn_r9 : GoodIn wsL_law wsL_stageIn_r9 := goodIn_r _ [509, 510, 436, 511, 512, 513, 514, 515, 317, 318, 319, 320, 321, 516, 517, 518, 519, 520, 385, 521, 522, 523, 524, 525] (by decide +kernel) (by decide +kernel)
set_option maxRecDepth 20000 in
theorem gs_wsL_stageIn_r10 : GoodIn wsL_law wsL_stageIn_r10 := goodIn_r _ [547, 548, 549, 550, 551, 552, 553, 554] (by decide +kernel) (by decide +kernel)
theorem ggL_law_L_stageIn : GoodIn wsL_law wsL_stageIn := goodIn_ca (goodIn_ca (goodIn_ca (goodIn_ca (goodIn_ca (goodIn_ca (goodIn_ca (goodIn_ca (goodIn_ca gs_wsL_stageIn_r1 (goodIn_app gs_wsL_stageIn_r2 (goodIn_app gs_wsL_stageIn_r3 (goodIn_app gs_wsL_stageIn_r4 (goodIn_app gs_wsL_stageIn_r5 (goodIn_app gs_wsL_stageIn_r6 (goodIn_app gs_wsL_stageIn_r7 (goodIn_app gs_wsL_stageIn_r8 (goodIn_app gs_wsL_stageIn_r9 (gs_wsL_stageIn_r10)))))))))) (goodIn_sub inlX9 (by decide +kernel))) (goodIn_sub inlX8 (by decide +kernel))) (goodIn_sub inlX0 (by decide +kernel))) (goodIn_sub inlX3 (by decide +kernel))) (goodIn_sub inlX7 (by decide +kernel))) (goodIn_sub inlX6 (by decide +kernel))) (goodIn_sub inlX4 (by decide +kernel))) (goodIn_sub inlX5 (by decide +kernel))
set_option maxRecDepth 20000 in
theorem gL_law_L_stageIn : GoodIn wsL_law (va_wsS RL 114 yL_stageIn wsL_stageIn) := goodIn_app (goodIn_of _ (by decide +kernel)) ggL_law_L_stageIn
