/-! The law's words: what addUp asks, by segments. -/
set_option maxRecDepth 20000 in
theorem gh_wsL_addUp_r1 : GoodIn wsL_law [(.code yL_addUp cL_addUp 12 (some .boolean))] := goodIn_sub (fun w h => by rw [List.mem_singleton.mp h]; exact List.mem_of_getElem? (i := 557) rfl) (by decide +kernel)
set_option maxRecDepth 20000 in
theorem gt_wsL_addUp_r1 : GoodIn wsL_law wsL_addUp_r1 := goodIn_r _ [558, 270, 271, 272, 2, 273, 13, 202, 208, 274, 141, 142, 275, 276, 206, 207, 277, 278, 279, 280, 281, 266, 19, 282] (by decide +kernel) (by decide +kernel)
theorem gs_wsL_addUp_r1 : GoodIn wsL_law (.code yL_addUp cL_addUp 12 (some .boolean) :: wsL_addUp_r1) := goodIn_app (a := [(.code yL_addUp cL_addUp 12 (some .boolean))]) gh_wsL_addUp_r1 gt_wsL_addUp_r1
set_option maxRecDepth 20000 in
theorem gs_wsL_addUp_r2 : GoodIn wsL_law wsL_addUp_r2 := goodIn_r _ [283, 284, 285, 286, 39, 287, 177, 288, 289, 290, 291, 73, 292, 293, 294, 295, 43, 296, 182, 297, 298, 299, 300, 79] (by decide +kernel) (by decide +kernel)
set_option maxRecDepth 20000 in
theorem gs_wsL_addUp_r3 : GoodIn wsL_law wsL_addUp_r3 := goodIn_r _ [322, 323, 324, 325, 326, 327, 328, 329, 330, 331, 332, 333, 143, 144, 145, 334, 335, 336, 337, 338, 339, 340, 12, 341] (by decide +kernel) (by decide +kernel)
set_option maxRecDepth 20000 in
theorem gs_wsL_addUp_r4 : GoodIn wsL_law wsL_addUp_r4 := goodIn_r _ [48, 40, 342, 36, 343, 344, 345, 346, 347, 47, 348, 92, 198, 199, 200, 201, 203, 204, 205, 209, 210, 211, 212, 213] (by decide +kernel) (by decide +kernel)
set_option maxRecDepth 20000 in
theorem gs_wsL_addUp_r5 : GoodIn wsL_law wsL_addUp_r5 := goodIn_r _ [214, 215, 216, 65, 217, 218, 219, 220, 221, 222, 223, 224, 77, 559, 560, 126, 561, 562, 563, 564, 565, 545, 566, 567] (by decide +kernel) (by decide +kernel)
set_option maxRecDepth 20000 in
theorem gs_wsL_addUp_r6 : GoodIn wsL_law wsL_addUp_r6 := goodIn_r _ [568, 569, 570, 571, 572, 573, 510, 574, 575, 576, 577, 436, 385, 578, 579, 580, 581, 582, 583, 584, 585, 586, 587, 588] (by decide +kernel) (by decide +kernel)
set_option maxRecDepth 20000 in
theorem gs_wsL_addUp_r7 : GoodIn wsL_law wsL_addUp_r7 := goodIn_r _ [589, 590, 591, 592, 593, 594, 595, 379, 380, 381, 382, 383, 384, 451, 452, 453, 454, 455, 456, 457, 458, 459, 460, 461] (by decide +kernel) (by decide +kernel)
set_option maxRecDepth 20000 in
theorem gs_wsL_addUp_r8 : GoodIn wsL_law wsL_addUp_r8 := goodIn_r _ [462, 463, 464, 483, 484, 485, 486, 487, 488, 489, 596, 597, 598] (by decide +kernel) (by decide +kernel)
theorem ggL_law_L_addUp : GoodIn wsL_law wsL_addUp := goodIn_ca (goodIn_ca (goodIn_ca (goodIn_ca (goodIn_ca (goodIn_ca (goodIn_ca (goodIn_ca gs_wsL_addUp_r1 (goodIn_app gs_wsL_addUp_r2 (goodIn_app gs_wsL_addUp_r3 (goodIn_app gs_wsL_addUp_r4 (goodIn_app gs_wsL_addUp_r5 (goodIn_app gs_wsL_addUp_r6 (goodIn_app gs_wsL_addUp_r7 (gs_wsL_addUp_r8)))))))) (goodIn_sub inlX9 (by decide +kernel))) (goodIn_sub inlX8 (by decide +kernel))) (goodIn_sub inlX3 (by decide +kernel))) (goodIn_sub inlX0 (by decide +kernel))) (goodIn_sub inlX6 (by decide +kernel))) (goodIn_sub inlX4 (by decide +kernel))) (goodIn_sub inlX7 (by decide +kernel))
set_option maxRecDepth 20000 in
theorem gL_law_L_addUp : GoodIn wsL_law (va_wsS RL 116 yL_addUp wsL_addUp) := goodIn_app (goodIn_of _ (by decide +kernel)) ggL_law_L_addUp
