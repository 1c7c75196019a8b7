/-! The law's words: what each call asks. -/
theorem wsL_law_in : ∀ w ∈ wsL_law, w ∈ lw_tbl := List.forall_mem_append.mpr ⟨List.forall_mem_append.mpr ⟨List.forall_mem_append.mpr ⟨List.forall_mem_append.mpr ⟨List.forall_mem_append.mpr ⟨List.forall_mem_append.mpr ⟨List.forall_mem_append.mpr ⟨List.forall_mem_append.mpr ⟨List.forall_mem_append.mpr ⟨List.forall_mem_append.mpr ⟨List.forall_mem_append.mpr ⟨List.forall_mem_append.mpr ⟨List.forall_mem_append.mpr ⟨wsL_law_r1_in, List.forall_mem_append.mpr ⟨wsL_law_r2_in, List.forall_mem_append.mpr ⟨wsL_law_r3_in, List.forall_mem_append.mpr ⟨wsL_law_r4_in, List.forall_mem_append.mpr ⟨wsL_law_r5_in, List.forall_mem_append.mpr ⟨wsL_law_r6_in, List.forall_mem_append.mpr ⟨wsL_law_r7_in, List.forall_mem_append.mpr ⟨wsL_law_r8_in, List.forall_mem_append.mpr ⟨wsL_law_r9_in, List.forall_mem_append.mpr ⟨wsL_law_r10_in, List.forall_mem_append.mpr ⟨wsL_law_r11_in, List.forall_mem_append.mpr ⟨wsL_law_r12_in, List.forall_mem_append.mpr ⟨wsL_law_r13_in, List.forall_mem_append.mpr ⟨wsL_law_r14_in, List.forall_mem_append.mpr ⟨wsL_law_r15_in, List.forall_mem_append.mpr ⟨wsL_law_r16_in, List.forall_mem_append.mpr ⟨wsL_law_r17_in, List.forall_mem_append.mpr ⟨wsL_law_r18_in, List.forall_mem_append.mpr ⟨wsL_law_r19_in, List.forall_mem_append.mpr ⟨wsL_law_r20_in, List.forall_mem_append.mpr ⟨wsL_law_r21_in, List.forall_mem_append.mpr ⟨wsL_law_r22_in, List.forall_mem_append.mpr ⟨wsL_law_r23_in, List.forall_mem_append.mpr ⟨wsL_law_r24_in, List.forall_mem_append.mpr ⟨wsL_law_r25_in, List.forall_mem_append.mpr ⟨wsL_law_r26_in, List.forall_mem_append.mpr ⟨wsL_law_r27_in, List.forall_mem_append.mpr ⟨wsL_law_r28_in, List.forall_mem_append.mpr ⟨wsL_law_r29_in, List.forall_mem_append.mpr ⟨wsL_law_r30_in, List.forall_mem_append.mpr ⟨wsL_law_r31_in, List.forall_mem_append.mpr ⟨wsL_law_r32_in, List.forall_mem_append.mpr ⟨wsL_law_r33_in, List.forall_mem_append.mpr ⟨wsL_law_r34_in, List.forall_mem_append.mpr ⟨wsL_law_r35_in, List.forall_mem_append.mpr ⟨wsL_law_r36_in, List.forall_mem_append.mpr ⟨wsL_law_r37_in, List.forall_mem_append.mpr ⟨wsL_law_r38_in, List.forall_mem_append.mpr ⟨wsL_law_r39_in, List.forall_mem_append.mpr ⟨wsL_law_r40_in, wsL_law_r41_in⟩⟩⟩⟩⟩⟩⟩⟩⟩⟩⟩⟩⟩⟩⟩⟩⟩⟩⟩⟩⟩⟩⟩⟩⟩⟩⟩⟩⟩⟩⟩⟩⟩⟩⟩⟩⟩⟩⟩⟩, ww_wsX90⟩, ww_wsX100⟩, ww_wsX80⟩, ww_wsX40⟩, ww_wsX20⟩, ww_wsX10⟩, ww_wsX30⟩, ww_wsX00⟩, ww_wsX60⟩, ww_wsX70⟩, ww_wsX50⟩, fun _ h => absurd h List.not_mem_nil⟩
theorem inlX0 : ∀ w ∈ wsX00, w ∈ wsL_law := fun _ h => List.mem_append_left _ (List.mem_append_left _ (List.mem_append_left _ (List.mem_append_left _ (List.mem_append_right _ h))))
theorem inX0 : ∀ w ∈ wsX00, w ∈ lw_tbl := fun w h => wsL_law_in w (inlX0 w h)
theorem inlX1 : ∀ w ∈ wsX10, w ∈ wsL_law := fun _ h => List.mem_append_left _ (List.mem_append_left _ (List.mem_append_left _ (List.mem_append_left _ (List.mem_append_left _ (List.mem_append_left _ (List.mem_append_right _ h))))))
theorem inX1 : ∀ w ∈ wsX10, w ∈ lw_tbl := fun w h => wsL_law_in w (inlX1 w h)
theorem inlX2 : ∀ w ∈ wsX20, w ∈ wsL_law := fun _ h => List.mem_append_left _ (List.mem_append_left _ (List.mem_append_left _ (List.mem_append_left _ (List.mem_append_left _ (List.mem_append_left _ (List.mem_append_left _ (List.mem_append_right _ h)))))))
theorem inX2 : ∀ w ∈ wsX20, w ∈ lw_tbl := fun w h => wsL_law_in w (inlX2 w h)
theorem inlX3 : ∀ w ∈ wsX30, w ∈ wsL_law := fun _ h => List.mem_append_left _ (List.mem_append_left _ (List.mem_append_left _ (List.mem_append_left _ (List.mem_append_left _ (List.mem_append_right _ h)))))
theorem inX3 : ∀ w ∈ wsX30, w ∈ lw_tbl := fun w h => wsL_law_in w (inlX3 w h)
theorem inlX4 : ∀ w ∈ wsX40, w ∈ wsL_law := fun _ h => List.mem_append_left _ (List.mem_append_left _ (List.mem_append_left _ (List.mem_append_left _ (List.mem_append_left _ (List.mem_append_left _ (List.mem_append_left _ (List.mem_append_left _ (List.mem_append_right _ h))))))))
theorem inX4 : ∀ w ∈ wsX40, w ∈ lw_tbl := fun w h => wsL_law_in w (inlX4 w h)
theorem inlX5 : ∀ w ∈ wsX50, w ∈ wsL_law := fun _ h => List.mem_append_left _ (List.mem_append_right _ h)
theorem inX5 : ∀ w ∈ wsX50, w ∈ lw_tbl := fun w h => wsL_law_in w (inlX5 w h)
theorem inlX6 : ∀ w ∈ wsX60, w ∈ wsL_law := fun _ h => List.mem_append_left _ (List.mem_append_left _ (List.mem_append_left _ (List.mem_append_right _ h)))
theorem inX6 : ∀ w ∈ wsX60, w ∈ lw_tbl := fun w h => wsL_law_in w (inlX6 w h)
theorem inlX7 : ∀ w ∈ wsX70, w ∈ wsL_law := fun _ h => List.mem_append_left _ (List.mem_append_left _ (List.mem_append_right _ h))
theorem inX7 : ∀ w ∈ wsX70, w ∈ lw_tbl := fun w h => wsL_law_in w (inlX7 w h)
theorem inlX8 : ∀ w ∈ wsX80, w ∈ wsL_law := fun _ h => List.mem_append_left _ (List.mem_append_left _ (List.mem_append_left _ (List.mem_append_left _ (List.mem_append_left _ (List.mem_append_left _ (List.mem_append_left _ (List.mem_append_left _ (List.mem_append_left _ (List.mem_append_right _ h)))))))))
theorem inX8 : ∀ w ∈ wsX80, w ∈ lw_tbl := fun w h => wsL_law_in w (inlX8 w h)
theorem inlX9 : ∀ w ∈ wsX90, w ∈ wsL_law := fun _ h => List.mem_append_left _ (List.mem_append_left _ (List.mem_append_left _ (List.mem_append_left _ (List.mem_append_left _ (List.mem_append_left _ (List.mem_append_left _ (List.mem_append_left _ (List.mem_append_left _ (List.mem_append_left _ (List.mem_append_left _ (List.mem_append_right _ h)))))))))))
theorem inX9 : ∀ w ∈ wsX90, w ∈ lw_tbl := fun w h => wsL_law_in w (inlX9 w h)
theorem inlX10 : ∀ w ∈ wsX100, w ∈ wsL_law := fun _ h => List.mem_append_left _ (List.mem_append_left _ (List.mem_append_left _ (List.mem_append_left _ (List.mem_append_left _ (List.mem_append_left _ (List.mem_append_left _ (List.mem_append_left _ (List.mem_append_left _ (List.mem_append_left _ (List.mem_append_right _ h))))))))))
theorem inX10 : ∀ w ∈ wsX100, w ∈ lw_tbl := fun w h => wsL_law_in w (inlX10 w h)
theorem inJ9 : ∀ w ∈ wsJ90, w ∈ lw_tbl := by decide +kernel
theorem inJ10 : ∀ w ∈ wsJ100, w ∈ lw_tbl := by decide +kernel
set_option maxRecDepth 20000 in
theorem ggL_law_X9_init : GoodIn wsL_law wsX9_init := goodIn_r _ [8, 9, 10, 11, 12, 13, 14, 15, 16, 17, 18, 19, 20, 21, 22, 23, 24, 25, 26, 27, 28, 29, 30, 31, 32, 33, 34, 35, 36, 37, 38, 39, 40, 41, 42, 43, 44, 45, 46, 47, 48, 49, 50, 51, 52, 53, 54, 55, 56, 57, 58, 59, 60, 61, 62, 63, 64, 65, 66, 67, 68, 69, 70, 71, 72, 73, 74, 75, 76, 77, 78, 79, 80, 81, 82, 83, 84, 85, 86, 87, 88, 89, 90, 91, 92, 93, 94, 95, 96, 97, 98, 99, 100, 101, 102, 103, 104, 105, 106, 107, 108, 109, 110, 111, 112, 113, 114, 115, 116, 117, 118, 119, 120, 121, 122, 123, 124, 125, 1003, 1004, 1005, 1006, 1007, 1008, 1009, 1010, 975, 976, 977, 978, 979, 980, 981, 982, 983, 1011, 1012, 1013, 1014, 1015, 1016, 1017, 1018, 1019, 1020, 1021, 1022, 1023, 1024, 1025, 1026, 1027, 1028, 1029, 1030, 1031, 1032, 1033, 1034, 1035, 1036, 1037, 1038, 1039, 1040, 1041, 1042, 1043, 1044, 1045, 1046, 1047, 1048, 1049, 1050, 1051, 1052, 1053, 1054, 1055, 1056, 1057, 1058, 1059, 1060, 1061, 1062, 1063, 1064] (by decide +kernel) (by decide +kernel)
set_option maxRecDepth 20000 in
theorem gL_law_X9_init : GoodIn wsL_law (wsX9_init) := ggL_law_X9_init
set_option maxRecDepth 20000 in
theorem ggL_law_X10_init : GoodIn wsL_law wsX10_init := goodIn_r _ [128, 129, 10, 11, 55, 130, 131, 132, 133, 30, 134, 135, 136, 137, 138, 139, 140, 141, 142, 143, 984, 985, 986, 987, 988, 989, 990, 991, 992, 993, 994, 995, 996, 997, 998, 999, 1000, 1001, 1002] (by decide +kernel) (by decide +kernel)
set_option maxRecDepth 20000 in
theorem gL_law_X10_init : GoodIn wsL_law (wsX10_init) := ggL_law_X10_init
set_option maxRecDepth 20000 in
theorem ggL_law_X9_addGood : GoodIn wsL_law wsX9_addGood := goodIn_r _ [147, 15, 148, 149, 21, 150, 151, 2, 152, 153, 154, 155, 20, 156, 157, 158, 112, 159, 160, 161, 14, 162, 38, 42, 46, 50, 54, 56, 163, 164, 165, 166, 167, 37, 168, 169, 60, 61, 62, 63, 170, 171, 172, 173, 174, 175, 176, 177, 178, 179, 180, 181, 182, 41, 183, 184, 67, 68, 69, 70, 71, 72, 73, 75, 185, 186, 187, 45, 188, 189, 190, 79, 80, 81, 82, 83, 84, 85, 86, 87, 88, 89, 90, 191, 192, 193, 49, 194, 94, 99, 195, 196, 197, 53, 198, 199, 200, 103, 104, 105, 106, 201, 202, 203, 204, 975, 976, 977, 978, 979, 980, 981, 982, 983, 1003, 1004, 1005, 1006, 1007, 1008, 1009, 1010, 1029, 1030, 1031, 1032, 1033, 1011, 1012, 1013, 1034, 1035, 1036, 1037, 1038, 1039, 1040, 1041, 1042, 1043, 1044, 1045, 1046, 1047, 1048, 1049, 1050, 1051, 1052, 1053, 1054, 1055, 1056, 1057, 1058, 1059, 1060, 1061, 1062, 1063, 1064] (by decide +kernel) (by decide +kernel)
set_option maxRecDepth 20000 in
theorem gL_law_X9_addGood : GoodIn wsL_law (wsV RL 13 RX9 yX9_addGood wsX9_addGood) := goodIn_app (goodIn_of _ (by decide +kernel)) ggL_law_X9_addGood
set_option maxRecDepth 20000 in
theorem ggL_law_X10_addGood : GoodIn wsL_law wsX10_addGood := goodIn_r _ [208, 130, 209, 210, 5, 211, 212, 213, 214, 215, 216, 131, 984, 985, 986, 987, 988, 989, 990, 991, 992, 993, 994, 995, 996, 997, 998, 999, 1000, 1001, 1002] (by decide +kernel) (by decide +kernel)
set_option maxRecDepth 20000 in
theorem gL_law_X10_addGood : GoodIn wsL_law (wsV RL 17 RX10 yX10_addGood wsX10_addGood) := goodIn_app (goodIn_of _ (by decide +kernel)) ggL_law_X10_addGood
set_option maxRecDepth 20000 in
theorem ggL_law_X9_setPrice : GoodIn wsL_law wsX9_setPrice := goodIn_r _ [220, 15, 148, 221, 21, 222, 223, 224, 2, 225, 149, 150, 151, 152, 153, 154, 155, 20, 156, 157, 158, 112, 159, 160, 161, 14, 162, 38, 42, 46, 50, 54, 56, 163, 164, 165, 166, 167, 37, 168, 169, 60, 61, 62, 63, 170, 171, 172, 173, 174, 175, 176, 177, 178, 179, 180, 181, 182, 41, 183, 184, 67, 68, 69, 70, 71, 72, 73, 75, 185, 186, 187, 45, 188, 189, 190, 79, 80, 81, 82, 83, 84, 85, 86, 87, 88, 89, 90, 191, 192, 193, 49, 194, 94, 99, 195, 196, 197, 53, 198, 199, 200, 103, 104, 105, 106, 975, 976, 977, 978, 979, 980, 981, 982, 983, 1003, 1004, 1005, 1006, 1007, 1008, 1009, 1010, 1029, 1030, 1031, 1032, 1033, 1011, 1012, 1013, 1034, 1035, 1036, 1037, 1038, 1039, 1040, 1041, 1042, 1043, 1044, 1045, 1046, 1047, 1048, 1049, 1050, 1051, 1052, 1053, 1054, 1055, 1056, 1057, 1058, 1059, 1060, 1061, 1062, 1063, 1064] (by decide +kernel) (by decide +kernel)
set_option maxRecDepth 20000 in
theorem gL_law_X9_setPrice : GoodIn wsL_law (wsV RL 18 RX9 yX9_setPrice wsX9_setPrice) := goodIn_app (goodIn_of _ (by decide +kernel)) ggL_law_X9_setPrice
set_option maxRecDepth 20000 in
theorem ggL_law_X10_setPrice : GoodIn wsL_law wsX10_setPrice := goodIn_r _ [229, 130, 230, 231, 232, 5, 233, 209, 210, 211, 234, 235, 236, 237, 212, 213, 214, 215, 216, 131, 984, 985, 986, 987, 988, 989, 990, 991, 992, 993, 994, 995, 996, 997, 998, 999, 1000, 1001, 1002] (by decide +kernel) (by decide +kernel)
set_option maxRecDepth 20000 in
theorem gL_law_X10_setPrice : GoodIn wsL_law (wsV RL 21 RX10 yX10_setPrice wsX10_setPrice) := goodIn_app (goodIn_of _ (by decide +kernel)) ggL_law_X10_setPrice
set_option maxRecDepth 20000 in
theorem ggL_law_X9_addSubstitute : GoodIn wsL_law wsX9_addSubstitute := goodIn_r _ [241, 15, 148, 242, 21, 222, 223, 224, 2, 225, 149, 150, 151, 152, 243, 244, 245, 37, 246, 62, 247, 248, 249, 250, 63, 153, 154, 155, 20, 156, 157, 158, 112, 159, 160, 161, 14, 162, 38, 42, 46, 50, 54, 56, 163, 164, 165, 166, 167, 168, 169, 60, 61, 170, 171, 172, 173, 174, 175, 176, 177, 178, 179, 180, 181, 182, 41, 183, 184, 67, 68, 69, 70, 71, 72, 73, 75, 185, 186, 187, 45, 188, 189, 190, 79, 80, 81, 82, 83, 84, 85, 86, 87, 88, 89, 90, 191, 192, 193, 49, 194, 94, 99, 195, 196, 197, 53, 198, 199, 200, 103, 104, 105, 106, 251, 252, 253, 254, 975, 976, 977, 978, 979, 980, 981, 982, 983, 1003, 1004, 1005, 1006, 1007, 1008, 1009, 1010, 1029, 1030, 1031, 1032, 1033, 1011, 1012, 1013, 1034, 1035, 1036, 1037, 1038, 1039, 1040, 1041, 1042, 1043, 1044, 1045, 1046, 1047, 1048, 1049, 1050, 1051, 1052, 1053, 1054, 1055, 1056, 1057, 1058, 1059, 1060, 1061, 1062, 1063, 1064] (by decide +kernel) (by decide +kernel)
set_option maxRecDepth 20000 in
theorem gL_law_X9_addSubstitute : GoodIn wsL_law (wsV RL 22 RX9 yX9_addSubstitute wsX9_addSubstitute) := goodIn_app (goodIn_of _ (by decide +kernel)) ggL_law_X9_addSubstitute
set_option maxRecDepth 20000 in
theorem ggL_law_X10_addSubstitute : GoodIn wsL_law wsX10_addSubstitute := goodIn_r _ [258, 130, 230, 231, 232, 5, 233, 234, 235, 236, 237, 209, 210, 211, 212, 213, 214, 215, 216, 131, 984, 985, 986, 987, 988, 989, 990, 991, 992, 993, 994, 995, 996, 997, 998, 999, 1000, 1001, 1002] (by decide +kernel) (by decide +kernel)
set_option maxRecDepth 20000 in
theorem gL_law_X10_addSubstitute : GoodIn wsL_law (wsV RL 26 RX10 yX10_addSubstitute wsX10_addSubstitute) := goodIn_app (goodIn_of _ (by decide +kernel)) ggL_law_X10_addSubstitute
set_option maxRecDepth 20000 in
theorem ggL_law_X9_removeSubstitute : GoodIn wsL_law wsX9_removeSubstitute := goodIn_r _ [262, 21, 15, 148, 263, 264, 265, 2, 266, 242, 222, 223, 224, 225, 149, 150, 151, 152, 153, 154, 155, 20, 156, 157, 158, 112, 159, 160, 161, 14, 162, 38, 42, 46, 50, 54, 56, 163, 164, 165, 166, 167, 37, 168, 169, 60, 61, 62, 63, 170, 171, 172, 173, 174, 175, 176, 177, 178, 179, 180, 181, 182, 41, 183, 184, 67, 68, 69, 70, 71, 72, 73, 75, 185, 186, 187, 45, 188, 189, 190, 79, 80, 81, 82, 83, 84, 85, 86, 87, 88, 89, 90, 191, 192, 193, 49, 194, 94, 99, 195, 196, 197, 53, 198, 199, 200, 103, 104, 105, 106, 267, 268, 269, 270, 975, 976, 977, 978, 979, 980, 981, 982, 983, 1003, 1004, 1005, 1006, 1007, 1008, 1009, 1010, 1029, 1030, 1031, 1032, 1033, 1011, 1012, 1013, 1034, 1035, 1036, 1037, 1038, 1039, 1040, 1041, 1042, 1043, 1044, 1045, 1046, 1047, 1048, 1049, 1050, 1051, 1052, 1053, 1054, 1055, 1056, 1057, 1058, 1059, 1060, 1061, 1062, 1063, 1064] (by decide +kernel) (by decide +kernel)
set_option maxRecDepth 20000 in
theorem gL_law_X9_removeSubstitute : GoodIn wsL_law (wsV RL 27 RX9 yX9_removeSubstitute wsX9_removeSubstitute) := goodIn_app (goodIn_of _ (by decide +kernel)) ggL_law_X9_removeSubstitute
set_option maxRecDepth 20000 in
theorem ggL_law_X10_removeSubstitute : GoodIn wsL_law wsX10_removeSubstitute := goodIn_r _ [274, 130, 230, 231, 232, 5, 233, 234, 235, 236, 237, 212, 213, 214, 215, 216, 131, 984, 985, 986, 987, 988, 989, 990, 991, 992, 993, 994, 995, 996, 997, 998, 999, 1000, 1001, 1002] (by decide +kernel) (by decide +kernel)
set_option maxRecDepth 20000 in
theorem gL_law_X10_removeSubstitute : GoodIn wsL_law (wsV RL 30 RX10 yX10_removeSubstitute wsX10_removeSubstitute) := goodIn_app (goodIn_of _ (by decide +kernel)) ggL_law_X10_removeSubstitute
set_option maxRecDepth 20000 in
theorem ggL_law_X9_setStage : GoodIn wsL_law wsX9_setStage := goodIn_r _ [278, 15, 279, 280, 281, 282, 21, 150, 151, 2, 152, 283, 284, 285, 49, 286, 94, 287, 288, 289, 290, 291, 292, 153, 154, 155, 20, 156, 157, 158, 112, 159, 160, 161, 14, 162, 38, 42, 46, 50, 54, 56, 163, 164, 165, 166, 167, 37, 168, 169, 60, 61, 62, 63, 170, 171, 172, 173, 174, 175, 176, 177, 178, 179, 180, 181, 182, 41, 183, 184, 67, 68, 69, 70, 71, 72, 73, 75, 185, 186, 187, 45, 188, 189, 190, 79, 80, 81, 82, 83, 84, 85, 86, 87, 88, 89, 90, 191, 192, 193, 194, 99, 195, 196, 197, 53, 198, 199, 200, 103, 104, 105, 106, 975, 976, 977, 978, 979, 980, 981, 982, 983, 1003, 1004, 1005, 1006, 1007, 1008, 1009, 1010, 1057, 1058, 1011, 1012, 1013, 1029, 1030, 1031, 1032, 1033, 1034, 1035, 1036, 1037, 1038, 1039, 1040, 1041, 1042, 1043, 1044, 1045, 1046, 1047, 1048, 1049, 1050, 1051, 1052, 1053, 1054, 1055, 1056, 1059, 1060, 1061, 1062, 1063, 1064] (by decide +kernel) (by decide +kernel)
set_option maxRecDepth 20000 in
theorem gL_law_X9_setStage : GoodIn wsL_law (wsV RL 31 RX9 yX9_setStage wsX9_setStage) := goodIn_app (goodIn_of _ (by decide +kernel)) ggL_law_X9_setStage
set_option maxRecDepth 20000 in
theorem ggL_law_X10_setStage : GoodIn wsL_law wsX10_setStage := goodIn_r _ [296, 130, 297, 209, 210, 5, 211, 212, 213, 214, 215, 216, 131, 984, 985, 986, 987, 988, 989, 990, 991, 992, 993, 994, 995, 996, 997, 998, 999, 1000, 1001, 1002] (by decide +kernel) (by decide +kernel)
set_option maxRecDepth 20000 in
theorem gL_law_X10_setStage : GoodIn wsL_law (wsV RL 34 RX10 yX10_setStage wsX10_setStage) := goodIn_app (goodIn_of _ (by decide +kernel)) ggL_law_X10_setStage
set_option maxRecDepth 20000 in
theorem ggL_law_X9_set : GoodIn wsL_law wsX9_set := goodIn_r _ [301, 15, 302, 21, 303, 304, 2, 305, 150, 151, 152, 153, 154, 155, 20, 156, 157, 158, 112, 159, 160, 161, 14, 162, 38, 42, 46, 50, 54, 56, 163, 164, 165, 166, 167, 37, 168, 169, 60, 61, 62, 63, 170, 171, 172, 173, 174, 175, 176, 177, 178, 179, 180, 181, 182, 41, 183, 184, 67, 68, 69, 70, 71, 72, 73, 75, 185, 186, 187, 45, 188, 189, 190, 79, 80, 81, 82, 83, 84, 85, 86, 87, 88, 89, 90, 191, 192, 193, 49, 194, 94, 99, 195, 196, 197, 53, 198, 199, 200, 103, 104, 105, 106, 975, 976, 977, 978, 979, 980, 981, 982, 983, 1003, 1004, 1005, 1006, 1007, 1008, 1009, 1010, 1011, 1012, 1013, 1029, 1030, 1031, 1032, 1033, 1034, 1035, 1036, 1037, 1038, 1039, 1040, 1041, 1042, 1043, 1044, 1045, 1046, 1047, 1048, 1049, 1050, 1051, 1052, 1053, 1054, 1055, 1056, 1057, 1058, 1059, 1060, 1061, 1062, 1063, 1064] (by decide +kernel) (by decide +kernel)
set_option maxRecDepth 20000 in
theorem gL_law_X9_set : GoodIn wsL_law (wsV RL 35 RX9 yX9_set wsX9_set) := goodIn_app (goodIn_of _ (by decide +kernel)) ggL_law_X9_set
set_option maxRecDepth 20000 in
theorem ggL_law_X10_set : GoodIn wsL_law wsX10_set := goodIn_r _ [309, 130, 209, 210, 5, 211, 212, 213, 214, 215, 216, 131, 984, 985, 986, 987, 988, 989, 990, 991, 992, 993, 994, 995, 996, 997, 998, 999, 1000, 1001, 1002] (by decide +kernel) (by decide +kernel)
set_option maxRecDepth 20000 in
theorem gL_law_X10_set : GoodIn wsL_law (wsV RL 38 RX10 yX10_set wsX10_set) := goodIn_app (goodIn_of _ (by decide +kernel)) ggL_law_X10_set
set_option maxRecDepth 20000 in
theorem ggL_law_X9_setRebate : GoodIn wsL_law wsX9_setRebate := goodIn_r _ [313, 314, 15, 315, 21, 150, 151, 2, 152, 287, 288, 289, 290, 291, 292, 153, 154, 155, 20, 156, 157, 158, 112, 159, 160, 161, 14, 162, 38, 42, 46, 50, 54, 56, 163, 164, 165, 166, 167, 37, 168, 169, 60, 61, 62, 63, 170, 171, 172, 173, 174, 175, 176, 177, 178, 179, 180, 181, 182, 41, 183, 184, 67, 68, 69, 70, 71, 72, 73, 75, 185, 186, 187, 45, 188, 189, 190, 79, 80, 81, 82, 83, 84, 85, 86, 87, 88, 89, 90, 191, 192, 193, 49, 194, 94, 99, 195, 196, 197, 53, 198, 199, 200, 103, 104, 105, 106, 975, 976, 977, 978, 979, 980, 981, 982, 983, 1003, 1004, 1005, 1006, 1007, 1008, 1009, 1010, 1011, 1012, 1013, 1029, 1030, 1031, 1032, 1033, 1034, 1035, 1036, 1037, 1038, 1039, 1040, 1041, 1042, 1043, 1044, 1045, 1046, 1047, 1048, 1049, 1050, 1051, 1052, 1053, 1054, 1055, 1056, 1057, 1058, 1059, 1060, 1061, 1062, 1063, 1064] (by decide +kernel) (by decide +kernel)
set_option maxRecDepth 20000 in
theorem gL_law_X9_setRebate : GoodIn wsL_law (wsV RL 39 RX9 yX9_setRebate wsX9_setRebate) := goodIn_app (goodIn_of _ (by decide +kernel)) ggL_law_X9_setRebate
set_option maxRecDepth 20000 in
theorem ggL_law_X10_setRebate : GoodIn wsL_law wsX10_setRebate := goodIn_r _ [319, 320, 130, 209, 210, 5, 211, 212, 213, 214, 215, 216, 131, 984, 985, 986, 987, 988, 989, 990, 991, 992, 993, 994, 995, 996, 997, 998, 999, 1000, 1001, 1002] (by decide +kernel) (by decide +kernel)
set_option maxRecDepth 20000 in
theorem gL_law_X10_setRebate : GoodIn wsL_law (wsV RL 43 RX10 yX10_setRebate wsX10_setRebate) := goodIn_app (goodIn_of _ (by decide +kernel)) ggL_law_X10_setRebate
set_option maxRecDepth 20000 in
theorem ggL_law_X9_bring : GoodIn wsL_law wsX9_bring := goodIn_r _ [324, 15, 325, 326, 21, 222, 223, 224, 2, 225, 148, 149, 150, 151, 152, 327, 328, 329, 330, 331, 153, 154, 155, 20, 156, 157, 158, 112, 159, 160, 161, 14, 162, 38, 42, 46, 50, 54, 56, 163, 164, 165, 166, 167, 37, 168, 169, 60, 61, 62, 63, 170, 171, 172, 173, 174, 175, 176, 177, 178, 179, 180, 181, 182, 41, 183, 184, 67, 68, 69, 70, 71, 72, 73, 75, 185, 186, 187, 45, 188, 189, 190, 79, 80, 81, 82, 83, 84, 85, 86, 87, 88, 89, 90, 191, 192, 193, 49, 194, 94, 99, 195, 196, 197, 53, 198, 199, 200, 103, 104, 105, 106, 332, 333, 334, 335, 336, 337, 338, 339, 340, 341, 342, 343, 344, 975, 976, 977, 978, 979, 980, 981, 982, 983, 1003, 1004, 1005, 1006, 1007, 1008, 1009, 1010, 1034, 1035, 1036, 1037, 1038, 1039, 1040, 1041, 1042, 1029, 1030, 1031, 1032, 1033, 1011, 1012, 1013, 1043, 1044, 1045, 1046, 1047, 1048, 1049, 1050, 1051, 1052, 1053, 1054, 1055, 1056, 1057, 1058, 1059, 1060, 1061, 1062, 1063, 1064] (by decide +kernel) (by decide +kernel)
set_option maxRecDepth 20000 in
theorem gL_law_X9_bring : GoodIn wsL_law (wsV RL 44 RX9 yX9_bring wsX9_bring) := goodIn_app (goodIn_of _ (by decide +kernel)) ggL_law_X9_bring
set_option maxRecDepth 20000 in
theorem ggL_law_X10_bring : GoodIn wsL_law wsX10_bring := goodIn_r _ [348, 130, 230, 231, 232, 5, 233, 209, 210, 211, 234, 235, 236, 237, 212, 213, 214, 215, 216, 131, 349, 350, 351, 352, 353, 354, 355, 356, 984, 985, 986, 987, 988, 989, 990, 991, 992, 993, 994, 995, 996, 997, 998, 999, 1000, 1001, 1002] (by decide +kernel) (by decide +kernel)
set_option maxRecDepth 20000 in
theorem gL_law_X10_bring : GoodIn wsL_law (wsV RL 47 RX10 yX10_bring wsX10_bring) := goodIn_app (goodIn_of _ (by decide +kernel)) ggL_law_X10_bring
set_option maxRecDepth 20000 in
theorem ggL_law_X9_readDelivery : GoodIn wsL_law wsX9_readDelivery := goodIn_r _ [360, 29, 31, 361, 21, 15, 362, 363, 364, 365, 28, 366, 367, 368, 369, 370, 371, 372, 373, 125, 374, 375, 376, 377, 378, 379, 380, 381, 382, 383, 384, 385, 386, 387, 388, 2, 389, 325, 326, 390, 391, 392, 393, 222, 223, 224, 225, 148, 149, 150, 151, 152, 394, 395, 396, 397, 398, 399, 400, 401, 331, 402, 403, 404, 405, 327, 328, 329, 330, 153, 154, 155, 20, 156, 157, 158, 112, 159, 160, 161, 14, 162, 38, 42, 46, 50, 54, 56, 163, 164, 165, 166, 167, 37, 168, 169, 60, 61, 62, 63, 170, 171, 172, 173, 174, 175, 176, 177, 178, 179, 180, 181, 182, 41, 183, 184, 67, 68, 69, 70, 71, 72, 73, 75, 185, 186, 187, 45, 188, 189, 190, 79, 80, 81, 82, 83, 84, 85, 86, 87, 88, 89, 90, 191, 192, 193, 49, 194, 94, 99, 195, 196, 197, 53, 198, 199, 200, 103, 104, 105, 106, 332, 333, 334, 335, 336, 337, 338, 339, 340, 341, 342, 343, 344, 975, 976, 977, 978, 979, 980, 981, 982, 983, 1025, 1026, 1027, 1028, 1003, 1004, 1005, 1006, 1007, 1008, 1009, 1010, 1034, 1035, 1036, 1037, 1038, 1039, 1040, 1041, 1042, 1029, 1030, 1031, 1032, 1033, 1011, 1012, 1013, 1043, 1044, 1045, 1046, 1047, 1048, 1049, 1050, 1051, 1052, 1053, 1054, 1055, 1056, 1057, 1058, 1059, 1060, 1061, 1062, 1063, 1064] (by decide +kernel) (by decide +kernel)
set_option maxRecDepth 20000 in
theorem gL_law_X9_readDelivery : GoodIn wsL_law (wsV RL 48 RX9 yX9_readDelivery wsX9_readDelivery) := goodIn_app (goodIn_of _ (by decide +kernel)) ggL_law_X9_readDelivery
set_option maxRecDepth 20000 in
theorem ggL_law_X10_readDelivery : GoodIn wsL_law wsX10_readDelivery := goodIn_r _ [409, 410, 411, 140, 412, 413, 414, 5, 415, 416, 417, 418, 419, 420, 421, 422, 423, 424, 425, 426, 427, 428, 429, 430, 431, 432, 433, 134, 434, 435, 436, 437, 130, 230, 231, 232, 233, 234, 235, 236, 237, 209, 210, 211, 212, 213, 214, 215, 216, 131, 349, 350, 351, 352, 353, 354, 355, 356, 984, 985, 986, 987, 988, 989, 990, 991, 992, 993, 994, 995, 996, 997, 998, 999, 1000, 1001, 1002] (by decide +kernel) (by decide +kernel)
set_option maxRecDepth 20000 in
theorem gL_law_X10_readDelivery : GoodIn wsL_law (wsV RL 52 RX10 yX10_readDelivery wsX10_readDelivery) := goodIn_app (goodIn_of _ (by decide +kernel)) ggL_law_X10_readDelivery
set_option maxRecDepth 20000 in
theorem ggL_law_X9_order : GoodIn wsL_law wsX9_order := goodIn_r _ [441, 15, 442, 443, 21, 444, 25, 445, 446, 447, 448, 2, 449, 222, 223, 224, 225, 148, 149, 150, 151, 152, 153, 154, 155, 20, 156, 157, 158, 112, 159, 160, 161, 14, 162, 38, 42, 46, 50, 54, 56, 163, 164, 165, 166, 167, 37, 168, 169, 60, 61, 62, 63, 170, 171, 172, 173, 174, 175, 176, 177, 178, 179, 180, 181, 182, 41, 183, 184, 67, 68, 69, 70, 71, 72, 73, 75, 185, 186, 187, 45, 188, 189, 190, 79, 80, 81, 82, 83, 84, 85, 86, 87, 88, 89, 90, 191, 192, 193, 49, 194, 94, 99, 195, 196, 197, 53, 198, 199, 200, 103, 104, 105, 106, 450, 451, 452, 453, 454, 455, 456, 24, 457, 458, 459, 460, 461, 462, 463, 464, 119, 465, 120, 466, 467, 468, 469, 470, 471, 472, 473, 474, 475, 476, 477, 478, 479, 480, 481, 482, 483, 484, 485, 486, 487, 488, 489, 490, 491, 492, 493, 494, 495, 496, 497, 498, 499, 500, 501, 502, 503, 504, 505, 506, 507, 508, 509, 510, 116, 117, 118, 511, 512, 513, 514, 515, 516, 248, 249, 250, 517, 518, 519, 520, 521, 522, 523, 524, 525, 526, 527, 528, 529, 530, 531, 532, 533, 340, 341, 342, 343, 344, 534, 535, 536, 537, 538, 539, 540, 541, 542, 975, 976, 977, 978, 979, 980, 981, 982, 983, 1003, 1004, 1005, 1006, 1007, 1008, 1009, 1010, 1043, 1044, 1045, 1046, 1047, 1048, 1049, 1050, 1051, 1052, 1053, 1054, 1055, 1056, 1014, 1015, 1016, 1017, 1018, 1019, 1020, 1021, 1022, 1023, 1024, 1029, 1030, 1031, 1032, 1033, 1011, 1012, 1013, 1034, 1035, 1036, 1037, 1038, 1039, 1040, 1041, 1042, 1057, 1058, 1059, 1060, 1061, 1062, 1063, 1064] (by decide +kernel) (by decide +kernel)
set_option maxRecDepth 20000 in
theorem gL_law_X9_order : GoodIn wsL_law (wsV RL 53 RX9 yX9_order wsX9_order) := goodIn_app (goodIn_of _ (by decide +kernel)) ggL_law_X9_order
set_option maxRecDepth 20000 in
theorem ggL_law_X10_order : GoodIn wsL_law wsX10_order := goodIn_r _ [546, 130, 547, 548, 549, 230, 231, 232, 5, 233, 209, 210, 211, 212, 213, 214, 215, 216, 131, 550, 551, 552, 553, 136, 554, 555, 556, 557, 137, 138, 139, 558, 559, 560, 561, 562, 563, 564, 565, 566, 567, 568, 569, 570, 571, 572, 573, 574, 575, 576, 577, 578, 234, 235, 236, 237, 579, 580, 581, 582, 583, 584, 585, 586, 587, 588, 589, 590, 591, 592, 593, 594, 595, 596, 597, 598, 599, 600, 601, 602, 603, 353, 354, 355, 356, 984, 985, 986, 987, 988, 989, 990, 991, 992, 993, 994, 995, 996, 997, 998, 999, 1000, 1001, 1002] (by decide +kernel) (by decide +kernel)
set_option maxRecDepth 20000 in
theorem gL_law_X10_order : GoodIn wsL_law (wsV RL 57 RX10 yX10_order wsX10_order) := goodIn_app (goodIn_of _ (by decide +kernel)) ggL_law_X10_order
set_option maxRecDepth 20000 in
theorem ggL_law_X9_breakUnits : GoodIn wsL_law wsX9_breakUnits := goodIn_r _ [607, 15, 325, 608, 21, 609, 610, 611, 2, 612, 326, 150, 151, 152, 153, 154, 155, 20, 156, 157, 158, 112, 159, 160, 161, 14, 162, 38, 42, 46, 50, 54, 56, 163, 164, 165, 166, 167, 37, 168, 169, 60, 61, 62, 63, 170, 171, 172, 173, 174, 175, 176, 177, 178, 179, 180, 181, 182, 41, 183, 184, 67, 68, 69, 70, 71, 72, 73, 75, 185, 186, 187, 45, 188, 189, 190, 79, 80, 81, 82, 83, 84, 85, 86, 87, 88, 89, 90, 191, 192, 193, 49, 194, 94, 99, 195, 196, 197, 53, 198, 199, 200, 103, 104, 105, 106, 613, 614, 615, 616, 524, 617, 340, 341, 342, 343, 344, 975, 976, 977, 978, 979, 980, 981, 982, 983, 1003, 1004, 1005, 1006, 1007, 1008, 1009, 1010, 1034, 1035, 1036, 1037, 1038, 1039, 1040, 1041, 1042, 1011, 1012, 1013, 1029, 1030, 1031, 1032, 1033, 1043, 1044, 1045, 1046, 1047, 1048, 1049, 1050, 1051, 1052, 1053, 1054, 1055, 1056, 1057, 1058, 1059, 1060, 1061, 1062, 1063, 1064] (by decide +kernel) (by decide +kernel)
set_option maxRecDepth 20000 in
theorem gL_law_X9_breakUnits : GoodIn wsL_law (wsV RL 58 RX9 yX9_breakUnits wsX9_breakUnits) := goodIn_app (goodIn_of _ (by decide +kernel)) ggL_law_X9_breakUnits
set_option maxRecDepth 20000 in
theorem ggL_law_X10_breakUnits : GoodIn wsL_law wsX10_breakUnits := goodIn_r _ [621, 622, 623, 624, 5, 625, 130, 209, 210, 211, 562, 563, 564, 565, 212, 213, 214, 215, 216, 131, 626, 627, 628, 629, 600, 601, 602, 603, 353, 354, 355, 356, 984, 985, 986, 987, 988, 989, 990, 991, 992, 993, 994, 995, 996, 997, 998, 999, 1000, 1001, 1002] (by decide +kernel) (by decide +kernel)
set_option maxRecDepth 20000 in
theorem gL_law_X10_breakUnits : GoodIn wsL_law (wsV RL 61 RX10 yX10_breakUnits wsX10_breakUnits) := goodIn_app (goodIn_of _ (by decide +kernel)) ggL_law_X10_breakUnits
set_option maxRecDepth 20000 in
theorem ggL_law_X9_recall : GoodIn wsL_law wsX9_recall := goodIn_r _ [633, 15, 325, 608, 21, 222, 223, 224, 2, 225, 148, 149, 150, 151, 152, 634, 635, 636, 41, 637, 184, 67, 153, 154, 155, 20, 156, 157, 158, 112, 159, 160, 161, 14, 162, 38, 42, 46, 50, 54, 56, 163, 164, 165, 166, 167, 37, 168, 169, 60, 61, 62, 63, 170, 171, 172, 173, 174, 175, 176, 177, 178, 179, 180, 181, 182, 183, 68, 69, 70, 71, 72, 73, 75, 185, 186, 187, 45, 188, 189, 190, 79, 80, 81, 82, 83, 84, 85, 86, 87, 88, 89, 90, 191, 192, 193, 49, 194, 94, 99, 195, 196, 197, 53, 198, 199, 200, 103, 104, 105, 106, 638, 639, 640, 641, 642, 474, 524, 643, 614, 615, 616, 617, 340, 341, 342, 343, 344, 975, 976, 977, 978, 979, 980, 981, 982, 983, 1003, 1004, 1005, 1006, 1007, 1008, 1009, 1010, 1034, 1035, 1036, 1037, 1038, 1039, 1040, 1041, 1042, 1029, 1030, 1031, 1032, 1033, 1011, 1012, 1013, 1043, 1044, 1045, 1046, 1047, 1048, 1049, 1050, 1051, 1052, 1053, 1054, 1055, 1056, 1057, 1058, 1059, 1060, 1061, 1062, 1063, 1064] (by decide +kernel) (by decide +kernel)
set_option maxRecDepth 20000 in
theorem gL_law_X9_recall : GoodIn wsL_law (wsV RL 62 RX9 yX9_recall wsX9_recall) := goodIn_app (goodIn_of _ (by decide +kernel)) ggL_law_X9_recall
set_option maxRecDepth 20000 in
theorem ggL_law_X10_recall : GoodIn wsL_law wsX10_recall := goodIn_r _ [647, 130, 230, 231, 232, 5, 233, 648, 649, 650, 651, 562, 563, 564, 565, 212, 213, 214, 215, 216, 131, 626, 627, 628, 629, 600, 601, 602, 603, 353, 354, 355, 356, 984, 985, 986, 987, 988, 989, 990, 991, 992, 993, 994, 995, 996, 997, 998, 999, 1000, 1001, 1002] (by decide +kernel) (by decide +kernel)
set_option maxRecDepth 20000 in
theorem gL_law_X10_recall : GoodIn wsL_law (wsV RL 65 RX10 yX10_recall wsX10_recall) := goodIn_app (goodIn_of _ (by decide +kernel)) ggL_law_X10_recall
set_option maxRecDepth 20000 in
theorem ggL_law_X9_pass : GoodIn wsL_law wsX9_pass := goodIn_r _ [655, 15, 444, 21, 150, 151, 2, 152, 153, 154, 155, 20, 156, 157, 158, 112, 159, 160, 161, 14, 162, 38, 42, 46, 50, 54, 56, 163, 164, 165, 166, 167, 37, 168, 169, 60, 61, 62, 63, 170, 171, 172, 173, 174, 175, 176, 177, 178, 179, 180, 181, 182, 41, 183, 184, 67, 68, 69, 70, 71, 72, 73, 75, 185, 186, 187, 45, 188, 189, 190, 79, 80, 81, 82, 83, 84, 85, 86, 87, 88, 89, 90, 191, 192, 193, 49, 194, 94, 99, 195, 196, 197, 53, 198, 199, 200, 103, 104, 105, 106, 656, 657, 658, 659, 660, 661, 662, 663, 664, 665, 666, 667, 642, 524, 481, 643, 614, 615, 616, 617, 340, 341, 342, 343, 344, 668, 669, 670, 671, 672, 477, 478, 479, 480, 482, 474, 483, 484, 485, 486, 673, 674, 675, 676, 677, 975, 976, 977, 978, 979, 980, 981, 982, 983, 1003, 1004, 1005, 1006, 1007, 1008, 1009, 1010, 1011, 1012, 1013, 1029, 1030, 1031, 1032, 1033, 1034, 1035, 1036, 1037, 1038, 1039, 1040, 1041, 1042, 1043, 1044, 1045, 1046, 1047, 1048, 1049, 1050, 1051, 1052, 1053, 1054, 1055, 1056, 1057, 1058, 1059, 1060, 1061, 1062, 1063, 1064] (by decide +kernel) (by decide +kernel)
set_option maxRecDepth 20000 in
theorem gL_law_X9_pass : GoodIn wsL_law (wsV RL 66 RX9 yX9_pass wsX9_pass) := goodIn_app (goodIn_of _ (by decide +kernel)) ggL_law_X9_pass
set_option maxRecDepth 20000 in
theorem ggL_law_X10_pass : GoodIn wsL_law wsX10_pass := goodIn_r _ [681, 130, 209, 210, 5, 211, 212, 213, 214, 215, 216, 131, 682, 683, 684, 685, 562, 563, 564, 565, 600, 601, 602, 603, 686, 687, 688, 689, 626, 627, 628, 629, 353, 354, 355, 356, 690, 691, 692, 693, 575, 576, 577, 578, 234, 235, 236, 237, 579, 580, 581, 582, 984, 985, 986, 987, 988, 989, 990, 991, 992, 993, 994, 995, 996, 997, 998, 999, 1000, 1001, 1002] (by decide +kernel) (by decide +kernel)
set_option maxRecDepth 20000 in
theorem gL_law_X10_pass : GoodIn wsL_law (wsV RL 69 RX10 yX10_pass wsX10_pass) := goodIn_app (goodIn_of _ (by decide +kernel)) ggL_law_X10_pass
set_option maxRecDepth 20000 in
theorem ggL_law_X9_type : GoodIn wsL_law wsX9_type := goodIn_r _ [697, 361, 31, 975, 976, 977, 978, 979, 980, 981, 982, 983] (by decide +kernel) (by decide +kernel)
set_option maxRecDepth 20000 in
theorem gL_law_X9_type : GoodIn wsL_law (wsV RL 70 RX9 yX9_type wsX9_type) := goodIn_app (goodIn_of _ (by decide +kernel)) ggL_law_X9_type
set_option maxRecDepth 20000 in
theorem ggL_law_X10_type : GoodIn wsL_law wsX10_type := goodIn_r _ [701, 417, 134, 984, 985, 986, 987, 988, 989, 990, 991, 992, 993, 994, 995, 996, 997, 998, 999, 1000, 1001, 1002] (by decide +kernel) (by decide +kernel)
set_option maxRecDepth 20000 in
theorem gL_law_X10_type : GoodIn wsL_law (wsV RL 74 RX10 yX10_type wsX10_type) := goodIn_app (goodIn_of _ (by decide +kernel)) ggL_law_X10_type
set_option maxRecDepth 20000 in
theorem ggL_law_X9_clearText : GoodIn wsL_law wsX9_clearText := goodIn_r _ [705, 361, 975, 976, 977, 978, 979, 980, 981, 982, 983] (by decide +kernel) (by decide +kernel)
set_option maxRecDepth 20000 in
theorem gL_law_X9_clearText : GoodIn wsL_law (wsV RL 75 RX9 yX9_clearText wsX9_clearText) := goodIn_app (goodIn_of _ (by decide +kernel)) ggL_law_X9_clearText
set_option maxRecDepth 20000 in
theorem ggL_law_X10_clearText : GoodIn wsL_law wsX10_clearText := goodIn_r _ [709, 417, 984, 985, 986, 987, 988, 989, 990, 991, 992, 993, 994, 995, 996, 997, 998, 999, 1000, 1001, 1002] (by decide +kernel) (by decide +kernel)
set_option maxRecDepth 20000 in
theorem gL_law_X10_clearText : GoodIn wsL_law (wsV RL 78 RX10 yX10_clearText wsX10_clearText) := goodIn_app (goodIn_of _ (by decide +kernel)) ggL_law_X10_clearText
set_option maxRecDepth 20000 in
theorem ggL_law_X9_undo : GoodIn wsL_law wsX9_undo := goodIn_r _ [713, 21, 714, 15, 715, 716, 717, 20, 718, 157, 112, 158, 159, 160, 161, 14, 162, 38, 42, 46, 50, 54, 56, 163, 164, 165, 166, 167, 37, 168, 169, 60, 61, 62, 63, 170, 2, 171, 172, 173, 174, 175, 176, 177, 178, 179, 180, 181, 182, 41, 183, 184, 67, 68, 69, 70, 71, 72, 73, 75, 185, 186, 187, 45, 188, 189, 190, 79, 80, 81, 82, 83, 84, 85, 86, 87, 88, 89, 90, 191, 192, 193, 49, 194, 94, 99, 195, 196, 197, 53, 198, 199, 200, 103, 104, 105, 106, 975, 976, 977, 978, 979, 980, 981, 982, 983, 1011, 1012, 1013, 1003, 1004, 1005, 1006, 1007, 1008, 1009, 1010, 1029, 1030, 1031, 1032, 1033, 1034, 1035, 1036, 1037, 1038, 1039, 1040, 1041, 1042, 1043, 1044, 1045, 1046, 1047, 1048, 1049, 1050, 1051, 1052, 1053, 1054, 1055, 1056, 1057, 1058, 1059, 1060, 1061, 1062, 1063, 1064] (by decide +kernel) (by decide +kernel)
set_option maxRecDepth 20000 in
theorem gL_law_X9_undo : GoodIn wsL_law (wsV RL 79 RX9 yX9_undo wsX9_undo) := goodIn_app (goodIn_of _ (by decide +kernel)) ggL_law_X9_undo
set_option maxRecDepth 20000 in
theorem ggL_law_X10_undo : GoodIn wsL_law wsX10_undo := goodIn_r _ [722, 216, 130, 131, 984, 985, 986, 987, 988, 989, 990, 991, 992, 993, 994, 995, 996, 997, 998, 999, 1000, 1001, 1002] (by decide +kernel) (by decide +kernel)
set_option maxRecDepth 20000 in
theorem gL_law_X10_undo : GoodIn wsL_law (wsV RL 82 RX10 yX10_undo wsX10_undo) := goodIn_app (goodIn_of _ (by decide +kernel)) ggL_law_X10_undo
set_option maxRecDepth 20000 in
theorem ggL_law_X9_keep : GoodIn wsL_law wsX9_keep := goodIn_r _ [726, 16, 15, 727, 444, 728, 160, 161, 14, 162, 38, 42, 46, 50, 54, 56, 163, 164, 165, 166, 167, 37, 168, 169, 60, 61, 62, 63, 170, 2, 171, 172, 173, 174, 175, 176, 177, 178, 179, 180, 181, 182, 41, 183, 184, 67, 68, 69, 70, 71, 72, 73, 75, 185, 186, 187, 45, 188, 189, 190, 79, 80, 81, 82, 83, 84, 85, 86, 87, 88, 89, 90, 191, 192, 193, 49, 194, 94, 99, 195, 196, 197, 53, 198, 199, 200, 103, 104, 105, 106, 975, 976, 977, 978, 979, 980, 981, 982, 983, 1003, 1004, 1005, 1006, 1007, 1008, 1009, 1010, 1029, 1030, 1031, 1032, 1033, 1034, 1035, 1036, 1037, 1038, 1039, 1040, 1041, 1042, 1043, 1044, 1045, 1046, 1047, 1048, 1049, 1050, 1051, 1052, 1053, 1054, 1055, 1056, 1057, 1058, 1059, 1060, 1061, 1062, 1063, 1064] (by decide +kernel) (by decide +kernel)
set_option maxRecDepth 20000 in
theorem gL_law_X9_keep : GoodIn wsL_law (wsV RL 83 RX9 yX9_keep wsX9_keep) := goodIn_app (goodIn_of _ (by decide +kernel)) ggL_law_X9_keep
set_option maxRecDepth 20000 in
theorem ggL_law_X10_keep : GoodIn wsL_law wsX10_keep := goodIn_r _ [732, 733, 132, 130, 984, 985, 986, 987, 988, 989, 990, 991, 992, 993, 994, 995, 996, 997, 998, 999, 1000, 1001, 1002] (by decide +kernel) (by decide +kernel)
set_option maxRecDepth 20000 in
theorem gL_law_X10_keep : GoodIn wsL_law (wsV RL 86 RX10 yX10_keep wsX10_keep) := goodIn_app (goodIn_of _ (by decide +kernel)) ggL_law_X10_keep
set_option maxRecDepth 20000 in
theorem ggL_law_X9_restore : GoodIn wsL_law wsX9_restore := goodIn_r _ [737, 727, 21, 15, 16, 444, 153, 154, 155, 20, 156, 157, 158, 112, 159, 160, 161, 14, 162, 38, 42, 46, 50, 54, 56, 163, 164, 165, 166, 167, 37, 168, 169, 60, 61, 62, 63, 170, 2, 171, 172, 173, 174, 175, 176, 177, 178, 179, 180, 181, 182, 41, 183, 184, 67, 68, 69, 70, 71, 72, 73, 75, 185, 186, 187, 45, 188, 189, 190, 79, 80, 81, 82, 83, 84, 85, 86, 87, 88, 89, 90, 191, 192, 193, 49, 194, 94, 99, 195, 196, 197, 53, 198, 199, 200, 103, 104, 105, 106, 728, 975, 976, 977, 978, 979, 980, 981, 982, 983, 1003, 1004, 1005, 1006, 1007, 1008, 1009, 1010, 1011, 1012, 1013, 1029, 1030, 1031, 1032, 1033, 1034, 1035, 1036, 1037, 1038, 1039, 1040, 1041, 1042, 1043, 1044, 1045, 1046, 1047, 1048, 1049, 1050, 1051, 1052, 1053, 1054, 1055, 1056, 1057, 1058, 1059, 1060, 1061, 1062, 1063, 1064] (by decide +kernel) (by decide +kernel)
set_option maxRecDepth 20000 in
theorem gL_law_X9_restore : GoodIn wsL_law (wsV RL 87 RX9 yX9_restore wsX9_restore) := goodIn_app (goodIn_of _ (by decide +kernel)) ggL_law_X9_restore
set_option maxRecDepth 20000 in
theorem ggL_law_X10_restore : GoodIn wsL_law wsX10_restore := goodIn_r _ [741, 733, 130, 132, 212, 213, 214, 5, 215, 216, 131, 984, 985, 986, 987, 988, 989, 990, 991, 992, 993, 994, 995, 996, 997, 998, 999, 1000, 1001, 1002] (by decide +kernel) (by decide +kernel)
set_option maxRecDepth 20000 in
theorem gL_law_X10_restore : GoodIn wsL_law (wsV RL 90 RX10 yX10_restore wsX10_restore) := goodIn_app (goodIn_of _ (by decide +kernel)) ggL_law_X10_restore
set_option maxRecDepth 20000 in
theorem ggL_law_X9_good : GoodIn wsL_law wsX9_good := goodIn_r _ [745, 15, 325, 148, 221, 331, 242, 608, 746, 442, 222, 223, 224, 2, 225, 149, 150, 151, 152, 634, 635, 636, 41, 637, 184, 67, 747, 748, 749, 750, 751, 752, 753, 45, 754, 189, 79, 81, 975, 976, 977, 978, 979, 980, 981, 982, 983, 1003, 1004, 1005, 1006, 1007, 1008, 1009, 1010, 1029, 1030, 1031, 1032, 1033, 1034, 1035, 1036, 1037, 1038, 1039, 1040, 1041, 1042, 1043, 1044, 1045, 1046, 1047, 1048, 1049, 1050, 1051, 1052, 1053, 1054, 1055, 1056] (by decide +kernel) (by decide +kernel)
set_option maxRecDepth 20000 in
theorem gL_law_X9_good : GoodIn wsL_law (wsV RL 91 RX9 yX9_good wsX9_good) := goodIn_app (goodIn_of _ (by decide +kernel)) ggL_law_X9_good
set_option maxRecDepth 20000 in
theorem ggL_law_X10_good : GoodIn wsL_law wsX10_good := goodIn_r _ [758, 130, 230, 231, 232, 5, 233, 209, 210, 211, 234, 235, 236, 237, 648, 649, 650, 651, 562, 563, 564, 565, 759, 760, 761, 762, 763, 764, 765, 766, 767, 768, 769, 770, 984, 985, 986, 987, 988, 989, 990, 991, 992, 993, 994, 995, 996, 997, 998, 999, 1000, 1001, 1002] (by decide +kernel) (by decide +kernel)
set_option maxRecDepth 20000 in
theorem gL_law_X10_good : GoodIn wsL_law (wsV RL 94 RX10 yX10_good wsX10_good) := goodIn_app (goodIn_of _ (by decide +kernel)) ggL_law_X10_good
set_option maxRecDepth 20000 in
theorem ggL_law_X9_substitute : GoodIn wsL_law wsX9_substitute := goodIn_r _ [774, 15, 148, 263, 264, 265, 2, 266, 242, 222, 223, 224, 225, 149, 150, 151, 152, 775, 248, 249, 37, 250, 63, 975, 976, 977, 978, 979, 980, 981, 982, 983, 1003, 1004, 1005, 1006, 1007, 1008, 1009, 1010, 1029, 1030, 1031, 1032, 1033] (by decide +kernel) (by decide +kernel)
set_option maxRecDepth 20000 in
theorem gL_law_X9_substitute : GoodIn wsL_law (wsV RL 95 RX9 yX9_substitute wsX9_substitute) := goodIn_app (goodIn_of _ (by decide +kernel)) ggL_law_X9_substitute
set_option maxRecDepth 20000 in
theorem ggL_law_X10_substitute : GoodIn wsL_law wsX10_substitute := goodIn_r _ [779, 230, 231, 232, 5, 233, 130, 234, 235, 236, 237, 984, 985, 986, 987, 988, 989, 990, 991, 992, 993, 994, 995, 996, 997, 998, 999, 1000, 1001, 1002] (by decide +kernel) (by decide +kernel)
set_option maxRecDepth 20000 in
theorem gL_law_X10_substitute : GoodIn wsL_law (wsV RL 98 RX10 yX10_substitute wsX10_substitute) := goodIn_app (goodIn_of _ (by decide +kernel)) ggL_law_X10_substitute
set_option maxRecDepth 20000 in
theorem ggL_law_X9_batch : GoodIn wsL_law wsX9_batch := goodIn_r _ [783, 15, 325, 784, 785, 786, 608, 746, 787, 788, 789, 609, 610, 611, 2, 612, 326, 150, 151, 152, 790, 791, 792, 41, 793, 75, 794, 478, 479, 14, 480, 50, 42, 481, 38, 482, 474, 483, 484, 485, 49, 486, 94, 975, 976, 977, 978, 979, 980, 981, 982, 983, 1003, 1004, 1005, 1006, 1007, 1008, 1009, 1010, 1034, 1035, 1036, 1037, 1038, 1039, 1040, 1041, 1042, 1029, 1030, 1031, 1032, 1033, 1057, 1058] (by decide +kernel) (by decide +kernel)
set_option maxRecDepth 20000 in
theorem gL_law_X9_batch : GoodIn wsL_law (wsV RL 99 RX9 yX9_batch wsX9_batch) := goodIn_app (goodIn_of _ (by decide +kernel)) ggL_law_X9_batch
set_option maxRecDepth 20000 in
theorem ggL_law_X10_batch : GoodIn wsL_law wsX10_batch := goodIn_r _ [798, 622, 623, 624, 5, 625, 130, 209, 210, 211, 562, 563, 564, 565, 799, 800, 801, 802, 575, 576, 577, 578, 234, 235, 236, 237, 579, 580, 581, 582, 984, 985, 986, 987, 988, 989, 990, 991, 992, 993, 994, 995, 996, 997, 998, 999, 1000, 1001, 1002] (by decide +kernel) (by decide +kernel)
set_option maxRecDepth 20000 in
theorem gL_law_X10_batch : GoodIn wsL_law (wsV RL 102 RX10 yX10_batch wsX10_batch) := goodIn_app (goodIn_of _ (by decide +kernel)) ggL_law_X10_batch
set_option maxRecDepth 20000 in
theorem ggL_law_X9_unitPrice : GoodIn wsL_law wsX9_unitPrice := goodIn_r _ [806, 15, 609, 610, 611, 2, 612, 325, 326, 150, 151, 152, 807, 808, 809, 810, 811, 470, 471, 14, 472, 38, 473, 42, 474, 50, 475, 476, 477, 478, 479, 480, 481, 482, 483, 484, 485, 49, 486, 94, 975, 976, 977, 978, 979, 980, 981, 982, 983, 1003, 1004, 1005, 1006, 1007, 1008, 1009, 1010, 1034, 1035, 1036, 1037, 1038, 1039, 1040, 1041, 1042, 1029, 1030, 1031, 1032, 1033, 1057, 1058] (by decide +kernel) (by decide +kernel)
set_option maxRecDepth 20000 in
theorem gL_law_X9_unitPrice : GoodIn wsL_law (wsV RL 103 RX9 yX9_unitPrice wsX9_unitPrice) := goodIn_app (goodIn_of _ (by decide +kernel)) ggL_law_X9_unitPrice
set_option maxRecDepth 20000 in
theorem ggL_law_X10_unitPrice : GoodIn wsL_law wsX10_unitPrice := goodIn_r _ [815, 816, 622, 623, 624, 5, 625, 130, 570, 571, 572, 573, 574, 575, 576, 577, 578, 562, 563, 564, 565, 234, 235, 236, 237, 579, 580, 581, 582, 583, 584, 585, 586, 587, 984, 985, 986, 987, 988, 989, 990, 991, 992, 993, 994, 995, 996, 997, 998, 999, 1000, 1001, 1002] (by decide +kernel) (by decide +kernel)
set_option maxRecDepth 20000 in
theorem gL_law_X10_unitPrice : GoodIn wsL_law (wsV RL 107 RX10 yX10_unitPrice wsX10_unitPrice) := goodIn_app (goodIn_of _ (by decide +kernel)) ggL_law_X10_unitPrice
set_option maxRecDepth 20000 in
theorem ggL_law_X9_markdown : GoodIn wsL_law wsX9_markdown := goodIn_r _ [820, 15, 279, 282, 821, 822, 2, 823, 150, 151, 152, 807, 808, 809, 810, 975, 976, 977, 978, 979, 980, 981, 982, 983, 1003, 1004, 1005, 1006, 1007, 1008, 1009, 1010, 1057, 1058] (by decide +kernel) (by decide +kernel)
set_option maxRecDepth 20000 in
theorem gL_law_X9_markdown : GoodIn wsL_law (wsV RL 108 RX9 yX9_markdown wsX9_markdown) := goodIn_app (goodIn_of _ (by decide +kernel)) ggL_law_X9_markdown
set_option maxRecDepth 20000 in
theorem ggL_law_X10_markdown : GoodIn wsL_law wsX10_markdown := goodIn_r _ [827, 130, 816, 209, 210, 5, 211, 583, 584, 585, 586, 587, 984, 985, 986, 987, 988, 989, 990, 991, 992, 993, 994, 995, 996, 997, 998, 999, 1000, 1001, 1002] (by decide +kernel) (by decide +kernel)
set_option maxRecDepth 20000 in
theorem gL_law_X10_markdown : GoodIn wsL_law (wsV RL 111 RX10 yX10_markdown wsX10_markdown) := goodIn_app (goodIn_of _ (by decide +kernel)) ggL_law_X10_markdown
set_option maxRecDepth 20000 in
theorem ggL_law_X9_stage : GoodIn wsL_law wsX9_stage := goodIn_r _ [831, 15, 279, 281, 821, 822, 2, 823, 150, 151, 152, 832, 833, 834, 14, 835, 42, 642, 836, 837, 838, 839, 524, 477, 478, 479, 480, 50, 481, 38, 482, 474, 483, 484, 485, 49, 486, 94, 840, 841, 842, 843, 975, 976, 977, 978, 979, 980, 981, 982, 983, 1003, 1004, 1005, 1006, 1007, 1008, 1009, 1010, 1057, 1058, 1034, 1035, 1036, 1037, 1038, 1039, 1040, 1041, 1042, 1029, 1030, 1031, 1032, 1033] (by decide +kernel) (by decide +kernel)
set_option maxRecDepth 20000 in
theorem gL_law_X9_stage : GoodIn wsL_law (wsV RL 112 RX9 yX9_stage wsX9_stage) := goodIn_app (goodIn_of _ (by decide +kernel)) ggL_law_X9_stage
set_option maxRecDepth 20000 in
theorem ggL_law_X10_stage : GoodIn wsL_law wsX10_stage := goodIn_r _ [847, 130, 209, 210, 5, 211, 562, 563, 564, 565, 575, 576, 577, 578, 234, 235, 236, 237, 579, 580, 581, 582, 984, 985, 986, 987, 988, 989, 990, 991, 992, 993, 994, 995, 996, 997, 998, 999, 1000, 1001, 1002] (by decide +kernel) (by decide +kernel)
set_option maxRecDepth 20000 in
theorem gL_law_X10_stage : GoodIn wsL_law (wsV RL 115 RX10 yX10_stage wsX10_stage) := goodIn_app (goodIn_of _ (by decide +kernel)) ggL_law_X10_stage
set_option maxRecDepth 20000 in
theorem ggL_law_X9_orderTold : GoodIn wsL_law wsX9_orderTold := goodIn_r _ [851, 15, 442, 852, 853, 854, 855, 856, 857, 858, 859, 860, 861, 862, 863, 2, 864, 443, 150, 151, 152, 975, 976, 977, 978, 979, 980, 981, 982, 983, 1003, 1004, 1005, 1006, 1007, 1008, 1009, 1010, 1043, 1044, 1045, 1046, 1047, 1048, 1049, 1050, 1051, 1052, 1053, 1054, 1055, 1056] (by decide +kernel) (by decide +kernel)
set_option maxRecDepth 20000 in
theorem gL_law_X9_orderTold : GoodIn wsL_law (wsV RL 116 RX9 yX9_orderTold wsX9_orderTold) := goodIn_app (goodIn_of _ (by decide +kernel)) ggL_law_X9_orderTold
set_option maxRecDepth 20000 in
theorem ggL_law_X10_orderTold : GoodIn wsL_law wsX10_orderTold := goodIn_r _ [868, 869, 870, 871, 5, 872, 130, 209, 210, 211, 767, 768, 769, 770, 984, 985, 986, 987, 988, 989, 990, 991, 992, 993, 994, 995, 996, 997, 998, 999, 1000, 1001, 1002] (by decide +kernel) (by decide +kernel)
set_option maxRecDepth 20000 in
theorem gL_law_X10_orderTold : GoodIn wsL_law (wsV RL 119 RX10 yX10_orderTold wsX10_orderTold) := goodIn_app (goodIn_of _ (by decide +kernel)) ggL_law_X10_orderTold
set_option maxRecDepth 20000 in
theorem ggL_law_X9_taken : GoodIn wsL_law wsX9_taken := goodIn_r _ [876, 15, 442, 858, 877, 878, 879, 861, 862, 863, 2, 864, 443, 150, 151, 152, 975, 976, 977, 978, 979, 980, 981, 982, 983, 1003, 1004, 1005, 1006, 1007, 1008, 1009, 1010, 1043, 1044, 1045, 1046, 1047, 1048, 1049, 1050, 1051, 1052, 1053, 1054, 1055, 1056] (by decide +kernel) (by decide +kernel)
set_option maxRecDepth 20000 in
theorem gL_law_X9_taken : GoodIn wsL_law (wsV RL 120 RX9 yX9_taken wsX9_taken) := goodIn_app (goodIn_of _ (by decide +kernel)) ggL_law_X9_taken
set_option maxRecDepth 20000 in
theorem ggL_law_X10_taken : GoodIn wsL_law wsX10_taken := goodIn_r _ [883, 130, 869, 870, 871, 5, 872, 209, 210, 211, 767, 768, 769, 770, 984, 985, 986, 987, 988, 989, 990, 991, 992, 993, 994, 995, 996, 997, 998, 999, 1000, 1001, 1002] (by decide +kernel) (by decide +kernel)
set_option maxRecDepth 20000 in
theorem gL_law_X10_taken : GoodIn wsL_law (wsV RL 123 RX10 yX10_taken wsX10_taken) := goodIn_app (goodIn_of _ (by decide +kernel)) ggL_law_X10_taken
set_option maxRecDepth 20000 in
theorem ggL_law_X9_wouldGet : GoodIn wsL_law wsX9_wouldGet := goodIn_r _ [887, 25, 15, 445, 888, 889, 315, 446, 447, 448, 2, 449, 222, 223, 224, 225, 148, 149, 150, 151, 152, 454, 455, 456, 24, 457, 458, 459, 460, 461, 462, 463, 464, 119, 465, 120, 466, 467, 468, 170, 171, 172, 173, 174, 175, 176, 177, 178, 179, 469, 470, 471, 14, 472, 38, 473, 42, 474, 50, 475, 476, 477, 478, 479, 480, 481, 482, 483, 484, 485, 49, 486, 94, 487, 488, 489, 490, 491, 492, 493, 494, 495, 496, 497, 498, 499, 500, 501, 502, 503, 504, 505, 506, 507, 508, 509, 510, 116, 117, 118, 511, 512, 513, 514, 515, 516, 248, 249, 37, 250, 63, 890, 535, 536, 537, 538, 975, 976, 977, 978, 979, 980, 981, 982, 983, 1014, 1015, 1016, 1017, 1018, 1019, 1020, 1021, 1022, 1023, 1024, 1003, 1004, 1005, 1006, 1007, 1008, 1009, 1010, 1029, 1030, 1031, 1032, 1033, 1034, 1035, 1036, 1037, 1038, 1039, 1040, 1041, 1042, 1057, 1058] (by decide +kernel) (by decide +kernel)
set_option maxRecDepth 20000 in
theorem gL_law_X9_wouldGet : GoodIn wsL_law (wsV RL 124 RX9 yX9_wouldGet wsX9_wouldGet) := goodIn_app (goodIn_of _ (by decide +kernel)) ggL_law_X9_wouldGet
set_option maxRecDepth 20000 in
theorem ggL_law_X10_wouldGet : GoodIn wsL_law wsX10_wouldGet := goodIn_r _ [894, 547, 548, 549, 230, 231, 232, 5, 233, 130, 209, 210, 211, 550, 551, 552, 553, 136, 554, 555, 556, 557, 137, 138, 139, 558, 559, 560, 561, 562, 563, 564, 565, 566, 567, 568, 569, 570, 571, 572, 573, 574, 575, 576, 577, 578, 234, 235, 236, 237, 579, 580, 581, 582, 583, 584, 585, 586, 587, 588, 589, 590, 591, 592, 593, 594, 595, 984, 985, 986, 987, 988, 989, 990, 991, 992, 993, 994, 995, 996, 997, 998, 999, 1000, 1001, 1002] (by decide +kernel) (by decide +kernel)
set_option maxRecDepth 20000 in
theorem gL_law_X10_wouldGet : GoodIn wsL_law (wsV RL 128 RX10 yX10_wouldGet wsX10_wouldGet) := goodIn_app (goodIn_of _ (by decide +kernel)) ggL_law_X10_wouldGet
set_option maxRecDepth 20000 in
theorem ggL_law_X9_wouldExpire : GoodIn wsL_law wsX9_wouldExpire := goodIn_r _ [898, 17, 15, 325, 788, 609, 610, 611, 2, 612, 326, 150, 151, 152, 728, 160, 161, 14, 162, 38, 42, 46, 50, 54, 56, 163, 164, 165, 166, 167, 37, 168, 169, 60, 61, 62, 63, 170, 171, 172, 173, 174, 175, 176, 177, 178, 179, 180, 181, 182, 41, 183, 184, 67, 68, 69, 70, 71, 72, 73, 75, 185, 186, 187, 45, 188, 189, 190, 79, 80, 81, 82, 83, 84, 85, 86, 87, 88, 89, 90, 191, 192, 193, 49, 194, 94, 99, 195, 196, 197, 53, 198, 199, 200, 103, 104, 105, 106, 656, 657, 658, 659, 660, 661, 662, 663, 664, 665, 666, 667, 642, 524, 481, 643, 614, 615, 616, 617, 340, 341, 342, 343, 344, 668, 669, 670, 671, 672, 477, 478, 479, 480, 482, 474, 483, 484, 485, 486, 673, 674, 675, 676, 677, 975, 976, 977, 978, 979, 980, 981, 982, 983, 1003, 1004, 1005, 1006, 1007, 1008, 1009, 1010, 1034, 1035, 1036, 1037, 1038, 1039, 1040, 1041, 1042, 1029, 1030, 1031, 1032, 1033, 1043, 1044, 1045, 1046, 1047, 1048, 1049, 1050, 1051, 1052, 1053, 1054, 1055, 1056, 1057, 1058, 1059, 1060, 1061, 1062, 1063, 1064] (by decide +kernel) (by decide +kernel)
set_option maxRecDepth 20000 in
theorem gL_law_X9_wouldExpire : GoodIn wsL_law (wsV RL 129 RX9 yX9_wouldExpire wsX9_wouldExpire) := goodIn_app (goodIn_of _ (by decide +kernel)) ggL_law_X9_wouldExpire
set_option maxRecDepth 20000 in
theorem ggL_law_X10_wouldExpire : GoodIn wsL_law wsX10_wouldExpire := goodIn_r _ [902, 133, 130, 622, 623, 624, 5, 625, 209, 210, 211, 562, 563, 564, 565, 682, 683, 684, 685, 600, 601, 602, 603, 686, 687, 688, 689, 626, 627, 628, 629, 353, 354, 355, 356, 690, 691, 692, 693, 575, 576, 577, 578, 234, 235, 236, 237, 579, 580, 581, 582, 984, 985, 986, 987, 988, 989, 990, 991, 992, 993, 994, 995, 996, 997, 998, 999, 1000, 1001, 1002] (by decide +kernel) (by decide +kernel)
set_option maxRecDepth 20000 in
theorem gL_law_X10_wouldExpire : GoodIn wsL_law (wsV RL 132 RX10 yX10_wouldExpire wsX10_wouldExpire) := goodIn_app (goodIn_of _ (by decide +kernel)) ggL_law_X10_wouldExpire
set_option maxRecDepth 20000 in
theorem ggL_law_X9_stageIn : GoodIn wsL_law wsX9_stageIn := goodIn_r _ [906, 15, 325, 608, 786, 148, 331, 784, 279, 609, 610, 611, 2, 612, 326, 150, 151, 152, 907, 484, 485, 49, 486, 94, 975, 976, 977, 978, 979, 980, 981, 982, 983, 1003, 1004, 1005, 1006, 1007, 1008, 1009, 1010, 1034, 1035, 1036, 1037, 1038, 1039, 1040, 1041, 1042, 1029, 1030, 1031, 1032, 1033, 1057, 1058] (by decide +kernel) (by decide +kernel)
set_option maxRecDepth 20000 in
theorem gL_law_X9_stageIn : GoodIn wsL_law (wsV RL 133 RX9 yX9_stageIn wsX9_stageIn) := goodIn_app (goodIn_of _ (by decide +kernel)) ggL_law_X9_stageIn
set_option maxRecDepth 20000 in
theorem ggL_law_X10_stageIn : GoodIn wsL_law wsX10_stageIn := goodIn_r _ [911, 622, 623, 624, 5, 625, 130, 209, 210, 211, 562, 563, 564, 565, 234, 235, 236, 237, 579, 580, 581, 582, 984, 985, 986, 987, 988, 989, 990, 991, 992, 993, 994, 995, 996, 997, 998, 999, 1000, 1001, 1002] (by decide +kernel) (by decide +kernel)
set_option maxRecDepth 20000 in
theorem gL_law_X10_stageIn : GoodIn wsL_law (wsV RL 136 RX10 yX10_stageIn wsX10_stageIn) := goodIn_app (goodIn_of _ (by decide +kernel)) ggL_law_X10_stageIn
set_option maxRecDepth 20000 in
theorem ggL_law_X9_event : GoodIn wsL_law wsX9_event := goodIn_r _ [915, 15, 916, 917, 918, 919, 920, 921, 150, 151, 2, 152, 922, 923, 924, 53, 925, 200, 926, 927, 928, 929, 975, 976, 977, 978, 979, 980, 981, 982, 983, 1003, 1004, 1005, 1006, 1007, 1008, 1009, 1010, 1059, 1060, 1061, 1062, 1063, 1064] (by decide +kernel) (by decide +kernel)
set_option maxRecDepth 20000 in
theorem gL_law_X9_event : GoodIn wsL_law (wsV RL 137 RX9 yX9_event wsX9_event) := goodIn_app (goodIn_of _ (by decide +kernel)) ggL_law_X9_event
set_option maxRecDepth 20000 in
theorem ggL_law_X10_event : GoodIn wsL_law wsX10_event := goodIn_r _ [933, 130, 209, 210, 5, 211, 984, 985, 986, 987, 988, 989, 990, 991, 992, 993, 994, 995, 996, 997, 998, 999, 1000, 1001, 1002] (by decide +kernel) (by decide +kernel)
set_option maxRecDepth 20000 in
theorem gL_law_X10_event : GoodIn wsL_law (wsV RL 140 RX10 yX10_event wsX10_event) := goodIn_app (goodIn_of _ (by decide +kernel)) ggL_law_X10_event
set_option maxRecDepth 20000 in
theorem ggL_law_X9_takes : GoodIn wsL_law wsX9_takes := goodIn_r _ [937, 609, 610, 611, 2, 612, 15, 325, 326, 150, 151, 152, 222, 223, 224, 225, 148, 149, 975, 976, 977, 978, 979, 980, 981, 982, 983, 1003, 1004, 1005, 1006, 1007, 1008, 1009, 1010, 1034, 1035, 1036, 1037, 1038, 1039, 1040, 1041, 1042, 1029, 1030, 1031, 1032, 1033] (by decide +kernel) (by decide +kernel)
set_option maxRecDepth 20000 in
theorem gL_law_X9_takes : GoodIn wsL_law (wsV RL 141 RX9 yX9_takes wsX9_takes) := goodIn_app (goodIn_of _ (by decide +kernel)) ggL_law_X9_takes
set_option maxRecDepth 20000 in
theorem ggL_law_X10_takes : GoodIn wsL_law wsX10_takes := goodIn_r _ [941, 622, 623, 624, 5, 625, 130, 230, 231, 232, 233, 209, 210, 211, 984, 985, 986, 987, 988, 989, 990, 991, 992, 993, 994, 995, 996, 997, 998, 999, 1000, 1001, 1002] (by decide +kernel) (by decide +kernel)
set_option maxRecDepth 20000 in
theorem gL_law_X10_takes : GoodIn wsL_law (wsV RL 145 RX10 yX10_takes wsX10_takes) := goodIn_app (goodIn_of _ (by decide +kernel)) ggL_law_X10_takes
set_option maxRecDepth 20000 in
theorem ggL_law_X9_count : GoodIn wsL_law wsX9_count := goodIn_r _ [945, 15, 325, 442, 444, 148, 149, 326, 443, 608, 746, 787, 788, 853, 854, 859, 302, 21, 714, 361, 946, 947, 948, 41, 949, 184, 950, 951, 952, 953, 75, 954, 955, 956, 957, 45, 958, 189, 959, 960, 961, 962, 81, 975, 976, 977, 978, 979, 980, 981, 982, 983, 1003, 1004, 1005, 1006, 1007, 1008, 1009, 1010, 1029, 1030, 1031, 1032, 1033, 1034, 1035, 1036, 1037, 1038, 1039, 1040, 1041, 1042, 1043, 1044, 1045, 1046, 1047, 1048, 1049, 1050, 1051, 1052, 1053, 1054, 1055, 1056, 1011, 1012, 1013] (by decide +kernel) (by decide +kernel)
set_option maxRecDepth 20000 in
theorem gL_law_X9_count : GoodIn wsL_law (wsV RL 146 RX9 yX9_count wsX9_count) := goodIn_app (goodIn_of _ (by decide +kernel)) ggL_law_X9_count
set_option maxRecDepth 20000 in
theorem ggL_law_X10_count : GoodIn wsL_law wsX10_count := goodIn_r _ [966, 130, 216, 417, 209, 210, 5, 211, 763, 764, 765, 766, 562, 563, 564, 565, 967, 968, 969, 970, 799, 800, 801, 802, 971, 972, 973, 974, 767, 768, 769, 770, 984, 985, 986, 987, 988, 989, 990, 991, 992, 993, 994, 995, 996, 997, 998, 999, 1000, 1001, 1002] (by decide +kernel) (by decide +kernel)
set_option maxRecDepth 20000 in
theorem gL_law_X10_count : GoodIn wsL_law (wsV RL 149 RX10 yX10_count wsX10_count) := goodIn_app (goodIn_of _ (by decide +kernel)) ggL_law_X10_count
