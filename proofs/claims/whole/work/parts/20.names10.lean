theorem dX10_init_0 : decode cX10_init 0 = .ok (.aload_n 0, 1) := by decide +kernel
theorem dX10_init_1 : decode cX10_init 1 = .ok (.invokespecial 1, 3) := by decide +kernel
theorem dX10_init_4 : decode cX10_init 4 = .ok (.aload_n 0, 1) := by decide +kernel
theorem dX10_init_5 : decode cX10_init 5 = .ok (.sipush 1002, 3) := by decide +kernel
theorem dX10_init_8 : decode cX10_init 8 = .ok (.newarray .int, 2) := by decide +kernel
theorem dX10_init_10 : decode cX10_init 10 = .ok (.putfield 7, 3) := by decide +kernel
theorem dX10_init_13 : decode cX10_init 13 = .ok (.aload_n 0, 1) := by decide +kernel
theorem dX10_init_14 : decode cX10_init 14 = .ok (.sipush 4008, 3) := by decide +kernel
theorem dX10_init_17 : decode cX10_init 17 = .ok (.newarray .int, 2) := by decide +kernel
theorem dX10_init_19 : decode cX10_init 19 = .ok (.putfield 13, 3) := by decide +kernel
theorem dX10_init_22 : decode cX10_init 22 = .ok (.aload_n 0, 1) := by decide +kernel
theorem dX10_init_23 : decode cX10_init 23 = .ok (.sipush 1002, 3) := by decide +kernel
theorem dX10_init_26 : decode cX10_init 26 = .ok (.newarray .int, 2) := by decide +kernel
theorem dX10_init_28 : decode cX10_init 28 = .ok (.putfield 16, 3) := by decide +kernel
theorem dX10_init_31 : decode cX10_init 31 = .ok (.aload_n 0, 1) := by decide +kernel
theorem dX10_init_32 : decode cX10_init 32 = .ok (.sipush 1002, 3) := by decide +kernel
theorem dX10_init_35 : decode cX10_init 35 = .ok (.newarray .int, 2) := by decide +kernel
theorem dX10_init_37 : decode cX10_init 37 = .ok (.putfield 19, 3) := by decide +kernel
theorem dX10_init_40 : decode cX10_init 40 = .ok (.aload_n 0, 1) := by decide +kernel
theorem dX10_init_41 : decode cX10_init 41 = .ok (.bipush 60, 2) := by decide +kernel
theorem dX10_init_43 : decode cX10_init 43 = .ok (.newarray .char, 2) := by decide +kernel
theorem dX10_init_45 : decode cX10_init 45 = .ok (.putfield 22, 3) := by decide +kernel
theorem dX10_init_48 : decode cX10_init 48 = .ok (.aload_n 0, 1) := by decide +kernel
theorem dX10_init_49 : decode cX10_init 49 = .ok (.bipush 40, 2) := by decide +kernel
theorem dX10_init_51 : decode cX10_init 51 = .ok (.newarray .boolean, 2) := by decide +kernel
theorem dX10_init_53 : decode cX10_init 53 = .ok (.putfield 26, 3) := by decide +kernel
theorem dX10_init_56 : decode cX10_init 56 = .ok (.aload_n 0, 1) := by decide +kernel
theorem dX10_init_57 : decode cX10_init 57 = .ok (.bipush 40, 2) := by decide +kernel
theorem dX10_init_59 : decode cX10_init 59 = .ok (.newarray .int, 2) := by decide +kernel
theorem dX10_init_61 : decode cX10_init 61 = .ok (.putfield 30, 3) := by decide +kernel
theorem dX10_init_64 : decode cX10_init 64 = .ok (.aload_n 0, 1) := by decide +kernel
theorem dX10_init_65 : decode cX10_init 65 = .ok (.bipush 40, 2) := by decide +kernel
theorem dX10_init_67 : decode cX10_init 67 = .ok (.newarray .int, 2) := by decide +kernel
theorem dX10_init_69 : decode cX10_init 69 = .ok (.putfield 33, 3) := by decide +kernel
theorem dX10_init_72 : decode cX10_init 72 = .ok (.aload_n 0, 1) := by decide +kernel
theorem dX10_init_73 : decode cX10_init 73 = .ok (.bipush 40, 2) := by decide +kernel
theorem dX10_init_75 : decode cX10_init 75 = .ok (.newarray .int, 2) := by decide +kernel
theorem dX10_init_77 : decode cX10_init 77 = .ok (.putfield 36, 3) := by decide +kernel
theorem dX10_init_80 : decode cX10_init 80 = .ok (.aload_n 0, 1) := by decide +kernel
theorem dX10_init_81 : decode cX10_init 81 = .ok (.bipush 60, 2) := by decide +kernel
theorem dX10_init_83 : decode cX10_init 83 = .ok (.newarray .int, 2) := by decide +kernel
theorem dX10_init_85 : decode cX10_init 85 = .ok (.putfield 39, 3) := by decide +kernel
theorem dX10_init_88 : decode cX10_init 88 = .ok (.aload_n 0, 1) := by decide +kernel
theorem dX10_init_89 : decode cX10_init 89 = .ok (.getfield 7, 3) := by decide +kernel
theorem dX10_init_92 : decode cX10_init 92 = .ok (.iconst 5, 1) := by decide +kernel
theorem dX10_init_93 : decode cX10_init 93 = .ok (.iconst 4, 1) := by decide +kernel
theorem dX10_init_94 : decode cX10_init 94 = .ok (.iastore, 1) := by decide +kernel
theorem dX10_init_95 : decode cX10_init 95 = .ok (.aload_n 0, 1) := by decide +kernel
theorem dX10_init_96 : decode cX10_init 96 = .ok (.getfield 7, 3) := by decide +kernel
theorem dX10_init_99 : decode cX10_init 99 = .ok (.bipush 6, 2) := by decide +kernel
theorem dX10_init_101 : decode cX10_init 101 = .ok (.bipush 50, 2) := by decide +kernel
theorem dX10_init_103 : decode cX10_init 103 = .ok (.iastore, 1) := by decide +kernel
theorem dX10_init_104 : decode cX10_init 104 = .ok (.aload_n 0, 1) := by decide +kernel
theorem dX10_init_105 : decode cX10_init 105 = .ok (.getfield 7, 3) := by decide +kernel
theorem dX10_init_108 : decode cX10_init 108 = .ok (.sipush 954, 3) := by decide +kernel
theorem dX10_init_111 : decode cX10_init 111 = .ok (.bipush 100, 2) := by decide +kernel
theorem dX10_init_113 : decode cX10_init 113 = .ok (.iastore, 1) := by decide +kernel
theorem dX10_init_114 : decode cX10_init 114 = .ok (.aload_n 0, 1) := by decide +kernel
theorem dX10_init_115 : decode cX10_init 115 = .ok (.getfield 7, 3) := by decide +kernel
theorem dX10_init_118 : decode cX10_init 118 = .ok (.sipush 955, 3) := by decide +kernel
theorem dX10_init_121 : decode cX10_init 121 = .ok (.bipush 50, 2) := by decide +kernel
theorem dX10_init_123 : decode cX10_init 123 = .ok (.iastore, 1) := by decide +kernel
theorem dX10_init_124 : decode cX10_init 124 = .ok (.aload_n 0, 1) := by decide +kernel
theorem dX10_init_125 : decode cX10_init 125 = .ok (.getfield 7, 3) := by decide +kernel
theorem dX10_init_128 : decode cX10_init 128 = .ok (.sipush 956, 3) := by decide +kernel
theorem dX10_init_131 : decode cX10_init 131 = .ok (.bipush 25, 2) := by decide +kernel
theorem dX10_init_133 : decode cX10_init 133 = .ok (.iastore, 1) := by decide +kernel
theorem dX10_init_134 : decode cX10_init 134 = .ok (.aload_n 0, 1) := by decide +kernel
theorem dX10_init_135 : decode cX10_init 135 = .ok (.getfield 7, 3) := by decide +kernel
theorem dX10_init_138 : decode cX10_init 138 = .ok (.sipush 957, 3) := by decide +kernel
theorem dX10_init_141 : decode cX10_init 141 = .ok (.bipush 10, 2) := by decide +kernel
theorem dX10_init_143 : decode cX10_init 143 = .ok (.iastore, 1) := by decide +kernel
theorem dX10_init_144 : decode cX10_init 144 = .ok (.aload_n 0, 1) := by decide +kernel
theorem dX10_init_145 : decode cX10_init 145 = .ok (.getfield 7, 3) := by decide +kernel
theorem dX10_init_148 : decode cX10_init 148 = .ok (.sipush 959, 3) := by decide +kernel
theorem dX10_init_151 : decode cX10_init 151 = .ok (.ldc 42, 2) := by decide +kernel
theorem dX10_init_153 : decode cX10_init 153 = .ok (.iastore, 1) := by decide +kernel
theorem dX10_init_154 : decode cX10_init 154 = .ok (.aload_n 0, 1) := by decide +kernel
theorem dX10_init_155 : decode cX10_init 155 = .ok (.getfield 7, 3) := by decide +kernel
theorem dX10_init_158 : decode cX10_init 158 = .ok (.sipush 960, 3) := by decide +kernel
theorem dX10_init_161 : decode cX10_init 161 = .ok (.ldc 43, 2) := by decide +kernel
theorem dX10_init_163 : decode cX10_init 163 = .ok (.iastore, 1) := by decide +kernel
theorem dX10_init_164 : decode cX10_init 164 = .ok (.aload_n 0, 1) := by decide +kernel
theorem dX10_init_165 : decode cX10_init 165 = .ok (.getfield 7, 3) := by decide +kernel
theorem dX10_init_168 : decode cX10_init 168 = .ok (.sipush 961, 3) := by decide +kernel
theorem dX10_init_171 : decode cX10_init 171 = .ok (.ldc 44, 2) := by decide +kernel
theorem dX10_init_173 : decode cX10_init 173 = .ok (.iastore, 1) := by decide +kernel
theorem dX10_init_174 : decode cX10_init 174 = .ok (.return_, 1) := by decide +kernel
theorem dX10_in_0 : decode cX10_in 0 = .ok (.iload_n 0, 1) := by decide +kernel
theorem dX10_in_1 : decode cX10_in 1 = .ok (.iload_n 1, 1) := by decide +kernel
theorem dX10_in_2 : decode cX10_in 2 = .ok (.if_icmp .lt 12, 3) := by decide +kernel
theorem dX10_in_5 : decode cX10_in 5 = .ok (.iload_n 0, 1) := by decide +kernel
theorem dX10_in_6 : decode cX10_in 6 = .ok (.iload_n 2, 1) := by decide +kernel
theorem dX10_in_7 : decode cX10_in 7 = .ok (.if_icmp .gt 7, 3) := by decide +kernel
theorem dX10_in_10 : decode cX10_in 10 = .ok (.iconst 1, 1) := by decide +kernel
theorem dX10_in_11 : decode cX10_in 11 = .ok (.goto 4, 3) := by decide +kernel
theorem dX10_in_14 : decode cX10_in 14 = .ok (.iconst 0, 1) := by decide +kernel
theorem dX10_in_15 : decode cX10_in 15 = .ok (.ireturn, 1) := by decide +kernel
theorem dX10_record_0 : decode cX10_record 0 = .ok (.aload_n 0, 1) := by decide +kernel
theorem dX10_record_1 : decode cX10_record 1 = .ok (.getfield 45, 3) := by decide +kernel
theorem dX10_record_4 : decode cX10_record 4 = .ok (.iconst 4, 1) := by decide +kernel
theorem dX10_record_5 : decode cX10_record 5 = .ok (.if_icmp .ne 44, 3) := by decide +kernel
theorem dX10_record_8 : decode cX10_record 8 = .ok (.iconst 0, 1) := by decide +kernel
theorem dX10_record_9 : decode cX10_record 9 = .ok (.istore_n 1, 1) := by decide +kernel
theorem dX10_record_10 : decode cX10_record 10 = .ok (.iload_n 1, 1) := by decide +kernel
theorem dX10_record_11 : decode cX10_record 11 = .ok (.sipush 3006, 3) := by decide +kernel
theorem dX10_record_14 : decode cX10_record 14 = .ok (.if_icmp .ge 25, 3) := by decide +kernel
theorem dX10_record_17 : decode cX10_record 17 = .ok (.aload_n 0, 1) := by decide +kernel
theorem dX10_record_18 : decode cX10_record 18 = .ok (.getfield 13, 3) := by decide +kernel
theorem dX10_record_21 : decode cX10_record 21 = .ok (.iload_n 1, 1) := by decide +kernel
theorem dX10_record_22 : decode cX10_record 22 = .ok (.aload_n 0, 1) := by decide +kernel
theorem dX10_record_23 : decode cX10_record 23 = .ok (.getfield 13, 3) := by decide +kernel
theorem dX10_record_26 : decode cX10_record 26 = .ok (.iload_n 1, 1) := by decide +kernel
theorem dX10_record_27 : decode cX10_record 27 = .ok (.sipush 1002, 3) := by decide +kernel
theorem dX10_record_30 : decode cX10_record 30 = .ok (.iadd, 1) := by decide +kernel
theorem dX10_record_31 : decode cX10_record 31 = .ok (.iaload, 1) := by decide +kernel
theorem dX10_record_32 : decode cX10_record 32 = .ok (.iastore, 1) := by decide +kernel
theorem dX10_record_33 : decode cX10_record 33 = .ok (.iinc 1 1, 3) := by decide +kernel
theorem dX10_record_36 : decode cX10_record 36 = .ok (.goto (-26), 3) := by decide +kernel
theorem dX10_record_39 : decode cX10_record 39 = .ok (.aload_n 0, 1) := by decide +kernel
theorem dX10_record_40 : decode cX10_record 40 = .ok (.dup, 1) := by decide +kernel
theorem dX10_record_41 : decode cX10_record 41 = .ok (.getfield 45, 3) := by decide +kernel
theorem dX10_record_44 : decode cX10_record 44 = .ok (.iconst 1, 1) := by decide +kernel
theorem dX10_record_45 : decode cX10_record 45 = .ok (.isub, 1) := by decide +kernel
theorem dX10_record_46 : decode cX10_record 46 = .ok (.putfield 45, 3) := by decide +kernel
theorem dX10_record_49 : decode cX10_record 49 = .ok (.iconst 0, 1) := by decide +kernel
theorem dX10_record_50 : decode cX10_record 50 = .ok (.istore_n 1, 1) := by decide +kernel
theorem dX10_record_51 : decode cX10_record 51 = .ok (.iload_n 1, 1) := by decide +kernel
theorem dX10_record_52 : decode cX10_record 52 = .ok (.sipush 1002, 3) := by decide +kernel
theorem dX10_record_55 : decode cX10_record 55 = .ok (.if_icmp .ge 30, 3) := by decide +kernel
theorem dX10_record_58 : decode cX10_record 58 = .ok (.aload_n 0, 1) := by decide +kernel
theorem dX10_record_59 : decode cX10_record 59 = .ok (.getfield 13, 3) := by decide +kernel
theorem dX10_record_62 : decode cX10_record 62 = .ok (.aload_n 0, 1) := by decide +kernel
theorem dX10_record_63 : decode cX10_record 63 = .ok (.getfield 45, 3) := by decide +kernel
theorem dX10_record_66 : decode cX10_record 66 = .ok (.sipush 1002, 3) := by decide +kernel
theorem dX10_record_69 : decode cX10_record 69 = .ok (.imul, 1) := by decide +kernel
theorem dX10_record_70 : decode cX10_record 70 = .ok (.iload_n 1, 1) := by decide +kernel
theorem dX10_record_71 : decode cX10_record 71 = .ok (.iadd, 1) := by decide +kernel
theorem dX10_record_72 : decode cX10_record 72 = .ok (.aload_n 0, 1) := by decide +kernel
theorem dX10_record_73 : decode cX10_record 73 = .ok (.getfield 7, 3) := by decide +kernel
theorem dX10_record_76 : decode cX10_record 76 = .ok (.iload_n 1, 1) := by decide +kernel
theorem dX10_record_77 : decode cX10_record 77 = .ok (.iaload, 1) := by decide +kernel
theorem dX10_record_78 : decode cX10_record 78 = .ok (.iastore, 1) := by decide +kernel
theorem dX10_record_79 : decode cX10_record 79 = .ok (.iinc 1 1, 3) := by decide +kernel
theorem dX10_record_82 : decode cX10_record 82 = .ok (.goto (-31), 3) := by decide +kernel
theorem dX10_record_85 : decode cX10_record 85 = .ok (.aload_n 0, 1) := by decide +kernel
theorem dX10_record_86 : decode cX10_record 86 = .ok (.dup, 1) := by decide +kernel
theorem dX10_record_87 : decode cX10_record 87 = .ok (.getfield 45, 3) := by decide +kernel
theorem dX10_record_90 : decode cX10_record 90 = .ok (.iconst 1, 1) := by decide +kernel
theorem dX10_record_91 : decode cX10_record 91 = .ok (.iadd, 1) := by decide +kernel
theorem dX10_record_92 : decode cX10_record 92 = .ok (.putfield 45, 3) := by decide +kernel
theorem dX10_record_95 : decode cX10_record 95 = .ok (.return_, 1) := by decide +kernel
theorem dX10_undo_0 : decode cX10_undo 0 = .ok (.aload_n 0, 1) := by decide +kernel
theorem dX10_undo_1 : decode cX10_undo 1 = .ok (.getfield 45, 3) := by decide +kernel
theorem dX10_undo_4 : decode cX10_undo 4 = .ok (.ifCond .ne 6, 3) := by decide +kernel
theorem dX10_undo_7 : decode cX10_undo 7 = .ok (.bipush (-5), 2) := by decide +kernel
theorem dX10_undo_9 : decode cX10_undo 9 = .ok (.ireturn, 1) := by decide +kernel
theorem dX10_undo_10 : decode cX10_undo 10 = .ok (.aload_n 0, 1) := by decide +kernel
theorem dX10_undo_11 : decode cX10_undo 11 = .ok (.dup, 1) := by decide +kernel
theorem dX10_undo_12 : decode cX10_undo 12 = .ok (.getfield 45, 3) := by decide +kernel
theorem dX10_undo_15 : decode cX10_undo 15 = .ok (.iconst 1, 1) := by decide +kernel
theorem dX10_undo_16 : decode cX10_undo 16 = .ok (.isub, 1) := by decide +kernel
theorem dX10_undo_17 : decode cX10_undo 17 = .ok (.putfield 45, 3) := by decide +kernel
theorem dX10_undo_20 : decode cX10_undo 20 = .ok (.iconst 0, 1) := by decide +kernel
theorem dX10_undo_21 : decode cX10_undo 21 = .ok (.istore_n 1, 1) := by decide +kernel
theorem dX10_undo_22 : decode cX10_undo 22 = .ok (.iload_n 1, 1) := by decide +kernel
theorem dX10_undo_23 : decode cX10_undo 23 = .ok (.sipush 1002, 3) := by decide +kernel
theorem dX10_undo_26 : decode cX10_undo 26 = .ok (.if_icmp .ge 30, 3) := by decide +kernel
theorem dX10_undo_29 : decode cX10_undo 29 = .ok (.aload_n 0, 1) := by decide +kernel
theorem dX10_undo_30 : decode cX10_undo 30 = .ok (.getfield 7, 3) := by decide +kernel
theorem dX10_undo_33 : decode cX10_undo 33 = .ok (.iload_n 1, 1) := by decide +kernel
theorem dX10_undo_34 : decode cX10_undo 34 = .ok (.aload_n 0, 1) := by decide +kernel
theorem dX10_undo_35 : decode cX10_undo 35 = .ok (.getfield 13, 3) := by decide +kernel
theorem dX10_undo_38 : decode cX10_undo 38 = .ok (.aload_n 0, 1) := by decide +kernel
theorem dX10_undo_39 : decode cX10_undo 39 = .ok (.getfield 45, 3) := by decide +kernel
theorem dX10_undo_42 : decode cX10_undo 42 = .ok (.sipush 1002, 3) := by decide +kernel
theorem dX10_undo_45 : decode cX10_undo 45 = .ok (.imul, 1) := by decide +kernel
theorem dX10_undo_46 : decode cX10_undo 46 = .ok (.iload_n 1, 1) := by decide +kernel
theorem dX10_undo_47 : decode cX10_undo 47 = .ok (.iadd, 1) := by decide +kernel
theorem dX10_undo_48 : decode cX10_undo 48 = .ok (.iaload, 1) := by decide +kernel
theorem dX10_undo_49 : decode cX10_undo 49 = .ok (.iastore, 1) := by decide +kernel
theorem dX10_undo_50 : decode cX10_undo 50 = .ok (.iinc 1 1, 3) := by decide +kernel
theorem dX10_undo_53 : decode cX10_undo 53 = .ok (.goto (-31), 3) := by decide +kernel
theorem dX10_undo_56 : decode cX10_undo 56 = .ok (.aload_n 0, 1) := by decide +kernel
theorem dX10_undo_57 : decode cX10_undo 57 = .ok (.getfield 45, 3) := by decide +kernel
theorem dX10_undo_60 : decode cX10_undo 60 = .ok (.ireturn, 1) := by decide +kernel
theorem dX10_keep_0 : decode cX10_keep 0 = .ok (.aload_n 0, 1) := by decide +kernel
theorem dX10_keep_1 : decode cX10_keep 1 = .ok (.iconst 1, 1) := by decide +kernel
theorem dX10_keep_2 : decode cX10_keep 2 = .ok (.putfield 49, 3) := by decide +kernel
theorem dX10_keep_5 : decode cX10_keep 5 = .ok (.iconst 0, 1) := by decide +kernel
theorem dX10_keep_6 : decode cX10_keep 6 = .ok (.istore_n 1, 1) := by decide +kernel
theorem dX10_keep_7 : decode cX10_keep 7 = .ok (.iload_n 1, 1) := by decide +kernel
theorem dX10_keep_8 : decode cX10_keep 8 = .ok (.sipush 1002, 3) := by decide +kernel
theorem dX10_keep_11 : decode cX10_keep 11 = .ok (.if_icmp .ge 21, 3) := by decide +kernel
theorem dX10_keep_14 : decode cX10_keep 14 = .ok (.aload_n 0, 1) := by decide +kernel
theorem dX10_keep_15 : decode cX10_keep 15 = .ok (.getfield 16, 3) := by decide +kernel
theorem dX10_keep_18 : decode cX10_keep 18 = .ok (.iload_n 1, 1) := by decide +kernel
theorem dX10_keep_19 : decode cX10_keep 19 = .ok (.aload_n 0, 1) := by decide +kernel
theorem dX10_keep_20 : decode cX10_keep 20 = .ok (.getfield 7, 3) := by decide +kernel
theorem dX10_keep_23 : decode cX10_keep 23 = .ok (.iload_n 1, 1) := by decide +kernel
theorem dX10_keep_24 : decode cX10_keep 24 = .ok (.iaload, 1) := by decide +kernel
theorem dX10_keep_25 : decode cX10_keep 25 = .ok (.iastore, 1) := by decide +kernel
theorem dX10_keep_26 : decode cX10_keep 26 = .ok (.iinc 1 1, 3) := by decide +kernel
theorem dX10_keep_29 : decode cX10_keep 29 = .ok (.goto (-22), 3) := by decide +kernel
theorem dX10_keep_32 : decode cX10_keep 32 = .ok (.aload_n 0, 1) := by decide +kernel
theorem dX10_keep_33 : decode cX10_keep 33 = .ok (.getfield 7, 3) := by decide +kernel
theorem dX10_keep_36 : decode cX10_keep 36 = .ok (.iconst 0, 1) := by decide +kernel
theorem dX10_keep_37 : decode cX10_keep 37 = .ok (.iaload, 1) := by decide +kernel
theorem dX10_keep_38 : decode cX10_keep 38 = .ok (.ireturn, 1) := by decide +kernel
set_option maxRecDepth 20000 in
theorem ggX10_restore_X10_record : GoodIn wsX10_restore wsX10_record := goodIn_r _ [8, 9, 10, 2, 11, 12, 13, 14, 15, 16, 17, 18, 19, 20, 21, 22, 23, 24, 25, 26, 27, 28, 29] (by decide +kernel) (by decide +kernel)
set_option maxRecDepth 20000 in
theorem gX10_restore_X10_record : GoodIn wsX10_restore (wsV RX10 53 RX10 yX10_record wsX10_record) := goodIn_app (goodIn_of _ (by decide +kernel)) ggX10_restore_X10_record
theorem dX10_restore_0 : decode cX10_restore 0 = .ok (.aload_n 0, 1) := by decide +kernel
theorem dX10_restore_1 : decode cX10_restore 1 = .ok (.getfield 49, 3) := by decide +kernel
theorem dX10_restore_4 : decode cX10_restore 4 = .ok (.ifCond .ne 6, 3) := by decide +kernel
theorem dX10_restore_7 : decode cX10_restore 7 = .ok (.bipush (-5), 2) := by decide +kernel
theorem dX10_restore_9 : decode cX10_restore 9 = .ok (.ireturn, 1) := by decide +kernel
theorem dX10_restore_10 : decode cX10_restore 10 = .ok (.aload_n 0, 1) := by decide +kernel
theorem dX10_restore_11 : decode cX10_restore 11 = .ok (.invokevirtual 53, 3) := by decide +kernel
theorem dX10_restore_14 : decode cX10_restore 14 = .ok (.iconst 0, 1) := by decide +kernel
theorem dX10_restore_15 : decode cX10_restore 15 = .ok (.istore_n 1, 1) := by decide +kernel
theorem dX10_restore_16 : decode cX10_restore 16 = .ok (.iload_n 1, 1) := by decide +kernel
theorem dX10_restore_17 : decode cX10_restore 17 = .ok (.sipush 1002, 3) := by decide +kernel
theorem dX10_restore_20 : decode cX10_restore 20 = .ok (.if_icmp .ge 21, 3) := by decide +kernel
theorem dX10_restore_23 : decode cX10_restore 23 = .ok (.aload_n 0, 1) := by decide +kernel
theorem dX10_restore_24 : decode cX10_restore 24 = .ok (.getfield 7, 3) := by decide +kernel
theorem dX10_restore_27 : decode cX10_restore 27 = .ok (.iload_n 1, 1) := by decide +kernel
theorem dX10_restore_28 : decode cX10_restore 28 = .ok (.aload_n 0, 1) := by decide +kernel
theorem dX10_restore_29 : decode cX10_restore 29 = .ok (.getfield 16, 3) := by decide +kernel
theorem dX10_restore_32 : decode cX10_restore 32 = .ok (.iload_n 1, 1) := by decide +kernel
theorem dX10_restore_33 : decode cX10_restore 33 = .ok (.iaload, 1) := by decide +kernel
theorem dX10_restore_34 : decode cX10_restore 34 = .ok (.iastore, 1) := by decide +kernel
theorem dX10_restore_35 : decode cX10_restore 35 = .ok (.iinc 1 1, 3) := by decide +kernel
theorem dX10_restore_38 : decode cX10_restore 38 = .ok (.goto (-22), 3) := by decide +kernel
theorem dX10_restore_41 : decode cX10_restore 41 = .ok (.aload_n 0, 1) := by decide +kernel
theorem dX10_restore_42 : decode cX10_restore 42 = .ok (.getfield 7, 3) := by decide +kernel
theorem dX10_restore_45 : decode cX10_restore 45 = .ok (.iconst 0, 1) := by decide +kernel
theorem dX10_restore_46 : decode cX10_restore 46 = .ok (.iaload, 1) := by decide +kernel
theorem dX10_restore_47 : decode cX10_restore 47 = .ok (.ireturn, 1) := by decide +kernel
theorem dX10_isGood_0 : decode cX10_isGood 0 = .ok (.iload_n 1, 1) := by decide +kernel
theorem dX10_isGood_1 : decode cX10_isGood 1 = .ok (.ifCond .lt 17, 3) := by decide +kernel
theorem dX10_isGood_4 : decode cX10_isGood 4 = .ok (.iload_n 1, 1) := by decide +kernel
theorem dX10_isGood_5 : decode cX10_isGood 5 = .ok (.aload_n 0, 1) := by decide +kernel
theorem dX10_isGood_6 : decode cX10_isGood 6 = .ok (.getfield 7, 3) := by decide +kernel
theorem dX10_isGood_9 : decode cX10_isGood 9 = .ok (.iconst 1, 1) := by decide +kernel
theorem dX10_isGood_10 : decode cX10_isGood 10 = .ok (.iaload, 1) := by decide +kernel
theorem dX10_isGood_11 : decode cX10_isGood 11 = .ok (.if_icmp .ge 7, 3) := by decide +kernel
theorem dX10_isGood_14 : decode cX10_isGood 14 = .ok (.iconst 1, 1) := by decide +kernel
theorem dX10_isGood_15 : decode cX10_isGood 15 = .ok (.goto 4, 3) := by decide +kernel
theorem dX10_isGood_18 : decode cX10_isGood 18 = .ok (.iconst 0, 1) := by decide +kernel
theorem dX10_isGood_19 : decode cX10_isGood 19 = .ok (.ireturn, 1) := by decide +kernel
theorem dX10_isBatch_0 : decode cX10_isBatch 0 = .ok (.iload_n 1, 1) := by decide +kernel
theorem dX10_isBatch_1 : decode cX10_isBatch 1 = .ok (.ifCond .lt 17, 3) := by decide +kernel
theorem dX10_isBatch_4 : decode cX10_isBatch 4 = .ok (.iload_n 1, 1) := by decide +kernel
theorem dX10_isBatch_5 : decode cX10_isBatch 5 = .ok (.aload_n 0, 1) := by decide +kernel
theorem dX10_isBatch_6 : decode cX10_isBatch 6 = .ok (.getfield 7, 3) := by decide +kernel
theorem dX10_isBatch_9 : decode cX10_isBatch 9 = .ok (.iconst 2, 1) := by decide +kernel
theorem dX10_isBatch_10 : decode cX10_isBatch 10 = .ok (.iaload, 1) := by decide +kernel
theorem dX10_isBatch_11 : decode cX10_isBatch 11 = .ok (.if_icmp .ge 7, 3) := by decide +kernel
theorem dX10_isBatch_14 : decode cX10_isBatch 14 = .ok (.iconst 1, 1) := by decide +kernel
theorem dX10_isBatch_15 : decode cX10_isBatch 15 = .ok (.goto 4, 3) := by decide +kernel
theorem dX10_isBatch_18 : decode cX10_isBatch 18 = .ok (.iconst 0, 1) := by decide +kernel
theorem dX10_isBatch_19 : decode cX10_isBatch 19 = .ok (.ireturn, 1) := by decide +kernel
theorem dX10_isOrder_0 : decode cX10_isOrder 0 = .ok (.iload_n 1, 1) := by decide +kernel
theorem dX10_isOrder_1 : decode cX10_isOrder 1 = .ok (.ifCond .lt 17, 3) := by decide +kernel
theorem dX10_isOrder_4 : decode cX10_isOrder 4 = .ok (.iload_n 1, 1) := by decide +kernel
theorem dX10_isOrder_5 : decode cX10_isOrder 5 = .ok (.aload_n 0, 1) := by decide +kernel
theorem dX10_isOrder_6 : decode cX10_isOrder 6 = .ok (.getfield 7, 3) := by decide +kernel
theorem dX10_isOrder_9 : decode cX10_isOrder 9 = .ok (.iconst 3, 1) := by decide +kernel
theorem dX10_isOrder_10 : decode cX10_isOrder 10 = .ok (.iaload, 1) := by decide +kernel
theorem dX10_isOrder_11 : decode cX10_isOrder 11 = .ok (.if_icmp .ge 7, 3) := by decide +kernel
theorem dX10_isOrder_14 : decode cX10_isOrder 14 = .ok (.iconst 1, 1) := by decide +kernel
theorem dX10_isOrder_15 : decode cX10_isOrder 15 = .ok (.goto 4, 3) := by decide +kernel
theorem dX10_isOrder_18 : decode cX10_isOrder 18 = .ok (.iconst 0, 1) := by decide +kernel
theorem dX10_isOrder_19 : decode cX10_isOrder 19 = .ok (.ireturn, 1) := by decide +kernel
theorem dX10_ofGood_0 : decode cX10_ofGood 0 = .ok (.aload_n 0, 1) := by decide +kernel
theorem dX10_ofGood_1 : decode cX10_ofGood 1 = .ok (.getfield 7, 3) := by decide +kernel
theorem dX10_ofGood_4 : decode cX10_ofGood 4 = .ok (.bipush 10, 2) := by decide +kernel
theorem dX10_ofGood_6 : decode cX10_ofGood 6 = .ok (.bipush 7, 2) := by decide +kernel
theorem dX10_ofGood_8 : decode cX10_ofGood 8 = .ok (.iload_n 1, 1) := by decide +kernel
theorem dX10_ofGood_9 : decode cX10_ofGood 9 = .ok (.imul, 1) := by decide +kernel
theorem dX10_ofGood_10 : decode cX10_ofGood 10 = .ok (.iadd, 1) := by decide +kernel
theorem dX10_ofGood_11 : decode cX10_ofGood 11 = .ok (.iload_n 2, 1) := by decide +kernel
theorem dX10_ofGood_12 : decode cX10_ofGood 12 = .ok (.iadd, 1) := by decide +kernel
theorem dX10_ofGood_13 : decode cX10_ofGood 13 = .ok (.iaload, 1) := by decide +kernel
theorem dX10_ofGood_14 : decode cX10_ofGood 14 = .ok (.ireturn, 1) := by decide +kernel
theorem dX10_ofBatch_0 : decode cX10_ofBatch 0 = .ok (.aload_n 0, 1) := by decide +kernel
theorem dX10_ofBatch_1 : decode cX10_ofBatch 1 = .ok (.getfield 7, 3) := by decide +kernel
theorem dX10_ofBatch_4 : decode cX10_ofBatch 4 = .ok (.bipush 94, 2) := by decide +kernel
theorem dX10_ofBatch_6 : decode cX10_ofBatch 6 = .ok (.bipush 10, 2) := by decide +kernel
theorem dX10_ofBatch_8 : decode cX10_ofBatch 8 = .ok (.iload_n 1, 1) := by decide +kernel
theorem dX10_ofBatch_9 : decode cX10_ofBatch 9 = .ok (.imul, 1) := by decide +kernel
theorem dX10_ofBatch_10 : decode cX10_ofBatch 10 = .ok (.iadd, 1) := by decide +kernel
theorem dX10_ofBatch_11 : decode cX10_ofBatch 11 = .ok (.iload_n 2, 1) := by decide +kernel
theorem dX10_ofBatch_12 : decode cX10_ofBatch 12 = .ok (.iadd, 1) := by decide +kernel
theorem dX10_ofBatch_13 : decode cX10_ofBatch 13 = .ok (.iaload, 1) := by decide +kernel
theorem dX10_ofBatch_14 : decode cX10_ofBatch 14 = .ok (.ireturn, 1) := by decide +kernel
theorem dX10_ofOrder_0 : decode cX10_ofOrder 0 = .ok (.aload_n 0, 1) := by decide +kernel
theorem dX10_ofOrder_1 : decode cX10_ofOrder 1 = .ok (.getfield 7, 3) := by decide +kernel
theorem dX10_ofOrder_4 : decode cX10_ofOrder 4 = .ok (.sipush 494, 3) := by decide +kernel
theorem dX10_ofOrder_7 : decode cX10_ofOrder 7 = .ok (.bipush 10, 2) := by decide +kernel
theorem dX10_ofOrder_9 : decode cX10_ofOrder 9 = .ok (.iload_n 1, 1) := by decide +kernel
theorem dX10_ofOrder_10 : decode cX10_ofOrder 10 = .ok (.imul, 1) := by decide +kernel
theorem dX10_ofOrder_11 : decode cX10_ofOrder 11 = .ok (.iadd, 1) := by decide +kernel
theorem dX10_ofOrder_12 : decode cX10_ofOrder 12 = .ok (.iload_n 2, 1) := by decide +kernel
theorem dX10_ofOrder_13 : decode cX10_ofOrder 13 = .ok (.iadd, 1) := by decide +kernel
theorem dX10_ofOrder_14 : decode cX10_ofOrder 14 = .ok (.iaload, 1) := by decide +kernel
theorem dX10_ofOrder_15 : decode cX10_ofOrder 15 = .ok (.ireturn, 1) := by decide +kernel
theorem dX10_addTo_0 : decode cX10_addTo 0 = .ok (.aload_n 0, 1) := by decide +kernel
theorem dX10_addTo_1 : decode cX10_addTo 1 = .ok (.getfield 7, 3) := by decide +kernel
theorem dX10_addTo_4 : decode cX10_addTo 4 = .ok (.bipush 94, 2) := by decide +kernel
theorem dX10_addTo_6 : decode cX10_addTo 6 = .ok (.bipush 10, 2) := by decide +kernel
theorem dX10_addTo_8 : decode cX10_addTo 8 = .ok (.iload_n 1, 1) := by decide +kernel
theorem dX10_addTo_9 : decode cX10_addTo 9 = .ok (.imul, 1) := by decide +kernel
theorem dX10_addTo_10 : decode cX10_addTo 10 = .ok (.iadd, 1) := by decide +kernel
theorem dX10_addTo_11 : decode cX10_addTo 11 = .ok (.iload_n 2, 1) := by decide +kernel
theorem dX10_addTo_12 : decode cX10_addTo 12 = .ok (.iadd, 1) := by decide +kernel
theorem dX10_addTo_13 : decode cX10_addTo 13 = .ok (.dup2, 1) := by decide +kernel
theorem dX10_addTo_14 : decode cX10_addTo 14 = .ok (.iaload, 1) := by decide +kernel
theorem dX10_addTo_15 : decode cX10_addTo 15 = .ok (.iload_n 3, 1) := by decide +kernel
theorem dX10_addTo_16 : decode cX10_addTo 16 = .ok (.iadd, 1) := by decide +kernel
theorem dX10_addTo_17 : decode cX10_addTo 17 = .ok (.iastore, 1) := by decide +kernel
theorem dX10_addTo_18 : decode cX10_addTo 18 = .ok (.return_, 1) := by decide +kernel
theorem dX10_note_0 : decode cX10_note 0 = .ok (.bipush 39, 2) := by decide +kernel
theorem dX10_note_2 : decode cX10_note 2 = .ok (.istore 4, 2) := by decide +kernel
theorem dX10_note_4 : decode cX10_note 4 = .ok (.iload 4, 2) := by decide +kernel
theorem dX10_note_6 : decode cX10_note 6 = .ok (.iconst 4, 1) := by decide +kernel
theorem dX10_note_7 : decode cX10_note 7 = .ok (.if_icmp .lt 33, 3) := by decide +kernel
theorem dX10_note_10 : decode cX10_note 10 = .ok (.aload_n 0, 1) := by decide +kernel
theorem dX10_note_11 : decode cX10_note 11 = .ok (.getfield 7, 3) := by decide +kernel
theorem dX10_note_14 : decode cX10_note 14 = .ok (.sipush 962, 3) := by decide +kernel
theorem dX10_note_17 : decode cX10_note 17 = .ok (.iload 4, 2) := by decide +kernel
theorem dX10_note_19 : decode cX10_note 19 = .ok (.iadd, 1) := by decide +kernel
theorem dX10_note_20 : decode cX10_note 20 = .ok (.aload_n 0, 1) := by decide +kernel
theorem dX10_note_21 : decode cX10_note 21 = .ok (.getfield 7, 3) := by decide +kernel
theorem dX10_note_24 : decode cX10_note 24 = .ok (.sipush 962, 3) := by decide +kernel
theorem dX10_note_27 : decode cX10_note 27 = .ok (.iload 4, 2) := by decide +kernel
theorem dX10_note_29 : decode cX10_note 29 = .ok (.iadd, 1) := by decide +kernel
theorem dX10_note_30 : decode cX10_note 30 = .ok (.iconst 4, 1) := by decide +kernel
theorem dX10_note_31 : decode cX10_note 31 = .ok (.isub, 1) := by decide +kernel
theorem dX10_note_32 : decode cX10_note 32 = .ok (.iaload, 1) := by decide +kernel
theorem dX10_note_33 : decode cX10_note 33 = .ok (.iastore, 1) := by decide +kernel
theorem dX10_note_34 : decode cX10_note 34 = .ok (.iinc 4 (-1), 3) := by decide +kernel
theorem dX10_note_37 : decode cX10_note 37 = .ok (.goto (-33), 3) := by decide +kernel
theorem dX10_note_40 : decode cX10_note 40 = .ok (.aload_n 0, 1) := by decide +kernel
theorem dX10_note_41 : decode cX10_note 41 = .ok (.getfield 7, 3) := by decide +kernel
theorem dX10_note_44 : decode cX10_note 44 = .ok (.sipush 962, 3) := by decide +kernel
theorem dX10_note_47 : decode cX10_note 47 = .ok (.iload_n 1, 1) := by decide +kernel
theorem dX10_note_48 : decode cX10_note 48 = .ok (.iastore, 1) := by decide +kernel
theorem dX10_note_49 : decode cX10_note 49 = .ok (.aload_n 0, 1) := by decide +kernel
theorem dX10_note_50 : decode cX10_note 50 = .ok (.getfield 7, 3) := by decide +kernel
theorem dX10_note_53 : decode cX10_note 53 = .ok (.sipush 963, 3) := by decide +kernel
theorem dX10_note_56 : decode cX10_note 56 = .ok (.iload_n 2, 1) := by decide +kernel
theorem dX10_note_57 : decode cX10_note 57 = .ok (.iastore, 1) := by decide +kernel
theorem dX10_note_58 : decode cX10_note 58 = .ok (.aload_n 0, 1) := by decide +kernel
theorem dX10_note_59 : decode cX10_note 59 = .ok (.getfield 7, 3) := by decide +kernel
theorem dX10_note_62 : decode cX10_note 62 = .ok (.sipush 964, 3) := by decide +kernel
theorem dX10_note_65 : decode cX10_note 65 = .ok (.iload_n 3, 1) := by decide +kernel
theorem dX10_note_66 : decode cX10_note 66 = .ok (.iastore, 1) := by decide +kernel
theorem dX10_note_67 : decode cX10_note 67 = .ok (.aload_n 0, 1) := by decide +kernel
theorem dX10_note_68 : decode cX10_note 68 = .ok (.getfield 7, 3) := by decide +kernel
theorem dX10_note_71 : decode cX10_note 71 = .ok (.sipush 965, 3) := by decide +kernel
theorem dX10_note_74 : decode cX10_note 74 = .ok (.aload_n 0, 1) := by decide +kernel
theorem dX10_note_75 : decode cX10_note 75 = .ok (.getfield 7, 3) := by decide +kernel
theorem dX10_note_78 : decode cX10_note 78 = .ok (.iconst 0, 1) := by decide +kernel
theorem dX10_note_79 : decode cX10_note 79 = .ok (.iaload, 1) := by decide +kernel
theorem dX10_note_80 : decode cX10_note 80 = .ok (.iastore, 1) := by decide +kernel
theorem dX10_note_81 : decode cX10_note 81 = .ok (.aload_n 0, 1) := by decide +kernel
theorem dX10_note_82 : decode cX10_note 82 = .ok (.getfield 7, 3) := by decide +kernel
theorem dX10_note_85 : decode cX10_note 85 = .ok (.bipush 9, 2) := by decide +kernel
theorem dX10_note_87 : decode cX10_note 87 = .ok (.dup2, 1) := by decide +kernel
theorem dX10_note_88 : decode cX10_note 88 = .ok (.iaload, 1) := by decide +kernel
theorem dX10_note_89 : decode cX10_note 89 = .ok (.aload_n 0, 1) := by decide +kernel
theorem dX10_note_90 : decode cX10_note 90 = .ok (.getfield 7, 3) := by decide +kernel
theorem dX10_note_93 : decode cX10_note 93 = .ok (.bipush 9, 2) := by decide +kernel
theorem dX10_note_95 : decode cX10_note 95 = .ok (.iaload, 1) := by decide +kernel
theorem dX10_note_96 : decode cX10_note 96 = .ok (.bipush 10, 2) := by decide +kernel
theorem dX10_note_98 : decode cX10_note 98 = .ok (.if_icmp .ge 7, 3) := by decide +kernel
theorem dX10_note_101 : decode cX10_note 101 = .ok (.iconst 1, 1) := by decide +kernel
theorem dX10_note_102 : decode cX10_note 102 = .ok (.goto 4, 3) := by decide +kernel
theorem dX10_note_105 : decode cX10_note 105 = .ok (.iconst 0, 1) := by decide +kernel
theorem dX10_note_106 : decode cX10_note 106 = .ok (.iadd, 1) := by decide +kernel
theorem dX10_note_107 : decode cX10_note 107 = .ok (.iastore, 1) := by decide +kernel
theorem dX10_note_108 : decode cX10_note 108 = .ok (.return_, 1) := by decide +kernel
set_option maxRecDepth 20000 in
theorem ggX10_addGood_X10_in : GoodIn wsX10_addGood wsX10_in := goodIn_r _ [5] (by decide +kernel) (by decide +kernel)
set_option maxRecDepth 20000 in
theorem gX10_addGood_X10_in : GoodIn wsX10_addGood (va_wsS RX10 56 yX10_in wsX10_in) := goodIn_app (goodIn_of _ (by decide +kernel)) ggX10_addGood_X10_in
set_option maxRecDepth 20000 in
theorem ggX10_addGood_X10_record : GoodIn wsX10_addGood wsX10_record := goodIn_r _ [9, 10, 11, 1, 12, 13, 14, 15, 16, 17, 18, 19, 20, 21, 22, 23, 24, 25, 26, 27, 28, 29, 30] (by decide +kernel) (by decide +kernel)
set_option maxRecDepth 20000 in
theorem gX10_addGood_X10_record : GoodIn wsX10_addGood (wsV RX10 53 RX10 yX10_record wsX10_record) := goodIn_app (goodIn_of _ (by decide +kernel)) ggX10_addGood_X10_record
theorem dX10_addGood_0 : decode cX10_addGood 0 = .ok (.iload_n 1, 1) := by decide +kernel
theorem dX10_addGood_1 : decode cX10_addGood 1 = .ok (.iconst 1, 1) := by decide +kernel
theorem dX10_addGood_2 : decode cX10_addGood 2 = .ok (.sipush 9999, 3) := by decide +kernel
theorem dX10_addGood_5 : decode cX10_addGood 5 = .ok (.invokestatic 56, 3) := by decide +kernel
theorem dX10_addGood_8 : decode cX10_addGood 8 = .ok (.ifCond .eq 13, 3) := by decide +kernel
theorem dX10_addGood_11 : decode cX10_addGood 11 = .ok (.iload_n 2, 1) := by decide +kernel
theorem dX10_addGood_12 : decode cX10_addGood 12 = .ok (.iconst 1, 1) := by decide +kernel
theorem dX10_addGood_13 : decode cX10_addGood 13 = .ok (.bipush 60, 2) := by decide +kernel
theorem dX10_addGood_15 : decode cX10_addGood 15 = .ok (.invokestatic 56, 3) := by decide +kernel
theorem dX10_addGood_18 : decode cX10_addGood 18 = .ok (.ifCond .ne 6, 3) := by decide +kernel
theorem dX10_addGood_21 : decode cX10_addGood 21 = .ok (.bipush (-2), 2) := by decide +kernel
theorem dX10_addGood_23 : decode cX10_addGood 23 = .ok (.ireturn, 1) := by decide +kernel
theorem dX10_addGood_24 : decode cX10_addGood 24 = .ok (.aload_n 0, 1) := by decide +kernel
theorem dX10_addGood_25 : decode cX10_addGood 25 = .ok (.getfield 7, 3) := by decide +kernel
theorem dX10_addGood_28 : decode cX10_addGood 28 = .ok (.iconst 1, 1) := by decide +kernel
theorem dX10_addGood_29 : decode cX10_addGood 29 = .ok (.iaload, 1) := by decide +kernel
theorem dX10_addGood_30 : decode cX10_addGood 30 = .ok (.bipush 12, 2) := by decide +kernel
theorem dX10_addGood_32 : decode cX10_addGood 32 = .ok (.if_icmp .ne 6, 3) := by decide +kernel
theorem dX10_addGood_35 : decode cX10_addGood 35 = .ok (.bipush (-3), 2) := by decide +kernel
theorem dX10_addGood_37 : decode cX10_addGood 37 = .ok (.ireturn, 1) := by decide +kernel
theorem dX10_addGood_38 : decode cX10_addGood 38 = .ok (.aload_n 0, 1) := by decide +kernel
theorem dX10_addGood_39 : decode cX10_addGood 39 = .ok (.invokevirtual 53, 3) := by decide +kernel
theorem dX10_addGood_42 : decode cX10_addGood 42 = .ok (.aload_n 0, 1) := by decide +kernel
theorem dX10_addGood_43 : decode cX10_addGood 43 = .ok (.getfield 7, 3) := by decide +kernel
theorem dX10_addGood_46 : decode cX10_addGood 46 = .ok (.iconst 1, 1) := by decide +kernel
theorem dX10_addGood_47 : decode cX10_addGood 47 = .ok (.iaload, 1) := by decide +kernel
theorem dX10_addGood_48 : decode cX10_addGood 48 = .ok (.istore_n 3, 1) := by decide +kernel
theorem dX10_addGood_49 : decode cX10_addGood 49 = .ok (.aload_n 0, 1) := by decide +kernel
theorem dX10_addGood_50 : decode cX10_addGood 50 = .ok (.getfield 7, 3) := by decide +kernel
theorem dX10_addGood_53 : decode cX10_addGood 53 = .ok (.iconst 1, 1) := by decide +kernel
theorem dX10_addGood_54 : decode cX10_addGood 54 = .ok (.dup2, 1) := by decide +kernel
theorem dX10_addGood_55 : decode cX10_addGood 55 = .ok (.iaload, 1) := by decide +kernel
theorem dX10_addGood_56 : decode cX10_addGood 56 = .ok (.iconst 1, 1) := by decide +kernel
theorem dX10_addGood_57 : decode cX10_addGood 57 = .ok (.iadd, 1) := by decide +kernel
theorem dX10_addGood_58 : decode cX10_addGood 58 = .ok (.iastore, 1) := by decide +kernel
theorem dX10_addGood_59 : decode cX10_addGood 59 = .ok (.aload_n 0, 1) := by decide +kernel
theorem dX10_addGood_60 : decode cX10_addGood 60 = .ok (.getfield 7, 3) := by decide +kernel
theorem dX10_addGood_63 : decode cX10_addGood 63 = .ok (.bipush 10, 2) := by decide +kernel
theorem dX10_addGood_65 : decode cX10_addGood 65 = .ok (.bipush 7, 2) := by decide +kernel
theorem dX10_addGood_67 : decode cX10_addGood 67 = .ok (.iload_n 3, 1) := by decide +kernel
theorem dX10_addGood_68 : decode cX10_addGood 68 = .ok (.imul, 1) := by decide +kernel
theorem dX10_addGood_69 : decode cX10_addGood 69 = .ok (.iadd, 1) := by decide +kernel
theorem dX10_addGood_70 : decode cX10_addGood 70 = .ok (.iconst 0, 1) := by decide +kernel
theorem dX10_addGood_71 : decode cX10_addGood 71 = .ok (.iadd, 1) := by decide +kernel
theorem dX10_addGood_72 : decode cX10_addGood 72 = .ok (.iload_n 1, 1) := by decide +kernel
theorem dX10_addGood_73 : decode cX10_addGood 73 = .ok (.iastore, 1) := by decide +kernel
theorem dX10_addGood_74 : decode cX10_addGood 74 = .ok (.aload_n 0, 1) := by decide +kernel
theorem dX10_addGood_75 : decode cX10_addGood 75 = .ok (.getfield 7, 3) := by decide +kernel
theorem dX10_addGood_78 : decode cX10_addGood 78 = .ok (.bipush 10, 2) := by decide +kernel
theorem dX10_addGood_80 : decode cX10_addGood 80 = .ok (.bipush 7, 2) := by decide +kernel
theorem dX10_addGood_82 : decode cX10_addGood 82 = .ok (.iload_n 3, 1) := by decide +kernel
theorem dX10_addGood_83 : decode cX10_addGood 83 = .ok (.imul, 1) := by decide +kernel
theorem dX10_addGood_84 : decode cX10_addGood 84 = .ok (.iadd, 1) := by decide +kernel
theorem dX10_addGood_85 : decode cX10_addGood 85 = .ok (.iconst 1, 1) := by decide +kernel
theorem dX10_addGood_86 : decode cX10_addGood 86 = .ok (.iadd, 1) := by decide +kernel
theorem dX10_addGood_87 : decode cX10_addGood 87 = .ok (.iload_n 2, 1) := by decide +kernel
theorem dX10_addGood_88 : decode cX10_addGood 88 = .ok (.iastore, 1) := by decide +kernel
theorem dX10_addGood_89 : decode cX10_addGood 89 = .ok (.iload_n 3, 1) := by decide +kernel
theorem dX10_addGood_90 : decode cX10_addGood 90 = .ok (.ireturn, 1) := by decide +kernel
set_option maxRecDepth 20000 in
theorem ggX10_setPrice_X10_isGood : GoodIn wsX10_setPrice wsX10_isGood := goodIn_r _ [6, 1, 20, 21, 22, 23, 24, 25, 26, 27, 28, 29, 30, 31, 32, 33, 34, 35, 36, 37, 38] (by decide +kernel) (by decide +kernel)
set_option maxRecDepth 20000 in
theorem gX10_setPrice_X10_isGood : GoodIn wsX10_setPrice (wsV RX10 60 RX10 yX10_isGood wsX10_isGood) := goodIn_app (goodIn_of _ (by decide +kernel)) ggX10_setPrice_X10_isGood
set_option maxRecDepth 20000 in
theorem ggX10_setPrice_X10_in : GoodIn wsX10_setPrice wsX10_in := goodIn_r _ [9] (by decide +kernel) (by decide +kernel)
set_option maxRecDepth 20000 in
theorem gX10_setPrice_X10_in : GoodIn wsX10_setPrice (va_wsS RX10 56 yX10_in wsX10_in) := goodIn_app (goodIn_of _ (by decide +kernel)) ggX10_setPrice_X10_in
set_option maxRecDepth 20000 in
theorem ggX10_setPrice_X10_ofGood : GoodIn wsX10_setPrice wsX10_ofGood := goodIn_r _ [13, 1, 20, 21, 22, 23, 24, 25, 26, 27, 28, 29, 30, 31, 32, 33, 34, 35, 36, 37, 38] (by decide +kernel) (by decide +kernel)
set_option maxRecDepth 20000 in
theorem gX10_setPrice_X10_ofGood : GoodIn wsX10_setPrice (wsV RX10 64 RX10 yX10_ofGood wsX10_ofGood) := goodIn_app (goodIn_of _ (by decide +kernel)) ggX10_setPrice_X10_ofGood
set_option maxRecDepth 20000 in
theorem ggX10_setPrice_X10_record : GoodIn wsX10_setPrice wsX10_record := goodIn_r _ [17, 18, 19, 1, 20, 21, 22, 23, 24, 25, 26, 27, 28, 29, 30, 31, 32, 33, 34, 35, 36, 37, 38] (by decide +kernel) (by decide +kernel)
set_option maxRecDepth 20000 in
theorem gX10_setPrice_X10_record : GoodIn wsX10_setPrice (wsV RX10 53 RX10 yX10_record wsX10_record) := goodIn_app (goodIn_of _ (by decide +kernel)) ggX10_setPrice_X10_record
theorem dX10_setPrice_0 : decode cX10_setPrice 0 = .ok (.aload_n 0, 1) := by decide +kernel
theorem dX10_setPrice_1 : decode cX10_setPrice 1 = .ok (.iload_n 1, 1) := by decide +kernel
theorem dX10_setPrice_2 : decode cX10_setPrice 2 = .ok (.invokevirtual 60, 3) := by decide +kernel
theorem dX10_setPrice_5 : decode cX10_setPrice 5 = .ok (.ifCond .ne 5, 3) := by decide +kernel
theorem dX10_setPrice_8 : decode cX10_setPrice 8 = .ok (.iconst (-1), 1) := by decide +kernel
theorem dX10_setPrice_9 : decode cX10_setPrice 9 = .ok (.ireturn, 1) := by decide +kernel
theorem dX10_setPrice_10 : decode cX10_setPrice 10 = .ok (.iload_n 2, 1) := by decide +kernel
theorem dX10_setPrice_11 : decode cX10_setPrice 11 = .ok (.iconst 1, 1) := by decide +kernel
theorem dX10_setPrice_12 : decode cX10_setPrice 12 = .ok (.sipush 9999, 3) := by decide +kernel
theorem dX10_setPrice_15 : decode cX10_setPrice 15 = .ok (.invokestatic 56, 3) := by decide +kernel
theorem dX10_setPrice_18 : decode cX10_setPrice 18 = .ok (.ifCond .ne 6, 3) := by decide +kernel
theorem dX10_setPrice_21 : decode cX10_setPrice 21 = .ok (.bipush (-2), 2) := by decide +kernel
theorem dX10_setPrice_23 : decode cX10_setPrice 23 = .ok (.ireturn, 1) := by decide +kernel
theorem dX10_setPrice_24 : decode cX10_setPrice 24 = .ok (.aload_n 0, 1) := by decide +kernel
theorem dX10_setPrice_25 : decode cX10_setPrice 25 = .ok (.iload_n 1, 1) := by decide +kernel
theorem dX10_setPrice_26 : decode cX10_setPrice 26 = .ok (.iconst 0, 1) := by decide +kernel
theorem dX10_setPrice_27 : decode cX10_setPrice 27 = .ok (.invokevirtual 64, 3) := by decide +kernel
theorem dX10_setPrice_30 : decode cX10_setPrice 30 = .ok (.istore_n 3, 1) := by decide +kernel
theorem dX10_setPrice_31 : decode cX10_setPrice 31 = .ok (.iload_n 3, 1) := by decide +kernel
theorem dX10_setPrice_32 : decode cX10_setPrice 32 = .ok (.iload_n 2, 1) := by decide +kernel
theorem dX10_setPrice_33 : decode cX10_setPrice 33 = .ok (.if_icmp .ne 6, 3) := by decide +kernel
theorem dX10_setPrice_36 : decode cX10_setPrice 36 = .ok (.bipush (-5), 2) := by decide +kernel
theorem dX10_setPrice_38 : decode cX10_setPrice 38 = .ok (.ireturn, 1) := by decide +kernel
theorem dX10_setPrice_39 : decode cX10_setPrice 39 = .ok (.aload_n 0, 1) := by decide +kernel
theorem dX10_setPrice_40 : decode cX10_setPrice 40 = .ok (.invokevirtual 53, 3) := by decide +kernel
theorem dX10_setPrice_43 : decode cX10_setPrice 43 = .ok (.aload_n 0, 1) := by decide +kernel
theorem dX10_setPrice_44 : decode cX10_setPrice 44 = .ok (.getfield 7, 3) := by decide +kernel
theorem dX10_setPrice_47 : decode cX10_setPrice 47 = .ok (.bipush 10, 2) := by decide +kernel
theorem dX10_setPrice_49 : decode cX10_setPrice 49 = .ok (.bipush 7, 2) := by decide +kernel
theorem dX10_setPrice_51 : decode cX10_setPrice 51 = .ok (.iload_n 1, 1) := by decide +kernel
theorem dX10_setPrice_52 : decode cX10_setPrice 52 = .ok (.imul, 1) := by decide +kernel
theorem dX10_setPrice_53 : decode cX10_setPrice 53 = .ok (.iadd, 1) := by decide +kernel
theorem dX10_setPrice_54 : decode cX10_setPrice 54 = .ok (.iconst 0, 1) := by decide +kernel
theorem dX10_setPrice_55 : decode cX10_setPrice 55 = .ok (.iadd, 1) := by decide +kernel
theorem dX10_setPrice_56 : decode cX10_setPrice 56 = .ok (.iload_n 2, 1) := by decide +kernel
theorem dX10_setPrice_57 : decode cX10_setPrice 57 = .ok (.iastore, 1) := by decide +kernel
theorem dX10_setPrice_58 : decode cX10_setPrice 58 = .ok (.iload_n 3, 1) := by decide +kernel
theorem dX10_setPrice_59 : decode cX10_setPrice 59 = .ok (.ireturn, 1) := by decide +kernel
set_option maxRecDepth 20000 in
theorem ggX10_addSubstitute_X10_isGood : GoodIn wsX10_addSubstitute wsX10_isGood := goodIn_r _ [6, 1, 20, 21, 22, 23, 24, 25, 26, 27, 28, 29, 30, 31, 32, 33, 34, 35, 36, 37, 38] (by decide +kernel) (by decide +kernel)
set_option maxRecDepth 20000 in
theorem gX10_addSubstitute_X10_isGood : GoodIn wsX10_addSubstitute (wsV RX10 60 RX10 yX10_isGood wsX10_isGood) := goodIn_app (goodIn_of _ (by decide +kernel)) ggX10_addSubstitute_X10_isGood
set_option maxRecDepth 20000 in
theorem ggX10_addSubstitute_X10_ofGood : GoodIn wsX10_addSubstitute wsX10_ofGood := goodIn_r _ [10, 1, 20, 21, 22, 23, 24, 25, 26, 27, 28, 29, 30, 31, 32, 33, 34, 35, 36, 37, 38] (by decide +kernel) (by decide +kernel)
set_option maxRecDepth 20000 in
theorem gX10_addSubstitute_X10_ofGood : GoodIn wsX10_addSubstitute (wsV RX10 64 RX10 yX10_ofGood wsX10_ofGood) := goodIn_app (goodIn_of _ (by decide +kernel)) ggX10_addSubstitute_X10_ofGood
set_option maxRecDepth 20000 in
theorem ggX10_addSubstitute_X10_in : GoodIn wsX10_addSubstitute wsX10_in := goodIn_r _ [13] (by decide +kernel) (by decide +kernel)
set_option maxRecDepth 20000 in
theorem gX10_addSubstitute_X10_in : GoodIn wsX10_addSubstitute (va_wsS RX10 56 yX10_in wsX10_in) := goodIn_app (goodIn_of _ (by decide +kernel)) ggX10_addSubstitute_X10_in
set_option maxRecDepth 20000 in
theorem ggX10_addSubstitute_X10_record : GoodIn wsX10_addSubstitute wsX10_record := goodIn_r _ [17, 18, 19, 1, 20, 21, 22, 23, 24, 25, 26, 27, 28, 29, 30, 31, 32, 33, 34, 35, 36, 37, 38] (by decide +kernel) (by decide +kernel)
set_option maxRecDepth 20000 in
theorem gX10_addSubstitute_X10_record : GoodIn wsX10_addSubstitute (wsV RX10 53 RX10 yX10_record wsX10_record) := goodIn_app (goodIn_of _ (by decide +kernel)) ggX10_addSubstitute_X10_record
theorem dX10_addSubstitute_0 : decode cX10_addSubstitute 0 = .ok (.aload_n 0, 1) := by decide +kernel
theorem dX10_addSubstitute_1 : decode cX10_addSubstitute 1 = .ok (.iload_n 1, 1) := by decide +kernel
theorem dX10_addSubstitute_2 : decode cX10_addSubstitute 2 = .ok (.invokevirtual 60, 3) := by decide +kernel
theorem dX10_addSubstitute_5 : decode cX10_addSubstitute 5 = .ok (.ifCond .eq 11, 3) := by decide +kernel
theorem dX10_addSubstitute_8 : decode cX10_addSubstitute 8 = .ok (.aload_n 0, 1) := by decide +kernel
theorem dX10_addSubstitute_9 : decode cX10_addSubstitute 9 = .ok (.iload_n 2, 1) := by decide +kernel
theorem dX10_addSubstitute_10 : decode cX10_addSubstitute 10 = .ok (.invokevirtual 60, 3) := by decide +kernel
theorem dX10_addSubstitute_13 : decode cX10_addSubstitute 13 = .ok (.ifCond .ne 5, 3) := by decide +kernel
theorem dX10_addSubstitute_16 : decode cX10_addSubstitute 16 = .ok (.iconst (-1), 1) := by decide +kernel
theorem dX10_addSubstitute_17 : decode cX10_addSubstitute 17 = .ok (.ireturn, 1) := by decide +kernel
theorem dX10_addSubstitute_18 : decode cX10_addSubstitute 18 = .ok (.aload_n 0, 1) := by decide +kernel
theorem dX10_addSubstitute_19 : decode cX10_addSubstitute 19 = .ok (.iload_n 1, 1) := by decide +kernel
theorem dX10_addSubstitute_20 : decode cX10_addSubstitute 20 = .ok (.iconst 2, 1) := by decide +kernel
theorem dX10_addSubstitute_21 : decode cX10_addSubstitute 21 = .ok (.invokevirtual 64, 3) := by decide +kernel
theorem dX10_addSubstitute_24 : decode cX10_addSubstitute 24 = .ok (.istore 4, 2) := by decide +kernel
theorem dX10_addSubstitute_26 : decode cX10_addSubstitute 26 = .ok (.iload_n 1, 1) := by decide +kernel
theorem dX10_addSubstitute_27 : decode cX10_addSubstitute 27 = .ok (.iload_n 2, 1) := by decide +kernel
theorem dX10_addSubstitute_28 : decode cX10_addSubstitute 28 = .ok (.if_icmp .eq 13, 3) := by decide +kernel
theorem dX10_addSubstitute_31 : decode cX10_addSubstitute 31 = .ok (.iload_n 3, 1) := by decide +kernel
theorem dX10_addSubstitute_32 : decode cX10_addSubstitute 32 = .ok (.iconst 0, 1) := by decide +kernel
theorem dX10_addSubstitute_33 : decode cX10_addSubstitute 33 = .ok (.iload 4, 2) := by decide +kernel
theorem dX10_addSubstitute_35 : decode cX10_addSubstitute 35 = .ok (.invokestatic 56, 3) := by decide +kernel
theorem dX10_addSubstitute_38 : decode cX10_addSubstitute 38 = .ok (.ifCond .ne 6, 3) := by decide +kernel
theorem dX10_addSubstitute_41 : decode cX10_addSubstitute 41 = .ok (.bipush (-2), 2) := by decide +kernel
theorem dX10_addSubstitute_43 : decode cX10_addSubstitute 43 = .ok (.ireturn, 1) := by decide +kernel
theorem dX10_addSubstitute_44 : decode cX10_addSubstitute 44 = .ok (.bipush 10, 2) := by decide +kernel
theorem dX10_addSubstitute_46 : decode cX10_addSubstitute 46 = .ok (.bipush 7, 2) := by decide +kernel
theorem dX10_addSubstitute_48 : decode cX10_addSubstitute 48 = .ok (.iload_n 1, 1) := by decide +kernel
theorem dX10_addSubstitute_49 : decode cX10_addSubstitute 49 = .ok (.imul, 1) := by decide +kernel
theorem dX10_addSubstitute_50 : decode cX10_addSubstitute 50 = .ok (.iadd, 1) := by decide +kernel
theorem dX10_addSubstitute_51 : decode cX10_addSubstitute 51 = .ok (.iconst 3, 1) := by decide +kernel
theorem dX10_addSubstitute_52 : decode cX10_addSubstitute 52 = .ok (.iadd, 1) := by decide +kernel
theorem dX10_addSubstitute_53 : decode cX10_addSubstitute 53 = .ok (.istore 5, 2) := by decide +kernel
theorem dX10_addSubstitute_55 : decode cX10_addSubstitute 55 = .ok (.iconst 0, 1) := by decide +kernel
theorem dX10_addSubstitute_56 : decode cX10_addSubstitute 56 = .ok (.istore 6, 2) := by decide +kernel
theorem dX10_addSubstitute_58 : decode cX10_addSubstitute 58 = .ok (.iload 6, 2) := by decide +kernel
theorem dX10_addSubstitute_60 : decode cX10_addSubstitute 60 = .ok (.iload 4, 2) := by decide +kernel
theorem dX10_addSubstitute_62 : decode cX10_addSubstitute 62 = .ok (.if_icmp .ge 26, 3) := by decide +kernel
theorem dX10_addSubstitute_65 : decode cX10_addSubstitute 65 = .ok (.aload_n 0, 1) := by decide +kernel
theorem dX10_addSubstitute_66 : decode cX10_addSubstitute 66 = .ok (.getfield 7, 3) := by decide +kernel
theorem dX10_addSubstitute_69 : decode cX10_addSubstitute 69 = .ok (.iload 5, 2) := by decide +kernel
theorem dX10_addSubstitute_71 : decode cX10_addSubstitute 71 = .ok (.iload 6, 2) := by decide +kernel
theorem dX10_addSubstitute_73 : decode cX10_addSubstitute 73 = .ok (.iadd, 1) := by decide +kernel
theorem dX10_addSubstitute_74 : decode cX10_addSubstitute 74 = .ok (.iaload, 1) := by decide +kernel
theorem dX10_addSubstitute_75 : decode cX10_addSubstitute 75 = .ok (.iload_n 2, 1) := by decide +kernel
theorem dX10_addSubstitute_76 : decode cX10_addSubstitute 76 = .ok (.if_icmp .ne 6, 3) := by decide +kernel
theorem dX10_addSubstitute_79 : decode cX10_addSubstitute 79 = .ok (.bipush (-4), 2) := by decide +kernel
theorem dX10_addSubstitute_81 : decode cX10_addSubstitute 81 = .ok (.ireturn, 1) := by decide +kernel
theorem dX10_addSubstitute_82 : decode cX10_addSubstitute 82 = .ok (.iinc 6 1, 3) := by decide +kernel
theorem dX10_addSubstitute_85 : decode cX10_addSubstitute 85 = .ok (.goto (-27), 3) := by decide +kernel
theorem dX10_addSubstitute_88 : decode cX10_addSubstitute 88 = .ok (.iload 4, 2) := by decide +kernel
theorem dX10_addSubstitute_90 : decode cX10_addSubstitute 90 = .ok (.iconst 4, 1) := by decide +kernel
theorem dX10_addSubstitute_91 : decode cX10_addSubstitute 91 = .ok (.if_icmp .ne 6, 3) := by decide +kernel
theorem dX10_addSubstitute_94 : decode cX10_addSubstitute 94 = .ok (.bipush (-3), 2) := by decide +kernel
theorem dX10_addSubstitute_96 : decode cX10_addSubstitute 96 = .ok (.ireturn, 1) := by decide +kernel
theorem dX10_addSubstitute_97 : decode cX10_addSubstitute 97 = .ok (.aload_n 0, 1) := by decide +kernel
theorem dX10_addSubstitute_98 : decode cX10_addSubstitute 98 = .ok (.invokevirtual 53, 3) := by decide +kernel
theorem dX10_addSubstitute_101 : decode cX10_addSubstitute 101 = .ok (.iload 4, 2) := by decide +kernel
theorem dX10_addSubstitute_103 : decode cX10_addSubstitute 103 = .ok (.istore 6, 2) := by decide +kernel
theorem dX10_addSubstitute_105 : decode cX10_addSubstitute 105 = .ok (.iload 6, 2) := by decide +kernel
theorem dX10_addSubstitute_107 : decode cX10_addSubstitute 107 = .ok (.iload_n 3, 1) := by decide +kernel
theorem dX10_addSubstitute_108 : decode cX10_addSubstitute 108 = .ok (.if_icmp .le 31, 3) := by decide +kernel
theorem dX10_addSubstitute_111 : decode cX10_addSubstitute 111 = .ok (.aload_n 0, 1) := by decide +kernel
theorem dX10_addSubstitute_112 : decode cX10_addSubstitute 112 = .ok (.getfield 7, 3) := by decide +kernel
theorem dX10_addSubstitute_115 : decode cX10_addSubstitute 115 = .ok (.iload 5, 2) := by decide +kernel
theorem dX10_addSubstitute_117 : decode cX10_addSubstitute 117 = .ok (.iload 6, 2) := by decide +kernel
theorem dX10_addSubstitute_119 : decode cX10_addSubstitute 119 = .ok (.iadd, 1) := by decide +kernel
theorem dX10_addSubstitute_120 : decode cX10_addSubstitute 120 = .ok (.aload_n 0, 1) := by decide +kernel
theorem dX10_addSubstitute_121 : decode cX10_addSubstitute 121 = .ok (.getfield 7, 3) := by decide +kernel
theorem dX10_addSubstitute_124 : decode cX10_addSubstitute 124 = .ok (.iload 5, 2) := by decide +kernel
theorem dX10_addSubstitute_126 : decode cX10_addSubstitute 126 = .ok (.iload 6, 2) := by decide +kernel
theorem dX10_addSubstitute_128 : decode cX10_addSubstitute 128 = .ok (.iadd, 1) := by decide +kernel
theorem dX10_addSubstitute_129 : decode cX10_addSubstitute 129 = .ok (.iconst 1, 1) := by decide +kernel
theorem dX10_addSubstitute_130 : decode cX10_addSubstitute 130 = .ok (.isub, 1) := by decide +kernel
theorem dX10_addSubstitute_131 : decode cX10_addSubstitute 131 = .ok (.iaload, 1) := by decide +kernel
theorem dX10_addSubstitute_132 : decode cX10_addSubstitute 132 = .ok (.iastore, 1) := by decide +kernel
theorem dX10_addSubstitute_133 : decode cX10_addSubstitute 133 = .ok (.iinc 6 (-1), 3) := by decide +kernel
theorem dX10_addSubstitute_136 : decode cX10_addSubstitute 136 = .ok (.goto (-31), 3) := by decide +kernel
theorem dX10_addSubstitute_139 : decode cX10_addSubstitute 139 = .ok (.aload_n 0, 1) := by decide +kernel
theorem dX10_addSubstitute_140 : decode cX10_addSubstitute 140 = .ok (.getfield 7, 3) := by decide +kernel
theorem dX10_addSubstitute_143 : decode cX10_addSubstitute 143 = .ok (.iload 5, 2) := by decide +kernel
theorem dX10_addSubstitute_145 : decode cX10_addSubstitute 145 = .ok (.iload_n 3, 1) := by decide +kernel
theorem dX10_addSubstitute_146 : decode cX10_addSubstitute 146 = .ok (.iadd, 1) := by decide +kernel
theorem dX10_addSubstitute_147 : decode cX10_addSubstitute 147 = .ok (.iload_n 2, 1) := by decide +kernel
theorem dX10_addSubstitute_148 : decode cX10_addSubstitute 148 = .ok (.iastore, 1) := by decide +kernel
theorem dX10_addSubstitute_149 : decode cX10_addSubstitute 149 = .ok (.aload_n 0, 1) := by decide +kernel
theorem dX10_addSubstitute_150 : decode cX10_addSubstitute 150 = .ok (.getfield 7, 3) := by decide +kernel
theorem dX10_addSubstitute_153 : decode cX10_addSubstitute 153 = .ok (.bipush 10, 2) := by decide +kernel
theorem dX10_addSubstitute_155 : decode cX10_addSubstitute 155 = .ok (.bipush 7, 2) := by decide +kernel
theorem dX10_addSubstitute_157 : decode cX10_addSubstitute 157 = .ok (.iload_n 1, 1) := by decide +kernel
theorem dX10_addSubstitute_158 : decode cX10_addSubstitute 158 = .ok (.imul, 1) := by decide +kernel
theorem dX10_addSubstitute_159 : decode cX10_addSubstitute 159 = .ok (.iadd, 1) := by decide +kernel
theorem dX10_addSubstitute_160 : decode cX10_addSubstitute 160 = .ok (.iconst 2, 1) := by decide +kernel
theorem dX10_addSubstitute_161 : decode cX10_addSubstitute 161 = .ok (.iadd, 1) := by decide +kernel
theorem dX10_addSubstitute_162 : decode cX10_addSubstitute 162 = .ok (.dup2, 1) := by decide +kernel
theorem dX10_addSubstitute_163 : decode cX10_addSubstitute 163 = .ok (.iaload, 1) := by decide +kernel
theorem dX10_addSubstitute_164 : decode cX10_addSubstitute 164 = .ok (.iconst 1, 1) := by decide +kernel
theorem dX10_addSubstitute_165 : decode cX10_addSubstitute 165 = .ok (.iadd, 1) := by decide +kernel
theorem dX10_addSubstitute_166 : decode cX10_addSubstitute 166 = .ok (.iastore, 1) := by decide +kernel
theorem dX10_addSubstitute_167 : decode cX10_addSubstitute 167 = .ok (.iload 4, 2) := by decide +kernel
theorem dX10_addSubstitute_169 : decode cX10_addSubstitute 169 = .ok (.iconst 1, 1) := by decide +kernel
theorem dX10_addSubstitute_170 : decode cX10_addSubstitute 170 = .ok (.iadd, 1) := by decide +kernel
theorem dX10_addSubstitute_171 : decode cX10_addSubstitute 171 = .ok (.ireturn, 1) := by decide +kernel
set_option maxRecDepth 20000 in
theorem ggX10_removeSubstitute_X10_isGood : GoodIn wsX10_removeSubstitute wsX10_isGood := goodIn_r _ [6, 1, 17, 18, 19, 20, 21, 22, 23, 24, 25, 26, 27, 28, 29, 30, 31, 32, 33, 34, 35] (by decide +kernel) (by decide +kernel)
set_option maxRecDepth 20000 in
theorem gX10_removeSubstitute_X10_isGood : GoodIn wsX10_removeSubstitute (wsV RX10 60 RX10 yX10_isGood wsX10_isGood) := goodIn_app (goodIn_of _ (by decide +kernel)) ggX10_removeSubstitute_X10_isGood
set_option maxRecDepth 20000 in
theorem ggX10_removeSubstitute_X10_ofGood : GoodIn wsX10_removeSubstitute wsX10_ofGood := goodIn_r _ [10, 1, 17, 18, 19, 20, 21, 22, 23, 24, 25, 26, 27, 28, 29, 30, 31, 32, 33, 34, 35] (by decide +kernel) (by decide +kernel)
set_option maxRecDepth 20000 in
theorem gX10_removeSubstitute_X10_ofGood : GoodIn wsX10_removeSubstitute (wsV RX10 64 RX10 yX10_ofGood wsX10_ofGood) := goodIn_app (goodIn_of _ (by decide +kernel)) ggX10_removeSubstitute_X10_ofGood
set_option maxRecDepth 20000 in
theorem ggX10_removeSubstitute_X10_record : GoodIn wsX10_removeSubstitute wsX10_record := goodIn_r _ [14, 15, 16, 1, 17, 18, 19, 20, 21, 22, 23, 24, 25, 26, 27, 28, 29, 30, 31, 32, 33, 34, 35] (by decide +kernel) (by decide +kernel)
set_option maxRecDepth 20000 in
theorem gX10_removeSubstitute_X10_record : GoodIn wsX10_removeSubstitute (wsV RX10 53 RX10 yX10_record wsX10_record) := goodIn_app (goodIn_of _ (by decide +kernel)) ggX10_removeSubstitute_X10_record
theorem dX10_removeSubstitute_0 : decode cX10_removeSubstitute 0 = .ok (.aload_n 0, 1) := by decide +kernel
theorem dX10_removeSubstitute_1 : decode cX10_removeSubstitute 1 = .ok (.iload_n 1, 1) := by decide +kernel
theorem dX10_removeSubstitute_2 : decode cX10_removeSubstitute 2 = .ok (.invokevirtual 60, 3) := by decide +kernel
theorem dX10_removeSubstitute_5 : decode cX10_removeSubstitute 5 = .ok (.ifCond .ne 5, 3) := by decide +kernel
theorem dX10_removeSubstitute_8 : decode cX10_removeSubstitute 8 = .ok (.iconst (-1), 1) := by decide +kernel
theorem dX10_removeSubstitute_9 : decode cX10_removeSubstitute 9 = .ok (.ireturn, 1) := by decide +kernel
theorem dX10_removeSubstitute_10 : decode cX10_removeSubstitute 10 = .ok (.iload_n 2, 1) := by decide +kernel
theorem dX10_removeSubstitute_11 : decode cX10_removeSubstitute 11 = .ok (.ifCond .ge 6, 3) := by decide +kernel
theorem dX10_removeSubstitute_14 : decode cX10_removeSubstitute 14 = .ok (.bipush (-2), 2) := by decide +kernel
theorem dX10_removeSubstitute_16 : decode cX10_removeSubstitute 16 = .ok (.ireturn, 1) := by decide +kernel
theorem dX10_removeSubstitute_17 : decode cX10_removeSubstitute 17 = .ok (.aload_n 0, 1) := by decide +kernel
theorem dX10_removeSubstitute_18 : decode cX10_removeSubstitute 18 = .ok (.iload_n 1, 1) := by decide +kernel
theorem dX10_removeSubstitute_19 : decode cX10_removeSubstitute 19 = .ok (.iconst 2, 1) := by decide +kernel
theorem dX10_removeSubstitute_20 : decode cX10_removeSubstitute 20 = .ok (.invokevirtual 64, 3) := by decide +kernel
theorem dX10_removeSubstitute_23 : decode cX10_removeSubstitute 23 = .ok (.istore_n 3, 1) := by decide +kernel
theorem dX10_removeSubstitute_24 : decode cX10_removeSubstitute 24 = .ok (.iload_n 2, 1) := by decide +kernel
theorem dX10_removeSubstitute_25 : decode cX10_removeSubstitute 25 = .ok (.iload_n 3, 1) := by decide +kernel
theorem dX10_removeSubstitute_26 : decode cX10_removeSubstitute 26 = .ok (.if_icmp .lt 6, 3) := by decide +kernel
theorem dX10_removeSubstitute_29 : decode cX10_removeSubstitute 29 = .ok (.bipush (-5), 2) := by decide +kernel
theorem dX10_removeSubstitute_31 : decode cX10_removeSubstitute 31 = .ok (.ireturn, 1) := by decide +kernel
theorem dX10_removeSubstitute_32 : decode cX10_removeSubstitute 32 = .ok (.aload_n 0, 1) := by decide +kernel
theorem dX10_removeSubstitute_33 : decode cX10_removeSubstitute 33 = .ok (.invokevirtual 53, 3) := by decide +kernel
theorem dX10_removeSubstitute_36 : decode cX10_removeSubstitute 36 = .ok (.bipush 10, 2) := by decide +kernel
theorem dX10_removeSubstitute_38 : decode cX10_removeSubstitute 38 = .ok (.bipush 7, 2) := by decide +kernel
theorem dX10_removeSubstitute_40 : decode cX10_removeSubstitute 40 = .ok (.iload_n 1, 1) := by decide +kernel
theorem dX10_removeSubstitute_41 : decode cX10_removeSubstitute 41 = .ok (.imul, 1) := by decide +kernel
theorem dX10_removeSubstitute_42 : decode cX10_removeSubstitute 42 = .ok (.iadd, 1) := by decide +kernel
theorem dX10_removeSubstitute_43 : decode cX10_removeSubstitute 43 = .ok (.iconst 3, 1) := by decide +kernel
theorem dX10_removeSubstitute_44 : decode cX10_removeSubstitute 44 = .ok (.iadd, 1) := by decide +kernel
theorem dX10_removeSubstitute_45 : decode cX10_removeSubstitute 45 = .ok (.istore 4, 2) := by decide +kernel
theorem dX10_removeSubstitute_47 : decode cX10_removeSubstitute 47 = .ok (.aload_n 0, 1) := by decide +kernel
theorem dX10_removeSubstitute_48 : decode cX10_removeSubstitute 48 = .ok (.getfield 7, 3) := by decide +kernel
theorem dX10_removeSubstitute_51 : decode cX10_removeSubstitute 51 = .ok (.iload 4, 2) := by decide +kernel
theorem dX10_removeSubstitute_53 : decode cX10_removeSubstitute 53 = .ok (.iload_n 2, 1) := by decide +kernel
theorem dX10_removeSubstitute_54 : decode cX10_removeSubstitute 54 = .ok (.iadd, 1) := by decide +kernel
theorem dX10_removeSubstitute_55 : decode cX10_removeSubstitute 55 = .ok (.iaload, 1) := by decide +kernel
theorem dX10_removeSubstitute_56 : decode cX10_removeSubstitute 56 = .ok (.istore 5, 2) := by decide +kernel
theorem dX10_removeSubstitute_58 : decode cX10_removeSubstitute 58 = .ok (.iload_n 2, 1) := by decide +kernel
theorem dX10_removeSubstitute_59 : decode cX10_removeSubstitute 59 = .ok (.istore 6, 2) := by decide +kernel
theorem dX10_removeSubstitute_61 : decode cX10_removeSubstitute 61 = .ok (.iload 6, 2) := by decide +kernel
theorem dX10_removeSubstitute_63 : decode cX10_removeSubstitute 63 = .ok (.iload_n 3, 1) := by decide +kernel
theorem dX10_removeSubstitute_64 : decode cX10_removeSubstitute 64 = .ok (.iconst 1, 1) := by decide +kernel
theorem dX10_removeSubstitute_65 : decode cX10_removeSubstitute 65 = .ok (.isub, 1) := by decide +kernel
theorem dX10_removeSubstitute_66 : decode cX10_removeSubstitute 66 = .ok (.if_icmp .ge 31, 3) := by decide +kernel
theorem dX10_removeSubstitute_69 : decode cX10_removeSubstitute 69 = .ok (.aload_n 0, 1) := by decide +kernel
theorem dX10_removeSubstitute_70 : decode cX10_removeSubstitute 70 = .ok (.getfield 7, 3) := by decide +kernel
theorem dX10_removeSubstitute_73 : decode cX10_removeSubstitute 73 = .ok (.iload 4, 2) := by decide +kernel
theorem dX10_removeSubstitute_75 : decode cX10_removeSubstitute 75 = .ok (.iload 6, 2) := by decide +kernel
theorem dX10_removeSubstitute_77 : decode cX10_removeSubstitute 77 = .ok (.iadd, 1) := by decide +kernel
theorem dX10_removeSubstitute_78 : decode cX10_removeSubstitute 78 = .ok (.aload_n 0, 1) := by decide +kernel
theorem dX10_removeSubstitute_79 : decode cX10_removeSubstitute 79 = .ok (.getfield 7, 3) := by decide +kernel
theorem dX10_removeSubstitute_82 : decode cX10_removeSubstitute 82 = .ok (.iload 4, 2) := by decide +kernel
theorem dX10_removeSubstitute_84 : decode cX10_removeSubstitute 84 = .ok (.iload 6, 2) := by decide +kernel
theorem dX10_removeSubstitute_86 : decode cX10_removeSubstitute 86 = .ok (.iadd, 1) := by decide +kernel
theorem dX10_removeSubstitute_87 : decode cX10_removeSubstitute 87 = .ok (.iconst 1, 1) := by decide +kernel
theorem dX10_removeSubstitute_88 : decode cX10_removeSubstitute 88 = .ok (.iadd, 1) := by decide +kernel
theorem dX10_removeSubstitute_89 : decode cX10_removeSubstitute 89 = .ok (.iaload, 1) := by decide +kernel
theorem dX10_removeSubstitute_90 : decode cX10_removeSubstitute 90 = .ok (.iastore, 1) := by decide +kernel
theorem dX10_removeSubstitute_91 : decode cX10_removeSubstitute 91 = .ok (.iinc 6 1, 3) := by decide +kernel
theorem dX10_removeSubstitute_94 : decode cX10_removeSubstitute 94 = .ok (.goto (-33), 3) := by decide +kernel
theorem dX10_removeSubstitute_97 : decode cX10_removeSubstitute 97 = .ok (.aload_n 0, 1) := by decide +kernel
theorem dX10_removeSubstitute_98 : decode cX10_removeSubstitute 98 = .ok (.getfield 7, 3) := by decide +kernel
theorem dX10_removeSubstitute_101 : decode cX10_removeSubstitute 101 = .ok (.iload 4, 2) := by decide +kernel
theorem dX10_removeSubstitute_103 : decode cX10_removeSubstitute 103 = .ok (.iload_n 3, 1) := by decide +kernel
theorem dX10_removeSubstitute_104 : decode cX10_removeSubstitute 104 = .ok (.iadd, 1) := by decide +kernel
theorem dX10_removeSubstitute_105 : decode cX10_removeSubstitute 105 = .ok (.iconst 1, 1) := by decide +kernel
theorem dX10_removeSubstitute_106 : decode cX10_removeSubstitute 106 = .ok (.isub, 1) := by decide +kernel
theorem dX10_removeSubstitute_107 : decode cX10_removeSubstitute 107 = .ok (.iconst 0, 1) := by decide +kernel
theorem dX10_removeSubstitute_108 : decode cX10_removeSubstitute 108 = .ok (.iastore, 1) := by decide +kernel
theorem dX10_removeSubstitute_109 : decode cX10_removeSubstitute 109 = .ok (.aload_n 0, 1) := by decide +kernel
theorem dX10_removeSubstitute_110 : decode cX10_removeSubstitute 110 = .ok (.getfield 7, 3) := by decide +kernel
theorem dX10_removeSubstitute_113 : decode cX10_removeSubstitute 113 = .ok (.bipush 10, 2) := by decide +kernel
theorem dX10_removeSubstitute_115 : decode cX10_removeSubstitute 115 = .ok (.bipush 7, 2) := by decide +kernel
theorem dX10_removeSubstitute_117 : decode cX10_removeSubstitute 117 = .ok (.iload_n 1, 1) := by decide +kernel
theorem dX10_removeSubstitute_118 : decode cX10_removeSubstitute 118 = .ok (.imul, 1) := by decide +kernel
theorem dX10_removeSubstitute_119 : decode cX10_removeSubstitute 119 = .ok (.iadd, 1) := by decide +kernel
theorem dX10_removeSubstitute_120 : decode cX10_removeSubstitute 120 = .ok (.iconst 2, 1) := by decide +kernel
theorem dX10_removeSubstitute_121 : decode cX10_removeSubstitute 121 = .ok (.iadd, 1) := by decide +kernel
theorem dX10_removeSubstitute_122 : decode cX10_removeSubstitute 122 = .ok (.dup2, 1) := by decide +kernel
theorem dX10_removeSubstitute_123 : decode cX10_removeSubstitute 123 = .ok (.iaload, 1) := by decide +kernel
theorem dX10_removeSubstitute_124 : decode cX10_removeSubstitute 124 = .ok (.iconst 1, 1) := by decide +kernel
theorem dX10_removeSubstitute_125 : decode cX10_removeSubstitute 125 = .ok (.isub, 1) := by decide +kernel
theorem dX10_removeSubstitute_126 : decode cX10_removeSubstitute 126 = .ok (.iastore, 1) := by decide +kernel
theorem dX10_removeSubstitute_127 : decode cX10_removeSubstitute 127 = .ok (.iload 5, 2) := by decide +kernel
theorem dX10_removeSubstitute_129 : decode cX10_removeSubstitute 129 = .ok (.ireturn, 1) := by decide +kernel
set_option maxRecDepth 20000 in
theorem ggX10_setStage_X10_in : GoodIn wsX10_setStage wsX10_in := goodIn_r _ [6] (by decide +kernel) (by decide +kernel)
set_option maxRecDepth 20000 in
theorem gX10_setStage_X10_in : GoodIn wsX10_setStage (va_wsS RX10 56 yX10_in wsX10_in) := goodIn_app (goodIn_of _ (by decide +kernel)) ggX10_setStage_X10_in
set_option maxRecDepth 20000 in
theorem ggX10_setStage_X10_record : GoodIn wsX10_setStage wsX10_record := goodIn_r _ [10, 11, 12, 1, 13, 14, 15, 16, 17, 18, 19, 20, 21, 22, 23, 24, 25, 26, 27, 28, 29, 30, 31] (by decide +kernel) (by decide +kernel)
set_option maxRecDepth 20000 in
theorem gX10_setStage_X10_record : GoodIn wsX10_setStage (wsV RX10 53 RX10 yX10_record wsX10_record) := goodIn_app (goodIn_of _ (by decide +kernel)) ggX10_setStage_X10_record
theorem dX10_setStage_0 : decode cX10_setStage 0 = .ok (.iload_n 1, 1) := by decide +kernel
theorem dX10_setStage_1 : decode cX10_setStage 1 = .ok (.iconst 1, 1) := by decide +kernel
theorem dX10_setStage_2 : decode cX10_setStage 2 = .ok (.iconst 3, 1) := by decide +kernel
theorem dX10_setStage_3 : decode cX10_setStage 3 = .ok (.invokestatic 56, 3) := by decide +kernel
theorem dX10_setStage_6 : decode cX10_setStage 6 = .ok (.ifCond .ne 5, 3) := by decide +kernel
theorem dX10_setStage_9 : decode cX10_setStage 9 = .ok (.iconst (-1), 1) := by decide +kernel
theorem dX10_setStage_10 : decode cX10_setStage 10 = .ok (.ireturn, 1) := by decide +kernel
theorem dX10_setStage_11 : decode cX10_setStage 11 = .ok (.iload_n 1, 1) := by decide +kernel
theorem dX10_setStage_12 : decode cX10_setStage 12 = .ok (.iconst 3, 1) := by decide +kernel
theorem dX10_setStage_13 : decode cX10_setStage 13 = .ok (.if_icmp .ne 7, 3) := by decide +kernel
theorem dX10_setStage_16 : decode cX10_setStage 16 = .ok (.iconst 0, 1) := by decide +kernel
theorem dX10_setStage_17 : decode cX10_setStage 17 = .ok (.goto 17, 3) := by decide +kernel
theorem dX10_setStage_20 : decode cX10_setStage 20 = .ok (.aload_n 0, 1) := by decide +kernel
theorem dX10_setStage_21 : decode cX10_setStage 21 = .ok (.getfield 7, 3) := by decide +kernel
theorem dX10_setStage_24 : decode cX10_setStage 24 = .ok (.sipush 954, 3) := by decide +kernel
theorem dX10_setStage_27 : decode cX10_setStage 27 = .ok (.iload_n 1, 1) := by decide +kernel
theorem dX10_setStage_28 : decode cX10_setStage 28 = .ok (.iadd, 1) := by decide +kernel
theorem dX10_setStage_29 : decode cX10_setStage 29 = .ok (.iconst 1, 1) := by decide +kernel
theorem dX10_setStage_30 : decode cX10_setStage 30 = .ok (.iadd, 1) := by decide +kernel
theorem dX10_setStage_31 : decode cX10_setStage 31 = .ok (.iaload, 1) := by decide +kernel
theorem dX10_setStage_32 : decode cX10_setStage 32 = .ok (.iconst 1, 1) := by decide +kernel
theorem dX10_setStage_33 : decode cX10_setStage 33 = .ok (.iadd, 1) := by decide +kernel
theorem dX10_setStage_34 : decode cX10_setStage 34 = .ok (.istore 4, 2) := by decide +kernel
theorem dX10_setStage_36 : decode cX10_setStage 36 = .ok (.iload_n 2, 1) := by decide +kernel
theorem dX10_setStage_37 : decode cX10_setStage 37 = .ok (.iload 4, 2) := by decide +kernel
theorem dX10_setStage_39 : decode cX10_setStage 39 = .ok (.aload_n 0, 1) := by decide +kernel
theorem dX10_setStage_40 : decode cX10_setStage 40 = .ok (.getfield 7, 3) := by decide +kernel
theorem dX10_setStage_43 : decode cX10_setStage 43 = .ok (.sipush 954, 3) := by decide +kernel
theorem dX10_setStage_46 : decode cX10_setStage 46 = .ok (.iload_n 1, 1) := by decide +kernel
theorem dX10_setStage_47 : decode cX10_setStage 47 = .ok (.iadd, 1) := by decide +kernel
theorem dX10_setStage_48 : decode cX10_setStage 48 = .ok (.iconst 1, 1) := by decide +kernel
theorem dX10_setStage_49 : decode cX10_setStage 49 = .ok (.isub, 1) := by decide +kernel
theorem dX10_setStage_50 : decode cX10_setStage 50 = .ok (.iaload, 1) := by decide +kernel
theorem dX10_setStage_51 : decode cX10_setStage 51 = .ok (.iconst 1, 1) := by decide +kernel
theorem dX10_setStage_52 : decode cX10_setStage 52 = .ok (.isub, 1) := by decide +kernel
theorem dX10_setStage_53 : decode cX10_setStage 53 = .ok (.invokestatic 56, 3) := by decide +kernel
theorem dX10_setStage_56 : decode cX10_setStage 56 = .ok (.ifCond .eq 13, 3) := by decide +kernel
theorem dX10_setStage_59 : decode cX10_setStage 59 = .ok (.iload_n 3, 1) := by decide +kernel
theorem dX10_setStage_60 : decode cX10_setStage 60 = .ok (.iconst 0, 1) := by decide +kernel
theorem dX10_setStage_61 : decode cX10_setStage 61 = .ok (.ldc 68, 2) := by decide +kernel
theorem dX10_setStage_63 : decode cX10_setStage 63 = .ok (.invokestatic 56, 3) := by decide +kernel
theorem dX10_setStage_66 : decode cX10_setStage 66 = .ok (.ifCond .ne 6, 3) := by decide +kernel
theorem dX10_setStage_69 : decode cX10_setStage 69 = .ok (.bipush (-2), 2) := by decide +kernel
theorem dX10_setStage_71 : decode cX10_setStage 71 = .ok (.ireturn, 1) := by decide +kernel
theorem dX10_setStage_72 : decode cX10_setStage 72 = .ok (.aload_n 0, 1) := by decide +kernel
theorem dX10_setStage_73 : decode cX10_setStage 73 = .ok (.getfield 7, 3) := by decide +kernel
theorem dX10_setStage_76 : decode cX10_setStage 76 = .ok (.sipush 954, 3) := by decide +kernel
theorem dX10_setStage_79 : decode cX10_setStage 79 = .ok (.iload_n 1, 1) := by decide +kernel
theorem dX10_setStage_80 : decode cX10_setStage 80 = .ok (.iadd, 1) := by decide +kernel
theorem dX10_setStage_81 : decode cX10_setStage 81 = .ok (.iaload, 1) := by decide +kernel
theorem dX10_setStage_82 : decode cX10_setStage 82 = .ok (.istore 5, 2) := by decide +kernel
theorem dX10_setStage_84 : decode cX10_setStage 84 = .ok (.iload 5, 2) := by decide +kernel
theorem dX10_setStage_86 : decode cX10_setStage 86 = .ok (.iload_n 2, 1) := by decide +kernel
theorem dX10_setStage_87 : decode cX10_setStage 87 = .ok (.if_icmp .ne 20, 3) := by decide +kernel
theorem dX10_setStage_90 : decode cX10_setStage 90 = .ok (.aload_n 0, 1) := by decide +kernel
theorem dX10_setStage_91 : decode cX10_setStage 91 = .ok (.getfield 7, 3) := by decide +kernel
theorem dX10_setStage_94 : decode cX10_setStage 94 = .ok (.sipush 958, 3) := by decide +kernel
theorem dX10_setStage_97 : decode cX10_setStage 97 = .ok (.iload_n 1, 1) := by decide +kernel
theorem dX10_setStage_98 : decode cX10_setStage 98 = .ok (.iadd, 1) := by decide +kernel
theorem dX10_setStage_99 : decode cX10_setStage 99 = .ok (.iaload, 1) := by decide +kernel
theorem dX10_setStage_100 : decode cX10_setStage 100 = .ok (.iload_n 3, 1) := by decide +kernel
theorem dX10_setStage_101 : decode cX10_setStage 101 = .ok (.if_icmp .ne 6, 3) := by decide +kernel
theorem dX10_setStage_104 : decode cX10_setStage 104 = .ok (.bipush (-5), 2) := by decide +kernel
theorem dX10_setStage_106 : decode cX10_setStage 106 = .ok (.ireturn, 1) := by decide +kernel
theorem dX10_setStage_107 : decode cX10_setStage 107 = .ok (.aload_n 0, 1) := by decide +kernel
theorem dX10_setStage_108 : decode cX10_setStage 108 = .ok (.invokevirtual 53, 3) := by decide +kernel
theorem dX10_setStage_111 : decode cX10_setStage 111 = .ok (.aload_n 0, 1) := by decide +kernel
theorem dX10_setStage_112 : decode cX10_setStage 112 = .ok (.getfield 7, 3) := by decide +kernel
theorem dX10_setStage_115 : decode cX10_setStage 115 = .ok (.sipush 954, 3) := by decide +kernel
theorem dX10_setStage_118 : decode cX10_setStage 118 = .ok (.iload_n 1, 1) := by decide +kernel
theorem dX10_setStage_119 : decode cX10_setStage 119 = .ok (.iadd, 1) := by decide +kernel
theorem dX10_setStage_120 : decode cX10_setStage 120 = .ok (.iload_n 2, 1) := by decide +kernel
theorem dX10_setStage_121 : decode cX10_setStage 121 = .ok (.iastore, 1) := by decide +kernel
theorem dX10_setStage_122 : decode cX10_setStage 122 = .ok (.aload_n 0, 1) := by decide +kernel
theorem dX10_setStage_123 : decode cX10_setStage 123 = .ok (.getfield 7, 3) := by decide +kernel
theorem dX10_setStage_126 : decode cX10_setStage 126 = .ok (.sipush 958, 3) := by decide +kernel
theorem dX10_setStage_129 : decode cX10_setStage 129 = .ok (.iload_n 1, 1) := by decide +kernel
theorem dX10_setStage_130 : decode cX10_setStage 130 = .ok (.iadd, 1) := by decide +kernel
theorem dX10_setStage_131 : decode cX10_setStage 131 = .ok (.iload_n 3, 1) := by decide +kernel
theorem dX10_setStage_132 : decode cX10_setStage 132 = .ok (.iastore, 1) := by decide +kernel
theorem dX10_setStage_133 : decode cX10_setStage 133 = .ok (.iload 5, 2) := by decide +kernel
theorem dX10_setStage_135 : decode cX10_setStage 135 = .ok (.ireturn, 1) := by decide +kernel
set_option maxRecDepth 20000 in
theorem ggX10_set_X10_in : GoodIn wsX10_set wsX10_in := goodIn_r _ [5] (by decide +kernel) (by decide +kernel)
set_option maxRecDepth 20000 in
theorem gX10_set_X10_in : GoodIn wsX10_set (va_wsS RX10 56 yX10_in wsX10_in) := goodIn_app (goodIn_of _ (by decide +kernel)) ggX10_set_X10_in
set_option maxRecDepth 20000 in
theorem ggX10_set_X10_record : GoodIn wsX10_set wsX10_record := goodIn_r _ [9, 10, 11, 1, 12, 13, 14, 15, 16, 17, 18, 19, 20, 21, 22, 23, 24, 25, 26, 27, 28, 29, 30] (by decide +kernel) (by decide +kernel)
set_option maxRecDepth 20000 in
theorem gX10_set_X10_record : GoodIn wsX10_set (wsV RX10 53 RX10 yX10_record wsX10_record) := goodIn_app (goodIn_of _ (by decide +kernel)) ggX10_set_X10_record
theorem dX10_set_0 : decode cX10_set 0 = .ok (.iload_n 1, 1) := by decide +kernel
theorem dX10_set_1 : decode cX10_set 1 = .ok (.ifCond .ne 12, 3) := by decide +kernel
theorem dX10_set_4 : decode cX10_set 4 = .ok (.iload_n 2, 1) := by decide +kernel
theorem dX10_set_5 : decode cX10_set 5 = .ok (.iconst 0, 1) := by decide +kernel
theorem dX10_set_6 : decode cX10_set 6 = .ok (.iconst 2, 1) := by decide +kernel
theorem dX10_set_7 : decode cX10_set 7 = .ok (.invokestatic 56, 3) := by decide +kernel
theorem dX10_set_10 : decode cX10_set 10 = .ok (.ifCond .ne 33, 3) := by decide +kernel
theorem dX10_set_13 : decode cX10_set 13 = .ok (.iload_n 1, 1) := by decide +kernel
theorem dX10_set_14 : decode cX10_set 14 = .ok (.iconst 1, 1) := by decide +kernel
theorem dX10_set_15 : decode cX10_set 15 = .ok (.if_icmp .ne 12, 3) := by decide +kernel
theorem dX10_set_18 : decode cX10_set 18 = .ok (.iload_n 2, 1) := by decide +kernel
theorem dX10_set_19 : decode cX10_set 19 = .ok (.iconst 1, 1) := by decide +kernel
theorem dX10_set_20 : decode cX10_set 20 = .ok (.iconst 4, 1) := by decide +kernel
theorem dX10_set_21 : decode cX10_set 21 = .ok (.invokestatic 56, 3) := by decide +kernel
theorem dX10_set_24 : decode cX10_set 24 = .ok (.ifCond .ne 19, 3) := by decide +kernel
theorem dX10_set_27 : decode cX10_set 27 = .ok (.iload_n 1, 1) := by decide +kernel
theorem dX10_set_28 : decode cX10_set 28 = .ok (.iconst 2, 1) := by decide +kernel
theorem dX10_set_29 : decode cX10_set 29 = .ok (.if_icmp .ne 18, 3) := by decide +kernel
theorem dX10_set_32 : decode cX10_set 32 = .ok (.iload_n 2, 1) := by decide +kernel
theorem dX10_set_33 : decode cX10_set 33 = .ok (.iconst 0, 1) := by decide +kernel
theorem dX10_set_34 : decode cX10_set 34 = .ok (.sipush 999, 3) := by decide +kernel
theorem dX10_set_37 : decode cX10_set 37 = .ok (.invokestatic 56, 3) := by decide +kernel
theorem dX10_set_40 : decode cX10_set 40 = .ok (.ifCond .eq 7, 3) := by decide +kernel
theorem dX10_set_43 : decode cX10_set 43 = .ok (.iconst 1, 1) := by decide +kernel
theorem dX10_set_44 : decode cX10_set 44 = .ok (.goto 4, 3) := by decide +kernel
theorem dX10_set_47 : decode cX10_set 47 = .ok (.iconst 0, 1) := by decide +kernel
theorem dX10_set_48 : decode cX10_set 48 = .ok (.istore_n 3, 1) := by decide +kernel
theorem dX10_set_49 : decode cX10_set 49 = .ok (.iload_n 3, 1) := by decide +kernel
theorem dX10_set_50 : decode cX10_set 50 = .ok (.ifCond .ne 6, 3) := by decide +kernel
theorem dX10_set_53 : decode cX10_set 53 = .ok (.bipush (-2), 2) := by decide +kernel
theorem dX10_set_55 : decode cX10_set 55 = .ok (.ireturn, 1) := by decide +kernel
theorem dX10_set_56 : decode cX10_set 56 = .ok (.aload_n 0, 1) := by decide +kernel
theorem dX10_set_57 : decode cX10_set 57 = .ok (.getfield 7, 3) := by decide +kernel
theorem dX10_set_60 : decode cX10_set 60 = .ok (.iconst 4, 1) := by decide +kernel
theorem dX10_set_61 : decode cX10_set 61 = .ok (.iload_n 1, 1) := by decide +kernel
theorem dX10_set_62 : decode cX10_set 62 = .ok (.iadd, 1) := by decide +kernel
theorem dX10_set_63 : decode cX10_set 63 = .ok (.iaload, 1) := by decide +kernel
theorem dX10_set_64 : decode cX10_set 64 = .ok (.istore 4, 2) := by decide +kernel
theorem dX10_set_66 : decode cX10_set 66 = .ok (.iload 4, 2) := by decide +kernel
theorem dX10_set_68 : decode cX10_set 68 = .ok (.iload_n 2, 1) := by decide +kernel
theorem dX10_set_69 : decode cX10_set 69 = .ok (.if_icmp .ne 6, 3) := by decide +kernel
theorem dX10_set_72 : decode cX10_set 72 = .ok (.bipush (-5), 2) := by decide +kernel
theorem dX10_set_74 : decode cX10_set 74 = .ok (.ireturn, 1) := by decide +kernel
theorem dX10_set_75 : decode cX10_set 75 = .ok (.aload_n 0, 1) := by decide +kernel
theorem dX10_set_76 : decode cX10_set 76 = .ok (.invokevirtual 53, 3) := by decide +kernel
theorem dX10_set_79 : decode cX10_set 79 = .ok (.aload_n 0, 1) := by decide +kernel
theorem dX10_set_80 : decode cX10_set 80 = .ok (.getfield 7, 3) := by decide +kernel
theorem dX10_set_83 : decode cX10_set 83 = .ok (.iconst 4, 1) := by decide +kernel
theorem dX10_set_84 : decode cX10_set 84 = .ok (.iload_n 1, 1) := by decide +kernel
theorem dX10_set_85 : decode cX10_set 85 = .ok (.iadd, 1) := by decide +kernel
theorem dX10_set_86 : decode cX10_set 86 = .ok (.iload_n 2, 1) := by decide +kernel
theorem dX10_set_87 : decode cX10_set 87 = .ok (.iastore, 1) := by decide +kernel
theorem dX10_set_88 : decode cX10_set 88 = .ok (.iload 4, 2) := by decide +kernel
theorem dX10_set_90 : decode cX10_set 90 = .ok (.ireturn, 1) := by decide +kernel
set_option maxRecDepth 20000 in
theorem ggX10_setRebate_X10_in : GoodIn wsX10_setRebate wsX10_in := goodIn_r _ [6] (by decide +kernel) (by decide +kernel)
set_option maxRecDepth 20000 in
theorem gX10_setRebate_X10_in : GoodIn wsX10_setRebate (va_wsS RX10 56 yX10_in wsX10_in) := goodIn_app (goodIn_of _ (by decide +kernel)) ggX10_setRebate_X10_in
set_option maxRecDepth 20000 in
theorem ggX10_setRebate_X10_record : GoodIn wsX10_setRebate wsX10_record := goodIn_r _ [10, 11, 12, 2, 13, 14, 15, 16, 17, 18, 19, 20, 21, 22, 23, 24, 25, 26, 27, 28, 29, 30, 31] (by decide +kernel) (by decide +kernel)
set_option maxRecDepth 20000 in
theorem gX10_setRebate_X10_record : GoodIn wsX10_setRebate (wsV RX10 53 RX10 yX10_record wsX10_record) := goodIn_app (goodIn_of _ (by decide +kernel)) ggX10_setRebate_X10_record
theorem dX10_setRebate_0 : decode cX10_setRebate 0 = .ok (.iload_n 1, 1) := by decide +kernel
theorem dX10_setRebate_1 : decode cX10_setRebate 1 = .ok (.iconst 0, 1) := by decide +kernel
theorem dX10_setRebate_2 : decode cX10_setRebate 2 = .ok (.ldc 69, 2) := by decide +kernel
theorem dX10_setRebate_4 : decode cX10_setRebate 4 = .ok (.invokestatic 56, 3) := by decide +kernel
theorem dX10_setRebate_7 : decode cX10_setRebate 7 = .ok (.ifCond .ne 6, 3) := by decide +kernel
theorem dX10_setRebate_10 : decode cX10_setRebate 10 = .ok (.bipush (-2), 2) := by decide +kernel
theorem dX10_setRebate_12 : decode cX10_setRebate 12 = .ok (.ireturn, 1) := by decide +kernel
theorem dX10_setRebate_13 : decode cX10_setRebate 13 = .ok (.aload_n 0, 1) := by decide +kernel
theorem dX10_setRebate_14 : decode cX10_setRebate 14 = .ok (.getfield 7, 3) := by decide +kernel
theorem dX10_setRebate_17 : decode cX10_setRebate 17 = .ok (.bipush 7, 2) := by decide +kernel
theorem dX10_setRebate_19 : decode cX10_setRebate 19 = .ok (.iaload, 1) := by decide +kernel
theorem dX10_setRebate_20 : decode cX10_setRebate 20 = .ok (.iload_n 1, 1) := by decide +kernel
theorem dX10_setRebate_21 : decode cX10_setRebate 21 = .ok (.if_icmp .ne 6, 3) := by decide +kernel
theorem dX10_setRebate_24 : decode cX10_setRebate 24 = .ok (.bipush (-5), 2) := by decide +kernel
theorem dX10_setRebate_26 : decode cX10_setRebate 26 = .ok (.ireturn, 1) := by decide +kernel
theorem dX10_setRebate_27 : decode cX10_setRebate 27 = .ok (.aload_n 0, 1) := by decide +kernel
theorem dX10_setRebate_28 : decode cX10_setRebate 28 = .ok (.invokevirtual 53, 3) := by decide +kernel
theorem dX10_setRebate_31 : decode cX10_setRebate 31 = .ok (.aload_n 0, 1) := by decide +kernel
theorem dX10_setRebate_32 : decode cX10_setRebate 32 = .ok (.getfield 7, 3) := by decide +kernel
theorem dX10_setRebate_35 : decode cX10_setRebate 35 = .ok (.bipush 7, 2) := by decide +kernel
theorem dX10_setRebate_37 : decode cX10_setRebate 37 = .ok (.iload_n 1, 1) := by decide +kernel
theorem dX10_setRebate_38 : decode cX10_setRebate 38 = .ok (.iastore, 1) := by decide +kernel
theorem dX10_setRebate_39 : decode cX10_setRebate 39 = .ok (.iconst 1, 1) := by decide +kernel
theorem dX10_setRebate_40 : decode cX10_setRebate 40 = .ok (.ireturn, 1) := by decide +kernel
theorem dX10_floatOf_0 : decode cX10_floatOf 0 = .ok (.iload_n 0, 1) := by decide +kernel
theorem dX10_floatOf_1 : decode cX10_floatOf 1 = .ok (.bipush 23, 2) := by decide +kernel
theorem dX10_floatOf_3 : decode cX10_floatOf 3 = .ok (.ishr, 1) := by decide +kernel
theorem dX10_floatOf_4 : decode cX10_floatOf 4 = .ok (.istore_n 1, 1) := by decide +kernel
theorem dX10_floatOf_5 : decode cX10_floatOf 5 = .ok (.iload_n 1, 1) := by decide +kernel
theorem dX10_floatOf_6 : decode cX10_floatOf 6 = .ok (.ifCond .ne 7, 3) := by decide +kernel
theorem dX10_floatOf_9 : decode cX10_floatOf 9 = .ok (.iload_n 0, 1) := by decide +kernel
theorem dX10_floatOf_10 : decode cX10_floatOf 10 = .ok (.goto 10, 3) := by decide +kernel
theorem dX10_floatOf_13 : decode cX10_floatOf 13 = .ok (.iload_n 0, 1) := by decide +kernel
theorem dX10_floatOf_14 : decode cX10_floatOf 14 = .ok (.ldc 70, 2) := by decide +kernel
theorem dX10_floatOf_16 : decode cX10_floatOf 16 = .ok (.iand, 1) := by decide +kernel
theorem dX10_floatOf_17 : decode cX10_floatOf 17 = .ok (.ldc 71, 2) := by decide +kernel
theorem dX10_floatOf_19 : decode cX10_floatOf 19 = .ok (.ior, 1) := by decide +kernel
theorem dX10_floatOf_20 : decode cX10_floatOf 20 = .ok (.istore_n 2, 1) := by decide +kernel
theorem dX10_floatOf_21 : decode cX10_floatOf 21 = .ok (.iload_n 2, 1) := by decide +kernel
theorem dX10_floatOf_22 : decode cX10_floatOf 22 = .ok (.i2f, 1) := by decide +kernel
theorem dX10_floatOf_23 : decode cX10_floatOf 23 = .ok (.fstore_n 3, 1) := by decide +kernel
theorem dX10_floatOf_24 : decode cX10_floatOf 24 = .ok (.sipush 150, 3) := by decide +kernel
theorem dX10_floatOf_27 : decode cX10_floatOf 27 = .ok (.iload_n 1, 1) := by decide +kernel
theorem dX10_floatOf_28 : decode cX10_floatOf 28 = .ok (.ifCond .ne 7, 3) := by decide +kernel
theorem dX10_floatOf_31 : decode cX10_floatOf 31 = .ok (.iconst 1, 1) := by decide +kernel
theorem dX10_floatOf_32 : decode cX10_floatOf 32 = .ok (.goto 4, 3) := by decide +kernel
theorem dX10_floatOf_35 : decode cX10_floatOf 35 = .ok (.iload_n 1, 1) := by decide +kernel
theorem dX10_floatOf_36 : decode cX10_floatOf 36 = .ok (.isub, 1) := by decide +kernel
theorem dX10_floatOf_37 : decode cX10_floatOf 37 = .ok (.istore 4, 2) := by decide +kernel
theorem dX10_floatOf_39 : decode cX10_floatOf 39 = .ok (.iconst 0, 1) := by decide +kernel
theorem dX10_floatOf_40 : decode cX10_floatOf 40 = .ok (.istore 5, 2) := by decide +kernel
theorem dX10_floatOf_42 : decode cX10_floatOf 42 = .ok (.iload 5, 2) := by decide +kernel
theorem dX10_floatOf_44 : decode cX10_floatOf 44 = .ok (.iload 4, 2) := by decide +kernel
theorem dX10_floatOf_46 : decode cX10_floatOf 46 = .ok (.if_icmp .ge 13, 3) := by decide +kernel
theorem dX10_floatOf_49 : decode cX10_floatOf 49 = .ok (.fload_n 3, 1) := by decide +kernel
theorem dX10_floatOf_50 : decode cX10_floatOf 50 = .ok (.fconst 2, 1) := by decide +kernel
theorem dX10_floatOf_51 : decode cX10_floatOf 51 = .ok (.fdiv, 1) := by decide +kernel
theorem dX10_floatOf_52 : decode cX10_floatOf 52 = .ok (.fstore_n 3, 1) := by decide +kernel
theorem dX10_floatOf_53 : decode cX10_floatOf 53 = .ok (.iinc 5 1, 3) := by decide +kernel
theorem dX10_floatOf_56 : decode cX10_floatOf 56 = .ok (.goto (-14), 3) := by decide +kernel
theorem dX10_floatOf_59 : decode cX10_floatOf 59 = .ok (.fload_n 3, 1) := by decide +kernel
theorem dX10_floatOf_60 : decode cX10_floatOf 60 = .ok (.freturn, 1) := by decide +kernel
theorem dX10_stageOf_0 : decode cX10_stageOf 0 = .ok (.iconst 0, 1) := by decide +kernel
theorem dX10_stageOf_1 : decode cX10_stageOf 1 = .ok (.istore_n 3, 1) := by decide +kernel
theorem dX10_stageOf_2 : decode cX10_stageOf 2 = .ok (.iconst 1, 1) := by decide +kernel
theorem dX10_stageOf_3 : decode cX10_stageOf 3 = .ok (.istore 4, 2) := by decide +kernel
theorem dX10_stageOf_5 : decode cX10_stageOf 5 = .ok (.iload 4, 2) := by decide +kernel
theorem dX10_stageOf_7 : decode cX10_stageOf 7 = .ok (.iconst 4, 1) := by decide +kernel
theorem dX10_stageOf_8 : decode cX10_stageOf 8 = .ok (.if_icmp .ge 36, 3) := by decide +kernel
theorem dX10_stageOf_11 : decode cX10_stageOf 11 = .ok (.iload_n 1, 1) := by decide +kernel
theorem dX10_stageOf_12 : decode cX10_stageOf 12 = .ok (.bipush 100, 2) := by decide +kernel
theorem dX10_stageOf_14 : decode cX10_stageOf 14 = .ok (.imul, 1) := by decide +kernel
theorem dX10_stageOf_15 : decode cX10_stageOf 15 = .ok (.aload_n 0, 1) := by decide +kernel
theorem dX10_stageOf_16 : decode cX10_stageOf 16 = .ok (.getfield 7, 3) := by decide +kernel
theorem dX10_stageOf_19 : decode cX10_stageOf 19 = .ok (.sipush 954, 3) := by decide +kernel
theorem dX10_stageOf_22 : decode cX10_stageOf 22 = .ok (.iload 4, 2) := by decide +kernel
theorem dX10_stageOf_24 : decode cX10_stageOf 24 = .ok (.iadd, 1) := by decide +kernel
theorem dX10_stageOf_25 : decode cX10_stageOf 25 = .ok (.iaload, 1) := by decide +kernel
theorem dX10_stageOf_26 : decode cX10_stageOf 26 = .ok (.iload_n 2, 1) := by decide +kernel
theorem dX10_stageOf_27 : decode cX10_stageOf 27 = .ok (.imul, 1) := by decide +kernel
theorem dX10_stageOf_28 : decode cX10_stageOf 28 = .ok (.if_icmp .gt 8, 3) := by decide +kernel
theorem dX10_stageOf_31 : decode cX10_stageOf 31 = .ok (.iload 4, 2) := by decide +kernel
theorem dX10_stageOf_33 : decode cX10_stageOf 33 = .ok (.goto 4, 3) := by decide +kernel
theorem dX10_stageOf_36 : decode cX10_stageOf 36 = .ok (.iload_n 3, 1) := by decide +kernel
theorem dX10_stageOf_37 : decode cX10_stageOf 37 = .ok (.istore_n 3, 1) := by decide +kernel
theorem dX10_stageOf_38 : decode cX10_stageOf 38 = .ok (.iinc 4 1, 3) := by decide +kernel
theorem dX10_stageOf_41 : decode cX10_stageOf 41 = .ok (.goto (-36), 3) := by decide +kernel
theorem dX10_stageOf_44 : decode cX10_stageOf 44 = .ok (.iload_n 3, 1) := by decide +kernel
theorem dX10_stageOf_45 : decode cX10_stageOf 45 = .ok (.ireturn, 1) := by decide +kernel
set_option maxRecDepth 20000 in
theorem ggX10_stageOfBatch_X10_ofBatch : GoodIn wsX10_stageOfBatch wsX10_ofBatch := goodIn_r _ [5, 6, 15, 16, 17, 18, 19, 20, 21, 22, 23, 24, 25, 26, 27, 28, 29, 30, 31, 32, 33] (by decide +kernel) (by decide +kernel)
set_option maxRecDepth 20000 in
theorem gX10_stageOfBatch_X10_ofBatch : GoodIn wsX10_stageOfBatch (wsV RX10 72 RX10 yX10_ofBatch wsX10_ofBatch) := goodIn_app (goodIn_of _ (by decide +kernel)) ggX10_stageOfBatch_X10_ofBatch
set_option maxRecDepth 20000 in
theorem ggX10_stageOfBatch_X10_ofGood : GoodIn wsX10_stageOfBatch wsX10_ofGood := goodIn_r _ [10, 6, 15, 16, 17, 18, 19, 20, 21, 22, 23, 24, 25, 26, 27, 28, 29, 30, 31, 32, 33] (by decide +kernel) (by decide +kernel)
set_option maxRecDepth 20000 in
theorem gX10_stageOfBatch_X10_ofGood : GoodIn wsX10_stageOfBatch (wsV RX10 64 RX10 yX10_ofGood wsX10_ofGood) := goodIn_app (goodIn_of _ (by decide +kernel)) ggX10_stageOfBatch_X10_ofGood
set_option maxRecDepth 20000 in
theorem ggX10_stageOfBatch_X10_stageOf : GoodIn wsX10_stageOfBatch wsX10_stageOf := goodIn_r _ [14, 6, 15, 16, 17, 18, 19, 20, 21, 22, 23, 24, 25, 26, 27, 28, 29, 30, 31, 32, 33] (by decide +kernel) (by decide +kernel)
set_option maxRecDepth 20000 in
theorem gX10_stageOfBatch_X10_stageOf : GoodIn wsX10_stageOfBatch (wsV RX10 75 RX10 yX10_stageOf wsX10_stageOf) := goodIn_app (goodIn_of _ (by decide +kernel)) ggX10_stageOfBatch_X10_stageOf
theorem dX10_stageOfBatch_0 : decode cX10_stageOfBatch 0 = .ok (.aload_n 0, 1) := by decide +kernel
theorem dX10_stageOfBatch_1 : decode cX10_stageOfBatch 1 = .ok (.aload_n 0, 1) := by decide +kernel
theorem dX10_stageOfBatch_2 : decode cX10_stageOfBatch 2 = .ok (.iload_n 1, 1) := by decide +kernel
theorem dX10_stageOfBatch_3 : decode cX10_stageOfBatch 3 = .ok (.iconst 2, 1) := by decide +kernel
theorem dX10_stageOfBatch_4 : decode cX10_stageOfBatch 4 = .ok (.invokevirtual 72, 3) := by decide +kernel
theorem dX10_stageOfBatch_7 : decode cX10_stageOfBatch 7 = .ok (.aload_n 0, 1) := by decide +kernel
theorem dX10_stageOfBatch_8 : decode cX10_stageOfBatch 8 = .ok (.aload_n 0, 1) := by decide +kernel
theorem dX10_stageOfBatch_9 : decode cX10_stageOfBatch 9 = .ok (.iload_n 1, 1) := by decide +kernel
theorem dX10_stageOfBatch_10 : decode cX10_stageOfBatch 10 = .ok (.iconst 0, 1) := by decide +kernel
theorem dX10_stageOfBatch_11 : decode cX10_stageOfBatch 11 = .ok (.invokevirtual 72, 3) := by decide +kernel
theorem dX10_stageOfBatch_14 : decode cX10_stageOfBatch 14 = .ok (.iconst 1, 1) := by decide +kernel
theorem dX10_stageOfBatch_15 : decode cX10_stageOfBatch 15 = .ok (.invokevirtual 64, 3) := by decide +kernel
theorem dX10_stageOfBatch_18 : decode cX10_stageOfBatch 18 = .ok (.invokevirtual 75, 3) := by decide +kernel
theorem dX10_stageOfBatch_21 : decode cX10_stageOfBatch 21 = .ok (.ireturn, 1) := by decide +kernel
set_option maxRecDepth 20000 in
theorem ggX10_priceOf_X10_stageOfBatch : GoodIn wsX10_priceOf wsX10_stageOfBatch := goodIn_r _ [7, 8, 9, 10, 6, 11, 1, 12, 13, 14, 15, 16, 17, 18, 19, 25, 26, 27, 28, 29, 30, 31, 32, 33, 34, 35, 36, 37, 38, 39, 40, 41, 42, 43] (by decide +kernel) (by decide +kernel)
set_option maxRecDepth 20000 in
theorem gX10_priceOf_X10_stageOfBatch : GoodIn wsX10_priceOf (wsV RX10 78 RX10 yX10_stageOfBatch wsX10_stageOfBatch) := goodIn_app (goodIn_of _ (by decide +kernel)) ggX10_priceOf_X10_stageOfBatch
set_option maxRecDepth 20000 in
theorem ggX10_priceOf_X10_floatOf : GoodIn wsX10_priceOf wsX10_floatOf := goodIn_r _ [22, 23, 24] (by decide +kernel) (by decide +kernel)
set_option maxRecDepth 20000 in
theorem gX10_priceOf_X10_floatOf : GoodIn wsX10_priceOf (va_wsS RX10 82 yX10_floatOf wsX10_floatOf) := goodIn_app (goodIn_of _ (by decide +kernel)) ggX10_priceOf_X10_floatOf
set_option maxRecDepth 20000 in
theorem ggX10_priceOf_X10_ofBatch : GoodIn wsX10_priceOf wsX10_ofBatch := goodIn_r _ [11, 1, 25, 26, 27, 28, 29, 30, 31, 32, 33, 34, 35, 36, 37, 38, 39, 40, 41, 42, 43] (by decide +kernel) (by decide +kernel)
set_option maxRecDepth 20000 in
theorem gX10_priceOf_X10_ofBatch : GoodIn wsX10_priceOf (wsV RX10 72 RX10 yX10_ofBatch wsX10_ofBatch) := goodIn_app (goodIn_of _ (by decide +kernel)) ggX10_priceOf_X10_ofBatch
set_option maxRecDepth 20000 in
theorem ggX10_priceOf_X10_ofGood : GoodIn wsX10_priceOf wsX10_ofGood := goodIn_r _ [15, 1, 25, 26, 27, 28, 29, 30, 31, 32, 33, 34, 35, 36, 37, 38, 39, 40, 41, 42, 43] (by decide +kernel) (by decide +kernel)
set_option maxRecDepth 20000 in
theorem gX10_priceOf_X10_ofGood : GoodIn wsX10_priceOf (wsV RX10 64 RX10 yX10_ofGood wsX10_ofGood) := goodIn_app (goodIn_of _ (by decide +kernel)) ggX10_priceOf_X10_ofGood
theorem dX10_priceOf_0 : decode cX10_priceOf 0 = .ok (.aload_n 0, 1) := by decide +kernel
theorem dX10_priceOf_1 : decode cX10_priceOf 1 = .ok (.getfield 7, 3) := by decide +kernel
theorem dX10_priceOf_4 : decode cX10_priceOf 4 = .ok (.sipush 958, 3) := by decide +kernel
theorem dX10_priceOf_7 : decode cX10_priceOf 7 = .ok (.aload_n 0, 1) := by decide +kernel
theorem dX10_priceOf_8 : decode cX10_priceOf 8 = .ok (.iload_n 1, 1) := by decide +kernel
theorem dX10_priceOf_9 : decode cX10_priceOf 9 = .ok (.invokevirtual 78, 3) := by decide +kernel
theorem dX10_priceOf_12 : decode cX10_priceOf 12 = .ok (.iadd, 1) := by decide +kernel
theorem dX10_priceOf_13 : decode cX10_priceOf 13 = .ok (.iaload, 1) := by decide +kernel
theorem dX10_priceOf_14 : decode cX10_priceOf 14 = .ok (.invokestatic 82, 3) := by decide +kernel
theorem dX10_priceOf_17 : decode cX10_priceOf 17 = .ok (.fstore_n 2, 1) := by decide +kernel
theorem dX10_priceOf_18 : decode cX10_priceOf 18 = .ok (.fload_n 2, 1) := by decide +kernel
theorem dX10_priceOf_19 : decode cX10_priceOf 19 = .ok (.ldc 86, 2) := by decide +kernel
theorem dX10_priceOf_21 : decode cX10_priceOf 21 = .ok (.fdiv, 1) := by decide +kernel
theorem dX10_priceOf_22 : decode cX10_priceOf 22 = .ok (.fstore_n 3, 1) := by decide +kernel
theorem dX10_priceOf_23 : decode cX10_priceOf 23 = .ok (.fconst 1, 1) := by decide +kernel
theorem dX10_priceOf_24 : decode cX10_priceOf 24 = .ok (.fload_n 3, 1) := by decide +kernel
theorem dX10_priceOf_25 : decode cX10_priceOf 25 = .ok (.fsub, 1) := by decide +kernel
theorem dX10_priceOf_26 : decode cX10_priceOf 26 = .ok (.fstore 4, 2) := by decide +kernel
theorem dX10_priceOf_28 : decode cX10_priceOf 28 = .ok (.aload_n 0, 1) := by decide +kernel
theorem dX10_priceOf_29 : decode cX10_priceOf 29 = .ok (.aload_n 0, 1) := by decide +kernel
theorem dX10_priceOf_30 : decode cX10_priceOf 30 = .ok (.iload_n 1, 1) := by decide +kernel
theorem dX10_priceOf_31 : decode cX10_priceOf 31 = .ok (.iconst 0, 1) := by decide +kernel
theorem dX10_priceOf_32 : decode cX10_priceOf 32 = .ok (.invokevirtual 72, 3) := by decide +kernel
theorem dX10_priceOf_35 : decode cX10_priceOf 35 = .ok (.iconst 0, 1) := by decide +kernel
theorem dX10_priceOf_36 : decode cX10_priceOf 36 = .ok (.invokevirtual 64, 3) := by decide +kernel
theorem dX10_priceOf_39 : decode cX10_priceOf 39 = .ok (.i2f, 1) := by decide +kernel
theorem dX10_priceOf_40 : decode cX10_priceOf 40 = .ok (.fstore 5, 2) := by decide +kernel
theorem dX10_priceOf_42 : decode cX10_priceOf 42 = .ok (.fload 5, 2) := by decide +kernel
theorem dX10_priceOf_44 : decode cX10_priceOf 44 = .ok (.fload 4, 2) := by decide +kernel
theorem dX10_priceOf_46 : decode cX10_priceOf 46 = .ok (.fmul, 1) := by decide +kernel
theorem dX10_priceOf_47 : decode cX10_priceOf 47 = .ok (.freturn, 1) := by decide +kernel
set_option maxRecDepth 20000 in
theorem ggX10_isSooner_X10_priceOf : GoodIn wsX10_isSooner wsX10_priceOf := goodIn_r _ [6, 1, 7, 8, 9, 10, 5, 11, 12, 13, 14, 15, 16, 17, 18, 19, 20, 21, 22, 23, 24, 25, 26, 27, 28, 29, 30, 31, 32, 33, 34, 35, 36, 37, 38, 39, 40, 41, 42, 43, 44, 45, 46, 47] (by decide +kernel) (by decide +kernel)
set_option maxRecDepth 20000 in
theorem gX10_isSooner_X10_priceOf : GoodIn wsX10_isSooner (wsV RX10 87 RX10 yX10_priceOf wsX10_priceOf) := goodIn_app (goodIn_of _ (by decide +kernel)) ggX10_isSooner_X10_priceOf
set_option maxRecDepth 20000 in
theorem ggX10_isSooner_X10_ofBatch : GoodIn wsX10_isSooner wsX10_ofBatch := goodIn_r _ [15, 1, 29, 30, 31, 32, 33, 34, 35, 36, 37, 38, 39, 40, 41, 42, 43, 44, 45, 46, 47] (by decide +kernel) (by decide +kernel)
set_option maxRecDepth 20000 in
theorem gX10_isSooner_X10_ofBatch : GoodIn wsX10_isSooner (wsV RX10 72 RX10 yX10_ofBatch wsX10_ofBatch) := goodIn_app (goodIn_of _ (by decide +kernel)) ggX10_isSooner_X10_ofBatch
theorem dX10_isSooner_0 : decode cX10_isSooner 0 = .ok (.aload_n 0, 1) := by decide +kernel
theorem dX10_isSooner_1 : decode cX10_isSooner 1 = .ok (.getfield 7, 3) := by decide +kernel
theorem dX10_isSooner_4 : decode cX10_isSooner 4 = .ok (.iconst 4, 1) := by decide +kernel
theorem dX10_isSooner_5 : decode cX10_isSooner 5 = .ok (.iaload, 1) := by decide +kernel
theorem dX10_isSooner_6 : decode cX10_isSooner 6 = .ok (.iconst 2, 1) := by decide +kernel
theorem dX10_isSooner_7 : decode cX10_isSooner 7 = .ok (.if_icmp .ne 23, 3) := by decide +kernel
theorem dX10_isSooner_10 : decode cX10_isSooner 10 = .ok (.aload_n 0, 1) := by decide +kernel
theorem dX10_isSooner_11 : decode cX10_isSooner 11 = .ok (.iload_n 1, 1) := by decide +kernel
theorem dX10_isSooner_12 : decode cX10_isSooner 12 = .ok (.invokevirtual 87, 3) := by decide +kernel
theorem dX10_isSooner_15 : decode cX10_isSooner 15 = .ok (.aload_n 0, 1) := by decide +kernel
theorem dX10_isSooner_16 : decode cX10_isSooner 16 = .ok (.iload_n 2, 1) := by decide +kernel
theorem dX10_isSooner_17 : decode cX10_isSooner 17 = .ok (.invokevirtual 87, 3) := by decide +kernel
theorem dX10_isSooner_20 : decode cX10_isSooner 20 = .ok (.fcmp .g, 1) := by decide +kernel
theorem dX10_isSooner_21 : decode cX10_isSooner 21 = .ok (.ifCond .ge 7, 3) := by decide +kernel
theorem dX10_isSooner_24 : decode cX10_isSooner 24 = .ok (.iconst 1, 1) := by decide +kernel
theorem dX10_isSooner_25 : decode cX10_isSooner 25 = .ok (.goto 4, 3) := by decide +kernel
theorem dX10_isSooner_28 : decode cX10_isSooner 28 = .ok (.iconst 0, 1) := by decide +kernel
theorem dX10_isSooner_29 : decode cX10_isSooner 29 = .ok (.ireturn, 1) := by decide +kernel
theorem dX10_isSooner_30 : decode cX10_isSooner 30 = .ok (.aload_n 0, 1) := by decide +kernel
theorem dX10_isSooner_31 : decode cX10_isSooner 31 = .ok (.iload_n 1, 1) := by decide +kernel
theorem dX10_isSooner_32 : decode cX10_isSooner 32 = .ok (.iconst 2, 1) := by decide +kernel
theorem dX10_isSooner_33 : decode cX10_isSooner 33 = .ok (.invokevirtual 72, 3) := by decide +kernel
theorem dX10_isSooner_36 : decode cX10_isSooner 36 = .ok (.aload_n 0, 1) := by decide +kernel
theorem dX10_isSooner_37 : decode cX10_isSooner 37 = .ok (.iload_n 2, 1) := by decide +kernel
theorem dX10_isSooner_38 : decode cX10_isSooner 38 = .ok (.iconst 2, 1) := by decide +kernel
theorem dX10_isSooner_39 : decode cX10_isSooner 39 = .ok (.invokevirtual 72, 3) := by decide +kernel
theorem dX10_isSooner_42 : decode cX10_isSooner 42 = .ok (.isub, 1) := by decide +kernel
theorem dX10_isSooner_43 : decode cX10_isSooner 43 = .ok (.istore_n 3, 1) := by decide +kernel
theorem dX10_isSooner_44 : decode cX10_isSooner 44 = .ok (.aload_n 0, 1) := by decide +kernel
theorem dX10_isSooner_45 : decode cX10_isSooner 45 = .ok (.getfield 7, 3) := by decide +kernel
theorem dX10_isSooner_48 : decode cX10_isSooner 48 = .ok (.iconst 4, 1) := by decide +kernel
theorem dX10_isSooner_49 : decode cX10_isSooner 49 = .ok (.iaload, 1) := by decide +kernel
theorem dX10_isSooner_50 : decode cX10_isSooner 50 = .ok (.ifCond .ne 15, 3) := by decide +kernel
theorem dX10_isSooner_53 : decode cX10_isSooner 53 = .ok (.iload_n 3, 1) := by decide +kernel
theorem dX10_isSooner_54 : decode cX10_isSooner 54 = .ok (.ifCond .ge 7, 3) := by decide +kernel
theorem dX10_isSooner_57 : decode cX10_isSooner 57 = .ok (.iconst 1, 1) := by decide +kernel
theorem dX10_isSooner_58 : decode cX10_isSooner 58 = .ok (.goto 16, 3) := by decide +kernel
theorem dX10_isSooner_61 : decode cX10_isSooner 61 = .ok (.iconst 0, 1) := by decide +kernel
theorem dX10_isSooner_62 : decode cX10_isSooner 62 = .ok (.goto 12, 3) := by decide +kernel
theorem dX10_isSooner_65 : decode cX10_isSooner 65 = .ok (.iload_n 3, 1) := by decide +kernel
theorem dX10_isSooner_66 : decode cX10_isSooner 66 = .ok (.ifCond .le 7, 3) := by decide +kernel
theorem dX10_isSooner_69 : decode cX10_isSooner 69 = .ok (.iconst 1, 1) := by decide +kernel
theorem dX10_isSooner_70 : decode cX10_isSooner 70 = .ok (.goto 4, 3) := by decide +kernel
theorem dX10_isSooner_73 : decode cX10_isSooner 73 = .ok (.iconst 0, 1) := by decide +kernel
theorem dX10_isSooner_74 : decode cX10_isSooner 74 = .ok (.ireturn, 1) := by decide +kernel
set_option maxRecDepth 20000 in
theorem ggX10_nextBatch_X10_ofBatch : GoodIn wsX10_nextBatch wsX10_ofBatch := goodIn_r _ [7, 1, 34, 35, 36, 37, 38, 39, 40, 41, 42, 43, 44, 45, 46, 47, 48, 49, 50, 51, 52] (by decide +kernel) (by decide +kernel)
set_option maxRecDepth 20000 in
theorem gX10_nextBatch_X10_ofBatch : GoodIn wsX10_nextBatch (wsV RX10 72 RX10 yX10_ofBatch wsX10_ofBatch) := goodIn_app (goodIn_of _ (by decide +kernel)) ggX10_nextBatch_X10_ofBatch
set_option maxRecDepth 20000 in
theorem ggX10_nextBatch_X10_isSooner : GoodIn wsX10_nextBatch wsX10_isSooner := goodIn_r _ [11, 1, 12, 13, 14, 6, 15, 16, 17, 18, 19, 20, 3, 4, 5, 7, 21, 22, 23, 24, 25, 26, 27, 28, 29, 30, 31, 32, 33, 34, 35, 36, 37, 38, 39, 40, 41, 42, 43, 44, 45, 46, 47, 48, 49, 50, 51, 52] (by decide +kernel) (by decide +kernel)
set_option maxRecDepth 20000 in
theorem gX10_nextBatch_X10_isSooner : GoodIn wsX10_nextBatch (wsV RX10 90 RX10 yX10_isSooner wsX10_isSooner) := goodIn_app (goodIn_of _ (by decide +kernel)) ggX10_nextBatch_X10_isSooner
theorem dX10_nextBatch_0 : decode cX10_nextBatch 0 = .ok (.bipush (-5), 2) := by decide +kernel
theorem dX10_nextBatch_2 : decode cX10_nextBatch 2 = .ok (.istore_n 3, 1) := by decide +kernel
theorem dX10_nextBatch_3 : decode cX10_nextBatch 3 = .ok (.iconst 0, 1) := by decide +kernel
theorem dX10_nextBatch_4 : decode cX10_nextBatch 4 = .ok (.istore 4, 2) := by decide +kernel
theorem dX10_nextBatch_6 : decode cX10_nextBatch 6 = .ok (.iload 4, 2) := by decide +kernel
theorem dX10_nextBatch_8 : decode cX10_nextBatch 8 = .ok (.aload_n 0, 1) := by decide +kernel
theorem dX10_nextBatch_9 : decode cX10_nextBatch 9 = .ok (.getfield 7, 3) := by decide +kernel
theorem dX10_nextBatch_12 : decode cX10_nextBatch 12 = .ok (.iconst 2, 1) := by decide +kernel
theorem dX10_nextBatch_13 : decode cX10_nextBatch 13 = .ok (.iaload, 1) := by decide +kernel
theorem dX10_nextBatch_14 : decode cX10_nextBatch 14 = .ok (.if_icmp .ge 82, 3) := by decide +kernel
theorem dX10_nextBatch_17 : decode cX10_nextBatch 17 = .ok (.aload_n 0, 1) := by decide +kernel
theorem dX10_nextBatch_18 : decode cX10_nextBatch 18 = .ok (.getfield 26, 3) := by decide +kernel
theorem dX10_nextBatch_21 : decode cX10_nextBatch 21 = .ok (.iload 4, 2) := by decide +kernel
theorem dX10_nextBatch_23 : decode cX10_nextBatch 23 = .ok (.baload, 1) := by decide +kernel
theorem dX10_nextBatch_24 : decode cX10_nextBatch 24 = .ok (.ifCond .ne 39, 3) := by decide +kernel
theorem dX10_nextBatch_27 : decode cX10_nextBatch 27 = .ok (.aload_n 0, 1) := by decide +kernel
theorem dX10_nextBatch_28 : decode cX10_nextBatch 28 = .ok (.iload 4, 2) := by decide +kernel
theorem dX10_nextBatch_30 : decode cX10_nextBatch 30 = .ok (.iconst 0, 1) := by decide +kernel
theorem dX10_nextBatch_31 : decode cX10_nextBatch 31 = .ok (.invokevirtual 72, 3) := by decide +kernel
theorem dX10_nextBatch_34 : decode cX10_nextBatch 34 = .ok (.iload_n 1, 1) := by decide +kernel
theorem dX10_nextBatch_35 : decode cX10_nextBatch 35 = .ok (.if_icmp .ne 28, 3) := by decide +kernel
theorem dX10_nextBatch_38 : decode cX10_nextBatch 38 = .ok (.aload_n 0, 1) := by decide +kernel
theorem dX10_nextBatch_39 : decode cX10_nextBatch 39 = .ok (.iload 4, 2) := by decide +kernel
theorem dX10_nextBatch_41 : decode cX10_nextBatch 41 = .ok (.iconst 3, 1) := by decide +kernel
theorem dX10_nextBatch_42 : decode cX10_nextBatch 42 = .ok (.invokevirtual 72, 3) := by decide +kernel
theorem dX10_nextBatch_45 : decode cX10_nextBatch 45 = .ok (.ifCond .le 18, 3) := by decide +kernel
theorem dX10_nextBatch_48 : decode cX10_nextBatch 48 = .ok (.aload_n 0, 1) := by decide +kernel
theorem dX10_nextBatch_49 : decode cX10_nextBatch 49 = .ok (.iload 4, 2) := by decide +kernel
theorem dX10_nextBatch_51 : decode cX10_nextBatch 51 = .ok (.iconst 2, 1) := by decide +kernel
theorem dX10_nextBatch_52 : decode cX10_nextBatch 52 = .ok (.invokevirtual 72, 3) := by decide +kernel
theorem dX10_nextBatch_55 : decode cX10_nextBatch 55 = .ok (.iload_n 2, 1) := by decide +kernel
theorem dX10_nextBatch_56 : decode cX10_nextBatch 56 = .ok (.if_icmp .lt 7, 3) := by decide +kernel
theorem dX10_nextBatch_59 : decode cX10_nextBatch 59 = .ok (.iconst 1, 1) := by decide +kernel
theorem dX10_nextBatch_60 : decode cX10_nextBatch 60 = .ok (.goto 4, 3) := by decide +kernel
theorem dX10_nextBatch_63 : decode cX10_nextBatch 63 = .ok (.iconst 0, 1) := by decide +kernel
theorem dX10_nextBatch_64 : decode cX10_nextBatch 64 = .ok (.istore 5, 2) := by decide +kernel
theorem dX10_nextBatch_66 : decode cX10_nextBatch 66 = .ok (.iload 5, 2) := by decide +kernel
theorem dX10_nextBatch_68 : decode cX10_nextBatch 68 = .ok (.ifCond .eq 22, 3) := by decide +kernel
theorem dX10_nextBatch_71 : decode cX10_nextBatch 71 = .ok (.iload_n 3, 1) := by decide +kernel
theorem dX10_nextBatch_72 : decode cX10_nextBatch 72 = .ok (.bipush (-5), 2) := by decide +kernel
theorem dX10_nextBatch_74 : decode cX10_nextBatch 74 = .ok (.if_icmp .eq 13, 3) := by decide +kernel
theorem dX10_nextBatch_77 : decode cX10_nextBatch 77 = .ok (.aload_n 0, 1) := by decide +kernel
theorem dX10_nextBatch_78 : decode cX10_nextBatch 78 = .ok (.iload 4, 2) := by decide +kernel
theorem dX10_nextBatch_80 : decode cX10_nextBatch 80 = .ok (.iload_n 3, 1) := by decide +kernel
theorem dX10_nextBatch_81 : decode cX10_nextBatch 81 = .ok (.invokevirtual 90, 3) := by decide +kernel
theorem dX10_nextBatch_84 : decode cX10_nextBatch 84 = .ok (.ifCond .eq 6, 3) := by decide +kernel
theorem dX10_nextBatch_87 : decode cX10_nextBatch 87 = .ok (.iload 4, 2) := by decide +kernel
theorem dX10_nextBatch_89 : decode cX10_nextBatch 89 = .ok (.istore_n 3, 1) := by decide +kernel
theorem dX10_nextBatch_90 : decode cX10_nextBatch 90 = .ok (.iinc 4 1, 3) := by decide +kernel
theorem dX10_nextBatch_93 : decode cX10_nextBatch 93 = .ok (.goto (-87), 3) := by decide +kernel
theorem dX10_nextBatch_96 : decode cX10_nextBatch 96 = .ok (.iload_n 3, 1) := by decide +kernel
theorem dX10_nextBatch_97 : decode cX10_nextBatch 97 = .ok (.ireturn, 1) := by decide +kernel
set_option maxRecDepth 20000 in
theorem ggX10_centsOf_X10_priceOf : GoodIn wsX10_centsOf wsX10_priceOf := goodIn_r _ [5, 6, 7, 8, 9, 10, 4, 11, 12, 13, 14, 15, 16, 17, 18, 19, 20, 21, 22, 23, 24, 25, 26, 27, 28, 29, 30, 31, 32, 33, 34, 35, 36, 37, 38, 39, 40, 41, 42, 43, 44, 45, 46, 47] (by decide +kernel) (by decide +kernel)
set_option maxRecDepth 20000 in
theorem gX10_centsOf_X10_priceOf : GoodIn wsX10_centsOf (wsV RX10 87 RX10 yX10_priceOf wsX10_priceOf) := goodIn_app (goodIn_of _ (by decide +kernel)) ggX10_centsOf_X10_priceOf
set_option maxRecDepth 20000 in
theorem ggX10_centsOf_X10_ofBatch : GoodIn wsX10_centsOf wsX10_ofBatch := goodIn_r _ [15, 6, 29, 30, 31, 32, 33, 34, 35, 36, 37, 38, 39, 40, 41, 42, 43, 44, 45, 46, 47] (by decide +kernel) (by decide +kernel)
set_option maxRecDepth 20000 in
theorem gX10_centsOf_X10_ofBatch : GoodIn wsX10_centsOf (wsV RX10 72 RX10 yX10_ofBatch wsX10_ofBatch) := goodIn_app (goodIn_of _ (by decide +kernel)) ggX10_centsOf_X10_ofBatch
set_option maxRecDepth 20000 in
theorem ggX10_centsOf_X10_ofGood : GoodIn wsX10_centsOf wsX10_ofGood := goodIn_r _ [19, 6, 29, 30, 31, 32, 33, 34, 35, 36, 37, 38, 39, 40, 41, 42, 43, 44, 45, 46, 47] (by decide +kernel) (by decide +kernel)
set_option maxRecDepth 20000 in
theorem gX10_centsOf_X10_ofGood : GoodIn wsX10_centsOf (wsV RX10 64 RX10 yX10_ofGood wsX10_ofGood) := goodIn_app (goodIn_of _ (by decide +kernel)) ggX10_centsOf_X10_ofGood
theorem dX10_centsOf_0 : decode cX10_centsOf 0 = .ok (.aload_n 0, 1) := by decide +kernel
theorem dX10_centsOf_1 : decode cX10_centsOf 1 = .ok (.iload_n 1, 1) := by decide +kernel
theorem dX10_centsOf_2 : decode cX10_centsOf 2 = .ok (.invokevirtual 87, 3) := by decide +kernel
theorem dX10_centsOf_5 : decode cX10_centsOf 5 = .ok (.fstore 4, 2) := by decide +kernel
theorem dX10_centsOf_7 : decode cX10_centsOf 7 = .ok (.aload_n 0, 1) := by decide +kernel
theorem dX10_centsOf_8 : decode cX10_centsOf 8 = .ok (.aload_n 0, 1) := by decide +kernel
theorem dX10_centsOf_9 : decode cX10_centsOf 9 = .ok (.iload_n 1, 1) := by decide +kernel
theorem dX10_centsOf_10 : decode cX10_centsOf 10 = .ok (.iconst 0, 1) := by decide +kernel
theorem dX10_centsOf_11 : decode cX10_centsOf 11 = .ok (.invokevirtual 72, 3) := by decide +kernel
theorem dX10_centsOf_14 : decode cX10_centsOf 14 = .ok (.iconst 0, 1) := by decide +kernel
theorem dX10_centsOf_15 : decode cX10_centsOf 15 = .ok (.invokevirtual 64, 3) := by decide +kernel
theorem dX10_centsOf_18 : decode cX10_centsOf 18 = .ok (.istore 5, 2) := by decide +kernel
theorem dX10_centsOf_20 : decode cX10_centsOf 20 = .ok (.aload_n 0, 1) := by decide +kernel
theorem dX10_centsOf_21 : decode cX10_centsOf 21 = .ok (.iload_n 3, 1) := by decide +kernel
theorem dX10_centsOf_22 : decode cX10_centsOf 22 = .ok (.iconst 0, 1) := by decide +kernel
theorem dX10_centsOf_23 : decode cX10_centsOf 23 = .ok (.invokevirtual 64, 3) := by decide +kernel
theorem dX10_centsOf_26 : decode cX10_centsOf 26 = .ok (.istore 6, 2) := by decide +kernel
theorem dX10_centsOf_28 : decode cX10_centsOf 28 = .ok (.iload 6, 2) := by decide +kernel
theorem dX10_centsOf_30 : decode cX10_centsOf 30 = .ok (.i2f, 1) := by decide +kernel
theorem dX10_centsOf_31 : decode cX10_centsOf 31 = .ok (.fstore 7, 2) := by decide +kernel
theorem dX10_centsOf_33 : decode cX10_centsOf 33 = .ok (.aload_n 0, 1) := by decide +kernel
theorem dX10_centsOf_34 : decode cX10_centsOf 34 = .ok (.iload_n 1, 1) := by decide +kernel
theorem dX10_centsOf_35 : decode cX10_centsOf 35 = .ok (.iconst 0, 1) := by decide +kernel
theorem dX10_centsOf_36 : decode cX10_centsOf 36 = .ok (.invokevirtual 72, 3) := by decide +kernel
theorem dX10_centsOf_39 : decode cX10_centsOf 39 = .ok (.iload_n 3, 1) := by decide +kernel
theorem dX10_centsOf_40 : decode cX10_centsOf 40 = .ok (.if_icmp .eq 23, 3) := by decide +kernel
theorem dX10_centsOf_43 : decode cX10_centsOf 43 = .ok (.iload 5, 2) := by decide +kernel
theorem dX10_centsOf_45 : decode cX10_centsOf 45 = .ok (.iload 6, 2) := by decide +kernel
theorem dX10_centsOf_47 : decode cX10_centsOf 47 = .ok (.if_icmp .le 16, 3) := by decide +kernel
theorem dX10_centsOf_50 : decode cX10_centsOf 50 = .ok (.fload 4, 2) := by decide +kernel
theorem dX10_centsOf_52 : decode cX10_centsOf 52 = .ok (.fload 7, 2) := by decide +kernel
theorem dX10_centsOf_54 : decode cX10_centsOf 54 = .ok (.fcmp .l, 1) := by decide +kernel
theorem dX10_centsOf_55 : decode cX10_centsOf 55 = .ok (.ifCond .le 8, 3) := by decide +kernel
theorem dX10_centsOf_58 : decode cX10_centsOf 58 = .ok (.fload 7, 2) := by decide +kernel
theorem dX10_centsOf_60 : decode cX10_centsOf 60 = .ok (.goto 5, 3) := by decide +kernel
theorem dX10_centsOf_63 : decode cX10_centsOf 63 = .ok (.fload 4, 2) := by decide +kernel
theorem dX10_centsOf_65 : decode cX10_centsOf 65 = .ok (.fstore 8, 2) := by decide +kernel
theorem dX10_centsOf_67 : decode cX10_centsOf 67 = .ok (.iload_n 2, 1) := by decide +kernel
theorem dX10_centsOf_68 : decode cX10_centsOf 68 = .ok (.i2f, 1) := by decide +kernel
theorem dX10_centsOf_69 : decode cX10_centsOf 69 = .ok (.fstore 9, 2) := by decide +kernel
theorem dX10_centsOf_71 : decode cX10_centsOf 71 = .ok (.fload 9, 2) := by decide +kernel
theorem dX10_centsOf_73 : decode cX10_centsOf 73 = .ok (.fload 8, 2) := by decide +kernel
theorem dX10_centsOf_75 : decode cX10_centsOf 75 = .ok (.fmul, 1) := by decide +kernel
theorem dX10_centsOf_76 : decode cX10_centsOf 76 = .ok (.f2i, 1) := by decide +kernel
theorem dX10_centsOf_77 : decode cX10_centsOf 77 = .ok (.ireturn, 1) := by decide +kernel
set_option maxRecDepth 20000 in
theorem ggX10_takeFrom_X10_nextBatch : GoodIn wsX10_takeFrom wsX10_nextBatch := goodIn_r _ [12, 13, 2, 14, 15, 16, 11, 17, 18, 19, 20, 21, 22, 23, 24, 25, 26, 27, 28, 29, 30, 31, 32, 33, 34, 35, 36, 37, 38, 39, 40, 41, 42, 43, 48, 49, 50, 51, 52, 53, 54, 55, 56, 57, 58, 59, 60, 61, 62, 63, 64, 65, 66] (by decide +kernel) (by decide +kernel)
set_option maxRecDepth 20000 in
theorem gX10_takeFrom_X10_nextBatch : GoodIn wsX10_takeFrom (wsV RX10 94 RX10 yX10_nextBatch wsX10_nextBatch) := goodIn_app (goodIn_of _ (by decide +kernel)) ggX10_takeFrom_X10_nextBatch
set_option maxRecDepth 20000 in
theorem ggX10_takeFrom_X10_ofBatch : GoodIn wsX10_takeFrom wsX10_ofBatch := goodIn_r _ [17, 13, 48, 49, 50, 51, 52, 53, 54, 55, 56, 57, 58, 59, 60, 61, 62, 63, 64, 65, 66] (by decide +kernel) (by decide +kernel)
set_option maxRecDepth 20000 in
theorem gX10_takeFrom_X10_ofBatch : GoodIn wsX10_takeFrom (wsV RX10 72 RX10 yX10_ofBatch wsX10_ofBatch) := goodIn_app (goodIn_of _ (by decide +kernel)) ggX10_takeFrom_X10_ofBatch
set_option maxRecDepth 20000 in
theorem ggX10_takeFrom_X10_centsOf : GoodIn wsX10_takeFrom wsX10_centsOf := goodIn_r _ [47, 22, 23, 24, 11, 25, 13, 26, 27, 28, 29, 30, 14, 15, 16, 17, 31, 32, 33, 34, 35, 36, 37, 38, 39, 40, 41, 42, 43, 48, 49, 50, 51, 52, 53, 54, 55, 56, 57, 58, 59, 60, 61, 62, 63, 64, 65, 66] (by decide +kernel) (by decide +kernel)
set_option maxRecDepth 20000 in
theorem gX10_takeFrom_X10_centsOf : GoodIn wsX10_takeFrom (wsV RX10 103 RX10 yX10_centsOf wsX10_centsOf) := goodIn_app (goodIn_of _ (by decide +kernel)) ggX10_takeFrom_X10_centsOf
theorem dX10_takeFrom_0 : decode cX10_takeFrom 0 = .ok (.aload_n 0, 1) := by decide +kernel
theorem dX10_takeFrom_1 : decode cX10_takeFrom 1 = .ok (.iload_n 1, 1) := by decide +kernel
theorem dX10_takeFrom_2 : decode cX10_takeFrom 2 = .ok (.iload 4, 2) := by decide +kernel
theorem dX10_takeFrom_4 : decode cX10_takeFrom 4 = .ok (.invokevirtual 94, 3) := by decide +kernel
theorem dX10_takeFrom_7 : decode cX10_takeFrom 7 = .ok (.istore 5, 2) := by decide +kernel
theorem dX10_takeFrom_9 : decode cX10_takeFrom 9 = .ok (.iload 5, 2) := by decide +kernel
theorem dX10_takeFrom_11 : decode cX10_takeFrom 11 = .ok (.bipush (-5), 2) := by decide +kernel
theorem dX10_takeFrom_13 : decode cX10_takeFrom 13 = .ok (.if_icmp .eq 145, 3) := by decide +kernel
theorem dX10_takeFrom_16 : decode cX10_takeFrom 16 = .ok (.aload_n 0, 1) := by decide +kernel
theorem dX10_takeFrom_17 : decode cX10_takeFrom 17 = .ok (.getfield 97, 3) := by decide +kernel
theorem dX10_takeFrom_20 : decode cX10_takeFrom 20 = .ok (.iload_n 3, 1) := by decide +kernel
theorem dX10_takeFrom_21 : decode cX10_takeFrom 21 = .ok (.if_icmp .ge 137, 3) := by decide +kernel
theorem dX10_takeFrom_24 : decode cX10_takeFrom 24 = .ok (.aload_n 0, 1) := by decide +kernel
theorem dX10_takeFrom_25 : decode cX10_takeFrom 25 = .ok (.iload 5, 2) := by decide +kernel
theorem dX10_takeFrom_27 : decode cX10_takeFrom 27 = .ok (.iconst 3, 1) := by decide +kernel
theorem dX10_takeFrom_28 : decode cX10_takeFrom 28 = .ok (.invokevirtual 72, 3) := by decide +kernel
theorem dX10_takeFrom_31 : decode cX10_takeFrom 31 = .ok (.istore 6, 2) := by decide +kernel
theorem dX10_takeFrom_33 : decode cX10_takeFrom 33 = .ok (.iload 6, 2) := by decide +kernel
theorem dX10_takeFrom_35 : decode cX10_takeFrom 35 = .ok (.iload_n 3, 1) := by decide +kernel
theorem dX10_takeFrom_36 : decode cX10_takeFrom 36 = .ok (.aload_n 0, 1) := by decide +kernel
theorem dX10_takeFrom_37 : decode cX10_takeFrom 37 = .ok (.getfield 97, 3) := by decide +kernel
theorem dX10_takeFrom_40 : decode cX10_takeFrom 40 = .ok (.isub, 1) := by decide +kernel
theorem dX10_takeFrom_41 : decode cX10_takeFrom 41 = .ok (.if_icmp .ge 8, 3) := by decide +kernel
theorem dX10_takeFrom_44 : decode cX10_takeFrom 44 = .ok (.iload 6, 2) := by decide +kernel
theorem dX10_takeFrom_46 : decode cX10_takeFrom 46 = .ok (.goto 9, 3) := by decide +kernel
theorem dX10_takeFrom_49 : decode cX10_takeFrom 49 = .ok (.iload_n 3, 1) := by decide +kernel
theorem dX10_takeFrom_50 : decode cX10_takeFrom 50 = .ok (.aload_n 0, 1) := by decide +kernel
theorem dX10_takeFrom_51 : decode cX10_takeFrom 51 = .ok (.getfield 97, 3) := by decide +kernel
theorem dX10_takeFrom_54 : decode cX10_takeFrom 54 = .ok (.isub, 1) := by decide +kernel
theorem dX10_takeFrom_55 : decode cX10_takeFrom 55 = .ok (.istore 7, 2) := by decide +kernel
theorem dX10_takeFrom_57 : decode cX10_takeFrom 57 = .ok (.aload_n 0, 1) := by decide +kernel
theorem dX10_takeFrom_58 : decode cX10_takeFrom 58 = .ok (.getfield 26, 3) := by decide +kernel
theorem dX10_takeFrom_61 : decode cX10_takeFrom 61 = .ok (.iload 5, 2) := by decide +kernel
theorem dX10_takeFrom_63 : decode cX10_takeFrom 63 = .ok (.iconst 1, 1) := by decide +kernel
theorem dX10_takeFrom_64 : decode cX10_takeFrom 64 = .ok (.bastore, 1) := by decide +kernel
theorem dX10_takeFrom_65 : decode cX10_takeFrom 65 = .ok (.aload_n 0, 1) := by decide +kernel
theorem dX10_takeFrom_66 : decode cX10_takeFrom 66 = .ok (.getfield 30, 3) := by decide +kernel
theorem dX10_takeFrom_69 : decode cX10_takeFrom 69 = .ok (.aload_n 0, 1) := by decide +kernel
theorem dX10_takeFrom_70 : decode cX10_takeFrom 70 = .ok (.getfield 100, 3) := by decide +kernel
theorem dX10_takeFrom_73 : decode cX10_takeFrom 73 = .ok (.iload 5, 2) := by decide +kernel
theorem dX10_takeFrom_75 : decode cX10_takeFrom 75 = .ok (.iastore, 1) := by decide +kernel
theorem dX10_takeFrom_76 : decode cX10_takeFrom 76 = .ok (.aload_n 0, 1) := by decide +kernel
theorem dX10_takeFrom_77 : decode cX10_takeFrom 77 = .ok (.getfield 33, 3) := by decide +kernel
theorem dX10_takeFrom_80 : decode cX10_takeFrom 80 = .ok (.aload_n 0, 1) := by decide +kernel
theorem dX10_takeFrom_81 : decode cX10_takeFrom 81 = .ok (.getfield 100, 3) := by decide +kernel
theorem dX10_takeFrom_84 : decode cX10_takeFrom 84 = .ok (.iload 7, 2) := by decide +kernel
theorem dX10_takeFrom_86 : decode cX10_takeFrom 86 = .ok (.iastore, 1) := by decide +kernel
theorem dX10_takeFrom_87 : decode cX10_takeFrom 87 = .ok (.aload_n 0, 1) := by decide +kernel
theorem dX10_takeFrom_88 : decode cX10_takeFrom 88 = .ok (.getfield 36, 3) := by decide +kernel
theorem dX10_takeFrom_91 : decode cX10_takeFrom 91 = .ok (.aload_n 0, 1) := by decide +kernel
theorem dX10_takeFrom_92 : decode cX10_takeFrom 92 = .ok (.getfield 100, 3) := by decide +kernel
theorem dX10_takeFrom_95 : decode cX10_takeFrom 95 = .ok (.aload_n 0, 1) := by decide +kernel
theorem dX10_takeFrom_96 : decode cX10_takeFrom 96 = .ok (.iload 5, 2) := by decide +kernel
theorem dX10_takeFrom_98 : decode cX10_takeFrom 98 = .ok (.iload 7, 2) := by decide +kernel
theorem dX10_takeFrom_100 : decode cX10_takeFrom 100 = .ok (.iload_n 2, 1) := by decide +kernel
theorem dX10_takeFrom_101 : decode cX10_takeFrom 101 = .ok (.invokevirtual 103, 3) := by decide +kernel
theorem dX10_takeFrom_104 : decode cX10_takeFrom 104 = .ok (.iastore, 1) := by decide +kernel
theorem dX10_takeFrom_105 : decode cX10_takeFrom 105 = .ok (.aload_n 0, 1) := by decide +kernel
theorem dX10_takeFrom_106 : decode cX10_takeFrom 106 = .ok (.dup, 1) := by decide +kernel
theorem dX10_takeFrom_107 : decode cX10_takeFrom 107 = .ok (.getfield 100, 3) := by decide +kernel
theorem dX10_takeFrom_110 : decode cX10_takeFrom 110 = .ok (.iconst 1, 1) := by decide +kernel
theorem dX10_takeFrom_111 : decode cX10_takeFrom 111 = .ok (.iadd, 1) := by decide +kernel
theorem dX10_takeFrom_112 : decode cX10_takeFrom 112 = .ok (.putfield 100, 3) := by decide +kernel
theorem dX10_takeFrom_115 : decode cX10_takeFrom 115 = .ok (.aload_n 0, 1) := by decide +kernel
theorem dX10_takeFrom_116 : decode cX10_takeFrom 116 = .ok (.dup, 1) := by decide +kernel
theorem dX10_takeFrom_117 : decode cX10_takeFrom 117 = .ok (.getfield 97, 3) := by decide +kernel
theorem dX10_takeFrom_120 : decode cX10_takeFrom 120 = .ok (.iload 7, 2) := by decide +kernel
theorem dX10_takeFrom_122 : decode cX10_takeFrom 122 = .ok (.iadd, 1) := by decide +kernel
theorem dX10_takeFrom_123 : decode cX10_takeFrom 123 = .ok (.putfield 97, 3) := by decide +kernel
theorem dX10_takeFrom_126 : decode cX10_takeFrom 126 = .ok (.aload_n 0, 1) := by decide +kernel
theorem dX10_takeFrom_127 : decode cX10_takeFrom 127 = .ok (.dup, 1) := by decide +kernel
theorem dX10_takeFrom_128 : decode cX10_takeFrom 128 = .ok (.getfield 107, 3) := by decide +kernel
theorem dX10_takeFrom_131 : decode cX10_takeFrom 131 = .ok (.iload_n 1, 1) := by decide +kernel
theorem dX10_takeFrom_132 : decode cX10_takeFrom 132 = .ok (.iload_n 2, 1) := by decide +kernel
theorem dX10_takeFrom_133 : decode cX10_takeFrom 133 = .ok (.if_icmp .ne 7, 3) := by decide +kernel
theorem dX10_takeFrom_136 : decode cX10_takeFrom 136 = .ok (.iconst 0, 1) := by decide +kernel
theorem dX10_takeFrom_137 : decode cX10_takeFrom 137 = .ok (.goto 5, 3) := by decide +kernel
theorem dX10_takeFrom_140 : decode cX10_takeFrom 140 = .ok (.iload 7, 2) := by decide +kernel
theorem dX10_takeFrom_142 : decode cX10_takeFrom 142 = .ok (.iadd, 1) := by decide +kernel
theorem dX10_takeFrom_143 : decode cX10_takeFrom 143 = .ok (.putfield 107, 3) := by decide +kernel
theorem dX10_takeFrom_146 : decode cX10_takeFrom 146 = .ok (.aload_n 0, 1) := by decide +kernel
theorem dX10_takeFrom_147 : decode cX10_takeFrom 147 = .ok (.iload_n 1, 1) := by decide +kernel
theorem dX10_takeFrom_148 : decode cX10_takeFrom 148 = .ok (.iload 4, 2) := by decide +kernel
theorem dX10_takeFrom_150 : decode cX10_takeFrom 150 = .ok (.invokevirtual 94, 3) := by decide +kernel
theorem dX10_takeFrom_153 : decode cX10_takeFrom 153 = .ok (.istore 5, 2) := by decide +kernel
theorem dX10_takeFrom_155 : decode cX10_takeFrom 155 = .ok (.goto (-146), 3) := by decide +kernel
theorem dX10_takeFrom_158 : decode cX10_takeFrom 158 = .ok (.return_, 1) := by decide +kernel
set_option maxRecDepth 20000 in
theorem ggX10_plan_X10_takeFrom : GoodIn wsX10_plan wsX10_takeFrom := goodIn_r _ [9, 2, 4, 10, 1, 11, 12, 3, 13, 14, 15, 8, 16, 17, 18, 19, 20, 21, 22, 23, 24, 25, 26, 27, 28, 29, 30, 31, 32, 33, 34, 35, 36, 37, 38, 39, 40, 41, 42, 43, 44, 45, 46, 47, 48, 49, 50, 51, 52, 53, 54, 55, 56, 57, 58, 59, 60, 61, 62, 63, 64, 65, 66, 67, 68, 69, 70] (by decide +kernel) (by decide +kernel)
set_option maxRecDepth 20000 in
theorem gX10_plan_X10_takeFrom : GoodIn wsX10_plan (wsV RX10 110 RX10 yX10_takeFrom wsX10_takeFrom) := goodIn_app (goodIn_of _ (by decide +kernel)) ggX10_plan_X10_takeFrom
set_option maxRecDepth 20000 in
theorem ggX10_plan_X10_ofGood : GoodIn wsX10_plan wsX10_ofGood := goodIn_r _ [38, 17, 52, 53, 54, 55, 56, 57, 58, 59, 60, 61, 62, 63, 64, 65, 66, 67, 68, 69, 70] (by decide +kernel) (by decide +kernel)
set_option maxRecDepth 20000 in
theorem gX10_plan_X10_ofGood : GoodIn wsX10_plan (wsV RX10 64 RX10 yX10_ofGood wsX10_ofGood) := goodIn_app (goodIn_of _ (by decide +kernel)) ggX10_plan_X10_ofGood
theorem dX10_plan_0 : decode cX10_plan 0 = .ok (.aload_n 0, 1) := by decide +kernel
theorem dX10_plan_1 : decode cX10_plan 1 = .ok (.iconst 0, 1) := by decide +kernel
theorem dX10_plan_2 : decode cX10_plan 2 = .ok (.putfield 100, 3) := by decide +kernel
theorem dX10_plan_5 : decode cX10_plan 5 = .ok (.aload_n 0, 1) := by decide +kernel
theorem dX10_plan_6 : decode cX10_plan 6 = .ok (.iconst 0, 1) := by decide +kernel
theorem dX10_plan_7 : decode cX10_plan 7 = .ok (.putfield 97, 3) := by decide +kernel
theorem dX10_plan_10 : decode cX10_plan 10 = .ok (.aload_n 0, 1) := by decide +kernel
theorem dX10_plan_11 : decode cX10_plan 11 = .ok (.iconst 0, 1) := by decide +kernel
theorem dX10_plan_12 : decode cX10_plan 12 = .ok (.putfield 107, 3) := by decide +kernel
theorem dX10_plan_15 : decode cX10_plan 15 = .ok (.iconst 0, 1) := by decide +kernel
theorem dX10_plan_16 : decode cX10_plan 16 = .ok (.istore 5, 2) := by decide +kernel
theorem dX10_plan_18 : decode cX10_plan 18 = .ok (.iload 5, 2) := by decide +kernel
theorem dX10_plan_20 : decode cX10_plan 20 = .ok (.bipush 40, 2) := by decide +kernel
theorem dX10_plan_22 : decode cX10_plan 22 = .ok (.if_icmp .ge 17, 3) := by decide +kernel
theorem dX10_plan_25 : decode cX10_plan 25 = .ok (.aload_n 0, 1) := by decide +kernel
theorem dX10_plan_26 : decode cX10_plan 26 = .ok (.getfield 26, 3) := by decide +kernel
theorem dX10_plan_29 : decode cX10_plan 29 = .ok (.iload 5, 2) := by decide +kernel
theorem dX10_plan_31 : decode cX10_plan 31 = .ok (.iconst 0, 1) := by decide +kernel
theorem dX10_plan_32 : decode cX10_plan 32 = .ok (.bastore, 1) := by decide +kernel
theorem dX10_plan_33 : decode cX10_plan 33 = .ok (.iinc 5 1, 3) := by decide +kernel
theorem dX10_plan_36 : decode cX10_plan 36 = .ok (.goto (-18), 3) := by decide +kernel
theorem dX10_plan_39 : decode cX10_plan 39 = .ok (.aload_n 0, 1) := by decide +kernel
theorem dX10_plan_40 : decode cX10_plan 40 = .ok (.iload_n 1, 1) := by decide +kernel
theorem dX10_plan_41 : decode cX10_plan 41 = .ok (.iload_n 1, 1) := by decide +kernel
theorem dX10_plan_42 : decode cX10_plan 42 = .ok (.iload_n 2, 1) := by decide +kernel
theorem dX10_plan_43 : decode cX10_plan 43 = .ok (.iload_n 3, 1) := by decide +kernel
theorem dX10_plan_44 : decode cX10_plan 44 = .ok (.invokevirtual 110, 3) := by decide +kernel
theorem dX10_plan_47 : decode cX10_plan 47 = .ok (.iconst 0, 1) := by decide +kernel
theorem dX10_plan_48 : decode cX10_plan 48 = .ok (.istore 5, 2) := by decide +kernel
theorem dX10_plan_50 : decode cX10_plan 50 = .ok (.iload 5, 2) := by decide +kernel
theorem dX10_plan_52 : decode cX10_plan 52 = .ok (.aload_n 0, 1) := by decide +kernel
theorem dX10_plan_53 : decode cX10_plan 53 = .ok (.iload_n 1, 1) := by decide +kernel
theorem dX10_plan_54 : decode cX10_plan 54 = .ok (.iconst 2, 1) := by decide +kernel
theorem dX10_plan_55 : decode cX10_plan 55 = .ok (.invokevirtual 64, 3) := by decide +kernel
theorem dX10_plan_58 : decode cX10_plan 58 = .ok (.if_icmp .ge 30, 3) := by decide +kernel
theorem dX10_plan_61 : decode cX10_plan 61 = .ok (.iload 4, 2) := by decide +kernel
theorem dX10_plan_63 : decode cX10_plan 63 = .ok (.ifCond .eq 25, 3) := by decide +kernel
theorem dX10_plan_66 : decode cX10_plan 66 = .ok (.aload_n 0, 1) := by decide +kernel
theorem dX10_plan_67 : decode cX10_plan 67 = .ok (.aload_n 0, 1) := by decide +kernel
theorem dX10_plan_68 : decode cX10_plan 68 = .ok (.iload_n 1, 1) := by decide +kernel
theorem dX10_plan_69 : decode cX10_plan 69 = .ok (.iconst 3, 1) := by decide +kernel
theorem dX10_plan_70 : decode cX10_plan 70 = .ok (.iload 5, 2) := by decide +kernel
theorem dX10_plan_72 : decode cX10_plan 72 = .ok (.iadd, 1) := by decide +kernel
theorem dX10_plan_73 : decode cX10_plan 73 = .ok (.invokevirtual 64, 3) := by decide +kernel
theorem dX10_plan_76 : decode cX10_plan 76 = .ok (.iload_n 1, 1) := by decide +kernel
theorem dX10_plan_77 : decode cX10_plan 77 = .ok (.iload_n 2, 1) := by decide +kernel
theorem dX10_plan_78 : decode cX10_plan 78 = .ok (.iload_n 3, 1) := by decide +kernel
theorem dX10_plan_79 : decode cX10_plan 79 = .ok (.invokevirtual 110, 3) := by decide +kernel
theorem dX10_plan_82 : decode cX10_plan 82 = .ok (.iinc 5 1, 3) := by decide +kernel
theorem dX10_plan_85 : decode cX10_plan 85 = .ok (.goto (-35), 3) := by decide +kernel
theorem dX10_plan_88 : decode cX10_plan 88 = .ok (.return_, 1) := by decide +kernel
set_option maxRecDepth 20000 in
theorem ggX10_planDue_X10_floatOf : GoodIn wsX10_planDue wsX10_floatOf := goodIn_r _ [8, 9, 10] (by decide +kernel) (by decide +kernel)
set_option maxRecDepth 20000 in
theorem gX10_planDue_X10_floatOf : GoodIn wsX10_planDue (va_wsS RX10 82 yX10_floatOf wsX10_floatOf) := goodIn_app (goodIn_of _ (by decide +kernel)) ggX10_planDue_X10_floatOf
theorem dX10_planDue_0 : decode cX10_planDue 0 = .ok (.iconst 0, 1) := by decide +kernel
theorem dX10_planDue_1 : decode cX10_planDue 1 = .ok (.istore_n 1, 1) := by decide +kernel
theorem dX10_planDue_2 : decode cX10_planDue 2 = .ok (.iconst 0, 1) := by decide +kernel
theorem dX10_planDue_3 : decode cX10_planDue 3 = .ok (.istore_n 2, 1) := by decide +kernel
theorem dX10_planDue_4 : decode cX10_planDue 4 = .ok (.iload_n 2, 1) := by decide +kernel
theorem dX10_planDue_5 : decode cX10_planDue 5 = .ok (.aload_n 0, 1) := by decide +kernel
theorem dX10_planDue_6 : decode cX10_planDue 6 = .ok (.getfield 100, 3) := by decide +kernel
theorem dX10_planDue_9 : decode cX10_planDue 9 = .ok (.if_icmp .ge 18, 3) := by decide +kernel
theorem dX10_planDue_12 : decode cX10_planDue 12 = .ok (.iload_n 1, 1) := by decide +kernel
theorem dX10_planDue_13 : decode cX10_planDue 13 = .ok (.aload_n 0, 1) := by decide +kernel
theorem dX10_planDue_14 : decode cX10_planDue 14 = .ok (.getfield 36, 3) := by decide +kernel
theorem dX10_planDue_17 : decode cX10_planDue 17 = .ok (.iload_n 2, 1) := by decide +kernel
theorem dX10_planDue_18 : decode cX10_planDue 18 = .ok (.iaload, 1) := by decide +kernel
theorem dX10_planDue_19 : decode cX10_planDue 19 = .ok (.iadd, 1) := by decide +kernel
theorem dX10_planDue_20 : decode cX10_planDue 20 = .ok (.istore_n 1, 1) := by decide +kernel
theorem dX10_planDue_21 : decode cX10_planDue 21 = .ok (.iinc 2 1, 3) := by decide +kernel
theorem dX10_planDue_24 : decode cX10_planDue 24 = .ok (.goto (-20), 3) := by decide +kernel
theorem dX10_planDue_27 : decode cX10_planDue 27 = .ok (.iload_n 1, 1) := by decide +kernel
theorem dX10_planDue_28 : decode cX10_planDue 28 = .ok (.i2f, 1) := by decide +kernel
theorem dX10_planDue_29 : decode cX10_planDue 29 = .ok (.fstore_n 2, 1) := by decide +kernel
theorem dX10_planDue_30 : decode cX10_planDue 30 = .ok (.fload_n 2, 1) := by decide +kernel
theorem dX10_planDue_31 : decode cX10_planDue 31 = .ok (.aload_n 0, 1) := by decide +kernel
theorem dX10_planDue_32 : decode cX10_planDue 32 = .ok (.getfield 7, 3) := by decide +kernel
theorem dX10_planDue_35 : decode cX10_planDue 35 = .ok (.bipush 7, 2) := by decide +kernel
theorem dX10_planDue_37 : decode cX10_planDue 37 = .ok (.iaload, 1) := by decide +kernel
theorem dX10_planDue_38 : decode cX10_planDue 38 = .ok (.invokestatic 82, 3) := by decide +kernel
theorem dX10_planDue_41 : decode cX10_planDue 41 = .ok (.fmul, 1) := by decide +kernel
theorem dX10_planDue_42 : decode cX10_planDue 42 = .ok (.fstore_n 3, 1) := by decide +kernel
theorem dX10_planDue_43 : decode cX10_planDue 43 = .ok (.fload_n 3, 1) := by decide +kernel
theorem dX10_planDue_44 : decode cX10_planDue 44 = .ok (.ldc 86, 2) := by decide +kernel
theorem dX10_planDue_46 : decode cX10_planDue 46 = .ok (.fdiv, 1) := by decide +kernel
theorem dX10_planDue_47 : decode cX10_planDue 47 = .ok (.fstore 4, 2) := by decide +kernel
theorem dX10_planDue_49 : decode cX10_planDue 49 = .ok (.iload_n 1, 1) := by decide +kernel
theorem dX10_planDue_50 : decode cX10_planDue 50 = .ok (.fload 4, 2) := by decide +kernel
theorem dX10_planDue_52 : decode cX10_planDue 52 = .ok (.f2i, 1) := by decide +kernel
theorem dX10_planDue_53 : decode cX10_planDue 53 = .ok (.isub, 1) := by decide +kernel
theorem dX10_planDue_54 : decode cX10_planDue 54 = .ok (.ireturn, 1) := by decide +kernel
set_option maxRecDepth 20000 in
theorem ggX10_order_X10_isGood : GoodIn wsX10_order wsX10_isGood := goodIn_r _ [9, 1, 85, 86, 87, 88, 89, 90, 91, 92, 93, 94, 95, 96, 97, 98, 99, 100, 101, 102, 103] (by decide +kernel) (by decide +kernel)
set_option maxRecDepth 20000 in
theorem gX10_order_X10_isGood : GoodIn wsX10_order (wsV RX10 60 RX10 yX10_isGood wsX10_isGood) := goodIn_app (goodIn_of _ (by decide +kernel)) ggX10_order_X10_isGood
set_option maxRecDepth 20000 in
theorem ggX10_order_X10_in : GoodIn wsX10_order wsX10_in := goodIn_r _ [12] (by decide +kernel) (by decide +kernel)
set_option maxRecDepth 20000 in
theorem gX10_order_X10_in : GoodIn wsX10_order (va_wsS RX10 56 yX10_in wsX10_in) := goodIn_app (goodIn_of _ (by decide +kernel)) ggX10_order_X10_in
set_option maxRecDepth 20000 in
theorem ggX10_order_X10_record : GoodIn wsX10_order wsX10_record := goodIn_r _ [16, 17, 18, 1, 85, 86, 87, 88, 89, 90, 91, 92, 93, 94, 95, 96, 97, 98, 99, 100, 101, 102, 103] (by decide +kernel) (by decide +kernel)
set_option maxRecDepth 20000 in
theorem gX10_order_X10_record : GoodIn wsX10_order (wsV RX10 53 RX10 yX10_record wsX10_record) := goodIn_app (goodIn_of _ (by decide +kernel)) ggX10_order_X10_record
set_option maxRecDepth 20000 in
theorem ggX10_order_X10_plan : GoodIn wsX10_order wsX10_plan := goodIn_r _ [22, 4, 2, 3, 23, 24, 25, 26, 8, 27, 28, 29, 30, 31, 32, 33, 34, 1, 35, 36, 37, 38, 39, 40, 41, 42, 43, 44, 45, 46, 47, 48, 49, 50, 51, 52, 53, 54, 55, 56, 57, 58, 59, 60, 61, 62, 63, 64, 65, 66, 67, 68, 85, 86, 87, 88, 89, 90, 91, 92, 93, 94, 95, 96, 97, 98, 99, 100, 101, 102, 103] (by decide +kernel) (by decide +kernel)
set_option maxRecDepth 20000 in
theorem gX10_order_X10_plan : GoodIn wsX10_order (wsV RX10 114 RX10 yX10_plan wsX10_plan) := goodIn_app (goodIn_of _ (by decide +kernel)) ggX10_order_X10_plan
set_option maxRecDepth 20000 in
theorem ggX10_order_X10_planDue : GoodIn wsX10_order wsX10_planDue := goodIn_r _ [72, 4, 30, 1, 47, 60, 61, 8, 62, 63, 64, 85, 86, 87, 88, 89, 90, 91, 92, 93, 94, 95, 96, 97, 98, 99, 100, 101, 102, 103] (by decide +kernel) (by decide +kernel)
set_option maxRecDepth 20000 in
theorem gX10_order_X10_planDue : GoodIn wsX10_order (wsV RX10 118 RX10 yX10_planDue wsX10_planDue) := goodIn_app (goodIn_of _ (by decide +kernel)) ggX10_order_X10_planDue
set_option maxRecDepth 20000 in
theorem ggX10_order_X10_sell : GoodIn wsX10_order wsX10_sell := goodIn_r _ [76, 28, 29, 30, 1, 77, 78, 79, 8, 80, 81, 82, 83, 84, 85, 86, 87, 88, 89, 90, 91, 92, 93, 94, 95, 96, 97, 98, 99, 100, 101, 102, 103] (by decide +kernel) (by decide +kernel)
set_option maxRecDepth 20000 in
theorem gX10_order_X10_sell : GoodIn wsX10_order (wsV RX10 122 RX10 yX10_sell wsX10_sell) := goodIn_app (goodIn_of _ (by decide +kernel)) ggX10_order_X10_sell
theorem dX10_order_0 : decode cX10_order 0 = .ok (.aload_n 0, 1) := by decide +kernel
theorem dX10_order_1 : decode cX10_order 1 = .ok (.iload_n 1, 1) := by decide +kernel
theorem dX10_order_2 : decode cX10_order 2 = .ok (.invokevirtual 60, 3) := by decide +kernel
theorem dX10_order_5 : decode cX10_order 5 = .ok (.ifCond .ne 5, 3) := by decide +kernel
theorem dX10_order_8 : decode cX10_order 8 = .ok (.iconst (-1), 1) := by decide +kernel
theorem dX10_order_9 : decode cX10_order 9 = .ok (.ireturn, 1) := by decide +kernel
theorem dX10_order_10 : decode cX10_order 10 = .ok (.iload_n 2, 1) := by decide +kernel
theorem dX10_order_11 : decode cX10_order 11 = .ok (.iconst 1, 1) := by decide +kernel
theorem dX10_order_12 : decode cX10_order 12 = .ok (.sipush 999, 3) := by decide +kernel
theorem dX10_order_15 : decode cX10_order 15 = .ok (.invokestatic 56, 3) := by decide +kernel
theorem dX10_order_18 : decode cX10_order 18 = .ok (.ifCond .eq 13, 3) := by decide +kernel
theorem dX10_order_21 : decode cX10_order 21 = .ok (.iload_n 3, 1) := by decide +kernel
theorem dX10_order_22 : decode cX10_order 22 = .ok (.iconst 0, 1) := by decide +kernel
theorem dX10_order_23 : decode cX10_order 23 = .ok (.bipush 60, 2) := by decide +kernel
theorem dX10_order_25 : decode cX10_order 25 = .ok (.invokestatic 56, 3) := by decide +kernel
theorem dX10_order_28 : decode cX10_order 28 = .ok (.ifCond .ne 6, 3) := by decide +kernel
theorem dX10_order_31 : decode cX10_order 31 = .ok (.bipush (-2), 2) := by decide +kernel
theorem dX10_order_33 : decode cX10_order 33 = .ok (.ireturn, 1) := by decide +kernel
theorem dX10_order_34 : decode cX10_order 34 = .ok (.aload_n 0, 1) := by decide +kernel
theorem dX10_order_35 : decode cX10_order 35 = .ok (.getfield 7, 3) := by decide +kernel
theorem dX10_order_38 : decode cX10_order 38 = .ok (.iconst 3, 1) := by decide +kernel
theorem dX10_order_39 : decode cX10_order 39 = .ok (.iaload, 1) := by decide +kernel
theorem dX10_order_40 : decode cX10_order 40 = .ok (.bipush 30, 2) := by decide +kernel
theorem dX10_order_42 : decode cX10_order 42 = .ok (.if_icmp .ne 6, 3) := by decide +kernel
theorem dX10_order_45 : decode cX10_order 45 = .ok (.bipush (-3), 2) := by decide +kernel
theorem dX10_order_47 : decode cX10_order 47 = .ok (.ireturn, 1) := by decide +kernel
theorem dX10_order_48 : decode cX10_order 48 = .ok (.aload_n 0, 1) := by decide +kernel
theorem dX10_order_49 : decode cX10_order 49 = .ok (.invokevirtual 53, 3) := by decide +kernel
theorem dX10_order_52 : decode cX10_order 52 = .ok (.aload_n 0, 1) := by decide +kernel
theorem dX10_order_53 : decode cX10_order 53 = .ok (.iload_n 1, 1) := by decide +kernel
theorem dX10_order_54 : decode cX10_order 54 = .ok (.iload_n 2, 1) := by decide +kernel
theorem dX10_order_55 : decode cX10_order 55 = .ok (.iload_n 3, 1) := by decide +kernel
theorem dX10_order_56 : decode cX10_order 56 = .ok (.iload 4, 2) := by decide +kernel
theorem dX10_order_58 : decode cX10_order 58 = .ok (.invokevirtual 114, 3) := by decide +kernel
theorem dX10_order_61 : decode cX10_order 61 = .ok (.sipush 494, 3) := by decide +kernel
theorem dX10_order_64 : decode cX10_order 64 = .ok (.bipush 10, 2) := by decide +kernel
theorem dX10_order_66 : decode cX10_order 66 = .ok (.aload_n 0, 1) := by decide +kernel
theorem dX10_order_67 : decode cX10_order 67 = .ok (.getfield 7, 3) := by decide +kernel
theorem dX10_order_70 : decode cX10_order 70 = .ok (.iconst 3, 1) := by decide +kernel
theorem dX10_order_71 : decode cX10_order 71 = .ok (.iaload, 1) := by decide +kernel
theorem dX10_order_72 : decode cX10_order 72 = .ok (.imul, 1) := by decide +kernel
theorem dX10_order_73 : decode cX10_order 73 = .ok (.iadd, 1) := by decide +kernel
theorem dX10_order_74 : decode cX10_order 74 = .ok (.istore 5, 2) := by decide +kernel
theorem dX10_order_76 : decode cX10_order 76 = .ok (.aload_n 0, 1) := by decide +kernel
theorem dX10_order_77 : decode cX10_order 77 = .ok (.getfield 7, 3) := by decide +kernel
theorem dX10_order_80 : decode cX10_order 80 = .ok (.iconst 3, 1) := by decide +kernel
theorem dX10_order_81 : decode cX10_order 81 = .ok (.dup2, 1) := by decide +kernel
theorem dX10_order_82 : decode cX10_order 82 = .ok (.iaload, 1) := by decide +kernel
theorem dX10_order_83 : decode cX10_order 83 = .ok (.iconst 1, 1) := by decide +kernel
theorem dX10_order_84 : decode cX10_order 84 = .ok (.iadd, 1) := by decide +kernel
theorem dX10_order_85 : decode cX10_order 85 = .ok (.iastore, 1) := by decide +kernel
theorem dX10_order_86 : decode cX10_order 86 = .ok (.aload_n 0, 1) := by decide +kernel
theorem dX10_order_87 : decode cX10_order 87 = .ok (.getfield 7, 3) := by decide +kernel
theorem dX10_order_90 : decode cX10_order 90 = .ok (.iload 5, 2) := by decide +kernel
theorem dX10_order_92 : decode cX10_order 92 = .ok (.iconst 0, 1) := by decide +kernel
theorem dX10_order_93 : decode cX10_order 93 = .ok (.iadd, 1) := by decide +kernel
theorem dX10_order_94 : decode cX10_order 94 = .ok (.iload_n 1, 1) := by decide +kernel
theorem dX10_order_95 : decode cX10_order 95 = .ok (.iastore, 1) := by decide +kernel
theorem dX10_order_96 : decode cX10_order 96 = .ok (.aload_n 0, 1) := by decide +kernel
theorem dX10_order_97 : decode cX10_order 97 = .ok (.getfield 7, 3) := by decide +kernel
theorem dX10_order_100 : decode cX10_order 100 = .ok (.iload 5, 2) := by decide +kernel
theorem dX10_order_102 : decode cX10_order 102 = .ok (.iconst 1, 1) := by decide +kernel
theorem dX10_order_103 : decode cX10_order 103 = .ok (.iadd, 1) := by decide +kernel
theorem dX10_order_104 : decode cX10_order 104 = .ok (.iload_n 2, 1) := by decide +kernel
theorem dX10_order_105 : decode cX10_order 105 = .ok (.iastore, 1) := by decide +kernel
theorem dX10_order_106 : decode cX10_order 106 = .ok (.aload_n 0, 1) := by decide +kernel
theorem dX10_order_107 : decode cX10_order 107 = .ok (.getfield 7, 3) := by decide +kernel
theorem dX10_order_110 : decode cX10_order 110 = .ok (.iload 5, 2) := by decide +kernel
theorem dX10_order_112 : decode cX10_order 112 = .ok (.iconst 2, 1) := by decide +kernel
theorem dX10_order_113 : decode cX10_order 113 = .ok (.iadd, 1) := by decide +kernel
theorem dX10_order_114 : decode cX10_order 114 = .ok (.aload_n 0, 1) := by decide +kernel
theorem dX10_order_115 : decode cX10_order 115 = .ok (.getfield 97, 3) := by decide +kernel
theorem dX10_order_118 : decode cX10_order 118 = .ok (.iastore, 1) := by decide +kernel
theorem dX10_order_119 : decode cX10_order 119 = .ok (.aload_n 0, 1) := by decide +kernel
theorem dX10_order_120 : decode cX10_order 120 = .ok (.getfield 7, 3) := by decide +kernel
theorem dX10_order_123 : decode cX10_order 123 = .ok (.iload 5, 2) := by decide +kernel
theorem dX10_order_125 : decode cX10_order 125 = .ok (.iconst 3, 1) := by decide +kernel
theorem dX10_order_126 : decode cX10_order 126 = .ok (.iadd, 1) := by decide +kernel
theorem dX10_order_127 : decode cX10_order 127 = .ok (.aload_n 0, 1) := by decide +kernel
theorem dX10_order_128 : decode cX10_order 128 = .ok (.getfield 107, 3) := by decide +kernel
theorem dX10_order_131 : decode cX10_order 131 = .ok (.iastore, 1) := by decide +kernel
theorem dX10_order_132 : decode cX10_order 132 = .ok (.aload_n 0, 1) := by decide +kernel
theorem dX10_order_133 : decode cX10_order 133 = .ok (.getfield 7, 3) := by decide +kernel
theorem dX10_order_136 : decode cX10_order 136 = .ok (.iload 5, 2) := by decide +kernel
theorem dX10_order_138 : decode cX10_order 138 = .ok (.iconst 4, 1) := by decide +kernel
theorem dX10_order_139 : decode cX10_order 139 = .ok (.iadd, 1) := by decide +kernel
theorem dX10_order_140 : decode cX10_order 140 = .ok (.iload_n 3, 1) := by decide +kernel
theorem dX10_order_141 : decode cX10_order 141 = .ok (.iastore, 1) := by decide +kernel
theorem dX10_order_142 : decode cX10_order 142 = .ok (.aload_n 0, 1) := by decide +kernel
theorem dX10_order_143 : decode cX10_order 143 = .ok (.getfield 7, 3) := by decide +kernel
theorem dX10_order_146 : decode cX10_order 146 = .ok (.iload 5, 2) := by decide +kernel
theorem dX10_order_148 : decode cX10_order 148 = .ok (.iconst 5, 1) := by decide +kernel
theorem dX10_order_149 : decode cX10_order 149 = .ok (.iadd, 1) := by decide +kernel
theorem dX10_order_150 : decode cX10_order 150 = .ok (.iload 4, 2) := by decide +kernel
theorem dX10_order_152 : decode cX10_order 152 = .ok (.ifCond .eq 7, 3) := by decide +kernel
theorem dX10_order_155 : decode cX10_order 155 = .ok (.iconst 1, 1) := by decide +kernel
theorem dX10_order_156 : decode cX10_order 156 = .ok (.goto 4, 3) := by decide +kernel
theorem dX10_order_159 : decode cX10_order 159 = .ok (.iconst 0, 1) := by decide +kernel
theorem dX10_order_160 : decode cX10_order 160 = .ok (.iastore, 1) := by decide +kernel
theorem dX10_order_161 : decode cX10_order 161 = .ok (.aload_n 0, 1) := by decide +kernel
theorem dX10_order_162 : decode cX10_order 162 = .ok (.getfield 7, 3) := by decide +kernel
theorem dX10_order_165 : decode cX10_order 165 = .ok (.iload 5, 2) := by decide +kernel
theorem dX10_order_167 : decode cX10_order 167 = .ok (.bipush 6, 2) := by decide +kernel
theorem dX10_order_169 : decode cX10_order 169 = .ok (.iadd, 1) := by decide +kernel
theorem dX10_order_170 : decode cX10_order 170 = .ok (.aload_n 0, 1) := by decide +kernel
theorem dX10_order_171 : decode cX10_order 171 = .ok (.invokevirtual 118, 3) := by decide +kernel
theorem dX10_order_174 : decode cX10_order 174 = .ok (.iastore, 1) := by decide +kernel
theorem dX10_order_175 : decode cX10_order 175 = .ok (.aload_n 0, 1) := by decide +kernel
theorem dX10_order_176 : decode cX10_order 176 = .ok (.getfield 7, 3) := by decide +kernel
theorem dX10_order_179 : decode cX10_order 179 = .ok (.iload 5, 2) := by decide +kernel
theorem dX10_order_181 : decode cX10_order 181 = .ok (.bipush 7, 2) := by decide +kernel
theorem dX10_order_183 : decode cX10_order 183 = .ok (.iadd, 1) := by decide +kernel
theorem dX10_order_184 : decode cX10_order 184 = .ok (.aload_n 0, 1) := by decide +kernel
theorem dX10_order_185 : decode cX10_order 185 = .ok (.getfield 7, 3) := by decide +kernel
theorem dX10_order_188 : decode cX10_order 188 = .ok (.iconst 0, 1) := by decide +kernel
theorem dX10_order_189 : decode cX10_order 189 = .ok (.iaload, 1) := by decide +kernel
theorem dX10_order_190 : decode cX10_order 190 = .ok (.iastore, 1) := by decide +kernel
theorem dX10_order_191 : decode cX10_order 191 = .ok (.aload_n 0, 1) := by decide +kernel
theorem dX10_order_192 : decode cX10_order 192 = .ok (.getfield 7, 3) := by decide +kernel
theorem dX10_order_195 : decode cX10_order 195 = .ok (.iload 5, 2) := by decide +kernel
theorem dX10_order_197 : decode cX10_order 197 = .ok (.bipush 8, 2) := by decide +kernel
theorem dX10_order_199 : decode cX10_order 199 = .ok (.iadd, 1) := by decide +kernel
theorem dX10_order_200 : decode cX10_order 200 = .ok (.aload_n 0, 1) := by decide +kernel
theorem dX10_order_201 : decode cX10_order 201 = .ok (.getfield 7, 3) := by decide +kernel
theorem dX10_order_204 : decode cX10_order 204 = .ok (.bipush 8, 2) := by decide +kernel
theorem dX10_order_206 : decode cX10_order 206 = .ok (.iaload, 1) := by decide +kernel
theorem dX10_order_207 : decode cX10_order 207 = .ok (.iastore, 1) := by decide +kernel
theorem dX10_order_208 : decode cX10_order 208 = .ok (.aload_n 0, 1) := by decide +kernel
theorem dX10_order_209 : decode cX10_order 209 = .ok (.getfield 7, 3) := by decide +kernel
theorem dX10_order_212 : decode cX10_order 212 = .ok (.iload 5, 2) := by decide +kernel
theorem dX10_order_214 : decode cX10_order 214 = .ok (.bipush 9, 2) := by decide +kernel
theorem dX10_order_216 : decode cX10_order 216 = .ok (.iadd, 1) := by decide +kernel
theorem dX10_order_217 : decode cX10_order 217 = .ok (.aload_n 0, 1) := by decide +kernel
theorem dX10_order_218 : decode cX10_order 218 = .ok (.getfield 100, 3) := by decide +kernel
theorem dX10_order_221 : decode cX10_order 221 = .ok (.iastore, 1) := by decide +kernel
theorem dX10_order_222 : decode cX10_order 222 = .ok (.iconst 0, 1) := by decide +kernel
theorem dX10_order_223 : decode cX10_order 223 = .ok (.istore 6, 2) := by decide +kernel
theorem dX10_order_225 : decode cX10_order 225 = .ok (.iload 6, 2) := by decide +kernel
theorem dX10_order_227 : decode cX10_order 227 = .ok (.aload_n 0, 1) := by decide +kernel
theorem dX10_order_228 : decode cX10_order 228 = .ok (.getfield 100, 3) := by decide +kernel
theorem dX10_order_231 : decode cX10_order 231 = .ok (.if_icmp .ge 15, 3) := by decide +kernel
theorem dX10_order_234 : decode cX10_order 234 = .ok (.aload_n 0, 1) := by decide +kernel
theorem dX10_order_235 : decode cX10_order 235 = .ok (.iload 6, 2) := by decide +kernel
theorem dX10_order_237 : decode cX10_order 237 = .ok (.invokevirtual 122, 3) := by decide +kernel
theorem dX10_order_240 : decode cX10_order 240 = .ok (.iinc 6 1, 3) := by decide +kernel
theorem dX10_order_243 : decode cX10_order 243 = .ok (.goto (-18), 3) := by decide +kernel
theorem dX10_order_246 : decode cX10_order 246 = .ok (.aload_n 0, 1) := by decide +kernel
theorem dX10_order_247 : decode cX10_order 247 = .ok (.getfield 97, 3) := by decide +kernel
theorem dX10_order_250 : decode cX10_order 250 = .ok (.ireturn, 1) := by decide +kernel
set_option maxRecDepth 20000 in
theorem ggX10_sell_X10_addTo : GoodIn wsX10_sell wsX10_addTo := goodIn_r _ [9, 4, 14, 15, 16, 17, 18, 19, 20, 21, 22, 23, 24, 25, 26, 27, 28, 29, 30, 31, 32] (by decide +kernel) (by decide +kernel)
set_option maxRecDepth 20000 in
theorem gX10_sell_X10_addTo : GoodIn wsX10_sell (wsV RX10 126 RX10 yX10_addTo wsX10_addTo) := goodIn_app (goodIn_of _ (by decide +kernel)) ggX10_sell_X10_addTo
set_option maxRecDepth 20000 in
theorem ggX10_sell_X10_note : GoodIn wsX10_sell wsX10_note := goodIn_r _ [13, 4, 14, 15, 16, 17, 18, 19, 20, 21, 22, 23, 24, 25, 26, 27, 28, 29, 30, 31, 32] (by decide +kernel) (by decide +kernel)
set_option maxRecDepth 20000 in
theorem gX10_sell_X10_note : GoodIn wsX10_sell (wsV RX10 130 RX10 yX10_note wsX10_note) := goodIn_app (goodIn_of _ (by decide +kernel)) ggX10_sell_X10_note
theorem dX10_sell_0 : decode cX10_sell 0 = .ok (.aload_n 0, 1) := by decide +kernel
theorem dX10_sell_1 : decode cX10_sell 1 = .ok (.getfield 30, 3) := by decide +kernel
theorem dX10_sell_4 : decode cX10_sell 4 = .ok (.iload_n 1, 1) := by decide +kernel
theorem dX10_sell_5 : decode cX10_sell 5 = .ok (.iaload, 1) := by decide +kernel
theorem dX10_sell_6 : decode cX10_sell 6 = .ok (.istore_n 2, 1) := by decide +kernel
theorem dX10_sell_7 : decode cX10_sell 7 = .ok (.aload_n 0, 1) := by decide +kernel
theorem dX10_sell_8 : decode cX10_sell 8 = .ok (.getfield 33, 3) := by decide +kernel
theorem dX10_sell_11 : decode cX10_sell 11 = .ok (.iload_n 1, 1) := by decide +kernel
theorem dX10_sell_12 : decode cX10_sell 12 = .ok (.iaload, 1) := by decide +kernel
theorem dX10_sell_13 : decode cX10_sell 13 = .ok (.istore_n 3, 1) := by decide +kernel
theorem dX10_sell_14 : decode cX10_sell 14 = .ok (.aload_n 0, 1) := by decide +kernel
theorem dX10_sell_15 : decode cX10_sell 15 = .ok (.iload_n 2, 1) := by decide +kernel
theorem dX10_sell_16 : decode cX10_sell 16 = .ok (.iconst 3, 1) := by decide +kernel
theorem dX10_sell_17 : decode cX10_sell 17 = .ok (.iload_n 3, 1) := by decide +kernel
theorem dX10_sell_18 : decode cX10_sell 18 = .ok (.ineg, 1) := by decide +kernel
theorem dX10_sell_19 : decode cX10_sell 19 = .ok (.invokevirtual 126, 3) := by decide +kernel
theorem dX10_sell_22 : decode cX10_sell 22 = .ok (.aload_n 0, 1) := by decide +kernel
theorem dX10_sell_23 : decode cX10_sell 23 = .ok (.iload_n 2, 1) := by decide +kernel
theorem dX10_sell_24 : decode cX10_sell 24 = .ok (.iconst 4, 1) := by decide +kernel
theorem dX10_sell_25 : decode cX10_sell 25 = .ok (.iload_n 3, 1) := by decide +kernel
theorem dX10_sell_26 : decode cX10_sell 26 = .ok (.invokevirtual 126, 3) := by decide +kernel
theorem dX10_sell_29 : decode cX10_sell 29 = .ok (.aload_n 0, 1) := by decide +kernel
theorem dX10_sell_30 : decode cX10_sell 30 = .ok (.iload_n 2, 1) := by decide +kernel
theorem dX10_sell_31 : decode cX10_sell 31 = .ok (.bipush 9, 2) := by decide +kernel
theorem dX10_sell_33 : decode cX10_sell 33 = .ok (.aload_n 0, 1) := by decide +kernel
theorem dX10_sell_34 : decode cX10_sell 34 = .ok (.getfield 36, 3) := by decide +kernel
theorem dX10_sell_37 : decode cX10_sell 37 = .ok (.iload_n 1, 1) := by decide +kernel
theorem dX10_sell_38 : decode cX10_sell 38 = .ok (.iaload, 1) := by decide +kernel
theorem dX10_sell_39 : decode cX10_sell 39 = .ok (.invokevirtual 126, 3) := by decide +kernel
theorem dX10_sell_42 : decode cX10_sell 42 = .ok (.aload_n 0, 1) := by decide +kernel
theorem dX10_sell_43 : decode cX10_sell 43 = .ok (.getfield 7, 3) := by decide +kernel
theorem dX10_sell_46 : decode cX10_sell 46 = .ok (.sipush 794, 3) := by decide +kernel
theorem dX10_sell_49 : decode cX10_sell 49 = .ok (.iconst 2, 1) := by decide +kernel
theorem dX10_sell_50 : decode cX10_sell 50 = .ok (.aload_n 0, 1) := by decide +kernel
theorem dX10_sell_51 : decode cX10_sell 51 = .ok (.getfield 7, 3) := by decide +kernel
theorem dX10_sell_54 : decode cX10_sell 54 = .ok (.bipush 8, 2) := by decide +kernel
theorem dX10_sell_56 : decode cX10_sell 56 = .ok (.iaload, 1) := by decide +kernel
theorem dX10_sell_57 : decode cX10_sell 57 = .ok (.imul, 1) := by decide +kernel
theorem dX10_sell_58 : decode cX10_sell 58 = .ok (.iadd, 1) := by decide +kernel
theorem dX10_sell_59 : decode cX10_sell 59 = .ok (.iload_n 2, 1) := by decide +kernel
theorem dX10_sell_60 : decode cX10_sell 60 = .ok (.iastore, 1) := by decide +kernel
theorem dX10_sell_61 : decode cX10_sell 61 = .ok (.aload_n 0, 1) := by decide +kernel
theorem dX10_sell_62 : decode cX10_sell 62 = .ok (.getfield 7, 3) := by decide +kernel
theorem dX10_sell_65 : decode cX10_sell 65 = .ok (.sipush 794, 3) := by decide +kernel
theorem dX10_sell_68 : decode cX10_sell 68 = .ok (.iconst 2, 1) := by decide +kernel
theorem dX10_sell_69 : decode cX10_sell 69 = .ok (.aload_n 0, 1) := by decide +kernel
theorem dX10_sell_70 : decode cX10_sell 70 = .ok (.getfield 7, 3) := by decide +kernel
theorem dX10_sell_73 : decode cX10_sell 73 = .ok (.bipush 8, 2) := by decide +kernel
theorem dX10_sell_75 : decode cX10_sell 75 = .ok (.iaload, 1) := by decide +kernel
theorem dX10_sell_76 : decode cX10_sell 76 = .ok (.imul, 1) := by decide +kernel
theorem dX10_sell_77 : decode cX10_sell 77 = .ok (.iadd, 1) := by decide +kernel
theorem dX10_sell_78 : decode cX10_sell 78 = .ok (.iconst 1, 1) := by decide +kernel
theorem dX10_sell_79 : decode cX10_sell 79 = .ok (.iadd, 1) := by decide +kernel
theorem dX10_sell_80 : decode cX10_sell 80 = .ok (.iload_n 3, 1) := by decide +kernel
theorem dX10_sell_81 : decode cX10_sell 81 = .ok (.iastore, 1) := by decide +kernel
theorem dX10_sell_82 : decode cX10_sell 82 = .ok (.aload_n 0, 1) := by decide +kernel
theorem dX10_sell_83 : decode cX10_sell 83 = .ok (.getfield 7, 3) := by decide +kernel
theorem dX10_sell_86 : decode cX10_sell 86 = .ok (.bipush 8, 2) := by decide +kernel
theorem dX10_sell_88 : decode cX10_sell 88 = .ok (.dup2, 1) := by decide +kernel
theorem dX10_sell_89 : decode cX10_sell 89 = .ok (.iaload, 1) := by decide +kernel
theorem dX10_sell_90 : decode cX10_sell 90 = .ok (.iconst 1, 1) := by decide +kernel
theorem dX10_sell_91 : decode cX10_sell 91 = .ok (.iadd, 1) := by decide +kernel
theorem dX10_sell_92 : decode cX10_sell 92 = .ok (.iastore, 1) := by decide +kernel
theorem dX10_sell_93 : decode cX10_sell 93 = .ok (.aload_n 0, 1) := by decide +kernel
theorem dX10_sell_94 : decode cX10_sell 94 = .ok (.iconst 1, 1) := by decide +kernel
theorem dX10_sell_95 : decode cX10_sell 95 = .ok (.iload_n 2, 1) := by decide +kernel
theorem dX10_sell_96 : decode cX10_sell 96 = .ok (.iload_n 3, 1) := by decide +kernel
theorem dX10_sell_97 : decode cX10_sell 97 = .ok (.invokevirtual 130, 3) := by decide +kernel
theorem dX10_sell_100 : decode cX10_sell 100 = .ok (.return_, 1) := by decide +kernel
set_option maxRecDepth 20000 in
theorem ggX10_wouldGet_X10_isGood : GoodIn wsX10_wouldGet wsX10_isGood := goodIn_r _ [8, 9, 67, 68, 69, 70, 71, 72, 73, 74, 75, 76, 77, 78, 79, 80, 81, 82, 83, 84, 85] (by decide +kernel) (by decide +kernel)
set_option maxRecDepth 20000 in
theorem gX10_wouldGet_X10_isGood : GoodIn wsX10_wouldGet (wsV RX10 60 RX10 yX10_isGood wsX10_isGood) := goodIn_app (goodIn_of _ (by decide +kernel)) ggX10_wouldGet_X10_isGood
set_option maxRecDepth 20000 in
theorem ggX10_wouldGet_X10_in : GoodIn wsX10_wouldGet wsX10_in := goodIn_r _ [12] (by decide +kernel) (by decide +kernel)
set_option maxRecDepth 20000 in
theorem gX10_wouldGet_X10_in : GoodIn wsX10_wouldGet (va_wsS RX10 56 yX10_in wsX10_in) := goodIn_app (goodIn_of _ (by decide +kernel)) ggX10_wouldGet_X10_in
set_option maxRecDepth 20000 in
theorem ggX10_wouldGet_X10_plan : GoodIn wsX10_wouldGet wsX10_plan := goodIn_r _ [16, 3, 1, 2, 17, 18, 19, 20, 7, 21, 22, 23, 24, 25, 26, 27, 28, 9, 29, 30, 31, 32, 33, 34, 35, 36, 37, 38, 39, 40, 41, 42, 43, 44, 45, 46, 47, 48, 49, 50, 51, 52, 53, 54, 55, 56, 57, 58, 59, 60, 61, 62, 67, 68, 69, 70, 71, 72, 73, 74, 75, 76, 77, 78, 79, 80, 81, 82, 83, 84, 85] (by decide +kernel) (by decide +kernel)
set_option maxRecDepth 20000 in
theorem gX10_wouldGet_X10_plan : GoodIn wsX10_wouldGet (wsV RX10 114 RX10 yX10_plan wsX10_plan) := goodIn_app (goodIn_of _ (by decide +kernel)) ggX10_wouldGet_X10_plan
set_option maxRecDepth 20000 in
theorem ggX10_wouldGet_X10_planDue : GoodIn wsX10_wouldGet wsX10_planDue := goodIn_r _ [66, 3, 24, 9, 41, 54, 55, 7, 56, 57, 58, 67, 68, 69, 70, 71, 72, 73, 74, 75, 76, 77, 78, 79, 80, 81, 82, 83, 84, 85] (by decide +kernel) (by decide +kernel)
set_option maxRecDepth 20000 in
theorem gX10_wouldGet_X10_planDue : GoodIn wsX10_wouldGet (wsV RX10 118 RX10 yX10_planDue wsX10_planDue) := goodIn_app (goodIn_of _ (by decide +kernel)) ggX10_wouldGet_X10_planDue
theorem dX10_wouldGet_0 : decode cX10_wouldGet 0 = .ok (.aload_n 0, 1) := by decide +kernel
theorem dX10_wouldGet_1 : decode cX10_wouldGet 1 = .ok (.iload_n 1, 1) := by decide +kernel
theorem dX10_wouldGet_2 : decode cX10_wouldGet 2 = .ok (.invokevirtual 60, 3) := by decide +kernel
theorem dX10_wouldGet_5 : decode cX10_wouldGet 5 = .ok (.ifCond .ne 5, 3) := by decide +kernel
theorem dX10_wouldGet_8 : decode cX10_wouldGet 8 = .ok (.iconst (-1), 1) := by decide +kernel
theorem dX10_wouldGet_9 : decode cX10_wouldGet 9 = .ok (.ireturn, 1) := by decide +kernel
theorem dX10_wouldGet_10 : decode cX10_wouldGet 10 = .ok (.iload_n 2, 1) := by decide +kernel
theorem dX10_wouldGet_11 : decode cX10_wouldGet 11 = .ok (.iconst 1, 1) := by decide +kernel
theorem dX10_wouldGet_12 : decode cX10_wouldGet 12 = .ok (.sipush 999, 3) := by decide +kernel
theorem dX10_wouldGet_15 : decode cX10_wouldGet 15 = .ok (.invokestatic 56, 3) := by decide +kernel
theorem dX10_wouldGet_18 : decode cX10_wouldGet 18 = .ok (.ifCond .eq 23, 3) := by decide +kernel
theorem dX10_wouldGet_21 : decode cX10_wouldGet 21 = .ok (.iload_n 3, 1) := by decide +kernel
theorem dX10_wouldGet_22 : decode cX10_wouldGet 22 = .ok (.iconst 0, 1) := by decide +kernel
theorem dX10_wouldGet_23 : decode cX10_wouldGet 23 = .ok (.bipush 60, 2) := by decide +kernel
theorem dX10_wouldGet_25 : decode cX10_wouldGet 25 = .ok (.invokestatic 56, 3) := by decide +kernel
theorem dX10_wouldGet_28 : decode cX10_wouldGet 28 = .ok (.ifCond .eq 13, 3) := by decide +kernel
theorem dX10_wouldGet_31 : decode cX10_wouldGet 31 = .ok (.iload 5, 2) := by decide +kernel
theorem dX10_wouldGet_33 : decode cX10_wouldGet 33 = .ok (.iconst 0, 1) := by decide +kernel
theorem dX10_wouldGet_34 : decode cX10_wouldGet 34 = .ok (.iconst 3, 1) := by decide +kernel
theorem dX10_wouldGet_35 : decode cX10_wouldGet 35 = .ok (.invokestatic 56, 3) := by decide +kernel
theorem dX10_wouldGet_38 : decode cX10_wouldGet 38 = .ok (.ifCond .ne 6, 3) := by decide +kernel
theorem dX10_wouldGet_41 : decode cX10_wouldGet 41 = .ok (.bipush (-2), 2) := by decide +kernel
theorem dX10_wouldGet_43 : decode cX10_wouldGet 43 = .ok (.ireturn, 1) := by decide +kernel
theorem dX10_wouldGet_44 : decode cX10_wouldGet 44 = .ok (.aload_n 0, 1) := by decide +kernel
theorem dX10_wouldGet_45 : decode cX10_wouldGet 45 = .ok (.iload_n 1, 1) := by decide +kernel
theorem dX10_wouldGet_46 : decode cX10_wouldGet 46 = .ok (.iload_n 2, 1) := by decide +kernel
theorem dX10_wouldGet_47 : decode cX10_wouldGet 47 = .ok (.iload_n 3, 1) := by decide +kernel
theorem dX10_wouldGet_48 : decode cX10_wouldGet 48 = .ok (.iload 4, 2) := by decide +kernel
theorem dX10_wouldGet_50 : decode cX10_wouldGet 50 = .ok (.invokevirtual 114, 3) := by decide +kernel
theorem dX10_wouldGet_53 : decode cX10_wouldGet 53 = .ok (.iload 5, 2) := by decide +kernel
theorem dX10_wouldGet_55 : decode cX10_wouldGet 55 = .ok (.ifCond .ne 10, 3) := by decide +kernel
theorem dX10_wouldGet_58 : decode cX10_wouldGet 58 = .ok (.aload_n 0, 1) := by decide +kernel
theorem dX10_wouldGet_59 : decode cX10_wouldGet 59 = .ok (.getfield 97, 3) := by decide +kernel
theorem dX10_wouldGet_62 : decode cX10_wouldGet 62 = .ok (.goto 33, 3) := by decide +kernel
theorem dX10_wouldGet_65 : decode cX10_wouldGet 65 = .ok (.iload 5, 2) := by decide +kernel
theorem dX10_wouldGet_67 : decode cX10_wouldGet 67 = .ok (.iconst 1, 1) := by decide +kernel
theorem dX10_wouldGet_68 : decode cX10_wouldGet 68 = .ok (.if_icmp .ne 10, 3) := by decide +kernel
theorem dX10_wouldGet_71 : decode cX10_wouldGet 71 = .ok (.aload_n 0, 1) := by decide +kernel
theorem dX10_wouldGet_72 : decode cX10_wouldGet 72 = .ok (.getfield 107, 3) := by decide +kernel
theorem dX10_wouldGet_75 : decode cX10_wouldGet 75 = .ok (.goto 20, 3) := by decide +kernel
theorem dX10_wouldGet_78 : decode cX10_wouldGet 78 = .ok (.iload 5, 2) := by decide +kernel
theorem dX10_wouldGet_80 : decode cX10_wouldGet 80 = .ok (.iconst 2, 1) := by decide +kernel
theorem dX10_wouldGet_81 : decode cX10_wouldGet 81 = .ok (.if_icmp .ne 10, 3) := by decide +kernel
theorem dX10_wouldGet_84 : decode cX10_wouldGet 84 = .ok (.aload_n 0, 1) := by decide +kernel
theorem dX10_wouldGet_85 : decode cX10_wouldGet 85 = .ok (.getfield 100, 3) := by decide +kernel
theorem dX10_wouldGet_88 : decode cX10_wouldGet 88 = .ok (.goto 7, 3) := by decide +kernel
theorem dX10_wouldGet_91 : decode cX10_wouldGet 91 = .ok (.aload_n 0, 1) := by decide +kernel
theorem dX10_wouldGet_92 : decode cX10_wouldGet 92 = .ok (.invokevirtual 118, 3) := by decide +kernel
theorem dX10_wouldGet_95 : decode cX10_wouldGet 95 = .ok (.ireturn, 1) := by decide +kernel
set_option maxRecDepth 20000 in
theorem ggX10_putBatch_X10_note : GoodIn wsX10_putBatch wsX10_note := goodIn_r _ [6, 1, 7, 8, 9, 10, 11, 12, 13, 14, 15, 16, 17, 18, 19, 20, 21, 22, 23, 24, 25] (by decide +kernel) (by decide +kernel)
set_option maxRecDepth 20000 in
theorem gX10_putBatch_X10_note : GoodIn wsX10_putBatch (wsV RX10 130 RX10 yX10_note wsX10_note) := goodIn_app (goodIn_of _ (by decide +kernel)) ggX10_putBatch_X10_note
theorem dX10_putBatch_0 : decode cX10_putBatch 0 = .ok (.aload_n 0, 1) := by decide +kernel
theorem dX10_putBatch_1 : decode cX10_putBatch 1 = .ok (.getfield 7, 3) := by decide +kernel
theorem dX10_putBatch_4 : decode cX10_putBatch 4 = .ok (.iconst 2, 1) := by decide +kernel
theorem dX10_putBatch_5 : decode cX10_putBatch 5 = .ok (.iaload, 1) := by decide +kernel
theorem dX10_putBatch_6 : decode cX10_putBatch 6 = .ok (.istore 4, 2) := by decide +kernel
theorem dX10_putBatch_8 : decode cX10_putBatch 8 = .ok (.aload_n 0, 1) := by decide +kernel
theorem dX10_putBatch_9 : decode cX10_putBatch 9 = .ok (.getfield 7, 3) := by decide +kernel
theorem dX10_putBatch_12 : decode cX10_putBatch 12 = .ok (.iconst 2, 1) := by decide +kernel
theorem dX10_putBatch_13 : decode cX10_putBatch 13 = .ok (.dup2, 1) := by decide +kernel
theorem dX10_putBatch_14 : decode cX10_putBatch 14 = .ok (.iaload, 1) := by decide +kernel
theorem dX10_putBatch_15 : decode cX10_putBatch 15 = .ok (.iconst 1, 1) := by decide +kernel
theorem dX10_putBatch_16 : decode cX10_putBatch 16 = .ok (.iadd, 1) := by decide +kernel
theorem dX10_putBatch_17 : decode cX10_putBatch 17 = .ok (.iastore, 1) := by decide +kernel
theorem dX10_putBatch_18 : decode cX10_putBatch 18 = .ok (.bipush 94, 2) := by decide +kernel
theorem dX10_putBatch_20 : decode cX10_putBatch 20 = .ok (.bipush 10, 2) := by decide +kernel
theorem dX10_putBatch_22 : decode cX10_putBatch 22 = .ok (.iload 4, 2) := by decide +kernel
theorem dX10_putBatch_24 : decode cX10_putBatch 24 = .ok (.imul, 1) := by decide +kernel
theorem dX10_putBatch_25 : decode cX10_putBatch 25 = .ok (.iadd, 1) := by decide +kernel
theorem dX10_putBatch_26 : decode cX10_putBatch 26 = .ok (.istore 5, 2) := by decide +kernel
theorem dX10_putBatch_28 : decode cX10_putBatch 28 = .ok (.aload_n 0, 1) := by decide +kernel
theorem dX10_putBatch_29 : decode cX10_putBatch 29 = .ok (.getfield 7, 3) := by decide +kernel
theorem dX10_putBatch_32 : decode cX10_putBatch 32 = .ok (.iload 5, 2) := by decide +kernel
theorem dX10_putBatch_34 : decode cX10_putBatch 34 = .ok (.iconst 0, 1) := by decide +kernel
theorem dX10_putBatch_35 : decode cX10_putBatch 35 = .ok (.iadd, 1) := by decide +kernel
theorem dX10_putBatch_36 : decode cX10_putBatch 36 = .ok (.iload_n 1, 1) := by decide +kernel
theorem dX10_putBatch_37 : decode cX10_putBatch 37 = .ok (.iastore, 1) := by decide +kernel
theorem dX10_putBatch_38 : decode cX10_putBatch 38 = .ok (.aload_n 0, 1) := by decide +kernel
theorem dX10_putBatch_39 : decode cX10_putBatch 39 = .ok (.getfield 7, 3) := by decide +kernel
theorem dX10_putBatch_42 : decode cX10_putBatch 42 = .ok (.iload 5, 2) := by decide +kernel
theorem dX10_putBatch_44 : decode cX10_putBatch 44 = .ok (.iconst 1, 1) := by decide +kernel
theorem dX10_putBatch_45 : decode cX10_putBatch 45 = .ok (.iadd, 1) := by decide +kernel
theorem dX10_putBatch_46 : decode cX10_putBatch 46 = .ok (.iload_n 2, 1) := by decide +kernel
theorem dX10_putBatch_47 : decode cX10_putBatch 47 = .ok (.iastore, 1) := by decide +kernel
theorem dX10_putBatch_48 : decode cX10_putBatch 48 = .ok (.aload_n 0, 1) := by decide +kernel
theorem dX10_putBatch_49 : decode cX10_putBatch 49 = .ok (.getfield 7, 3) := by decide +kernel
theorem dX10_putBatch_52 : decode cX10_putBatch 52 = .ok (.iload 5, 2) := by decide +kernel
theorem dX10_putBatch_54 : decode cX10_putBatch 54 = .ok (.iconst 2, 1) := by decide +kernel
theorem dX10_putBatch_55 : decode cX10_putBatch 55 = .ok (.iadd, 1) := by decide +kernel
theorem dX10_putBatch_56 : decode cX10_putBatch 56 = .ok (.iload_n 3, 1) := by decide +kernel
theorem dX10_putBatch_57 : decode cX10_putBatch 57 = .ok (.iastore, 1) := by decide +kernel
theorem dX10_putBatch_58 : decode cX10_putBatch 58 = .ok (.aload_n 0, 1) := by decide +kernel
theorem dX10_putBatch_59 : decode cX10_putBatch 59 = .ok (.getfield 7, 3) := by decide +kernel
theorem dX10_putBatch_62 : decode cX10_putBatch 62 = .ok (.iload 5, 2) := by decide +kernel
theorem dX10_putBatch_64 : decode cX10_putBatch 64 = .ok (.iconst 3, 1) := by decide +kernel
theorem dX10_putBatch_65 : decode cX10_putBatch 65 = .ok (.iadd, 1) := by decide +kernel
theorem dX10_putBatch_66 : decode cX10_putBatch 66 = .ok (.iload_n 2, 1) := by decide +kernel
theorem dX10_putBatch_67 : decode cX10_putBatch 67 = .ok (.iastore, 1) := by decide +kernel
theorem dX10_putBatch_68 : decode cX10_putBatch 68 = .ok (.aload_n 0, 1) := by decide +kernel
theorem dX10_putBatch_69 : decode cX10_putBatch 69 = .ok (.iconst 0, 1) := by decide +kernel
theorem dX10_putBatch_70 : decode cX10_putBatch 70 = .ok (.iload 4, 2) := by decide +kernel
theorem dX10_putBatch_72 : decode cX10_putBatch 72 = .ok (.iload_n 2, 1) := by decide +kernel
theorem dX10_putBatch_73 : decode cX10_putBatch 73 = .ok (.invokevirtual 130, 3) := by decide +kernel
theorem dX10_putBatch_76 : decode cX10_putBatch 76 = .ok (.iload 4, 2) := by decide +kernel
theorem dX10_putBatch_78 : decode cX10_putBatch 78 = .ok (.ireturn, 1) := by decide +kernel
set_option maxRecDepth 20000 in
theorem ggX10_bring_X10_isGood : GoodIn wsX10_bring wsX10_isGood := goodIn_r _ [6, 1, 28, 29, 30, 31, 32, 33, 34, 35, 36, 37, 38, 39, 40, 41, 42, 43, 44, 45, 46] (by decide +kernel) (by decide +kernel)
set_option maxRecDepth 20000 in
theorem gX10_bring_X10_isGood : GoodIn wsX10_bring (wsV RX10 60 RX10 yX10_isGood wsX10_isGood) := goodIn_app (goodIn_of _ (by decide +kernel)) ggX10_bring_X10_isGood
set_option maxRecDepth 20000 in
theorem ggX10_bring_X10_in : GoodIn wsX10_bring wsX10_in := goodIn_r _ [9] (by decide +kernel) (by decide +kernel)
set_option maxRecDepth 20000 in
theorem gX10_bring_X10_in : GoodIn wsX10_bring (va_wsS RX10 56 yX10_in wsX10_in) := goodIn_app (goodIn_of _ (by decide +kernel)) ggX10_bring_X10_in
set_option maxRecDepth 20000 in
theorem ggX10_bring_X10_ofGood : GoodIn wsX10_bring wsX10_ofGood := goodIn_r _ [13, 1, 28, 29, 30, 31, 32, 33, 34, 35, 36, 37, 38, 39, 40, 41, 42, 43, 44, 45, 46] (by decide +kernel) (by decide +kernel)
set_option maxRecDepth 20000 in
theorem gX10_bring_X10_ofGood : GoodIn wsX10_bring (wsV RX10 64 RX10 yX10_ofGood wsX10_ofGood) := goodIn_app (goodIn_of _ (by decide +kernel)) ggX10_bring_X10_ofGood
set_option maxRecDepth 20000 in
theorem ggX10_bring_X10_record : GoodIn wsX10_bring wsX10_record := goodIn_r _ [17, 18, 19, 1, 28, 29, 30, 31, 32, 33, 34, 35, 36, 37, 38, 39, 40, 41, 42, 43, 44, 45, 46] (by decide +kernel) (by decide +kernel)
set_option maxRecDepth 20000 in
theorem gX10_bring_X10_record : GoodIn wsX10_bring (wsV RX10 53 RX10 yX10_record wsX10_record) := goodIn_app (goodIn_of _ (by decide +kernel)) ggX10_bring_X10_record
set_option maxRecDepth 20000 in
theorem ggX10_bring_X10_putBatch : GoodIn wsX10_bring wsX10_putBatch := goodIn_r _ [23, 1, 24, 25, 26, 5, 27, 28, 29, 30, 31, 32, 33, 34, 35, 36, 37, 38, 39, 40, 41, 42, 43, 44, 45, 46] (by decide +kernel) (by decide +kernel)
set_option maxRecDepth 20000 in
theorem gX10_bring_X10_putBatch : GoodIn wsX10_bring (wsV RX10 133 RX10 yX10_putBatch wsX10_putBatch) := goodIn_app (goodIn_of _ (by decide +kernel)) ggX10_bring_X10_putBatch
theorem dX10_bring_0 : decode cX10_bring 0 = .ok (.aload_n 0, 1) := by decide +kernel
theorem dX10_bring_1 : decode cX10_bring 1 = .ok (.iload_n 1, 1) := by decide +kernel
theorem dX10_bring_2 : decode cX10_bring 2 = .ok (.invokevirtual 60, 3) := by decide +kernel
theorem dX10_bring_5 : decode cX10_bring 5 = .ok (.ifCond .ne 5, 3) := by decide +kernel
theorem dX10_bring_8 : decode cX10_bring 8 = .ok (.iconst (-1), 1) := by decide +kernel
theorem dX10_bring_9 : decode cX10_bring 9 = .ok (.ireturn, 1) := by decide +kernel
theorem dX10_bring_10 : decode cX10_bring 10 = .ok (.iload_n 2, 1) := by decide +kernel
theorem dX10_bring_11 : decode cX10_bring 11 = .ok (.iconst 1, 1) := by decide +kernel
theorem dX10_bring_12 : decode cX10_bring 12 = .ok (.sipush 999, 3) := by decide +kernel
theorem dX10_bring_15 : decode cX10_bring 15 = .ok (.invokestatic 56, 3) := by decide +kernel
theorem dX10_bring_18 : decode cX10_bring 18 = .ok (.ifCond .eq 17, 3) := by decide +kernel
theorem dX10_bring_21 : decode cX10_bring 21 = .ok (.iload_n 3, 1) := by decide +kernel
theorem dX10_bring_22 : decode cX10_bring 22 = .ok (.iconst 1, 1) := by decide +kernel
theorem dX10_bring_23 : decode cX10_bring 23 = .ok (.aload_n 0, 1) := by decide +kernel
theorem dX10_bring_24 : decode cX10_bring 24 = .ok (.iload_n 1, 1) := by decide +kernel
theorem dX10_bring_25 : decode cX10_bring 25 = .ok (.iconst 1, 1) := by decide +kernel
theorem dX10_bring_26 : decode cX10_bring 26 = .ok (.invokevirtual 64, 3) := by decide +kernel
theorem dX10_bring_29 : decode cX10_bring 29 = .ok (.invokestatic 56, 3) := by decide +kernel
theorem dX10_bring_32 : decode cX10_bring 32 = .ok (.ifCond .ne 6, 3) := by decide +kernel
theorem dX10_bring_35 : decode cX10_bring 35 = .ok (.bipush (-2), 2) := by decide +kernel
theorem dX10_bring_37 : decode cX10_bring 37 = .ok (.ireturn, 1) := by decide +kernel
theorem dX10_bring_38 : decode cX10_bring 38 = .ok (.aload_n 0, 1) := by decide +kernel
theorem dX10_bring_39 : decode cX10_bring 39 = .ok (.getfield 7, 3) := by decide +kernel
theorem dX10_bring_42 : decode cX10_bring 42 = .ok (.iconst 2, 1) := by decide +kernel
theorem dX10_bring_43 : decode cX10_bring 43 = .ok (.iaload, 1) := by decide +kernel
theorem dX10_bring_44 : decode cX10_bring 44 = .ok (.bipush 40, 2) := by decide +kernel
theorem dX10_bring_46 : decode cX10_bring 46 = .ok (.if_icmp .ne 6, 3) := by decide +kernel
theorem dX10_bring_49 : decode cX10_bring 49 = .ok (.bipush (-3), 2) := by decide +kernel
theorem dX10_bring_51 : decode cX10_bring 51 = .ok (.ireturn, 1) := by decide +kernel
theorem dX10_bring_52 : decode cX10_bring 52 = .ok (.aload_n 0, 1) := by decide +kernel
theorem dX10_bring_53 : decode cX10_bring 53 = .ok (.invokevirtual 53, 3) := by decide +kernel
theorem dX10_bring_56 : decode cX10_bring 56 = .ok (.aload_n 0, 1) := by decide +kernel
theorem dX10_bring_57 : decode cX10_bring 57 = .ok (.iload_n 1, 1) := by decide +kernel
theorem dX10_bring_58 : decode cX10_bring 58 = .ok (.iload_n 2, 1) := by decide +kernel
theorem dX10_bring_59 : decode cX10_bring 59 = .ok (.iload_n 3, 1) := by decide +kernel
theorem dX10_bring_60 : decode cX10_bring 60 = .ok (.invokevirtual 133, 3) := by decide +kernel
theorem dX10_bring_63 : decode cX10_bring 63 = .ok (.ireturn, 1) := by decide +kernel
set_option maxRecDepth 20000 in
theorem ggX10_waste_X10_addTo : GoodIn wsX10_waste wsX10_addTo := goodIn_r _ [5, 6, 11, 12, 13, 14, 15, 16, 17, 18, 19, 20, 21, 22, 23, 24, 25, 26, 27, 28, 29] (by decide +kernel) (by decide +kernel)
set_option maxRecDepth 20000 in
theorem gX10_waste_X10_addTo : GoodIn wsX10_waste (wsV RX10 126 RX10 yX10_addTo wsX10_addTo) := goodIn_app (goodIn_of _ (by decide +kernel)) ggX10_waste_X10_addTo
set_option maxRecDepth 20000 in
theorem ggX10_waste_X10_note : GoodIn wsX10_waste wsX10_note := goodIn_r _ [10, 6, 11, 12, 13, 14, 15, 16, 17, 18, 19, 20, 21, 22, 23, 24, 25, 26, 27, 28, 29] (by decide +kernel) (by decide +kernel)
set_option maxRecDepth 20000 in
theorem gX10_waste_X10_note : GoodIn wsX10_waste (wsV RX10 130 RX10 yX10_note wsX10_note) := goodIn_app (goodIn_of _ (by decide +kernel)) ggX10_waste_X10_note
theorem dX10_waste_0 : decode cX10_waste 0 = .ok (.aload_n 0, 1) := by decide +kernel
theorem dX10_waste_1 : decode cX10_waste 1 = .ok (.iload_n 1, 1) := by decide +kernel
theorem dX10_waste_2 : decode cX10_waste 2 = .ok (.iconst 3, 1) := by decide +kernel
theorem dX10_waste_3 : decode cX10_waste 3 = .ok (.iload_n 2, 1) := by decide +kernel
theorem dX10_waste_4 : decode cX10_waste 4 = .ok (.ineg, 1) := by decide +kernel
theorem dX10_waste_5 : decode cX10_waste 5 = .ok (.invokevirtual 126, 3) := by decide +kernel
theorem dX10_waste_8 : decode cX10_waste 8 = .ok (.aload_n 0, 1) := by decide +kernel
theorem dX10_waste_9 : decode cX10_waste 9 = .ok (.iload_n 1, 1) := by decide +kernel
theorem dX10_waste_10 : decode cX10_waste 10 = .ok (.bipush 6, 2) := by decide +kernel
theorem dX10_waste_12 : decode cX10_waste 12 = .ok (.iload_n 3, 1) := by decide +kernel
theorem dX10_waste_13 : decode cX10_waste 13 = .ok (.iadd, 1) := by decide +kernel
theorem dX10_waste_14 : decode cX10_waste 14 = .ok (.iload_n 2, 1) := by decide +kernel
theorem dX10_waste_15 : decode cX10_waste 15 = .ok (.invokevirtual 126, 3) := by decide +kernel
theorem dX10_waste_18 : decode cX10_waste 18 = .ok (.aload_n 0, 1) := by decide +kernel
theorem dX10_waste_19 : decode cX10_waste 19 = .ok (.iconst 3, 1) := by decide +kernel
theorem dX10_waste_20 : decode cX10_waste 20 = .ok (.iload_n 1, 1) := by decide +kernel
theorem dX10_waste_21 : decode cX10_waste 21 = .ok (.iload_n 2, 1) := by decide +kernel
theorem dX10_waste_22 : decode cX10_waste 22 = .ok (.invokevirtual 130, 3) := by decide +kernel
theorem dX10_waste_25 : decode cX10_waste 25 = .ok (.return_, 1) := by decide +kernel
set_option maxRecDepth 20000 in
theorem ggX10_breakUnits_X10_isBatch : GoodIn wsX10_breakUnits wsX10_isBatch := goodIn_r _ [5, 6, 32, 33, 34, 35, 36, 37, 38, 39, 40, 41, 42, 43, 44, 45, 46, 47, 48, 49, 50] (by decide +kernel) (by decide +kernel)
set_option maxRecDepth 20000 in
theorem gX10_breakUnits_X10_isBatch : GoodIn wsX10_breakUnits (wsV RX10 136 RX10 yX10_isBatch wsX10_isBatch) := goodIn_app (goodIn_of _ (by decide +kernel)) ggX10_breakUnits_X10_isBatch
set_option maxRecDepth 20000 in
theorem ggX10_breakUnits_X10_in : GoodIn wsX10_breakUnits wsX10_in := goodIn_r _ [9] (by decide +kernel) (by decide +kernel)
set_option maxRecDepth 20000 in
theorem gX10_breakUnits_X10_in : GoodIn wsX10_breakUnits (va_wsS RX10 56 yX10_in wsX10_in) := goodIn_app (goodIn_of _ (by decide +kernel)) ggX10_breakUnits_X10_in
set_option maxRecDepth 20000 in
theorem ggX10_breakUnits_X10_ofBatch : GoodIn wsX10_breakUnits wsX10_ofBatch := goodIn_r _ [13, 6, 32, 33, 34, 35, 36, 37, 38, 39, 40, 41, 42, 43, 44, 45, 46, 47, 48, 49, 50] (by decide +kernel) (by decide +kernel)
set_option maxRecDepth 20000 in
theorem gX10_breakUnits_X10_ofBatch : GoodIn wsX10_breakUnits (wsV RX10 72 RX10 yX10_ofBatch wsX10_ofBatch) := goodIn_app (goodIn_of _ (by decide +kernel)) ggX10_breakUnits_X10_ofBatch
set_option maxRecDepth 20000 in
theorem ggX10_breakUnits_X10_record : GoodIn wsX10_breakUnits wsX10_record := goodIn_r _ [17, 18, 19, 6, 32, 33, 34, 35, 36, 37, 38, 39, 40, 41, 42, 43, 44, 45, 46, 47, 48, 49, 50] (by decide +kernel) (by decide +kernel)
set_option maxRecDepth 20000 in
theorem gX10_breakUnits_X10_record : GoodIn wsX10_breakUnits (wsV RX10 53 RX10 yX10_record wsX10_record) := goodIn_app (goodIn_of _ (by decide +kernel)) ggX10_breakUnits_X10_record
set_option maxRecDepth 20000 in
theorem ggX10_breakUnits_X10_waste : GoodIn wsX10_breakUnits wsX10_waste := goodIn_r _ [23, 24, 25, 26, 4, 27, 6, 28, 29, 30, 31, 32, 33, 34, 35, 36, 37, 38, 39, 40, 41, 42, 43, 44, 45, 46, 47, 48, 49, 50] (by decide +kernel) (by decide +kernel)
set_option maxRecDepth 20000 in
theorem gX10_breakUnits_X10_waste : GoodIn wsX10_breakUnits (wsV RX10 139 RX10 yX10_waste wsX10_waste) := goodIn_app (goodIn_of _ (by decide +kernel)) ggX10_breakUnits_X10_waste
theorem dX10_breakUnits_0 : decode cX10_breakUnits 0 = .ok (.aload_n 0, 1) := by decide +kernel
theorem dX10_breakUnits_1 : decode cX10_breakUnits 1 = .ok (.iload_n 1, 1) := by decide +kernel
theorem dX10_breakUnits_2 : decode cX10_breakUnits 2 = .ok (.invokevirtual 136, 3) := by decide +kernel
theorem dX10_breakUnits_5 : decode cX10_breakUnits 5 = .ok (.ifCond .ne 5, 3) := by decide +kernel
theorem dX10_breakUnits_8 : decode cX10_breakUnits 8 = .ok (.iconst (-1), 1) := by decide +kernel
theorem dX10_breakUnits_9 : decode cX10_breakUnits 9 = .ok (.ireturn, 1) := by decide +kernel
theorem dX10_breakUnits_10 : decode cX10_breakUnits 10 = .ok (.iload_n 2, 1) := by decide +kernel
theorem dX10_breakUnits_11 : decode cX10_breakUnits 11 = .ok (.iconst 1, 1) := by decide +kernel
theorem dX10_breakUnits_12 : decode cX10_breakUnits 12 = .ok (.sipush 999, 3) := by decide +kernel
theorem dX10_breakUnits_15 : decode cX10_breakUnits 15 = .ok (.invokestatic 56, 3) := by decide +kernel
theorem dX10_breakUnits_18 : decode cX10_breakUnits 18 = .ok (.ifCond .ne 6, 3) := by decide +kernel
theorem dX10_breakUnits_21 : decode cX10_breakUnits 21 = .ok (.bipush (-2), 2) := by decide +kernel
theorem dX10_breakUnits_23 : decode cX10_breakUnits 23 = .ok (.ireturn, 1) := by decide +kernel
theorem dX10_breakUnits_24 : decode cX10_breakUnits 24 = .ok (.aload_n 0, 1) := by decide +kernel
theorem dX10_breakUnits_25 : decode cX10_breakUnits 25 = .ok (.iload_n 1, 1) := by decide +kernel
theorem dX10_breakUnits_26 : decode cX10_breakUnits 26 = .ok (.iconst 3, 1) := by decide +kernel
theorem dX10_breakUnits_27 : decode cX10_breakUnits 27 = .ok (.invokevirtual 72, 3) := by decide +kernel
theorem dX10_breakUnits_30 : decode cX10_breakUnits 30 = .ok (.iload_n 2, 1) := by decide +kernel
theorem dX10_breakUnits_31 : decode cX10_breakUnits 31 = .ok (.if_icmp .ge 6, 3) := by decide +kernel
theorem dX10_breakUnits_34 : decode cX10_breakUnits 34 = .ok (.bipush (-4), 2) := by decide +kernel
theorem dX10_breakUnits_36 : decode cX10_breakUnits 36 = .ok (.ireturn, 1) := by decide +kernel
theorem dX10_breakUnits_37 : decode cX10_breakUnits 37 = .ok (.aload_n 0, 1) := by decide +kernel
theorem dX10_breakUnits_38 : decode cX10_breakUnits 38 = .ok (.invokevirtual 53, 3) := by decide +kernel
theorem dX10_breakUnits_41 : decode cX10_breakUnits 41 = .ok (.aload_n 0, 1) := by decide +kernel
theorem dX10_breakUnits_42 : decode cX10_breakUnits 42 = .ok (.iload_n 1, 1) := by decide +kernel
theorem dX10_breakUnits_43 : decode cX10_breakUnits 43 = .ok (.iload_n 2, 1) := by decide +kernel
theorem dX10_breakUnits_44 : decode cX10_breakUnits 44 = .ok (.iconst 1, 1) := by decide +kernel
theorem dX10_breakUnits_45 : decode cX10_breakUnits 45 = .ok (.invokevirtual 139, 3) := by decide +kernel
theorem dX10_breakUnits_48 : decode cX10_breakUnits 48 = .ok (.aload_n 0, 1) := by decide +kernel
theorem dX10_breakUnits_49 : decode cX10_breakUnits 49 = .ok (.iload_n 1, 1) := by decide +kernel
theorem dX10_breakUnits_50 : decode cX10_breakUnits 50 = .ok (.iconst 3, 1) := by decide +kernel
theorem dX10_breakUnits_51 : decode cX10_breakUnits 51 = .ok (.invokevirtual 72, 3) := by decide +kernel
theorem dX10_breakUnits_54 : decode cX10_breakUnits 54 = .ok (.ireturn, 1) := by decide +kernel
set_option maxRecDepth 20000 in
theorem ggX10_shelfOf_X10_ofBatch : GoodIn wsX10_shelfOf wsX10_ofBatch := goodIn_r _ [6, 1, 7, 8, 9, 10, 11, 12, 13, 14, 15, 16, 17, 18, 19, 20, 21, 22, 23, 24, 25] (by decide +kernel) (by decide +kernel)
set_option maxRecDepth 20000 in
theorem gX10_shelfOf_X10_ofBatch : GoodIn wsX10_shelfOf (wsV RX10 72 RX10 yX10_ofBatch wsX10_ofBatch) := goodIn_app (goodIn_of _ (by decide +kernel)) ggX10_shelfOf_X10_ofBatch
theorem dX10_shelfOf_0 : decode cX10_shelfOf 0 = .ok (.iconst 0, 1) := by decide +kernel
theorem dX10_shelfOf_1 : decode cX10_shelfOf 1 = .ok (.istore_n 2, 1) := by decide +kernel
theorem dX10_shelfOf_2 : decode cX10_shelfOf 2 = .ok (.iconst 0, 1) := by decide +kernel
theorem dX10_shelfOf_3 : decode cX10_shelfOf 3 = .ok (.istore_n 3, 1) := by decide +kernel
theorem dX10_shelfOf_4 : decode cX10_shelfOf 4 = .ok (.iload_n 3, 1) := by decide +kernel
theorem dX10_shelfOf_5 : decode cX10_shelfOf 5 = .ok (.aload_n 0, 1) := by decide +kernel
theorem dX10_shelfOf_6 : decode cX10_shelfOf 6 = .ok (.getfield 7, 3) := by decide +kernel
theorem dX10_shelfOf_9 : decode cX10_shelfOf 9 = .ok (.iconst 2, 1) := by decide +kernel
theorem dX10_shelfOf_10 : decode cX10_shelfOf 10 = .ok (.iaload, 1) := by decide +kernel
theorem dX10_shelfOf_11 : decode cX10_shelfOf 11 = .ok (.if_icmp .ge 32, 3) := by decide +kernel
theorem dX10_shelfOf_14 : decode cX10_shelfOf 14 = .ok (.iload_n 2, 1) := by decide +kernel
theorem dX10_shelfOf_15 : decode cX10_shelfOf 15 = .ok (.aload_n 0, 1) := by decide +kernel
theorem dX10_shelfOf_16 : decode cX10_shelfOf 16 = .ok (.iload_n 3, 1) := by decide +kernel
theorem dX10_shelfOf_17 : decode cX10_shelfOf 17 = .ok (.iconst 0, 1) := by decide +kernel
theorem dX10_shelfOf_18 : decode cX10_shelfOf 18 = .ok (.invokevirtual 72, 3) := by decide +kernel
theorem dX10_shelfOf_21 : decode cX10_shelfOf 21 = .ok (.iload_n 1, 1) := by decide +kernel
theorem dX10_shelfOf_22 : decode cX10_shelfOf 22 = .ok (.if_icmp .ne 12, 3) := by decide +kernel
theorem dX10_shelfOf_25 : decode cX10_shelfOf 25 = .ok (.aload_n 0, 1) := by decide +kernel
theorem dX10_shelfOf_26 : decode cX10_shelfOf 26 = .ok (.iload_n 3, 1) := by decide +kernel
theorem dX10_shelfOf_27 : decode cX10_shelfOf 27 = .ok (.iconst 3, 1) := by decide +kernel
theorem dX10_shelfOf_28 : decode cX10_shelfOf 28 = .ok (.invokevirtual 72, 3) := by decide +kernel
theorem dX10_shelfOf_31 : decode cX10_shelfOf 31 = .ok (.goto 4, 3) := by decide +kernel
theorem dX10_shelfOf_34 : decode cX10_shelfOf 34 = .ok (.iconst 0, 1) := by decide +kernel
theorem dX10_shelfOf_35 : decode cX10_shelfOf 35 = .ok (.iadd, 1) := by decide +kernel
theorem dX10_shelfOf_36 : decode cX10_shelfOf 36 = .ok (.istore_n 2, 1) := by decide +kernel
theorem dX10_shelfOf_37 : decode cX10_shelfOf 37 = .ok (.iinc 3 1, 3) := by decide +kernel
theorem dX10_shelfOf_40 : decode cX10_shelfOf 40 = .ok (.goto (-36), 3) := by decide +kernel
theorem dX10_shelfOf_43 : decode cX10_shelfOf 43 = .ok (.iload_n 2, 1) := by decide +kernel
theorem dX10_shelfOf_44 : decode cX10_shelfOf 44 = .ok (.ireturn, 1) := by decide +kernel
set_option maxRecDepth 20000 in
theorem ggX10_recall_X10_isGood : GoodIn wsX10_recall wsX10_isGood := goodIn_r _ [6, 1, 33, 34, 35, 36, 37, 38, 39, 40, 41, 42, 43, 44, 45, 46, 47, 48, 49, 50, 51] (by decide +kernel) (by decide +kernel)
set_option maxRecDepth 20000 in
theorem gX10_recall_X10_isGood : GoodIn wsX10_recall (wsV RX10 60 RX10 yX10_isGood wsX10_isGood) := goodIn_app (goodIn_of _ (by decide +kernel)) ggX10_recall_X10_isGood
set_option maxRecDepth 20000 in
theorem ggX10_recall_X10_shelfOf : GoodIn wsX10_recall wsX10_shelfOf := goodIn_r _ [10, 1, 11, 12, 13, 5, 14, 33, 34, 35, 36, 37, 38, 39, 40, 41, 42, 43, 44, 45, 46, 47, 48, 49, 50, 51] (by decide +kernel) (by decide +kernel)
set_option maxRecDepth 20000 in
theorem gX10_recall_X10_shelfOf : GoodIn wsX10_recall (wsV RX10 142 RX10 yX10_shelfOf wsX10_shelfOf) := goodIn_app (goodIn_of _ (by decide +kernel)) ggX10_recall_X10_shelfOf
set_option maxRecDepth 20000 in
theorem ggX10_recall_X10_record : GoodIn wsX10_recall wsX10_record := goodIn_r _ [18, 19, 20, 1, 33, 34, 35, 36, 37, 38, 39, 40, 41, 42, 43, 44, 45, 46, 47, 48, 49, 50, 51] (by decide +kernel) (by decide +kernel)
set_option maxRecDepth 20000 in
theorem gX10_recall_X10_record : GoodIn wsX10_recall (wsV RX10 53 RX10 yX10_record wsX10_record) := goodIn_app (goodIn_of _ (by decide +kernel)) ggX10_recall_X10_record
set_option maxRecDepth 20000 in
theorem ggX10_recall_X10_ofBatch : GoodIn wsX10_recall wsX10_ofBatch := goodIn_r _ [14, 1, 33, 34, 35, 36, 37, 38, 39, 40, 41, 42, 43, 44, 45, 46, 47, 48, 49, 50, 51] (by decide +kernel) (by decide +kernel)
set_option maxRecDepth 20000 in
theorem gX10_recall_X10_ofBatch : GoodIn wsX10_recall (wsV RX10 72 RX10 yX10_ofBatch wsX10_ofBatch) := goodIn_app (goodIn_of _ (by decide +kernel)) ggX10_recall_X10_ofBatch
set_option maxRecDepth 20000 in
theorem ggX10_recall_X10_waste : GoodIn wsX10_recall wsX10_waste := goodIn_r _ [24, 25, 26, 27, 5, 28, 1, 29, 30, 31, 32, 33, 34, 35, 36, 37, 38, 39, 40, 41, 42, 43, 44, 45, 46, 47, 48, 49, 50, 51] (by decide +kernel) (by decide +kernel)
set_option maxRecDepth 20000 in
theorem gX10_recall_X10_waste : GoodIn wsX10_recall (wsV RX10 139 RX10 yX10_waste wsX10_waste) := goodIn_app (goodIn_of _ (by decide +kernel)) ggX10_recall_X10_waste
theorem dX10_recall_0 : decode cX10_recall 0 = .ok (.aload_n 0, 1) := by decide +kernel
theorem dX10_recall_1 : decode cX10_recall 1 = .ok (.iload_n 1, 1) := by decide +kernel
theorem dX10_recall_2 : decode cX10_recall 2 = .ok (.invokevirtual 60, 3) := by decide +kernel
theorem dX10_recall_5 : decode cX10_recall 5 = .ok (.ifCond .ne 5, 3) := by decide +kernel
theorem dX10_recall_8 : decode cX10_recall 8 = .ok (.iconst (-1), 1) := by decide +kernel
theorem dX10_recall_9 : decode cX10_recall 9 = .ok (.ireturn, 1) := by decide +kernel
theorem dX10_recall_10 : decode cX10_recall 10 = .ok (.aload_n 0, 1) := by decide +kernel
theorem dX10_recall_11 : decode cX10_recall 11 = .ok (.iload_n 1, 1) := by decide +kernel
theorem dX10_recall_12 : decode cX10_recall 12 = .ok (.invokevirtual 142, 3) := by decide +kernel
theorem dX10_recall_15 : decode cX10_recall 15 = .ok (.istore_n 2, 1) := by decide +kernel
theorem dX10_recall_16 : decode cX10_recall 16 = .ok (.iload_n 2, 1) := by decide +kernel
theorem dX10_recall_17 : decode cX10_recall 17 = .ok (.ifCond .ne 6, 3) := by decide +kernel
theorem dX10_recall_20 : decode cX10_recall 20 = .ok (.bipush (-5), 2) := by decide +kernel
theorem dX10_recall_22 : decode cX10_recall 22 = .ok (.ireturn, 1) := by decide +kernel
theorem dX10_recall_23 : decode cX10_recall 23 = .ok (.aload_n 0, 1) := by decide +kernel
theorem dX10_recall_24 : decode cX10_recall 24 = .ok (.invokevirtual 53, 3) := by decide +kernel
theorem dX10_recall_27 : decode cX10_recall 27 = .ok (.iconst 0, 1) := by decide +kernel
theorem dX10_recall_28 : decode cX10_recall 28 = .ok (.istore_n 3, 1) := by decide +kernel
theorem dX10_recall_29 : decode cX10_recall 29 = .ok (.iload_n 3, 1) := by decide +kernel
theorem dX10_recall_30 : decode cX10_recall 30 = .ok (.aload_n 0, 1) := by decide +kernel
theorem dX10_recall_31 : decode cX10_recall 31 = .ok (.getfield 7, 3) := by decide +kernel
theorem dX10_recall_34 : decode cX10_recall 34 = .ok (.iconst 2, 1) := by decide +kernel
theorem dX10_recall_35 : decode cX10_recall 35 = .ok (.iaload, 1) := by decide +kernel
theorem dX10_recall_36 : decode cX10_recall 36 = .ok (.if_icmp .ge 40, 3) := by decide +kernel
theorem dX10_recall_39 : decode cX10_recall 39 = .ok (.aload_n 0, 1) := by decide +kernel
theorem dX10_recall_40 : decode cX10_recall 40 = .ok (.iload_n 3, 1) := by decide +kernel
theorem dX10_recall_41 : decode cX10_recall 41 = .ok (.iconst 0, 1) := by decide +kernel
theorem dX10_recall_42 : decode cX10_recall 42 = .ok (.invokevirtual 72, 3) := by decide +kernel
theorem dX10_recall_45 : decode cX10_recall 45 = .ok (.iload_n 1, 1) := by decide +kernel
theorem dX10_recall_46 : decode cX10_recall 46 = .ok (.if_icmp .ne 24, 3) := by decide +kernel
theorem dX10_recall_49 : decode cX10_recall 49 = .ok (.aload_n 0, 1) := by decide +kernel
theorem dX10_recall_50 : decode cX10_recall 50 = .ok (.iload_n 3, 1) := by decide +kernel
theorem dX10_recall_51 : decode cX10_recall 51 = .ok (.iconst 3, 1) := by decide +kernel
theorem dX10_recall_52 : decode cX10_recall 52 = .ok (.invokevirtual 72, 3) := by decide +kernel
theorem dX10_recall_55 : decode cX10_recall 55 = .ok (.ifCond .le 15, 3) := by decide +kernel
theorem dX10_recall_58 : decode cX10_recall 58 = .ok (.aload_n 0, 1) := by decide +kernel
theorem dX10_recall_59 : decode cX10_recall 59 = .ok (.iload_n 3, 1) := by decide +kernel
theorem dX10_recall_60 : decode cX10_recall 60 = .ok (.aload_n 0, 1) := by decide +kernel
theorem dX10_recall_61 : decode cX10_recall 61 = .ok (.iload_n 3, 1) := by decide +kernel
theorem dX10_recall_62 : decode cX10_recall 62 = .ok (.iconst 3, 1) := by decide +kernel
theorem dX10_recall_63 : decode cX10_recall 63 = .ok (.invokevirtual 72, 3) := by decide +kernel
theorem dX10_recall_66 : decode cX10_recall 66 = .ok (.iconst 2, 1) := by decide +kernel
theorem dX10_recall_67 : decode cX10_recall 67 = .ok (.invokevirtual 139, 3) := by decide +kernel
theorem dX10_recall_70 : decode cX10_recall 70 = .ok (.iinc 3 1, 3) := by decide +kernel
theorem dX10_recall_73 : decode cX10_recall 73 = .ok (.goto (-44), 3) := by decide +kernel
theorem dX10_recall_76 : decode cX10_recall 76 = .ok (.iload_n 2, 1) := by decide +kernel
theorem dX10_recall_77 : decode cX10_recall 77 = .ok (.ireturn, 1) := by decide +kernel
set_option maxRecDepth 20000 in
theorem ggX10_expire_X10_ofBatch : GoodIn wsX10_expire wsX10_ofBatch := goodIn_r _ [6, 1, 19, 20, 21, 22, 23, 24, 25, 26, 27, 28, 29, 30, 31, 32, 33, 34, 35, 36, 37] (by decide +kernel) (by decide +kernel)
set_option maxRecDepth 20000 in
theorem gX10_expire_X10_ofBatch : GoodIn wsX10_expire (wsV RX10 72 RX10 yX10_ofBatch wsX10_ofBatch) := goodIn_app (goodIn_of _ (by decide +kernel)) ggX10_expire_X10_ofBatch
set_option maxRecDepth 20000 in
theorem ggX10_expire_X10_waste : GoodIn wsX10_expire wsX10_waste := goodIn_r _ [10, 11, 12, 13, 5, 14, 1, 15, 16, 17, 18, 19, 20, 21, 22, 23, 24, 25, 26, 27, 28, 29, 30, 31, 32, 33, 34, 35, 36, 37] (by decide +kernel) (by decide +kernel)
set_option maxRecDepth 20000 in
theorem gX10_expire_X10_waste : GoodIn wsX10_expire (wsV RX10 139 RX10 yX10_waste wsX10_waste) := goodIn_app (goodIn_of _ (by decide +kernel)) ggX10_expire_X10_waste
theorem dX10_expire_0 : decode cX10_expire 0 = .ok (.iconst 0, 1) := by decide +kernel
theorem dX10_expire_1 : decode cX10_expire 1 = .ok (.istore_n 1, 1) := by decide +kernel
theorem dX10_expire_2 : decode cX10_expire 2 = .ok (.iconst 0, 1) := by decide +kernel
theorem dX10_expire_3 : decode cX10_expire 3 = .ok (.istore_n 2, 1) := by decide +kernel
theorem dX10_expire_4 : decode cX10_expire 4 = .ok (.iload_n 2, 1) := by decide +kernel
theorem dX10_expire_5 : decode cX10_expire 5 = .ok (.aload_n 0, 1) := by decide +kernel
theorem dX10_expire_6 : decode cX10_expire 6 = .ok (.getfield 7, 3) := by decide +kernel
theorem dX10_expire_9 : decode cX10_expire 9 = .ok (.iconst 2, 1) := by decide +kernel
theorem dX10_expire_10 : decode cX10_expire 10 = .ok (.iaload, 1) := by decide +kernel
theorem dX10_expire_11 : decode cX10_expire 11 = .ok (.if_icmp .ge 40, 3) := by decide +kernel
theorem dX10_expire_14 : decode cX10_expire 14 = .ok (.aload_n 0, 1) := by decide +kernel
theorem dX10_expire_15 : decode cX10_expire 15 = .ok (.iload_n 2, 1) := by decide +kernel
theorem dX10_expire_16 : decode cX10_expire 16 = .ok (.iconst 3, 1) := by decide +kernel
theorem dX10_expire_17 : decode cX10_expire 17 = .ok (.invokevirtual 72, 3) := by decide +kernel
theorem dX10_expire_20 : decode cX10_expire 20 = .ok (.istore_n 3, 1) := by decide +kernel
theorem dX10_expire_21 : decode cX10_expire 21 = .ok (.iload_n 3, 1) := by decide +kernel
theorem dX10_expire_22 : decode cX10_expire 22 = .ok (.ifCond .le 23, 3) := by decide +kernel
theorem dX10_expire_25 : decode cX10_expire 25 = .ok (.aload_n 0, 1) := by decide +kernel
theorem dX10_expire_26 : decode cX10_expire 26 = .ok (.iload_n 2, 1) := by decide +kernel
theorem dX10_expire_27 : decode cX10_expire 27 = .ok (.iconst 2, 1) := by decide +kernel
theorem dX10_expire_28 : decode cX10_expire 28 = .ok (.invokevirtual 72, 3) := by decide +kernel
theorem dX10_expire_31 : decode cX10_expire 31 = .ok (.ifCond .ne 14, 3) := by decide +kernel
theorem dX10_expire_34 : decode cX10_expire 34 = .ok (.aload_n 0, 1) := by decide +kernel
theorem dX10_expire_35 : decode cX10_expire 35 = .ok (.iload_n 2, 1) := by decide +kernel
theorem dX10_expire_36 : decode cX10_expire 36 = .ok (.iload_n 3, 1) := by decide +kernel
theorem dX10_expire_37 : decode cX10_expire 37 = .ok (.iconst 0, 1) := by decide +kernel
theorem dX10_expire_38 : decode cX10_expire 38 = .ok (.invokevirtual 139, 3) := by decide +kernel
theorem dX10_expire_41 : decode cX10_expire 41 = .ok (.iload_n 1, 1) := by decide +kernel
theorem dX10_expire_42 : decode cX10_expire 42 = .ok (.iload_n 3, 1) := by decide +kernel
theorem dX10_expire_43 : decode cX10_expire 43 = .ok (.iadd, 1) := by decide +kernel
theorem dX10_expire_44 : decode cX10_expire 44 = .ok (.istore_n 1, 1) := by decide +kernel
theorem dX10_expire_45 : decode cX10_expire 45 = .ok (.iinc 2 1, 3) := by decide +kernel
theorem dX10_expire_48 : decode cX10_expire 48 = .ok (.goto (-44), 3) := by decide +kernel
theorem dX10_expire_51 : decode cX10_expire 51 = .ok (.iload_n 1, 1) := by decide +kernel
theorem dX10_expire_52 : decode cX10_expire 52 = .ok (.ireturn, 1) := by decide +kernel
set_option maxRecDepth 20000 in
theorem ggX10_donate_X10_ofBatch : GoodIn wsX10_donate wsX10_ofBatch := goodIn_r _ [6, 1, 27, 28, 29, 30, 31, 32, 33, 34, 35, 36, 37, 38, 39, 40, 41, 42, 43, 44, 45] (by decide +kernel) (by decide +kernel)
set_option maxRecDepth 20000 in
theorem gX10_donate_X10_ofBatch : GoodIn wsX10_donate (wsV RX10 72 RX10 yX10_ofBatch wsX10_ofBatch) := goodIn_app (goodIn_of _ (by decide +kernel)) ggX10_donate_X10_ofBatch
set_option maxRecDepth 20000 in
theorem ggX10_donate_X10_stageOfBatch : GoodIn wsX10_donate wsX10_stageOfBatch := goodIn_r _ [10, 2, 3, 4, 5, 6, 1, 11, 12, 13, 14, 15, 16, 17, 18, 27, 28, 29, 30, 31, 32, 33, 34, 35, 36, 37, 38, 39, 40, 41, 42, 43, 44, 45] (by decide +kernel) (by decide +kernel)
set_option maxRecDepth 20000 in
theorem gX10_donate_X10_stageOfBatch : GoodIn wsX10_donate (wsV RX10 78 RX10 yX10_stageOfBatch wsX10_stageOfBatch) := goodIn_app (goodIn_of _ (by decide +kernel)) ggX10_donate_X10_stageOfBatch
set_option maxRecDepth 20000 in
theorem ggX10_donate_X10_addTo : GoodIn wsX10_donate wsX10_addTo := goodIn_r _ [22, 1, 27, 28, 29, 30, 31, 32, 33, 34, 35, 36, 37, 38, 39, 40, 41, 42, 43, 44, 45] (by decide +kernel) (by decide +kernel)
set_option maxRecDepth 20000 in
theorem gX10_donate_X10_addTo : GoodIn wsX10_donate (wsV RX10 126 RX10 yX10_addTo wsX10_addTo) := goodIn_app (goodIn_of _ (by decide +kernel)) ggX10_donate_X10_addTo
set_option maxRecDepth 20000 in
theorem ggX10_donate_X10_note : GoodIn wsX10_donate wsX10_note := goodIn_r _ [26, 1, 27, 28, 29, 30, 31, 32, 33, 34, 35, 36, 37, 38, 39, 40, 41, 42, 43, 44, 45] (by decide +kernel) (by decide +kernel)
set_option maxRecDepth 20000 in
theorem gX10_donate_X10_note : GoodIn wsX10_donate (wsV RX10 130 RX10 yX10_note wsX10_note) := goodIn_app (goodIn_of _ (by decide +kernel)) ggX10_donate_X10_note
theorem dX10_donate_0 : decode cX10_donate 0 = .ok (.aload_n 0, 1) := by decide +kernel
theorem dX10_donate_1 : decode cX10_donate 1 = .ok (.getfield 7, 3) := by decide +kernel
theorem dX10_donate_4 : decode cX10_donate 4 = .ok (.bipush 6, 2) := by decide +kernel
theorem dX10_donate_6 : decode cX10_donate 6 = .ok (.iaload, 1) := by decide +kernel
theorem dX10_donate_7 : decode cX10_donate 7 = .ok (.istore_n 1, 1) := by decide +kernel
theorem dX10_donate_8 : decode cX10_donate 8 = .ok (.iconst 0, 1) := by decide +kernel
theorem dX10_donate_9 : decode cX10_donate 9 = .ok (.istore_n 2, 1) := by decide +kernel
theorem dX10_donate_10 : decode cX10_donate 10 = .ok (.iload_n 2, 1) := by decide +kernel
theorem dX10_donate_11 : decode cX10_donate 11 = .ok (.aload_n 0, 1) := by decide +kernel
theorem dX10_donate_12 : decode cX10_donate 12 = .ok (.getfield 7, 3) := by decide +kernel
theorem dX10_donate_15 : decode cX10_donate 15 = .ok (.iconst 2, 1) := by decide +kernel
theorem dX10_donate_16 : decode cX10_donate 16 = .ok (.iaload, 1) := by decide +kernel
theorem dX10_donate_17 : decode cX10_donate 17 = .ok (.if_icmp .ge 77, 3) := by decide +kernel
theorem dX10_donate_20 : decode cX10_donate 20 = .ok (.aload_n 0, 1) := by decide +kernel
theorem dX10_donate_21 : decode cX10_donate 21 = .ok (.iload_n 2, 1) := by decide +kernel
theorem dX10_donate_22 : decode cX10_donate 22 = .ok (.iconst 3, 1) := by decide +kernel
theorem dX10_donate_23 : decode cX10_donate 23 = .ok (.invokevirtual 72, 3) := by decide +kernel
theorem dX10_donate_26 : decode cX10_donate 26 = .ok (.istore_n 3, 1) := by decide +kernel
theorem dX10_donate_27 : decode cX10_donate 27 = .ok (.iload_n 3, 1) := by decide +kernel
theorem dX10_donate_28 : decode cX10_donate 28 = .ok (.iload_n 1, 1) := by decide +kernel
theorem dX10_donate_29 : decode cX10_donate 29 = .ok (.if_icmp .ge 7, 3) := by decide +kernel
theorem dX10_donate_32 : decode cX10_donate 32 = .ok (.iload_n 3, 1) := by decide +kernel
theorem dX10_donate_33 : decode cX10_donate 33 = .ok (.goto 4, 3) := by decide +kernel
theorem dX10_donate_36 : decode cX10_donate 36 = .ok (.iload_n 1, 1) := by decide +kernel
theorem dX10_donate_37 : decode cX10_donate 37 = .ok (.istore 4, 2) := by decide +kernel
theorem dX10_donate_39 : decode cX10_donate 39 = .ok (.iload 4, 2) := by decide +kernel
theorem dX10_donate_41 : decode cX10_donate 41 = .ok (.ifCond .le 47, 3) := by decide +kernel
theorem dX10_donate_44 : decode cX10_donate 44 = .ok (.aload_n 0, 1) := by decide +kernel
theorem dX10_donate_45 : decode cX10_donate 45 = .ok (.iload_n 2, 1) := by decide +kernel
theorem dX10_donate_46 : decode cX10_donate 46 = .ok (.invokevirtual 78, 3) := by decide +kernel
theorem dX10_donate_49 : decode cX10_donate 49 = .ok (.aload_n 0, 1) := by decide +kernel
theorem dX10_donate_50 : decode cX10_donate 50 = .ok (.getfield 7, 3) := by decide +kernel
theorem dX10_donate_53 : decode cX10_donate 53 = .ok (.iconst 5, 1) := by decide +kernel
theorem dX10_donate_54 : decode cX10_donate 54 = .ok (.iaload, 1) := by decide +kernel
theorem dX10_donate_55 : decode cX10_donate 55 = .ok (.if_icmp .lt 33, 3) := by decide +kernel
theorem dX10_donate_58 : decode cX10_donate 58 = .ok (.aload_n 0, 1) := by decide +kernel
theorem dX10_donate_59 : decode cX10_donate 59 = .ok (.iload_n 2, 1) := by decide +kernel
theorem dX10_donate_60 : decode cX10_donate 60 = .ok (.iconst 3, 1) := by decide +kernel
theorem dX10_donate_61 : decode cX10_donate 61 = .ok (.iload 4, 2) := by decide +kernel
theorem dX10_donate_63 : decode cX10_donate 63 = .ok (.ineg, 1) := by decide +kernel
theorem dX10_donate_64 : decode cX10_donate 64 = .ok (.invokevirtual 126, 3) := by decide +kernel
theorem dX10_donate_67 : decode cX10_donate 67 = .ok (.aload_n 0, 1) := by decide +kernel
theorem dX10_donate_68 : decode cX10_donate 68 = .ok (.iload_n 2, 1) := by decide +kernel
theorem dX10_donate_69 : decode cX10_donate 69 = .ok (.iconst 5, 1) := by decide +kernel
theorem dX10_donate_70 : decode cX10_donate 70 = .ok (.iload 4, 2) := by decide +kernel
theorem dX10_donate_72 : decode cX10_donate 72 = .ok (.invokevirtual 126, 3) := by decide +kernel
theorem dX10_donate_75 : decode cX10_donate 75 = .ok (.aload_n 0, 1) := by decide +kernel
theorem dX10_donate_76 : decode cX10_donate 76 = .ok (.iconst 2, 1) := by decide +kernel
theorem dX10_donate_77 : decode cX10_donate 77 = .ok (.iload_n 2, 1) := by decide +kernel
theorem dX10_donate_78 : decode cX10_donate 78 = .ok (.iload 4, 2) := by decide +kernel
theorem dX10_donate_80 : decode cX10_donate 80 = .ok (.invokevirtual 130, 3) := by decide +kernel
theorem dX10_donate_83 : decode cX10_donate 83 = .ok (.iload_n 1, 1) := by decide +kernel
theorem dX10_donate_84 : decode cX10_donate 84 = .ok (.iload 4, 2) := by decide +kernel
theorem dX10_donate_86 : decode cX10_donate 86 = .ok (.isub, 1) := by decide +kernel
theorem dX10_donate_87 : decode cX10_donate 87 = .ok (.istore_n 1, 1) := by decide +kernel
theorem dX10_donate_88 : decode cX10_donate 88 = .ok (.iinc 2 1, 3) := by decide +kernel
theorem dX10_donate_91 : decode cX10_donate 91 = .ok (.goto (-81), 3) := by decide +kernel
theorem dX10_donate_94 : decode cX10_donate 94 = .ok (.return_, 1) := by decide +kernel
set_option maxRecDepth 20000 in
theorem ggX10_passDay_X10_ofBatch : GoodIn wsX10_passDay wsX10_ofBatch := goodIn_r _ [6, 1, 39, 40, 41, 42, 43, 44, 45, 46, 47, 48, 49, 50, 51, 52, 53, 54, 55, 56, 57] (by decide +kernel) (by decide +kernel)
set_option maxRecDepth 20000 in
theorem gX10_passDay_X10_ofBatch : GoodIn wsX10_passDay (wsV RX10 72 RX10 yX10_ofBatch wsX10_ofBatch) := goodIn_app (goodIn_of _ (by decide +kernel)) ggX10_passDay_X10_ofBatch
set_option maxRecDepth 20000 in
theorem ggX10_passDay_X10_addTo : GoodIn wsX10_passDay wsX10_addTo := goodIn_r _ [10, 1, 39, 40, 41, 42, 43, 44, 45, 46, 47, 48, 49, 50, 51, 52, 53, 54, 55, 56, 57] (by decide +kernel) (by decide +kernel)
set_option maxRecDepth 20000 in
theorem gX10_passDay_X10_addTo : GoodIn wsX10_passDay (wsV RX10 126 RX10 yX10_addTo wsX10_addTo) := goodIn_app (goodIn_of _ (by decide +kernel)) ggX10_passDay_X10_addTo
set_option maxRecDepth 20000 in
theorem ggX10_passDay_X10_expire : GoodIn wsX10_passDay wsX10_expire := goodIn_r _ [14, 1, 2, 3, 4, 5, 6, 15, 16, 17, 18, 7, 8, 9, 10, 19, 20, 21, 22, 39, 40, 41, 42, 43, 44, 45, 46, 47, 48, 49, 50, 51, 52, 53, 54, 55, 56, 57] (by decide +kernel) (by decide +kernel)
set_option maxRecDepth 20000 in
theorem gX10_passDay_X10_expire : GoodIn wsX10_passDay (wsV RX10 145 RX10 yX10_expire wsX10_expire) := goodIn_app (goodIn_of _ (by decide +kernel)) ggX10_passDay_X10_expire
set_option maxRecDepth 20000 in
theorem ggX10_passDay_X10_donate : GoodIn wsX10_passDay wsX10_donate := goodIn_r _ [26, 1, 2, 3, 4, 5, 6, 27, 28, 29, 30, 31, 32, 33, 34, 35, 36, 37, 38, 7, 8, 9, 10, 19, 20, 21, 22, 39, 40, 41, 42, 43, 44, 45, 46, 47, 48, 49, 50, 51, 52, 53, 54, 55, 56, 57] (by decide +kernel) (by decide +kernel)
set_option maxRecDepth 20000 in
theorem gX10_passDay_X10_donate : GoodIn wsX10_passDay (wsV RX10 148 RX10 yX10_donate wsX10_donate) := goodIn_app (goodIn_of _ (by decide +kernel)) ggX10_passDay_X10_donate
theorem dX10_passDay_0 : decode cX10_passDay 0 = .ok (.aload_n 0, 1) := by decide +kernel
theorem dX10_passDay_1 : decode cX10_passDay 1 = .ok (.getfield 7, 3) := by decide +kernel
theorem dX10_passDay_4 : decode cX10_passDay 4 = .ok (.iconst 0, 1) := by decide +kernel
theorem dX10_passDay_5 : decode cX10_passDay 5 = .ok (.dup2, 1) := by decide +kernel
theorem dX10_passDay_6 : decode cX10_passDay 6 = .ok (.iaload, 1) := by decide +kernel
theorem dX10_passDay_7 : decode cX10_passDay 7 = .ok (.iconst 1, 1) := by decide +kernel
theorem dX10_passDay_8 : decode cX10_passDay 8 = .ok (.iadd, 1) := by decide +kernel
theorem dX10_passDay_9 : decode cX10_passDay 9 = .ok (.iastore, 1) := by decide +kernel
theorem dX10_passDay_10 : decode cX10_passDay 10 = .ok (.iconst 0, 1) := by decide +kernel
theorem dX10_passDay_11 : decode cX10_passDay 11 = .ok (.istore_n 1, 1) := by decide +kernel
theorem dX10_passDay_12 : decode cX10_passDay 12 = .ok (.iload_n 1, 1) := by decide +kernel
theorem dX10_passDay_13 : decode cX10_passDay 13 = .ok (.aload_n 0, 1) := by decide +kernel
theorem dX10_passDay_14 : decode cX10_passDay 14 = .ok (.getfield 7, 3) := by decide +kernel
theorem dX10_passDay_17 : decode cX10_passDay 17 = .ok (.iconst 2, 1) := by decide +kernel
theorem dX10_passDay_18 : decode cX10_passDay 18 = .ok (.iaload, 1) := by decide +kernel
theorem dX10_passDay_19 : decode cX10_passDay 19 = .ok (.if_icmp .ge 29, 3) := by decide +kernel
theorem dX10_passDay_22 : decode cX10_passDay 22 = .ok (.aload_n 0, 1) := by decide +kernel
theorem dX10_passDay_23 : decode cX10_passDay 23 = .ok (.iload_n 1, 1) := by decide +kernel
theorem dX10_passDay_24 : decode cX10_passDay 24 = .ok (.iconst 2, 1) := by decide +kernel
theorem dX10_passDay_25 : decode cX10_passDay 25 = .ok (.aload_n 0, 1) := by decide +kernel
theorem dX10_passDay_26 : decode cX10_passDay 26 = .ok (.iload_n 1, 1) := by decide +kernel
theorem dX10_passDay_27 : decode cX10_passDay 27 = .ok (.iconst 3, 1) := by decide +kernel
theorem dX10_passDay_28 : decode cX10_passDay 28 = .ok (.invokevirtual 72, 3) := by decide +kernel
theorem dX10_passDay_31 : decode cX10_passDay 31 = .ok (.ifCond .le 7, 3) := by decide +kernel
theorem dX10_passDay_34 : decode cX10_passDay 34 = .ok (.iconst (-1), 1) := by decide +kernel
theorem dX10_passDay_35 : decode cX10_passDay 35 = .ok (.goto 4, 3) := by decide +kernel
theorem dX10_passDay_38 : decode cX10_passDay 38 = .ok (.iconst 0, 1) := by decide +kernel
theorem dX10_passDay_39 : decode cX10_passDay 39 = .ok (.invokevirtual 126, 3) := by decide +kernel
theorem dX10_passDay_42 : decode cX10_passDay 42 = .ok (.iinc 1 1, 3) := by decide +kernel
theorem dX10_passDay_45 : decode cX10_passDay 45 = .ok (.goto (-33), 3) := by decide +kernel
theorem dX10_passDay_48 : decode cX10_passDay 48 = .ok (.aload_n 0, 1) := by decide +kernel
theorem dX10_passDay_49 : decode cX10_passDay 49 = .ok (.invokevirtual 145, 3) := by decide +kernel
theorem dX10_passDay_52 : decode cX10_passDay 52 = .ok (.istore_n 1, 1) := by decide +kernel
theorem dX10_passDay_53 : decode cX10_passDay 53 = .ok (.aload_n 0, 1) := by decide +kernel
theorem dX10_passDay_54 : decode cX10_passDay 54 = .ok (.invokevirtual 148, 3) := by decide +kernel
theorem dX10_passDay_57 : decode cX10_passDay 57 = .ok (.iload_n 1, 1) := by decide +kernel
theorem dX10_passDay_58 : decode cX10_passDay 58 = .ok (.ireturn, 1) := by decide +kernel
set_option maxRecDepth 20000 in
theorem ggX10_pass_X10_in : GoodIn wsX10_pass wsX10_in := goodIn_r _ [5] (by decide +kernel) (by decide +kernel)
set_option maxRecDepth 20000 in
theorem gX10_pass_X10_in : GoodIn wsX10_pass (va_wsS RX10 56 yX10_in wsX10_in) := goodIn_app (goodIn_of _ (by decide +kernel)) ggX10_pass_X10_in
set_option maxRecDepth 20000 in
theorem ggX10_pass_X10_record : GoodIn wsX10_pass wsX10_record := goodIn_r _ [9, 10, 11, 1, 52, 53, 54, 55, 56, 57, 58, 59, 60, 61, 62, 63, 64, 65, 66, 67, 68, 69, 70] (by decide +kernel) (by decide +kernel)
set_option maxRecDepth 20000 in
theorem gX10_pass_X10_record : GoodIn wsX10_pass (wsV RX10 53 RX10 yX10_record wsX10_record) := goodIn_app (goodIn_of _ (by decide +kernel)) ggX10_pass_X10_record
set_option maxRecDepth 20000 in
theorem ggX10_pass_X10_passDay : GoodIn wsX10_pass wsX10_passDay := goodIn_r _ [15, 1, 16, 17, 18, 4, 19, 20, 21, 22, 23, 24, 25, 26, 27, 28, 29, 30, 31, 32, 33, 34, 35, 36, 37, 38, 39, 40, 41, 42, 43, 44, 45, 46, 47, 48, 49, 50, 51, 52, 53, 54, 55, 56, 57, 58, 59, 60, 61, 62, 63, 64, 65, 66, 67, 68, 69, 70] (by decide +kernel) (by decide +kernel)
set_option maxRecDepth 20000 in
theorem gX10_pass_X10_passDay : GoodIn wsX10_pass (wsV RX10 151 RX10 yX10_passDay wsX10_passDay) := goodIn_app (goodIn_of _ (by decide +kernel)) ggX10_pass_X10_passDay
theorem dX10_pass_0 : decode cX10_pass 0 = .ok (.iload_n 1, 1) := by decide +kernel
theorem dX10_pass_1 : decode cX10_pass 1 = .ok (.iconst 1, 1) := by decide +kernel
theorem dX10_pass_2 : decode cX10_pass 2 = .ok (.bipush 60, 2) := by decide +kernel
theorem dX10_pass_4 : decode cX10_pass 4 = .ok (.invokestatic 56, 3) := by decide +kernel
theorem dX10_pass_7 : decode cX10_pass 7 = .ok (.ifCond .ne 6, 3) := by decide +kernel
theorem dX10_pass_10 : decode cX10_pass 10 = .ok (.bipush (-2), 2) := by decide +kernel
theorem dX10_pass_12 : decode cX10_pass 12 = .ok (.ireturn, 1) := by decide +kernel
theorem dX10_pass_13 : decode cX10_pass 13 = .ok (.aload_n 0, 1) := by decide +kernel
theorem dX10_pass_14 : decode cX10_pass 14 = .ok (.getfield 7, 3) := by decide +kernel
theorem dX10_pass_17 : decode cX10_pass 17 = .ok (.iconst 0, 1) := by decide +kernel
theorem dX10_pass_18 : decode cX10_pass 18 = .ok (.iaload, 1) := by decide +kernel
theorem dX10_pass_19 : decode cX10_pass 19 = .ok (.iload_n 1, 1) := by decide +kernel
theorem dX10_pass_20 : decode cX10_pass 20 = .ok (.iadd, 1) := by decide +kernel
theorem dX10_pass_21 : decode cX10_pass 21 = .ok (.sipush 9999, 3) := by decide +kernel
theorem dX10_pass_24 : decode cX10_pass 24 = .ok (.if_icmp .le 6, 3) := by decide +kernel
theorem dX10_pass_27 : decode cX10_pass 27 = .ok (.bipush (-4), 2) := by decide +kernel
theorem dX10_pass_29 : decode cX10_pass 29 = .ok (.ireturn, 1) := by decide +kernel
theorem dX10_pass_30 : decode cX10_pass 30 = .ok (.aload_n 0, 1) := by decide +kernel
theorem dX10_pass_31 : decode cX10_pass 31 = .ok (.invokevirtual 53, 3) := by decide +kernel
theorem dX10_pass_34 : decode cX10_pass 34 = .ok (.iconst 0, 1) := by decide +kernel
theorem dX10_pass_35 : decode cX10_pass 35 = .ok (.istore_n 2, 1) := by decide +kernel
theorem dX10_pass_36 : decode cX10_pass 36 = .ok (.iconst 0, 1) := by decide +kernel
theorem dX10_pass_37 : decode cX10_pass 37 = .ok (.istore_n 3, 1) := by decide +kernel
theorem dX10_pass_38 : decode cX10_pass 38 = .ok (.iload_n 3, 1) := by decide +kernel
theorem dX10_pass_39 : decode cX10_pass 39 = .ok (.iload_n 1, 1) := by decide +kernel
theorem dX10_pass_40 : decode cX10_pass 40 = .ok (.if_icmp .ge 16, 3) := by decide +kernel
theorem dX10_pass_43 : decode cX10_pass 43 = .ok (.iload_n 2, 1) := by decide +kernel
theorem dX10_pass_44 : decode cX10_pass 44 = .ok (.aload_n 0, 1) := by decide +kernel
theorem dX10_pass_45 : decode cX10_pass 45 = .ok (.invokevirtual 151, 3) := by decide +kernel
theorem dX10_pass_48 : decode cX10_pass 48 = .ok (.iadd, 1) := by decide +kernel
theorem dX10_pass_49 : decode cX10_pass 49 = .ok (.istore_n 2, 1) := by decide +kernel
theorem dX10_pass_50 : decode cX10_pass 50 = .ok (.iinc 3 1, 3) := by decide +kernel
theorem dX10_pass_53 : decode cX10_pass 53 = .ok (.goto (-15), 3) := by decide +kernel
theorem dX10_pass_56 : decode cX10_pass 56 = .ok (.iload_n 2, 1) := by decide +kernel
theorem dX10_pass_57 : decode cX10_pass 57 = .ok (.ireturn, 1) := by decide +kernel
set_option maxRecDepth 20000 in
theorem ggX10_wouldExpire_X10_isBatch : GoodIn wsX10_wouldExpire wsX10_isBatch := goodIn_r _ [7, 2, 51, 52, 53, 54, 55, 56, 57, 58, 59, 60, 61, 62, 63, 64, 65, 66, 67, 68, 69] (by decide +kernel) (by decide +kernel)
set_option maxRecDepth 20000 in
theorem gX10_wouldExpire_X10_isBatch : GoodIn wsX10_wouldExpire (wsV RX10 136 RX10 yX10_isBatch wsX10_isBatch) := goodIn_app (goodIn_of _ (by decide +kernel)) ggX10_wouldExpire_X10_isBatch
set_option maxRecDepth 20000 in
theorem ggX10_wouldExpire_X10_in : GoodIn wsX10_wouldExpire wsX10_in := goodIn_r _ [10] (by decide +kernel) (by decide +kernel)
set_option maxRecDepth 20000 in
theorem gX10_wouldExpire_X10_in : GoodIn wsX10_wouldExpire (va_wsS RX10 56 yX10_in wsX10_in) := goodIn_app (goodIn_of _ (by decide +kernel)) ggX10_wouldExpire_X10_in
set_option maxRecDepth 20000 in
theorem ggX10_wouldExpire_X10_ofBatch : GoodIn wsX10_wouldExpire wsX10_ofBatch := goodIn_r _ [14, 2, 51, 52, 53, 54, 55, 56, 57, 58, 59, 60, 61, 62, 63, 64, 65, 66, 67, 68, 69] (by decide +kernel) (by decide +kernel)
set_option maxRecDepth 20000 in
theorem gX10_wouldExpire_X10_ofBatch : GoodIn wsX10_wouldExpire (wsV RX10 72 RX10 yX10_ofBatch wsX10_ofBatch) := goodIn_app (goodIn_of _ (by decide +kernel)) ggX10_wouldExpire_X10_ofBatch
set_option maxRecDepth 20000 in
theorem ggX10_wouldExpire_X10_passDay : GoodIn wsX10_wouldExpire wsX10_passDay := goodIn_r _ [18, 2, 11, 12, 13, 6, 14, 19, 20, 21, 22, 23, 24, 25, 26, 27, 28, 29, 30, 31, 32, 33, 34, 35, 36, 37, 38, 39, 40, 41, 42, 43, 44, 45, 46, 47, 48, 49, 50, 51, 52, 53, 54, 55, 56, 57, 58, 59, 60, 61, 62, 63, 64, 65, 66, 67, 68, 69] (by decide +kernel) (by decide +kernel)
set_option maxRecDepth 20000 in
theorem gX10_wouldExpire_X10_passDay : GoodIn wsX10_wouldExpire (wsV RX10 151 RX10 yX10_passDay wsX10_passDay) := goodIn_app (goodIn_of _ (by decide +kernel)) ggX10_wouldExpire_X10_passDay
theorem dX10_wouldExpire_0 : decode cX10_wouldExpire 0 = .ok (.aload_n 0, 1) := by decide +kernel
theorem dX10_wouldExpire_1 : decode cX10_wouldExpire 1 = .ok (.iload_n 1, 1) := by decide +kernel
theorem dX10_wouldExpire_2 : decode cX10_wouldExpire 2 = .ok (.invokevirtual 136, 3) := by decide +kernel
theorem dX10_wouldExpire_5 : decode cX10_wouldExpire 5 = .ok (.ifCond .ne 5, 3) := by decide +kernel
theorem dX10_wouldExpire_8 : decode cX10_wouldExpire 8 = .ok (.iconst (-1), 1) := by decide +kernel
theorem dX10_wouldExpire_9 : decode cX10_wouldExpire 9 = .ok (.ireturn, 1) := by decide +kernel
theorem dX10_wouldExpire_10 : decode cX10_wouldExpire 10 = .ok (.iload_n 2, 1) := by decide +kernel
theorem dX10_wouldExpire_11 : decode cX10_wouldExpire 11 = .ok (.iconst 1, 1) := by decide +kernel
theorem dX10_wouldExpire_12 : decode cX10_wouldExpire 12 = .ok (.bipush 60, 2) := by decide +kernel
theorem dX10_wouldExpire_14 : decode cX10_wouldExpire 14 = .ok (.invokestatic 56, 3) := by decide +kernel
theorem dX10_wouldExpire_17 : decode cX10_wouldExpire 17 = .ok (.ifCond .ne 6, 3) := by decide +kernel
theorem dX10_wouldExpire_20 : decode cX10_wouldExpire 20 = .ok (.bipush (-2), 2) := by decide +kernel
theorem dX10_wouldExpire_22 : decode cX10_wouldExpire 22 = .ok (.ireturn, 1) := by decide +kernel
theorem dX10_wouldExpire_23 : decode cX10_wouldExpire 23 = .ok (.iconst 0, 1) := by decide +kernel
theorem dX10_wouldExpire_24 : decode cX10_wouldExpire 24 = .ok (.istore_n 3, 1) := by decide +kernel
theorem dX10_wouldExpire_25 : decode cX10_wouldExpire 25 = .ok (.iload_n 3, 1) := by decide +kernel
theorem dX10_wouldExpire_26 : decode cX10_wouldExpire 26 = .ok (.sipush 1002, 3) := by decide +kernel
theorem dX10_wouldExpire_29 : decode cX10_wouldExpire 29 = .ok (.if_icmp .ge 21, 3) := by decide +kernel
theorem dX10_wouldExpire_32 : decode cX10_wouldExpire 32 = .ok (.aload_n 0, 1) := by decide +kernel
theorem dX10_wouldExpire_33 : decode cX10_wouldExpire 33 = .ok (.getfield 19, 3) := by decide +kernel
theorem dX10_wouldExpire_36 : decode cX10_wouldExpire 36 = .ok (.iload_n 3, 1) := by decide +kernel
theorem dX10_wouldExpire_37 : decode cX10_wouldExpire 37 = .ok (.aload_n 0, 1) := by decide +kernel
theorem dX10_wouldExpire_38 : decode cX10_wouldExpire 38 = .ok (.getfield 7, 3) := by decide +kernel
theorem dX10_wouldExpire_41 : decode cX10_wouldExpire 41 = .ok (.iload_n 3, 1) := by decide +kernel
theorem dX10_wouldExpire_42 : decode cX10_wouldExpire 42 = .ok (.iaload, 1) := by decide +kernel
theorem dX10_wouldExpire_43 : decode cX10_wouldExpire 43 = .ok (.iastore, 1) := by decide +kernel
theorem dX10_wouldExpire_44 : decode cX10_wouldExpire 44 = .ok (.iinc 3 1, 3) := by decide +kernel
theorem dX10_wouldExpire_47 : decode cX10_wouldExpire 47 = .ok (.goto (-22), 3) := by decide +kernel
theorem dX10_wouldExpire_50 : decode cX10_wouldExpire 50 = .ok (.aload_n 0, 1) := by decide +kernel
theorem dX10_wouldExpire_51 : decode cX10_wouldExpire 51 = .ok (.iload_n 1, 1) := by decide +kernel
theorem dX10_wouldExpire_52 : decode cX10_wouldExpire 52 = .ok (.bipush 6, 2) := by decide +kernel
theorem dX10_wouldExpire_54 : decode cX10_wouldExpire 54 = .ok (.invokevirtual 72, 3) := by decide +kernel
theorem dX10_wouldExpire_57 : decode cX10_wouldExpire 57 = .ok (.istore_n 3, 1) := by decide +kernel
theorem dX10_wouldExpire_58 : decode cX10_wouldExpire 58 = .ok (.iconst 0, 1) := by decide +kernel
theorem dX10_wouldExpire_59 : decode cX10_wouldExpire 59 = .ok (.istore 4, 2) := by decide +kernel
theorem dX10_wouldExpire_61 : decode cX10_wouldExpire 61 = .ok (.iload 4, 2) := by decide +kernel
theorem dX10_wouldExpire_63 : decode cX10_wouldExpire 63 = .ok (.iload_n 2, 1) := by decide +kernel
theorem dX10_wouldExpire_64 : decode cX10_wouldExpire 64 = .ok (.if_icmp .ge 14, 3) := by decide +kernel
theorem dX10_wouldExpire_67 : decode cX10_wouldExpire 67 = .ok (.aload_n 0, 1) := by decide +kernel
theorem dX10_wouldExpire_68 : decode cX10_wouldExpire 68 = .ok (.invokevirtual 151, 3) := by decide +kernel
theorem dX10_wouldExpire_71 : decode cX10_wouldExpire 71 = .ok (.pop, 1) := by decide +kernel
theorem dX10_wouldExpire_72 : decode cX10_wouldExpire 72 = .ok (.iinc 4 1, 3) := by decide +kernel
theorem dX10_wouldExpire_75 : decode cX10_wouldExpire 75 = .ok (.goto (-14), 3) := by decide +kernel
theorem dX10_wouldExpire_78 : decode cX10_wouldExpire 78 = .ok (.aload_n 0, 1) := by decide +kernel
theorem dX10_wouldExpire_79 : decode cX10_wouldExpire 79 = .ok (.iload_n 1, 1) := by decide +kernel
theorem dX10_wouldExpire_80 : decode cX10_wouldExpire 80 = .ok (.bipush 6, 2) := by decide +kernel
theorem dX10_wouldExpire_82 : decode cX10_wouldExpire 82 = .ok (.invokevirtual 72, 3) := by decide +kernel
theorem dX10_wouldExpire_85 : decode cX10_wouldExpire 85 = .ok (.iload_n 3, 1) := by decide +kernel
theorem dX10_wouldExpire_86 : decode cX10_wouldExpire 86 = .ok (.isub, 1) := by decide +kernel
theorem dX10_wouldExpire_87 : decode cX10_wouldExpire 87 = .ok (.istore 4, 2) := by decide +kernel
theorem dX10_wouldExpire_89 : decode cX10_wouldExpire 89 = .ok (.iconst 0, 1) := by decide +kernel
theorem dX10_wouldExpire_90 : decode cX10_wouldExpire 90 = .ok (.istore 5, 2) := by decide +kernel
theorem dX10_wouldExpire_92 : decode cX10_wouldExpire 92 = .ok (.iload 5, 2) := by decide +kernel
theorem dX10_wouldExpire_94 : decode cX10_wouldExpire 94 = .ok (.sipush 1002, 3) := by decide +kernel
theorem dX10_wouldExpire_97 : decode cX10_wouldExpire 97 = .ok (.if_icmp .ge 23, 3) := by decide +kernel
theorem dX10_wouldExpire_100 : decode cX10_wouldExpire 100 = .ok (.aload_n 0, 1) := by decide +kernel
theorem dX10_wouldExpire_101 : decode cX10_wouldExpire 101 = .ok (.getfield 7, 3) := by decide +kernel
theorem dX10_wouldExpire_104 : decode cX10_wouldExpire 104 = .ok (.iload 5, 2) := by decide +kernel
theorem dX10_wouldExpire_106 : decode cX10_wouldExpire 106 = .ok (.aload_n 0, 1) := by decide +kernel
theorem dX10_wouldExpire_107 : decode cX10_wouldExpire 107 = .ok (.getfield 19, 3) := by decide +kernel
theorem dX10_wouldExpire_110 : decode cX10_wouldExpire 110 = .ok (.iload 5, 2) := by decide +kernel
theorem dX10_wouldExpire_112 : decode cX10_wouldExpire 112 = .ok (.iaload, 1) := by decide +kernel
theorem dX10_wouldExpire_113 : decode cX10_wouldExpire 113 = .ok (.iastore, 1) := by decide +kernel
theorem dX10_wouldExpire_114 : decode cX10_wouldExpire 114 = .ok (.iinc 5 1, 3) := by decide +kernel
theorem dX10_wouldExpire_117 : decode cX10_wouldExpire 117 = .ok (.goto (-25), 3) := by decide +kernel
theorem dX10_wouldExpire_120 : decode cX10_wouldExpire 120 = .ok (.iload 4, 2) := by decide +kernel
theorem dX10_wouldExpire_122 : decode cX10_wouldExpire 122 = .ok (.ireturn, 1) := by decide +kernel
set_option maxRecDepth 20000 in
theorem ggX10_stageIn_X10_isBatch : GoodIn wsX10_stageIn wsX10_isBatch := goodIn_r _ [5, 6, 22, 23, 24, 25, 26, 27, 28, 29, 30, 31, 32, 33, 34, 35, 36, 37, 38, 39, 40] (by decide +kernel) (by decide +kernel)
set_option maxRecDepth 20000 in
theorem gX10_stageIn_X10_isBatch : GoodIn wsX10_stageIn (wsV RX10 136 RX10 yX10_isBatch wsX10_isBatch) := goodIn_app (goodIn_of _ (by decide +kernel)) ggX10_stageIn_X10_isBatch
set_option maxRecDepth 20000 in
theorem ggX10_stageIn_X10_in : GoodIn wsX10_stageIn wsX10_in := goodIn_r _ [9] (by decide +kernel) (by decide +kernel)
set_option maxRecDepth 20000 in
theorem gX10_stageIn_X10_in : GoodIn wsX10_stageIn (va_wsS RX10 56 yX10_in wsX10_in) := goodIn_app (goodIn_of _ (by decide +kernel)) ggX10_stageIn_X10_in
set_option maxRecDepth 20000 in
theorem ggX10_stageIn_X10_ofBatch : GoodIn wsX10_stageIn wsX10_ofBatch := goodIn_r _ [13, 6, 22, 23, 24, 25, 26, 27, 28, 29, 30, 31, 32, 33, 34, 35, 36, 37, 38, 39, 40] (by decide +kernel) (by decide +kernel)
set_option maxRecDepth 20000 in
theorem gX10_stageIn_X10_ofBatch : GoodIn wsX10_stageIn (wsV RX10 72 RX10 yX10_ofBatch wsX10_ofBatch) := goodIn_app (goodIn_of _ (by decide +kernel)) ggX10_stageIn_X10_ofBatch
set_option maxRecDepth 20000 in
theorem ggX10_stageIn_X10_ofGood : GoodIn wsX10_stageIn wsX10_ofGood := goodIn_r _ [17, 6, 22, 23, 24, 25, 26, 27, 28, 29, 30, 31, 32, 33, 34, 35, 36, 37, 38, 39, 40] (by decide +kernel) (by decide +kernel)
set_option maxRecDepth 20000 in
theorem gX10_stageIn_X10_ofGood : GoodIn wsX10_stageIn (wsV RX10 64 RX10 yX10_ofGood wsX10_ofGood) := goodIn_app (goodIn_of _ (by decide +kernel)) ggX10_stageIn_X10_ofGood
set_option maxRecDepth 20000 in
theorem ggX10_stageIn_X10_stageOf : GoodIn wsX10_stageIn wsX10_stageOf := goodIn_r _ [21, 6, 22, 23, 24, 25, 26, 27, 28, 29, 30, 31, 32, 33, 34, 35, 36, 37, 38, 39, 40] (by decide +kernel) (by decide +kernel)
set_option maxRecDepth 20000 in
theorem gX10_stageIn_X10_stageOf : GoodIn wsX10_stageIn (wsV RX10 75 RX10 yX10_stageOf wsX10_stageOf) := goodIn_app (goodIn_of _ (by decide +kernel)) ggX10_stageIn_X10_stageOf
theorem dX10_stageIn_0 : decode cX10_stageIn 0 = .ok (.aload_n 0, 1) := by decide +kernel
theorem dX10_stageIn_1 : decode cX10_stageIn 1 = .ok (.iload_n 1, 1) := by decide +kernel
theorem dX10_stageIn_2 : decode cX10_stageIn 2 = .ok (.invokevirtual 136, 3) := by decide +kernel
theorem dX10_stageIn_5 : decode cX10_stageIn 5 = .ok (.ifCond .eq 12, 3) := by decide +kernel
theorem dX10_stageIn_8 : decode cX10_stageIn 8 = .ok (.iload_n 2, 1) := by decide +kernel
theorem dX10_stageIn_9 : decode cX10_stageIn 9 = .ok (.iconst 1, 1) := by decide +kernel
theorem dX10_stageIn_10 : decode cX10_stageIn 10 = .ok (.iconst 3, 1) := by decide +kernel
theorem dX10_stageIn_11 : decode cX10_stageIn 11 = .ok (.invokestatic 56, 3) := by decide +kernel
theorem dX10_stageIn_14 : decode cX10_stageIn 14 = .ok (.ifCond .ne 5, 3) := by decide +kernel
theorem dX10_stageIn_17 : decode cX10_stageIn 17 = .ok (.iconst (-1), 1) := by decide +kernel
theorem dX10_stageIn_18 : decode cX10_stageIn 18 = .ok (.ireturn, 1) := by decide +kernel
theorem dX10_stageIn_19 : decode cX10_stageIn 19 = .ok (.aload_n 0, 1) := by decide +kernel
theorem dX10_stageIn_20 : decode cX10_stageIn 20 = .ok (.iload_n 1, 1) := by decide +kernel
theorem dX10_stageIn_21 : decode cX10_stageIn 21 = .ok (.iconst 2, 1) := by decide +kernel
theorem dX10_stageIn_22 : decode cX10_stageIn 22 = .ok (.invokevirtual 72, 3) := by decide +kernel
theorem dX10_stageIn_25 : decode cX10_stageIn 25 = .ok (.istore_n 3, 1) := by decide +kernel
theorem dX10_stageIn_26 : decode cX10_stageIn 26 = .ok (.aload_n 0, 1) := by decide +kernel
theorem dX10_stageIn_27 : decode cX10_stageIn 27 = .ok (.aload_n 0, 1) := by decide +kernel
theorem dX10_stageIn_28 : decode cX10_stageIn 28 = .ok (.iload_n 1, 1) := by decide +kernel
theorem dX10_stageIn_29 : decode cX10_stageIn 29 = .ok (.iconst 0, 1) := by decide +kernel
theorem dX10_stageIn_30 : decode cX10_stageIn 30 = .ok (.invokevirtual 72, 3) := by decide +kernel
theorem dX10_stageIn_33 : decode cX10_stageIn 33 = .ok (.iconst 1, 1) := by decide +kernel
theorem dX10_stageIn_34 : decode cX10_stageIn 34 = .ok (.invokevirtual 64, 3) := by decide +kernel
theorem dX10_stageIn_37 : decode cX10_stageIn 37 = .ok (.istore 4, 2) := by decide +kernel
theorem dX10_stageIn_39 : decode cX10_stageIn 39 = .ok (.aload_n 0, 1) := by decide +kernel
theorem dX10_stageIn_40 : decode cX10_stageIn 40 = .ok (.iload_n 1, 1) := by decide +kernel
theorem dX10_stageIn_41 : decode cX10_stageIn 41 = .ok (.iconst 3, 1) := by decide +kernel
theorem dX10_stageIn_42 : decode cX10_stageIn 42 = .ok (.invokevirtual 72, 3) := by decide +kernel
theorem dX10_stageIn_45 : decode cX10_stageIn 45 = .ok (.ifCond .ne 6, 3) := by decide +kernel
theorem dX10_stageIn_48 : decode cX10_stageIn 48 = .ok (.bipush (-5), 2) := by decide +kernel
theorem dX10_stageIn_50 : decode cX10_stageIn 50 = .ok (.ireturn, 1) := by decide +kernel
theorem dX10_stageIn_51 : decode cX10_stageIn 51 = .ok (.iconst 0, 1) := by decide +kernel
theorem dX10_stageIn_52 : decode cX10_stageIn 52 = .ok (.istore 5, 2) := by decide +kernel
theorem dX10_stageIn_54 : decode cX10_stageIn 54 = .ok (.iload 5, 2) := by decide +kernel
theorem dX10_stageIn_56 : decode cX10_stageIn 56 = .ok (.iload_n 3, 1) := by decide +kernel
theorem dX10_stageIn_57 : decode cX10_stageIn 57 = .ok (.if_icmp .ge 26, 3) := by decide +kernel
theorem dX10_stageIn_60 : decode cX10_stageIn 60 = .ok (.aload_n 0, 1) := by decide +kernel
theorem dX10_stageIn_61 : decode cX10_stageIn 61 = .ok (.iload_n 3, 1) := by decide +kernel
theorem dX10_stageIn_62 : decode cX10_stageIn 62 = .ok (.iload 5, 2) := by decide +kernel
theorem dX10_stageIn_64 : decode cX10_stageIn 64 = .ok (.isub, 1) := by decide +kernel
theorem dX10_stageIn_65 : decode cX10_stageIn 65 = .ok (.iload 4, 2) := by decide +kernel
theorem dX10_stageIn_67 : decode cX10_stageIn 67 = .ok (.invokevirtual 75, 3) := by decide +kernel
theorem dX10_stageIn_70 : decode cX10_stageIn 70 = .ok (.iload_n 2, 1) := by decide +kernel
theorem dX10_stageIn_71 : decode cX10_stageIn 71 = .ok (.if_icmp .lt 6, 3) := by decide +kernel
theorem dX10_stageIn_74 : decode cX10_stageIn 74 = .ok (.iload 5, 2) := by decide +kernel
theorem dX10_stageIn_76 : decode cX10_stageIn 76 = .ok (.ireturn, 1) := by decide +kernel
theorem dX10_stageIn_77 : decode cX10_stageIn 77 = .ok (.iinc 5 1, 3) := by decide +kernel
theorem dX10_stageIn_80 : decode cX10_stageIn 80 = .ok (.goto (-26), 3) := by decide +kernel
theorem dX10_stageIn_83 : decode cX10_stageIn 83 = .ok (.bipush (-5), 2) := by decide +kernel
theorem dX10_stageIn_85 : decode cX10_stageIn 85 = .ok (.ireturn, 1) := by decide +kernel
theorem dX10_type_0 : decode cX10_type 0 = .ok (.aload_n 0, 1) := by decide +kernel
theorem dX10_type_1 : decode cX10_type 1 = .ok (.getfield 154, 3) := by decide +kernel
theorem dX10_type_4 : decode cX10_type 4 = .ok (.bipush 60, 2) := by decide +kernel
theorem dX10_type_6 : decode cX10_type 6 = .ok (.if_icmp .ne 6, 3) := by decide +kernel
theorem dX10_type_9 : decode cX10_type 9 = .ok (.bipush (-3), 2) := by decide +kernel
theorem dX10_type_11 : decode cX10_type 11 = .ok (.ireturn, 1) := by decide +kernel
theorem dX10_type_12 : decode cX10_type 12 = .ok (.aload_n 0, 1) := by decide +kernel
theorem dX10_type_13 : decode cX10_type 13 = .ok (.getfield 22, 3) := by decide +kernel
theorem dX10_type_16 : decode cX10_type 16 = .ok (.aload_n 0, 1) := by decide +kernel
theorem dX10_type_17 : decode cX10_type 17 = .ok (.getfield 154, 3) := by decide +kernel
theorem dX10_type_20 : decode cX10_type 20 = .ok (.iload_n 1, 1) := by decide +kernel
theorem dX10_type_21 : decode cX10_type 21 = .ok (.castore, 1) := by decide +kernel
theorem dX10_type_22 : decode cX10_type 22 = .ok (.aload_n 0, 1) := by decide +kernel
theorem dX10_type_23 : decode cX10_type 23 = .ok (.dup, 1) := by decide +kernel
theorem dX10_type_24 : decode cX10_type 24 = .ok (.getfield 154, 3) := by decide +kernel
theorem dX10_type_27 : decode cX10_type 27 = .ok (.iconst 1, 1) := by decide +kernel
theorem dX10_type_28 : decode cX10_type 28 = .ok (.iadd, 1) := by decide +kernel
theorem dX10_type_29 : decode cX10_type 29 = .ok (.putfield 154, 3) := by decide +kernel
theorem dX10_type_32 : decode cX10_type 32 = .ok (.aload_n 0, 1) := by decide +kernel
theorem dX10_type_33 : decode cX10_type 33 = .ok (.getfield 154, 3) := by decide +kernel
theorem dX10_type_36 : decode cX10_type 36 = .ok (.ireturn, 1) := by decide +kernel
theorem dX10_clearText_0 : decode cX10_clearText 0 = .ok (.aload_n 0, 1) := by decide +kernel
theorem dX10_clearText_1 : decode cX10_clearText 1 = .ok (.getfield 154, 3) := by decide +kernel
theorem dX10_clearText_4 : decode cX10_clearText 4 = .ok (.istore_n 1, 1) := by decide +kernel
theorem dX10_clearText_5 : decode cX10_clearText 5 = .ok (.aload_n 0, 1) := by decide +kernel
theorem dX10_clearText_6 : decode cX10_clearText 6 = .ok (.iconst 0, 1) := by decide +kernel
theorem dX10_clearText_7 : decode cX10_clearText 7 = .ok (.putfield 154, 3) := by decide +kernel
theorem dX10_clearText_10 : decode cX10_clearText 10 = .ok (.iload_n 1, 1) := by decide +kernel
theorem dX10_clearText_11 : decode cX10_clearText 11 = .ok (.ireturn, 1) := by decide +kernel
theorem dX10_letter_0 : decode cX10_letter 0 = .ok (.iload_n 1, 1) := by decide +kernel
theorem dX10_letter_1 : decode cX10_letter 1 = .ok (.aload_n 0, 1) := by decide +kernel
theorem dX10_letter_2 : decode cX10_letter 2 = .ok (.getfield 154, 3) := by decide +kernel
theorem dX10_letter_5 : decode cX10_letter 5 = .ok (.if_icmp .ge 12, 3) := by decide +kernel
theorem dX10_letter_8 : decode cX10_letter 8 = .ok (.aload_n 0, 1) := by decide +kernel
theorem dX10_letter_9 : decode cX10_letter 9 = .ok (.getfield 22, 3) := by decide +kernel
theorem dX10_letter_12 : decode cX10_letter 12 = .ok (.iload_n 1, 1) := by decide +kernel
theorem dX10_letter_13 : decode cX10_letter 13 = .ok (.caload, 1) := by decide +kernel
theorem dX10_letter_14 : decode cX10_letter 14 = .ok (.goto 4, 3) := by decide +kernel
theorem dX10_letter_17 : decode cX10_letter 17 = .ok (.iconst (-1), 1) := by decide +kernel
theorem dX10_letter_18 : decode cX10_letter 18 = .ok (.ireturn, 1) := by decide +kernel
set_option maxRecDepth 20000 in
theorem ggX10_isDigit_X10_letter : GoodIn wsX10_isDigit wsX10_letter := goodIn_r _ [5, 6, 7, 8, 9, 10, 11, 12, 13, 14, 15, 16, 17, 18, 19, 20, 21, 22, 23, 24, 25, 26] (by decide +kernel) (by decide +kernel)
set_option maxRecDepth 20000 in
theorem gX10_isDigit_X10_letter : GoodIn wsX10_isDigit (wsV RX10 157 RX10 yX10_letter wsX10_letter) := goodIn_app (goodIn_of _ (by decide +kernel)) ggX10_isDigit_X10_letter
theorem dX10_isDigit_0 : decode cX10_isDigit 0 = .ok (.aload_n 0, 1) := by decide +kernel
theorem dX10_isDigit_1 : decode cX10_isDigit 1 = .ok (.iload_n 1, 1) := by decide +kernel
theorem dX10_isDigit_2 : decode cX10_isDigit 2 = .ok (.invokevirtual 157, 3) := by decide +kernel
theorem dX10_isDigit_5 : decode cX10_isDigit 5 = .ok (.bipush 48, 2) := by decide +kernel
theorem dX10_isDigit_7 : decode cX10_isDigit 7 = .ok (.if_icmp .lt 17, 3) := by decide +kernel
theorem dX10_isDigit_10 : decode cX10_isDigit 10 = .ok (.aload_n 0, 1) := by decide +kernel
theorem dX10_isDigit_11 : decode cX10_isDigit 11 = .ok (.iload_n 1, 1) := by decide +kernel
theorem dX10_isDigit_12 : decode cX10_isDigit 12 = .ok (.invokevirtual 157, 3) := by decide +kernel
theorem dX10_isDigit_15 : decode cX10_isDigit 15 = .ok (.bipush 57, 2) := by decide +kernel
theorem dX10_isDigit_17 : decode cX10_isDigit 17 = .ok (.if_icmp .gt 7, 3) := by decide +kernel
theorem dX10_isDigit_20 : decode cX10_isDigit 20 = .ok (.iconst 1, 1) := by decide +kernel
theorem dX10_isDigit_21 : decode cX10_isDigit 21 = .ok (.goto 4, 3) := by decide +kernel
theorem dX10_isDigit_24 : decode cX10_isDigit 24 = .ok (.iconst 0, 1) := by decide +kernel
theorem dX10_isDigit_25 : decode cX10_isDigit 25 = .ok (.ireturn, 1) := by decide +kernel
set_option maxRecDepth 20000 in
theorem ggX10_readNumber_X10_isDigit : GoodIn wsX10_readNumber wsX10_isDigit := goodIn_r _ [7, 8, 9, 10, 6, 11, 12, 13, 14, 15, 16, 17, 18, 19, 20, 21, 22, 23, 24, 25, 26, 27, 28, 29, 30, 31, 32] (by decide +kernel) (by decide +kernel)
set_option maxRecDepth 20000 in
theorem gX10_readNumber_X10_isDigit : GoodIn wsX10_readNumber (wsV RX10 163 RX10 yX10_isDigit wsX10_isDigit) := goodIn_app (goodIn_of _ (by decide +kernel)) ggX10_readNumber_X10_isDigit
set_option maxRecDepth 20000 in
theorem ggX10_readNumber_X10_letter : GoodIn wsX10_readNumber wsX10_letter := goodIn_r _ [11, 12, 13, 14, 15, 16, 17, 18, 19, 20, 21, 22, 23, 24, 25, 26, 27, 28, 29, 30, 31, 32] (by decide +kernel) (by decide +kernel)
set_option maxRecDepth 20000 in
theorem gX10_readNumber_X10_letter : GoodIn wsX10_readNumber (wsV RX10 157 RX10 yX10_letter wsX10_letter) := goodIn_app (goodIn_of _ (by decide +kernel)) ggX10_readNumber_X10_letter
theorem dX10_readNumber_0 : decode cX10_readNumber 0 = .ok (.aload_n 0, 1) := by decide +kernel
theorem dX10_readNumber_1 : decode cX10_readNumber 1 = .ok (.aload_n 0, 1) := by decide +kernel
theorem dX10_readNumber_2 : decode cX10_readNumber 2 = .ok (.getfield 160, 3) := by decide +kernel
theorem dX10_readNumber_5 : decode cX10_readNumber 5 = .ok (.invokevirtual 163, 3) := by decide +kernel
theorem dX10_readNumber_8 : decode cX10_readNumber 8 = .ok (.ifCond .ne 13, 3) := by decide +kernel
theorem dX10_readNumber_11 : decode cX10_readNumber 11 = .ok (.aload_n 0, 1) := by decide +kernel
theorem dX10_readNumber_12 : decode cX10_readNumber 12 = .ok (.aload_n 0, 1) := by decide +kernel
theorem dX10_readNumber_13 : decode cX10_readNumber 13 = .ok (.getfield 160, 3) := by decide +kernel
theorem dX10_readNumber_16 : decode cX10_readNumber 16 = .ok (.putfield 166, 3) := by decide +kernel
theorem dX10_readNumber_19 : decode cX10_readNumber 19 = .ok (.iconst 0, 1) := by decide +kernel
theorem dX10_readNumber_20 : decode cX10_readNumber 20 = .ok (.ireturn, 1) := by decide +kernel
theorem dX10_readNumber_21 : decode cX10_readNumber 21 = .ok (.aload_n 0, 1) := by decide +kernel
theorem dX10_readNumber_22 : decode cX10_readNumber 22 = .ok (.aload_n 0, 1) := by decide +kernel
theorem dX10_readNumber_23 : decode cX10_readNumber 23 = .ok (.getfield 160, 3) := by decide +kernel
theorem dX10_readNumber_26 : decode cX10_readNumber 26 = .ok (.invokevirtual 157, 3) := by decide +kernel
theorem dX10_readNumber_29 : decode cX10_readNumber 29 = .ok (.bipush 48, 2) := by decide +kernel
theorem dX10_readNumber_31 : decode cX10_readNumber 31 = .ok (.isub, 1) := by decide +kernel
theorem dX10_readNumber_32 : decode cX10_readNumber 32 = .ok (.istore_n 1, 1) := by decide +kernel
theorem dX10_readNumber_33 : decode cX10_readNumber 33 = .ok (.aload_n 0, 1) := by decide +kernel
theorem dX10_readNumber_34 : decode cX10_readNumber 34 = .ok (.dup, 1) := by decide +kernel
theorem dX10_readNumber_35 : decode cX10_readNumber 35 = .ok (.getfield 160, 3) := by decide +kernel
theorem dX10_readNumber_38 : decode cX10_readNumber 38 = .ok (.iconst 1, 1) := by decide +kernel
theorem dX10_readNumber_39 : decode cX10_readNumber 39 = .ok (.iadd, 1) := by decide +kernel
theorem dX10_readNumber_40 : decode cX10_readNumber 40 = .ok (.putfield 160, 3) := by decide +kernel
theorem dX10_readNumber_43 : decode cX10_readNumber 43 = .ok (.iconst 1, 1) := by decide +kernel
theorem dX10_readNumber_44 : decode cX10_readNumber 44 = .ok (.istore_n 2, 1) := by decide +kernel
theorem dX10_readNumber_45 : decode cX10_readNumber 45 = .ok (.iload_n 2, 1) := by decide +kernel
theorem dX10_readNumber_46 : decode cX10_readNumber 46 = .ok (.iconst 3, 1) := by decide +kernel
theorem dX10_readNumber_47 : decode cX10_readNumber 47 = .ok (.if_icmp .ge 51, 3) := by decide +kernel
theorem dX10_readNumber_50 : decode cX10_readNumber 50 = .ok (.iload_n 1, 1) := by decide +kernel
theorem dX10_readNumber_51 : decode cX10_readNumber 51 = .ok (.ifCond .le 47, 3) := by decide +kernel
theorem dX10_readNumber_54 : decode cX10_readNumber 54 = .ok (.aload_n 0, 1) := by decide +kernel
theorem dX10_readNumber_55 : decode cX10_readNumber 55 = .ok (.aload_n 0, 1) := by decide +kernel
theorem dX10_readNumber_56 : decode cX10_readNumber 56 = .ok (.getfield 160, 3) := by decide +kernel
theorem dX10_readNumber_59 : decode cX10_readNumber 59 = .ok (.invokevirtual 163, 3) := by decide +kernel
theorem dX10_readNumber_62 : decode cX10_readNumber 62 = .ok (.ifCond .eq 36, 3) := by decide +kernel
theorem dX10_readNumber_65 : decode cX10_readNumber 65 = .ok (.bipush 10, 2) := by decide +kernel
theorem dX10_readNumber_67 : decode cX10_readNumber 67 = .ok (.iload_n 1, 1) := by decide +kernel
theorem dX10_readNumber_68 : decode cX10_readNumber 68 = .ok (.imul, 1) := by decide +kernel
theorem dX10_readNumber_69 : decode cX10_readNumber 69 = .ok (.aload_n 0, 1) := by decide +kernel
theorem dX10_readNumber_70 : decode cX10_readNumber 70 = .ok (.aload_n 0, 1) := by decide +kernel
theorem dX10_readNumber_71 : decode cX10_readNumber 71 = .ok (.getfield 160, 3) := by decide +kernel
theorem dX10_readNumber_74 : decode cX10_readNumber 74 = .ok (.invokevirtual 157, 3) := by decide +kernel
theorem dX10_readNumber_77 : decode cX10_readNumber 77 = .ok (.iadd, 1) := by decide +kernel
theorem dX10_readNumber_78 : decode cX10_readNumber 78 = .ok (.bipush 48, 2) := by decide +kernel
theorem dX10_readNumber_80 : decode cX10_readNumber 80 = .ok (.isub, 1) := by decide +kernel
theorem dX10_readNumber_81 : decode cX10_readNumber 81 = .ok (.istore_n 1, 1) := by decide +kernel
theorem dX10_readNumber_82 : decode cX10_readNumber 82 = .ok (.aload_n 0, 1) := by decide +kernel
theorem dX10_readNumber_83 : decode cX10_readNumber 83 = .ok (.dup, 1) := by decide +kernel
theorem dX10_readNumber_84 : decode cX10_readNumber 84 = .ok (.getfield 160, 3) := by decide +kernel
theorem dX10_readNumber_87 : decode cX10_readNumber 87 = .ok (.iconst 1, 1) := by decide +kernel
theorem dX10_readNumber_88 : decode cX10_readNumber 88 = .ok (.iadd, 1) := by decide +kernel
theorem dX10_readNumber_89 : decode cX10_readNumber 89 = .ok (.putfield 160, 3) := by decide +kernel
theorem dX10_readNumber_92 : decode cX10_readNumber 92 = .ok (.iinc 2 1, 3) := by decide +kernel
theorem dX10_readNumber_95 : decode cX10_readNumber 95 = .ok (.goto (-50), 3) := by decide +kernel
theorem dX10_readNumber_98 : decode cX10_readNumber 98 = .ok (.iload_n 1, 1) := by decide +kernel
theorem dX10_readNumber_99 : decode cX10_readNumber 99 = .ok (.ireturn, 1) := by decide +kernel
set_option maxRecDepth 20000 in
theorem ggX10_readEntry_X10_readNumber : GoodIn wsX10_readEntry wsX10_readNumber := goodIn_r _ [9, 4, 3, 10, 11, 12, 8, 13, 14, 15, 16, 17, 18, 19, 20, 21, 22, 23, 24, 25, 26, 27, 28, 29, 30, 31, 32, 33, 34, 35, 36, 37, 38] (by decide +kernel) (by decide +kernel)
set_option maxRecDepth 20000 in
theorem gX10_readEntry_X10_readNumber : GoodIn wsX10_readEntry (wsV RX10 172 RX10 yX10_readNumber wsX10_readNumber) := goodIn_app (goodIn_of _ (by decide +kernel)) ggX10_readEntry_X10_readNumber
set_option maxRecDepth 20000 in
theorem ggX10_readEntry_X10_letter : GoodIn wsX10_readEntry wsX10_letter := goodIn_r _ [17, 18, 19, 20, 21, 22, 23, 24, 25, 26, 27, 28, 29, 30, 31, 32, 33, 34, 35, 36, 37, 38] (by decide +kernel) (by decide +kernel)
set_option maxRecDepth 20000 in
theorem gX10_readEntry_X10_letter : GoodIn wsX10_readEntry (wsV RX10 157 RX10 yX10_letter wsX10_letter) := goodIn_app (goodIn_of _ (by decide +kernel)) ggX10_readEntry_X10_letter
theorem dX10_readEntry_0 : decode cX10_readEntry 0 = .ok (.iconst 3, 1) := by decide +kernel
theorem dX10_readEntry_1 : decode cX10_readEntry 1 = .ok (.aload_n 0, 1) := by decide +kernel
theorem dX10_readEntry_2 : decode cX10_readEntry 2 = .ok (.getfield 169, 3) := by decide +kernel
theorem dX10_readEntry_5 : decode cX10_readEntry 5 = .ok (.imul, 1) := by decide +kernel
theorem dX10_readEntry_6 : decode cX10_readEntry 6 = .ok (.istore_n 1, 1) := by decide +kernel
theorem dX10_readEntry_7 : decode cX10_readEntry 7 = .ok (.aload_n 0, 1) := by decide +kernel
theorem dX10_readEntry_8 : decode cX10_readEntry 8 = .ok (.getfield 39, 3) := by decide +kernel
theorem dX10_readEntry_11 : decode cX10_readEntry 11 = .ok (.iload_n 1, 1) := by decide +kernel
theorem dX10_readEntry_12 : decode cX10_readEntry 12 = .ok (.aload_n 0, 1) := by decide +kernel
theorem dX10_readEntry_13 : decode cX10_readEntry 13 = .ok (.invokevirtual 172, 3) := by decide +kernel
theorem dX10_readEntry_16 : decode cX10_readEntry 16 = .ok (.iastore, 1) := by decide +kernel
theorem dX10_readEntry_17 : decode cX10_readEntry 17 = .ok (.aload_n 0, 1) := by decide +kernel
theorem dX10_readEntry_18 : decode cX10_readEntry 18 = .ok (.getfield 166, 3) := by decide +kernel
theorem dX10_readEntry_21 : decode cX10_readEntry 21 = .ok (.bipush (-5), 2) := by decide +kernel
theorem dX10_readEntry_23 : decode cX10_readEntry 23 = .ok (.if_icmp .ne 24, 3) := by decide +kernel
theorem dX10_readEntry_26 : decode cX10_readEntry 26 = .ok (.aload_n 0, 1) := by decide +kernel
theorem dX10_readEntry_27 : decode cX10_readEntry 27 = .ok (.aload_n 0, 1) := by decide +kernel
theorem dX10_readEntry_28 : decode cX10_readEntry 28 = .ok (.getfield 160, 3) := by decide +kernel
theorem dX10_readEntry_31 : decode cX10_readEntry 31 = .ok (.invokevirtual 157, 3) := by decide +kernel
theorem dX10_readEntry_34 : decode cX10_readEntry 34 = .ok (.bipush 120, 2) := by decide +kernel
theorem dX10_readEntry_36 : decode cX10_readEntry 36 = .ok (.if_icmp .eq 11, 3) := by decide +kernel
theorem dX10_readEntry_39 : decode cX10_readEntry 39 = .ok (.aload_n 0, 1) := by decide +kernel
theorem dX10_readEntry_40 : decode cX10_readEntry 40 = .ok (.aload_n 0, 1) := by decide +kernel
theorem dX10_readEntry_41 : decode cX10_readEntry 41 = .ok (.getfield 160, 3) := by decide +kernel
theorem dX10_readEntry_44 : decode cX10_readEntry 44 = .ok (.putfield 166, 3) := by decide +kernel
theorem dX10_readEntry_47 : decode cX10_readEntry 47 = .ok (.aload_n 0, 1) := by decide +kernel
theorem dX10_readEntry_48 : decode cX10_readEntry 48 = .ok (.dup, 1) := by decide +kernel
theorem dX10_readEntry_49 : decode cX10_readEntry 49 = .ok (.getfield 160, 3) := by decide +kernel
theorem dX10_readEntry_52 : decode cX10_readEntry 52 = .ok (.iconst 1, 1) := by decide +kernel
theorem dX10_readEntry_53 : decode cX10_readEntry 53 = .ok (.iadd, 1) := by decide +kernel
theorem dX10_readEntry_54 : decode cX10_readEntry 54 = .ok (.putfield 160, 3) := by decide +kernel
theorem dX10_readEntry_57 : decode cX10_readEntry 57 = .ok (.aload_n 0, 1) := by decide +kernel
theorem dX10_readEntry_58 : decode cX10_readEntry 58 = .ok (.getfield 166, 3) := by decide +kernel
theorem dX10_readEntry_61 : decode cX10_readEntry 61 = .ok (.bipush (-5), 2) := by decide +kernel
theorem dX10_readEntry_63 : decode cX10_readEntry 63 = .ok (.if_icmp .ne 15, 3) := by decide +kernel
theorem dX10_readEntry_66 : decode cX10_readEntry 66 = .ok (.aload_n 0, 1) := by decide +kernel
theorem dX10_readEntry_67 : decode cX10_readEntry 67 = .ok (.getfield 39, 3) := by decide +kernel
theorem dX10_readEntry_70 : decode cX10_readEntry 70 = .ok (.iload_n 1, 1) := by decide +kernel
theorem dX10_readEntry_71 : decode cX10_readEntry 71 = .ok (.iconst 1, 1) := by decide +kernel
theorem dX10_readEntry_72 : decode cX10_readEntry 72 = .ok (.iadd, 1) := by decide +kernel
theorem dX10_readEntry_73 : decode cX10_readEntry 73 = .ok (.aload_n 0, 1) := by decide +kernel
theorem dX10_readEntry_74 : decode cX10_readEntry 74 = .ok (.invokevirtual 172, 3) := by decide +kernel
theorem dX10_readEntry_77 : decode cX10_readEntry 77 = .ok (.iastore, 1) := by decide +kernel
theorem dX10_readEntry_78 : decode cX10_readEntry 78 = .ok (.aload_n 0, 1) := by decide +kernel
theorem dX10_readEntry_79 : decode cX10_readEntry 79 = .ok (.getfield 39, 3) := by decide +kernel
theorem dX10_readEntry_82 : decode cX10_readEntry 82 = .ok (.iload_n 1, 1) := by decide +kernel
theorem dX10_readEntry_83 : decode cX10_readEntry 83 = .ok (.iconst 2, 1) := by decide +kernel
theorem dX10_readEntry_84 : decode cX10_readEntry 84 = .ok (.iadd, 1) := by decide +kernel
theorem dX10_readEntry_85 : decode cX10_readEntry 85 = .ok (.bipush (-5), 2) := by decide +kernel
theorem dX10_readEntry_87 : decode cX10_readEntry 87 = .ok (.iastore, 1) := by decide +kernel
theorem dX10_readEntry_88 : decode cX10_readEntry 88 = .ok (.aload_n 0, 1) := by decide +kernel
theorem dX10_readEntry_89 : decode cX10_readEntry 89 = .ok (.getfield 166, 3) := by decide +kernel
theorem dX10_readEntry_92 : decode cX10_readEntry 92 = .ok (.bipush (-5), 2) := by decide +kernel
theorem dX10_readEntry_94 : decode cX10_readEntry 94 = .ok (.if_icmp .ne 38, 3) := by decide +kernel
theorem dX10_readEntry_97 : decode cX10_readEntry 97 = .ok (.aload_n 0, 1) := by decide +kernel
theorem dX10_readEntry_98 : decode cX10_readEntry 98 = .ok (.aload_n 0, 1) := by decide +kernel
theorem dX10_readEntry_99 : decode cX10_readEntry 99 = .ok (.getfield 160, 3) := by decide +kernel
theorem dX10_readEntry_102 : decode cX10_readEntry 102 = .ok (.invokevirtual 157, 3) := by decide +kernel
theorem dX10_readEntry_105 : decode cX10_readEntry 105 = .ok (.bipush 47, 2) := by decide +kernel
theorem dX10_readEntry_107 : decode cX10_readEntry 107 = .ok (.if_icmp .ne 25, 3) := by decide +kernel
theorem dX10_readEntry_110 : decode cX10_readEntry 110 = .ok (.aload_n 0, 1) := by decide +kernel
theorem dX10_readEntry_111 : decode cX10_readEntry 111 = .ok (.dup, 1) := by decide +kernel
theorem dX10_readEntry_112 : decode cX10_readEntry 112 = .ok (.getfield 160, 3) := by decide +kernel
theorem dX10_readEntry_115 : decode cX10_readEntry 115 = .ok (.iconst 1, 1) := by decide +kernel
theorem dX10_readEntry_116 : decode cX10_readEntry 116 = .ok (.iadd, 1) := by decide +kernel
theorem dX10_readEntry_117 : decode cX10_readEntry 117 = .ok (.putfield 160, 3) := by decide +kernel
theorem dX10_readEntry_120 : decode cX10_readEntry 120 = .ok (.aload_n 0, 1) := by decide +kernel
theorem dX10_readEntry_121 : decode cX10_readEntry 121 = .ok (.getfield 39, 3) := by decide +kernel
theorem dX10_readEntry_124 : decode cX10_readEntry 124 = .ok (.iload_n 1, 1) := by decide +kernel
theorem dX10_readEntry_125 : decode cX10_readEntry 125 = .ok (.iconst 2, 1) := by decide +kernel
theorem dX10_readEntry_126 : decode cX10_readEntry 126 = .ok (.iadd, 1) := by decide +kernel
theorem dX10_readEntry_127 : decode cX10_readEntry 127 = .ok (.aload_n 0, 1) := by decide +kernel
theorem dX10_readEntry_128 : decode cX10_readEntry 128 = .ok (.invokevirtual 172, 3) := by decide +kernel
theorem dX10_readEntry_131 : decode cX10_readEntry 131 = .ok (.iastore, 1) := by decide +kernel
theorem dX10_readEntry_132 : decode cX10_readEntry 132 = .ok (.aload_n 0, 1) := by decide +kernel
theorem dX10_readEntry_133 : decode cX10_readEntry 133 = .ok (.dup, 1) := by decide +kernel
theorem dX10_readEntry_134 : decode cX10_readEntry 134 = .ok (.getfield 169, 3) := by decide +kernel
theorem dX10_readEntry_137 : decode cX10_readEntry 137 = .ok (.iconst 1, 1) := by decide +kernel
theorem dX10_readEntry_138 : decode cX10_readEntry 138 = .ok (.iadd, 1) := by decide +kernel
theorem dX10_readEntry_139 : decode cX10_readEntry 139 = .ok (.putfield 169, 3) := by decide +kernel
theorem dX10_readEntry_142 : decode cX10_readEntry 142 = .ok (.return_, 1) := by decide +kernel
set_option maxRecDepth 20000 in
theorem ggX10_readText_X10_readEntry : GoodIn wsX10_readText wsX10_readEntry := goodIn_r _ [9, 3, 10, 2, 1, 11, 12, 13, 8, 14, 15, 16, 17, 18, 19, 20, 21, 22, 4, 23, 24, 25, 26, 27, 28, 29, 30, 31, 32, 33, 34, 35, 36, 37, 38, 39, 40, 41, 42] (by decide +kernel) (by decide +kernel)
set_option maxRecDepth 20000 in
theorem gX10_readText_X10_readEntry : GoodIn wsX10_readText (wsV RX10 175 RX10 yX10_readEntry wsX10_readEntry) := goodIn_app (goodIn_of _ (by decide +kernel)) ggX10_readText_X10_readEntry
set_option maxRecDepth 20000 in
theorem ggX10_readText_X10_letter : GoodIn wsX10_readText wsX10_letter := goodIn_r _ [22, 4, 23, 24, 25, 26, 27, 28, 29, 30, 31, 32, 33, 34, 35, 36, 37, 38, 39, 40, 41, 42] (by decide +kernel) (by decide +kernel)
set_option maxRecDepth 20000 in
theorem gX10_readText_X10_letter : GoodIn wsX10_readText (wsV RX10 157 RX10 yX10_letter wsX10_letter) := goodIn_app (goodIn_of _ (by decide +kernel)) ggX10_readText_X10_letter
theorem dX10_readText_0 : decode cX10_readText 0 = .ok (.aload_n 0, 1) := by decide +kernel
theorem dX10_readText_1 : decode cX10_readText 1 = .ok (.iconst 0, 1) := by decide +kernel
theorem dX10_readText_2 : decode cX10_readText 2 = .ok (.putfield 160, 3) := by decide +kernel
theorem dX10_readText_5 : decode cX10_readText 5 = .ok (.aload_n 0, 1) := by decide +kernel
theorem dX10_readText_6 : decode cX10_readText 6 = .ok (.bipush (-5), 2) := by decide +kernel
theorem dX10_readText_8 : decode cX10_readText 8 = .ok (.putfield 166, 3) := by decide +kernel
theorem dX10_readText_11 : decode cX10_readText 11 = .ok (.aload_n 0, 1) := by decide +kernel
theorem dX10_readText_12 : decode cX10_readText 12 = .ok (.iconst 0, 1) := by decide +kernel
theorem dX10_readText_13 : decode cX10_readText 13 = .ok (.putfield 169, 3) := by decide +kernel
theorem dX10_readText_16 : decode cX10_readText 16 = .ok (.iconst 1, 1) := by decide +kernel
theorem dX10_readText_17 : decode cX10_readText 17 = .ok (.istore_n 1, 1) := by decide +kernel
theorem dX10_readText_18 : decode cX10_readText 18 = .ok (.iload_n 1, 1) := by decide +kernel
theorem dX10_readText_19 : decode cX10_readText 19 = .ok (.ifCond .eq 73, 3) := by decide +kernel
theorem dX10_readText_22 : decode cX10_readText 22 = .ok (.aload_n 0, 1) := by decide +kernel
theorem dX10_readText_23 : decode cX10_readText 23 = .ok (.invokevirtual 175, 3) := by decide +kernel
theorem dX10_readText_26 : decode cX10_readText 26 = .ok (.aload_n 0, 1) := by decide +kernel
theorem dX10_readText_27 : decode cX10_readText 27 = .ok (.getfield 166, 3) := by decide +kernel
theorem dX10_readText_30 : decode cX10_readText 30 = .ok (.bipush (-5), 2) := by decide +kernel
theorem dX10_readText_32 : decode cX10_readText 32 = .ok (.if_icmp .ne 18, 3) := by decide +kernel
theorem dX10_readText_35 : decode cX10_readText 35 = .ok (.aload_n 0, 1) := by decide +kernel
theorem dX10_readText_36 : decode cX10_readText 36 = .ok (.getfield 160, 3) := by decide +kernel
theorem dX10_readText_39 : decode cX10_readText 39 = .ok (.aload_n 0, 1) := by decide +kernel
theorem dX10_readText_40 : decode cX10_readText 40 = .ok (.getfield 154, 3) := by decide +kernel
theorem dX10_readText_43 : decode cX10_readText 43 = .ok (.if_icmp .ge 7, 3) := by decide +kernel
theorem dX10_readText_46 : decode cX10_readText 46 = .ok (.iconst 1, 1) := by decide +kernel
theorem dX10_readText_47 : decode cX10_readText 47 = .ok (.goto 4, 3) := by decide +kernel
theorem dX10_readText_50 : decode cX10_readText 50 = .ok (.iconst 0, 1) := by decide +kernel
theorem dX10_readText_51 : decode cX10_readText 51 = .ok (.istore_n 1, 1) := by decide +kernel
theorem dX10_readText_52 : decode cX10_readText 52 = .ok (.iload_n 1, 1) := by decide +kernel
theorem dX10_readText_53 : decode cX10_readText 53 = .ok (.ifCond .eq 26, 3) := by decide +kernel
theorem dX10_readText_56 : decode cX10_readText 56 = .ok (.aload_n 0, 1) := by decide +kernel
theorem dX10_readText_57 : decode cX10_readText 57 = .ok (.aload_n 0, 1) := by decide +kernel
theorem dX10_readText_58 : decode cX10_readText 58 = .ok (.getfield 160, 3) := by decide +kernel
theorem dX10_readText_61 : decode cX10_readText 61 = .ok (.invokevirtual 157, 3) := by decide +kernel
theorem dX10_readText_64 : decode cX10_readText 64 = .ok (.bipush 44, 2) := by decide +kernel
theorem dX10_readText_66 : decode cX10_readText 66 = .ok (.if_icmp .eq 13, 3) := by decide +kernel
theorem dX10_readText_69 : decode cX10_readText 69 = .ok (.aload_n 0, 1) := by decide +kernel
theorem dX10_readText_70 : decode cX10_readText 70 = .ok (.aload_n 0, 1) := by decide +kernel
theorem dX10_readText_71 : decode cX10_readText 71 = .ok (.getfield 160, 3) := by decide +kernel
theorem dX10_readText_74 : decode cX10_readText 74 = .ok (.putfield 166, 3) := by decide +kernel
theorem dX10_readText_77 : decode cX10_readText 77 = .ok (.iconst 0, 1) := by decide +kernel
theorem dX10_readText_78 : decode cX10_readText 78 = .ok (.istore_n 1, 1) := by decide +kernel
theorem dX10_readText_79 : decode cX10_readText 79 = .ok (.aload_n 0, 1) := by decide +kernel
theorem dX10_readText_80 : decode cX10_readText 80 = .ok (.dup, 1) := by decide +kernel
theorem dX10_readText_81 : decode cX10_readText 81 = .ok (.getfield 160, 3) := by decide +kernel
theorem dX10_readText_84 : decode cX10_readText 84 = .ok (.iconst 1, 1) := by decide +kernel
theorem dX10_readText_85 : decode cX10_readText 85 = .ok (.iadd, 1) := by decide +kernel
theorem dX10_readText_86 : decode cX10_readText 86 = .ok (.putfield 160, 3) := by decide +kernel
theorem dX10_readText_89 : decode cX10_readText 89 = .ok (.goto (-71), 3) := by decide +kernel
theorem dX10_readText_92 : decode cX10_readText 92 = .ok (.return_, 1) := by decide +kernel
set_option maxRecDepth 20000 in
theorem ggX10_whyNot_X10_isGood : GoodIn wsX10_whyNot wsX10_isGood := goodIn_r _ [8, 3, 16, 17, 18, 19, 20, 21, 22, 23, 24, 25, 26, 27, 28, 29, 30, 31, 32, 33, 34] (by decide +kernel) (by decide +kernel)
set_option maxRecDepth 20000 in
theorem gX10_whyNot_X10_isGood : GoodIn wsX10_whyNot (wsV RX10 60 RX10 yX10_isGood wsX10_isGood) := goodIn_app (goodIn_of _ (by decide +kernel)) ggX10_whyNot_X10_isGood
set_option maxRecDepth 20000 in
theorem ggX10_whyNot_X10_ofGood : GoodIn wsX10_whyNot wsX10_ofGood := goodIn_r _ [12, 3, 16, 17, 18, 19, 20, 21, 22, 23, 24, 25, 26, 27, 28, 29, 30, 31, 32, 33, 34] (by decide +kernel) (by decide +kernel)
set_option maxRecDepth 20000 in
theorem gX10_whyNot_X10_ofGood : GoodIn wsX10_whyNot (wsV RX10 64 RX10 yX10_ofGood wsX10_ofGood) := goodIn_app (goodIn_of _ (by decide +kernel)) ggX10_whyNot_X10_ofGood
set_option maxRecDepth 20000 in
theorem ggX10_whyNot_X10_in : GoodIn wsX10_whyNot wsX10_in := goodIn_r _ [15] (by decide +kernel) (by decide +kernel)
set_option maxRecDepth 20000 in
theorem gX10_whyNot_X10_in : GoodIn wsX10_whyNot (va_wsS RX10 56 yX10_in wsX10_in) := goodIn_app (goodIn_of _ (by decide +kernel)) ggX10_whyNot_X10_in
theorem dX10_whyNot_0 : decode cX10_whyNot 0 = .ok (.iconst 0, 1) := by decide +kernel
theorem dX10_whyNot_1 : decode cX10_whyNot 1 = .ok (.istore_n 1, 1) := by decide +kernel
theorem dX10_whyNot_2 : decode cX10_whyNot 2 = .ok (.iload_n 1, 1) := by decide +kernel
theorem dX10_whyNot_3 : decode cX10_whyNot 3 = .ok (.aload_n 0, 1) := by decide +kernel
theorem dX10_whyNot_4 : decode cX10_whyNot 4 = .ok (.getfield 169, 3) := by decide +kernel
theorem dX10_whyNot_7 : decode cX10_whyNot 7 = .ok (.if_icmp .ge 26, 3) := by decide +kernel
theorem dX10_whyNot_10 : decode cX10_whyNot 10 = .ok (.aload_n 0, 1) := by decide +kernel
theorem dX10_whyNot_11 : decode cX10_whyNot 11 = .ok (.aload_n 0, 1) := by decide +kernel
theorem dX10_whyNot_12 : decode cX10_whyNot 12 = .ok (.getfield 39, 3) := by decide +kernel
theorem dX10_whyNot_15 : decode cX10_whyNot 15 = .ok (.iconst 3, 1) := by decide +kernel
theorem dX10_whyNot_16 : decode cX10_whyNot 16 = .ok (.iload_n 1, 1) := by decide +kernel
theorem dX10_whyNot_17 : decode cX10_whyNot 17 = .ok (.imul, 1) := by decide +kernel
theorem dX10_whyNot_18 : decode cX10_whyNot 18 = .ok (.iaload, 1) := by decide +kernel
theorem dX10_whyNot_19 : decode cX10_whyNot 19 = .ok (.invokevirtual 60, 3) := by decide +kernel
theorem dX10_whyNot_22 : decode cX10_whyNot 22 = .ok (.ifCond .ne 5, 3) := by decide +kernel
theorem dX10_whyNot_25 : decode cX10_whyNot 25 = .ok (.iconst (-1), 1) := by decide +kernel
theorem dX10_whyNot_26 : decode cX10_whyNot 26 = .ok (.ireturn, 1) := by decide +kernel
theorem dX10_whyNot_27 : decode cX10_whyNot 27 = .ok (.iinc 1 1, 3) := by decide +kernel
theorem dX10_whyNot_30 : decode cX10_whyNot 30 = .ok (.goto (-28), 3) := by decide +kernel
theorem dX10_whyNot_33 : decode cX10_whyNot 33 = .ok (.iconst 0, 1) := by decide +kernel
theorem dX10_whyNot_34 : decode cX10_whyNot 34 = .ok (.istore_n 1, 1) := by decide +kernel
theorem dX10_whyNot_35 : decode cX10_whyNot 35 = .ok (.iload_n 1, 1) := by decide +kernel
theorem dX10_whyNot_36 : decode cX10_whyNot 36 = .ok (.aload_n 0, 1) := by decide +kernel
theorem dX10_whyNot_37 : decode cX10_whyNot 37 = .ok (.getfield 169, 3) := by decide +kernel
theorem dX10_whyNot_40 : decode cX10_whyNot 40 = .ok (.if_icmp .ge 89, 3) := by decide +kernel
theorem dX10_whyNot_43 : decode cX10_whyNot 43 = .ok (.aload_n 0, 1) := by decide +kernel
theorem dX10_whyNot_44 : decode cX10_whyNot 44 = .ok (.aload_n 0, 1) := by decide +kernel
theorem dX10_whyNot_45 : decode cX10_whyNot 45 = .ok (.getfield 39, 3) := by decide +kernel
theorem dX10_whyNot_48 : decode cX10_whyNot 48 = .ok (.iconst 3, 1) := by decide +kernel
theorem dX10_whyNot_49 : decode cX10_whyNot 49 = .ok (.iload_n 1, 1) := by decide +kernel
theorem dX10_whyNot_50 : decode cX10_whyNot 50 = .ok (.imul, 1) := by decide +kernel
theorem dX10_whyNot_51 : decode cX10_whyNot 51 = .ok (.iaload, 1) := by decide +kernel
theorem dX10_whyNot_52 : decode cX10_whyNot 52 = .ok (.iconst 1, 1) := by decide +kernel
theorem dX10_whyNot_53 : decode cX10_whyNot 53 = .ok (.invokevirtual 64, 3) := by decide +kernel
theorem dX10_whyNot_56 : decode cX10_whyNot 56 = .ok (.istore_n 2, 1) := by decide +kernel
theorem dX10_whyNot_57 : decode cX10_whyNot 57 = .ok (.aload_n 0, 1) := by decide +kernel
theorem dX10_whyNot_58 : decode cX10_whyNot 58 = .ok (.getfield 39, 3) := by decide +kernel
theorem dX10_whyNot_61 : decode cX10_whyNot 61 = .ok (.iconst 3, 1) := by decide +kernel
theorem dX10_whyNot_62 : decode cX10_whyNot 62 = .ok (.iload_n 1, 1) := by decide +kernel
theorem dX10_whyNot_63 : decode cX10_whyNot 63 = .ok (.imul, 1) := by decide +kernel
theorem dX10_whyNot_64 : decode cX10_whyNot 64 = .ok (.iconst 2, 1) := by decide +kernel
theorem dX10_whyNot_65 : decode cX10_whyNot 65 = .ok (.iadd, 1) := by decide +kernel
theorem dX10_whyNot_66 : decode cX10_whyNot 66 = .ok (.iaload, 1) := by decide +kernel
theorem dX10_whyNot_67 : decode cX10_whyNot 67 = .ok (.bipush (-5), 2) := by decide +kernel
theorem dX10_whyNot_69 : decode cX10_whyNot 69 = .ok (.if_icmp .eq 21, 3) := by decide +kernel
theorem dX10_whyNot_72 : decode cX10_whyNot 72 = .ok (.aload_n 0, 1) := by decide +kernel
theorem dX10_whyNot_73 : decode cX10_whyNot 73 = .ok (.getfield 39, 3) := by decide +kernel
theorem dX10_whyNot_76 : decode cX10_whyNot 76 = .ok (.iconst 3, 1) := by decide +kernel
theorem dX10_whyNot_77 : decode cX10_whyNot 77 = .ok (.iload_n 1, 1) := by decide +kernel
theorem dX10_whyNot_78 : decode cX10_whyNot 78 = .ok (.imul, 1) := by decide +kernel
theorem dX10_whyNot_79 : decode cX10_whyNot 79 = .ok (.iconst 2, 1) := by decide +kernel
theorem dX10_whyNot_80 : decode cX10_whyNot 80 = .ok (.iadd, 1) := by decide +kernel
theorem dX10_whyNot_81 : decode cX10_whyNot 81 = .ok (.iaload, 1) := by decide +kernel
theorem dX10_whyNot_82 : decode cX10_whyNot 82 = .ok (.iconst 1, 1) := by decide +kernel
theorem dX10_whyNot_83 : decode cX10_whyNot 83 = .ok (.iload_n 2, 1) := by decide +kernel
theorem dX10_whyNot_84 : decode cX10_whyNot 84 = .ok (.invokestatic 56, 3) := by decide +kernel
theorem dX10_whyNot_87 : decode cX10_whyNot 87 = .ok (.ifCond .eq 7, 3) := by decide +kernel
theorem dX10_whyNot_90 : decode cX10_whyNot 90 = .ok (.iconst 1, 1) := by decide +kernel
theorem dX10_whyNot_91 : decode cX10_whyNot 91 = .ok (.goto 4, 3) := by decide +kernel
theorem dX10_whyNot_94 : decode cX10_whyNot 94 = .ok (.iconst 0, 1) := by decide +kernel
theorem dX10_whyNot_95 : decode cX10_whyNot 95 = .ok (.istore_n 3, 1) := by decide +kernel
theorem dX10_whyNot_96 : decode cX10_whyNot 96 = .ok (.iload_n 3, 1) := by decide +kernel
theorem dX10_whyNot_97 : decode cX10_whyNot 97 = .ok (.ifCond .eq 23, 3) := by decide +kernel
theorem dX10_whyNot_100 : decode cX10_whyNot 100 = .ok (.aload_n 0, 1) := by decide +kernel
theorem dX10_whyNot_101 : decode cX10_whyNot 101 = .ok (.getfield 39, 3) := by decide +kernel
theorem dX10_whyNot_104 : decode cX10_whyNot 104 = .ok (.iconst 3, 1) := by decide +kernel
theorem dX10_whyNot_105 : decode cX10_whyNot 105 = .ok (.iload_n 1, 1) := by decide +kernel
theorem dX10_whyNot_106 : decode cX10_whyNot 106 = .ok (.imul, 1) := by decide +kernel
theorem dX10_whyNot_107 : decode cX10_whyNot 107 = .ok (.iconst 1, 1) := by decide +kernel
theorem dX10_whyNot_108 : decode cX10_whyNot 108 = .ok (.iadd, 1) := by decide +kernel
theorem dX10_whyNot_109 : decode cX10_whyNot 109 = .ok (.iaload, 1) := by decide +kernel
theorem dX10_whyNot_110 : decode cX10_whyNot 110 = .ok (.iconst 1, 1) := by decide +kernel
theorem dX10_whyNot_111 : decode cX10_whyNot 111 = .ok (.sipush 999, 3) := by decide +kernel
theorem dX10_whyNot_114 : decode cX10_whyNot 114 = .ok (.invokestatic 56, 3) := by decide +kernel
theorem dX10_whyNot_117 : decode cX10_whyNot 117 = .ok (.ifCond .ne 6, 3) := by decide +kernel
theorem dX10_whyNot_120 : decode cX10_whyNot 120 = .ok (.bipush (-2), 2) := by decide +kernel
theorem dX10_whyNot_122 : decode cX10_whyNot 122 = .ok (.ireturn, 1) := by decide +kernel
theorem dX10_whyNot_123 : decode cX10_whyNot 123 = .ok (.iinc 1 1, 3) := by decide +kernel
theorem dX10_whyNot_126 : decode cX10_whyNot 126 = .ok (.goto (-91), 3) := by decide +kernel
theorem dX10_whyNot_129 : decode cX10_whyNot 129 = .ok (.aload_n 0, 1) := by decide +kernel
theorem dX10_whyNot_130 : decode cX10_whyNot 130 = .ok (.getfield 7, 3) := by decide +kernel
theorem dX10_whyNot_133 : decode cX10_whyNot 133 = .ok (.iconst 2, 1) := by decide +kernel
theorem dX10_whyNot_134 : decode cX10_whyNot 134 = .ok (.iaload, 1) := by decide +kernel
theorem dX10_whyNot_135 : decode cX10_whyNot 135 = .ok (.aload_n 0, 1) := by decide +kernel
theorem dX10_whyNot_136 : decode cX10_whyNot 136 = .ok (.getfield 169, 3) := by decide +kernel
theorem dX10_whyNot_139 : decode cX10_whyNot 139 = .ok (.iadd, 1) := by decide +kernel
theorem dX10_whyNot_140 : decode cX10_whyNot 140 = .ok (.bipush 40, 2) := by decide +kernel
theorem dX10_whyNot_142 : decode cX10_whyNot 142 = .ok (.if_icmp .le 8, 3) := by decide +kernel
theorem dX10_whyNot_145 : decode cX10_whyNot 145 = .ok (.bipush (-3), 2) := by decide +kernel
theorem dX10_whyNot_147 : decode cX10_whyNot 147 = .ok (.goto 4, 3) := by decide +kernel
theorem dX10_whyNot_150 : decode cX10_whyNot 150 = .ok (.iconst 0, 1) := by decide +kernel
theorem dX10_whyNot_151 : decode cX10_whyNot 151 = .ok (.ireturn, 1) := by decide +kernel
set_option maxRecDepth 20000 in
theorem ggX10_readDelivery_X10_readText : GoodIn wsX10_readDelivery wsX10_readText := goodIn_r _ [8, 9, 1, 2, 10, 11, 12, 13, 7, 14, 3, 15, 16, 17, 18, 19, 20, 21, 22, 23, 24, 25, 26, 27, 58, 59, 60, 61, 62, 63, 64, 65, 66, 67, 68, 69, 70, 71, 72, 73, 74, 75, 76] (by decide +kernel) (by decide +kernel)
set_option maxRecDepth 20000 in
theorem gX10_readDelivery_X10_readText : GoodIn wsX10_readDelivery (wsV RX10 178 RX10 yX10_readText wsX10_readText) := goodIn_app (goodIn_of _ (by decide +kernel)) ggX10_readDelivery_X10_readText
set_option maxRecDepth 20000 in
theorem ggX10_readDelivery_X10_whyNot : GoodIn wsX10_readDelivery wsX10_whyNot := goodIn_r _ [31, 2, 3, 32, 33, 34, 35, 7, 36, 37, 38, 39, 40, 41, 42, 43, 58, 59, 60, 61, 62, 63, 64, 65, 66, 67, 68, 69, 70, 71, 72, 73, 74, 75, 76] (by decide +kernel) (by decide +kernel)
set_option maxRecDepth 20000 in
theorem gX10_readDelivery_X10_whyNot : GoodIn wsX10_readDelivery (wsV RX10 181 RX10 yX10_whyNot wsX10_whyNot) := goodIn_app (goodIn_of _ (by decide +kernel)) ggX10_readDelivery_X10_whyNot
set_option maxRecDepth 20000 in
theorem ggX10_readDelivery_X10_record : GoodIn wsX10_readDelivery wsX10_record := goodIn_r _ [47, 48, 49, 32, 58, 59, 60, 61, 62, 63, 64, 65, 66, 67, 68, 69, 70, 71, 72, 73, 74, 75, 76] (by decide +kernel) (by decide +kernel)
set_option maxRecDepth 20000 in
theorem gX10_readDelivery_X10_record : GoodIn wsX10_readDelivery (wsV RX10 53 RX10 yX10_record wsX10_record) := goodIn_app (goodIn_of _ (by decide +kernel)) ggX10_readDelivery_X10_record
set_option maxRecDepth 20000 in
theorem ggX10_readDelivery_X10_ofGood : GoodIn wsX10_readDelivery wsX10_ofGood := goodIn_r _ [40, 32, 58, 59, 60, 61, 62, 63, 64, 65, 66, 67, 68, 69, 70, 71, 72, 73, 74, 75, 76] (by decide +kernel) (by decide +kernel)
set_option maxRecDepth 20000 in
theorem gX10_readDelivery_X10_ofGood : GoodIn wsX10_readDelivery (wsV RX10 64 RX10 yX10_ofGood wsX10_ofGood) := goodIn_app (goodIn_of _ (by decide +kernel)) ggX10_readDelivery_X10_ofGood
set_option maxRecDepth 20000 in
theorem ggX10_readDelivery_X10_putBatch : GoodIn wsX10_readDelivery wsX10_putBatch := goodIn_r _ [53, 32, 54, 55, 56, 7, 57, 58, 59, 60, 61, 62, 63, 64, 65, 66, 67, 68, 69, 70, 71, 72, 73, 74, 75, 76] (by decide +kernel) (by decide +kernel)
set_option maxRecDepth 20000 in
theorem gX10_readDelivery_X10_putBatch : GoodIn wsX10_readDelivery (wsV RX10 133 RX10 yX10_putBatch wsX10_putBatch) := goodIn_app (goodIn_of _ (by decide +kernel)) ggX10_readDelivery_X10_putBatch
theorem dX10_readDelivery_0 : decode cX10_readDelivery 0 = .ok (.aload_n 0, 1) := by decide +kernel
theorem dX10_readDelivery_1 : decode cX10_readDelivery 1 = .ok (.invokevirtual 178, 3) := by decide +kernel
theorem dX10_readDelivery_4 : decode cX10_readDelivery 4 = .ok (.aload_n 0, 1) := by decide +kernel
theorem dX10_readDelivery_5 : decode cX10_readDelivery 5 = .ok (.getfield 166, 3) := by decide +kernel
theorem dX10_readDelivery_8 : decode cX10_readDelivery 8 = .ok (.bipush (-5), 2) := by decide +kernel
theorem dX10_readDelivery_10 : decode cX10_readDelivery 10 = .ok (.if_icmp .eq 11, 3) := by decide +kernel
theorem dX10_readDelivery_13 : decode cX10_readDelivery 13 = .ok (.bipush (-100), 2) := by decide +kernel
theorem dX10_readDelivery_15 : decode cX10_readDelivery 15 = .ok (.aload_n 0, 1) := by decide +kernel
theorem dX10_readDelivery_16 : decode cX10_readDelivery 16 = .ok (.getfield 166, 3) := by decide +kernel
theorem dX10_readDelivery_19 : decode cX10_readDelivery 19 = .ok (.isub, 1) := by decide +kernel
theorem dX10_readDelivery_20 : decode cX10_readDelivery 20 = .ok (.ireturn, 1) := by decide +kernel
theorem dX10_readDelivery_21 : decode cX10_readDelivery 21 = .ok (.aload_n 0, 1) := by decide +kernel
theorem dX10_readDelivery_22 : decode cX10_readDelivery 22 = .ok (.invokevirtual 181, 3) := by decide +kernel
theorem dX10_readDelivery_25 : decode cX10_readDelivery 25 = .ok (.istore_n 1, 1) := by decide +kernel
theorem dX10_readDelivery_26 : decode cX10_readDelivery 26 = .ok (.iload_n 1, 1) := by decide +kernel
theorem dX10_readDelivery_27 : decode cX10_readDelivery 27 = .ok (.ifCond .ge 5, 3) := by decide +kernel
theorem dX10_readDelivery_30 : decode cX10_readDelivery 30 = .ok (.iload_n 1, 1) := by decide +kernel
theorem dX10_readDelivery_31 : decode cX10_readDelivery 31 = .ok (.ireturn, 1) := by decide +kernel
theorem dX10_readDelivery_32 : decode cX10_readDelivery 32 = .ok (.aload_n 0, 1) := by decide +kernel
theorem dX10_readDelivery_33 : decode cX10_readDelivery 33 = .ok (.invokevirtual 53, 3) := by decide +kernel
theorem dX10_readDelivery_36 : decode cX10_readDelivery 36 = .ok (.iconst 0, 1) := by decide +kernel
theorem dX10_readDelivery_37 : decode cX10_readDelivery 37 = .ok (.istore_n 2, 1) := by decide +kernel
theorem dX10_readDelivery_38 : decode cX10_readDelivery 38 = .ok (.iload_n 2, 1) := by decide +kernel
theorem dX10_readDelivery_39 : decode cX10_readDelivery 39 = .ok (.aload_n 0, 1) := by decide +kernel
theorem dX10_readDelivery_40 : decode cX10_readDelivery 40 = .ok (.getfield 169, 3) := by decide +kernel
theorem dX10_readDelivery_43 : decode cX10_readDelivery 43 = .ok (.if_icmp .ge 68, 3) := by decide +kernel
theorem dX10_readDelivery_46 : decode cX10_readDelivery 46 = .ok (.aload_n 0, 1) := by decide +kernel
theorem dX10_readDelivery_47 : decode cX10_readDelivery 47 = .ok (.getfield 39, 3) := by decide +kernel
theorem dX10_readDelivery_50 : decode cX10_readDelivery 50 = .ok (.iconst 3, 1) := by decide +kernel
theorem dX10_readDelivery_51 : decode cX10_readDelivery 51 = .ok (.iload_n 2, 1) := by decide +kernel
theorem dX10_readDelivery_52 : decode cX10_readDelivery 52 = .ok (.imul, 1) := by decide +kernel
theorem dX10_readDelivery_53 : decode cX10_readDelivery 53 = .ok (.iaload, 1) := by decide +kernel
theorem dX10_readDelivery_54 : decode cX10_readDelivery 54 = .ok (.istore_n 3, 1) := by decide +kernel
theorem dX10_readDelivery_55 : decode cX10_readDelivery 55 = .ok (.aload_n 0, 1) := by decide +kernel
theorem dX10_readDelivery_56 : decode cX10_readDelivery 56 = .ok (.iload_n 3, 1) := by decide +kernel
theorem dX10_readDelivery_57 : decode cX10_readDelivery 57 = .ok (.aload_n 0, 1) := by decide +kernel
theorem dX10_readDelivery_58 : decode cX10_readDelivery 58 = .ok (.getfield 39, 3) := by decide +kernel
theorem dX10_readDelivery_61 : decode cX10_readDelivery 61 = .ok (.iconst 3, 1) := by decide +kernel
theorem dX10_readDelivery_62 : decode cX10_readDelivery 62 = .ok (.iload_n 2, 1) := by decide +kernel
theorem dX10_readDelivery_63 : decode cX10_readDelivery 63 = .ok (.imul, 1) := by decide +kernel
theorem dX10_readDelivery_64 : decode cX10_readDelivery 64 = .ok (.iconst 1, 1) := by decide +kernel
theorem dX10_readDelivery_65 : decode cX10_readDelivery 65 = .ok (.iadd, 1) := by decide +kernel
theorem dX10_readDelivery_66 : decode cX10_readDelivery 66 = .ok (.iaload, 1) := by decide +kernel
theorem dX10_readDelivery_67 : decode cX10_readDelivery 67 = .ok (.aload_n 0, 1) := by decide +kernel
theorem dX10_readDelivery_68 : decode cX10_readDelivery 68 = .ok (.getfield 39, 3) := by decide +kernel
theorem dX10_readDelivery_71 : decode cX10_readDelivery 71 = .ok (.iconst 3, 1) := by decide +kernel
theorem dX10_readDelivery_72 : decode cX10_readDelivery 72 = .ok (.iload_n 2, 1) := by decide +kernel
theorem dX10_readDelivery_73 : decode cX10_readDelivery 73 = .ok (.imul, 1) := by decide +kernel
theorem dX10_readDelivery_74 : decode cX10_readDelivery 74 = .ok (.iconst 2, 1) := by decide +kernel
theorem dX10_readDelivery_75 : decode cX10_readDelivery 75 = .ok (.iadd, 1) := by decide +kernel
theorem dX10_readDelivery_76 : decode cX10_readDelivery 76 = .ok (.iaload, 1) := by decide +kernel
theorem dX10_readDelivery_77 : decode cX10_readDelivery 77 = .ok (.bipush (-5), 2) := by decide +kernel
theorem dX10_readDelivery_79 : decode cX10_readDelivery 79 = .ok (.if_icmp .ne 12, 3) := by decide +kernel
theorem dX10_readDelivery_82 : decode cX10_readDelivery 82 = .ok (.aload_n 0, 1) := by decide +kernel
theorem dX10_readDelivery_83 : decode cX10_readDelivery 83 = .ok (.iload_n 3, 1) := by decide +kernel
theorem dX10_readDelivery_84 : decode cX10_readDelivery 84 = .ok (.iconst 1, 1) := by decide +kernel
theorem dX10_readDelivery_85 : decode cX10_readDelivery 85 = .ok (.invokevirtual 64, 3) := by decide +kernel
theorem dX10_readDelivery_88 : decode cX10_readDelivery 88 = .ok (.goto 13, 3) := by decide +kernel
theorem dX10_readDelivery_91 : decode cX10_readDelivery 91 = .ok (.aload_n 0, 1) := by decide +kernel
theorem dX10_readDelivery_92 : decode cX10_readDelivery 92 = .ok (.getfield 39, 3) := by decide +kernel
theorem dX10_readDelivery_95 : decode cX10_readDelivery 95 = .ok (.iconst 3, 1) := by decide +kernel
theorem dX10_readDelivery_96 : decode cX10_readDelivery 96 = .ok (.iload_n 2, 1) := by decide +kernel
theorem dX10_readDelivery_97 : decode cX10_readDelivery 97 = .ok (.imul, 1) := by decide +kernel
theorem dX10_readDelivery_98 : decode cX10_readDelivery 98 = .ok (.iconst 2, 1) := by decide +kernel
theorem dX10_readDelivery_99 : decode cX10_readDelivery 99 = .ok (.iadd, 1) := by decide +kernel
theorem dX10_readDelivery_100 : decode cX10_readDelivery 100 = .ok (.iaload, 1) := by decide +kernel
theorem dX10_readDelivery_101 : decode cX10_readDelivery 101 = .ok (.invokevirtual 133, 3) := by decide +kernel
theorem dX10_readDelivery_104 : decode cX10_readDelivery 104 = .ok (.pop, 1) := by decide +kernel
theorem dX10_readDelivery_105 : decode cX10_readDelivery 105 = .ok (.iinc 2 1, 3) := by decide +kernel
theorem dX10_readDelivery_108 : decode cX10_readDelivery 108 = .ok (.goto (-70), 3) := by decide +kernel
theorem dX10_readDelivery_111 : decode cX10_readDelivery 111 = .ok (.aload_n 0, 1) := by decide +kernel
theorem dX10_readDelivery_112 : decode cX10_readDelivery 112 = .ok (.getfield 169, 3) := by decide +kernel
theorem dX10_readDelivery_115 : decode cX10_readDelivery 115 = .ok (.ireturn, 1) := by decide +kernel
set_option maxRecDepth 20000 in
theorem ggX10_sumOfBatches_X10_ofBatch : GoodIn wsX10_sumOfBatches wsX10_ofBatch := goodIn_r _ [6, 1, 7, 8, 9, 10, 11, 12, 13, 14, 15, 16, 17, 18, 19, 20, 21, 22, 23, 24, 25] (by decide +kernel) (by decide +kernel)
set_option maxRecDepth 20000 in
theorem gX10_sumOfBatches_X10_ofBatch : GoodIn wsX10_sumOfBatches (wsV RX10 72 RX10 yX10_ofBatch wsX10_ofBatch) := goodIn_app (goodIn_of _ (by decide +kernel)) ggX10_sumOfBatches_X10_ofBatch
theorem dX10_sumOfBatches_0 : decode cX10_sumOfBatches 0 = .ok (.iconst 0, 1) := by decide +kernel
theorem dX10_sumOfBatches_1 : decode cX10_sumOfBatches 1 = .ok (.istore_n 3, 1) := by decide +kernel
theorem dX10_sumOfBatches_2 : decode cX10_sumOfBatches 2 = .ok (.iconst 0, 1) := by decide +kernel
theorem dX10_sumOfBatches_3 : decode cX10_sumOfBatches 3 = .ok (.istore 4, 2) := by decide +kernel
theorem dX10_sumOfBatches_5 : decode cX10_sumOfBatches 5 = .ok (.iload 4, 2) := by decide +kernel
theorem dX10_sumOfBatches_7 : decode cX10_sumOfBatches 7 = .ok (.aload_n 0, 1) := by decide +kernel
theorem dX10_sumOfBatches_8 : decode cX10_sumOfBatches 8 = .ok (.getfield 7, 3) := by decide +kernel
theorem dX10_sumOfBatches_11 : decode cX10_sumOfBatches 11 = .ok (.iconst 2, 1) := by decide +kernel
theorem dX10_sumOfBatches_12 : decode cX10_sumOfBatches 12 = .ok (.iaload, 1) := by decide +kernel
theorem dX10_sumOfBatches_13 : decode cX10_sumOfBatches 13 = .ok (.if_icmp .ge 40, 3) := by decide +kernel
theorem dX10_sumOfBatches_16 : decode cX10_sumOfBatches 16 = .ok (.iload_n 3, 1) := by decide +kernel
theorem dX10_sumOfBatches_17 : decode cX10_sumOfBatches 17 = .ok (.iload_n 1, 1) := by decide +kernel
theorem dX10_sumOfBatches_18 : decode cX10_sumOfBatches 18 = .ok (.bipush (-5), 2) := by decide +kernel
theorem dX10_sumOfBatches_20 : decode cX10_sumOfBatches 20 = .ok (.if_icmp .eq 14, 3) := by decide +kernel
theorem dX10_sumOfBatches_23 : decode cX10_sumOfBatches 23 = .ok (.aload_n 0, 1) := by decide +kernel
theorem dX10_sumOfBatches_24 : decode cX10_sumOfBatches 24 = .ok (.iload 4, 2) := by decide +kernel
theorem dX10_sumOfBatches_26 : decode cX10_sumOfBatches 26 = .ok (.iconst 0, 1) := by decide +kernel
theorem dX10_sumOfBatches_27 : decode cX10_sumOfBatches 27 = .ok (.invokevirtual 72, 3) := by decide +kernel
theorem dX10_sumOfBatches_30 : decode cX10_sumOfBatches 30 = .ok (.iload_n 1, 1) := by decide +kernel
theorem dX10_sumOfBatches_31 : decode cX10_sumOfBatches 31 = .ok (.if_icmp .ne 13, 3) := by decide +kernel
theorem dX10_sumOfBatches_34 : decode cX10_sumOfBatches 34 = .ok (.aload_n 0, 1) := by decide +kernel
theorem dX10_sumOfBatches_35 : decode cX10_sumOfBatches 35 = .ok (.iload 4, 2) := by decide +kernel
theorem dX10_sumOfBatches_37 : decode cX10_sumOfBatches 37 = .ok (.iload_n 2, 1) := by decide +kernel
theorem dX10_sumOfBatches_38 : decode cX10_sumOfBatches 38 = .ok (.invokevirtual 72, 3) := by decide +kernel
theorem dX10_sumOfBatches_41 : decode cX10_sumOfBatches 41 = .ok (.goto 4, 3) := by decide +kernel
theorem dX10_sumOfBatches_44 : decode cX10_sumOfBatches 44 = .ok (.iconst 0, 1) := by decide +kernel
theorem dX10_sumOfBatches_45 : decode cX10_sumOfBatches 45 = .ok (.iadd, 1) := by decide +kernel
theorem dX10_sumOfBatches_46 : decode cX10_sumOfBatches 46 = .ok (.istore_n 3, 1) := by decide +kernel
theorem dX10_sumOfBatches_47 : decode cX10_sumOfBatches 47 = .ok (.iinc 4 1, 3) := by decide +kernel
theorem dX10_sumOfBatches_50 : decode cX10_sumOfBatches 50 = .ok (.goto (-45), 3) := by decide +kernel
theorem dX10_sumOfBatches_53 : decode cX10_sumOfBatches 53 = .ok (.iload_n 3, 1) := by decide +kernel
theorem dX10_sumOfBatches_54 : decode cX10_sumOfBatches 54 = .ok (.ireturn, 1) := by decide +kernel
set_option maxRecDepth 20000 in
theorem ggX10_batchesOf_X10_ofBatch : GoodIn wsX10_batchesOf wsX10_ofBatch := goodIn_r _ [6, 1, 7, 8, 9, 10, 11, 12, 13, 14, 15, 16, 17, 18, 19, 20, 21, 22, 23, 24, 25] (by decide +kernel) (by decide +kernel)
set_option maxRecDepth 20000 in
theorem gX10_batchesOf_X10_ofBatch : GoodIn wsX10_batchesOf (wsV RX10 72 RX10 yX10_ofBatch wsX10_ofBatch) := goodIn_app (goodIn_of _ (by decide +kernel)) ggX10_batchesOf_X10_ofBatch
theorem dX10_batchesOf_0 : decode cX10_batchesOf 0 = .ok (.iconst 0, 1) := by decide +kernel
theorem dX10_batchesOf_1 : decode cX10_batchesOf 1 = .ok (.istore_n 2, 1) := by decide +kernel
theorem dX10_batchesOf_2 : decode cX10_batchesOf 2 = .ok (.iconst 0, 1) := by decide +kernel
theorem dX10_batchesOf_3 : decode cX10_batchesOf 3 = .ok (.istore_n 3, 1) := by decide +kernel
theorem dX10_batchesOf_4 : decode cX10_batchesOf 4 = .ok (.iload_n 3, 1) := by decide +kernel
theorem dX10_batchesOf_5 : decode cX10_batchesOf 5 = .ok (.aload_n 0, 1) := by decide +kernel
theorem dX10_batchesOf_6 : decode cX10_batchesOf 6 = .ok (.getfield 7, 3) := by decide +kernel
theorem dX10_batchesOf_9 : decode cX10_batchesOf 9 = .ok (.iconst 2, 1) := by decide +kernel
theorem dX10_batchesOf_10 : decode cX10_batchesOf 10 = .ok (.iaload, 1) := by decide +kernel
theorem dX10_batchesOf_11 : decode cX10_batchesOf 11 = .ok (.if_icmp .ge 27, 3) := by decide +kernel
theorem dX10_batchesOf_14 : decode cX10_batchesOf 14 = .ok (.iload_n 2, 1) := by decide +kernel
theorem dX10_batchesOf_15 : decode cX10_batchesOf 15 = .ok (.aload_n 0, 1) := by decide +kernel
theorem dX10_batchesOf_16 : decode cX10_batchesOf 16 = .ok (.iload_n 3, 1) := by decide +kernel
theorem dX10_batchesOf_17 : decode cX10_batchesOf 17 = .ok (.iconst 0, 1) := by decide +kernel
theorem dX10_batchesOf_18 : decode cX10_batchesOf 18 = .ok (.invokevirtual 72, 3) := by decide +kernel
theorem dX10_batchesOf_21 : decode cX10_batchesOf 21 = .ok (.iload_n 1, 1) := by decide +kernel
theorem dX10_batchesOf_22 : decode cX10_batchesOf 22 = .ok (.if_icmp .ne 7, 3) := by decide +kernel
theorem dX10_batchesOf_25 : decode cX10_batchesOf 25 = .ok (.iconst 1, 1) := by decide +kernel
theorem dX10_batchesOf_26 : decode cX10_batchesOf 26 = .ok (.goto 4, 3) := by decide +kernel
theorem dX10_batchesOf_29 : decode cX10_batchesOf 29 = .ok (.iconst 0, 1) := by decide +kernel
theorem dX10_batchesOf_30 : decode cX10_batchesOf 30 = .ok (.iadd, 1) := by decide +kernel
theorem dX10_batchesOf_31 : decode cX10_batchesOf 31 = .ok (.istore_n 2, 1) := by decide +kernel
theorem dX10_batchesOf_32 : decode cX10_batchesOf 32 = .ok (.iinc 3 1, 3) := by decide +kernel
theorem dX10_batchesOf_35 : decode cX10_batchesOf 35 = .ok (.goto (-31), 3) := by decide +kernel
theorem dX10_batchesOf_38 : decode cX10_batchesOf 38 = .ok (.iload_n 2, 1) := by decide +kernel
theorem dX10_batchesOf_39 : decode cX10_batchesOf 39 = .ok (.ireturn, 1) := by decide +kernel
set_option maxRecDepth 20000 in
theorem ggX10_good_X10_isGood : GoodIn wsX10_good wsX10_isGood := goodIn_r _ [6, 1, 34, 35, 36, 37, 38, 39, 40, 41, 42, 43, 44, 45, 46, 47, 48, 49, 50, 51, 52] (by decide +kernel) (by decide +kernel)
set_option maxRecDepth 20000 in
theorem gX10_good_X10_isGood : GoodIn wsX10_good (wsV RX10 60 RX10 yX10_isGood wsX10_isGood) := goodIn_app (goodIn_of _ (by decide +kernel)) ggX10_good_X10_isGood
set_option maxRecDepth 20000 in
theorem ggX10_good_X10_in : GoodIn wsX10_good wsX10_in := goodIn_r _ [9] (by decide +kernel) (by decide +kernel)
set_option maxRecDepth 20000 in
theorem gX10_good_X10_in : GoodIn wsX10_good (va_wsS RX10 56 yX10_in wsX10_in) := goodIn_app (goodIn_of _ (by decide +kernel)) ggX10_good_X10_in
set_option maxRecDepth 20000 in
theorem ggX10_good_X10_ofGood : GoodIn wsX10_good wsX10_ofGood := goodIn_r _ [13, 1, 34, 35, 36, 37, 38, 39, 40, 41, 42, 43, 44, 45, 46, 47, 48, 49, 50, 51, 52] (by decide +kernel) (by decide +kernel)
set_option maxRecDepth 20000 in
theorem gX10_good_X10_ofGood : GoodIn wsX10_good (wsV RX10 64 RX10 yX10_ofGood wsX10_ofGood) := goodIn_app (goodIn_of _ (by decide +kernel)) ggX10_good_X10_ofGood
set_option maxRecDepth 20000 in
theorem ggX10_good_X10_shelfOf : GoodIn wsX10_good wsX10_shelfOf := goodIn_r _ [17, 1, 18, 19, 20, 5, 21, 34, 35, 36, 37, 38, 39, 40, 41, 42, 43, 44, 45, 46, 47, 48, 49, 50, 51, 52] (by decide +kernel) (by decide +kernel)
set_option maxRecDepth 20000 in
theorem gX10_good_X10_shelfOf : GoodIn wsX10_good (wsV RX10 142 RX10 yX10_shelfOf wsX10_shelfOf) := goodIn_app (goodIn_of _ (by decide +kernel)) ggX10_good_X10_shelfOf
set_option maxRecDepth 20000 in
theorem ggX10_good_X10_batchesOf : GoodIn wsX10_good wsX10_batchesOf := goodIn_r _ [25, 1, 18, 19, 20, 5, 21, 34, 35, 36, 37, 38, 39, 40, 41, 42, 43, 44, 45, 46, 47, 48, 49, 50, 51, 52] (by decide +kernel) (by decide +kernel)
set_option maxRecDepth 20000 in
theorem gX10_good_X10_batchesOf : GoodIn wsX10_good (wsV RX10 184 RX10 yX10_batchesOf wsX10_batchesOf) := goodIn_app (goodIn_of _ (by decide +kernel)) ggX10_good_X10_batchesOf
set_option maxRecDepth 20000 in
theorem ggX10_good_X10_sumOfBatches : GoodIn wsX10_good wsX10_sumOfBatches := goodIn_r _ [29, 1, 18, 19, 20, 5, 21, 34, 35, 36, 37, 38, 39, 40, 41, 42, 43, 44, 45, 46, 47, 48, 49, 50, 51, 52] (by decide +kernel) (by decide +kernel)
set_option maxRecDepth 20000 in
theorem gX10_good_X10_sumOfBatches : GoodIn wsX10_good (wsV RX10 187 RX10 yX10_sumOfBatches wsX10_sumOfBatches) := goodIn_app (goodIn_of _ (by decide +kernel)) ggX10_good_X10_sumOfBatches
set_option maxRecDepth 20000 in
theorem ggX10_good_X10_ofOrder : GoodIn wsX10_good wsX10_ofOrder := goodIn_r _ [33, 1, 34, 35, 36, 37, 38, 39, 40, 41, 42, 43, 44, 45, 46, 47, 48, 49, 50, 51, 52] (by decide +kernel) (by decide +kernel)
set_option maxRecDepth 20000 in
theorem gX10_good_X10_ofOrder : GoodIn wsX10_good (wsV RX10 190 RX10 yX10_ofOrder wsX10_ofOrder) := goodIn_app (goodIn_of _ (by decide +kernel)) ggX10_good_X10_ofOrder
theorem dX10_good_0 : decode cX10_good 0 = .ok (.aload_n 0, 1) := by decide +kernel
theorem dX10_good_1 : decode cX10_good 1 = .ok (.iload_n 1, 1) := by decide +kernel
theorem dX10_good_2 : decode cX10_good 2 = .ok (.invokevirtual 60, 3) := by decide +kernel
theorem dX10_good_5 : decode cX10_good 5 = .ok (.ifCond .ne 5, 3) := by decide +kernel
theorem dX10_good_8 : decode cX10_good 8 = .ok (.iconst (-1), 1) := by decide +kernel
theorem dX10_good_9 : decode cX10_good 9 = .ok (.ireturn, 1) := by decide +kernel
theorem dX10_good_10 : decode cX10_good 10 = .ok (.iload_n 2, 1) := by decide +kernel
theorem dX10_good_11 : decode cX10_good 11 = .ok (.iconst 0, 1) := by decide +kernel
theorem dX10_good_12 : decode cX10_good 12 = .ok (.bipush 6, 2) := by decide +kernel
theorem dX10_good_14 : decode cX10_good 14 = .ok (.invokestatic 56, 3) := by decide +kernel
theorem dX10_good_17 : decode cX10_good 17 = .ok (.ifCond .ne 6, 3) := by decide +kernel
theorem dX10_good_20 : decode cX10_good 20 = .ok (.bipush (-2), 2) := by decide +kernel
theorem dX10_good_22 : decode cX10_good 22 = .ok (.ireturn, 1) := by decide +kernel
theorem dX10_good_23 : decode cX10_good 23 = .ok (.iload_n 2, 1) := by decide +kernel
theorem dX10_good_24 : decode cX10_good 24 = .ok (.iconst 3, 1) := by decide +kernel
theorem dX10_good_25 : decode cX10_good 25 = .ok (.if_icmp .ge 10, 3) := by decide +kernel
theorem dX10_good_28 : decode cX10_good 28 = .ok (.aload_n 0, 1) := by decide +kernel
theorem dX10_good_29 : decode cX10_good 29 = .ok (.iload_n 1, 1) := by decide +kernel
theorem dX10_good_30 : decode cX10_good 30 = .ok (.iload_n 2, 1) := by decide +kernel
theorem dX10_good_31 : decode cX10_good 31 = .ok (.invokevirtual 64, 3) := by decide +kernel
theorem dX10_good_34 : decode cX10_good 34 = .ok (.ireturn, 1) := by decide +kernel
theorem dX10_good_35 : decode cX10_good 35 = .ok (.iload_n 2, 1) := by decide +kernel
theorem dX10_good_36 : decode cX10_good 36 = .ok (.iconst 3, 1) := by decide +kernel
theorem dX10_good_37 : decode cX10_good 37 = .ok (.if_icmp .ne 9, 3) := by decide +kernel
theorem dX10_good_40 : decode cX10_good 40 = .ok (.aload_n 0, 1) := by decide +kernel
theorem dX10_good_41 : decode cX10_good 41 = .ok (.iload_n 1, 1) := by decide +kernel
theorem dX10_good_42 : decode cX10_good 42 = .ok (.invokevirtual 142, 3) := by decide +kernel
theorem dX10_good_45 : decode cX10_good 45 = .ok (.ireturn, 1) := by decide +kernel
theorem dX10_good_46 : decode cX10_good 46 = .ok (.iload_n 2, 1) := by decide +kernel
theorem dX10_good_47 : decode cX10_good 47 = .ok (.iconst 4, 1) := by decide +kernel
theorem dX10_good_48 : decode cX10_good 48 = .ok (.if_icmp .ne 9, 3) := by decide +kernel
theorem dX10_good_51 : decode cX10_good 51 = .ok (.aload_n 0, 1) := by decide +kernel
theorem dX10_good_52 : decode cX10_good 52 = .ok (.iload_n 1, 1) := by decide +kernel
theorem dX10_good_53 : decode cX10_good 53 = .ok (.invokevirtual 184, 3) := by decide +kernel
theorem dX10_good_56 : decode cX10_good 56 = .ok (.ireturn, 1) := by decide +kernel
theorem dX10_good_57 : decode cX10_good 57 = .ok (.iload_n 2, 1) := by decide +kernel
theorem dX10_good_58 : decode cX10_good 58 = .ok (.iconst 5, 1) := by decide +kernel
theorem dX10_good_59 : decode cX10_good 59 = .ok (.if_icmp .ne 10, 3) := by decide +kernel
theorem dX10_good_62 : decode cX10_good 62 = .ok (.aload_n 0, 1) := by decide +kernel
theorem dX10_good_63 : decode cX10_good 63 = .ok (.iload_n 1, 1) := by decide +kernel
theorem dX10_good_64 : decode cX10_good 64 = .ok (.iconst 4, 1) := by decide +kernel
theorem dX10_good_65 : decode cX10_good 65 = .ok (.invokevirtual 187, 3) := by decide +kernel
theorem dX10_good_68 : decode cX10_good 68 = .ok (.ireturn, 1) := by decide +kernel
theorem dX10_good_69 : decode cX10_good 69 = .ok (.iconst 0, 1) := by decide +kernel
theorem dX10_good_70 : decode cX10_good 70 = .ok (.istore_n 3, 1) := by decide +kernel
theorem dX10_good_71 : decode cX10_good 71 = .ok (.iconst 0, 1) := by decide +kernel
theorem dX10_good_72 : decode cX10_good 72 = .ok (.istore 4, 2) := by decide +kernel
theorem dX10_good_74 : decode cX10_good 74 = .ok (.iload 4, 2) := by decide +kernel
theorem dX10_good_76 : decode cX10_good 76 = .ok (.aload_n 0, 1) := by decide +kernel
theorem dX10_good_77 : decode cX10_good 77 = .ok (.getfield 7, 3) := by decide +kernel
theorem dX10_good_80 : decode cX10_good 80 = .ok (.iconst 3, 1) := by decide +kernel
theorem dX10_good_81 : decode cX10_good 81 = .ok (.iaload, 1) := by decide +kernel
theorem dX10_good_82 : decode cX10_good 82 = .ok (.if_icmp .ge 34, 3) := by decide +kernel
theorem dX10_good_85 : decode cX10_good 85 = .ok (.iload_n 3, 1) := by decide +kernel
theorem dX10_good_86 : decode cX10_good 86 = .ok (.aload_n 0, 1) := by decide +kernel
theorem dX10_good_87 : decode cX10_good 87 = .ok (.iload 4, 2) := by decide +kernel
theorem dX10_good_89 : decode cX10_good 89 = .ok (.iconst 0, 1) := by decide +kernel
theorem dX10_good_90 : decode cX10_good 90 = .ok (.invokevirtual 190, 3) := by decide +kernel
theorem dX10_good_93 : decode cX10_good 93 = .ok (.iload_n 1, 1) := by decide +kernel
theorem dX10_good_94 : decode cX10_good 94 = .ok (.if_icmp .ne 13, 3) := by decide +kernel
theorem dX10_good_97 : decode cX10_good 97 = .ok (.aload_n 0, 1) := by decide +kernel
theorem dX10_good_98 : decode cX10_good 98 = .ok (.iload 4, 2) := by decide +kernel
theorem dX10_good_100 : decode cX10_good 100 = .ok (.iconst 2, 1) := by decide +kernel
theorem dX10_good_101 : decode cX10_good 101 = .ok (.invokevirtual 190, 3) := by decide +kernel
theorem dX10_good_104 : decode cX10_good 104 = .ok (.goto 4, 3) := by decide +kernel
theorem dX10_good_107 : decode cX10_good 107 = .ok (.iconst 0, 1) := by decide +kernel
theorem dX10_good_108 : decode cX10_good 108 = .ok (.iadd, 1) := by decide +kernel
theorem dX10_good_109 : decode cX10_good 109 = .ok (.istore_n 3, 1) := by decide +kernel
theorem dX10_good_110 : decode cX10_good 110 = .ok (.iinc 4 1, 3) := by decide +kernel
theorem dX10_good_113 : decode cX10_good 113 = .ok (.goto (-39), 3) := by decide +kernel
theorem dX10_good_116 : decode cX10_good 116 = .ok (.iload_n 3, 1) := by decide +kernel
theorem dX10_good_117 : decode cX10_good 117 = .ok (.ireturn, 1) := by decide +kernel
set_option maxRecDepth 20000 in
theorem ggX10_substitute_X10_isGood : GoodIn wsX10_substitute wsX10_isGood := goodIn_r _ [5, 6, 11, 12, 13, 14, 15, 16, 17, 18, 19, 20, 21, 22, 23, 24, 25, 26, 27, 28, 29] (by decide +kernel) (by decide +kernel)
set_option maxRecDepth 20000 in
theorem gX10_substitute_X10_isGood : GoodIn wsX10_substitute (wsV RX10 60 RX10 yX10_isGood wsX10_isGood) := goodIn_app (goodIn_of _ (by decide +kernel)) ggX10_substitute_X10_isGood
set_option maxRecDepth 20000 in
theorem ggX10_substitute_X10_ofGood : GoodIn wsX10_substitute wsX10_ofGood := goodIn_r _ [10, 6, 11, 12, 13, 14, 15, 16, 17, 18, 19, 20, 21, 22, 23, 24, 25, 26, 27, 28, 29] (by decide +kernel) (by decide +kernel)
set_option maxRecDepth 20000 in
theorem gX10_substitute_X10_ofGood : GoodIn wsX10_substitute (wsV RX10 64 RX10 yX10_ofGood wsX10_ofGood) := goodIn_app (goodIn_of _ (by decide +kernel)) ggX10_substitute_X10_ofGood
theorem dX10_substitute_0 : decode cX10_substitute 0 = .ok (.aload_n 0, 1) := by decide +kernel
theorem dX10_substitute_1 : decode cX10_substitute 1 = .ok (.iload_n 1, 1) := by decide +kernel
theorem dX10_substitute_2 : decode cX10_substitute 2 = .ok (.invokevirtual 60, 3) := by decide +kernel
theorem dX10_substitute_5 : decode cX10_substitute 5 = .ok (.ifCond .ne 5, 3) := by decide +kernel
theorem dX10_substitute_8 : decode cX10_substitute 8 = .ok (.iconst (-1), 1) := by decide +kernel
theorem dX10_substitute_9 : decode cX10_substitute 9 = .ok (.ireturn, 1) := by decide +kernel
theorem dX10_substitute_10 : decode cX10_substitute 10 = .ok (.iload_n 2, 1) := by decide +kernel
theorem dX10_substitute_11 : decode cX10_substitute 11 = .ok (.ifCond .ge 6, 3) := by decide +kernel
theorem dX10_substitute_14 : decode cX10_substitute 14 = .ok (.bipush (-2), 2) := by decide +kernel
theorem dX10_substitute_16 : decode cX10_substitute 16 = .ok (.ireturn, 1) := by decide +kernel
theorem dX10_substitute_17 : decode cX10_substitute 17 = .ok (.iload_n 2, 1) := by decide +kernel
theorem dX10_substitute_18 : decode cX10_substitute 18 = .ok (.aload_n 0, 1) := by decide +kernel
theorem dX10_substitute_19 : decode cX10_substitute 19 = .ok (.iload_n 1, 1) := by decide +kernel
theorem dX10_substitute_20 : decode cX10_substitute 20 = .ok (.iconst 2, 1) := by decide +kernel
theorem dX10_substitute_21 : decode cX10_substitute 21 = .ok (.invokevirtual 64, 3) := by decide +kernel
theorem dX10_substitute_24 : decode cX10_substitute 24 = .ok (.if_icmp .ge 14, 3) := by decide +kernel
theorem dX10_substitute_27 : decode cX10_substitute 27 = .ok (.aload_n 0, 1) := by decide +kernel
theorem dX10_substitute_28 : decode cX10_substitute 28 = .ok (.iload_n 1, 1) := by decide +kernel
theorem dX10_substitute_29 : decode cX10_substitute 29 = .ok (.iconst 3, 1) := by decide +kernel
theorem dX10_substitute_30 : decode cX10_substitute 30 = .ok (.iload_n 2, 1) := by decide +kernel
theorem dX10_substitute_31 : decode cX10_substitute 31 = .ok (.iadd, 1) := by decide +kernel
theorem dX10_substitute_32 : decode cX10_substitute 32 = .ok (.invokevirtual 64, 3) := by decide +kernel
theorem dX10_substitute_35 : decode cX10_substitute 35 = .ok (.goto 5, 3) := by decide +kernel
theorem dX10_substitute_38 : decode cX10_substitute 38 = .ok (.bipush (-5), 2) := by decide +kernel
theorem dX10_substitute_40 : decode cX10_substitute 40 = .ok (.ireturn, 1) := by decide +kernel
set_option maxRecDepth 20000 in
theorem ggX10_wasted_X10_ofBatch : GoodIn wsX10_wasted wsX10_ofBatch := goodIn_r _ [5, 6, 7, 8, 9, 10, 11, 12, 13, 14, 15, 16, 17, 18, 19, 20, 21, 22, 23, 24, 25] (by decide +kernel) (by decide +kernel)
set_option maxRecDepth 20000 in
theorem gX10_wasted_X10_ofBatch : GoodIn wsX10_wasted (wsV RX10 72 RX10 yX10_ofBatch wsX10_ofBatch) := goodIn_app (goodIn_of _ (by decide +kernel)) ggX10_wasted_X10_ofBatch
theorem dX10_wasted_0 : decode cX10_wasted 0 = .ok (.aload_n 0, 1) := by decide +kernel
theorem dX10_wasted_1 : decode cX10_wasted 1 = .ok (.iload_n 1, 1) := by decide +kernel
theorem dX10_wasted_2 : decode cX10_wasted 2 = .ok (.bipush 6, 2) := by decide +kernel
theorem dX10_wasted_4 : decode cX10_wasted 4 = .ok (.invokevirtual 72, 3) := by decide +kernel
theorem dX10_wasted_7 : decode cX10_wasted 7 = .ok (.aload_n 0, 1) := by decide +kernel
theorem dX10_wasted_8 : decode cX10_wasted 8 = .ok (.iload_n 1, 1) := by decide +kernel
theorem dX10_wasted_9 : decode cX10_wasted 9 = .ok (.bipush 7, 2) := by decide +kernel
theorem dX10_wasted_11 : decode cX10_wasted 11 = .ok (.invokevirtual 72, 3) := by decide +kernel
theorem dX10_wasted_14 : decode cX10_wasted 14 = .ok (.iadd, 1) := by decide +kernel
theorem dX10_wasted_15 : decode cX10_wasted 15 = .ok (.aload_n 0, 1) := by decide +kernel
theorem dX10_wasted_16 : decode cX10_wasted 16 = .ok (.iload_n 1, 1) := by decide +kernel
theorem dX10_wasted_17 : decode cX10_wasted 17 = .ok (.bipush 8, 2) := by decide +kernel
theorem dX10_wasted_19 : decode cX10_wasted 19 = .ok (.invokevirtual 72, 3) := by decide +kernel
theorem dX10_wasted_22 : decode cX10_wasted 22 = .ok (.iadd, 1) := by decide +kernel
theorem dX10_wasted_23 : decode cX10_wasted 23 = .ok (.ireturn, 1) := by decide +kernel
set_option maxRecDepth 20000 in
theorem ggX10_batch_X10_isBatch : GoodIn wsX10_batch wsX10_isBatch := goodIn_r _ [5, 6, 30, 31, 32, 33, 34, 35, 36, 37, 38, 39, 40, 41, 42, 43, 44, 45, 46, 47, 48] (by decide +kernel) (by decide +kernel)
set_option maxRecDepth 20000 in
theorem gX10_batch_X10_isBatch : GoodIn wsX10_batch (wsV RX10 136 RX10 yX10_isBatch wsX10_isBatch) := goodIn_app (goodIn_of _ (by decide +kernel)) ggX10_batch_X10_isBatch
set_option maxRecDepth 20000 in
theorem ggX10_batch_X10_in : GoodIn wsX10_batch wsX10_in := goodIn_r _ [9] (by decide +kernel) (by decide +kernel)
set_option maxRecDepth 20000 in
theorem gX10_batch_X10_in : GoodIn wsX10_batch (va_wsS RX10 56 yX10_in wsX10_in) := goodIn_app (goodIn_of _ (by decide +kernel)) ggX10_batch_X10_in
set_option maxRecDepth 20000 in
theorem ggX10_batch_X10_ofBatch : GoodIn wsX10_batch wsX10_ofBatch := goodIn_r _ [13, 6, 30, 31, 32, 33, 34, 35, 36, 37, 38, 39, 40, 41, 42, 43, 44, 45, 46, 47, 48] (by decide +kernel) (by decide +kernel)
set_option maxRecDepth 20000 in
theorem gX10_batch_X10_ofBatch : GoodIn wsX10_batch (wsV RX10 72 RX10 yX10_ofBatch wsX10_ofBatch) := goodIn_app (goodIn_of _ (by decide +kernel)) ggX10_batch_X10_ofBatch
set_option maxRecDepth 20000 in
theorem ggX10_batch_X10_wasted : GoodIn wsX10_batch wsX10_wasted := goodIn_r _ [17, 10, 11, 12, 4, 13, 6, 30, 31, 32, 33, 34, 35, 36, 37, 38, 39, 40, 41, 42, 43, 44, 45, 46, 47, 48] (by decide +kernel) (by decide +kernel)
set_option maxRecDepth 20000 in
theorem gX10_batch_X10_wasted : GoodIn wsX10_batch (wsV RX10 193 RX10 yX10_wasted wsX10_wasted) := goodIn_app (goodIn_of _ (by decide +kernel)) ggX10_batch_X10_wasted
set_option maxRecDepth 20000 in
theorem ggX10_batch_X10_stageOfBatch : GoodIn wsX10_batch wsX10_stageOfBatch := goodIn_r _ [21, 10, 11, 12, 4, 13, 6, 22, 23, 24, 25, 26, 27, 28, 29, 30, 31, 32, 33, 34, 35, 36, 37, 38, 39, 40, 41, 42, 43, 44, 45, 46, 47, 48] (by decide +kernel) (by decide +kernel)
set_option maxRecDepth 20000 in
theorem gX10_batch_X10_stageOfBatch : GoodIn wsX10_batch (wsV RX10 78 RX10 yX10_stageOfBatch wsX10_stageOfBatch) := goodIn_app (goodIn_of _ (by decide +kernel)) ggX10_batch_X10_stageOfBatch
theorem dX10_batch_0 : decode cX10_batch 0 = .ok (.aload_n 0, 1) := by decide +kernel
theorem dX10_batch_1 : decode cX10_batch 1 = .ok (.iload_n 1, 1) := by decide +kernel
theorem dX10_batch_2 : decode cX10_batch 2 = .ok (.invokevirtual 136, 3) := by decide +kernel
theorem dX10_batch_5 : decode cX10_batch 5 = .ok (.ifCond .ne 5, 3) := by decide +kernel
theorem dX10_batch_8 : decode cX10_batch 8 = .ok (.iconst (-1), 1) := by decide +kernel
theorem dX10_batch_9 : decode cX10_batch 9 = .ok (.ireturn, 1) := by decide +kernel
theorem dX10_batch_10 : decode cX10_batch 10 = .ok (.iload_n 2, 1) := by decide +kernel
theorem dX10_batch_11 : decode cX10_batch 11 = .ok (.iconst 0, 1) := by decide +kernel
theorem dX10_batch_12 : decode cX10_batch 12 = .ok (.bipush 11, 2) := by decide +kernel
theorem dX10_batch_14 : decode cX10_batch 14 = .ok (.invokestatic 56, 3) := by decide +kernel
theorem dX10_batch_17 : decode cX10_batch 17 = .ok (.ifCond .ne 6, 3) := by decide +kernel
theorem dX10_batch_20 : decode cX10_batch 20 = .ok (.bipush (-2), 2) := by decide +kernel
theorem dX10_batch_22 : decode cX10_batch 22 = .ok (.ireturn, 1) := by decide +kernel
theorem dX10_batch_23 : decode cX10_batch 23 = .ok (.iload_n 2, 1) := by decide +kernel
theorem dX10_batch_24 : decode cX10_batch 24 = .ok (.bipush 6, 2) := by decide +kernel
theorem dX10_batch_26 : decode cX10_batch 26 = .ok (.if_icmp .ge 10, 3) := by decide +kernel
theorem dX10_batch_29 : decode cX10_batch 29 = .ok (.aload_n 0, 1) := by decide +kernel
theorem dX10_batch_30 : decode cX10_batch 30 = .ok (.iload_n 1, 1) := by decide +kernel
theorem dX10_batch_31 : decode cX10_batch 31 = .ok (.iload_n 2, 1) := by decide +kernel
theorem dX10_batch_32 : decode cX10_batch 32 = .ok (.invokevirtual 72, 3) := by decide +kernel
theorem dX10_batch_35 : decode cX10_batch 35 = .ok (.ireturn, 1) := by decide +kernel
theorem dX10_batch_36 : decode cX10_batch 36 = .ok (.iload_n 2, 1) := by decide +kernel
theorem dX10_batch_37 : decode cX10_batch 37 = .ok (.bipush 6, 2) := by decide +kernel
theorem dX10_batch_39 : decode cX10_batch 39 = .ok (.if_icmp .ne 9, 3) := by decide +kernel
theorem dX10_batch_42 : decode cX10_batch 42 = .ok (.aload_n 0, 1) := by decide +kernel
theorem dX10_batch_43 : decode cX10_batch 43 = .ok (.iload_n 1, 1) := by decide +kernel
theorem dX10_batch_44 : decode cX10_batch 44 = .ok (.invokevirtual 193, 3) := by decide +kernel
theorem dX10_batch_47 : decode cX10_batch 47 = .ok (.ireturn, 1) := by decide +kernel
theorem dX10_batch_48 : decode cX10_batch 48 = .ok (.iload_n 2, 1) := by decide +kernel
theorem dX10_batch_49 : decode cX10_batch 49 = .ok (.bipush 10, 2) := by decide +kernel
theorem dX10_batch_51 : decode cX10_batch 51 = .ok (.if_icmp .ge 16, 3) := by decide +kernel
theorem dX10_batch_54 : decode cX10_batch 54 = .ok (.aload_n 0, 1) := by decide +kernel
theorem dX10_batch_55 : decode cX10_batch 55 = .ok (.iload_n 1, 1) := by decide +kernel
theorem dX10_batch_56 : decode cX10_batch 56 = .ok (.bipush 6, 2) := by decide +kernel
theorem dX10_batch_58 : decode cX10_batch 58 = .ok (.iload_n 2, 1) := by decide +kernel
theorem dX10_batch_59 : decode cX10_batch 59 = .ok (.iadd, 1) := by decide +kernel
theorem dX10_batch_60 : decode cX10_batch 60 = .ok (.bipush 7, 2) := by decide +kernel
theorem dX10_batch_62 : decode cX10_batch 62 = .ok (.isub, 1) := by decide +kernel
theorem dX10_batch_63 : decode cX10_batch 63 = .ok (.invokevirtual 72, 3) := by decide +kernel
theorem dX10_batch_66 : decode cX10_batch 66 = .ok (.ireturn, 1) := by decide +kernel
theorem dX10_batch_67 : decode cX10_batch 67 = .ok (.iload_n 2, 1) := by decide +kernel
theorem dX10_batch_68 : decode cX10_batch 68 = .ok (.bipush 10, 2) := by decide +kernel
theorem dX10_batch_70 : decode cX10_batch 70 = .ok (.if_icmp .ne 11, 3) := by decide +kernel
theorem dX10_batch_73 : decode cX10_batch 73 = .ok (.aload_n 0, 1) := by decide +kernel
theorem dX10_batch_74 : decode cX10_batch 74 = .ok (.iload_n 1, 1) := by decide +kernel
theorem dX10_batch_75 : decode cX10_batch 75 = .ok (.invokevirtual 78, 3) := by decide +kernel
theorem dX10_batch_78 : decode cX10_batch 78 = .ok (.goto 10, 3) := by decide +kernel
theorem dX10_batch_81 : decode cX10_batch 81 = .ok (.aload_n 0, 1) := by decide +kernel
theorem dX10_batch_82 : decode cX10_batch 82 = .ok (.iload_n 1, 1) := by decide +kernel
theorem dX10_batch_83 : decode cX10_batch 83 = .ok (.bipush 9, 2) := by decide +kernel
theorem dX10_batch_85 : decode cX10_batch 85 = .ok (.invokevirtual 72, 3) := by decide +kernel
theorem dX10_batch_88 : decode cX10_batch 88 = .ok (.ireturn, 1) := by decide +kernel
set_option maxRecDepth 20000 in
theorem ggX10_unitPrice_X10_isBatch : GoodIn wsX10_unitPrice wsX10_isBatch := goodIn_r _ [6, 7, 34, 35, 36, 37, 38, 39, 40, 41, 42, 43, 44, 45, 46, 47, 48, 49, 50, 51, 52] (by decide +kernel) (by decide +kernel)
set_option maxRecDepth 20000 in
theorem gX10_unitPrice_X10_isBatch : GoodIn wsX10_unitPrice (wsV RX10 136 RX10 yX10_isBatch wsX10_isBatch) := goodIn_app (goodIn_of _ (by decide +kernel)) ggX10_unitPrice_X10_isBatch
set_option maxRecDepth 20000 in
theorem ggX10_unitPrice_X10_priceOf : GoodIn wsX10_unitPrice wsX10_priceOf := goodIn_r _ [11, 7, 12, 13, 14, 15, 5, 16, 17, 18, 19, 20, 21, 22, 23, 24, 25, 26, 27, 28, 29, 30, 31, 32, 33, 34, 35, 36, 37, 38, 39, 40, 41, 42, 43, 44, 45, 46, 47, 48, 49, 50, 51, 52] (by decide +kernel) (by decide +kernel)
set_option maxRecDepth 20000 in
theorem gX10_unitPrice_X10_priceOf : GoodIn wsX10_unitPrice (wsV RX10 87 RX10 yX10_priceOf wsX10_priceOf) := goodIn_app (goodIn_of _ (by decide +kernel)) ggX10_unitPrice_X10_priceOf
theorem dX10_unitPrice_0 : decode cX10_unitPrice 0 = .ok (.aload_n 0, 1) := by decide +kernel
theorem dX10_unitPrice_1 : decode cX10_unitPrice 1 = .ok (.iload_n 1, 1) := by decide +kernel
theorem dX10_unitPrice_2 : decode cX10_unitPrice 2 = .ok (.invokevirtual 136, 3) := by decide +kernel
theorem dX10_unitPrice_5 : decode cX10_unitPrice 5 = .ok (.ifCond .eq 11, 3) := by decide +kernel
theorem dX10_unitPrice_8 : decode cX10_unitPrice 8 = .ok (.aload_n 0, 1) := by decide +kernel
theorem dX10_unitPrice_9 : decode cX10_unitPrice 9 = .ok (.iload_n 1, 1) := by decide +kernel
theorem dX10_unitPrice_10 : decode cX10_unitPrice 10 = .ok (.invokevirtual 87, 3) := by decide +kernel
theorem dX10_unitPrice_13 : decode cX10_unitPrice 13 = .ok (.goto 5, 3) := by decide +kernel
theorem dX10_unitPrice_16 : decode cX10_unitPrice 16 = .ok (.ldc 196, 2) := by decide +kernel
theorem dX10_unitPrice_18 : decode cX10_unitPrice 18 = .ok (.freturn, 1) := by decide +kernel
set_option maxRecDepth 20000 in
theorem ggX10_markdown_X10_in : GoodIn wsX10_markdown wsX10_in := goodIn_r _ [6] (by decide +kernel) (by decide +kernel)
set_option maxRecDepth 20000 in
theorem gX10_markdown_X10_in : GoodIn wsX10_markdown (va_wsS RX10 56 yX10_in wsX10_in) := goodIn_app (goodIn_of _ (by decide +kernel)) ggX10_markdown_X10_in
set_option maxRecDepth 20000 in
theorem ggX10_markdown_X10_floatOf : GoodIn wsX10_markdown wsX10_floatOf := goodIn_r _ [9, 10, 11] (by decide +kernel) (by decide +kernel)
set_option maxRecDepth 20000 in
theorem gX10_markdown_X10_floatOf : GoodIn wsX10_markdown (va_wsS RX10 82 yX10_floatOf wsX10_floatOf) := goodIn_app (goodIn_of _ (by decide +kernel)) ggX10_markdown_X10_floatOf
theorem dX10_markdown_0 : decode cX10_markdown 0 = .ok (.iload_n 1, 1) := by decide +kernel
theorem dX10_markdown_1 : decode cX10_markdown 1 = .ok (.iconst 0, 1) := by decide +kernel
theorem dX10_markdown_2 : decode cX10_markdown 2 = .ok (.iconst 3, 1) := by decide +kernel
theorem dX10_markdown_3 : decode cX10_markdown 3 = .ok (.invokestatic 56, 3) := by decide +kernel
theorem dX10_markdown_6 : decode cX10_markdown 6 = .ok (.ifCond .eq 19, 3) := by decide +kernel
theorem dX10_markdown_9 : decode cX10_markdown 9 = .ok (.aload_n 0, 1) := by decide +kernel
theorem dX10_markdown_10 : decode cX10_markdown 10 = .ok (.getfield 7, 3) := by decide +kernel
theorem dX10_markdown_13 : decode cX10_markdown 13 = .ok (.sipush 958, 3) := by decide +kernel
theorem dX10_markdown_16 : decode cX10_markdown 16 = .ok (.iload_n 1, 1) := by decide +kernel
theorem dX10_markdown_17 : decode cX10_markdown 17 = .ok (.iadd, 1) := by decide +kernel
theorem dX10_markdown_18 : decode cX10_markdown 18 = .ok (.iaload, 1) := by decide +kernel
theorem dX10_markdown_19 : decode cX10_markdown 19 = .ok (.invokestatic 82, 3) := by decide +kernel
theorem dX10_markdown_22 : decode cX10_markdown 22 = .ok (.goto 5, 3) := by decide +kernel
theorem dX10_markdown_25 : decode cX10_markdown 25 = .ok (.ldc 196, 2) := by decide +kernel
theorem dX10_markdown_27 : decode cX10_markdown 27 = .ok (.freturn, 1) := by decide +kernel
set_option maxRecDepth 20000 in
theorem ggX10_stage_X10_in : GoodIn wsX10_stage wsX10_in := goodIn_r _ [5] (by decide +kernel) (by decide +kernel)
set_option maxRecDepth 20000 in
theorem gX10_stage_X10_in : GoodIn wsX10_stage (va_wsS RX10 56 yX10_in wsX10_in) := goodIn_app (goodIn_of _ (by decide +kernel)) ggX10_stage_X10_in
set_option maxRecDepth 20000 in
theorem ggX10_stage_X10_ofBatch : GoodIn wsX10_stage wsX10_ofBatch := goodIn_r _ [9, 1, 22, 23, 24, 25, 26, 27, 28, 29, 30, 31, 32, 33, 34, 35, 36, 37, 38, 39, 40] (by decide +kernel) (by decide +kernel)
set_option maxRecDepth 20000 in
theorem gX10_stage_X10_ofBatch : GoodIn wsX10_stage (wsV RX10 72 RX10 yX10_ofBatch wsX10_ofBatch) := goodIn_app (goodIn_of _ (by decide +kernel)) ggX10_stage_X10_ofBatch
set_option maxRecDepth 20000 in
theorem ggX10_stage_X10_stageOfBatch : GoodIn wsX10_stage wsX10_stageOfBatch := goodIn_r _ [13, 6, 7, 8, 4, 9, 1, 14, 15, 16, 17, 18, 19, 20, 21, 22, 23, 24, 25, 26, 27, 28, 29, 30, 31, 32, 33, 34, 35, 36, 37, 38, 39, 40] (by decide +kernel) (by decide +kernel)
set_option maxRecDepth 20000 in
theorem gX10_stage_X10_stageOfBatch : GoodIn wsX10_stage (wsV RX10 78 RX10 yX10_stageOfBatch wsX10_stageOfBatch) := goodIn_app (goodIn_of _ (by decide +kernel)) ggX10_stage_X10_stageOfBatch
theorem dX10_stage_0 : decode cX10_stage 0 = .ok (.iload_n 1, 1) := by decide +kernel
theorem dX10_stage_1 : decode cX10_stage 1 = .ok (.iconst 0, 1) := by decide +kernel
theorem dX10_stage_2 : decode cX10_stage 2 = .ok (.iconst 3, 1) := by decide +kernel
theorem dX10_stage_3 : decode cX10_stage 3 = .ok (.invokestatic 56, 3) := by decide +kernel
theorem dX10_stage_6 : decode cX10_stage 6 = .ok (.ifCond .ne 5, 3) := by decide +kernel
theorem dX10_stage_9 : decode cX10_stage 9 = .ok (.iconst (-1), 1) := by decide +kernel
theorem dX10_stage_10 : decode cX10_stage 10 = .ok (.ireturn, 1) := by decide +kernel
theorem dX10_stage_11 : decode cX10_stage 11 = .ok (.iload_n 2, 1) := by decide +kernel
theorem dX10_stage_12 : decode cX10_stage 12 = .ok (.iconst 0, 1) := by decide +kernel
theorem dX10_stage_13 : decode cX10_stage 13 = .ok (.iconst 2, 1) := by decide +kernel
theorem dX10_stage_14 : decode cX10_stage 14 = .ok (.invokestatic 56, 3) := by decide +kernel
theorem dX10_stage_17 : decode cX10_stage 17 = .ok (.ifCond .ne 6, 3) := by decide +kernel
theorem dX10_stage_20 : decode cX10_stage 20 = .ok (.bipush (-2), 2) := by decide +kernel
theorem dX10_stage_22 : decode cX10_stage 22 = .ok (.ireturn, 1) := by decide +kernel
theorem dX10_stage_23 : decode cX10_stage 23 = .ok (.iconst 0, 1) := by decide +kernel
theorem dX10_stage_24 : decode cX10_stage 24 = .ok (.istore_n 3, 1) := by decide +kernel
theorem dX10_stage_25 : decode cX10_stage 25 = .ok (.iconst 0, 1) := by decide +kernel
theorem dX10_stage_26 : decode cX10_stage 26 = .ok (.istore 4, 2) := by decide +kernel
theorem dX10_stage_28 : decode cX10_stage 28 = .ok (.iconst 0, 1) := by decide +kernel
theorem dX10_stage_29 : decode cX10_stage 29 = .ok (.istore 5, 2) := by decide +kernel
theorem dX10_stage_31 : decode cX10_stage 31 = .ok (.iload 5, 2) := by decide +kernel
theorem dX10_stage_33 : decode cX10_stage 33 = .ok (.aload_n 0, 1) := by decide +kernel
theorem dX10_stage_34 : decode cX10_stage 34 = .ok (.getfield 7, 3) := by decide +kernel
theorem dX10_stage_37 : decode cX10_stage 37 = .ok (.iconst 2, 1) := by decide +kernel
theorem dX10_stage_38 : decode cX10_stage 38 = .ok (.iaload, 1) := by decide +kernel
theorem dX10_stage_39 : decode cX10_stage 39 = .ok (.if_icmp .ge 70, 3) := by decide +kernel
theorem dX10_stage_42 : decode cX10_stage 42 = .ok (.aload_n 0, 1) := by decide +kernel
theorem dX10_stage_43 : decode cX10_stage 43 = .ok (.iload 5, 2) := by decide +kernel
theorem dX10_stage_45 : decode cX10_stage 45 = .ok (.iconst 3, 1) := by decide +kernel
theorem dX10_stage_46 : decode cX10_stage 46 = .ok (.invokevirtual 72, 3) := by decide +kernel
theorem dX10_stage_49 : decode cX10_stage 49 = .ok (.ifCond .le 17, 3) := by decide +kernel
theorem dX10_stage_52 : decode cX10_stage 52 = .ok (.aload_n 0, 1) := by decide +kernel
theorem dX10_stage_53 : decode cX10_stage 53 = .ok (.iload 5, 2) := by decide +kernel
theorem dX10_stage_55 : decode cX10_stage 55 = .ok (.invokevirtual 78, 3) := by decide +kernel
theorem dX10_stage_58 : decode cX10_stage 58 = .ok (.iload_n 1, 1) := by decide +kernel
theorem dX10_stage_59 : decode cX10_stage 59 = .ok (.if_icmp .ne 7, 3) := by decide +kernel
theorem dX10_stage_62 : decode cX10_stage 62 = .ok (.iconst 1, 1) := by decide +kernel
theorem dX10_stage_63 : decode cX10_stage 63 = .ok (.goto 4, 3) := by decide +kernel
theorem dX10_stage_66 : decode cX10_stage 66 = .ok (.iconst 0, 1) := by decide +kernel
theorem dX10_stage_67 : decode cX10_stage 67 = .ok (.istore 6, 2) := by decide +kernel
theorem dX10_stage_69 : decode cX10_stage 69 = .ok (.iload_n 3, 1) := by decide +kernel
theorem dX10_stage_70 : decode cX10_stage 70 = .ok (.iload 6, 2) := by decide +kernel
theorem dX10_stage_72 : decode cX10_stage 72 = .ok (.ifCond .eq 7, 3) := by decide +kernel
theorem dX10_stage_75 : decode cX10_stage 75 = .ok (.iconst 1, 1) := by decide +kernel
theorem dX10_stage_76 : decode cX10_stage 76 = .ok (.goto 4, 3) := by decide +kernel
theorem dX10_stage_79 : decode cX10_stage 79 = .ok (.iconst 0, 1) := by decide +kernel
theorem dX10_stage_80 : decode cX10_stage 80 = .ok (.iadd, 1) := by decide +kernel
theorem dX10_stage_81 : decode cX10_stage 81 = .ok (.istore_n 3, 1) := by decide +kernel
theorem dX10_stage_82 : decode cX10_stage 82 = .ok (.iload 4, 2) := by decide +kernel
theorem dX10_stage_84 : decode cX10_stage 84 = .ok (.iload 6, 2) := by decide +kernel
theorem dX10_stage_86 : decode cX10_stage 86 = .ok (.ifCond .eq 13, 3) := by decide +kernel
theorem dX10_stage_89 : decode cX10_stage 89 = .ok (.aload_n 0, 1) := by decide +kernel
theorem dX10_stage_90 : decode cX10_stage 90 = .ok (.iload 5, 2) := by decide +kernel
theorem dX10_stage_92 : decode cX10_stage 92 = .ok (.iconst 3, 1) := by decide +kernel
theorem dX10_stage_93 : decode cX10_stage 93 = .ok (.invokevirtual 72, 3) := by decide +kernel
theorem dX10_stage_96 : decode cX10_stage 96 = .ok (.goto 4, 3) := by decide +kernel
theorem dX10_stage_99 : decode cX10_stage 99 = .ok (.iconst 0, 1) := by decide +kernel
theorem dX10_stage_100 : decode cX10_stage 100 = .ok (.iadd, 1) := by decide +kernel
theorem dX10_stage_101 : decode cX10_stage 101 = .ok (.istore 4, 2) := by decide +kernel
theorem dX10_stage_103 : decode cX10_stage 103 = .ok (.iinc 5 1, 3) := by decide +kernel
theorem dX10_stage_106 : decode cX10_stage 106 = .ok (.goto (-75), 3) := by decide +kernel
theorem dX10_stage_109 : decode cX10_stage 109 = .ok (.iload_n 2, 1) := by decide +kernel
theorem dX10_stage_110 : decode cX10_stage 110 = .ok (.ifCond .ne 16, 3) := by decide +kernel
theorem dX10_stage_113 : decode cX10_stage 113 = .ok (.aload_n 0, 1) := by decide +kernel
theorem dX10_stage_114 : decode cX10_stage 114 = .ok (.getfield 7, 3) := by decide +kernel
theorem dX10_stage_117 : decode cX10_stage 117 = .ok (.sipush 954, 3) := by decide +kernel
theorem dX10_stage_120 : decode cX10_stage 120 = .ok (.iload_n 1, 1) := by decide +kernel
theorem dX10_stage_121 : decode cX10_stage 121 = .ok (.iadd, 1) := by decide +kernel
theorem dX10_stage_122 : decode cX10_stage 122 = .ok (.iaload, 1) := by decide +kernel
theorem dX10_stage_123 : decode cX10_stage 123 = .ok (.goto 14, 3) := by decide +kernel
theorem dX10_stage_126 : decode cX10_stage 126 = .ok (.iload_n 2, 1) := by decide +kernel
theorem dX10_stage_127 : decode cX10_stage 127 = .ok (.iconst 1, 1) := by decide +kernel
theorem dX10_stage_128 : decode cX10_stage 128 = .ok (.if_icmp .ne 7, 3) := by decide +kernel
theorem dX10_stage_131 : decode cX10_stage 131 = .ok (.iload_n 3, 1) := by decide +kernel
theorem dX10_stage_132 : decode cX10_stage 132 = .ok (.goto 5, 3) := by decide +kernel
theorem dX10_stage_135 : decode cX10_stage 135 = .ok (.iload 4, 2) := by decide +kernel
theorem dX10_stage_137 : decode cX10_stage 137 = .ok (.ireturn, 1) := by decide +kernel
set_option maxRecDepth 20000 in
theorem ggX10_orderTold_X10_isOrder : GoodIn wsX10_orderTold wsX10_isOrder := goodIn_r _ [5, 6, 14, 15, 16, 17, 18, 19, 20, 21, 22, 23, 24, 25, 26, 27, 28, 29, 30, 31, 32] (by decide +kernel) (by decide +kernel)
set_option maxRecDepth 20000 in
theorem gX10_orderTold_X10_isOrder : GoodIn wsX10_orderTold (wsV RX10 197 RX10 yX10_isOrder wsX10_isOrder) := goodIn_app (goodIn_of _ (by decide +kernel)) ggX10_orderTold_X10_isOrder
set_option maxRecDepth 20000 in
theorem ggX10_orderTold_X10_in : GoodIn wsX10_orderTold wsX10_in := goodIn_r _ [9] (by decide +kernel) (by decide +kernel)
set_option maxRecDepth 20000 in
theorem gX10_orderTold_X10_in : GoodIn wsX10_orderTold (va_wsS RX10 56 yX10_in wsX10_in) := goodIn_app (goodIn_of _ (by decide +kernel)) ggX10_orderTold_X10_in
set_option maxRecDepth 20000 in
theorem ggX10_orderTold_X10_ofOrder : GoodIn wsX10_orderTold wsX10_ofOrder := goodIn_r _ [13, 6, 14, 15, 16, 17, 18, 19, 20, 21, 22, 23, 24, 25, 26, 27, 28, 29, 30, 31, 32] (by decide +kernel) (by decide +kernel)
set_option maxRecDepth 20000 in
theorem gX10_orderTold_X10_ofOrder : GoodIn wsX10_orderTold (wsV RX10 190 RX10 yX10_ofOrder wsX10_ofOrder) := goodIn_app (goodIn_of _ (by decide +kernel)) ggX10_orderTold_X10_ofOrder
theorem dX10_orderTold_0 : decode cX10_orderTold 0 = .ok (.aload_n 0, 1) := by decide +kernel
theorem dX10_orderTold_1 : decode cX10_orderTold 1 = .ok (.iload_n 1, 1) := by decide +kernel
theorem dX10_orderTold_2 : decode cX10_orderTold 2 = .ok (.invokevirtual 197, 3) := by decide +kernel
theorem dX10_orderTold_5 : decode cX10_orderTold 5 = .ok (.ifCond .ne 5, 3) := by decide +kernel
theorem dX10_orderTold_8 : decode cX10_orderTold 8 = .ok (.iconst (-1), 1) := by decide +kernel
theorem dX10_orderTold_9 : decode cX10_orderTold 9 = .ok (.ireturn, 1) := by decide +kernel
theorem dX10_orderTold_10 : decode cX10_orderTold 10 = .ok (.iload_n 2, 1) := by decide +kernel
theorem dX10_orderTold_11 : decode cX10_orderTold 11 = .ok (.iconst 0, 1) := by decide +kernel
theorem dX10_orderTold_12 : decode cX10_orderTold 12 = .ok (.bipush 8, 2) := by decide +kernel
theorem dX10_orderTold_14 : decode cX10_orderTold 14 = .ok (.invokestatic 56, 3) := by decide +kernel
theorem dX10_orderTold_17 : decode cX10_orderTold 17 = .ok (.ifCond .ne 6, 3) := by decide +kernel
theorem dX10_orderTold_20 : decode cX10_orderTold 20 = .ok (.bipush (-2), 2) := by decide +kernel
theorem dX10_orderTold_22 : decode cX10_orderTold 22 = .ok (.ireturn, 1) := by decide +kernel
theorem dX10_orderTold_23 : decode cX10_orderTold 23 = .ok (.iload_n 2, 1) := by decide +kernel
theorem dX10_orderTold_24 : decode cX10_orderTold 24 = .ok (.bipush 6, 2) := by decide +kernel
theorem dX10_orderTold_26 : decode cX10_orderTold 26 = .ok (.if_icmp .ge 10, 3) := by decide +kernel
theorem dX10_orderTold_29 : decode cX10_orderTold 29 = .ok (.aload_n 0, 1) := by decide +kernel
theorem dX10_orderTold_30 : decode cX10_orderTold 30 = .ok (.iload_n 1, 1) := by decide +kernel
theorem dX10_orderTold_31 : decode cX10_orderTold 31 = .ok (.iload_n 2, 1) := by decide +kernel
theorem dX10_orderTold_32 : decode cX10_orderTold 32 = .ok (.invokevirtual 190, 3) := by decide +kernel
theorem dX10_orderTold_35 : decode cX10_orderTold 35 = .ok (.ireturn, 1) := by decide +kernel
theorem dX10_orderTold_36 : decode cX10_orderTold 36 = .ok (.aload_n 0, 1) := by decide +kernel
theorem dX10_orderTold_37 : decode cX10_orderTold 37 = .ok (.iload_n 1, 1) := by decide +kernel
theorem dX10_orderTold_38 : decode cX10_orderTold 38 = .ok (.iload_n 2, 1) := by decide +kernel
theorem dX10_orderTold_39 : decode cX10_orderTold 39 = .ok (.bipush 6, 2) := by decide +kernel
theorem dX10_orderTold_41 : decode cX10_orderTold 41 = .ok (.if_icmp .ne 8, 3) := by decide +kernel
theorem dX10_orderTold_44 : decode cX10_orderTold 44 = .ok (.bipush 9, 2) := by decide +kernel
theorem dX10_orderTold_46 : decode cX10_orderTold 46 = .ok (.goto 16, 3) := by decide +kernel
theorem dX10_orderTold_49 : decode cX10_orderTold 49 = .ok (.iload_n 2, 1) := by decide +kernel
theorem dX10_orderTold_50 : decode cX10_orderTold 50 = .ok (.bipush 7, 2) := by decide +kernel
theorem dX10_orderTold_52 : decode cX10_orderTold 52 = .ok (.if_icmp .ne 8, 3) := by decide +kernel
theorem dX10_orderTold_55 : decode cX10_orderTold 55 = .ok (.bipush 6, 2) := by decide +kernel
theorem dX10_orderTold_57 : decode cX10_orderTold 57 = .ok (.goto 5, 3) := by decide +kernel
theorem dX10_orderTold_60 : decode cX10_orderTold 60 = .ok (.bipush 7, 2) := by decide +kernel
theorem dX10_orderTold_62 : decode cX10_orderTold 62 = .ok (.invokevirtual 190, 3) := by decide +kernel
theorem dX10_orderTold_65 : decode cX10_orderTold 65 = .ok (.ireturn, 1) := by decide +kernel
set_option maxRecDepth 20000 in
theorem ggX10_taken_X10_isOrder : GoodIn wsX10_taken wsX10_isOrder := goodIn_r _ [6, 1, 14, 15, 16, 17, 18, 19, 20, 21, 22, 23, 24, 25, 26, 27, 28, 29, 30, 31, 32] (by decide +kernel) (by decide +kernel)
set_option maxRecDepth 20000 in
theorem gX10_taken_X10_isOrder : GoodIn wsX10_taken (wsV RX10 197 RX10 yX10_isOrder wsX10_isOrder) := goodIn_app (goodIn_of _ (by decide +kernel)) ggX10_taken_X10_isOrder
set_option maxRecDepth 20000 in
theorem ggX10_taken_X10_in : GoodIn wsX10_taken wsX10_in := goodIn_r _ [9] (by decide +kernel) (by decide +kernel)
set_option maxRecDepth 20000 in
theorem gX10_taken_X10_in : GoodIn wsX10_taken (va_wsS RX10 56 yX10_in wsX10_in) := goodIn_app (goodIn_of _ (by decide +kernel)) ggX10_taken_X10_in
set_option maxRecDepth 20000 in
theorem ggX10_taken_X10_ofOrder : GoodIn wsX10_taken wsX10_ofOrder := goodIn_r _ [13, 1, 14, 15, 16, 17, 18, 19, 20, 21, 22, 23, 24, 25, 26, 27, 28, 29, 30, 31, 32] (by decide +kernel) (by decide +kernel)
set_option maxRecDepth 20000 in
theorem gX10_taken_X10_ofOrder : GoodIn wsX10_taken (wsV RX10 190 RX10 yX10_ofOrder wsX10_ofOrder) := goodIn_app (goodIn_of _ (by decide +kernel)) ggX10_taken_X10_ofOrder
theorem dX10_taken_0 : decode cX10_taken 0 = .ok (.aload_n 0, 1) := by decide +kernel
theorem dX10_taken_1 : decode cX10_taken 1 = .ok (.iload_n 1, 1) := by decide +kernel
theorem dX10_taken_2 : decode cX10_taken 2 = .ok (.invokevirtual 197, 3) := by decide +kernel
theorem dX10_taken_5 : decode cX10_taken 5 = .ok (.ifCond .ne 5, 3) := by decide +kernel
theorem dX10_taken_8 : decode cX10_taken 8 = .ok (.iconst (-1), 1) := by decide +kernel
theorem dX10_taken_9 : decode cX10_taken 9 = .ok (.ireturn, 1) := by decide +kernel
theorem dX10_taken_10 : decode cX10_taken 10 = .ok (.iload_n 2, 1) := by decide +kernel
theorem dX10_taken_11 : decode cX10_taken 11 = .ok (.ifCond .lt 12, 3) := by decide +kernel
theorem dX10_taken_14 : decode cX10_taken 14 = .ok (.iload_n 3, 1) := by decide +kernel
theorem dX10_taken_15 : decode cX10_taken 15 = .ok (.iconst 0, 1) := by decide +kernel
theorem dX10_taken_16 : decode cX10_taken 16 = .ok (.iconst 1, 1) := by decide +kernel
theorem dX10_taken_17 : decode cX10_taken 17 = .ok (.invokestatic 56, 3) := by decide +kernel
theorem dX10_taken_20 : decode cX10_taken 20 = .ok (.ifCond .ne 6, 3) := by decide +kernel
theorem dX10_taken_23 : decode cX10_taken 23 = .ok (.bipush (-2), 2) := by decide +kernel
theorem dX10_taken_25 : decode cX10_taken 25 = .ok (.ireturn, 1) := by decide +kernel
theorem dX10_taken_26 : decode cX10_taken 26 = .ok (.iload_n 2, 1) := by decide +kernel
theorem dX10_taken_27 : decode cX10_taken 27 = .ok (.aload_n 0, 1) := by decide +kernel
theorem dX10_taken_28 : decode cX10_taken 28 = .ok (.iload_n 1, 1) := by decide +kernel
theorem dX10_taken_29 : decode cX10_taken 29 = .ok (.bipush 9, 2) := by decide +kernel
theorem dX10_taken_31 : decode cX10_taken 31 = .ok (.invokevirtual 190, 3) := by decide +kernel
theorem dX10_taken_34 : decode cX10_taken 34 = .ok (.if_icmp .lt 6, 3) := by decide +kernel
theorem dX10_taken_37 : decode cX10_taken 37 = .ok (.bipush (-5), 2) := by decide +kernel
theorem dX10_taken_39 : decode cX10_taken 39 = .ok (.ireturn, 1) := by decide +kernel
theorem dX10_taken_40 : decode cX10_taken 40 = .ok (.aload_n 0, 1) := by decide +kernel
theorem dX10_taken_41 : decode cX10_taken 41 = .ok (.getfield 7, 3) := by decide +kernel
theorem dX10_taken_44 : decode cX10_taken 44 = .ok (.sipush 794, 3) := by decide +kernel
theorem dX10_taken_47 : decode cX10_taken 47 = .ok (.iconst 2, 1) := by decide +kernel
theorem dX10_taken_48 : decode cX10_taken 48 = .ok (.aload_n 0, 1) := by decide +kernel
theorem dX10_taken_49 : decode cX10_taken 49 = .ok (.iload_n 1, 1) := by decide +kernel
theorem dX10_taken_50 : decode cX10_taken 50 = .ok (.bipush 8, 2) := by decide +kernel
theorem dX10_taken_52 : decode cX10_taken 52 = .ok (.invokevirtual 190, 3) := by decide +kernel
theorem dX10_taken_55 : decode cX10_taken 55 = .ok (.iload_n 2, 1) := by decide +kernel
theorem dX10_taken_56 : decode cX10_taken 56 = .ok (.iadd, 1) := by decide +kernel
theorem dX10_taken_57 : decode cX10_taken 57 = .ok (.imul, 1) := by decide +kernel
theorem dX10_taken_58 : decode cX10_taken 58 = .ok (.iadd, 1) := by decide +kernel
theorem dX10_taken_59 : decode cX10_taken 59 = .ok (.iload_n 3, 1) := by decide +kernel
theorem dX10_taken_60 : decode cX10_taken 60 = .ok (.iadd, 1) := by decide +kernel
theorem dX10_taken_61 : decode cX10_taken 61 = .ok (.iaload, 1) := by decide +kernel
theorem dX10_taken_62 : decode cX10_taken 62 = .ok (.ireturn, 1) := by decide +kernel
set_option maxRecDepth 20000 in
theorem ggX10_event_X10_in : GoodIn wsX10_event wsX10_in := goodIn_r _ [5] (by decide +kernel) (by decide +kernel)
set_option maxRecDepth 20000 in
theorem gX10_event_X10_in : GoodIn wsX10_event (va_wsS RX10 56 yX10_in wsX10_in) := goodIn_app (goodIn_of _ (by decide +kernel)) ggX10_event_X10_in
theorem dX10_event_0 : decode cX10_event 0 = .ok (.iload_n 1, 1) := by decide +kernel
theorem dX10_event_1 : decode cX10_event 1 = .ok (.ifCond .lt 12, 3) := by decide +kernel
theorem dX10_event_4 : decode cX10_event 4 = .ok (.iload_n 2, 1) := by decide +kernel
theorem dX10_event_5 : decode cX10_event 5 = .ok (.iconst 0, 1) := by decide +kernel
theorem dX10_event_6 : decode cX10_event 6 = .ok (.iconst 3, 1) := by decide +kernel
theorem dX10_event_7 : decode cX10_event 7 = .ok (.invokestatic 56, 3) := by decide +kernel
theorem dX10_event_10 : decode cX10_event 10 = .ok (.ifCond .ne 6, 3) := by decide +kernel
theorem dX10_event_13 : decode cX10_event 13 = .ok (.bipush (-2), 2) := by decide +kernel
theorem dX10_event_15 : decode cX10_event 15 = .ok (.ireturn, 1) := by decide +kernel
theorem dX10_event_16 : decode cX10_event 16 = .ok (.iload_n 1, 1) := by decide +kernel
theorem dX10_event_17 : decode cX10_event 17 = .ok (.aload_n 0, 1) := by decide +kernel
theorem dX10_event_18 : decode cX10_event 18 = .ok (.getfield 7, 3) := by decide +kernel
theorem dX10_event_21 : decode cX10_event 21 = .ok (.bipush 9, 2) := by decide +kernel
theorem dX10_event_23 : decode cX10_event 23 = .ok (.iaload, 1) := by decide +kernel
theorem dX10_event_24 : decode cX10_event 24 = .ok (.if_icmp .ge 20, 3) := by decide +kernel
theorem dX10_event_27 : decode cX10_event 27 = .ok (.aload_n 0, 1) := by decide +kernel
theorem dX10_event_28 : decode cX10_event 28 = .ok (.getfield 7, 3) := by decide +kernel
theorem dX10_event_31 : decode cX10_event 31 = .ok (.sipush 962, 3) := by decide +kernel
theorem dX10_event_34 : decode cX10_event 34 = .ok (.iconst 4, 1) := by decide +kernel
theorem dX10_event_35 : decode cX10_event 35 = .ok (.iload_n 1, 1) := by decide +kernel
theorem dX10_event_36 : decode cX10_event 36 = .ok (.imul, 1) := by decide +kernel
theorem dX10_event_37 : decode cX10_event 37 = .ok (.iadd, 1) := by decide +kernel
theorem dX10_event_38 : decode cX10_event 38 = .ok (.iload_n 2, 1) := by decide +kernel
theorem dX10_event_39 : decode cX10_event 39 = .ok (.iadd, 1) := by decide +kernel
theorem dX10_event_40 : decode cX10_event 40 = .ok (.iaload, 1) := by decide +kernel
theorem dX10_event_41 : decode cX10_event 41 = .ok (.goto 5, 3) := by decide +kernel
theorem dX10_event_44 : decode cX10_event 44 = .ok (.bipush (-5), 2) := by decide +kernel
theorem dX10_event_46 : decode cX10_event 46 = .ok (.ireturn, 1) := by decide +kernel
set_option maxRecDepth 20000 in
theorem ggX10_takes_X10_isBatch : GoodIn wsX10_takes wsX10_isBatch := goodIn_r _ [5, 6, 14, 15, 16, 17, 18, 19, 20, 21, 22, 23, 24, 25, 26, 27, 28, 29, 30, 31, 32] (by decide +kernel) (by decide +kernel)
set_option maxRecDepth 20000 in
theorem gX10_takes_X10_isBatch : GoodIn wsX10_takes (wsV RX10 136 RX10 yX10_isBatch wsX10_isBatch) := goodIn_app (goodIn_of _ (by decide +kernel)) ggX10_takes_X10_isBatch
set_option maxRecDepth 20000 in
theorem ggX10_takes_X10_isGood : GoodIn wsX10_takes wsX10_isGood := goodIn_r _ [10, 6, 14, 15, 16, 17, 18, 19, 20, 21, 22, 23, 24, 25, 26, 27, 28, 29, 30, 31, 32] (by decide +kernel) (by decide +kernel)
set_option maxRecDepth 20000 in
theorem gX10_takes_X10_isGood : GoodIn wsX10_takes (wsV RX10 60 RX10 yX10_isGood wsX10_isGood) := goodIn_app (goodIn_of _ (by decide +kernel)) ggX10_takes_X10_isGood
set_option maxRecDepth 20000 in
theorem ggX10_takes_X10_in : GoodIn wsX10_takes wsX10_in := goodIn_r _ [13] (by decide +kernel) (by decide +kernel)
set_option maxRecDepth 20000 in
theorem gX10_takes_X10_in : GoodIn wsX10_takes (va_wsS RX10 56 yX10_in wsX10_in) := goodIn_app (goodIn_of _ (by decide +kernel)) ggX10_takes_X10_in
theorem dX10_takes_0 : decode cX10_takes 0 = .ok (.iload_n 2, 1) := by decide +kernel
theorem dX10_takes_1 : decode cX10_takes 1 = .ok (.ifCond .eq 11, 3) := by decide +kernel
theorem dX10_takes_4 : decode cX10_takes 4 = .ok (.aload_n 0, 1) := by decide +kernel
theorem dX10_takes_5 : decode cX10_takes 5 = .ok (.iload_n 3, 1) := by decide +kernel
theorem dX10_takes_6 : decode cX10_takes 6 = .ok (.invokevirtual 136, 3) := by decide +kernel
theorem dX10_takes_9 : decode cX10_takes 9 = .ok (.goto 8, 3) := by decide +kernel
theorem dX10_takes_12 : decode cX10_takes 12 = .ok (.aload_n 0, 1) := by decide +kernel
theorem dX10_takes_13 : decode cX10_takes 13 = .ok (.iload_n 3, 1) := by decide +kernel
theorem dX10_takes_14 : decode cX10_takes 14 = .ok (.invokevirtual 60, 3) := by decide +kernel
theorem dX10_takes_17 : decode cX10_takes 17 = .ok (.istore 4, 2) := by decide +kernel
theorem dX10_takes_19 : decode cX10_takes 19 = .ok (.iload 4, 2) := by decide +kernel
theorem dX10_takes_21 : decode cX10_takes 21 = .ok (.ifCond .ne 5, 3) := by decide +kernel
theorem dX10_takes_24 : decode cX10_takes 24 = .ok (.iconst (-1), 1) := by decide +kernel
theorem dX10_takes_25 : decode cX10_takes 25 = .ok (.ireturn, 1) := by decide +kernel
theorem dX10_takes_26 : decode cX10_takes 26 = .ok (.iload_n 1, 1) := by decide +kernel
theorem dX10_takes_27 : decode cX10_takes 27 = .ok (.iconst 0, 1) := by decide +kernel
theorem dX10_takes_28 : decode cX10_takes 28 = .ok (.iconst 1, 1) := by decide +kernel
theorem dX10_takes_29 : decode cX10_takes 29 = .ok (.invokestatic 56, 3) := by decide +kernel
theorem dX10_takes_32 : decode cX10_takes 32 = .ok (.ifCond .ne 6, 3) := by decide +kernel
theorem dX10_takes_35 : decode cX10_takes 35 = .ok (.bipush (-2), 2) := by decide +kernel
theorem dX10_takes_37 : decode cX10_takes 37 = .ok (.ireturn, 1) := by decide +kernel
theorem dX10_takes_38 : decode cX10_takes 38 = .ok (.iload_n 2, 1) := by decide +kernel
theorem dX10_takes_39 : decode cX10_takes 39 = .ok (.iload_n 1, 1) := by decide +kernel
theorem dX10_takes_40 : decode cX10_takes 40 = .ok (.iconst 1, 1) := by decide +kernel
theorem dX10_takes_41 : decode cX10_takes 41 = .ok (.if_icmp .ne 7, 3) := by decide +kernel
theorem dX10_takes_44 : decode cX10_takes 44 = .ok (.iconst 1, 1) := by decide +kernel
theorem dX10_takes_45 : decode cX10_takes 45 = .ok (.goto 4, 3) := by decide +kernel
theorem dX10_takes_48 : decode cX10_takes 48 = .ok (.iconst 0, 1) := by decide +kernel
theorem dX10_takes_49 : decode cX10_takes 49 = .ok (.if_icmp .ne 7, 3) := by decide +kernel
theorem dX10_takes_52 : decode cX10_takes 52 = .ok (.iconst 1, 1) := by decide +kernel
theorem dX10_takes_53 : decode cX10_takes 53 = .ok (.goto 4, 3) := by decide +kernel
theorem dX10_takes_56 : decode cX10_takes 56 = .ok (.iconst 0, 1) := by decide +kernel
theorem dX10_takes_57 : decode cX10_takes 57 = .ok (.ireturn, 1) := by decide +kernel
set_option maxRecDepth 20000 in
theorem ggX10_ofOrders_X10_ofOrder : GoodIn wsX10_ofOrders wsX10_ofOrder := goodIn_r _ [6, 1, 7, 8, 9, 10, 11, 12, 13, 14, 15, 16, 17, 18, 19, 20, 21, 22, 23, 24, 25] (by decide +kernel) (by decide +kernel)
set_option maxRecDepth 20000 in
theorem gX10_ofOrders_X10_ofOrder : GoodIn wsX10_ofOrders (wsV RX10 190 RX10 yX10_ofOrder wsX10_ofOrder) := goodIn_app (goodIn_of _ (by decide +kernel)) ggX10_ofOrders_X10_ofOrder
theorem dX10_ofOrders_0 : decode cX10_ofOrders 0 = .ok (.iconst 0, 1) := by decide +kernel
theorem dX10_ofOrders_1 : decode cX10_ofOrders 1 = .ok (.istore_n 2, 1) := by decide +kernel
theorem dX10_ofOrders_2 : decode cX10_ofOrders 2 = .ok (.iconst 0, 1) := by decide +kernel
theorem dX10_ofOrders_3 : decode cX10_ofOrders 3 = .ok (.istore_n 3, 1) := by decide +kernel
theorem dX10_ofOrders_4 : decode cX10_ofOrders 4 = .ok (.iload_n 3, 1) := by decide +kernel
theorem dX10_ofOrders_5 : decode cX10_ofOrders 5 = .ok (.aload_n 0, 1) := by decide +kernel
theorem dX10_ofOrders_6 : decode cX10_ofOrders 6 = .ok (.getfield 7, 3) := by decide +kernel
theorem dX10_ofOrders_9 : decode cX10_ofOrders 9 = .ok (.iconst 3, 1) := by decide +kernel
theorem dX10_ofOrders_10 : decode cX10_ofOrders 10 = .ok (.iaload, 1) := by decide +kernel
theorem dX10_ofOrders_11 : decode cX10_ofOrders 11 = .ok (.if_icmp .ge 64, 3) := by decide +kernel
theorem dX10_ofOrders_14 : decode cX10_ofOrders 14 = .ok (.aload_n 0, 1) := by decide +kernel
theorem dX10_ofOrders_15 : decode cX10_ofOrders 15 = .ok (.iload_n 3, 1) := by decide +kernel
theorem dX10_ofOrders_16 : decode cX10_ofOrders 16 = .ok (.iconst 2, 1) := by decide +kernel
theorem dX10_ofOrders_17 : decode cX10_ofOrders 17 = .ok (.invokevirtual 190, 3) := by decide +kernel
theorem dX10_ofOrders_20 : decode cX10_ofOrders 20 = .ok (.istore 4, 2) := by decide +kernel
theorem dX10_ofOrders_22 : decode cX10_ofOrders 22 = .ok (.iload_n 2, 1) := by decide +kernel
theorem dX10_ofOrders_23 : decode cX10_ofOrders 23 = .ok (.iload_n 1, 1) := by decide +kernel
theorem dX10_ofOrders_24 : decode cX10_ofOrders 24 = .ok (.bipush 11, 2) := by decide +kernel
theorem dX10_ofOrders_26 : decode cX10_ofOrders 26 = .ok (.if_icmp .ne 15, 3) := by decide +kernel
theorem dX10_ofOrders_29 : decode cX10_ofOrders 29 = .ok (.aload_n 0, 1) := by decide +kernel
theorem dX10_ofOrders_30 : decode cX10_ofOrders 30 = .ok (.iload_n 3, 1) := by decide +kernel
theorem dX10_ofOrders_31 : decode cX10_ofOrders 31 = .ok (.iconst 1, 1) := by decide +kernel
theorem dX10_ofOrders_32 : decode cX10_ofOrders 32 = .ok (.invokevirtual 190, 3) := by decide +kernel
theorem dX10_ofOrders_35 : decode cX10_ofOrders 35 = .ok (.iload 4, 2) := by decide +kernel
theorem dX10_ofOrders_37 : decode cX10_ofOrders 37 = .ok (.isub, 1) := by decide +kernel
theorem dX10_ofOrders_38 : decode cX10_ofOrders 38 = .ok (.goto 29, 3) := by decide +kernel
theorem dX10_ofOrders_41 : decode cX10_ofOrders 41 = .ok (.iload_n 1, 1) := by decide +kernel
theorem dX10_ofOrders_42 : decode cX10_ofOrders 42 = .ok (.bipush 12, 2) := by decide +kernel
theorem dX10_ofOrders_44 : decode cX10_ofOrders 44 = .ok (.if_icmp .ne 16, 3) := by decide +kernel
theorem dX10_ofOrders_47 : decode cX10_ofOrders 47 = .ok (.iload 4, 2) := by decide +kernel
theorem dX10_ofOrders_49 : decode cX10_ofOrders 49 = .ok (.ifCond .ne 7, 3) := by decide +kernel
theorem dX10_ofOrders_52 : decode cX10_ofOrders 52 = .ok (.iconst 1, 1) := by decide +kernel
theorem dX10_ofOrders_53 : decode cX10_ofOrders 53 = .ok (.goto 14, 3) := by decide +kernel
theorem dX10_ofOrders_56 : decode cX10_ofOrders 56 = .ok (.iconst 0, 1) := by decide +kernel
theorem dX10_ofOrders_57 : decode cX10_ofOrders 57 = .ok (.goto 10, 3) := by decide +kernel
theorem dX10_ofOrders_60 : decode cX10_ofOrders 60 = .ok (.aload_n 0, 1) := by decide +kernel
theorem dX10_ofOrders_61 : decode cX10_ofOrders 61 = .ok (.iload_n 3, 1) := by decide +kernel
theorem dX10_ofOrders_62 : decode cX10_ofOrders 62 = .ok (.bipush 6, 2) := by decide +kernel
theorem dX10_ofOrders_64 : decode cX10_ofOrders 64 = .ok (.invokevirtual 190, 3) := by decide +kernel
theorem dX10_ofOrders_67 : decode cX10_ofOrders 67 = .ok (.iadd, 1) := by decide +kernel
theorem dX10_ofOrders_68 : decode cX10_ofOrders 68 = .ok (.istore_n 2, 1) := by decide +kernel
theorem dX10_ofOrders_69 : decode cX10_ofOrders 69 = .ok (.iinc 3 1, 3) := by decide +kernel
theorem dX10_ofOrders_72 : decode cX10_ofOrders 72 = .ok (.goto (-68), 3) := by decide +kernel
theorem dX10_ofOrders_75 : decode cX10_ofOrders 75 = .ok (.iload_n 2, 1) := by decide +kernel
theorem dX10_ofOrders_76 : decode cX10_ofOrders 76 = .ok (.ireturn, 1) := by decide +kernel
set_option maxRecDepth 20000 in
theorem ggX10_allWasted_X10_wasted : GoodIn wsX10_allWasted wsX10_wasted := goodIn_r _ [6, 7, 8, 9, 5, 10, 1, 11, 12, 13, 14, 15, 16, 17, 18, 19, 20, 21, 22, 23, 24, 25, 26, 27, 28, 29] (by decide +kernel) (by decide +kernel)
set_option maxRecDepth 20000 in
theorem gX10_allWasted_X10_wasted : GoodIn wsX10_allWasted (wsV RX10 193 RX10 yX10_wasted wsX10_wasted) := goodIn_app (goodIn_of _ (by decide +kernel)) ggX10_allWasted_X10_wasted
theorem dX10_allWasted_0 : decode cX10_allWasted 0 = .ok (.iconst 0, 1) := by decide +kernel
theorem dX10_allWasted_1 : decode cX10_allWasted 1 = .ok (.istore_n 1, 1) := by decide +kernel
theorem dX10_allWasted_2 : decode cX10_allWasted 2 = .ok (.iconst 0, 1) := by decide +kernel
theorem dX10_allWasted_3 : decode cX10_allWasted 3 = .ok (.istore_n 2, 1) := by decide +kernel
theorem dX10_allWasted_4 : decode cX10_allWasted 4 = .ok (.iload_n 2, 1) := by decide +kernel
theorem dX10_allWasted_5 : decode cX10_allWasted 5 = .ok (.aload_n 0, 1) := by decide +kernel
theorem dX10_allWasted_6 : decode cX10_allWasted 6 = .ok (.getfield 7, 3) := by decide +kernel
theorem dX10_allWasted_9 : decode cX10_allWasted 9 = .ok (.iconst 2, 1) := by decide +kernel
theorem dX10_allWasted_10 : decode cX10_allWasted 10 = .ok (.iaload, 1) := by decide +kernel
theorem dX10_allWasted_11 : decode cX10_allWasted 11 = .ok (.if_icmp .ge 17, 3) := by decide +kernel
theorem dX10_allWasted_14 : decode cX10_allWasted 14 = .ok (.iload_n 1, 1) := by decide +kernel
theorem dX10_allWasted_15 : decode cX10_allWasted 15 = .ok (.aload_n 0, 1) := by decide +kernel
theorem dX10_allWasted_16 : decode cX10_allWasted 16 = .ok (.iload_n 2, 1) := by decide +kernel
theorem dX10_allWasted_17 : decode cX10_allWasted 17 = .ok (.invokevirtual 193, 3) := by decide +kernel
theorem dX10_allWasted_20 : decode cX10_allWasted 20 = .ok (.iadd, 1) := by decide +kernel
theorem dX10_allWasted_21 : decode cX10_allWasted 21 = .ok (.istore_n 1, 1) := by decide +kernel
theorem dX10_allWasted_22 : decode cX10_allWasted 22 = .ok (.iinc 2 1, 3) := by decide +kernel
theorem dX10_allWasted_25 : decode cX10_allWasted 25 = .ok (.goto (-21), 3) := by decide +kernel
theorem dX10_allWasted_28 : decode cX10_allWasted 28 = .ok (.iload_n 1, 1) := by decide +kernel
theorem dX10_allWasted_29 : decode cX10_allWasted 29 = .ok (.ireturn, 1) := by decide +kernel
set_option maxRecDepth 20000 in
theorem ggX10_count_X10_in : GoodIn wsX10_count wsX10_in := goodIn_r _ [7] (by decide +kernel) (by decide +kernel)
set_option maxRecDepth 20000 in
theorem gX10_count_X10_in : GoodIn wsX10_count (va_wsS RX10 56 yX10_in wsX10_in) := goodIn_app (goodIn_of _ (by decide +kernel)) ggX10_count_X10_in
set_option maxRecDepth 20000 in
theorem ggX10_count_X10_sumOfBatches : GoodIn wsX10_count wsX10_sumOfBatches := goodIn_r _ [11, 1, 12, 13, 14, 6, 15, 32, 33, 34, 35, 36, 37, 38, 39, 40, 41, 42, 43, 44, 45, 46, 47, 48, 49, 50] (by decide +kernel) (by decide +kernel)
set_option maxRecDepth 20000 in
theorem gX10_count_X10_sumOfBatches : GoodIn wsX10_count (wsV RX10 187 RX10 yX10_sumOfBatches wsX10_sumOfBatches) := goodIn_app (goodIn_of _ (by decide +kernel)) ggX10_count_X10_sumOfBatches
set_option maxRecDepth 20000 in
theorem ggX10_count_X10_allWasted : GoodIn wsX10_count wsX10_allWasted := goodIn_r _ [19, 1, 20, 21, 22, 6, 23, 12, 13, 14, 15, 32, 33, 34, 35, 36, 37, 38, 39, 40, 41, 42, 43, 44, 45, 46, 47, 48, 49, 50] (by decide +kernel) (by decide +kernel)
set_option maxRecDepth 20000 in
theorem gX10_count_X10_allWasted : GoodIn wsX10_count (wsV RX10 200 RX10 yX10_allWasted wsX10_allWasted) := goodIn_app (goodIn_of _ (by decide +kernel)) ggX10_count_X10_allWasted
set_option maxRecDepth 20000 in
theorem ggX10_count_X10_ofOrders : GoodIn wsX10_count wsX10_ofOrders := goodIn_r _ [27, 1, 28, 29, 30, 6, 31, 32, 33, 34, 35, 36, 37, 38, 39, 40, 41, 42, 43, 44, 45, 46, 47, 48, 49, 50] (by decide +kernel) (by decide +kernel)
set_option maxRecDepth 20000 in
theorem gX10_count_X10_ofOrders : GoodIn wsX10_count (wsV RX10 203 RX10 yX10_ofOrders wsX10_ofOrders) := goodIn_app (goodIn_of _ (by decide +kernel)) ggX10_count_X10_ofOrders
theorem dX10_count_0 : decode cX10_count 0 = .ok (.iload_n 1, 1) := by decide +kernel
theorem dX10_count_1 : decode cX10_count 1 = .ok (.iconst 0, 1) := by decide +kernel
theorem dX10_count_2 : decode cX10_count 2 = .ok (.bipush 18, 2) := by decide +kernel
theorem dX10_count_4 : decode cX10_count 4 = .ok (.invokestatic 56, 3) := by decide +kernel
theorem dX10_count_7 : decode cX10_count 7 = .ok (.ifCond .ne 6, 3) := by decide +kernel
theorem dX10_count_10 : decode cX10_count 10 = .ok (.bipush (-2), 2) := by decide +kernel
theorem dX10_count_12 : decode cX10_count 12 = .ok (.ireturn, 1) := by decide +kernel
theorem dX10_count_13 : decode cX10_count 13 = .ok (.iload_n 1, 1) := by decide +kernel
theorem dX10_count_14 : decode cX10_count 14 = .ok (.iconst 4, 1) := by decide +kernel
theorem dX10_count_15 : decode cX10_count 15 = .ok (.if_icmp .ge 10, 3) := by decide +kernel
theorem dX10_count_18 : decode cX10_count 18 = .ok (.aload_n 0, 1) := by decide +kernel
theorem dX10_count_19 : decode cX10_count 19 = .ok (.getfield 7, 3) := by decide +kernel
theorem dX10_count_22 : decode cX10_count 22 = .ok (.iload_n 1, 1) := by decide +kernel
theorem dX10_count_23 : decode cX10_count 23 = .ok (.iaload, 1) := by decide +kernel
theorem dX10_count_24 : decode cX10_count 24 = .ok (.ireturn, 1) := by decide +kernel
theorem dX10_count_25 : decode cX10_count 25 = .ok (.iload_n 1, 1) := by decide +kernel
theorem dX10_count_26 : decode cX10_count 26 = .ok (.bipush 7, 2) := by decide +kernel
theorem dX10_count_28 : decode cX10_count 28 = .ok (.if_icmp .ge 15, 3) := by decide +kernel
theorem dX10_count_31 : decode cX10_count 31 = .ok (.aload_n 0, 1) := by decide +kernel
theorem dX10_count_32 : decode cX10_count 32 = .ok (.bipush (-5), 2) := by decide +kernel
theorem dX10_count_34 : decode cX10_count 34 = .ok (.iconst 3, 1) := by decide +kernel
theorem dX10_count_35 : decode cX10_count 35 = .ok (.iload_n 1, 1) := by decide +kernel
theorem dX10_count_36 : decode cX10_count 36 = .ok (.iadd, 1) := by decide +kernel
theorem dX10_count_37 : decode cX10_count 37 = .ok (.iconst 4, 1) := by decide +kernel
theorem dX10_count_38 : decode cX10_count 38 = .ok (.isub, 1) := by decide +kernel
theorem dX10_count_39 : decode cX10_count 39 = .ok (.invokevirtual 187, 3) := by decide +kernel
theorem dX10_count_42 : decode cX10_count 42 = .ok (.ireturn, 1) := by decide +kernel
theorem dX10_count_43 : decode cX10_count 43 = .ok (.iload_n 1, 1) := by decide +kernel
theorem dX10_count_44 : decode cX10_count 44 = .ok (.bipush 7, 2) := by decide +kernel
theorem dX10_count_46 : decode cX10_count 46 = .ok (.if_icmp .ne 8, 3) := by decide +kernel
theorem dX10_count_49 : decode cX10_count 49 = .ok (.aload_n 0, 1) := by decide +kernel
theorem dX10_count_50 : decode cX10_count 50 = .ok (.invokevirtual 200, 3) := by decide +kernel
theorem dX10_count_53 : decode cX10_count 53 = .ok (.ireturn, 1) := by decide +kernel
theorem dX10_count_54 : decode cX10_count 54 = .ok (.iload_n 1, 1) := by decide +kernel
theorem dX10_count_55 : decode cX10_count 55 = .ok (.bipush 11, 2) := by decide +kernel
theorem dX10_count_57 : decode cX10_count 57 = .ok (.if_icmp .ge 17, 3) := by decide +kernel
theorem dX10_count_60 : decode cX10_count 60 = .ok (.aload_n 0, 1) := by decide +kernel
theorem dX10_count_61 : decode cX10_count 61 = .ok (.bipush (-5), 2) := by decide +kernel
theorem dX10_count_63 : decode cX10_count 63 = .ok (.bipush 6, 2) := by decide +kernel
theorem dX10_count_65 : decode cX10_count 65 = .ok (.iload_n 1, 1) := by decide +kernel
theorem dX10_count_66 : decode cX10_count 66 = .ok (.iadd, 1) := by decide +kernel
theorem dX10_count_67 : decode cX10_count 67 = .ok (.bipush 8, 2) := by decide +kernel
theorem dX10_count_69 : decode cX10_count 69 = .ok (.isub, 1) := by decide +kernel
theorem dX10_count_70 : decode cX10_count 70 = .ok (.invokevirtual 187, 3) := by decide +kernel
theorem dX10_count_73 : decode cX10_count 73 = .ok (.ireturn, 1) := by decide +kernel
theorem dX10_count_74 : decode cX10_count 74 = .ok (.iload_n 1, 1) := by decide +kernel
theorem dX10_count_75 : decode cX10_count 75 = .ok (.bipush 14, 2) := by decide +kernel
theorem dX10_count_77 : decode cX10_count 77 = .ok (.if_icmp .ge 9, 3) := by decide +kernel
theorem dX10_count_80 : decode cX10_count 80 = .ok (.aload_n 0, 1) := by decide +kernel
theorem dX10_count_81 : decode cX10_count 81 = .ok (.iload_n 1, 1) := by decide +kernel
theorem dX10_count_82 : decode cX10_count 82 = .ok (.invokevirtual 203, 3) := by decide +kernel
theorem dX10_count_85 : decode cX10_count 85 = .ok (.ireturn, 1) := by decide +kernel
theorem dX10_count_86 : decode cX10_count 86 = .ok (.iload_n 1, 1) := by decide +kernel
theorem dX10_count_87 : decode cX10_count 87 = .ok (.bipush 17, 2) := by decide +kernel
theorem dX10_count_89 : decode cX10_count 89 = .ok (.if_icmp .ge 17, 3) := by decide +kernel
theorem dX10_count_92 : decode cX10_count 92 = .ok (.aload_n 0, 1) := by decide +kernel
theorem dX10_count_93 : decode cX10_count 93 = .ok (.getfield 7, 3) := by decide +kernel
theorem dX10_count_96 : decode cX10_count 96 = .ok (.iconst 4, 1) := by decide +kernel
theorem dX10_count_97 : decode cX10_count 97 = .ok (.iload_n 1, 1) := by decide +kernel
theorem dX10_count_98 : decode cX10_count 98 = .ok (.iadd, 1) := by decide +kernel
theorem dX10_count_99 : decode cX10_count 99 = .ok (.bipush 14, 2) := by decide +kernel
theorem dX10_count_101 : decode cX10_count 101 = .ok (.isub, 1) := by decide +kernel
theorem dX10_count_102 : decode cX10_count 102 = .ok (.iaload, 1) := by decide +kernel
theorem dX10_count_103 : decode cX10_count 103 = .ok (.goto 20, 3) := by decide +kernel
theorem dX10_count_106 : decode cX10_count 106 = .ok (.iload_n 1, 1) := by decide +kernel
theorem dX10_count_107 : decode cX10_count 107 = .ok (.bipush 17, 2) := by decide +kernel
theorem dX10_count_109 : decode cX10_count 109 = .ok (.if_icmp .ne 10, 3) := by decide +kernel
theorem dX10_count_112 : decode cX10_count 112 = .ok (.aload_n 0, 1) := by decide +kernel
theorem dX10_count_113 : decode cX10_count 113 = .ok (.getfield 45, 3) := by decide +kernel
theorem dX10_count_116 : decode cX10_count 116 = .ok (.goto 7, 3) := by decide +kernel
theorem dX10_count_119 : decode cX10_count 119 = .ok (.aload_n 0, 1) := by decide +kernel
theorem dX10_count_120 : decode cX10_count 120 = .ok (.getfield 154, 3) := by decide +kernel
theorem dX10_count_123 : decode cX10_count 123 = .ok (.ireturn, 1) := by decide +kernel
