set_option maxRecDepth 20000 in
theorem ggX0_init_X2_init : GoodIn wsX0_init wsX2_init := goodIn_r _ [11, 12, 2, 3, 4, 13, 17, 18] (by decide +kernel) (by decide +kernel)
set_option maxRecDepth 20000 in
theorem gX0_init_X2_init_n17 : GoodIn wsX0_init (wsX2_init) := ggX0_init_X2_init
theorem dX0_init_0 : decode cX0_init 0 = .ok (.aload_n 0, 1) := by decide +kernel
theorem dX0_init_1 : decode cX0_init 1 = .ok (.invokespecial 3, 3) := by decide +kernel
theorem dX0_init_4 : decode cX0_init 4 = .ok (.aload_n 0, 1) := by decide +kernel
theorem dX0_init_5 : decode cX0_init 5 = .ok (.bipush 8, 2) := by decide +kernel
theorem dX0_init_7 : decode cX0_init 7 = .ok (.newarray .int, 2) := by decide +kernel
theorem dX0_init_9 : decode cX0_init 9 = .ok (.putfield 9, 3) := by decide +kernel
theorem dX0_init_12 : decode cX0_init 12 = .ok (.aload_n 0, 1) := by decide +kernel
theorem dX0_init_13 : decode cX0_init 13 = .ok (.new 15, 3) := by decide +kernel
theorem dX0_init_16 : decode cX0_init 16 = .ok (.dup, 1) := by decide +kernel
theorem dX0_init_17 : decode cX0_init 17 = .ok (.invokespecial 17, 3) := by decide +kernel
theorem dX0_init_20 : decode cX0_init 20 = .ok (.putfield 18, 3) := by decide +kernel
theorem dX0_init_23 : decode cX0_init 23 = .ok (.return_, 1) := by decide +kernel
theorem dX0_begin_0 : decode cX0_begin 0 = .ok (.aload_n 0, 1) := by decide +kernel
theorem dX0_begin_1 : decode cX0_begin 1 = .ok (.getfield 18, 3) := by decide +kernel
theorem dX0_begin_4 : decode cX0_begin 4 = .ok (.iconst 0, 1) := by decide +kernel
theorem dX0_begin_5 : decode cX0_begin 5 = .ok (.putfield 22, 3) := by decide +kernel
theorem dX0_begin_8 : decode cX0_begin 8 = .ok (.aload_n 0, 1) := by decide +kernel
theorem dX0_begin_9 : decode cX0_begin 9 = .ok (.iconst 0, 1) := by decide +kernel
theorem dX0_begin_10 : decode cX0_begin 10 = .ok (.putfield 26, 3) := by decide +kernel
theorem dX0_begin_13 : decode cX0_begin 13 = .ok (.return_, 1) := by decide +kernel
theorem dX0_failed_0 : decode cX0_failed 0 = .ok (.aload_n 0, 1) := by decide +kernel
theorem dX0_failed_1 : decode cX0_failed 1 = .ok (.getfield 26, 3) := by decide +kernel
theorem dX0_failed_4 : decode cX0_failed 4 = .ok (.ifCond .eq 7, 3) := by decide +kernel
theorem dX0_failed_7 : decode cX0_failed 7 = .ok (.iconst 1, 1) := by decide +kernel
theorem dX0_failed_8 : decode cX0_failed 8 = .ok (.goto 4, 3) := by decide +kernel
theorem dX0_failed_11 : decode cX0_failed 11 = .ok (.iconst 0, 1) := by decide +kernel
theorem dX0_failed_12 : decode cX0_failed 12 = .ok (.ireturn, 1) := by decide +kernel
set_option maxRecDepth 20000 in
theorem ggX0_answer_X0_start : GoodIn wsX0_answer wsX0_start := goodIn_r _ [6, 7, 8, 9, 10, 11, 12, 13, 14, 15, 16, 17, 5, 18, 19, 20, 21, 22, 23, 24, 25, 26, 27, 28, 29, 30, 31, 32, 33, 34, 35, 36, 37, 38, 39, 40, 41, 42, 43, 44, 45, 46, 47, 48, 2, 3, 4, 49, 1, 50, 51, 52, 53, 54, 55, 56, 57, 58, 59, 60, 61, 62, 63, 64, 65, 66, 67, 68, 69, 70, 71, 72, 73, 74, 75, 76, 77, 78, 79, 80, 81, 82, 83, 84, 85, 86, 87, 88, 89, 90, 91, 92, 93] (by decide +kernel) (by decide +kernel)
set_option maxRecDepth 20000 in
theorem gX0_answer_X0_start : GoodIn wsX0_answer (wsV RX0 34 RX0 yX0_start wsX0_start) := goodIn_app (goodIn_of _ (by decide +kernel)) ggX0_answer_X0_start
theorem dX0_answer_0 : decode cX0_answer 0 = .ok (.aload_n 0, 1) := by decide +kernel
theorem dX0_answer_1 : decode cX0_answer 1 = .ok (.aload_n 1, 1) := by decide +kernel
theorem dX0_answer_2 : decode cX0_answer 2 = .ok (.aload_n 1, 1) := by decide +kernel
theorem dX0_answer_3 : decode cX0_answer 3 = .ok (.getfield 29, 3) := by decide +kernel
theorem dX0_answer_6 : decode cX0_answer 6 = .ok (.iload_n 2, 1) := by decide +kernel
theorem dX0_answer_7 : decode cX0_answer 7 = .ok (.iload_n 3, 1) := by decide +kernel
theorem dX0_answer_8 : decode cX0_answer 8 = .ok (.iconst 0, 1) := by decide +kernel
theorem dX0_answer_9 : decode cX0_answer 9 = .ok (.invokevirtual 34, 3) := by decide +kernel
theorem dX0_answer_12 : decode cX0_answer 12 = .ok (.ireturn, 1) := by decide +kernel
set_option maxRecDepth 20000 in
theorem ggX0_start_X4_ownerOf : GoodIn wsX0_start wsX4_ownerOf := goodIn_r _ [4, 5, 6, 7, 3, 8] (by decide +kernel) (by decide +kernel)
set_option maxRecDepth 20000 in
theorem gX0_start_X4_ownerOf_n38 : GoodIn wsX0_start (wsX4_ownerOf) := ggX0_start_X4_ownerOf
set_option maxRecDepth 20000 in
theorem ggX0_start_X0_failed : GoodIn wsX0_start wsX0_failed := goodIn_r _ [13, 14, 88, 89, 90] (by decide +kernel) (by decide +kernel)
set_option maxRecDepth 20000 in
theorem gX0_start_X0_failed : GoodIn wsX0_start (wsV RX0 42 RX0 yX0_failed wsX0_failed) := goodIn_app (goodIn_of _ (by decide +kernel)) ggX0_start_X0_failed
set_option maxRecDepth 20000 in
theorem ggX0_start_X2_write : GoodIn wsX0_start wsX2_write := goodIn_r _ [19, 20, 21, 91, 92] (by decide +kernel) (by decide +kernel)
set_option maxRecDepth 20000 in
theorem gX0_start_X2_write : GoodIn wsX0_start (wsV RX0 46 RX2 yX2_write wsX2_write) := goodIn_app (goodIn_of _ (by decide +kernel)) ggX0_start_X2_write
set_option maxRecDepth 20000 in
theorem ggX0_start_X0_lengthBody : GoodIn wsX0_start wsX0_lengthBody := goodIn_r _ [77, 78, 50, 51, 52, 53, 54, 55, 56, 57, 12, 43, 7, 3, 8, 44, 45, 46, 47, 48, 49, 58, 59, 60, 61, 62, 63, 64, 65, 66, 67, 68, 14, 69, 70, 71, 72, 73, 74, 75, 76, 79, 80, 81, 9, 10, 11, 13, 0, 1, 2, 4, 5, 6, 15, 16, 17, 18, 19, 20, 21, 22, 23, 24, 25, 26, 27, 28, 29, 30, 31, 32, 33, 34, 35, 36, 37, 38, 39, 40, 41, 42, 82, 83, 84, 85, 86, 87, 88, 89, 90, 91, 92] (by decide +kernel) (by decide +kernel)
set_option maxRecDepth 20000 in
theorem gX0_start_X0_lengthBody : GoodIn wsX0_start (wsV RX0 50 RX0 yX0_lengthBody wsX0_lengthBody) := goodIn_app (goodIn_of _ (by decide +kernel)) ggX0_start_X0_lengthBody
set_option maxRecDepth 20000 in
theorem ggX0_start_X0_feeBody : GoodIn wsX0_start wsX0_feeBody := goodIn_r _ [49, 50, 51, 52, 53, 54, 55, 56, 57, 12, 58, 59, 60, 43, 7, 3, 8, 44, 45, 46, 47, 48, 61, 62, 63, 64, 65, 66, 67, 68, 14, 69, 70, 71, 72, 73, 74, 75, 76, 77, 78, 79, 80, 81, 9, 10, 11, 13, 0, 1, 2, 4, 5, 6, 15, 16, 17, 18, 19, 20, 21, 22, 23, 24, 25, 26, 27, 28, 29, 30, 31, 32, 33, 34, 35, 36, 37, 38, 39, 40, 41, 42, 82, 83, 84, 85, 86, 87, 88, 89, 90, 91, 92] (by decide +kernel) (by decide +kernel)
set_option maxRecDepth 20000 in
theorem gX0_start_X0_feeBody : GoodIn wsX0_start (wsV RX0 54 RX0 yX0_feeBody wsX0_feeBody) := goodIn_app (goodIn_of _ (by decide +kernel)) ggX0_start_X0_feeBody
set_option maxRecDepth 20000 in
theorem ggX0_start_X0_riskBody : GoodIn wsX0_start wsX0_riskBody := goodIn_r _ [81, 62, 50, 65, 66, 67, 12, 68, 14, 55, 56, 57, 73, 74, 75, 76, 9, 10, 11, 13, 43, 7, 3, 8, 44, 45, 46, 47, 48, 49, 51, 52, 53, 54, 58, 59, 60, 61, 63, 64, 69, 70, 71, 72, 77, 78, 79, 80, 0, 1, 2, 4, 5, 6, 15, 16, 17, 18, 19, 20, 21, 22, 23, 24, 25, 26, 27, 28, 29, 30, 31, 32, 33, 34, 35, 36, 37, 38, 39, 40, 41, 42, 82, 83, 84, 85, 86, 87, 88, 89, 90, 91, 92] (by decide +kernel) (by decide +kernel)
set_option maxRecDepth 20000 in
theorem gX0_start_X0_riskBody : GoodIn wsX0_start (wsV RX0 58 RX0 yX0_riskBody wsX0_riskBody) := goodIn_app (goodIn_of _ (by decide +kernel)) ggX0_start_X0_riskBody
set_option maxRecDepth 20000 in
theorem ggX0_start_X0_lashBody : GoodIn wsX0_start wsX0_lashBody := goodIn_r _ [63, 64, 50, 55, 56, 57, 12, 65, 66, 67, 68, 14, 69, 70, 71, 43, 7, 3, 8, 44, 45, 46, 47, 48, 49, 51, 52, 53, 54, 58, 59, 60, 61, 62, 72, 73, 74, 75, 76, 77, 78, 79, 80, 81, 9, 10, 11, 13, 0, 1, 2, 4, 5, 6, 15, 16, 17, 18, 19, 20, 21, 22, 23, 24, 25, 26, 27, 28, 29, 30, 31, 32, 33, 34, 35, 36, 37, 38, 39, 40, 41, 42, 82, 83, 84, 85, 86, 87, 88, 89, 90, 91, 92] (by decide +kernel) (by decide +kernel)
set_option maxRecDepth 20000 in
theorem gX0_start_X0_lashBody : GoodIn wsX0_start (wsV RX0 61 RX0 yX0_lashBody wsX0_lashBody) := goodIn_app (goodIn_of _ (by decide +kernel)) ggX0_start_X0_lashBody
set_option maxRecDepth 20000 in
theorem ggX0_start_X0_markBody : GoodIn wsX0_start wsX0_markBody := goodIn_r _ [79, 78, 62, 55, 56, 57, 12, 43, 7, 3, 8, 44, 45, 46, 47, 48, 49, 50, 51, 52, 53, 54, 58, 59, 60, 61, 63, 64, 65, 66, 67, 68, 14, 69, 70, 71, 72, 73, 74, 75, 76, 77, 80, 81, 9, 10, 11, 13, 0, 1, 2, 4, 5, 6, 15, 16, 17, 18, 19, 20, 21, 22, 23, 24, 25, 26, 27, 28, 29, 30, 31, 32, 33, 34, 35, 36, 37, 38, 39, 40, 41, 42, 82, 83, 84, 85, 86, 87, 88, 89, 90, 91, 92] (by decide +kernel) (by decide +kernel)
set_option maxRecDepth 20000 in
theorem gX0_start_X0_markBody : GoodIn wsX0_start (wsV RX0 64 RX0 yX0_markBody wsX0_markBody) := goodIn_app (goodIn_of _ (by decide +kernel)) ggX0_start_X0_markBody
set_option maxRecDepth 20000 in
theorem ggX0_start_X0_pullBody : GoodIn wsX0_start wsX0_pullBody := goodIn_r _ [80, 55, 56, 57, 12, 58, 59, 60, 43, 7, 3, 8, 44, 45, 46, 47, 48, 49, 50, 51, 52, 53, 54, 61, 62, 63, 64, 65, 66, 67, 68, 14, 69, 70, 71, 72, 73, 74, 75, 76, 77, 78, 79, 81, 9, 10, 11, 13, 0, 1, 2, 4, 5, 6, 15, 16, 17, 18, 19, 20, 21, 22, 23, 24, 25, 26, 27, 28, 29, 30, 31, 32, 33, 34, 35, 36, 37, 38, 39, 40, 41, 42, 82, 83, 84, 85, 86, 87, 88, 89, 90, 91, 92] (by decide +kernel) (by decide +kernel)
set_option maxRecDepth 20000 in
theorem gX0_start_X0_pullBody : GoodIn wsX0_start (wsV RX0 67 RX0 yX0_pullBody wsX0_pullBody) := goodIn_app (goodIn_of _ (by decide +kernel)) ggX0_start_X0_pullBody
set_option maxRecDepth 20000 in
theorem ggX0_start_X0_hookBody : GoodIn wsX0_start wsX0_hookBody := goodIn_r _ [61, 50, 62, 55, 56, 57, 12, 43, 7, 3, 8, 44, 45, 46, 47, 48, 49, 51, 52, 53, 54, 58, 59, 60, 63, 64, 65, 66, 67, 68, 14, 69, 70, 71, 72, 73, 74, 75, 76, 77, 78, 79, 80, 81, 9, 10, 11, 13, 0, 1, 2, 4, 5, 6, 15, 16, 17, 18, 19, 20, 21, 22, 23, 24, 25, 26, 27, 28, 29, 30, 31, 32, 33, 34, 35, 36, 37, 38, 39, 40, 41, 42, 82, 83, 84, 85, 86, 87, 88, 89, 90, 91, 92] (by decide +kernel) (by decide +kernel)
set_option maxRecDepth 20000 in
theorem gX0_start_X0_hookBody : GoodIn wsX0_start (wsV RX0 70 RX0 yX0_hookBody wsX0_hookBody) := goodIn_app (goodIn_of _ (by decide +kernel)) ggX0_start_X0_hookBody
theorem dX0_start_0 : decode cX0_start 0 = .ok (.iload_n 3, 1) := by decide +kernel
theorem dX0_start_1 : decode cX0_start 1 = .ok (.iload_n 2, 1) := by decide +kernel
theorem dX0_start_2 : decode cX0_start 2 = .ok (.invokestatic 38, 3) := by decide +kernel
theorem dX0_start_5 : decode cX0_start 5 = .ok (.istore 6, 2) := by decide +kernel
theorem dX0_start_7 : decode cX0_start 7 = .ok (.aload_n 0, 1) := by decide +kernel
theorem dX0_start_8 : decode cX0_start 8 = .ok (.invokevirtual 42, 3) := by decide +kernel
theorem dX0_start_11 : decode cX0_start 11 = .ok (.ifCond .ne 16, 3) := by decide +kernel
theorem dX0_start_14 : decode cX0_start 14 = .ok (.iload 6, 2) := by decide +kernel
theorem dX0_start_16 : decode cX0_start 16 = .ok (.iconst (-1), 1) := by decide +kernel
theorem dX0_start_17 : decode cX0_start 17 = .ok (.if_icmp .eq 10, 3) := by decide +kernel
theorem dX0_start_20 : decode cX0_start 20 = .ok (.iload 5, 2) := by decide +kernel
theorem dX0_start_22 : decode cX0_start 22 = .ok (.bipush 20, 2) := by decide +kernel
theorem dX0_start_24 : decode cX0_start 24 = .ok (.if_icmp .le 5, 3) := by decide +kernel
theorem dX0_start_27 : decode cX0_start 27 = .ok (.iconst 0, 1) := by decide +kernel
theorem dX0_start_28 : decode cX0_start 28 = .ok (.ireturn, 1) := by decide +kernel
theorem dX0_start_29 : decode cX0_start 29 = .ok (.aload_n 0, 1) := by decide +kernel
theorem dX0_start_30 : decode cX0_start 30 = .ok (.getfield 18, 3) := by decide +kernel
theorem dX0_start_33 : decode cX0_start 33 = .ok (.bipush 10, 2) := by decide +kernel
theorem dX0_start_35 : decode cX0_start 35 = .ok (.iload 6, 2) := by decide +kernel
theorem dX0_start_37 : decode cX0_start 37 = .ok (.imul, 1) := by decide +kernel
theorem dX0_start_38 : decode cX0_start 38 = .ok (.iload_n 3, 1) := by decide +kernel
theorem dX0_start_39 : decode cX0_start 39 = .ok (.iadd, 1) := by decide +kernel
theorem dX0_start_40 : decode cX0_start 40 = .ok (.invokevirtual 46, 3) := by decide +kernel
theorem dX0_start_43 : decode cX0_start 43 = .ok (.iload_n 3, 1) := by decide +kernel
theorem dX0_start_44 : decode cX0_start 44 = .ok (.tableswitch 108 0 5 #[40, 50, 62, 74, 86, 96], 40) := by decide +kernel
theorem dX0_start_84 : decode cX0_start 84 = .ok (.aload_n 0, 1) := by decide +kernel
theorem dX0_start_85 : decode cX0_start 85 = .ok (.aload_n 1, 1) := by decide +kernel
theorem dX0_start_86 : decode cX0_start 86 = .ok (.iload 6, 2) := by decide +kernel
theorem dX0_start_88 : decode cX0_start 88 = .ok (.iload 5, 2) := by decide +kernel
theorem dX0_start_90 : decode cX0_start 90 = .ok (.invokevirtual 50, 3) := by decide +kernel
theorem dX0_start_93 : decode cX0_start 93 = .ok (.ireturn, 1) := by decide +kernel
theorem dX0_start_94 : decode cX0_start 94 = .ok (.aload_n 0, 1) := by decide +kernel
theorem dX0_start_95 : decode cX0_start 95 = .ok (.aload_n 1, 1) := by decide +kernel
theorem dX0_start_96 : decode cX0_start 96 = .ok (.iload 6, 2) := by decide +kernel
theorem dX0_start_98 : decode cX0_start 98 = .ok (.iload 4, 2) := by decide +kernel
theorem dX0_start_100 : decode cX0_start 100 = .ok (.iload 5, 2) := by decide +kernel
theorem dX0_start_102 : decode cX0_start 102 = .ok (.invokevirtual 54, 3) := by decide +kernel
theorem dX0_start_105 : decode cX0_start 105 = .ok (.ireturn, 1) := by decide +kernel
theorem dX0_start_106 : decode cX0_start 106 = .ok (.aload_n 0, 1) := by decide +kernel
theorem dX0_start_107 : decode cX0_start 107 = .ok (.aload_n 1, 1) := by decide +kernel
theorem dX0_start_108 : decode cX0_start 108 = .ok (.iload 6, 2) := by decide +kernel
theorem dX0_start_110 : decode cX0_start 110 = .ok (.iload 4, 2) := by decide +kernel
theorem dX0_start_112 : decode cX0_start 112 = .ok (.iload 5, 2) := by decide +kernel
theorem dX0_start_114 : decode cX0_start 114 = .ok (.invokevirtual 58, 3) := by decide +kernel
theorem dX0_start_117 : decode cX0_start 117 = .ok (.ireturn, 1) := by decide +kernel
theorem dX0_start_118 : decode cX0_start 118 = .ok (.aload_n 0, 1) := by decide +kernel
theorem dX0_start_119 : decode cX0_start 119 = .ok (.aload_n 1, 1) := by decide +kernel
theorem dX0_start_120 : decode cX0_start 120 = .ok (.iload 6, 2) := by decide +kernel
theorem dX0_start_122 : decode cX0_start 122 = .ok (.iload 4, 2) := by decide +kernel
theorem dX0_start_124 : decode cX0_start 124 = .ok (.iload 5, 2) := by decide +kernel
theorem dX0_start_126 : decode cX0_start 126 = .ok (.invokevirtual 61, 3) := by decide +kernel
theorem dX0_start_129 : decode cX0_start 129 = .ok (.ireturn, 1) := by decide +kernel
theorem dX0_start_130 : decode cX0_start 130 = .ok (.aload_n 0, 1) := by decide +kernel
theorem dX0_start_131 : decode cX0_start 131 = .ok (.aload_n 1, 1) := by decide +kernel
theorem dX0_start_132 : decode cX0_start 132 = .ok (.iload 6, 2) := by decide +kernel
theorem dX0_start_134 : decode cX0_start 134 = .ok (.iload 5, 2) := by decide +kernel
theorem dX0_start_136 : decode cX0_start 136 = .ok (.invokevirtual 64, 3) := by decide +kernel
theorem dX0_start_139 : decode cX0_start 139 = .ok (.ireturn, 1) := by decide +kernel
theorem dX0_start_140 : decode cX0_start 140 = .ok (.aload_n 0, 1) := by decide +kernel
theorem dX0_start_141 : decode cX0_start 141 = .ok (.aload_n 1, 1) := by decide +kernel
theorem dX0_start_142 : decode cX0_start 142 = .ok (.iload 6, 2) := by decide +kernel
theorem dX0_start_144 : decode cX0_start 144 = .ok (.iload 4, 2) := by decide +kernel
theorem dX0_start_146 : decode cX0_start 146 = .ok (.iload 5, 2) := by decide +kernel
theorem dX0_start_148 : decode cX0_start 148 = .ok (.invokevirtual 67, 3) := by decide +kernel
theorem dX0_start_151 : decode cX0_start 151 = .ok (.ireturn, 1) := by decide +kernel
theorem dX0_start_152 : decode cX0_start 152 = .ok (.aload_n 0, 1) := by decide +kernel
theorem dX0_start_153 : decode cX0_start 153 = .ok (.aload_n 1, 1) := by decide +kernel
theorem dX0_start_154 : decode cX0_start 154 = .ok (.iload 6, 2) := by decide +kernel
theorem dX0_start_156 : decode cX0_start 156 = .ok (.iload 5, 2) := by decide +kernel
theorem dX0_start_158 : decode cX0_start 158 = .ok (.invokevirtual 70, 3) := by decide +kernel
theorem dX0_start_161 : decode cX0_start 161 = .ok (.ireturn, 1) := by decide +kernel
set_option maxRecDepth 20000 in
theorem ggX0_askAbove_X4_within : GoodIn wsX0_askAbove wsX4_within := goodIn_r _ [3] (by decide +kernel) (by decide +kernel)
set_option maxRecDepth 20000 in
theorem gX0_askAbove_X4_within_n73 : GoodIn wsX0_askAbove (wsX4_within) := ggX0_askAbove_X4_within
set_option maxRecDepth 20000 in
theorem ggX0_askAbove_X0_start : GoodIn wsX0_askAbove wsX0_start := goodIn_r _ [48, 49, 50, 2, 51, 52, 53, 1, 3, 44, 45, 46, 7, 47, 30, 54, 55, 56, 57, 58, 59, 60, 61, 62, 63, 64, 65, 66, 67, 68, 69, 70, 71, 72, 73, 74, 75, 76, 77, 78, 79, 80, 81, 0, 4, 5, 6, 8, 9, 10, 11, 12, 13, 14, 15, 16, 17, 18, 19, 20, 21, 22, 23, 24, 25, 26, 27, 28, 29, 31, 32, 33, 34, 35, 36, 37, 38, 39, 40, 41, 42, 43, 82, 83, 84, 85, 86, 87, 88, 89, 90, 91, 92] (by decide +kernel) (by decide +kernel)
set_option maxRecDepth 20000 in
theorem gX0_askAbove_X0_start : GoodIn wsX0_askAbove (wsV RX0 34 RX0 yX0_start wsX0_start) := goodIn_app (goodIn_of _ (by decide +kernel)) ggX0_askAbove_X0_start
theorem dX0_askAbove_0 : decode cX0_askAbove 0 = .ok (.iload_n 2, 1) := by decide +kernel
theorem dX0_askAbove_1 : decode cX0_askAbove 1 = .ok (.iconst 0, 1) := by decide +kernel
theorem dX0_askAbove_2 : decode cX0_askAbove 2 = .ok (.bipush 9, 2) := by decide +kernel
theorem dX0_askAbove_4 : decode cX0_askAbove 4 = .ok (.invokestatic 73, 3) := by decide +kernel
theorem dX0_askAbove_7 : decode cX0_askAbove 7 = .ok (.ifCond .eq 23, 3) := by decide +kernel
theorem dX0_askAbove_10 : decode cX0_askAbove 10 = .ok (.aload_n 0, 1) := by decide +kernel
theorem dX0_askAbove_11 : decode cX0_askAbove 11 = .ok (.aload_n 1, 1) := by decide +kernel
theorem dX0_askAbove_12 : decode cX0_askAbove 12 = .ok (.getstatic 77, 3) := by decide +kernel
theorem dX0_askAbove_15 : decode cX0_askAbove 15 = .ok (.iload_n 2, 1) := by decide +kernel
theorem dX0_askAbove_16 : decode cX0_askAbove 16 = .ok (.iaload, 1) := by decide +kernel
theorem dX0_askAbove_17 : decode cX0_askAbove 17 = .ok (.iload_n 3, 1) := by decide +kernel
theorem dX0_askAbove_18 : decode cX0_askAbove 18 = .ok (.iload 4, 2) := by decide +kernel
theorem dX0_askAbove_20 : decode cX0_askAbove 20 = .ok (.iload 5, 2) := by decide +kernel
theorem dX0_askAbove_22 : decode cX0_askAbove 22 = .ok (.iconst 1, 1) := by decide +kernel
theorem dX0_askAbove_23 : decode cX0_askAbove 23 = .ok (.iadd, 1) := by decide +kernel
theorem dX0_askAbove_24 : decode cX0_askAbove 24 = .ok (.invokevirtual 34, 3) := by decide +kernel
theorem dX0_askAbove_27 : decode cX0_askAbove 27 = .ok (.goto 4, 3) := by decide +kernel
theorem dX0_askAbove_30 : decode cX0_askAbove 30 = .ok (.iconst 0, 1) := by decide +kernel
theorem dX0_askAbove_31 : decode cX0_askAbove 31 = .ok (.ireturn, 1) := by decide +kernel
set_option maxRecDepth 20000 in
theorem ggX0_askVehicle_X0_start : GoodIn wsX0_askVehicle wsX0_start := goodIn_r _ [48, 49, 50, 8, 51, 52, 53, 7, 9, 44, 45, 46, 5, 47, 30, 54, 55, 56, 57, 58, 59, 60, 61, 62, 63, 64, 65, 66, 67, 68, 69, 70, 71, 72, 73, 74, 75, 76, 77, 78, 79, 80, 81, 6, 2, 3, 4, 0, 1, 10, 11, 12, 13, 14, 15, 16, 17, 18, 19, 20, 21, 22, 23, 24, 25, 26, 27, 28, 29, 31, 32, 33, 34, 35, 36, 37, 38, 39, 40, 41, 42, 43, 82, 83, 84, 85, 86, 87, 88, 89, 90, 91, 92] (by decide +kernel) (by decide +kernel)
set_option maxRecDepth 20000 in
theorem gX0_askVehicle_X0_start : GoodIn wsX0_askVehicle (wsV RX0 34 RX0 yX0_start wsX0_start) := goodIn_app (goodIn_of _ (by decide +kernel)) ggX0_askVehicle_X0_start
theorem dX0_askVehicle_0 : decode cX0_askVehicle 0 = .ok (.aload_n 0, 1) := by decide +kernel
theorem dX0_askVehicle_1 : decode cX0_askVehicle 1 = .ok (.aload_n 1, 1) := by decide +kernel
theorem dX0_askVehicle_2 : decode cX0_askVehicle 2 = .ok (.aload_n 1, 1) := by decide +kernel
theorem dX0_askVehicle_3 : decode cX0_askVehicle 3 = .ok (.getfield 29, 3) := by decide +kernel
theorem dX0_askVehicle_6 : decode cX0_askVehicle 6 = .ok (.iload_n 2, 1) := by decide +kernel
theorem dX0_askVehicle_7 : decode cX0_askVehicle 7 = .ok (.iload_n 3, 1) := by decide +kernel
theorem dX0_askVehicle_8 : decode cX0_askVehicle 8 = .ok (.iload 4, 2) := by decide +kernel
theorem dX0_askVehicle_10 : decode cX0_askVehicle 10 = .ok (.iconst 1, 1) := by decide +kernel
theorem dX0_askVehicle_11 : decode cX0_askVehicle 11 = .ok (.iadd, 1) := by decide +kernel
theorem dX0_askVehicle_12 : decode cX0_askVehicle 12 = .ok (.invokevirtual 34, 3) := by decide +kernel
theorem dX0_askVehicle_15 : decode cX0_askVehicle 15 = .ok (.ireturn, 1) := by decide +kernel
theorem dX0_fail_0 : decode cX0_fail 0 = .ok (.aload_n 0, 1) := by decide +kernel
theorem dX0_fail_1 : decode cX0_fail 1 = .ok (.iload_n 1, 1) := by decide +kernel
theorem dX0_fail_2 : decode cX0_fail 2 = .ok (.putfield 26, 3) := by decide +kernel
theorem dX0_fail_5 : decode cX0_fail 5 = .ok (.iconst 0, 1) := by decide +kernel
theorem dX0_fail_6 : decode cX0_fail 6 = .ok (.ireturn, 1) := by decide +kernel
theorem dX0_takes_0 : decode cX0_takes 0 = .ok (.aload_n 0, 1) := by decide +kernel
theorem dX0_takes_1 : decode cX0_takes 1 = .ok (.getfield 26, 3) := by decide +kernel
theorem dX0_takes_4 : decode cX0_takes 4 = .ok (.iload_n 1, 1) := by decide +kernel
theorem dX0_takes_5 : decode cX0_takes 5 = .ok (.if_icmp .eq 5, 3) := by decide +kernel
theorem dX0_takes_8 : decode cX0_takes 8 = .ok (.iconst 0, 1) := by decide +kernel
theorem dX0_takes_9 : decode cX0_takes 9 = .ok (.ireturn, 1) := by decide +kernel
theorem dX0_takes_10 : decode cX0_takes 10 = .ok (.aload_n 0, 1) := by decide +kernel
theorem dX0_takes_11 : decode cX0_takes 11 = .ok (.iconst 0, 1) := by decide +kernel
theorem dX0_takes_12 : decode cX0_takes 12 = .ok (.putfield 26, 3) := by decide +kernel
theorem dX0_takes_15 : decode cX0_takes 15 = .ok (.iconst 1, 1) := by decide +kernel
theorem dX0_takes_16 : decode cX0_takes 16 = .ok (.ireturn, 1) := by decide +kernel
set_option maxRecDepth 20000 in
theorem ggX0_lengthBody_X0_askAbove : GoodIn wsX0_lengthBody wsX0_askAbove := goodIn_r _ [11, 12, 13, 14, 15, 16, 17, 10, 18, 19, 20, 2, 3, 4, 5, 6, 7, 8, 9, 21, 22, 23, 24, 25, 26, 27, 28, 29, 30, 31, 32, 33, 34, 35, 36, 37, 38, 39, 40, 0, 1, 41, 42, 43, 44, 45, 46, 47, 48, 49, 50, 51, 52, 53, 54, 55, 56, 57, 58, 59, 60, 61, 62, 63, 64, 65, 66, 67, 68, 69, 70, 71, 72, 73, 74, 75, 76, 77, 78, 79, 80, 81, 82, 83, 84, 85, 86, 87, 88, 89, 90, 91, 92] (by decide +kernel) (by decide +kernel)
set_option maxRecDepth 20000 in
theorem gX0_lengthBody_X0_askAbove : GoodIn wsX0_lengthBody (wsV RX0 81 RX0 yX0_askAbove wsX0_askAbove) := goodIn_app (goodIn_of _ (by decide +kernel)) ggX0_lengthBody_X0_askAbove
theorem dX0_lengthBody_0 : decode cX0_lengthBody 0 = .ok (.iload_n 2, 1) := by decide +kernel
theorem dX0_lengthBody_1 : decode cX0_lengthBody 1 = .ok (.ifCond .ne 8, 3) := by decide +kernel
theorem dX0_lengthBody_4 : decode cX0_lengthBody 4 = .ok (.aload_n 1, 1) := by decide +kernel
theorem dX0_lengthBody_5 : decode cX0_lengthBody 5 = .ok (.getfield 80, 3) := by decide +kernel
theorem dX0_lengthBody_8 : decode cX0_lengthBody 8 = .ok (.ireturn, 1) := by decide +kernel
theorem dX0_lengthBody_9 : decode cX0_lengthBody 9 = .ok (.aload_n 0, 1) := by decide +kernel
theorem dX0_lengthBody_10 : decode cX0_lengthBody 10 = .ok (.aload_n 1, 1) := by decide +kernel
theorem dX0_lengthBody_11 : decode cX0_lengthBody 11 = .ok (.iload_n 2, 1) := by decide +kernel
theorem dX0_lengthBody_12 : decode cX0_lengthBody 12 = .ok (.iconst 0, 1) := by decide +kernel
theorem dX0_lengthBody_13 : decode cX0_lengthBody 13 = .ok (.iconst 0, 1) := by decide +kernel
theorem dX0_lengthBody_14 : decode cX0_lengthBody 14 = .ok (.iload_n 3, 1) := by decide +kernel
theorem dX0_lengthBody_15 : decode cX0_lengthBody 15 = .ok (.invokevirtual 81, 3) := by decide +kernel
theorem dX0_lengthBody_18 : decode cX0_lengthBody 18 = .ok (.istore 4, 2) := by decide +kernel
theorem dX0_lengthBody_20 : decode cX0_lengthBody 20 = .ok (.iload_n 2, 1) := by decide +kernel
theorem dX0_lengthBody_21 : decode cX0_lengthBody 21 = .ok (.tableswitch 55 2 6 #[35, 55, 40, 55, 50], 35) := by decide +kernel
theorem dX0_lengthBody_56 : decode cX0_lengthBody 56 = .ok (.iload 4, 2) := by decide +kernel
theorem dX0_lengthBody_58 : decode cX0_lengthBody 58 = .ok (.iconst 1, 1) := by decide +kernel
theorem dX0_lengthBody_59 : decode cX0_lengthBody 59 = .ok (.iadd, 1) := by decide +kernel
theorem dX0_lengthBody_60 : decode cX0_lengthBody 60 = .ok (.ireturn, 1) := by decide +kernel
theorem dX0_lengthBody_61 : decode cX0_lengthBody 61 = .ok (.iload 4, 2) := by decide +kernel
theorem dX0_lengthBody_63 : decode cX0_lengthBody 63 = .ok (.aload_n 0, 1) := by decide +kernel
theorem dX0_lengthBody_64 : decode cX0_lengthBody 64 = .ok (.getfield 9, 3) := by decide +kernel
theorem dX0_lengthBody_67 : decode cX0_lengthBody 67 = .ok (.iconst 0, 1) := by decide +kernel
theorem dX0_lengthBody_68 : decode cX0_lengthBody 68 = .ok (.iaload, 1) := by decide +kernel
theorem dX0_lengthBody_69 : decode cX0_lengthBody 69 = .ok (.iadd, 1) := by decide +kernel
theorem dX0_lengthBody_70 : decode cX0_lengthBody 70 = .ok (.ireturn, 1) := by decide +kernel
theorem dX0_lengthBody_71 : decode cX0_lengthBody 71 = .ok (.iload 4, 2) := by decide +kernel
theorem dX0_lengthBody_73 : decode cX0_lengthBody 73 = .ok (.iconst 2, 1) := by decide +kernel
theorem dX0_lengthBody_74 : decode cX0_lengthBody 74 = .ok (.iadd, 1) := by decide +kernel
theorem dX0_lengthBody_75 : decode cX0_lengthBody 75 = .ok (.ireturn, 1) := by decide +kernel
theorem dX0_lengthBody_76 : decode cX0_lengthBody 76 = .ok (.iload 4, 2) := by decide +kernel
theorem dX0_lengthBody_78 : decode cX0_lengthBody 78 = .ok (.iconst 1, 1) := by decide +kernel
theorem dX0_lengthBody_79 : decode cX0_lengthBody 79 = .ok (.isub, 1) := by decide +kernel
theorem dX0_lengthBody_80 : decode cX0_lengthBody 80 = .ok (.iconst 1, 1) := by decide +kernel
theorem dX0_lengthBody_81 : decode cX0_lengthBody 81 = .ok (.invokestatic 84, 3) := by decide +kernel
theorem dX0_lengthBody_84 : decode cX0_lengthBody 84 = .ok (.ireturn, 1) := by decide +kernel
set_option maxRecDepth 20000 in
theorem ggX0_feeBody_X0_askAbove : GoodIn wsX0_feeBody wsX0_askAbove := goodIn_r _ [13, 14, 15, 16, 17, 18, 19, 9, 20, 21, 0, 1, 2, 3, 4, 5, 6, 7, 8, 10, 11, 12, 22, 23, 24, 25, 26, 27, 28, 29, 30, 31, 32, 33, 34, 35, 36, 37, 38, 39, 40, 41, 42, 43, 44, 45, 46, 47, 48, 49, 50, 51, 52, 53, 54, 55, 56, 57, 58, 59, 60, 61, 62, 63, 64, 65, 66, 67, 68, 69, 70, 71, 72, 73, 74, 75, 76, 77, 78, 79, 80, 81, 82, 83, 84, 85, 86, 87, 88, 89, 90, 91, 92] (by decide +kernel) (by decide +kernel)
set_option maxRecDepth 20000 in
theorem gX0_feeBody_X0_askAbove : GoodIn wsX0_feeBody (wsV RX0 81 RX0 yX0_askAbove wsX0_askAbove) := goodIn_app (goodIn_of _ (by decide +kernel)) ggX0_feeBody_X0_askAbove
set_option maxRecDepth 20000 in
theorem ggX0_feeBody_X0_askVehicle : GoodIn wsX0_feeBody wsX0_askVehicle := goodIn_r _ [20, 21, 17, 18, 19, 9, 13, 14, 15, 16, 0, 1, 2, 3, 4, 5, 6, 7, 8, 10, 11, 12, 22, 23, 24, 25, 26, 27, 28, 29, 30, 31, 32, 33, 34, 35, 36, 37, 38, 39, 40, 41, 42, 43, 44, 45, 46, 47, 48, 49, 50, 51, 52, 53, 54, 55, 56, 57, 58, 59, 60, 61, 62, 63, 64, 65, 66, 67, 68, 69, 70, 71, 72, 73, 74, 75, 76, 77, 78, 79, 80, 81, 82, 83, 84, 85, 86, 87, 88, 89, 90, 91, 92] (by decide +kernel) (by decide +kernel)
set_option maxRecDepth 20000 in
theorem gX0_feeBody_X0_askVehicle : GoodIn wsX0_feeBody (wsV RX0 89 RX0 yX0_askVehicle wsX0_askVehicle) := goodIn_app (goodIn_of _ (by decide +kernel)) ggX0_feeBody_X0_askVehicle
theorem dX0_feeBody_0 : decode cX0_feeBody 0 = .ok (.iload_n 2, 1) := by decide +kernel
theorem dX0_feeBody_1 : decode cX0_feeBody 1 = .ok (.ifCond .ne 19, 3) := by decide +kernel
theorem dX0_feeBody_4 : decode cX0_feeBody 4 = .ok (.aload_n 0, 1) := by decide +kernel
theorem dX0_feeBody_5 : decode cX0_feeBody 5 = .ok (.getfield 9, 3) := by decide +kernel
theorem dX0_feeBody_8 : decode cX0_feeBody 8 = .ok (.iconst 1, 1) := by decide +kernel
theorem dX0_feeBody_9 : decode cX0_feeBody 9 = .ok (.iaload, 1) := by decide +kernel
theorem dX0_feeBody_10 : decode cX0_feeBody 10 = .ok (.iload_n 3, 1) := by decide +kernel
theorem dX0_feeBody_11 : decode cX0_feeBody 11 = .ok (.aload_n 0, 1) := by decide +kernel
theorem dX0_feeBody_12 : decode cX0_feeBody 12 = .ok (.getfield 9, 3) := by decide +kernel
theorem dX0_feeBody_15 : decode cX0_feeBody 15 = .ok (.iconst 2, 1) := by decide +kernel
theorem dX0_feeBody_16 : decode cX0_feeBody 16 = .ok (.iaload, 1) := by decide +kernel
theorem dX0_feeBody_17 : decode cX0_feeBody 17 = .ok (.imul, 1) := by decide +kernel
theorem dX0_feeBody_18 : decode cX0_feeBody 18 = .ok (.iadd, 1) := by decide +kernel
theorem dX0_feeBody_19 : decode cX0_feeBody 19 = .ok (.ireturn, 1) := by decide +kernel
theorem dX0_feeBody_20 : decode cX0_feeBody 20 = .ok (.aload_n 0, 1) := by decide +kernel
theorem dX0_feeBody_21 : decode cX0_feeBody 21 = .ok (.aload_n 1, 1) := by decide +kernel
theorem dX0_feeBody_22 : decode cX0_feeBody 22 = .ok (.iload_n 2, 1) := by decide +kernel
theorem dX0_feeBody_23 : decode cX0_feeBody 23 = .ok (.iconst 1, 1) := by decide +kernel
theorem dX0_feeBody_24 : decode cX0_feeBody 24 = .ok (.iload_n 3, 1) := by decide +kernel
theorem dX0_feeBody_25 : decode cX0_feeBody 25 = .ok (.iload 4, 2) := by decide +kernel
theorem dX0_feeBody_27 : decode cX0_feeBody 27 = .ok (.invokevirtual 81, 3) := by decide +kernel
theorem dX0_feeBody_30 : decode cX0_feeBody 30 = .ok (.istore 5, 2) := by decide +kernel
theorem dX0_feeBody_32 : decode cX0_feeBody 32 = .ok (.iload_n 2, 1) := by decide +kernel
theorem dX0_feeBody_33 : decode cX0_feeBody 33 = .ok (.tableswitch 89 1 7 #[43, 89, 57, 89, 70, 89, 84], 43) := by decide +kernel
theorem dX0_feeBody_76 : decode cX0_feeBody 76 = .ok (.iload 5, 2) := by decide +kernel
theorem dX0_feeBody_78 : decode cX0_feeBody 78 = .ok (.aload_n 0, 1) := by decide +kernel
theorem dX0_feeBody_79 : decode cX0_feeBody 79 = .ok (.getfield 9, 3) := by decide +kernel
theorem dX0_feeBody_82 : decode cX0_feeBody 82 = .ok (.iconst 3, 1) := by decide +kernel
theorem dX0_feeBody_83 : decode cX0_feeBody 83 = .ok (.iaload, 1) := by decide +kernel
theorem dX0_feeBody_84 : decode cX0_feeBody 84 = .ok (.isub, 1) := by decide +kernel
theorem dX0_feeBody_85 : decode cX0_feeBody 85 = .ok (.iconst 0, 1) := by decide +kernel
theorem dX0_feeBody_86 : decode cX0_feeBody 86 = .ok (.invokestatic 84, 3) := by decide +kernel
theorem dX0_feeBody_89 : decode cX0_feeBody 89 = .ok (.ireturn, 1) := by decide +kernel
theorem dX0_feeBody_90 : decode cX0_feeBody 90 = .ok (.iload 5, 2) := by decide +kernel
theorem dX0_feeBody_92 : decode cX0_feeBody 92 = .ok (.aload_n 0, 1) := by decide +kernel
theorem dX0_feeBody_93 : decode cX0_feeBody 93 = .ok (.aload_n 1, 1) := by decide +kernel
theorem dX0_feeBody_94 : decode cX0_feeBody 94 = .ok (.iconst 0, 1) := by decide +kernel
theorem dX0_feeBody_95 : decode cX0_feeBody 95 = .ok (.iconst 0, 1) := by decide +kernel
theorem dX0_feeBody_96 : decode cX0_feeBody 96 = .ok (.iload 4, 2) := by decide +kernel
theorem dX0_feeBody_98 : decode cX0_feeBody 98 = .ok (.invokevirtual 89, 3) := by decide +kernel
theorem dX0_feeBody_101 : decode cX0_feeBody 101 = .ok (.iadd, 1) := by decide +kernel
theorem dX0_feeBody_102 : decode cX0_feeBody 102 = .ok (.ireturn, 1) := by decide +kernel
theorem dX0_feeBody_103 : decode cX0_feeBody 103 = .ok (.iload 5, 2) := by decide +kernel
theorem dX0_feeBody_105 : decode cX0_feeBody 105 = .ok (.aload_n 0, 1) := by decide +kernel
theorem dX0_feeBody_106 : decode cX0_feeBody 106 = .ok (.aload_n 1, 1) := by decide +kernel
theorem dX0_feeBody_107 : decode cX0_feeBody 107 = .ok (.iload_n 2, 1) := by decide +kernel
theorem dX0_feeBody_108 : decode cX0_feeBody 108 = .ok (.iconst 1, 1) := by decide +kernel
theorem dX0_feeBody_109 : decode cX0_feeBody 109 = .ok (.iconst 0, 1) := by decide +kernel
theorem dX0_feeBody_110 : decode cX0_feeBody 110 = .ok (.iload 4, 2) := by decide +kernel
theorem dX0_feeBody_112 : decode cX0_feeBody 112 = .ok (.invokevirtual 81, 3) := by decide +kernel
theorem dX0_feeBody_115 : decode cX0_feeBody 115 = .ok (.iadd, 1) := by decide +kernel
theorem dX0_feeBody_116 : decode cX0_feeBody 116 = .ok (.ireturn, 1) := by decide +kernel
theorem dX0_feeBody_117 : decode cX0_feeBody 117 = .ok (.iconst 2, 1) := by decide +kernel
theorem dX0_feeBody_118 : decode cX0_feeBody 118 = .ok (.iload 5, 2) := by decide +kernel
theorem dX0_feeBody_120 : decode cX0_feeBody 120 = .ok (.imul, 1) := by decide +kernel
theorem dX0_feeBody_121 : decode cX0_feeBody 121 = .ok (.ireturn, 1) := by decide +kernel
theorem dX0_feeBody_122 : decode cX0_feeBody 122 = .ok (.iload 5, 2) := by decide +kernel
theorem dX0_feeBody_124 : decode cX0_feeBody 124 = .ok (.aload_n 0, 1) := by decide +kernel
theorem dX0_feeBody_125 : decode cX0_feeBody 125 = .ok (.aload_n 1, 1) := by decide +kernel
theorem dX0_feeBody_126 : decode cX0_feeBody 126 = .ok (.iconst 2, 1) := by decide +kernel
theorem dX0_feeBody_127 : decode cX0_feeBody 127 = .ok (.iconst 0, 1) := by decide +kernel
theorem dX0_feeBody_128 : decode cX0_feeBody 128 = .ok (.iload 4, 2) := by decide +kernel
theorem dX0_feeBody_130 : decode cX0_feeBody 130 = .ok (.invokevirtual 89, 3) := by decide +kernel
theorem dX0_feeBody_133 : decode cX0_feeBody 133 = .ok (.iadd, 1) := by decide +kernel
theorem dX0_feeBody_134 : decode cX0_feeBody 134 = .ok (.ireturn, 1) := by decide +kernel
set_option maxRecDepth 20000 in
theorem ggX0_riskBody_X0_fail : GoodIn wsX0_riskBody wsX0_fail := goodIn_r _ [7, 8, 88, 89, 90] (by decide +kernel) (by decide +kernel)
set_option maxRecDepth 20000 in
theorem gX0_riskBody_X0_fail : GoodIn wsX0_riskBody (wsV RX0 92 RX0 yX0_fail wsX0_fail) := goodIn_app (goodIn_of _ (by decide +kernel)) ggX0_riskBody_X0_fail
set_option maxRecDepth 20000 in
theorem ggX0_riskBody_X0_askAbove : GoodIn wsX0_riskBody wsX0_askAbove := goodIn_r _ [20, 21, 22, 23, 24, 25, 26, 6, 27, 28, 29, 2, 30, 31, 32, 33, 9, 10, 11, 34, 35, 36, 37, 1, 38, 39, 3, 4, 5, 7, 8, 40, 41, 42, 43, 12, 13, 14, 15, 44, 45, 46, 47, 0, 16, 17, 18, 19, 48, 49, 50, 51, 52, 53, 54, 55, 56, 57, 58, 59, 60, 61, 62, 63, 64, 65, 66, 67, 68, 69, 70, 71, 72, 73, 74, 75, 76, 77, 78, 79, 80, 81, 82, 83, 84, 85, 86, 87, 88, 89, 90, 91, 92] (by decide +kernel) (by decide +kernel)
set_option maxRecDepth 20000 in
theorem gX0_riskBody_X0_askAbove : GoodIn wsX0_riskBody (wsV RX0 81 RX0 yX0_askAbove wsX0_askAbove) := goodIn_app (goodIn_of _ (by decide +kernel)) ggX0_riskBody_X0_askAbove
set_option maxRecDepth 20000 in
theorem ggX0_riskBody_X0_takes : GoodIn wsX0_riskBody wsX0_takes := goodIn_r _ [15, 8, 88, 89, 90] (by decide +kernel) (by decide +kernel)
set_option maxRecDepth 20000 in
theorem gX0_riskBody_X0_takes : GoodIn wsX0_riskBody (wsV RX0 99 RX0 yX0_takes wsX0_takes) := goodIn_app (goodIn_of _ (by decide +kernel)) ggX0_riskBody_X0_takes
set_option maxRecDepth 20000 in
theorem ggX0_riskBody_X0_failed : GoodIn wsX0_riskBody wsX0_failed := goodIn_r _ [19, 8, 88, 89, 90] (by decide +kernel) (by decide +kernel)
set_option maxRecDepth 20000 in
theorem gX0_riskBody_X0_failed : GoodIn wsX0_riskBody (wsV RX0 42 RX0 yX0_failed wsX0_failed) := goodIn_app (goodIn_of _ (by decide +kernel)) ggX0_riskBody_X0_failed
theorem dX0_riskBody_0 : decode cX0_riskBody 0 = .ok (.iload_n 2, 1) := by decide +kernel
theorem dX0_riskBody_1 : decode cX0_riskBody 1 = .ok (.ifCond .ne 19, 3) := by decide +kernel
theorem dX0_riskBody_4 : decode cX0_riskBody 4 = .ok (.iload_n 3, 1) := by decide +kernel
theorem dX0_riskBody_5 : decode cX0_riskBody 5 = .ok (.bipush 9, 2) := by decide +kernel
theorem dX0_riskBody_7 : decode cX0_riskBody 7 = .ok (.if_icmp .le 11, 3) := by decide +kernel
theorem dX0_riskBody_10 : decode cX0_riskBody 10 = .ok (.aload_n 0, 1) := by decide +kernel
theorem dX0_riskBody_11 : decode cX0_riskBody 11 = .ok (.iconst 1, 1) := by decide +kernel
theorem dX0_riskBody_12 : decode cX0_riskBody 12 = .ok (.invokevirtual 92, 3) := by decide +kernel
theorem dX0_riskBody_15 : decode cX0_riskBody 15 = .ok (.goto 4, 3) := by decide +kernel
theorem dX0_riskBody_18 : decode cX0_riskBody 18 = .ok (.iload_n 3, 1) := by decide +kernel
theorem dX0_riskBody_19 : decode cX0_riskBody 19 = .ok (.ireturn, 1) := by decide +kernel
theorem dX0_riskBody_20 : decode cX0_riskBody 20 = .ok (.iload_n 2, 1) := by decide +kernel
theorem dX0_riskBody_21 : decode cX0_riskBody 21 = .ok (.bipush 6, 2) := by decide +kernel
theorem dX0_riskBody_23 : decode cX0_riskBody 23 = .ok (.if_icmp .ne 22, 3) := by decide +kernel
theorem dX0_riskBody_26 : decode cX0_riskBody 26 = .ok (.aload_n 1, 1) := by decide +kernel
theorem dX0_riskBody_27 : decode cX0_riskBody 27 = .ok (.getfield 96, 3) := by decide +kernel
theorem dX0_riskBody_30 : decode cX0_riskBody 30 = .ok (.aload_n 0, 1) := by decide +kernel
theorem dX0_riskBody_31 : decode cX0_riskBody 31 = .ok (.getfield 9, 3) := by decide +kernel
theorem dX0_riskBody_34 : decode cX0_riskBody 34 = .ok (.iconst 4, 1) := by decide +kernel
theorem dX0_riskBody_35 : decode cX0_riskBody 35 = .ok (.iaload, 1) := by decide +kernel
theorem dX0_riskBody_36 : decode cX0_riskBody 36 = .ok (.if_icmp .le 9, 3) := by decide +kernel
theorem dX0_riskBody_39 : decode cX0_riskBody 39 = .ok (.aload_n 0, 1) := by decide +kernel
theorem dX0_riskBody_40 : decode cX0_riskBody 40 = .ok (.iconst 2, 1) := by decide +kernel
theorem dX0_riskBody_41 : decode cX0_riskBody 41 = .ok (.invokevirtual 92, 3) := by decide +kernel
theorem dX0_riskBody_44 : decode cX0_riskBody 44 = .ok (.ireturn, 1) := by decide +kernel
theorem dX0_riskBody_45 : decode cX0_riskBody 45 = .ok (.aload_n 0, 1) := by decide +kernel
theorem dX0_riskBody_46 : decode cX0_riskBody 46 = .ok (.aload_n 1, 1) := by decide +kernel
theorem dX0_riskBody_47 : decode cX0_riskBody 47 = .ok (.iload_n 2, 1) := by decide +kernel
theorem dX0_riskBody_48 : decode cX0_riskBody 48 = .ok (.iconst 2, 1) := by decide +kernel
theorem dX0_riskBody_49 : decode cX0_riskBody 49 = .ok (.iload_n 2, 1) := by decide +kernel
theorem dX0_riskBody_50 : decode cX0_riskBody 50 = .ok (.iconst 2, 1) := by decide +kernel
theorem dX0_riskBody_51 : decode cX0_riskBody 51 = .ok (.if_icmp .ne 9, 3) := by decide +kernel
theorem dX0_riskBody_54 : decode cX0_riskBody 54 = .ok (.iload_n 3, 1) := by decide +kernel
theorem dX0_riskBody_55 : decode cX0_riskBody 55 = .ok (.iconst 2, 1) := by decide +kernel
theorem dX0_riskBody_56 : decode cX0_riskBody 56 = .ok (.iadd, 1) := by decide +kernel
theorem dX0_riskBody_57 : decode cX0_riskBody 57 = .ok (.goto 4, 3) := by decide +kernel
theorem dX0_riskBody_60 : decode cX0_riskBody 60 = .ok (.iload_n 3, 1) := by decide +kernel
theorem dX0_riskBody_61 : decode cX0_riskBody 61 = .ok (.iload 4, 2) := by decide +kernel
theorem dX0_riskBody_63 : decode cX0_riskBody 63 = .ok (.invokevirtual 81, 3) := by decide +kernel
theorem dX0_riskBody_66 : decode cX0_riskBody 66 = .ok (.istore 5, 2) := by decide +kernel
theorem dX0_riskBody_68 : decode cX0_riskBody 68 = .ok (.iload_n 2, 1) := by decide +kernel
theorem dX0_riskBody_69 : decode cX0_riskBody 69 = .ok (.lookupswitch 92 #[(4, 35), (8, 51), (9, 76)], 35) := by decide +kernel
theorem dX0_riskBody_104 : decode cX0_riskBody 104 = .ok (.aload_n 0, 1) := by decide +kernel
theorem dX0_riskBody_105 : decode cX0_riskBody 105 = .ok (.iconst 1, 1) := by decide +kernel
theorem dX0_riskBody_106 : decode cX0_riskBody 106 = .ok (.invokevirtual 99, 3) := by decide +kernel
theorem dX0_riskBody_109 : decode cX0_riskBody 109 = .ok (.ifCond .eq 8, 3) := by decide +kernel
theorem dX0_riskBody_112 : decode cX0_riskBody 112 = .ok (.bipush 20, 2) := by decide +kernel
theorem dX0_riskBody_114 : decode cX0_riskBody 114 = .ok (.goto 5, 3) := by decide +kernel
theorem dX0_riskBody_117 : decode cX0_riskBody 117 = .ok (.iload 5, 2) := by decide +kernel
theorem dX0_riskBody_119 : decode cX0_riskBody 119 = .ok (.ireturn, 1) := by decide +kernel
theorem dX0_riskBody_120 : decode cX0_riskBody 120 = .ok (.aload_n 0, 1) := by decide +kernel
theorem dX0_riskBody_121 : decode cX0_riskBody 121 = .ok (.invokevirtual 42, 3) := by decide +kernel
theorem dX0_riskBody_124 : decode cX0_riskBody 124 = .ok (.ifCond .ne 18, 3) := by decide +kernel
theorem dX0_riskBody_127 : decode cX0_riskBody 127 = .ok (.iload 5, 2) := by decide +kernel
theorem dX0_riskBody_129 : decode cX0_riskBody 129 = .ok (.iconst 2, 1) := by decide +kernel
theorem dX0_riskBody_130 : decode cX0_riskBody 130 = .ok (.irem, 1) := by decide +kernel
theorem dX0_riskBody_131 : decode cX0_riskBody 131 = .ok (.ifCond .eq 11, 3) := by decide +kernel
theorem dX0_riskBody_134 : decode cX0_riskBody 134 = .ok (.aload_n 0, 1) := by decide +kernel
theorem dX0_riskBody_135 : decode cX0_riskBody 135 = .ok (.iconst 3, 1) := by decide +kernel
theorem dX0_riskBody_136 : decode cX0_riskBody 136 = .ok (.invokevirtual 92, 3) := by decide +kernel
theorem dX0_riskBody_139 : decode cX0_riskBody 139 = .ok (.goto 5, 3) := by decide +kernel
theorem dX0_riskBody_142 : decode cX0_riskBody 142 = .ok (.iload 5, 2) := by decide +kernel
theorem dX0_riskBody_144 : decode cX0_riskBody 144 = .ok (.ireturn, 1) := by decide +kernel
theorem dX0_riskBody_145 : decode cX0_riskBody 145 = .ok (.aload_n 0, 1) := by decide +kernel
theorem dX0_riskBody_146 : decode cX0_riskBody 146 = .ok (.iconst 3, 1) := by decide +kernel
theorem dX0_riskBody_147 : decode cX0_riskBody 147 = .ok (.invokevirtual 99, 3) := by decide +kernel
theorem dX0_riskBody_150 : decode cX0_riskBody 150 = .ok (.ifCond .eq 8, 3) := by decide +kernel
theorem dX0_riskBody_153 : decode cX0_riskBody 153 = .ok (.bipush 50, 2) := by decide +kernel
theorem dX0_riskBody_155 : decode cX0_riskBody 155 = .ok (.goto 5, 3) := by decide +kernel
theorem dX0_riskBody_158 : decode cX0_riskBody 158 = .ok (.iload 5, 2) := by decide +kernel
theorem dX0_riskBody_160 : decode cX0_riskBody 160 = .ok (.ireturn, 1) := by decide +kernel
theorem dX0_riskBody_161 : decode cX0_riskBody 161 = .ok (.iload 5, 2) := by decide +kernel
theorem dX0_riskBody_163 : decode cX0_riskBody 163 = .ok (.ireturn, 1) := by decide +kernel
set_option maxRecDepth 20000 in
theorem ggX0_lashBody_X0_askAbove : GoodIn wsX0_lashBody wsX0_askAbove := goodIn_r _ [15, 16, 17, 18, 19, 20, 21, 6, 22, 23, 24, 2, 25, 26, 27, 28, 3, 4, 5, 29, 30, 31, 32, 33, 0, 1, 7, 8, 9, 10, 11, 12, 13, 14, 34, 35, 36, 37, 38, 39, 40, 41, 42, 43, 44, 45, 46, 47, 48, 49, 50, 51, 52, 53, 54, 55, 56, 57, 58, 59, 60, 61, 62, 63, 64, 65, 66, 67, 68, 69, 70, 71, 72, 73, 74, 75, 76, 77, 78, 79, 80, 81, 82, 83, 84, 85, 86, 87, 88, 89, 90, 91, 92] (by decide +kernel) (by decide +kernel)
set_option maxRecDepth 20000 in
theorem gX0_lashBody_X0_askAbove : GoodIn wsX0_lashBody (wsV RX0 81 RX0 yX0_askAbove wsX0_askAbove) := goodIn_app (goodIn_of _ (by decide +kernel)) ggX0_lashBody_X0_askAbove
set_option maxRecDepth 20000 in
theorem ggX0_lashBody_X0_fail : GoodIn wsX0_lashBody wsX0_fail := goodIn_r _ [10, 11, 88, 89, 90] (by decide +kernel) (by decide +kernel)
set_option maxRecDepth 20000 in
theorem gX0_lashBody_X0_fail : GoodIn wsX0_lashBody (wsV RX0 92 RX0 yX0_fail wsX0_fail) := goodIn_app (goodIn_of _ (by decide +kernel)) ggX0_lashBody_X0_fail
set_option maxRecDepth 20000 in
theorem ggX0_lashBody_X0_lashMixed : GoodIn wsX0_lashBody wsX0_lashMixed := goodIn_r _ [34, 1, 3, 4, 5, 6, 35, 36, 37, 38, 11, 15, 16, 17, 18, 19, 20, 21, 22, 23, 24, 2, 25, 26, 27, 28, 29, 30, 31, 32, 33, 0, 7, 8, 9, 10, 12, 13, 14, 39, 40, 41, 42, 43, 44, 45, 46, 47, 48, 49, 50, 51, 52, 53, 54, 55, 56, 57, 58, 59, 60, 61, 62, 63, 64, 65, 66, 67, 68, 69, 70, 71, 72, 73, 74, 75, 76, 77, 78, 79, 80, 81, 82, 83, 84, 85, 86, 87, 88, 89, 90, 91, 92] (by decide +kernel) (by decide +kernel)
set_option maxRecDepth 20000 in
theorem gX0_lashBody_X0_lashMixed : GoodIn wsX0_lashBody (wsV RX0 106 RX0 yX0_lashMixed wsX0_lashMixed) := goodIn_app (goodIn_of _ (by decide +kernel)) ggX0_lashBody_X0_lashMixed
theorem dX0_lashBody_0 : decode cX0_lashBody 0 = .ok (.iload_n 2, 1) := by decide +kernel
theorem dX0_lashBody_1 : decode cX0_lashBody 1 = .ok (.tableswitch 146 0 8 #[51, 146, 66, 146, 88, 146, 146, 101, 114], 51) := by decide +kernel
theorem dX0_lashBody_52 : decode cX0_lashBody 52 = .ok (.aload_n 1, 1) := by decide +kernel
theorem dX0_lashBody_53 : decode cX0_lashBody 53 = .ok (.dup, 1) := by decide +kernel
theorem dX0_lashBody_54 : decode cX0_lashBody 54 = .ok (.getfield 103, 3) := by decide +kernel
theorem dX0_lashBody_57 : decode cX0_lashBody 57 = .ok (.iload_n 3, 1) := by decide +kernel
theorem dX0_lashBody_58 : decode cX0_lashBody 58 = .ok (.iadd, 1) := by decide +kernel
theorem dX0_lashBody_59 : decode cX0_lashBody 59 = .ok (.putfield 103, 3) := by decide +kernel
theorem dX0_lashBody_62 : decode cX0_lashBody 62 = .ok (.aload_n 1, 1) := by decide +kernel
theorem dX0_lashBody_63 : decode cX0_lashBody 63 = .ok (.getfield 103, 3) := by decide +kernel
theorem dX0_lashBody_66 : decode cX0_lashBody 66 = .ok (.ireturn, 1) := by decide +kernel
theorem dX0_lashBody_67 : decode cX0_lashBody 67 = .ok (.aload_n 0, 1) := by decide +kernel
theorem dX0_lashBody_68 : decode cX0_lashBody 68 = .ok (.aload_n 1, 1) := by decide +kernel
theorem dX0_lashBody_69 : decode cX0_lashBody 69 = .ok (.iload_n 2, 1) := by decide +kernel
theorem dX0_lashBody_70 : decode cX0_lashBody 70 = .ok (.iconst 3, 1) := by decide +kernel
theorem dX0_lashBody_71 : decode cX0_lashBody 71 = .ok (.iload_n 3, 1) := by decide +kernel
theorem dX0_lashBody_72 : decode cX0_lashBody 72 = .ok (.iload 4, 2) := by decide +kernel
theorem dX0_lashBody_74 : decode cX0_lashBody 74 = .ok (.invokevirtual 81, 3) := by decide +kernel
theorem dX0_lashBody_77 : decode cX0_lashBody 77 = .ok (.pop, 1) := by decide +kernel
theorem dX0_lashBody_78 : decode cX0_lashBody 78 = .ok (.aload_n 0, 1) := by decide +kernel
theorem dX0_lashBody_79 : decode cX0_lashBody 79 = .ok (.aload_n 1, 1) := by decide +kernel
theorem dX0_lashBody_80 : decode cX0_lashBody 80 = .ok (.iload_n 2, 1) := by decide +kernel
theorem dX0_lashBody_81 : decode cX0_lashBody 81 = .ok (.iconst 3, 1) := by decide +kernel
theorem dX0_lashBody_82 : decode cX0_lashBody 82 = .ok (.iconst 1, 1) := by decide +kernel
theorem dX0_lashBody_83 : decode cX0_lashBody 83 = .ok (.iload 4, 2) := by decide +kernel
theorem dX0_lashBody_85 : decode cX0_lashBody 85 = .ok (.invokevirtual 81, 3) := by decide +kernel
theorem dX0_lashBody_88 : decode cX0_lashBody 88 = .ok (.ireturn, 1) := by decide +kernel
theorem dX0_lashBody_89 : decode cX0_lashBody 89 = .ok (.aload_n 0, 1) := by decide +kernel
theorem dX0_lashBody_90 : decode cX0_lashBody 90 = .ok (.aload_n 1, 1) := by decide +kernel
theorem dX0_lashBody_91 : decode cX0_lashBody 91 = .ok (.iload_n 2, 1) := by decide +kernel
theorem dX0_lashBody_92 : decode cX0_lashBody 92 = .ok (.iconst 3, 1) := by decide +kernel
theorem dX0_lashBody_93 : decode cX0_lashBody 93 = .ok (.iload_n 3, 1) := by decide +kernel
theorem dX0_lashBody_94 : decode cX0_lashBody 94 = .ok (.iconst 2, 1) := by decide +kernel
theorem dX0_lashBody_95 : decode cX0_lashBody 95 = .ok (.idiv, 1) := by decide +kernel
theorem dX0_lashBody_96 : decode cX0_lashBody 96 = .ok (.iload 4, 2) := by decide +kernel
theorem dX0_lashBody_98 : decode cX0_lashBody 98 = .ok (.invokevirtual 81, 3) := by decide +kernel
theorem dX0_lashBody_101 : decode cX0_lashBody 101 = .ok (.ireturn, 1) := by decide +kernel
theorem dX0_lashBody_102 : decode cX0_lashBody 102 = .ok (.aload_n 0, 1) := by decide +kernel
theorem dX0_lashBody_103 : decode cX0_lashBody 103 = .ok (.aload_n 1, 1) := by decide +kernel
theorem dX0_lashBody_104 : decode cX0_lashBody 104 = .ok (.iload_n 2, 1) := by decide +kernel
theorem dX0_lashBody_105 : decode cX0_lashBody 105 = .ok (.iconst 3, 1) := by decide +kernel
theorem dX0_lashBody_106 : decode cX0_lashBody 106 = .ok (.iload_n 3, 1) := by decide +kernel
theorem dX0_lashBody_107 : decode cX0_lashBody 107 = .ok (.iload_n 3, 1) := by decide +kernel
theorem dX0_lashBody_108 : decode cX0_lashBody 108 = .ok (.iadd, 1) := by decide +kernel
theorem dX0_lashBody_109 : decode cX0_lashBody 109 = .ok (.iload 4, 2) := by decide +kernel
theorem dX0_lashBody_111 : decode cX0_lashBody 111 = .ok (.invokevirtual 81, 3) := by decide +kernel
theorem dX0_lashBody_114 : decode cX0_lashBody 114 = .ok (.ireturn, 1) := by decide +kernel
theorem dX0_lashBody_115 : decode cX0_lashBody 115 = .ok (.aload_n 1, 1) := by decide +kernel
theorem dX0_lashBody_116 : decode cX0_lashBody 116 = .ok (.getfield 103, 3) := by decide +kernel
theorem dX0_lashBody_119 : decode cX0_lashBody 119 = .ok (.aload_n 0, 1) := by decide +kernel
theorem dX0_lashBody_120 : decode cX0_lashBody 120 = .ok (.getfield 9, 3) := by decide +kernel
theorem dX0_lashBody_123 : decode cX0_lashBody 123 = .ok (.iconst 5, 1) := by decide +kernel
theorem dX0_lashBody_124 : decode cX0_lashBody 124 = .ok (.iaload, 1) := by decide +kernel
theorem dX0_lashBody_125 : decode cX0_lashBody 125 = .ok (.if_icmp .le 11, 3) := by decide +kernel
theorem dX0_lashBody_128 : decode cX0_lashBody 128 = .ok (.aload_n 0, 1) := by decide +kernel
theorem dX0_lashBody_129 : decode cX0_lashBody 129 = .ok (.iconst 4, 1) := by decide +kernel
theorem dX0_lashBody_130 : decode cX0_lashBody 130 = .ok (.invokevirtual 92, 3) := by decide +kernel
theorem dX0_lashBody_133 : decode cX0_lashBody 133 = .ok (.goto 13, 3) := by decide +kernel
theorem dX0_lashBody_136 : decode cX0_lashBody 136 = .ok (.aload_n 0, 1) := by decide +kernel
theorem dX0_lashBody_137 : decode cX0_lashBody 137 = .ok (.aload_n 1, 1) := by decide +kernel
theorem dX0_lashBody_138 : decode cX0_lashBody 138 = .ok (.iload_n 2, 1) := by decide +kernel
theorem dX0_lashBody_139 : decode cX0_lashBody 139 = .ok (.iconst 3, 1) := by decide +kernel
theorem dX0_lashBody_140 : decode cX0_lashBody 140 = .ok (.iload_n 3, 1) := by decide +kernel
theorem dX0_lashBody_141 : decode cX0_lashBody 141 = .ok (.iload 4, 2) := by decide +kernel
theorem dX0_lashBody_143 : decode cX0_lashBody 143 = .ok (.invokevirtual 81, 3) := by decide +kernel
theorem dX0_lashBody_146 : decode cX0_lashBody 146 = .ok (.ireturn, 1) := by decide +kernel
theorem dX0_lashBody_147 : decode cX0_lashBody 147 = .ok (.aload_n 0, 1) := by decide +kernel
theorem dX0_lashBody_148 : decode cX0_lashBody 148 = .ok (.aload_n 1, 1) := by decide +kernel
theorem dX0_lashBody_149 : decode cX0_lashBody 149 = .ok (.iload_n 3, 1) := by decide +kernel
theorem dX0_lashBody_150 : decode cX0_lashBody 150 = .ok (.iload 4, 2) := by decide +kernel
theorem dX0_lashBody_152 : decode cX0_lashBody 152 = .ok (.invokevirtual 106, 3) := by decide +kernel
theorem dX0_lashBody_155 : decode cX0_lashBody 155 = .ok (.ireturn, 1) := by decide +kernel
set_option maxRecDepth 20000 in
theorem ggX0_lashMixed_X0_askAbove : GoodIn wsX0_lashMixed wsX0_askAbove := goodIn_r _ [11, 12, 13, 14, 15, 16, 17, 5, 18, 19, 20, 21, 22, 23, 24, 25, 2, 3, 4, 26, 27, 28, 29, 30, 31, 1, 32, 33, 34, 35, 10, 36, 37, 38, 0, 6, 7, 8, 9, 39, 40, 41, 42, 43, 44, 45, 46, 47, 48, 49, 50, 51, 52, 53, 54, 55, 56, 57, 58, 59, 60, 61, 62, 63, 64, 65, 66, 67, 68, 69, 70, 71, 72, 73, 74, 75, 76, 77, 78, 79, 80, 81, 82, 83, 84, 85, 86, 87, 88, 89, 90, 91, 92] (by decide +kernel) (by decide +kernel)
set_option maxRecDepth 20000 in
theorem gX0_lashMixed_X0_askAbove : GoodIn wsX0_lashMixed (wsV RX0 81 RX0 yX0_askAbove wsX0_askAbove) := goodIn_app (goodIn_of _ (by decide +kernel)) ggX0_lashMixed_X0_askAbove
set_option maxRecDepth 20000 in
theorem ggX0_lashMixed_X0_takes : GoodIn wsX0_lashMixed wsX0_takes := goodIn_r _ [9, 10, 88, 89, 90] (by decide +kernel) (by decide +kernel)
set_option maxRecDepth 20000 in
theorem gX0_lashMixed_X0_takes : GoodIn wsX0_lashMixed (wsV RX0 99 RX0 yX0_takes wsX0_takes) := goodIn_app (goodIn_of _ (by decide +kernel)) ggX0_lashMixed_X0_takes
theorem dX0_lashMixed_0 : decode cX0_lashMixed 0 = .ok (.aload_n 0, 1) := by decide +kernel
theorem dX0_lashMixed_1 : decode cX0_lashMixed 1 = .ok (.aload_n 1, 1) := by decide +kernel
theorem dX0_lashMixed_2 : decode cX0_lashMixed 2 = .ok (.bipush 9, 2) := by decide +kernel
theorem dX0_lashMixed_4 : decode cX0_lashMixed 4 = .ok (.iconst 3, 1) := by decide +kernel
theorem dX0_lashMixed_5 : decode cX0_lashMixed 5 = .ok (.iload_n 2, 1) := by decide +kernel
theorem dX0_lashMixed_6 : decode cX0_lashMixed 6 = .ok (.iload_n 3, 1) := by decide +kernel
theorem dX0_lashMixed_7 : decode cX0_lashMixed 7 = .ok (.invokevirtual 81, 3) := by decide +kernel
theorem dX0_lashMixed_10 : decode cX0_lashMixed 10 = .ok (.istore 4, 2) := by decide +kernel
theorem dX0_lashMixed_12 : decode cX0_lashMixed 12 = .ok (.aload_n 0, 1) := by decide +kernel
theorem dX0_lashMixed_13 : decode cX0_lashMixed 13 = .ok (.iconst 4, 1) := by decide +kernel
theorem dX0_lashMixed_14 : decode cX0_lashMixed 14 = .ok (.invokevirtual 99, 3) := by decide +kernel
theorem dX0_lashMixed_17 : decode cX0_lashMixed 17 = .ok (.ifCond .ne 6, 3) := by decide +kernel
theorem dX0_lashMixed_20 : decode cX0_lashMixed 20 = .ok (.iload 4, 2) := by decide +kernel
theorem dX0_lashMixed_22 : decode cX0_lashMixed 22 = .ok (.ireturn, 1) := by decide +kernel
theorem dX0_lashMixed_23 : decode cX0_lashMixed 23 = .ok (.aload_n 1, 1) := by decide +kernel
theorem dX0_lashMixed_24 : decode cX0_lashMixed 24 = .ok (.iconst 0, 1) := by decide +kernel
theorem dX0_lashMixed_25 : decode cX0_lashMixed 25 = .ok (.putfield 103, 3) := by decide +kernel
theorem dX0_lashMixed_28 : decode cX0_lashMixed 28 = .ok (.aload_n 0, 1) := by decide +kernel
theorem dX0_lashMixed_29 : decode cX0_lashMixed 29 = .ok (.aload_n 1, 1) := by decide +kernel
theorem dX0_lashMixed_30 : decode cX0_lashMixed 30 = .ok (.bipush 9, 2) := by decide +kernel
theorem dX0_lashMixed_32 : decode cX0_lashMixed 32 = .ok (.iconst 3, 1) := by decide +kernel
theorem dX0_lashMixed_33 : decode cX0_lashMixed 33 = .ok (.iload_n 2, 1) := by decide +kernel
theorem dX0_lashMixed_34 : decode cX0_lashMixed 34 = .ok (.iload_n 3, 1) := by decide +kernel
theorem dX0_lashMixed_35 : decode cX0_lashMixed 35 = .ok (.invokevirtual 81, 3) := by decide +kernel
theorem dX0_lashMixed_38 : decode cX0_lashMixed 38 = .ok (.ireturn, 1) := by decide +kernel
set_option maxRecDepth 20000 in
theorem ggX0_markBody_X0_askAbove : GoodIn wsX0_markBody wsX0_askAbove := goodIn_r _ [7, 8, 9, 10, 11, 12, 13, 6, 14, 15, 16, 17, 18, 19, 20, 21, 3, 4, 5, 22, 23, 24, 25, 2, 26, 27, 28, 29, 30, 31, 32, 33, 34, 35, 36, 37, 38, 39, 40, 41, 1, 0, 42, 43, 44, 45, 46, 47, 48, 49, 50, 51, 52, 53, 54, 55, 56, 57, 58, 59, 60, 61, 62, 63, 64, 65, 66, 67, 68, 69, 70, 71, 72, 73, 74, 75, 76, 77, 78, 79, 80, 81, 82, 83, 84, 85, 86, 87, 88, 89, 90, 91, 92] (by decide +kernel) (by decide +kernel)
set_option maxRecDepth 20000 in
theorem gX0_markBody_X0_askAbove : GoodIn wsX0_markBody (wsV RX0 81 RX0 yX0_askAbove wsX0_askAbove) := goodIn_app (goodIn_of _ (by decide +kernel)) ggX0_markBody_X0_askAbove
theorem dX0_markBody_0 : decode cX0_markBody 0 = .ok (.iload_n 2, 1) := by decide +kernel
theorem dX0_markBody_1 : decode cX0_markBody 1 = .ok (.ifCond .ne 11, 3) := by decide +kernel
theorem dX0_markBody_4 : decode cX0_markBody 4 = .ok (.aload_n 1, 1) := by decide +kernel
theorem dX0_markBody_5 : decode cX0_markBody 5 = .ok (.getfield 80, 3) := by decide +kernel
theorem dX0_markBody_8 : decode cX0_markBody 8 = .ok (.bipush 10, 2) := by decide +kernel
theorem dX0_markBody_10 : decode cX0_markBody 10 = .ok (.irem, 1) := by decide +kernel
theorem dX0_markBody_11 : decode cX0_markBody 11 = .ok (.ireturn, 1) := by decide +kernel
theorem dX0_markBody_12 : decode cX0_markBody 12 = .ok (.aload_n 0, 1) := by decide +kernel
theorem dX0_markBody_13 : decode cX0_markBody 13 = .ok (.aload_n 1, 1) := by decide +kernel
theorem dX0_markBody_14 : decode cX0_markBody 14 = .ok (.iload_n 2, 1) := by decide +kernel
theorem dX0_markBody_15 : decode cX0_markBody 15 = .ok (.iconst 4, 1) := by decide +kernel
theorem dX0_markBody_16 : decode cX0_markBody 16 = .ok (.iconst 0, 1) := by decide +kernel
theorem dX0_markBody_17 : decode cX0_markBody 17 = .ok (.iload_n 3, 1) := by decide +kernel
theorem dX0_markBody_18 : decode cX0_markBody 18 = .ok (.invokevirtual 81, 3) := by decide +kernel
theorem dX0_markBody_21 : decode cX0_markBody 21 = .ok (.istore 4, 2) := by decide +kernel
theorem dX0_markBody_23 : decode cX0_markBody 23 = .ok (.iload_n 2, 1) := by decide +kernel
theorem dX0_markBody_24 : decode cX0_markBody 24 = .ok (.lookupswitch 44 #[(3, 28), (5, 39)], 28) := by decide +kernel
theorem dX0_markBody_52 : decode cX0_markBody 52 = .ok (.iload 4, 2) := by decide +kernel
theorem dX0_markBody_54 : decode cX0_markBody 54 = .ok (.aload_n 1, 1) := by decide +kernel
theorem dX0_markBody_55 : decode cX0_markBody 55 = .ok (.getfield 96, 3) := by decide +kernel
theorem dX0_markBody_58 : decode cX0_markBody 58 = .ok (.bipush 7, 2) := by decide +kernel
theorem dX0_markBody_60 : decode cX0_markBody 60 = .ok (.irem, 1) := by decide +kernel
theorem dX0_markBody_61 : decode cX0_markBody 61 = .ok (.iadd, 1) := by decide +kernel
theorem dX0_markBody_62 : decode cX0_markBody 62 = .ok (.ireturn, 1) := by decide +kernel
theorem dX0_markBody_63 : decode cX0_markBody 63 = .ok (.iconst 2, 1) := by decide +kernel
theorem dX0_markBody_64 : decode cX0_markBody 64 = .ok (.iload 4, 2) := by decide +kernel
theorem dX0_markBody_66 : decode cX0_markBody 66 = .ok (.imul, 1) := by decide +kernel
theorem dX0_markBody_67 : decode cX0_markBody 67 = .ok (.ireturn, 1) := by decide +kernel
theorem dX0_markBody_68 : decode cX0_markBody 68 = .ok (.iload 4, 2) := by decide +kernel
theorem dX0_markBody_70 : decode cX0_markBody 70 = .ok (.iconst 5, 1) := by decide +kernel
theorem dX0_markBody_71 : decode cX0_markBody 71 = .ok (.iadd, 1) := by decide +kernel
theorem dX0_markBody_72 : decode cX0_markBody 72 = .ok (.ireturn, 1) := by decide +kernel
set_option maxRecDepth 20000 in
theorem ggX0_pullBody_X0_askAbove : GoodIn wsX0_pullBody wsX0_askAbove := goodIn_r _ [8, 9, 10, 11, 12, 13, 14, 4, 15, 16, 17, 18, 19, 20, 21, 22, 1, 2, 3, 5, 6, 7, 23, 24, 25, 26, 27, 28, 29, 30, 31, 32, 33, 34, 35, 36, 37, 38, 39, 40, 41, 42, 0, 43, 44, 45, 46, 47, 48, 49, 50, 51, 52, 53, 54, 55, 56, 57, 58, 59, 60, 61, 62, 63, 64, 65, 66, 67, 68, 69, 70, 71, 72, 73, 74, 75, 76, 77, 78, 79, 80, 81, 82, 83, 84, 85, 86, 87, 88, 89, 90, 91, 92] (by decide +kernel) (by decide +kernel)
set_option maxRecDepth 20000 in
theorem gX0_pullBody_X0_askAbove : GoodIn wsX0_pullBody (wsV RX0 81 RX0 yX0_askAbove wsX0_askAbove) := goodIn_app (goodIn_of _ (by decide +kernel)) ggX0_pullBody_X0_askAbove
set_option maxRecDepth 20000 in
theorem ggX0_pullBody_X0_askVehicle : GoodIn wsX0_pullBody wsX0_askVehicle := goodIn_r _ [15, 16, 12, 13, 14, 4, 8, 9, 10, 11, 17, 18, 19, 20, 21, 22, 1, 2, 3, 5, 6, 7, 23, 24, 25, 26, 27, 28, 29, 30, 31, 32, 33, 34, 35, 36, 37, 38, 39, 40, 41, 42, 0, 43, 44, 45, 46, 47, 48, 49, 50, 51, 52, 53, 54, 55, 56, 57, 58, 59, 60, 61, 62, 63, 64, 65, 66, 67, 68, 69, 70, 71, 72, 73, 74, 75, 76, 77, 78, 79, 80, 81, 82, 83, 84, 85, 86, 87, 88, 89, 90, 91, 92] (by decide +kernel) (by decide +kernel)
set_option maxRecDepth 20000 in
theorem gX0_pullBody_X0_askVehicle : GoodIn wsX0_pullBody (wsV RX0 89 RX0 yX0_askVehicle wsX0_askVehicle) := goodIn_app (goodIn_of _ (by decide +kernel)) ggX0_pullBody_X0_askVehicle
theorem dX0_pullBody_0 : decode cX0_pullBody 0 = .ok (.iload_n 2, 1) := by decide +kernel
theorem dX0_pullBody_1 : decode cX0_pullBody 1 = .ok (.iconst 5, 1) := by decide +kernel
theorem dX0_pullBody_2 : decode cX0_pullBody 2 = .ok (.if_icmp .ne 16, 3) := by decide +kernel
theorem dX0_pullBody_5 : decode cX0_pullBody 5 = .ok (.aload_n 0, 1) := by decide +kernel
theorem dX0_pullBody_6 : decode cX0_pullBody 6 = .ok (.aload_n 1, 1) := by decide +kernel
theorem dX0_pullBody_7 : decode cX0_pullBody 7 = .ok (.iload_n 2, 1) := by decide +kernel
theorem dX0_pullBody_8 : decode cX0_pullBody 8 = .ok (.iconst 5, 1) := by decide +kernel
theorem dX0_pullBody_9 : decode cX0_pullBody 9 = .ok (.iload_n 3, 1) := by decide +kernel
theorem dX0_pullBody_10 : decode cX0_pullBody 10 = .ok (.iconst 1, 1) := by decide +kernel
theorem dX0_pullBody_11 : decode cX0_pullBody 11 = .ok (.iadd, 1) := by decide +kernel
theorem dX0_pullBody_12 : decode cX0_pullBody 12 = .ok (.iload 4, 2) := by decide +kernel
theorem dX0_pullBody_14 : decode cX0_pullBody 14 = .ok (.invokevirtual 81, 3) := by decide +kernel
theorem dX0_pullBody_17 : decode cX0_pullBody 17 = .ok (.ireturn, 1) := by decide +kernel
theorem dX0_pullBody_18 : decode cX0_pullBody 18 = .ok (.aload_n 0, 1) := by decide +kernel
theorem dX0_pullBody_19 : decode cX0_pullBody 19 = .ok (.aload_n 1, 1) := by decide +kernel
theorem dX0_pullBody_20 : decode cX0_pullBody 20 = .ok (.bipush 6, 2) := by decide +kernel
theorem dX0_pullBody_22 : decode cX0_pullBody 22 = .ok (.iconst 0, 1) := by decide +kernel
theorem dX0_pullBody_23 : decode cX0_pullBody 23 = .ok (.iload 4, 2) := by decide +kernel
theorem dX0_pullBody_25 : decode cX0_pullBody 25 = .ok (.invokevirtual 89, 3) := by decide +kernel
theorem dX0_pullBody_28 : decode cX0_pullBody 28 = .ok (.istore 5, 2) := by decide +kernel
theorem dX0_pullBody_30 : decode cX0_pullBody 30 = .ok (.iload 5, 2) := by decide +kernel
theorem dX0_pullBody_32 : decode cX0_pullBody 32 = .ok (.iload_n 3, 1) := by decide +kernel
theorem dX0_pullBody_33 : decode cX0_pullBody 33 = .ok (.imul, 1) := by decide +kernel
theorem dX0_pullBody_34 : decode cX0_pullBody 34 = .ok (.aload_n 0, 1) := by decide +kernel
theorem dX0_pullBody_35 : decode cX0_pullBody 35 = .ok (.aload_n 1, 1) := by decide +kernel
theorem dX0_pullBody_36 : decode cX0_pullBody 36 = .ok (.iconst 4, 1) := by decide +kernel
theorem dX0_pullBody_37 : decode cX0_pullBody 37 = .ok (.iconst 0, 1) := by decide +kernel
theorem dX0_pullBody_38 : decode cX0_pullBody 38 = .ok (.iload 4, 2) := by decide +kernel
theorem dX0_pullBody_40 : decode cX0_pullBody 40 = .ok (.invokevirtual 89, 3) := by decide +kernel
theorem dX0_pullBody_43 : decode cX0_pullBody 43 = .ok (.iadd, 1) := by decide +kernel
theorem dX0_pullBody_44 : decode cX0_pullBody 44 = .ok (.ireturn, 1) := by decide +kernel
set_option maxRecDepth 20000 in
theorem ggX0_hookBody_X0_askAbove : GoodIn wsX0_hookBody wsX0_askAbove := goodIn_r _ [7, 8, 9, 10, 11, 12, 13, 6, 14, 15, 16, 1, 17, 18, 19, 20, 3, 4, 5, 21, 22, 23, 0, 2, 24, 25, 26, 27, 28, 29, 30, 31, 32, 33, 34, 35, 36, 37, 38, 39, 40, 41, 42, 43, 44, 45, 46, 47, 48, 49, 50, 51, 52, 53, 54, 55, 56, 57, 58, 59, 60, 61, 62, 63, 64, 65, 66, 67, 68, 69, 70, 71, 72, 73, 74, 75, 76, 77, 78, 79, 80, 81, 82, 83, 84, 85, 86, 87, 88, 89, 90, 91, 92] (by decide +kernel) (by decide +kernel)
set_option maxRecDepth 20000 in
theorem gX0_hookBody_X0_askAbove : GoodIn wsX0_hookBody (wsV RX0 81 RX0 yX0_askAbove wsX0_askAbove) := goodIn_app (goodIn_of _ (by decide +kernel)) ggX0_hookBody_X0_askAbove
theorem dX0_hookBody_0 : decode cX0_hookBody 0 = .ok (.iload_n 2, 1) := by decide +kernel
theorem dX0_hookBody_1 : decode cX0_hookBody 1 = .ok (.tableswitch 65 3 7 #[35, 65, 37, 65, 56], 35) := by decide +kernel
theorem dX0_hookBody_36 : decode cX0_hookBody 36 = .ok (.iconst 3, 1) := by decide +kernel
theorem dX0_hookBody_37 : decode cX0_hookBody 37 = .ok (.ireturn, 1) := by decide +kernel
theorem dX0_hookBody_38 : decode cX0_hookBody 38 = .ok (.aload_n 0, 1) := by decide +kernel
theorem dX0_hookBody_39 : decode cX0_hookBody 39 = .ok (.aload_n 1, 1) := by decide +kernel
theorem dX0_hookBody_40 : decode cX0_hookBody 40 = .ok (.iload_n 2, 1) := by decide +kernel
theorem dX0_hookBody_41 : decode cX0_hookBody 41 = .ok (.bipush 6, 2) := by decide +kernel
theorem dX0_hookBody_43 : decode cX0_hookBody 43 = .ok (.iconst 0, 1) := by decide +kernel
theorem dX0_hookBody_44 : decode cX0_hookBody 44 = .ok (.iload_n 3, 1) := by decide +kernel
theorem dX0_hookBody_45 : decode cX0_hookBody 45 = .ok (.invokevirtual 81, 3) := by decide +kernel
theorem dX0_hookBody_48 : decode cX0_hookBody 48 = .ok (.aload_n 0, 1) := by decide +kernel
theorem dX0_hookBody_49 : decode cX0_hookBody 49 = .ok (.getfield 9, 3) := by decide +kernel
theorem dX0_hookBody_52 : decode cX0_hookBody 52 = .ok (.bipush 6, 2) := by decide +kernel
theorem dX0_hookBody_54 : decode cX0_hookBody 54 = .ok (.iaload, 1) := by decide +kernel
theorem dX0_hookBody_55 : decode cX0_hookBody 55 = .ok (.iadd, 1) := by decide +kernel
theorem dX0_hookBody_56 : decode cX0_hookBody 56 = .ok (.ireturn, 1) := by decide +kernel
theorem dX0_hookBody_57 : decode cX0_hookBody 57 = .ok (.aload_n 1, 1) := by decide +kernel
theorem dX0_hookBody_58 : decode cX0_hookBody 58 = .ok (.getfield 96, 3) := by decide +kernel
theorem dX0_hookBody_61 : decode cX0_hookBody 61 = .ok (.sipush 1000, 3) := by decide +kernel
theorem dX0_hookBody_64 : decode cX0_hookBody 64 = .ok (.idiv, 1) := by decide +kernel
theorem dX0_hookBody_65 : decode cX0_hookBody 65 = .ok (.ireturn, 1) := by decide +kernel
theorem dX0_hookBody_66 : decode cX0_hookBody 66 = .ok (.aload_n 0, 1) := by decide +kernel
theorem dX0_hookBody_67 : decode cX0_hookBody 67 = .ok (.aload_n 1, 1) := by decide +kernel
theorem dX0_hookBody_68 : decode cX0_hookBody 68 = .ok (.iload_n 2, 1) := by decide +kernel
theorem dX0_hookBody_69 : decode cX0_hookBody 69 = .ok (.bipush 6, 2) := by decide +kernel
theorem dX0_hookBody_71 : decode cX0_hookBody 71 = .ok (.iconst 0, 1) := by decide +kernel
theorem dX0_hookBody_72 : decode cX0_hookBody 72 = .ok (.iload_n 3, 1) := by decide +kernel
theorem dX0_hookBody_73 : decode cX0_hookBody 73 = .ok (.invokevirtual 81, 3) := by decide +kernel
theorem dX0_hookBody_76 : decode cX0_hookBody 76 = .ok (.aload_n 0, 1) := by decide +kernel
theorem dX0_hookBody_77 : decode cX0_hookBody 77 = .ok (.aload_n 1, 1) := by decide +kernel
theorem dX0_hookBody_78 : decode cX0_hookBody 78 = .ok (.iload_n 2, 1) := by decide +kernel
theorem dX0_hookBody_79 : decode cX0_hookBody 79 = .ok (.bipush 6, 2) := by decide +kernel
theorem dX0_hookBody_81 : decode cX0_hookBody 81 = .ok (.iconst 0, 1) := by decide +kernel
theorem dX0_hookBody_82 : decode cX0_hookBody 82 = .ok (.iload_n 3, 1) := by decide +kernel
theorem dX0_hookBody_83 : decode cX0_hookBody 83 = .ok (.invokevirtual 81, 3) := by decide +kernel
theorem dX0_hookBody_86 : decode cX0_hookBody 86 = .ok (.iadd, 1) := by decide +kernel
theorem dX0_hookBody_87 : decode cX0_hookBody 87 = .ok (.ireturn, 1) := by decide +kernel
theorem dX1_init_0 : decode cX1_init 0 = .ok (.aload_n 0, 1) := by decide +kernel
theorem dX1_init_1 : decode cX1_init 1 = .ok (.invokespecial 1, 3) := by decide +kernel
theorem dX1_init_4 : decode cX1_init 4 = .ok (.return_, 1) := by decide +kernel
theorem dX1_left_0 : decode cX1_left 0 = .ok (.aload_n 0, 1) := by decide +kernel
theorem dX1_left_1 : decode cX1_left 1 = .ok (.getfield 7, 3) := by decide +kernel
theorem dX1_left_4 : decode cX1_left 4 = .ok (.aload_n 0, 1) := by decide +kernel
theorem dX1_left_5 : decode cX1_left 5 = .ok (.getfield 13, 3) := by decide +kernel
theorem dX1_left_8 : decode cX1_left 8 = .ok (.isub, 1) := by decide +kernel
theorem dX1_left_9 : decode cX1_left 9 = .ok (.ireturn, 1) := by decide +kernel
theorem dX1_receive_0 : decode cX1_receive 0 = .ok (.aload_n 0, 1) := by decide +kernel
theorem dX1_receive_1 : decode cX1_receive 1 = .ok (.dup, 1) := by decide +kernel
theorem dX1_receive_2 : decode cX1_receive 2 = .ok (.getfield 13, 3) := by decide +kernel
theorem dX1_receive_5 : decode cX1_receive 5 = .ok (.iload_n 1, 1) := by decide +kernel
theorem dX1_receive_6 : decode cX1_receive 6 = .ok (.iadd, 1) := by decide +kernel
theorem dX1_receive_7 : decode cX1_receive 7 = .ok (.putfield 13, 3) := by decide +kernel
theorem dX1_receive_10 : decode cX1_receive 10 = .ok (.aload_n 0, 1) := by decide +kernel
theorem dX1_receive_11 : decode cX1_receive 11 = .ok (.dup, 1) := by decide +kernel
theorem dX1_receive_12 : decode cX1_receive 12 = .ok (.getfield 16, 3) := by decide +kernel
theorem dX1_receive_15 : decode cX1_receive 15 = .ok (.iconst 1, 1) := by decide +kernel
theorem dX1_receive_16 : decode cX1_receive 16 = .ok (.iadd, 1) := by decide +kernel
theorem dX1_receive_17 : decode cX1_receive 17 = .ok (.putfield 16, 3) := by decide +kernel
theorem dX1_receive_20 : decode cX1_receive 20 = .ok (.return_, 1) := by decide +kernel
theorem dX1_release_0 : decode cX1_release 0 = .ok (.aload_n 0, 1) := by decide +kernel
theorem dX1_release_1 : decode cX1_release 1 = .ok (.dup, 1) := by decide +kernel
theorem dX1_release_2 : decode cX1_release 2 = .ok (.getfield 13, 3) := by decide +kernel
theorem dX1_release_5 : decode cX1_release 5 = .ok (.iload_n 1, 1) := by decide +kernel
theorem dX1_release_6 : decode cX1_release 6 = .ok (.isub, 1) := by decide +kernel
theorem dX1_release_7 : decode cX1_release 7 = .ok (.putfield 13, 3) := by decide +kernel
theorem dX1_release_10 : decode cX1_release 10 = .ok (.aload_n 0, 1) := by decide +kernel
theorem dX1_release_11 : decode cX1_release 11 = .ok (.dup, 1) := by decide +kernel
theorem dX1_release_12 : decode cX1_release 12 = .ok (.getfield 16, 3) := by decide +kernel
theorem dX1_release_15 : decode cX1_release 15 = .ok (.iconst 1, 1) := by decide +kernel
theorem dX1_release_16 : decode cX1_release 16 = .ok (.isub, 1) := by decide +kernel
theorem dX1_release_17 : decode cX1_release 17 = .ok (.putfield 16, 3) := by decide +kernel
theorem dX1_release_20 : decode cX1_release 20 = .ok (.return_, 1) := by decide +kernel
theorem dX2_init_0 : decode cX2_init 0 = .ok (.aload_n 0, 1) := by decide +kernel
theorem dX2_init_1 : decode cX2_init 1 = .ok (.invokespecial 3, 3) := by decide +kernel
theorem dX2_init_4 : decode cX2_init 4 = .ok (.aload_n 0, 1) := by decide +kernel
theorem dX2_init_5 : decode cX2_init 5 = .ok (.sipush 400, 3) := by decide +kernel
theorem dX2_init_8 : decode cX2_init 8 = .ok (.newarray .int, 2) := by decide +kernel
theorem dX2_init_10 : decode cX2_init 10 = .ok (.putfield 9, 3) := by decide +kernel
theorem dX2_init_13 : decode cX2_init 13 = .ok (.return_, 1) := by decide +kernel
set_option maxRecDepth 20000 in
theorem ggX2_has_X4_within : GoodIn wsX2_has wsX4_within := goodIn_r _ [4] (by decide +kernel) (by decide +kernel)
set_option maxRecDepth 20000 in
theorem gX2_has_X4_within_n19 : GoodIn wsX2_has (wsX4_within) := ggX2_has_X4_within
theorem dX2_has_0 : decode cX2_has 0 = .ok (.iload_n 1, 1) := by decide +kernel
theorem dX2_has_1 : decode cX2_has 1 = .ok (.iconst 0, 1) := by decide +kernel
theorem dX2_has_2 : decode cX2_has 2 = .ok (.aload_n 0, 1) := by decide +kernel
theorem dX2_has_3 : decode cX2_has 3 = .ok (.getfield 15, 3) := by decide +kernel
theorem dX2_has_6 : decode cX2_has 6 = .ok (.iconst 1, 1) := by decide +kernel
theorem dX2_has_7 : decode cX2_has 7 = .ok (.isub, 1) := by decide +kernel
theorem dX2_has_8 : decode cX2_has 8 = .ok (.invokestatic 19, 3) := by decide +kernel
theorem dX2_has_11 : decode cX2_has 11 = .ok (.ireturn, 1) := by decide +kernel
theorem dX2_write_0 : decode cX2_write 0 = .ok (.aload_n 0, 1) := by decide +kernel
theorem dX2_write_1 : decode cX2_write 1 = .ok (.getfield 15, 3) := by decide +kernel
theorem dX2_write_4 : decode cX2_write 4 = .ok (.sipush 400, 3) := by decide +kernel
theorem dX2_write_7 : decode cX2_write 7 = .ok (.if_icmp .ge 23, 3) := by decide +kernel
theorem dX2_write_10 : decode cX2_write 10 = .ok (.aload_n 0, 1) := by decide +kernel
theorem dX2_write_11 : decode cX2_write 11 = .ok (.getfield 9, 3) := by decide +kernel
theorem dX2_write_14 : decode cX2_write 14 = .ok (.aload_n 0, 1) := by decide +kernel
theorem dX2_write_15 : decode cX2_write 15 = .ok (.getfield 15, 3) := by decide +kernel
theorem dX2_write_18 : decode cX2_write 18 = .ok (.iload_n 1, 1) := by decide +kernel
theorem dX2_write_19 : decode cX2_write 19 = .ok (.iastore, 1) := by decide +kernel
theorem dX2_write_20 : decode cX2_write 20 = .ok (.aload_n 0, 1) := by decide +kernel
theorem dX2_write_21 : decode cX2_write 21 = .ok (.dup, 1) := by decide +kernel
theorem dX2_write_22 : decode cX2_write 22 = .ok (.getfield 15, 3) := by decide +kernel
theorem dX2_write_25 : decode cX2_write 25 = .ok (.iconst 1, 1) := by decide +kernel
theorem dX2_write_26 : decode cX2_write 26 = .ok (.iadd, 1) := by decide +kernel
theorem dX2_write_27 : decode cX2_write 27 = .ok (.putfield 15, 3) := by decide +kernel
theorem dX2_write_30 : decode cX2_write 30 = .ok (.return_, 1) := by decide +kernel
theorem dX3_init_0 : decode cX3_init 0 = .ok (.aload_n 0, 1) := by decide +kernel
theorem dX3_init_1 : decode cX3_init 1 = .ok (.invokespecial 3, 3) := by decide +kernel
theorem dX3_init_4 : decode cX3_init 4 = .ok (.aload_n 0, 1) := by decide +kernel
theorem dX3_init_5 : decode cX3_init 5 = .ok (.iload_n 1, 1) := by decide +kernel
theorem dX3_init_6 : decode cX3_init 6 = .ok (.putfield 9, 3) := by decide +kernel
theorem dX3_init_9 : decode cX3_init 9 = .ok (.aload_n 0, 1) := by decide +kernel
theorem dX3_init_10 : decode cX3_init 10 = .ok (.iload_n 2, 1) := by decide +kernel
theorem dX3_init_11 : decode cX3_init 11 = .ok (.putfield 15, 3) := by decide +kernel
theorem dX3_init_14 : decode cX3_init 14 = .ok (.aload_n 0, 1) := by decide +kernel
theorem dX3_init_15 : decode cX3_init 15 = .ok (.iload_n 3, 1) := by decide +kernel
theorem dX3_init_16 : decode cX3_init 16 = .ok (.putfield 18, 3) := by decide +kernel
theorem dX3_init_19 : decode cX3_init 19 = .ok (.aload_n 0, 1) := by decide +kernel
theorem dX3_init_20 : decode cX3_init 20 = .ok (.iconst (-1), 1) := by decide +kernel
theorem dX3_init_21 : decode cX3_init 21 = .ok (.putfield 21, 3) := by decide +kernel
theorem dX3_init_24 : decode cX3_init 24 = .ok (.return_, 1) := by decide +kernel
theorem dX3_goAshore_0 : decode cX3_goAshore 0 = .ok (.aload_n 0, 1) := by decide +kernel
theorem dX3_goAshore_1 : decode cX3_goAshore 1 = .ok (.iconst 0, 1) := by decide +kernel
theorem dX3_goAshore_2 : decode cX3_goAshore 2 = .ok (.putfield 24, 3) := by decide +kernel
theorem dX3_goAshore_5 : decode cX3_goAshore 5 = .ok (.aload_n 0, 1) := by decide +kernel
theorem dX3_goAshore_6 : decode cX3_goAshore 6 = .ok (.iconst (-1), 1) := by decide +kernel
theorem dX3_goAshore_7 : decode cX3_goAshore 7 = .ok (.putfield 21, 3) := by decide +kernel
theorem dX3_goAshore_10 : decode cX3_goAshore 10 = .ok (.aload_n 0, 1) := by decide +kernel
theorem dX3_goAshore_11 : decode cX3_goAshore 11 = .ok (.iconst 0, 1) := by decide +kernel
theorem dX3_goAshore_12 : decode cX3_goAshore 12 = .ok (.putfield 27, 3) := by decide +kernel
theorem dX3_goAshore_15 : decode cX3_goAshore 15 = .ok (.return_, 1) := by decide +kernel
set_option maxRecDepth 20000 in
theorem ggX4_init_X1_init : GoodIn wsX4_init wsX1_init := goodIn_r _ [15, 16, 2, 3] (by decide +kernel) (by decide +kernel)
set_option maxRecDepth 20000 in
theorem gX4_init_X1_init_n21 : GoodIn wsX4_init (wsX1_init) := ggX4_init_X1_init
set_option maxRecDepth 20000 in
theorem ggX4_init_X0_init : GoodIn wsX4_init wsX0_init := goodIn_r _ [18, 19, 2, 3, 20, 21, 22, 23, 24, 25, 26, 27, 28, 29, 42, 43, 44, 45, 46] (by decide +kernel) (by decide +kernel)
set_option maxRecDepth 20000 in
theorem gX4_init_X0_init_n24 : GoodIn wsX4_init (wsX0_init) := ggX4_init_X0_init
theorem dX4_init_0 : decode cX4_init 0 = .ok (.aload_n 0, 1) := by decide +kernel
theorem dX4_init_1 : decode cX4_init 1 = .ok (.invokespecial 3, 3) := by decide +kernel
theorem dX4_init_4 : decode cX4_init 4 = .ok (.aload_n 0, 1) := by decide +kernel
theorem dX4_init_5 : decode cX4_init 5 = .ok (.bipush 70, 2) := by decide +kernel
theorem dX4_init_7 : decode cX4_init 7 = .ok (.anewarray 9, 3) := by decide +kernel
theorem dX4_init_10 : decode cX4_init 10 = .ok (.putfield 11, 3) := by decide +kernel
theorem dX4_init_13 : decode cX4_init 13 = .ok (.aload_n 0, 1) := by decide +kernel
theorem dX4_init_14 : decode cX4_init 14 = .ok (.iconst 3, 1) := by decide +kernel
theorem dX4_init_15 : decode cX4_init 15 = .ok (.anewarray 15, 3) := by decide +kernel
theorem dX4_init_18 : decode cX4_init 18 = .ok (.putfield 17, 3) := by decide +kernel
theorem dX4_init_21 : decode cX4_init 21 = .ok (.iconst 0, 1) := by decide +kernel
theorem dX4_init_22 : decode cX4_init 22 = .ok (.istore_n 1, 1) := by decide +kernel
theorem dX4_init_23 : decode cX4_init 23 = .ok (.iload_n 1, 1) := by decide +kernel
theorem dX4_init_24 : decode cX4_init 24 = .ok (.iconst 3, 1) := by decide +kernel
theorem dX4_init_25 : decode cX4_init 25 = .ok (.if_icmp .ge 22, 3) := by decide +kernel
theorem dX4_init_28 : decode cX4_init 28 = .ok (.aload_n 0, 1) := by decide +kernel
theorem dX4_init_29 : decode cX4_init 29 = .ok (.getfield 17, 3) := by decide +kernel
theorem dX4_init_32 : decode cX4_init 32 = .ok (.iload_n 1, 1) := by decide +kernel
theorem dX4_init_33 : decode cX4_init 33 = .ok (.new 15, 3) := by decide +kernel
theorem dX4_init_36 : decode cX4_init 36 = .ok (.dup, 1) := by decide +kernel
theorem dX4_init_37 : decode cX4_init 37 = .ok (.invokespecial 21, 3) := by decide +kernel
theorem dX4_init_40 : decode cX4_init 40 = .ok (.aastore, 1) := by decide +kernel
theorem dX4_init_41 : decode cX4_init 41 = .ok (.iinc 1 1, 3) := by decide +kernel
theorem dX4_init_44 : decode cX4_init 44 = .ok (.goto (-21), 3) := by decide +kernel
theorem dX4_init_47 : decode cX4_init 47 = .ok (.aload_n 0, 1) := by decide +kernel
theorem dX4_init_48 : decode cX4_init 48 = .ok (.new 22, 3) := by decide +kernel
theorem dX4_init_51 : decode cX4_init 51 = .ok (.dup, 1) := by decide +kernel
theorem dX4_init_52 : decode cX4_init 52 = .ok (.invokespecial 24, 3) := by decide +kernel
theorem dX4_init_55 : decode cX4_init 55 = .ok (.putfield 25, 3) := by decide +kernel
theorem dX4_init_58 : decode cX4_init 58 = .ok (.return_, 1) := by decide +kernel
set_option maxRecDepth 20000 in
theorem ggX4_term_X4_within : GoodIn wsX4_term wsX4_within := goodIn_r _ [6] (by decide +kernel) (by decide +kernel)
set_option maxRecDepth 20000 in
theorem gX4_term_X4_within : GoodIn wsX4_term (va_wsS RX4 29 yX4_within wsX4_within) := goodIn_app (goodIn_of _ (by decide +kernel)) ggX4_term_X4_within
theorem dX4_term_0 : decode cX4_term 0 = .ok (.iload_n 1, 1) := by decide +kernel
theorem dX4_term_1 : decode cX4_term 1 = .ok (.iconst 0, 1) := by decide +kernel
theorem dX4_term_2 : decode cX4_term 2 = .ok (.bipush 7, 2) := by decide +kernel
theorem dX4_term_4 : decode cX4_term 4 = .ok (.invokestatic 29, 3) := by decide +kernel
theorem dX4_term_7 : decode cX4_term 7 = .ok (.ifCond .eq 14, 3) := by decide +kernel
theorem dX4_term_10 : decode cX4_term 10 = .ok (.iload_n 2, 1) := by decide +kernel
theorem dX4_term_11 : decode cX4_term 11 = .ok (.iconst 0, 1) := by decide +kernel
theorem dX4_term_12 : decode cX4_term 12 = .ok (.sipush 1000, 3) := by decide +kernel
theorem dX4_term_15 : decode cX4_term 15 = .ok (.invokestatic 29, 3) := by decide +kernel
theorem dX4_term_18 : decode cX4_term 18 = .ok (.ifCond .ne 5, 3) := by decide +kernel
theorem dX4_term_21 : decode cX4_term 21 = .ok (.iconst (-1), 1) := by decide +kernel
theorem dX4_term_22 : decode cX4_term 22 = .ok (.ireturn, 1) := by decide +kernel
theorem dX4_term_23 : decode cX4_term 23 = .ok (.aload_n 0, 1) := by decide +kernel
theorem dX4_term_24 : decode cX4_term 24 = .ok (.getfield 25, 3) := by decide +kernel
theorem dX4_term_27 : decode cX4_term 27 = .ok (.getfield 33, 3) := by decide +kernel
theorem dX4_term_30 : decode cX4_term 30 = .ok (.iload_n 1, 1) := by decide +kernel
theorem dX4_term_31 : decode cX4_term 31 = .ok (.iaload, 1) := by decide +kernel
theorem dX4_term_32 : decode cX4_term 32 = .ok (.istore_n 3, 1) := by decide +kernel
theorem dX4_term_33 : decode cX4_term 33 = .ok (.aload_n 0, 1) := by decide +kernel
theorem dX4_term_34 : decode cX4_term 34 = .ok (.getfield 25, 3) := by decide +kernel
theorem dX4_term_37 : decode cX4_term 37 = .ok (.getfield 33, 3) := by decide +kernel
theorem dX4_term_40 : decode cX4_term 40 = .ok (.iload_n 1, 1) := by decide +kernel
theorem dX4_term_41 : decode cX4_term 41 = .ok (.iload_n 2, 1) := by decide +kernel
theorem dX4_term_42 : decode cX4_term 42 = .ok (.iastore, 1) := by decide +kernel
theorem dX4_term_43 : decode cX4_term 43 = .ok (.iload_n 3, 1) := by decide +kernel
theorem dX4_term_44 : decode cX4_term 44 = .ok (.ireturn, 1) := by decide +kernel
set_option maxRecDepth 20000 in
theorem ggX4_deck_X4_deckAt : GoodIn wsX4_deck wsX4_deckAt := goodIn_r _ [7, 8, 9, 10, 6, 11, 15, 16, 17, 18, 19, 20, 21, 22, 23] (by decide +kernel) (by decide +kernel)
set_option maxRecDepth 20000 in
theorem gX4_deck_X4_deckAt : GoodIn wsX4_deck (wsV RX4 37 RX4 yX4_deckAt wsX4_deckAt) := goodIn_app (goodIn_of _ (by decide +kernel)) ggX4_deck_X4_deckAt
set_option maxRecDepth 20000 in
theorem ggX4_deck_X4_within : GoodIn wsX4_deck wsX4_within := goodIn_r _ [11] (by decide +kernel) (by decide +kernel)
set_option maxRecDepth 20000 in
theorem gX4_deck_X4_within : GoodIn wsX4_deck (va_wsS RX4 29 yX4_within wsX4_within) := goodIn_app (goodIn_of _ (by decide +kernel)) ggX4_deck_X4_within
theorem dX4_deck_0 : decode cX4_deck 0 = .ok (.aload_n 0, 1) := by decide +kernel
theorem dX4_deck_1 : decode cX4_deck 1 = .ok (.iload_n 1, 1) := by decide +kernel
theorem dX4_deck_2 : decode cX4_deck 2 = .ok (.invokevirtual 37, 3) := by decide +kernel
theorem dX4_deck_5 : decode cX4_deck 5 = .ok (.astore_n 3, 1) := by decide +kernel
theorem dX4_deck_6 : decode cX4_deck 6 = .ok (.aload_n 3, 1) := by decide +kernel
theorem dX4_deck_7 : decode cX4_deck 7 = .ok (.ifnull 14, 3) := by decide +kernel
theorem dX4_deck_10 : decode cX4_deck 10 = .ok (.iload_n 2, 1) := by decide +kernel
theorem dX4_deck_11 : decode cX4_deck 11 = .ok (.iconst 0, 1) := by decide +kernel
theorem dX4_deck_12 : decode cX4_deck 12 = .ok (.sipush 10000, 3) := by decide +kernel
theorem dX4_deck_15 : decode cX4_deck 15 = .ok (.invokestatic 29, 3) := by decide +kernel
theorem dX4_deck_18 : decode cX4_deck 18 = .ok (.ifCond .ne 5, 3) := by decide +kernel
theorem dX4_deck_21 : decode cX4_deck 21 = .ok (.iconst (-1), 1) := by decide +kernel
theorem dX4_deck_22 : decode cX4_deck 22 = .ok (.ireturn, 1) := by decide +kernel
theorem dX4_deck_23 : decode cX4_deck 23 = .ok (.aload_n 3, 1) := by decide +kernel
theorem dX4_deck_24 : decode cX4_deck 24 = .ok (.getfield 41, 3) := by decide +kernel
theorem dX4_deck_27 : decode cX4_deck 27 = .ok (.iload_n 2, 1) := by decide +kernel
theorem dX4_deck_28 : decode cX4_deck 28 = .ok (.if_icmp .le 6, 3) := by decide +kernel
theorem dX4_deck_31 : decode cX4_deck 31 = .ok (.bipush (-4), 2) := by decide +kernel
theorem dX4_deck_33 : decode cX4_deck 33 = .ok (.ireturn, 1) := by decide +kernel
theorem dX4_deck_34 : decode cX4_deck 34 = .ok (.aload_n 3, 1) := by decide +kernel
theorem dX4_deck_35 : decode cX4_deck 35 = .ok (.getfield 45, 3) := by decide +kernel
theorem dX4_deck_38 : decode cX4_deck 38 = .ok (.istore 4, 2) := by decide +kernel
theorem dX4_deck_40 : decode cX4_deck 40 = .ok (.aload_n 3, 1) := by decide +kernel
theorem dX4_deck_41 : decode cX4_deck 41 = .ok (.iload_n 2, 1) := by decide +kernel
theorem dX4_deck_42 : decode cX4_deck 42 = .ok (.putfield 45, 3) := by decide +kernel
theorem dX4_deck_45 : decode cX4_deck 45 = .ok (.iload 4, 2) := by decide +kernel
theorem dX4_deck_47 : decode cX4_deck 47 = .ok (.ireturn, 1) := by decide +kernel
set_option maxRecDepth 20000 in
theorem ggX4_vehicle_X4_within : GoodIn wsX4_vehicle wsX4_within := goodIn_r _ [10] (by decide +kernel) (by decide +kernel)
set_option maxRecDepth 20000 in
theorem gX4_vehicle_X4_within : GoodIn wsX4_vehicle (va_wsS RX4 29 yX4_within wsX4_within) := goodIn_app (goodIn_of _ (by decide +kernel)) ggX4_vehicle_X4_within
set_option maxRecDepth 20000 in
theorem ggX4_vehicle_X3_init : GoodIn wsX4_vehicle wsX3_init := goodIn_r _ [13, 14, 15, 16, 17, 18, 19, 20, 30, 31, 32, 33, 34, 35] (by decide +kernel) (by decide +kernel)
set_option maxRecDepth 20000 in
theorem gX4_vehicle_X3_init : GoodIn wsX4_vehicle (wsX3_init) := ggX4_vehicle_X3_init
theorem dX4_vehicle_0 : decode cX4_vehicle 0 = .ok (.iload_n 1, 1) := by decide +kernel
theorem dX4_vehicle_1 : decode cX4_vehicle 1 = .ok (.iconst 1, 1) := by decide +kernel
theorem dX4_vehicle_2 : decode cX4_vehicle 2 = .ok (.bipush 9, 2) := by decide +kernel
theorem dX4_vehicle_4 : decode cX4_vehicle 4 = .ok (.invokestatic 29, 3) := by decide +kernel
theorem dX4_vehicle_7 : decode cX4_vehicle 7 = .ok (.ifCond .eq 23, 3) := by decide +kernel
theorem dX4_vehicle_10 : decode cX4_vehicle 10 = .ok (.iload_n 2, 1) := by decide +kernel
theorem dX4_vehicle_11 : decode cX4_vehicle 11 = .ok (.iconst 1, 1) := by decide +kernel
theorem dX4_vehicle_12 : decode cX4_vehicle 12 = .ok (.bipush 100, 2) := by decide +kernel
theorem dX4_vehicle_14 : decode cX4_vehicle 14 = .ok (.invokestatic 29, 3) := by decide +kernel
theorem dX4_vehicle_17 : decode cX4_vehicle 17 = .ok (.ifCond .eq 13, 3) := by decide +kernel
theorem dX4_vehicle_20 : decode cX4_vehicle 20 = .ok (.iload_n 3, 1) := by decide +kernel
theorem dX4_vehicle_21 : decode cX4_vehicle 21 = .ok (.iconst 0, 1) := by decide +kernel
theorem dX4_vehicle_22 : decode cX4_vehicle 22 = .ok (.ldc 48, 2) := by decide +kernel
theorem dX4_vehicle_24 : decode cX4_vehicle 24 = .ok (.invokestatic 29, 3) := by decide +kernel
theorem dX4_vehicle_27 : decode cX4_vehicle 27 = .ok (.ifCond .ne 5, 3) := by decide +kernel
theorem dX4_vehicle_30 : decode cX4_vehicle 30 = .ok (.iconst (-1), 1) := by decide +kernel
theorem dX4_vehicle_31 : decode cX4_vehicle 31 = .ok (.ireturn, 1) := by decide +kernel
theorem dX4_vehicle_32 : decode cX4_vehicle 32 = .ok (.aload_n 0, 1) := by decide +kernel
theorem dX4_vehicle_33 : decode cX4_vehicle 33 = .ok (.getfield 49, 3) := by decide +kernel
theorem dX4_vehicle_36 : decode cX4_vehicle 36 = .ok (.bipush 70, 2) := by decide +kernel
theorem dX4_vehicle_38 : decode cX4_vehicle 38 = .ok (.if_icmp .lt 6, 3) := by decide +kernel
theorem dX4_vehicle_41 : decode cX4_vehicle 41 = .ok (.bipush (-2), 2) := by decide +kernel
theorem dX4_vehicle_43 : decode cX4_vehicle 43 = .ok (.ireturn, 1) := by decide +kernel
theorem dX4_vehicle_44 : decode cX4_vehicle 44 = .ok (.aload_n 0, 1) := by decide +kernel
theorem dX4_vehicle_45 : decode cX4_vehicle 45 = .ok (.getfield 49, 3) := by decide +kernel
theorem dX4_vehicle_48 : decode cX4_vehicle 48 = .ok (.istore 4, 2) := by decide +kernel
theorem dX4_vehicle_50 : decode cX4_vehicle 50 = .ok (.aload_n 0, 1) := by decide +kernel
theorem dX4_vehicle_51 : decode cX4_vehicle 51 = .ok (.getfield 11, 3) := by decide +kernel
theorem dX4_vehicle_54 : decode cX4_vehicle 54 = .ok (.iload 4, 2) := by decide +kernel
theorem dX4_vehicle_56 : decode cX4_vehicle 56 = .ok (.new 9, 3) := by decide +kernel
theorem dX4_vehicle_59 : decode cX4_vehicle 59 = .ok (.dup, 1) := by decide +kernel
theorem dX4_vehicle_60 : decode cX4_vehicle 60 = .ok (.iload_n 1, 1) := by decide +kernel
theorem dX4_vehicle_61 : decode cX4_vehicle 61 = .ok (.iload_n 2, 1) := by decide +kernel
theorem dX4_vehicle_62 : decode cX4_vehicle 62 = .ok (.iload_n 3, 1) := by decide +kernel
theorem dX4_vehicle_63 : decode cX4_vehicle 63 = .ok (.invokespecial 52, 3) := by decide +kernel
theorem dX4_vehicle_66 : decode cX4_vehicle 66 = .ok (.aastore, 1) := by decide +kernel
theorem dX4_vehicle_67 : decode cX4_vehicle 67 = .ok (.aload_n 0, 1) := by decide +kernel
theorem dX4_vehicle_68 : decode cX4_vehicle 68 = .ok (.dup, 1) := by decide +kernel
theorem dX4_vehicle_69 : decode cX4_vehicle 69 = .ok (.getfield 49, 3) := by decide +kernel
theorem dX4_vehicle_72 : decode cX4_vehicle 72 = .ok (.iconst 1, 1) := by decide +kernel
theorem dX4_vehicle_73 : decode cX4_vehicle 73 = .ok (.iadd, 1) := by decide +kernel
theorem dX4_vehicle_74 : decode cX4_vehicle 74 = .ok (.putfield 49, 3) := by decide +kernel
theorem dX4_vehicle_77 : decode cX4_vehicle 77 = .ok (.iload 4, 2) := by decide +kernel
theorem dX4_vehicle_79 : decode cX4_vehicle 79 = .ok (.ireturn, 1) := by decide +kernel
set_option maxRecDepth 20000 in
theorem ggX4_ask_X4_vehicleAt : GoodIn wsX4_ask wsX4_vehicleAt := goodIn_r _ [10, 11, 12, 13, 14, 9, 15, 122, 123, 124, 125, 126, 127, 128, 129, 130] (by decide +kernel) (by decide +kernel)
set_option maxRecDepth 20000 in
theorem gX4_ask_X4_vehicleAt : GoodIn wsX4_ask (wsV RX4 55 RX4 yX4_vehicleAt wsX4_vehicleAt) := goodIn_app (goodIn_of _ (by decide +kernel)) ggX4_ask_X4_vehicleAt
set_option maxRecDepth 20000 in
theorem ggX4_ask_X4_within : GoodIn wsX4_ask wsX4_within := goodIn_r _ [15] (by decide +kernel) (by decide +kernel)
set_option maxRecDepth 20000 in
theorem gX4_ask_X4_within : GoodIn wsX4_ask (va_wsS RX4 29 yX4_within wsX4_within) := goodIn_app (goodIn_of _ (by decide +kernel)) ggX4_ask_X4_within
set_option maxRecDepth 20000 in
theorem ggX4_ask_X4_beginAct : GoodIn wsX4_ask wsX4_beginAct := goodIn_r _ [19, 20, 4, 21, 22, 23, 24, 25, 26, 27, 28, 122, 123, 124, 125, 126, 127, 128, 129, 130, 131, 132, 133, 134, 135] (by decide +kernel) (by decide +kernel)
set_option maxRecDepth 20000 in
theorem gX4_ask_X4_beginAct : GoodIn wsX4_ask (wsV RX4 61 RX4 yX4_beginAct wsX4_beginAct) := goodIn_app (goodIn_of _ (by decide +kernel)) ggX4_ask_X4_beginAct
set_option maxRecDepth 20000 in
theorem ggX4_ask_X4_ownerOf : GoodIn wsX4_ask wsX4_ownerOf := goodIn_r _ [31, 32, 13, 14, 9, 15] (by decide +kernel) (by decide +kernel)
set_option maxRecDepth 20000 in
theorem gX4_ask_X4_ownerOf : GoodIn wsX4_ask (va_wsS RX4 67 yX4_ownerOf wsX4_ownerOf) := goodIn_app (goodIn_of _ (by decide +kernel)) ggX4_ask_X4_ownerOf
set_option maxRecDepth 20000 in
theorem ggX4_ask_X0_answer : GoodIn wsX4_ask wsX0_answer := goodIn_r _ [36, 37, 38, 39, 40, 24, 41, 26, 30, 9, 31, 32, 13, 14, 15, 42, 43, 44, 45, 28, 46, 47, 48, 49, 50, 51, 52, 53, 54, 55, 56, 57, 58, 59, 60, 61, 62, 63, 64, 65, 66, 67, 68, 69, 70, 71, 72, 73, 74, 75, 76, 77, 78, 79, 80, 81, 82, 83, 84, 85, 86, 87, 88, 89, 90, 91, 92, 93, 94, 95, 96, 97, 98, 99, 100, 101, 102, 103, 104, 105, 106, 107, 108, 116, 117, 118, 119, 120, 121, 131, 132, 133, 134, 135] (by decide +kernel) (by decide +kernel)
set_option maxRecDepth 20000 in
theorem gX4_ask_X0_answer : GoodIn wsX4_ask (wsV RX4 73 RX0 yX0_answer wsX0_answer) := goodIn_app (goodIn_of _ (by decide +kernel)) ggX4_ask_X0_answer
set_option maxRecDepth 20000 in
theorem ggX4_ask_X0_failed : GoodIn wsX4_ask wsX0_failed := goodIn_r _ [45, 28, 131, 132, 133] (by decide +kernel) (by decide +kernel)
set_option maxRecDepth 20000 in
theorem gX4_ask_X0_failed : GoodIn wsX4_ask (wsV RX4 77 RX0 yX0_failed wsX0_failed) := goodIn_app (goodIn_of _ (by decide +kernel)) ggX4_ask_X0_failed
set_option maxRecDepth 20000 in
theorem ggX4_ask_X4_endByFailure : GoodIn wsX4_ask wsX4_endByFailure := goodIn_r _ [113, 114, 4, 115, 122, 123, 124, 125, 126, 127, 128, 129, 130, 131, 132, 133] (by decide +kernel) (by decide +kernel)
set_option maxRecDepth 20000 in
theorem gX4_ask_X4_endByFailure : GoodIn wsX4_ask (wsV RX4 83 RX4 yX4_endByFailure wsX4_endByFailure) := goodIn_app (goodIn_of _ (by decide +kernel)) ggX4_ask_X4_endByFailure
theorem dX4_ask_0 : decode cX4_ask 0 = .ok (.aload_n 0, 1) := by decide +kernel
theorem dX4_ask_1 : decode cX4_ask 1 = .ok (.iload_n 1, 1) := by decide +kernel
theorem dX4_ask_2 : decode cX4_ask 2 = .ok (.invokevirtual 55, 3) := by decide +kernel
theorem dX4_ask_5 : decode cX4_ask 5 = .ok (.astore 4, 2) := by decide +kernel
theorem dX4_ask_7 : decode cX4_ask 7 = .ok (.aload 4, 2) := by decide +kernel
theorem dX4_ask_9 : decode cX4_ask 9 = .ok (.ifnull 13, 3) := by decide +kernel
theorem dX4_ask_12 : decode cX4_ask 12 = .ok (.iload_n 2, 1) := by decide +kernel
theorem dX4_ask_13 : decode cX4_ask 13 = .ok (.iconst 0, 1) := by decide +kernel
theorem dX4_ask_14 : decode cX4_ask 14 = .ok (.bipush 6, 2) := by decide +kernel
theorem dX4_ask_16 : decode cX4_ask 16 = .ok (.invokestatic 29, 3) := by decide +kernel
theorem dX4_ask_19 : decode cX4_ask 19 = .ok (.ifCond .ne 7, 3) := by decide +kernel
theorem dX4_ask_22 : decode cX4_ask 22 = .ok (.ldc2_w 59, 3) := by decide +kernel
theorem dX4_ask_25 : decode cX4_ask 25 = .ok (.lreturn, 1) := by decide +kernel
theorem dX4_ask_26 : decode cX4_ask 26 = .ok (.aload_n 0, 1) := by decide +kernel
theorem dX4_ask_27 : decode cX4_ask 27 = .ok (.invokevirtual 61, 3) := by decide +kernel
theorem dX4_ask_30 : decode cX4_ask 30 = .ok (.iload_n 2, 1) := by decide +kernel
theorem dX4_ask_31 : decode cX4_ask 31 = .ok (.aload 4, 2) := by decide +kernel
theorem dX4_ask_33 : decode cX4_ask 33 = .ok (.getfield 64, 3) := by decide +kernel
theorem dX4_ask_36 : decode cX4_ask 36 = .ok (.invokestatic 67, 3) := by decide +kernel
theorem dX4_ask_39 : decode cX4_ask 39 = .ok (.iconst (-1), 1) := by decide +kernel
theorem dX4_ask_40 : decode cX4_ask 40 = .ok (.if_icmp .ne 7, 3) := by decide +kernel
theorem dX4_ask_43 : decode cX4_ask 43 = .ok (.ldc2_w 71, 3) := by decide +kernel
theorem dX4_ask_46 : decode cX4_ask 46 = .ok (.lreturn, 1) := by decide +kernel
theorem dX4_ask_47 : decode cX4_ask 47 = .ok (.aload_n 0, 1) := by decide +kernel
theorem dX4_ask_48 : decode cX4_ask 48 = .ok (.getfield 25, 3) := by decide +kernel
theorem dX4_ask_51 : decode cX4_ask 51 = .ok (.aload 4, 2) := by decide +kernel
theorem dX4_ask_53 : decode cX4_ask 53 = .ok (.iload_n 2, 1) := by decide +kernel
theorem dX4_ask_54 : decode cX4_ask 54 = .ok (.iload_n 3, 1) := by decide +kernel
theorem dX4_ask_55 : decode cX4_ask 55 = .ok (.invokevirtual 73, 3) := by decide +kernel
theorem dX4_ask_58 : decode cX4_ask 58 = .ok (.istore 5, 2) := by decide +kernel
theorem dX4_ask_60 : decode cX4_ask 60 = .ok (.aload_n 0, 1) := by decide +kernel
theorem dX4_ask_61 : decode cX4_ask 61 = .ok (.getfield 25, 3) := by decide +kernel
theorem dX4_ask_64 : decode cX4_ask 64 = .ok (.invokevirtual 77, 3) := by decide +kernel
theorem dX4_ask_67 : decode cX4_ask 67 = .ok (.ifCond .eq 15, 3) := by decide +kernel
theorem dX4_ask_70 : decode cX4_ask 70 = .ok (.ldc2_w 81, 3) := by decide +kernel
theorem dX4_ask_73 : decode cX4_ask 73 = .ok (.aload_n 0, 1) := by decide +kernel
theorem dX4_ask_74 : decode cX4_ask 74 = .ok (.invokevirtual 83, 3) := by decide +kernel
theorem dX4_ask_77 : decode cX4_ask 77 = .ok (.i2l, 1) := by decide +kernel
theorem dX4_ask_78 : decode cX4_ask 78 = .ok (.ladd, 1) := by decide +kernel
theorem dX4_ask_79 : decode cX4_ask 79 = .ok (.goto 6, 3) := by decide +kernel
theorem dX4_ask_82 : decode cX4_ask 82 = .ok (.iload 5, 2) := by decide +kernel
theorem dX4_ask_84 : decode cX4_ask 84 = .ok (.i2l, 1) := by decide +kernel
theorem dX4_ask_85 : decode cX4_ask 85 = .ok (.lreturn, 1) := by decide +kernel
set_option maxRecDepth 20000 in
theorem ggX4_trace_X2_has : GoodIn wsX4_trace wsX2_has := goodIn_r _ [8, 9, 10, 11, 12, 25, 26] (by decide +kernel) (by decide +kernel)
set_option maxRecDepth 20000 in
theorem gX4_trace_X2_has : GoodIn wsX4_trace (wsV RX4 91 RX2 yX2_has wsX2_has) := goodIn_app (goodIn_of _ (by decide +kernel)) ggX4_trace_X2_has
theorem dX4_trace_0 : decode cX4_trace 0 = .ok (.aload_n 0, 1) := by decide +kernel
theorem dX4_trace_1 : decode cX4_trace 1 = .ok (.getfield 25, 3) := by decide +kernel
theorem dX4_trace_4 : decode cX4_trace 4 = .ok (.getfield 87, 3) := by decide +kernel
theorem dX4_trace_7 : decode cX4_trace 7 = .ok (.iload_n 1, 1) := by decide +kernel
theorem dX4_trace_8 : decode cX4_trace 8 = .ok (.invokevirtual 91, 3) := by decide +kernel
theorem dX4_trace_11 : decode cX4_trace 11 = .ok (.ifCond .eq 18, 3) := by decide +kernel
theorem dX4_trace_14 : decode cX4_trace 14 = .ok (.aload_n 0, 1) := by decide +kernel
theorem dX4_trace_15 : decode cX4_trace 15 = .ok (.getfield 25, 3) := by decide +kernel
theorem dX4_trace_18 : decode cX4_trace 18 = .ok (.getfield 87, 3) := by decide +kernel
theorem dX4_trace_21 : decode cX4_trace 21 = .ok (.getfield 97, 3) := by decide +kernel
theorem dX4_trace_24 : decode cX4_trace 24 = .ok (.iload_n 1, 1) := by decide +kernel
theorem dX4_trace_25 : decode cX4_trace 25 = .ok (.iaload, 1) := by decide +kernel
theorem dX4_trace_26 : decode cX4_trace 26 = .ok (.goto 4, 3) := by decide +kernel
theorem dX4_trace_29 : decode cX4_trace 29 = .ok (.iconst (-1), 1) := by decide +kernel
theorem dX4_trace_30 : decode cX4_trace 30 = .ok (.ireturn, 1) := by decide +kernel
set_option maxRecDepth 20000 in
theorem ggX4_board_X4_vehicleAt : GoodIn wsX4_board wsX4_vehicleAt := goodIn_r _ [10, 11, 12, 13, 14, 9, 15, 138, 139, 140, 141, 142, 143, 144, 145, 146] (by decide +kernel) (by decide +kernel)
set_option maxRecDepth 20000 in
theorem gX4_board_X4_vehicleAt : GoodIn wsX4_board (wsV RX4 55 RX4 yX4_vehicleAt wsX4_vehicleAt) := goodIn_app (goodIn_of _ (by decide +kernel)) ggX4_board_X4_vehicleAt
set_option maxRecDepth 20000 in
theorem ggX4_board_X4_deckAt : GoodIn wsX4_board wsX4_deckAt := goodIn_r _ [19, 20, 13, 14, 9, 15, 138, 139, 140, 141, 142, 143, 144, 145, 146] (by decide +kernel) (by decide +kernel)
set_option maxRecDepth 20000 in
theorem gX4_board_X4_deckAt : GoodIn wsX4_board (wsV RX4 37 RX4 yX4_deckAt wsX4_deckAt) := goodIn_app (goodIn_of _ (by decide +kernel)) ggX4_board_X4_deckAt
set_option maxRecDepth 20000 in
theorem ggX4_board_X4_within : GoodIn wsX4_board wsX4_within := goodIn_r _ [15] (by decide +kernel) (by decide +kernel)
set_option maxRecDepth 20000 in
theorem gX4_board_X4_within : GoodIn wsX4_board (va_wsS RX4 29 yX4_within wsX4_within) := goodIn_app (goodIn_of _ (by decide +kernel)) ggX4_board_X4_within
set_option maxRecDepth 20000 in
theorem ggX4_board_X4_beginAct : GoodIn wsX4_board wsX4_beginAct := goodIn_r _ [24, 25, 2, 26, 27, 28, 29, 30, 31, 32, 33, 138, 139, 140, 141, 142, 143, 144, 145, 146, 147, 148, 149, 150, 151] (by decide +kernel) (by decide +kernel)
set_option maxRecDepth 20000 in
theorem gX4_board_X4_beginAct : GoodIn wsX4_board (wsV RX4 61 RX4 yX4_beginAct wsX4_beginAct) := goodIn_app (goodIn_of _ (by decide +kernel)) ggX4_board_X4_beginAct
set_option maxRecDepth 20000 in
theorem ggX4_board_X0_answer : GoodIn wsX4_board wsX0_answer := goodIn_r _ [37, 38, 39, 40, 41, 29, 42, 31, 43, 9, 44, 45, 13, 14, 15, 46, 47, 48, 49, 33, 50, 51, 52, 53, 54, 55, 56, 57, 58, 59, 60, 61, 62, 63, 64, 65, 66, 67, 68, 69, 70, 71, 72, 73, 74, 75, 76, 77, 78, 79, 80, 81, 82, 83, 84, 85, 86, 87, 88, 89, 90, 91, 92, 93, 94, 95, 96, 97, 98, 99, 100, 101, 102, 103, 104, 105, 106, 107, 108, 109, 110, 111, 112, 132, 133, 134, 135, 136, 137, 147, 148, 149, 150, 151] (by decide +kernel) (by decide +kernel)
set_option maxRecDepth 20000 in
theorem gX4_board_X0_answer : GoodIn wsX4_board (wsV RX4 73 RX0 yX0_answer wsX0_answer) := goodIn_app (goodIn_of _ (by decide +kernel)) ggX4_board_X0_answer
set_option maxRecDepth 20000 in
theorem ggX4_board_X0_failed : GoodIn wsX4_board wsX0_failed := goodIn_r _ [49, 33, 147, 148, 149] (by decide +kernel) (by decide +kernel)
set_option maxRecDepth 20000 in
theorem gX4_board_X0_failed : GoodIn wsX4_board (wsV RX4 77 RX0 yX0_failed wsX0_failed) := goodIn_app (goodIn_of _ (by decide +kernel)) ggX4_board_X0_failed
set_option maxRecDepth 20000 in
theorem ggX4_board_X4_endByFailure : GoodIn wsX4_board wsX4_endByFailure := goodIn_r _ [117, 118, 2, 119, 138, 139, 140, 141, 142, 143, 144, 145, 146, 147, 148, 149] (by decide +kernel) (by decide +kernel)
set_option maxRecDepth 20000 in
theorem gX4_board_X4_endByFailure : GoodIn wsX4_board (wsV RX4 83 RX4 yX4_endByFailure wsX4_endByFailure) := goodIn_app (goodIn_of _ (by decide +kernel)) ggX4_board_X4_endByFailure
set_option maxRecDepth 20000 in
theorem ggX4_board_X1_left : GoodIn wsX4_board wsX1_left := goodIn_r _ [124, 125, 126, 152, 153, 154] (by decide +kernel) (by decide +kernel)
set_option maxRecDepth 20000 in
theorem gX4_board_X1_left : GoodIn wsX4_board (wsV RX4 106 RX1 yX1_left wsX1_left) := goodIn_app (goodIn_of _ (by decide +kernel)) ggX4_board_X1_left
set_option maxRecDepth 20000 in
theorem ggX4_board_X1_receive : GoodIn wsX4_board wsX1_receive := goodIn_r _ [130, 126, 131, 152, 153, 154] (by decide +kernel) (by decide +kernel)
set_option maxRecDepth 20000 in
theorem gX4_board_X1_receive : GoodIn wsX4_board (wsV RX4 114 RX1 yX1_receive wsX1_receive) := goodIn_app (goodIn_of _ (by decide +kernel)) ggX4_board_X1_receive
theorem dX4_board_0 : decode cX4_board 0 = .ok (.aload_n 0, 1) := by decide +kernel
theorem dX4_board_1 : decode cX4_board 1 = .ok (.iload_n 1, 1) := by decide +kernel
theorem dX4_board_2 : decode cX4_board 2 = .ok (.invokevirtual 55, 3) := by decide +kernel
theorem dX4_board_5 : decode cX4_board 5 = .ok (.astore 5, 2) := by decide +kernel
theorem dX4_board_7 : decode cX4_board 7 = .ok (.aload_n 0, 1) := by decide +kernel
theorem dX4_board_8 : decode cX4_board 8 = .ok (.iload_n 2, 1) := by decide +kernel
theorem dX4_board_9 : decode cX4_board 9 = .ok (.invokevirtual 37, 3) := by decide +kernel
theorem dX4_board_12 : decode cX4_board 12 = .ok (.astore 6, 2) := by decide +kernel
theorem dX4_board_14 : decode cX4_board 14 = .ok (.aload 5, 2) := by decide +kernel
theorem dX4_board_16 : decode cX4_board 16 = .ok (.ifnull 19, 3) := by decide +kernel
theorem dX4_board_19 : decode cX4_board 19 = .ok (.aload 6, 2) := by decide +kernel
theorem dX4_board_21 : decode cX4_board 21 = .ok (.ifnull 14, 3) := by decide +kernel
theorem dX4_board_24 : decode cX4_board 24 = .ok (.iload 4, 2) := by decide +kernel
theorem dX4_board_26 : decode cX4_board 26 = .ok (.iconst 0, 1) := by decide +kernel
theorem dX4_board_27 : decode cX4_board 27 = .ok (.bipush 9, 2) := by decide +kernel
theorem dX4_board_29 : decode cX4_board 29 = .ok (.invokestatic 29, 3) := by decide +kernel
theorem dX4_board_32 : decode cX4_board 32 = .ok (.ifCond .ne 5, 3) := by decide +kernel
theorem dX4_board_35 : decode cX4_board 35 = .ok (.iconst (-1), 1) := by decide +kernel
theorem dX4_board_36 : decode cX4_board 36 = .ok (.ireturn, 1) := by decide +kernel
theorem dX4_board_37 : decode cX4_board 37 = .ok (.aload 5, 2) := by decide +kernel
theorem dX4_board_39 : decode cX4_board 39 = .ok (.getfield 100, 3) := by decide +kernel
theorem dX4_board_42 : decode cX4_board 42 = .ok (.iconst (-1), 1) := by decide +kernel
theorem dX4_board_43 : decode cX4_board 43 = .ok (.if_icmp .eq 6, 3) := by decide +kernel
theorem dX4_board_46 : decode cX4_board 46 = .ok (.bipush (-3), 2) := by decide +kernel
theorem dX4_board_48 : decode cX4_board 48 = .ok (.ireturn, 1) := by decide +kernel
theorem dX4_board_49 : decode cX4_board 49 = .ok (.aload_n 0, 1) := by decide +kernel
theorem dX4_board_50 : decode cX4_board 50 = .ok (.invokevirtual 61, 3) := by decide +kernel
theorem dX4_board_53 : decode cX4_board 53 = .ok (.aload_n 0, 1) := by decide +kernel
theorem dX4_board_54 : decode cX4_board 54 = .ok (.getfield 25, 3) := by decide +kernel
theorem dX4_board_57 : decode cX4_board 57 = .ok (.aload 5, 2) := by decide +kernel
theorem dX4_board_59 : decode cX4_board 59 = .ok (.iconst 2, 1) := by decide +kernel
theorem dX4_board_60 : decode cX4_board 60 = .ok (.iload_n 3, 1) := by decide +kernel
theorem dX4_board_61 : decode cX4_board 61 = .ok (.invokevirtual 73, 3) := by decide +kernel
theorem dX4_board_64 : decode cX4_board 64 = .ok (.istore 7, 2) := by decide +kernel
theorem dX4_board_66 : decode cX4_board 66 = .ok (.aload_n 0, 1) := by decide +kernel
theorem dX4_board_67 : decode cX4_board 67 = .ok (.getfield 25, 3) := by decide +kernel
theorem dX4_board_70 : decode cX4_board 70 = .ok (.invokevirtual 77, 3) := by decide +kernel
theorem dX4_board_73 : decode cX4_board 73 = .ok (.ifCond .eq 11, 3) := by decide +kernel
theorem dX4_board_76 : decode cX4_board 76 = .ok (.bipush (-10), 2) := by decide +kernel
theorem dX4_board_78 : decode cX4_board 78 = .ok (.aload_n 0, 1) := by decide +kernel
theorem dX4_board_79 : decode cX4_board 79 = .ok (.invokevirtual 83, 3) := by decide +kernel
theorem dX4_board_82 : decode cX4_board 82 = .ok (.isub, 1) := by decide +kernel
theorem dX4_board_83 : decode cX4_board 83 = .ok (.ireturn, 1) := by decide +kernel
theorem dX4_board_84 : decode cX4_board 84 = .ok (.aload_n 0, 1) := by decide +kernel
theorem dX4_board_85 : decode cX4_board 85 = .ok (.iload 7, 2) := by decide +kernel
theorem dX4_board_87 : decode cX4_board 87 = .ok (.putfield 103, 3) := by decide +kernel
theorem dX4_board_90 : decode cX4_board 90 = .ok (.aload_n 0, 1) := by decide +kernel
theorem dX4_board_91 : decode cX4_board 91 = .ok (.getfield 25, 3) := by decide +kernel
theorem dX4_board_94 : decode cX4_board 94 = .ok (.aload 5, 2) := by decide +kernel
theorem dX4_board_96 : decode cX4_board 96 = .ok (.iconst 0, 1) := by decide +kernel
theorem dX4_board_97 : decode cX4_board 97 = .ok (.iconst 0, 1) := by decide +kernel
theorem dX4_board_98 : decode cX4_board 98 = .ok (.invokevirtual 73, 3) := by decide +kernel
theorem dX4_board_101 : decode cX4_board 101 = .ok (.istore 8, 2) := by decide +kernel
theorem dX4_board_103 : decode cX4_board 103 = .ok (.iload 8, 2) := by decide +kernel
theorem dX4_board_105 : decode cX4_board 105 = .ok (.aload 6, 2) := by decide +kernel
theorem dX4_board_107 : decode cX4_board 107 = .ok (.invokevirtual 106, 3) := by decide +kernel
theorem dX4_board_110 : decode cX4_board 110 = .ok (.if_icmp .le 6, 3) := by decide +kernel
theorem dX4_board_113 : decode cX4_board 113 = .ok (.bipush (-4), 2) := by decide +kernel
theorem dX4_board_115 : decode cX4_board 115 = .ok (.ireturn, 1) := by decide +kernel
theorem dX4_board_116 : decode cX4_board 116 = .ok (.aload_n 0, 1) := by decide +kernel
theorem dX4_board_117 : decode cX4_board 117 = .ok (.getfield 25, 3) := by decide +kernel
theorem dX4_board_120 : decode cX4_board 120 = .ok (.aload 5, 2) := by decide +kernel
theorem dX4_board_122 : decode cX4_board 122 = .ok (.iconst 1, 1) := by decide +kernel
theorem dX4_board_123 : decode cX4_board 123 = .ok (.iload 4, 2) := by decide +kernel
theorem dX4_board_125 : decode cX4_board 125 = .ok (.invokevirtual 73, 3) := by decide +kernel
theorem dX4_board_128 : decode cX4_board 128 = .ok (.istore 9, 2) := by decide +kernel
theorem dX4_board_130 : decode cX4_board 130 = .ok (.aload_n 0, 1) := by decide +kernel
theorem dX4_board_131 : decode cX4_board 131 = .ok (.getfield 25, 3) := by decide +kernel
theorem dX4_board_134 : decode cX4_board 134 = .ok (.invokevirtual 77, 3) := by decide +kernel
theorem dX4_board_137 : decode cX4_board 137 = .ok (.ifCond .eq 11, 3) := by decide +kernel
theorem dX4_board_140 : decode cX4_board 140 = .ok (.bipush (-10), 2) := by decide +kernel
theorem dX4_board_142 : decode cX4_board 142 = .ok (.aload_n 0, 1) := by decide +kernel
theorem dX4_board_143 : decode cX4_board 143 = .ok (.invokevirtual 83, 3) := by decide +kernel
theorem dX4_board_146 : decode cX4_board 146 = .ok (.isub, 1) := by decide +kernel
theorem dX4_board_147 : decode cX4_board 147 = .ok (.ireturn, 1) := by decide +kernel
theorem dX4_board_148 : decode cX4_board 148 = .ok (.aload_n 0, 1) := by decide +kernel
theorem dX4_board_149 : decode cX4_board 149 = .ok (.dup, 1) := by decide +kernel
theorem dX4_board_150 : decode cX4_board 150 = .ok (.getfield 109, 3) := by decide +kernel
theorem dX4_board_153 : decode cX4_board 153 = .ok (.iload 9, 2) := by decide +kernel
theorem dX4_board_155 : decode cX4_board 155 = .ok (.i2l, 1) := by decide +kernel
theorem dX4_board_156 : decode cX4_board 156 = .ok (.ladd, 1) := by decide +kernel
theorem dX4_board_157 : decode cX4_board 157 = .ok (.putfield 109, 3) := by decide +kernel
theorem dX4_board_160 : decode cX4_board 160 = .ok (.aload 5, 2) := by decide +kernel
theorem dX4_board_162 : decode cX4_board 162 = .ok (.iload_n 2, 1) := by decide +kernel
theorem dX4_board_163 : decode cX4_board 163 = .ok (.putfield 100, 3) := by decide +kernel
theorem dX4_board_166 : decode cX4_board 166 = .ok (.aload 5, 2) := by decide +kernel
theorem dX4_board_168 : decode cX4_board 168 = .ok (.iload 8, 2) := by decide +kernel
theorem dX4_board_170 : decode cX4_board 170 = .ok (.putfield 113, 3) := by decide +kernel
theorem dX4_board_173 : decode cX4_board 173 = .ok (.aload 6, 2) := by decide +kernel
theorem dX4_board_175 : decode cX4_board 175 = .ok (.iload 8, 2) := by decide +kernel
theorem dX4_board_177 : decode cX4_board 177 = .ok (.invokevirtual 114, 3) := by decide +kernel
theorem dX4_board_180 : decode cX4_board 180 = .ok (.aload 6, 2) := by decide +kernel
theorem dX4_board_182 : decode cX4_board 182 = .ok (.invokevirtual 106, 3) := by decide +kernel
theorem dX4_board_185 : decode cX4_board 185 = .ok (.ireturn, 1) := by decide +kernel
set_option maxRecDepth 20000 in
theorem ggX4_leave_X4_vehicleAt : GoodIn wsX4_leave wsX4_vehicleAt := goodIn_r _ [7, 8, 9, 10, 11, 6, 12, 44, 45, 46, 47, 48, 49, 50, 51, 52] (by decide +kernel) (by decide +kernel)
set_option maxRecDepth 20000 in
theorem gX4_leave_X4_vehicleAt : GoodIn wsX4_leave (wsV RX4 55 RX4 yX4_vehicleAt wsX4_vehicleAt) := goodIn_app (goodIn_of _ (by decide +kernel)) ggX4_leave_X4_vehicleAt
set_option maxRecDepth 20000 in
theorem ggX4_leave_X4_deckAt : GoodIn wsX4_leave wsX4_deckAt := goodIn_r _ [16, 17, 10, 11, 6, 12, 44, 45, 46, 47, 48, 49, 50, 51, 52] (by decide +kernel) (by decide +kernel)
set_option maxRecDepth 20000 in
theorem gX4_leave_X4_deckAt : GoodIn wsX4_leave (wsV RX4 37 RX4 yX4_deckAt wsX4_deckAt) := goodIn_app (goodIn_of _ (by decide +kernel)) ggX4_leave_X4_deckAt
set_option maxRecDepth 20000 in
theorem ggX4_leave_X1_release : GoodIn wsX4_leave wsX1_release := goodIn_r _ [22, 23, 24, 53, 54, 55] (by decide +kernel) (by decide +kernel)
set_option maxRecDepth 20000 in
theorem gX4_leave_X1_release : GoodIn wsX4_leave (wsV RX4 118 RX1 yX1_release wsX1_release) := goodIn_app (goodIn_of _ (by decide +kernel)) ggX4_leave_X1_release
set_option maxRecDepth 20000 in
theorem ggX4_leave_X3_goAshore : GoodIn wsX4_leave wsX3_goAshore := goodIn_r _ [29, 30, 31, 32, 38, 39, 40, 41, 42, 43] (by decide +kernel) (by decide +kernel)
set_option maxRecDepth 20000 in
theorem gX4_leave_X3_goAshore : GoodIn wsX4_leave (wsV RX4 121 RX3 yX3_goAshore wsX3_goAshore) := goodIn_app (goodIn_of _ (by decide +kernel)) ggX4_leave_X3_goAshore
set_option maxRecDepth 20000 in
theorem ggX4_leave_X1_left : GoodIn wsX4_leave wsX1_left := goodIn_r _ [36, 37, 23, 53, 54, 55] (by decide +kernel) (by decide +kernel)
set_option maxRecDepth 20000 in
theorem gX4_leave_X1_left : GoodIn wsX4_leave (wsV RX4 106 RX1 yX1_left wsX1_left) := goodIn_app (goodIn_of _ (by decide +kernel)) ggX4_leave_X1_left
theorem dX4_leave_0 : decode cX4_leave 0 = .ok (.aload_n 0, 1) := by decide +kernel
theorem dX4_leave_1 : decode cX4_leave 1 = .ok (.iload_n 1, 1) := by decide +kernel
theorem dX4_leave_2 : decode cX4_leave 2 = .ok (.invokevirtual 55, 3) := by decide +kernel
theorem dX4_leave_5 : decode cX4_leave 5 = .ok (.astore_n 2, 1) := by decide +kernel
theorem dX4_leave_6 : decode cX4_leave 6 = .ok (.aload_n 2, 1) := by decide +kernel
theorem dX4_leave_7 : decode cX4_leave 7 = .ok (.ifnonnull 5, 3) := by decide +kernel
theorem dX4_leave_10 : decode cX4_leave 10 = .ok (.iconst (-1), 1) := by decide +kernel
theorem dX4_leave_11 : decode cX4_leave 11 = .ok (.ireturn, 1) := by decide +kernel
theorem dX4_leave_12 : decode cX4_leave 12 = .ok (.aload_n 0, 1) := by decide +kernel
theorem dX4_leave_13 : decode cX4_leave 13 = .ok (.aload_n 2, 1) := by decide +kernel
theorem dX4_leave_14 : decode cX4_leave 14 = .ok (.getfield 100, 3) := by decide +kernel
theorem dX4_leave_17 : decode cX4_leave 17 = .ok (.invokevirtual 37, 3) := by decide +kernel
theorem dX4_leave_20 : decode cX4_leave 20 = .ok (.astore_n 3, 1) := by decide +kernel
theorem dX4_leave_21 : decode cX4_leave 21 = .ok (.aload_n 3, 1) := by decide +kernel
theorem dX4_leave_22 : decode cX4_leave 22 = .ok (.ifnonnull 6, 3) := by decide +kernel
theorem dX4_leave_25 : decode cX4_leave 25 = .ok (.bipush (-3), 2) := by decide +kernel
theorem dX4_leave_27 : decode cX4_leave 27 = .ok (.ireturn, 1) := by decide +kernel
theorem dX4_leave_28 : decode cX4_leave 28 = .ok (.aload_n 3, 1) := by decide +kernel
theorem dX4_leave_29 : decode cX4_leave 29 = .ok (.aload_n 2, 1) := by decide +kernel
theorem dX4_leave_30 : decode cX4_leave 30 = .ok (.getfield 113, 3) := by decide +kernel
theorem dX4_leave_33 : decode cX4_leave 33 = .ok (.invokevirtual 118, 3) := by decide +kernel
theorem dX4_leave_36 : decode cX4_leave 36 = .ok (.aload_n 2, 1) := by decide +kernel
theorem dX4_leave_37 : decode cX4_leave 37 = .ok (.invokevirtual 121, 3) := by decide +kernel
theorem dX4_leave_40 : decode cX4_leave 40 = .ok (.aload_n 3, 1) := by decide +kernel
theorem dX4_leave_41 : decode cX4_leave 41 = .ok (.invokevirtual 106, 3) := by decide +kernel
theorem dX4_leave_44 : decode cX4_leave 44 = .ok (.ireturn, 1) := by decide +kernel
theorem dX4_risk_0 : decode cX4_risk 0 = .ok (.aload_n 0, 1) := by decide +kernel
theorem dX4_risk_1 : decode cX4_risk 1 = .ok (.getfield 103, 3) := by decide +kernel
theorem dX4_risk_4 : decode cX4_risk 4 = .ok (.ireturn, 1) := by decide +kernel
set_option maxRecDepth 20000 in
theorem ggX4_pull_X4_vehicleAt : GoodIn wsX4_pull wsX4_vehicleAt := goodIn_r _ [8, 9, 10, 11, 12, 7, 13, 113, 114, 115, 116, 117, 118, 119, 120, 121] (by decide +kernel) (by decide +kernel)
set_option maxRecDepth 20000 in
theorem gX4_pull_X4_vehicleAt : GoodIn wsX4_pull (wsV RX4 55 RX4 yX4_vehicleAt wsX4_vehicleAt) := goodIn_app (goodIn_of _ (by decide +kernel)) ggX4_pull_X4_vehicleAt
set_option maxRecDepth 20000 in
theorem ggX4_pull_X4_beginAct : GoodIn wsX4_pull wsX4_beginAct := goodIn_r _ [17, 18, 2, 19, 20, 21, 22, 23, 24, 25, 26, 113, 114, 115, 116, 117, 118, 119, 120, 121, 122, 123, 124, 125, 126] (by decide +kernel) (by decide +kernel)
set_option maxRecDepth 20000 in
theorem gX4_pull_X4_beginAct : GoodIn wsX4_pull (wsV RX4 61 RX4 yX4_beginAct wsX4_beginAct) := goodIn_app (goodIn_of _ (by decide +kernel)) ggX4_pull_X4_beginAct
set_option maxRecDepth 20000 in
theorem ggX4_pull_X4_ownerOf : GoodIn wsX4_pull wsX4_ownerOf := goodIn_r _ [29, 30, 11, 12, 7, 13] (by decide +kernel) (by decide +kernel)
set_option maxRecDepth 20000 in
theorem gX4_pull_X4_ownerOf : GoodIn wsX4_pull (va_wsS RX4 67 yX4_ownerOf wsX4_ownerOf) := goodIn_app (goodIn_of _ (by decide +kernel)) ggX4_pull_X4_ownerOf
set_option maxRecDepth 20000 in
theorem ggX4_pull_X0_answer : GoodIn wsX4_pull wsX0_answer := goodIn_r _ [34, 35, 36, 37, 38, 22, 39, 24, 28, 7, 29, 30, 11, 12, 13, 40, 41, 42, 43, 26, 44, 45, 46, 47, 48, 49, 50, 51, 52, 53, 54, 55, 56, 57, 58, 59, 60, 61, 62, 63, 64, 65, 66, 67, 68, 69, 70, 71, 72, 73, 74, 75, 76, 77, 78, 79, 80, 81, 82, 83, 84, 85, 86, 87, 88, 89, 90, 91, 92, 93, 94, 95, 96, 97, 98, 99, 100, 101, 102, 103, 104, 105, 106, 107, 108, 109, 110, 111, 112, 122, 123, 124, 125, 126] (by decide +kernel) (by decide +kernel)
set_option maxRecDepth 20000 in
theorem gX4_pull_X0_answer : GoodIn wsX4_pull (wsV RX4 73 RX0 yX0_answer wsX0_answer) := goodIn_app (goodIn_of _ (by decide +kernel)) ggX4_pull_X0_answer
theorem dX4_pull_0 : decode cX4_pull 0 = .ok (.aload_n 0, 1) := by decide +kernel
theorem dX4_pull_1 : decode cX4_pull 1 = .ok (.iload_n 1, 1) := by decide +kernel
theorem dX4_pull_2 : decode cX4_pull 2 = .ok (.invokevirtual 55, 3) := by decide +kernel
theorem dX4_pull_5 : decode cX4_pull 5 = .ok (.astore_n 3, 1) := by decide +kernel
theorem dX4_pull_6 : decode cX4_pull 6 = .ok (.aload_n 3, 1) := by decide +kernel
theorem dX4_pull_7 : decode cX4_pull 7 = .ok (.ifnonnull 5, 3) := by decide +kernel
theorem dX4_pull_10 : decode cX4_pull 10 = .ok (.iconst (-1), 1) := by decide +kernel
theorem dX4_pull_11 : decode cX4_pull 11 = .ok (.ireturn, 1) := by decide +kernel
theorem dX4_pull_12 : decode cX4_pull 12 = .ok (.aload_n 0, 1) := by decide +kernel
theorem dX4_pull_13 : decode cX4_pull 13 = .ok (.invokevirtual 61, 3) := by decide +kernel
theorem dX4_pull_16 : decode cX4_pull 16 = .ok (.iconst 5, 1) := by decide +kernel
theorem dX4_pull_17 : decode cX4_pull 17 = .ok (.aload_n 3, 1) := by decide +kernel
theorem dX4_pull_18 : decode cX4_pull 18 = .ok (.getfield 64, 3) := by decide +kernel
theorem dX4_pull_21 : decode cX4_pull 21 = .ok (.invokestatic 67, 3) := by decide +kernel
theorem dX4_pull_24 : decode cX4_pull 24 = .ok (.iconst (-1), 1) := by decide +kernel
theorem dX4_pull_25 : decode cX4_pull 25 = .ok (.if_icmp .ne 6, 3) := by decide +kernel
theorem dX4_pull_28 : decode cX4_pull 28 = .ok (.bipush (-5), 2) := by decide +kernel
theorem dX4_pull_30 : decode cX4_pull 30 = .ok (.ireturn, 1) := by decide +kernel
theorem dX4_pull_31 : decode cX4_pull 31 = .ok (.aload_n 0, 1) := by decide +kernel
theorem dX4_pull_32 : decode cX4_pull 32 = .ok (.aload_n 0, 1) := by decide +kernel
theorem dX4_pull_33 : decode cX4_pull 33 = .ok (.getfield 25, 3) := by decide +kernel
theorem dX4_pull_36 : decode cX4_pull 36 = .ok (.aload_n 3, 1) := by decide +kernel
theorem dX4_pull_37 : decode cX4_pull 37 = .ok (.iconst 5, 1) := by decide +kernel
theorem dX4_pull_38 : decode cX4_pull 38 = .ok (.iload_n 2, 1) := by decide +kernel
theorem dX4_pull_39 : decode cX4_pull 39 = .ok (.invokevirtual 73, 3) := by decide +kernel
theorem dX4_pull_42 : decode cX4_pull 42 = .ok (.putfield 124, 3) := by decide +kernel
theorem dX4_pull_45 : decode cX4_pull 45 = .ok (.iconst 1, 1) := by decide +kernel
theorem dX4_pull_46 : decode cX4_pull 46 = .ok (.ireturn, 1) := by decide +kernel
theorem dX4_pulled_0 : decode cX4_pulled 0 = .ok (.aload_n 0, 1) := by decide +kernel
theorem dX4_pulled_1 : decode cX4_pulled 1 = .ok (.getfield 124, 3) := by decide +kernel
theorem dX4_pulled_4 : decode cX4_pulled 4 = .ok (.ireturn, 1) := by decide +kernel
set_option maxRecDepth 20000 in
theorem ggX4_told_X4_vehicleAt : GoodIn wsX4_told wsX4_vehicleAt := goodIn_r _ [12, 13, 14, 15, 16, 11, 17, 24, 25, 26, 27, 28, 29, 30, 31, 32] (by decide +kernel) (by decide +kernel)
set_option maxRecDepth 20000 in
theorem gX4_told_X4_vehicleAt : GoodIn wsX4_told (wsV RX4 55 RX4 yX4_vehicleAt wsX4_vehicleAt) := goodIn_app (goodIn_of _ (by decide +kernel)) ggX4_told_X4_vehicleAt
theorem dX4_told_0 : decode cX4_told 0 = .ok (.aload_n 0, 1) := by decide +kernel
theorem dX4_told_1 : decode cX4_told 1 = .ok (.iload_n 1, 1) := by decide +kernel
theorem dX4_told_2 : decode cX4_told 2 = .ok (.invokevirtual 55, 3) := by decide +kernel
theorem dX4_told_5 : decode cX4_told 5 = .ok (.astore_n 3, 1) := by decide +kernel
theorem dX4_told_6 : decode cX4_told 6 = .ok (.aload_n 3, 1) := by decide +kernel
theorem dX4_told_7 : decode cX4_told 7 = .ok (.ifnonnull 7, 3) := by decide +kernel
theorem dX4_told_10 : decode cX4_told 10 = .ok (.ldc2_w 59, 3) := by decide +kernel
theorem dX4_told_13 : decode cX4_told 13 = .ok (.lreturn, 1) := by decide +kernel
theorem dX4_told_14 : decode cX4_told 14 = .ok (.iload_n 2, 1) := by decide +kernel
theorem dX4_told_15 : decode cX4_told 15 = .ok (.tableswitch 73 0 5 #[37, 43, 49, 55, 61, 67], 37) := by decide +kernel
theorem dX4_told_52 : decode cX4_told 52 = .ok (.aload_n 3, 1) := by decide +kernel
theorem dX4_told_53 : decode cX4_told 53 = .ok (.getfield 64, 3) := by decide +kernel
theorem dX4_told_56 : decode cX4_told 56 = .ok (.i2l, 1) := by decide +kernel
theorem dX4_told_57 : decode cX4_told 57 = .ok (.lreturn, 1) := by decide +kernel
theorem dX4_told_58 : decode cX4_told 58 = .ok (.aload_n 3, 1) := by decide +kernel
theorem dX4_told_59 : decode cX4_told 59 = .ok (.getfield 127, 3) := by decide +kernel
theorem dX4_told_62 : decode cX4_told 62 = .ok (.i2l, 1) := by decide +kernel
theorem dX4_told_63 : decode cX4_told 63 = .ok (.lreturn, 1) := by decide +kernel
theorem dX4_told_64 : decode cX4_told 64 = .ok (.aload_n 3, 1) := by decide +kernel
theorem dX4_told_65 : decode cX4_told 65 = .ok (.getfield 130, 3) := by decide +kernel
theorem dX4_told_68 : decode cX4_told 68 = .ok (.i2l, 1) := by decide +kernel
theorem dX4_told_69 : decode cX4_told 69 = .ok (.lreturn, 1) := by decide +kernel
theorem dX4_told_70 : decode cX4_told 70 = .ok (.aload_n 3, 1) := by decide +kernel
theorem dX4_told_71 : decode cX4_told 71 = .ok (.getfield 133, 3) := by decide +kernel
theorem dX4_told_74 : decode cX4_told 74 = .ok (.i2l, 1) := by decide +kernel
theorem dX4_told_75 : decode cX4_told 75 = .ok (.lreturn, 1) := by decide +kernel
theorem dX4_told_76 : decode cX4_told 76 = .ok (.aload_n 3, 1) := by decide +kernel
theorem dX4_told_77 : decode cX4_told 77 = .ok (.getfield 100, 3) := by decide +kernel
theorem dX4_told_80 : decode cX4_told 80 = .ok (.i2l, 1) := by decide +kernel
theorem dX4_told_81 : decode cX4_told 81 = .ok (.lreturn, 1) := by decide +kernel
theorem dX4_told_82 : decode cX4_told 82 = .ok (.aload_n 3, 1) := by decide +kernel
theorem dX4_told_83 : decode cX4_told 83 = .ok (.getfield 113, 3) := by decide +kernel
theorem dX4_told_86 : decode cX4_told 86 = .ok (.i2l, 1) := by decide +kernel
theorem dX4_told_87 : decode cX4_told 87 = .ok (.lreturn, 1) := by decide +kernel
theorem dX4_told_88 : decode cX4_told 88 = .ok (.ldc2_w 59, 3) := by decide +kernel
theorem dX4_told_91 : decode cX4_told 91 = .ok (.lreturn, 1) := by decide +kernel
set_option maxRecDepth 20000 in
theorem ggX4_on_X4_deckAt : GoodIn wsX4_on wsX4_deckAt := goodIn_r _ [7, 8, 9, 10, 6, 11, 22, 23, 24, 25, 26, 27, 28, 29, 30] (by decide +kernel) (by decide +kernel)
set_option maxRecDepth 20000 in
theorem gX4_on_X4_deckAt : GoodIn wsX4_on (wsV RX4 37 RX4 yX4_deckAt wsX4_deckAt) := goodIn_app (goodIn_of _ (by decide +kernel)) ggX4_on_X4_deckAt
set_option maxRecDepth 20000 in
theorem ggX4_on_X1_left : GoodIn wsX4_on wsX1_left := goodIn_r _ [16, 17, 18, 19, 20, 21] (by decide +kernel) (by decide +kernel)
set_option maxRecDepth 20000 in
theorem gX4_on_X1_left : GoodIn wsX4_on (wsV RX4 106 RX1 yX1_left wsX1_left) := goodIn_app (goodIn_of _ (by decide +kernel)) ggX4_on_X1_left
theorem dX4_on_0 : decode cX4_on 0 = .ok (.aload_n 0, 1) := by decide +kernel
theorem dX4_on_1 : decode cX4_on 1 = .ok (.iload_n 1, 1) := by decide +kernel
theorem dX4_on_2 : decode cX4_on 2 = .ok (.invokevirtual 37, 3) := by decide +kernel
theorem dX4_on_5 : decode cX4_on 5 = .ok (.astore_n 3, 1) := by decide +kernel
theorem dX4_on_6 : decode cX4_on 6 = .ok (.aload_n 3, 1) := by decide +kernel
theorem dX4_on_7 : decode cX4_on 7 = .ok (.ifnonnull 5, 3) := by decide +kernel
theorem dX4_on_10 : decode cX4_on 10 = .ok (.iconst (-1), 1) := by decide +kernel
theorem dX4_on_11 : decode cX4_on 11 = .ok (.ireturn, 1) := by decide +kernel
theorem dX4_on_12 : decode cX4_on 12 = .ok (.iload_n 2, 1) := by decide +kernel
theorem dX4_on_13 : decode cX4_on 13 = .ok (.tableswitch 42 0 2 #[27, 32, 37], 27) := by decide +kernel
theorem dX4_on_40 : decode cX4_on 40 = .ok (.aload_n 3, 1) := by decide +kernel
theorem dX4_on_41 : decode cX4_on 41 = .ok (.getfield 45, 3) := by decide +kernel
theorem dX4_on_44 : decode cX4_on 44 = .ok (.ireturn, 1) := by decide +kernel
theorem dX4_on_45 : decode cX4_on 45 = .ok (.aload_n 3, 1) := by decide +kernel
theorem dX4_on_46 : decode cX4_on 46 = .ok (.invokevirtual 106, 3) := by decide +kernel
theorem dX4_on_49 : decode cX4_on 49 = .ok (.ireturn, 1) := by decide +kernel
theorem dX4_on_50 : decode cX4_on 50 = .ok (.aload_n 3, 1) := by decide +kernel
theorem dX4_on_51 : decode cX4_on 51 = .ok (.getfield 136, 3) := by decide +kernel
theorem dX4_on_54 : decode cX4_on 54 = .ok (.ireturn, 1) := by decide +kernel
theorem dX4_on_55 : decode cX4_on 55 = .ok (.iconst (-1), 1) := by decide +kernel
theorem dX4_on_56 : decode cX4_on 56 = .ok (.ireturn, 1) := by decide +kernel
theorem dX4_till_0 : decode cX4_till 0 = .ok (.aload_n 0, 1) := by decide +kernel
theorem dX4_till_1 : decode cX4_till 1 = .ok (.getfield 109, 3) := by decide +kernel
theorem dX4_till_4 : decode cX4_till 4 = .ok (.lreturn, 1) := by decide +kernel
theorem dX4_count_0 : decode cX4_count 0 = .ok (.iload_n 1, 1) := by decide +kernel
theorem dX4_count_1 : decode cX4_count 1 = .ok (.tableswitch 57 0 3 #[31, 36, 47, 52], 31) := by decide +kernel
theorem dX4_count_32 : decode cX4_count 32 = .ok (.aload_n 0, 1) := by decide +kernel
theorem dX4_count_33 : decode cX4_count 33 = .ok (.getfield 49, 3) := by decide +kernel
theorem dX4_count_36 : decode cX4_count 36 = .ok (.ireturn, 1) := by decide +kernel
theorem dX4_count_37 : decode cX4_count 37 = .ok (.aload_n 0, 1) := by decide +kernel
theorem dX4_count_38 : decode cX4_count 38 = .ok (.getfield 25, 3) := by decide +kernel
theorem dX4_count_41 : decode cX4_count 41 = .ok (.getfield 87, 3) := by decide +kernel
theorem dX4_count_44 : decode cX4_count 44 = .ok (.getfield 139, 3) := by decide +kernel
theorem dX4_count_47 : decode cX4_count 47 = .ok (.ireturn, 1) := by decide +kernel
theorem dX4_count_48 : decode cX4_count 48 = .ok (.aload_n 0, 1) := by decide +kernel
theorem dX4_count_49 : decode cX4_count 49 = .ok (.getfield 140, 3) := by decide +kernel
theorem dX4_count_52 : decode cX4_count 52 = .ok (.ireturn, 1) := by decide +kernel
theorem dX4_count_53 : decode cX4_count 53 = .ok (.aload_n 0, 1) := by decide +kernel
theorem dX4_count_54 : decode cX4_count 54 = .ok (.getfield 143, 3) := by decide +kernel
theorem dX4_count_57 : decode cX4_count 57 = .ok (.ireturn, 1) := by decide +kernel
theorem dX4_count_58 : decode cX4_count 58 = .ok (.iconst (-1), 1) := by decide +kernel
theorem dX4_count_59 : decode cX4_count 59 = .ok (.ireturn, 1) := by decide +kernel
theorem dX4_within_0 : decode cX4_within 0 = .ok (.iload_n 0, 1) := by decide +kernel
theorem dX4_within_1 : decode cX4_within 1 = .ok (.iload_n 1, 1) := by decide +kernel
theorem dX4_within_2 : decode cX4_within 2 = .ok (.if_icmp .lt 12, 3) := by decide +kernel
theorem dX4_within_5 : decode cX4_within 5 = .ok (.iload_n 0, 1) := by decide +kernel
theorem dX4_within_6 : decode cX4_within 6 = .ok (.iload_n 2, 1) := by decide +kernel
theorem dX4_within_7 : decode cX4_within 7 = .ok (.if_icmp .gt 7, 3) := by decide +kernel
theorem dX4_within_10 : decode cX4_within 10 = .ok (.iconst 1, 1) := by decide +kernel
theorem dX4_within_11 : decode cX4_within 11 = .ok (.goto 4, 3) := by decide +kernel
theorem dX4_within_14 : decode cX4_within 14 = .ok (.iconst 0, 1) := by decide +kernel
theorem dX4_within_15 : decode cX4_within 15 = .ok (.ireturn, 1) := by decide +kernel
set_option maxRecDepth 20000 in
theorem ggX4_ownerOf_X4_within : GoodIn wsX4_ownerOf wsX4_within := goodIn_r _ [5] (by decide +kernel) (by decide +kernel)
set_option maxRecDepth 20000 in
theorem gX4_ownerOf_X4_within : GoodIn wsX4_ownerOf (va_wsS RX4 29 yX4_within wsX4_within) := goodIn_app (goodIn_of _ (by decide +kernel)) ggX4_ownerOf_X4_within
theorem dX4_ownerOf_0 : decode cX4_ownerOf 0 = .ok (.iload_n 0, 1) := by decide +kernel
theorem dX4_ownerOf_1 : decode cX4_ownerOf 1 = .ok (.iconst 0, 1) := by decide +kernel
theorem dX4_ownerOf_2 : decode cX4_ownerOf 2 = .ok (.bipush 6, 2) := by decide +kernel
theorem dX4_ownerOf_4 : decode cX4_ownerOf 4 = .ok (.invokestatic 29, 3) := by decide +kernel
theorem dX4_ownerOf_7 : decode cX4_ownerOf 7 = .ok (.ifCond .eq 13, 3) := by decide +kernel
theorem dX4_ownerOf_10 : decode cX4_ownerOf 10 = .ok (.iload_n 1, 1) := by decide +kernel
theorem dX4_ownerOf_11 : decode cX4_ownerOf 11 = .ok (.iconst 0, 1) := by decide +kernel
theorem dX4_ownerOf_12 : decode cX4_ownerOf 12 = .ok (.bipush 9, 2) := by decide +kernel
theorem dX4_ownerOf_14 : decode cX4_ownerOf 14 = .ok (.invokestatic 29, 3) := by decide +kernel
theorem dX4_ownerOf_17 : decode cX4_ownerOf 17 = .ok (.ifCond .ne 5, 3) := by decide +kernel
theorem dX4_ownerOf_20 : decode cX4_ownerOf 20 = .ok (.iconst (-1), 1) := by decide +kernel
theorem dX4_ownerOf_21 : decode cX4_ownerOf 21 = .ok (.ireturn, 1) := by decide +kernel
theorem dX4_ownerOf_22 : decode cX4_ownerOf 22 = .ok (.getstatic 146, 3) := by decide +kernel
theorem dX4_ownerOf_25 : decode cX4_ownerOf 25 = .ok (.bipush 10, 2) := by decide +kernel
theorem dX4_ownerOf_27 : decode cX4_ownerOf 27 = .ok (.iload_n 0, 1) := by decide +kernel
theorem dX4_ownerOf_28 : decode cX4_ownerOf 28 = .ok (.imul, 1) := by decide +kernel
theorem dX4_ownerOf_29 : decode cX4_ownerOf 29 = .ok (.iload_n 1, 1) := by decide +kernel
theorem dX4_ownerOf_30 : decode cX4_ownerOf 30 = .ok (.iadd, 1) := by decide +kernel
theorem dX4_ownerOf_31 : decode cX4_ownerOf 31 = .ok (.iaload, 1) := by decide +kernel
theorem dX4_ownerOf_32 : decode cX4_ownerOf 32 = .ok (.ireturn, 1) := by decide +kernel
set_option maxRecDepth 20000 in
theorem ggX4_vehicleAt_X4_within : GoodIn wsX4_vehicleAt wsX4_within := goodIn_r _ [6] (by decide +kernel) (by decide +kernel)
set_option maxRecDepth 20000 in
theorem gX4_vehicleAt_X4_within : GoodIn wsX4_vehicleAt (va_wsS RX4 29 yX4_within wsX4_within) := goodIn_app (goodIn_of _ (by decide +kernel)) ggX4_vehicleAt_X4_within
theorem dX4_vehicleAt_0 : decode cX4_vehicleAt 0 = .ok (.iload_n 1, 1) := by decide +kernel
theorem dX4_vehicleAt_1 : decode cX4_vehicleAt 1 = .ok (.iconst 0, 1) := by decide +kernel
theorem dX4_vehicleAt_2 : decode cX4_vehicleAt 2 = .ok (.aload_n 0, 1) := by decide +kernel
theorem dX4_vehicleAt_3 : decode cX4_vehicleAt 3 = .ok (.getfield 49, 3) := by decide +kernel
theorem dX4_vehicleAt_6 : decode cX4_vehicleAt 6 = .ok (.iconst 1, 1) := by decide +kernel
theorem dX4_vehicleAt_7 : decode cX4_vehicleAt 7 = .ok (.isub, 1) := by decide +kernel
theorem dX4_vehicleAt_8 : decode cX4_vehicleAt 8 = .ok (.invokestatic 29, 3) := by decide +kernel
theorem dX4_vehicleAt_11 : decode cX4_vehicleAt 11 = .ok (.ifCond .eq 12, 3) := by decide +kernel
theorem dX4_vehicleAt_14 : decode cX4_vehicleAt 14 = .ok (.aload_n 0, 1) := by decide +kernel
theorem dX4_vehicleAt_15 : decode cX4_vehicleAt 15 = .ok (.getfield 11, 3) := by decide +kernel
theorem dX4_vehicleAt_18 : decode cX4_vehicleAt 18 = .ok (.iload_n 1, 1) := by decide +kernel
theorem dX4_vehicleAt_19 : decode cX4_vehicleAt 19 = .ok (.aaload, 1) := by decide +kernel
theorem dX4_vehicleAt_20 : decode cX4_vehicleAt 20 = .ok (.goto 4, 3) := by decide +kernel
theorem dX4_vehicleAt_23 : decode cX4_vehicleAt 23 = .ok (.aconst_null, 1) := by decide +kernel
theorem dX4_vehicleAt_24 : decode cX4_vehicleAt 24 = .ok (.areturn, 1) := by decide +kernel
set_option maxRecDepth 20000 in
theorem ggX4_deckAt_X4_within : GoodIn wsX4_deckAt wsX4_within := goodIn_r _ [5] (by decide +kernel) (by decide +kernel)
set_option maxRecDepth 20000 in
theorem gX4_deckAt_X4_within : GoodIn wsX4_deckAt (va_wsS RX4 29 yX4_within wsX4_within) := goodIn_app (goodIn_of _ (by decide +kernel)) ggX4_deckAt_X4_within
theorem dX4_deckAt_0 : decode cX4_deckAt 0 = .ok (.iload_n 1, 1) := by decide +kernel
theorem dX4_deckAt_1 : decode cX4_deckAt 1 = .ok (.iconst 0, 1) := by decide +kernel
theorem dX4_deckAt_2 : decode cX4_deckAt 2 = .ok (.iconst 2, 1) := by decide +kernel
theorem dX4_deckAt_3 : decode cX4_deckAt 3 = .ok (.invokestatic 29, 3) := by decide +kernel
theorem dX4_deckAt_6 : decode cX4_deckAt 6 = .ok (.ifCond .eq 12, 3) := by decide +kernel
theorem dX4_deckAt_9 : decode cX4_deckAt 9 = .ok (.aload_n 0, 1) := by decide +kernel
theorem dX4_deckAt_10 : decode cX4_deckAt 10 = .ok (.getfield 17, 3) := by decide +kernel
theorem dX4_deckAt_13 : decode cX4_deckAt 13 = .ok (.iload_n 1, 1) := by decide +kernel
theorem dX4_deckAt_14 : decode cX4_deckAt 14 = .ok (.aaload, 1) := by decide +kernel
theorem dX4_deckAt_15 : decode cX4_deckAt 15 = .ok (.goto 4, 3) := by decide +kernel
theorem dX4_deckAt_18 : decode cX4_deckAt 18 = .ok (.aconst_null, 1) := by decide +kernel
theorem dX4_deckAt_19 : decode cX4_deckAt 19 = .ok (.areturn, 1) := by decide +kernel
set_option maxRecDepth 20000 in
theorem ggX4_beginAct_X0_begin : GoodIn wsX4_beginAct wsX0_begin := goodIn_r _ [7, 8, 9, 10, 20, 21, 22, 23, 24] (by decide +kernel) (by decide +kernel)
set_option maxRecDepth 20000 in
theorem gX4_beginAct_X0_begin : GoodIn wsX4_beginAct (wsV RX4 149 RX0 yX0_begin wsX0_begin) := goodIn_app (goodIn_of _ (by decide +kernel)) ggX4_beginAct_X0_begin
theorem dX4_beginAct_0 : decode cX4_beginAct 0 = .ok (.aload_n 0, 1) := by decide +kernel
theorem dX4_beginAct_1 : decode cX4_beginAct 1 = .ok (.dup, 1) := by decide +kernel
theorem dX4_beginAct_2 : decode cX4_beginAct 2 = .ok (.getfield 140, 3) := by decide +kernel
theorem dX4_beginAct_5 : decode cX4_beginAct 5 = .ok (.iconst 1, 1) := by decide +kernel
theorem dX4_beginAct_6 : decode cX4_beginAct 6 = .ok (.iadd, 1) := by decide +kernel
theorem dX4_beginAct_7 : decode cX4_beginAct 7 = .ok (.putfield 140, 3) := by decide +kernel
theorem dX4_beginAct_10 : decode cX4_beginAct 10 = .ok (.aload_n 0, 1) := by decide +kernel
theorem dX4_beginAct_11 : decode cX4_beginAct 11 = .ok (.getfield 25, 3) := by decide +kernel
theorem dX4_beginAct_14 : decode cX4_beginAct 14 = .ok (.invokevirtual 149, 3) := by decide +kernel
theorem dX4_beginAct_17 : decode cX4_beginAct 17 = .ok (.return_, 1) := by decide +kernel
theorem dX4_endByFailure_0 : decode cX4_endByFailure 0 = .ok (.aload_n 0, 1) := by decide +kernel
theorem dX4_endByFailure_1 : decode cX4_endByFailure 1 = .ok (.dup, 1) := by decide +kernel
theorem dX4_endByFailure_2 : decode cX4_endByFailure 2 = .ok (.getfield 143, 3) := by decide +kernel
theorem dX4_endByFailure_5 : decode cX4_endByFailure 5 = .ok (.iconst 1, 1) := by decide +kernel
theorem dX4_endByFailure_6 : decode cX4_endByFailure 6 = .ok (.iadd, 1) := by decide +kernel
theorem dX4_endByFailure_7 : decode cX4_endByFailure 7 = .ok (.putfield 143, 3) := by decide +kernel
theorem dX4_endByFailure_10 : decode cX4_endByFailure 10 = .ok (.aload_n 0, 1) := by decide +kernel
theorem dX4_endByFailure_11 : decode cX4_endByFailure 11 = .ok (.getfield 25, 3) := by decide +kernel
theorem dX4_endByFailure_14 : decode cX4_endByFailure 14 = .ok (.getfield 152, 3) := by decide +kernel
theorem dX4_endByFailure_17 : decode cX4_endByFailure 17 = .ok (.ireturn, 1) := by decide +kernel
theorem dJ9_max_7cf53_0 : decode cJ9_max_7cf53 0 = .ok (.iload_n 0, 1) := by decide +kernel
theorem dJ9_max_7cf53_1 : decode cJ9_max_7cf53 1 = .ok (.iload_n 1, 1) := by decide +kernel
theorem dJ9_max_7cf53_2 : decode cJ9_max_7cf53 2 = .ok (.if_icmp .lt 7, 3) := by decide +kernel
theorem dJ9_max_7cf53_5 : decode cJ9_max_7cf53 5 = .ok (.iload_n 0, 1) := by decide +kernel
theorem dJ9_max_7cf53_6 : decode cJ9_max_7cf53 6 = .ok (.goto 4, 3) := by decide +kernel
theorem dJ9_max_7cf53_9 : decode cJ9_max_7cf53 9 = .ok (.iload_n 1, 1) := by decide +kernel
theorem dJ9_max_7cf53_10 : decode cJ9_max_7cf53 10 = .ok (.ireturn, 1) := by decide +kernel
