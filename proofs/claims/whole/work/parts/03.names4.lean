set_option maxRecDepth 20000 in
theorem ggX9_dual_X9_isLeafNumber : GoodIn wsX9_dual wsX9_isLeafNumber := goodIn_r _ [8] (by decide +kernel) (by decide +kernel)
set_option maxRecDepth 20000 in
theorem gX9_dual_X9_isLeafNumber : GoodIn wsX9_dual (va_wsS RX9 174 yX9_isLeafNumber wsX9_isLeafNumber) := goodIn_app (goodIn_of _ (by decide +kernel)) ggX9_dual_X9_isLeafNumber
set_option maxRecDepth 20000 in
theorem ggX9_dual_X8_hasDual : GoodIn wsX9_dual wsX8_hasDual := goodIn_r _ [13, 14, 15, 16, 17, 18, 19, 20, 21, 22, 23, 24, 25, 26, 27, 28, 29, 30, 142, 143, 144, 145, 146, 147, 148, 149, 150] (by decide +kernel) (by decide +kernel)
set_option maxRecDepth 20000 in
theorem gX9_dual_X8_hasDual : GoodIn wsX9_dual (wsV RX9 216 RX8 yX8_hasDual wsX8_hasDual) := goodIn_app (goodIn_of _ (by decide +kernel)) ggX9_dual_X8_hasDual
set_option maxRecDepth 20000 in
theorem ggX9_dual_X9_learnDual : GoodIn wsX9_dual wsX9_learnDual := goodIn_r _ [34, 35, 36, 2, 4, 37, 38, 39, 40, 41, 42, 43, 44, 45, 46, 47, 48, 49, 50, 51, 52, 53, 54, 55, 56, 57, 58, 59, 60, 61, 12, 62, 16, 17, 19, 63, 64, 65, 66, 67, 68, 69, 70, 71, 72, 73, 74, 75, 76, 77, 78, 79, 80, 81, 82, 83, 84, 85, 86, 87, 88, 89, 90, 91, 92, 93, 94, 95, 96, 97, 98, 99, 100, 101, 102, 103, 104, 105, 106, 107, 14, 15, 108, 109, 110, 111, 112, 113, 114, 115, 116, 117, 118, 119, 120, 121, 122, 123, 124, 125, 126, 127, 128, 129, 130, 131, 132, 133, 134, 135, 136, 137, 138, 139, 140, 141, 142, 143, 144, 145, 151, 152, 153, 154, 155, 156, 146, 147, 148, 149, 150, 157, 158, 159] (by decide +kernel) (by decide +kernel)
set_option maxRecDepth 20000 in
theorem gX9_dual_X9_learnDual : GoodIn wsX9_dual (wsV RX9 222 RX9 yX9_learnDual wsX9_learnDual) := goodIn_app (goodIn_of _ (by decide +kernel)) ggX9_dual_X9_learnDual
theorem dX9_dual_0 : decode cX9_dual 0 = .ok (.iload_n 1, 1) := by decide +kernel
theorem dX9_dual_1 : decode cX9_dual 1 = .ok (.invokestatic 174, 3) := by decide +kernel
theorem dX9_dual_4 : decode cX9_dual 4 = .ok (.ifCond .ne 7, 3) := by decide +kernel
theorem dX9_dual_7 : decode cX9_dual 7 = .ok (.ldc2_w 177, 3) := by decide +kernel
theorem dX9_dual_10 : decode cX9_dual 10 = .ok (.lreturn, 1) := by decide +kernel
theorem dX9_dual_11 : decode cX9_dual 11 = .ok (.aload_n 0, 1) := by decide +kernel
theorem dX9_dual_12 : decode cX9_dual 12 = .ok (.getfield 10, 3) := by decide +kernel
theorem dX9_dual_15 : decode cX9_dual 15 = .ok (.invokevirtual 216, 3) := by decide +kernel
theorem dX9_dual_18 : decode cX9_dual 18 = .ok (.ifCond .ne 7, 3) := by decide +kernel
theorem dX9_dual_21 : decode cX9_dual 21 = .ok (.ldc2_w 220, 3) := by decide +kernel
theorem dX9_dual_24 : decode cX9_dual 24 = .ok (.lreturn, 1) := by decide +kernel
theorem dX9_dual_25 : decode cX9_dual 25 = .ok (.aload_n 0, 1) := by decide +kernel
theorem dX9_dual_26 : decode cX9_dual 26 = .ok (.invokevirtual 222, 3) := by decide +kernel
theorem dX9_dual_29 : decode cX9_dual 29 = .ok (.aload_n 0, 1) := by decide +kernel
theorem dX9_dual_30 : decode cX9_dual 30 = .ok (.getfield 66, 3) := by decide +kernel
theorem dX9_dual_33 : decode cX9_dual 33 = .ok (.iload_n 1, 1) := by decide +kernel
theorem dX9_dual_34 : decode cX9_dual 34 = .ok (.laload, 1) := by decide +kernel
theorem dX9_dual_35 : decode cX9_dual 35 = .ok (.lreturn, 1) := by decide +kernel
set_option maxRecDepth 20000 in
theorem ggX9_count_X9_treeRows : GoodIn wsX9_count wsX9_treeRows := goodIn_r _ [8, 1, 9, 10, 11, 12, 13, 14, 15, 16, 17, 18, 19, 20, 21, 22, 23, 24, 25, 26, 27, 28, 29, 30, 38, 39, 40, 41, 42, 43, 44, 45, 46, 47, 48, 49, 50, 51, 56, 57, 52, 53, 54, 55] (by decide +kernel) (by decide +kernel)
set_option maxRecDepth 20000 in
theorem gX9_count_X9_treeRows : GoodIn wsX9_count (wsV RX9 225 RX9 yX9_treeRows wsX9_treeRows) := goodIn_app (goodIn_of _ (by decide +kernel)) ggX9_count_X9_treeRows
set_option maxRecDepth 20000 in
theorem ggX9_count_X8_rulesToNothing : GoodIn wsX9_count wsX8_rulesToNothing := goodIn_r _ [34, 35, 36, 37, 52, 53, 54, 55, 58, 59, 60] (by decide +kernel) (by decide +kernel)
set_option maxRecDepth 20000 in
theorem gX9_count_X8_rulesToNothing : GoodIn wsX9_count (wsV RX9 228 RX8 yX8_rulesToNothing wsX8_rulesToNothing) := goodIn_app (goodIn_of _ (by decide +kernel)) ggX9_count_X8_rulesToNothing
theorem dX9_count_0 : decode cX9_count 0 = .ok (.iload_n 1, 1) := by decide +kernel
theorem dX9_count_1 : decode cX9_count 1 = .ok (.ifCond .lt 8, 3) := by decide +kernel
theorem dX9_count_4 : decode cX9_count 4 = .ok (.iload_n 1, 1) := by decide +kernel
theorem dX9_count_5 : decode cX9_count 5 = .ok (.iconst 3, 1) := by decide +kernel
theorem dX9_count_6 : decode cX9_count 6 = .ok (.if_icmp .le 6, 3) := by decide +kernel
theorem dX9_count_9 : decode cX9_count 9 = .ok (.bipush (-2), 2) := by decide +kernel
theorem dX9_count_11 : decode cX9_count 11 = .ok (.ireturn, 1) := by decide +kernel
theorem dX9_count_12 : decode cX9_count 12 = .ok (.iload_n 1, 1) := by decide +kernel
theorem dX9_count_13 : decode cX9_count 13 = .ok (.ifCond .ne 11, 3) := by decide +kernel
theorem dX9_count_16 : decode cX9_count 16 = .ok (.aload_n 0, 1) := by decide +kernel
theorem dX9_count_17 : decode cX9_count 17 = .ok (.getfield 10, 3) := by decide +kernel
theorem dX9_count_20 : decode cX9_count 20 = .ok (.getfield 73, 3) := by decide +kernel
theorem dX9_count_23 : decode cX9_count 23 = .ok (.ireturn, 1) := by decide +kernel
theorem dX9_count_24 : decode cX9_count 24 = .ok (.iload_n 1, 1) := by decide +kernel
theorem dX9_count_25 : decode cX9_count 25 = .ok (.iconst 1, 1) := by decide +kernel
theorem dX9_count_26 : decode cX9_count 26 = .ok (.if_icmp .ne 11, 3) := by decide +kernel
theorem dX9_count_29 : decode cX9_count 29 = .ok (.aload_n 0, 1) := by decide +kernel
theorem dX9_count_30 : decode cX9_count 30 = .ok (.getfield 10, 3) := by decide +kernel
theorem dX9_count_33 : decode cX9_count 33 = .ok (.getfield 138, 3) := by decide +kernel
theorem dX9_count_36 : decode cX9_count 36 = .ok (.ireturn, 1) := by decide +kernel
theorem dX9_count_37 : decode cX9_count 37 = .ok (.iload_n 1, 1) := by decide +kernel
theorem dX9_count_38 : decode cX9_count 38 = .ok (.iconst 2, 1) := by decide +kernel
theorem dX9_count_39 : decode cX9_count 39 = .ok (.if_icmp .ne 10, 3) := by decide +kernel
theorem dX9_count_42 : decode cX9_count 42 = .ok (.aload_n 0, 1) := by decide +kernel
theorem dX9_count_43 : decode cX9_count 43 = .ok (.invokevirtual 225, 3) := by decide +kernel
theorem dX9_count_46 : decode cX9_count 46 = .ok (.goto 10, 3) := by decide +kernel
theorem dX9_count_49 : decode cX9_count 49 = .ok (.aload_n 0, 1) := by decide +kernel
theorem dX9_count_50 : decode cX9_count 50 = .ok (.getfield 10, 3) := by decide +kernel
theorem dX9_count_53 : decode cX9_count 53 = .ok (.invokevirtual 228, 3) := by decide +kernel
theorem dX9_count_56 : decode cX9_count 56 = .ok (.ireturn, 1) := by decide +kernel
set_option maxRecDepth 20000 in
theorem ggX9_digest_X9_treeRows : GoodIn wsX9_digest wsX9_treeRows := goodIn_r _ [15, 3, 7, 16, 17, 18, 19, 20, 21, 22, 23, 24, 25, 26, 27, 28, 29, 30, 31, 32, 33, 34, 35, 36, 53, 54, 55, 56, 57, 58, 59, 60, 61, 62, 63, 64, 65, 66, 74, 75, 67, 68, 69, 70] (by decide +kernel) (by decide +kernel)
set_option maxRecDepth 20000 in
theorem gX9_digest_X9_treeRows : GoodIn wsX9_digest (wsV RX9 225 RX9 yX9_treeRows wsX9_treeRows) := goodIn_app (goodIn_of _ (by decide +kernel)) ggX9_digest_X9_treeRows
set_option maxRecDepth 20000 in
theorem ggX9_digest_X8_rulesToNothing : GoodIn wsX9_digest wsX8_rulesToNothing := goodIn_r _ [40, 41, 42, 43, 67, 68, 69, 70, 71, 72, 73] (by decide +kernel) (by decide +kernel)
set_option maxRecDepth 20000 in
theorem gX9_digest_X8_rulesToNothing : GoodIn wsX9_digest (wsV RX9 228 RX8 yX8_rulesToNothing wsX8_rulesToNothing) := goodIn_app (goodIn_of _ (by decide +kernel)) ggX9_digest_X8_rulesToNothing
set_option maxRecDepth 20000 in
theorem ggX9_digest_X3_digestedAfter : GoodIn wsX9_digest wsX3_digestedAfter := goodIn_r _ [48, 49, 50, 51, 52, 74, 75] (by decide +kernel) (by decide +kernel)
set_option maxRecDepth 20000 in
theorem gX9_digest_X3_digestedAfter : GoodIn wsX9_digest (wsV RX9 238 RX3 yX3_digestedAfter wsX3_digestedAfter) := goodIn_app (goodIn_of _ (by decide +kernel)) ggX9_digest_X3_digestedAfter
theorem dX9_digest_0 : decode cX9_digest 0 = .ok (.ldc2_w 231, 3) := by decide +kernel
theorem dX9_digest_3 : decode cX9_digest 3 = .ok (.lstore_n 1, 1) := by decide +kernel
theorem dX9_digest_4 : decode cX9_digest 4 = .ok (.ldc2_w 233, 3) := by decide +kernel
theorem dX9_digest_7 : decode cX9_digest 7 = .ok (.lload_n 1, 1) := by decide +kernel
theorem dX9_digest_8 : decode cX9_digest 8 = .ok (.lmul, 1) := by decide +kernel
theorem dX9_digest_9 : decode cX9_digest 9 = .ok (.aload_n 0, 1) := by decide +kernel
theorem dX9_digest_10 : decode cX9_digest 10 = .ok (.getfield 10, 3) := by decide +kernel
theorem dX9_digest_13 : decode cX9_digest 13 = .ok (.getfield 73, 3) := by decide +kernel
theorem dX9_digest_16 : decode cX9_digest 16 = .ok (.i2l, 1) := by decide +kernel
theorem dX9_digest_17 : decode cX9_digest 17 = .ok (.ladd, 1) := by decide +kernel
theorem dX9_digest_18 : decode cX9_digest 18 = .ok (.lstore_n 1, 1) := by decide +kernel
theorem dX9_digest_19 : decode cX9_digest 19 = .ok (.ldc2_w 233, 3) := by decide +kernel
theorem dX9_digest_22 : decode cX9_digest 22 = .ok (.lload_n 1, 1) := by decide +kernel
theorem dX9_digest_23 : decode cX9_digest 23 = .ok (.lmul, 1) := by decide +kernel
theorem dX9_digest_24 : decode cX9_digest 24 = .ok (.aload_n 0, 1) := by decide +kernel
theorem dX9_digest_25 : decode cX9_digest 25 = .ok (.getfield 10, 3) := by decide +kernel
theorem dX9_digest_28 : decode cX9_digest 28 = .ok (.getfield 138, 3) := by decide +kernel
theorem dX9_digest_31 : decode cX9_digest 31 = .ok (.i2l, 1) := by decide +kernel
theorem dX9_digest_32 : decode cX9_digest 32 = .ok (.ladd, 1) := by decide +kernel
theorem dX9_digest_33 : decode cX9_digest 33 = .ok (.lstore_n 1, 1) := by decide +kernel
theorem dX9_digest_34 : decode cX9_digest 34 = .ok (.ldc2_w 233, 3) := by decide +kernel
theorem dX9_digest_37 : decode cX9_digest 37 = .ok (.lload_n 1, 1) := by decide +kernel
theorem dX9_digest_38 : decode cX9_digest 38 = .ok (.lmul, 1) := by decide +kernel
theorem dX9_digest_39 : decode cX9_digest 39 = .ok (.aload_n 0, 1) := by decide +kernel
theorem dX9_digest_40 : decode cX9_digest 40 = .ok (.invokevirtual 225, 3) := by decide +kernel
theorem dX9_digest_43 : decode cX9_digest 43 = .ok (.i2l, 1) := by decide +kernel
theorem dX9_digest_44 : decode cX9_digest 44 = .ok (.ladd, 1) := by decide +kernel
theorem dX9_digest_45 : decode cX9_digest 45 = .ok (.lstore_n 1, 1) := by decide +kernel
theorem dX9_digest_46 : decode cX9_digest 46 = .ok (.ldc2_w 233, 3) := by decide +kernel
theorem dX9_digest_49 : decode cX9_digest 49 = .ok (.lload_n 1, 1) := by decide +kernel
theorem dX9_digest_50 : decode cX9_digest 50 = .ok (.lmul, 1) := by decide +kernel
theorem dX9_digest_51 : decode cX9_digest 51 = .ok (.aload_n 0, 1) := by decide +kernel
theorem dX9_digest_52 : decode cX9_digest 52 = .ok (.getfield 10, 3) := by decide +kernel
theorem dX9_digest_55 : decode cX9_digest 55 = .ok (.invokevirtual 228, 3) := by decide +kernel
theorem dX9_digest_58 : decode cX9_digest 58 = .ok (.i2l, 1) := by decide +kernel
theorem dX9_digest_59 : decode cX9_digest 59 = .ok (.ladd, 1) := by decide +kernel
theorem dX9_digest_60 : decode cX9_digest 60 = .ok (.lstore_n 1, 1) := by decide +kernel
theorem dX9_digest_61 : decode cX9_digest 61 = .ok (.iconst 0, 1) := by decide +kernel
theorem dX9_digest_62 : decode cX9_digest 62 = .ok (.istore_n 3, 1) := by decide +kernel
theorem dX9_digest_63 : decode cX9_digest 63 = .ok (.iload_n 3, 1) := by decide +kernel
theorem dX9_digest_64 : decode cX9_digest 64 = .ok (.aload_n 0, 1) := by decide +kernel
theorem dX9_digest_65 : decode cX9_digest 65 = .ok (.getfield 10, 3) := by decide +kernel
theorem dX9_digest_68 : decode cX9_digest 68 = .ok (.getfield 73, 3) := by decide +kernel
theorem dX9_digest_71 : decode cX9_digest 71 = .ok (.if_icmp .ge 26, 3) := by decide +kernel
theorem dX9_digest_74 : decode cX9_digest 74 = .ok (.ldc2_w 233, 3) := by decide +kernel
theorem dX9_digest_77 : decode cX9_digest 77 = .ok (.lload_n 1, 1) := by decide +kernel
theorem dX9_digest_78 : decode cX9_digest 78 = .ok (.lmul, 1) := by decide +kernel
theorem dX9_digest_79 : decode cX9_digest 79 = .ok (.aload_n 0, 1) := by decide +kernel
theorem dX9_digest_80 : decode cX9_digest 80 = .ok (.getfield 10, 3) := by decide +kernel
theorem dX9_digest_83 : decode cX9_digest 83 = .ok (.getfield 235, 3) := by decide +kernel
theorem dX9_digest_86 : decode cX9_digest 86 = .ok (.iload_n 3, 1) := by decide +kernel
theorem dX9_digest_87 : decode cX9_digest 87 = .ok (.iaload, 1) := by decide +kernel
theorem dX9_digest_88 : decode cX9_digest 88 = .ok (.i2l, 1) := by decide +kernel
theorem dX9_digest_89 : decode cX9_digest 89 = .ok (.ladd, 1) := by decide +kernel
theorem dX9_digest_90 : decode cX9_digest 90 = .ok (.lstore_n 1, 1) := by decide +kernel
theorem dX9_digest_91 : decode cX9_digest 91 = .ok (.iinc 3 1, 3) := by decide +kernel
theorem dX9_digest_94 : decode cX9_digest 94 = .ok (.goto (-31), 3) := by decide +kernel
theorem dX9_digest_97 : decode cX9_digest 97 = .ok (.iconst 0, 1) := by decide +kernel
theorem dX9_digest_98 : decode cX9_digest 98 = .ok (.istore_n 3, 1) := by decide +kernel
theorem dX9_digest_99 : decode cX9_digest 99 = .ok (.iload_n 3, 1) := by decide +kernel
theorem dX9_digest_100 : decode cX9_digest 100 = .ok (.bipush 10, 2) := by decide +kernel
theorem dX9_digest_102 : decode cX9_digest 102 = .ok (.if_icmp .ge 20, 3) := by decide +kernel
theorem dX9_digest_105 : decode cX9_digest 105 = .ok (.aload_n 0, 1) := by decide +kernel
theorem dX9_digest_106 : decode cX9_digest 106 = .ok (.getfield 18, 3) := by decide +kernel
theorem dX9_digest_109 : decode cX9_digest 109 = .ok (.iload_n 3, 1) := by decide +kernel
theorem dX9_digest_110 : decode cX9_digest 110 = .ok (.aaload, 1) := by decide +kernel
theorem dX9_digest_111 : decode cX9_digest 111 = .ok (.lload_n 1, 1) := by decide +kernel
theorem dX9_digest_112 : decode cX9_digest 112 = .ok (.invokevirtual 238, 3) := by decide +kernel
theorem dX9_digest_115 : decode cX9_digest 115 = .ok (.lstore_n 1, 1) := by decide +kernel
theorem dX9_digest_116 : decode cX9_digest 116 = .ok (.iinc 3 1, 3) := by decide +kernel
theorem dX9_digest_119 : decode cX9_digest 119 = .ok (.goto (-20), 3) := by decide +kernel
theorem dX9_digest_122 : decode cX9_digest 122 = .ok (.iconst 0, 1) := by decide +kernel
theorem dX9_digest_123 : decode cX9_digest 123 = .ok (.istore_n 3, 1) := by decide +kernel
theorem dX9_digest_124 : decode cX9_digest 124 = .ok (.iload_n 3, 1) := by decide +kernel
theorem dX9_digest_125 : decode cX9_digest 125 = .ok (.aload_n 0, 1) := by decide +kernel
theorem dX9_digest_126 : decode cX9_digest 126 = .ok (.getfield 10, 3) := by decide +kernel
theorem dX9_digest_129 : decode cX9_digest 129 = .ok (.getfield 138, 3) := by decide +kernel
theorem dX9_digest_132 : decode cX9_digest 132 = .ok (.if_icmp .ge 43, 3) := by decide +kernel
theorem dX9_digest_135 : decode cX9_digest 135 = .ok (.aload_n 0, 1) := by decide +kernel
theorem dX9_digest_136 : decode cX9_digest 136 = .ok (.getfield 10, 3) := by decide +kernel
theorem dX9_digest_139 : decode cX9_digest 139 = .ok (.getfield 148, 3) := by decide +kernel
theorem dX9_digest_142 : decode cX9_digest 142 = .ok (.iload_n 3, 1) := by decide +kernel
theorem dX9_digest_143 : decode cX9_digest 143 = .ok (.aaload, 1) := by decide +kernel
theorem dX9_digest_144 : decode cX9_digest 144 = .ok (.getfield 152, 3) := by decide +kernel
theorem dX9_digest_147 : decode cX9_digest 147 = .ok (.lload_n 1, 1) := by decide +kernel
theorem dX9_digest_148 : decode cX9_digest 148 = .ok (.invokevirtual 238, 3) := by decide +kernel
theorem dX9_digest_151 : decode cX9_digest 151 = .ok (.lstore_n 1, 1) := by decide +kernel
theorem dX9_digest_152 : decode cX9_digest 152 = .ok (.aload_n 0, 1) := by decide +kernel
theorem dX9_digest_153 : decode cX9_digest 153 = .ok (.getfield 10, 3) := by decide +kernel
theorem dX9_digest_156 : decode cX9_digest 156 = .ok (.getfield 148, 3) := by decide +kernel
theorem dX9_digest_159 : decode cX9_digest 159 = .ok (.iload_n 3, 1) := by decide +kernel
theorem dX9_digest_160 : decode cX9_digest 160 = .ok (.aaload, 1) := by decide +kernel
theorem dX9_digest_161 : decode cX9_digest 161 = .ok (.getfield 157, 3) := by decide +kernel
theorem dX9_digest_164 : decode cX9_digest 164 = .ok (.lload_n 1, 1) := by decide +kernel
theorem dX9_digest_165 : decode cX9_digest 165 = .ok (.invokevirtual 238, 3) := by decide +kernel
theorem dX9_digest_168 : decode cX9_digest 168 = .ok (.lstore_n 1, 1) := by decide +kernel
theorem dX9_digest_169 : decode cX9_digest 169 = .ok (.iinc 3 1, 3) := by decide +kernel
theorem dX9_digest_172 : decode cX9_digest 172 = .ok (.goto (-48), 3) := by decide +kernel
theorem dX9_digest_175 : decode cX9_digest 175 = .ok (.lload_n 1, 1) := by decide +kernel
theorem dX9_digest_176 : decode cX9_digest 176 = .ok (.lreturn, 1) := by decide +kernel
theorem dX9_isRow_0 : decode cX9_isRow 0 = .ok (.iload_n 0, 1) := by decide +kernel
theorem dX9_isRow_1 : decode cX9_isRow 1 = .ok (.ifCond .lt 13, 3) := by decide +kernel
theorem dX9_isRow_4 : decode cX9_isRow 4 = .ok (.iload_n 0, 1) := by decide +kernel
theorem dX9_isRow_5 : decode cX9_isRow 5 = .ok (.bipush 10, 2) := by decide +kernel
theorem dX9_isRow_7 : decode cX9_isRow 7 = .ok (.if_icmp .ge 7, 3) := by decide +kernel
theorem dX9_isRow_10 : decode cX9_isRow 10 = .ok (.iconst 1, 1) := by decide +kernel
theorem dX9_isRow_11 : decode cX9_isRow 11 = .ok (.goto 4, 3) := by decide +kernel
theorem dX9_isRow_14 : decode cX9_isRow 14 = .ok (.iconst 0, 1) := by decide +kernel
theorem dX9_isRow_15 : decode cX9_isRow 15 = .ok (.ireturn, 1) := by decide +kernel
theorem dX9_isLeafNumber_0 : decode cX9_isLeafNumber 0 = .ok (.iload_n 0, 1) := by decide +kernel
theorem dX9_isLeafNumber_1 : decode cX9_isLeafNumber 1 = .ok (.iconst 1, 1) := by decide +kernel
theorem dX9_isLeafNumber_2 : decode cX9_isLeafNumber 2 = .ok (.if_icmp .lt 13, 3) := by decide +kernel
theorem dX9_isLeafNumber_5 : decode cX9_isLeafNumber 5 = .ok (.iload_n 0, 1) := by decide +kernel
theorem dX9_isLeafNumber_6 : decode cX9_isLeafNumber 6 = .ok (.bipush 6, 2) := by decide +kernel
theorem dX9_isLeafNumber_8 : decode cX9_isLeafNumber 8 = .ok (.if_icmp .gt 7, 3) := by decide +kernel
theorem dX9_isLeafNumber_11 : decode cX9_isLeafNumber 11 = .ok (.iconst 1, 1) := by decide +kernel
theorem dX9_isLeafNumber_12 : decode cX9_isLeafNumber 12 = .ok (.goto 4, 3) := by decide +kernel
theorem dX9_isLeafNumber_15 : decode cX9_isLeafNumber 15 = .ok (.iconst 0, 1) := by decide +kernel
theorem dX9_isLeafNumber_16 : decode cX9_isLeafNumber 16 = .ok (.ireturn, 1) := by decide +kernel
set_option maxRecDepth 20000 in
theorem ggX9_isTreeRow_X9_isRow : GoodIn wsX9_isTreeRow wsX9_isRow := goodIn_r _ [6] (by decide +kernel) (by decide +kernel)
set_option maxRecDepth 20000 in
theorem gX9_isTreeRow_X9_isRow : GoodIn wsX9_isTreeRow (va_wsS RX9 83 yX9_isRow wsX9_isRow) := goodIn_app (goodIn_of _ (by decide +kernel)) ggX9_isTreeRow_X9_isRow
set_option maxRecDepth 20000 in
theorem ggX9_isTreeRow_X8_isTree : GoodIn wsX9_isTreeRow wsX8_isTree := goodIn_r _ [11, 12, 13, 14, 15, 10, 16, 17, 18, 19, 20, 21, 22, 23, 24, 25, 26, 27, 42, 43, 44, 45, 46, 47] (by decide +kernel) (by decide +kernel)
set_option maxRecDepth 20000 in
theorem gX9_isTreeRow_X8_isTree : GoodIn wsX9_isTreeRow (wsV RX9 103 RX8 yX8_isTree wsX8_isTree) := goodIn_app (goodIn_of _ (by decide +kernel)) ggX9_isTreeRow_X8_isTree
theorem dX9_isTreeRow_0 : decode cX9_isTreeRow 0 = .ok (.iload_n 1, 1) := by decide +kernel
theorem dX9_isTreeRow_1 : decode cX9_isTreeRow 1 = .ok (.invokestatic 83, 3) := by decide +kernel
theorem dX9_isTreeRow_4 : decode cX9_isTreeRow 4 = .ok (.ifCond .eq 23, 3) := by decide +kernel
theorem dX9_isTreeRow_7 : decode cX9_isTreeRow 7 = .ok (.aload_n 0, 1) := by decide +kernel
theorem dX9_isTreeRow_8 : decode cX9_isTreeRow 8 = .ok (.getfield 10, 3) := by decide +kernel
theorem dX9_isTreeRow_11 : decode cX9_isTreeRow 11 = .ok (.aload_n 0, 1) := by decide +kernel
theorem dX9_isTreeRow_12 : decode cX9_isTreeRow 12 = .ok (.getfield 18, 3) := by decide +kernel
theorem dX9_isTreeRow_15 : decode cX9_isTreeRow 15 = .ok (.iload_n 1, 1) := by decide +kernel
theorem dX9_isTreeRow_16 : decode cX9_isTreeRow 16 = .ok (.aaload, 1) := by decide +kernel
theorem dX9_isTreeRow_17 : decode cX9_isTreeRow 17 = .ok (.invokevirtual 103, 3) := by decide +kernel
theorem dX9_isTreeRow_20 : decode cX9_isTreeRow 20 = .ok (.ifCond .eq 7, 3) := by decide +kernel
theorem dX9_isTreeRow_23 : decode cX9_isTreeRow 23 = .ok (.iconst 1, 1) := by decide +kernel
theorem dX9_isTreeRow_24 : decode cX9_isTreeRow 24 = .ok (.goto 4, 3) := by decide +kernel
theorem dX9_isTreeRow_27 : decode cX9_isTreeRow 27 = .ok (.iconst 0, 1) := by decide +kernel
theorem dX9_isTreeRow_28 : decode cX9_isTreeRow 28 = .ok (.ireturn, 1) := by decide +kernel
set_option maxRecDepth 20000 in
theorem ggX9_isLeft_X9_isTreeRow : GoodIn wsX9_isLeft wsX9_isTreeRow := goodIn_r _ [6, 7, 1, 8, 9, 5, 10, 11, 12, 13, 14, 15, 16, 17, 18, 19, 20, 21, 22, 23, 24, 25, 26, 27, 28, 29, 30, 31, 43, 44, 45, 46, 47, 48, 49, 50, 51, 52, 53, 54, 55, 56, 57, 58, 59, 60, 61, 62] (by decide +kernel) (by decide +kernel)
set_option maxRecDepth 20000 in
theorem gX9_isLeft_X9_isTreeRow : GoodIn wsX9_isLeft (wsV RX9 118 RX9 yX9_isTreeRow wsX9_isTreeRow) := goodIn_app (goodIn_of _ (by decide +kernel)) ggX9_isLeft_X9_isTreeRow
set_option maxRecDepth 20000 in
theorem ggX9_isLeft_X3_size : GoodIn wsX9_isLeft wsX3_size := goodIn_r _ [36, 37, 38, 39, 40, 35, 41, 42, 57, 58] (by decide +kernel) (by decide +kernel)
set_option maxRecDepth 20000 in
theorem gX9_isLeft_X3_size : GoodIn wsX9_isLeft (wsV RX9 111 RX3 yX3_size wsX3_size) := goodIn_app (goodIn_of _ (by decide +kernel)) ggX9_isLeft_X3_size
theorem dX9_isLeft_0 : decode cX9_isLeft 0 = .ok (.aload_n 0, 1) := by decide +kernel
theorem dX9_isLeft_1 : decode cX9_isLeft 1 = .ok (.iload_n 1, 1) := by decide +kernel
theorem dX9_isLeft_2 : decode cX9_isLeft 2 = .ok (.invokevirtual 118, 3) := by decide +kernel
theorem dX9_isLeft_5 : decode cX9_isLeft 5 = .ok (.ifCond .eq 33, 3) := by decide +kernel
theorem dX9_isLeft_8 : decode cX9_isLeft 8 = .ok (.aload_n 0, 1) := by decide +kernel
theorem dX9_isLeft_9 : decode cX9_isLeft 9 = .ok (.getfield 18, 3) := by decide +kernel
theorem dX9_isLeft_12 : decode cX9_isLeft 12 = .ok (.iload_n 1, 1) := by decide +kernel
theorem dX9_isLeft_13 : decode cX9_isLeft 13 = .ok (.aaload, 1) := by decide +kernel
theorem dX9_isLeft_14 : decode cX9_isLeft 14 = .ok (.invokevirtual 111, 3) := by decide +kernel
theorem dX9_isLeft_17 : decode cX9_isLeft 17 = .ok (.iconst 1, 1) := by decide +kernel
theorem dX9_isLeft_18 : decode cX9_isLeft 18 = .ok (.if_icmp .lt 20, 3) := by decide +kernel
theorem dX9_isLeft_21 : decode cX9_isLeft 21 = .ok (.aload_n 0, 1) := by decide +kernel
theorem dX9_isLeft_22 : decode cX9_isLeft 22 = .ok (.getfield 18, 3) := by decide +kernel
theorem dX9_isLeft_25 : decode cX9_isLeft 25 = .ok (.iload_n 1, 1) := by decide +kernel
theorem dX9_isLeft_26 : decode cX9_isLeft 26 = .ok (.aaload, 1) := by decide +kernel
theorem dX9_isLeft_27 : decode cX9_isLeft 27 = .ok (.invokevirtual 111, 3) := by decide +kernel
theorem dX9_isLeft_30 : decode cX9_isLeft 30 = .ok (.iconst 4, 1) := by decide +kernel
theorem dX9_isLeft_31 : decode cX9_isLeft 31 = .ok (.if_icmp .gt 7, 3) := by decide +kernel
theorem dX9_isLeft_34 : decode cX9_isLeft 34 = .ok (.iconst 1, 1) := by decide +kernel
theorem dX9_isLeft_35 : decode cX9_isLeft 35 = .ok (.goto 4, 3) := by decide +kernel
theorem dX9_isLeft_38 : decode cX9_isLeft 38 = .ok (.iconst 0, 1) := by decide +kernel
theorem dX9_isLeft_39 : decode cX9_isLeft 39 = .ok (.ireturn, 1) := by decide +kernel
set_option maxRecDepth 20000 in
theorem ggX9_bring_X3_become : GoodIn wsX9_bring wsX3_become := goodIn_r _ [7, 8, 9, 10, 11, 12, 13, 28, 29] (by decide +kernel) (by decide +kernel)
set_option maxRecDepth 20000 in
theorem gX9_bring_X3_become : GoodIn wsX9_bring (wsV RX9 167 RX3 yX3_become wsX3_become) := goodIn_app (goodIn_of _ (by decide +kernel)) ggX9_bring_X3_become
theorem dX9_bring_0 : decode cX9_bring 0 = .ok (.aload_n 0, 1) := by decide +kernel
theorem dX9_bring_1 : decode cX9_bring 1 = .ok (.getfield 18, 3) := by decide +kernel
theorem dX9_bring_4 : decode cX9_bring 4 = .ok (.iload_n 2, 1) := by decide +kernel
theorem dX9_bring_5 : decode cX9_bring 5 = .ok (.aaload, 1) := by decide +kernel
theorem dX9_bring_6 : decode cX9_bring 6 = .ok (.aload_n 1, 1) := by decide +kernel
theorem dX9_bring_7 : decode cX9_bring 7 = .ok (.invokevirtual 167, 3) := by decide +kernel
theorem dX9_bring_10 : decode cX9_bring 10 = .ok (.aload_n 1, 1) := by decide +kernel
theorem dX9_bring_11 : decode cX9_bring 11 = .ok (.getfield 93, 3) := by decide +kernel
theorem dX9_bring_14 : decode cX9_bring 14 = .ok (.ireturn, 1) := by decide +kernel
set_option maxRecDepth 20000 in
theorem ggX9_treeRows_X8_isTree : GoodIn wsX9_treeRows wsX8_isTree := goodIn_r _ [7, 8, 9, 10, 11, 6, 12, 13, 14, 15, 16, 17, 18, 19, 20, 21, 22, 23, 38, 39, 40, 41, 42, 43] (by decide +kernel) (by decide +kernel)
set_option maxRecDepth 20000 in
theorem gX9_treeRows_X8_isTree : GoodIn wsX9_treeRows (wsV RX9 103 RX8 yX8_isTree wsX8_isTree) := goodIn_app (goodIn_of _ (by decide +kernel)) ggX9_treeRows_X8_isTree
theorem dX9_treeRows_0 : decode cX9_treeRows 0 = .ok (.iconst 0, 1) := by decide +kernel
theorem dX9_treeRows_1 : decode cX9_treeRows 1 = .ok (.istore_n 1, 1) := by decide +kernel
theorem dX9_treeRows_2 : decode cX9_treeRows 2 = .ok (.iconst 0, 1) := by decide +kernel
theorem dX9_treeRows_3 : decode cX9_treeRows 3 = .ok (.istore_n 2, 1) := by decide +kernel
theorem dX9_treeRows_4 : decode cX9_treeRows 4 = .ok (.iload_n 2, 1) := by decide +kernel
theorem dX9_treeRows_5 : decode cX9_treeRows 5 = .ok (.bipush 10, 2) := by decide +kernel
theorem dX9_treeRows_7 : decode cX9_treeRows 7 = .ok (.if_icmp .ge 28, 3) := by decide +kernel
theorem dX9_treeRows_10 : decode cX9_treeRows 10 = .ok (.aload_n 0, 1) := by decide +kernel
theorem dX9_treeRows_11 : decode cX9_treeRows 11 = .ok (.getfield 10, 3) := by decide +kernel
theorem dX9_treeRows_14 : decode cX9_treeRows 14 = .ok (.aload_n 0, 1) := by decide +kernel
theorem dX9_treeRows_15 : decode cX9_treeRows 15 = .ok (.getfield 18, 3) := by decide +kernel
theorem dX9_treeRows_18 : decode cX9_treeRows 18 = .ok (.iload_n 2, 1) := by decide +kernel
theorem dX9_treeRows_19 : decode cX9_treeRows 19 = .ok (.aaload, 1) := by decide +kernel
theorem dX9_treeRows_20 : decode cX9_treeRows 20 = .ok (.invokevirtual 103, 3) := by decide +kernel
theorem dX9_treeRows_23 : decode cX9_treeRows 23 = .ok (.ifCond .eq 6, 3) := by decide +kernel
theorem dX9_treeRows_26 : decode cX9_treeRows 26 = .ok (.iinc 1 1, 3) := by decide +kernel
theorem dX9_treeRows_29 : decode cX9_treeRows 29 = .ok (.iinc 2 1, 3) := by decide +kernel
theorem dX9_treeRows_32 : decode cX9_treeRows 32 = .ok (.goto (-28), 3) := by decide +kernel
theorem dX9_treeRows_35 : decode cX9_treeRows 35 = .ok (.iload_n 1, 1) := by decide +kernel
theorem dX9_treeRows_36 : decode cX9_treeRows 36 = .ok (.ireturn, 1) := by decide +kernel
theorem dX9_forget_0 : decode cX9_forget 0 = .ok (.aload_n 0, 1) := by decide +kernel
theorem dX9_forget_1 : decode cX9_forget 1 = .ok (.iconst 0, 1) := by decide +kernel
theorem dX9_forget_2 : decode cX9_forget 2 = .ok (.putfield 242, 3) := by decide +kernel
theorem dX9_forget_5 : decode cX9_forget 5 = .ok (.aload_n 0, 1) := by decide +kernel
theorem dX9_forget_6 : decode cX9_forget 6 = .ok (.iconst 0, 1) := by decide +kernel
theorem dX9_forget_7 : decode cX9_forget 7 = .ok (.putfield 245, 3) := by decide +kernel
theorem dX9_forget_10 : decode cX9_forget 10 = .ok (.aload_n 0, 1) := by decide +kernel
theorem dX9_forget_11 : decode cX9_forget 11 = .ok (.iconst 0, 1) := by decide +kernel
theorem dX9_forget_12 : decode cX9_forget 12 = .ok (.putfield 201, 3) := by decide +kernel
theorem dX9_forget_15 : decode cX9_forget 15 = .ok (.return_, 1) := by decide +kernel
set_option maxRecDepth 20000 in
theorem ggX9_learnMany_X0_forbidLefts : GoodIn wsX9_learnMany wsX0_forbidLefts := goodIn_r _ [9, 10, 11, 12, 13, 14, 15, 8, 16, 17, 18, 19, 20, 21, 22, 23, 24, 25, 26, 27, 28, 29, 30, 31, 32, 33, 34, 35, 36, 37, 38, 39, 40, 41, 42, 43, 44, 45, 46, 47, 48, 49, 50, 51, 52, 53, 54, 55, 56, 129, 130, 131, 132, 133, 134, 135, 136, 137, 138, 139, 140, 141, 142, 143] (by decide +kernel) (by decide +kernel)
set_option maxRecDepth 20000 in
theorem gX9_learnMany_X0_forbidLefts : GoodIn wsX9_learnMany (wsV RX9 248 RX0 yX0_forbidLefts wsX0_forbidLefts) := goodIn_app (goodIn_of _ (by decide +kernel)) ggX9_learnMany_X0_forbidLefts
set_option maxRecDepth 20000 in
theorem ggX9_learnMany_X0_run : GoodIn wsX9_learnMany wsX0_run := goodIn_r _ [60, 61, 62, 63, 64, 8, 65, 66, 67, 68, 69, 70, 71, 72, 73, 74, 75, 76, 77, 78, 79, 80, 81, 82, 83, 84, 85, 86, 87, 88, 89, 90, 37, 38, 39, 91, 92, 93, 94, 40, 41, 42, 43, 44, 45, 46, 95, 96, 97, 98, 99, 100, 101, 102, 103, 104, 18, 105, 106, 107, 108, 109, 17, 30, 31, 110, 111, 112, 113, 114, 129, 130, 131, 132, 136, 137, 138, 139, 140, 141, 144, 145, 146] (by decide +kernel) (by decide +kernel)
set_option maxRecDepth 20000 in
theorem gX9_learnMany_X0_run : GoodIn wsX9_learnMany (wsV RX9 252 RX0 yX0_run wsX0_run) := goodIn_app (goodIn_of _ (by decide +kernel)) ggX9_learnMany_X0_run
theorem dX9_learnMany_0 : decode cX9_learnMany 0 = .ok (.aload_n 0, 1) := by decide +kernel
theorem dX9_learnMany_1 : decode cX9_learnMany 1 = .ok (.getfield 242, 3) := by decide +kernel
theorem dX9_learnMany_4 : decode cX9_learnMany 4 = .ok (.ifCond .ne 34, 3) := by decide +kernel
theorem dX9_learnMany_7 : decode cX9_learnMany 7 = .ok (.aload_n 0, 1) := by decide +kernel
theorem dX9_learnMany_8 : decode cX9_learnMany 8 = .ok (.getfield 51, 3) := by decide +kernel
theorem dX9_learnMany_11 : decode cX9_learnMany 11 = .ok (.aload_n 0, 1) := by decide +kernel
theorem dX9_learnMany_12 : decode cX9_learnMany 12 = .ok (.getfield 10, 3) := by decide +kernel
theorem dX9_learnMany_15 : decode cX9_learnMany 15 = .ok (.invokevirtual 248, 3) := by decide +kernel
theorem dX9_learnMany_18 : decode cX9_learnMany 18 = .ok (.aload_n 0, 1) := by decide +kernel
theorem dX9_learnMany_19 : decode cX9_learnMany 19 = .ok (.getfield 51, 3) := by decide +kernel
theorem dX9_learnMany_22 : decode cX9_learnMany 22 = .ok (.aload_n 0, 1) := by decide +kernel
theorem dX9_learnMany_23 : decode cX9_learnMany 23 = .ok (.getfield 10, 3) := by decide +kernel
theorem dX9_learnMany_26 : decode cX9_learnMany 26 = .ok (.aload_n 0, 1) := by decide +kernel
theorem dX9_learnMany_27 : decode cX9_learnMany 27 = .ok (.getfield 62, 3) := by decide +kernel
theorem dX9_learnMany_30 : decode cX9_learnMany 30 = .ok (.invokevirtual 252, 3) := by decide +kernel
theorem dX9_learnMany_33 : decode cX9_learnMany 33 = .ok (.aload_n 0, 1) := by decide +kernel
theorem dX9_learnMany_34 : decode cX9_learnMany 34 = .ok (.iconst 1, 1) := by decide +kernel
theorem dX9_learnMany_35 : decode cX9_learnMany 35 = .ok (.putfield 242, 3) := by decide +kernel
theorem dX9_learnMany_38 : decode cX9_learnMany 38 = .ok (.return_, 1) := by decide +kernel
set_option maxRecDepth 20000 in
theorem ggX9_learnDual_X0_forbidAllButLefts : GoodIn wsX9_learnDual wsX0_forbidAllButLefts := goodIn_r _ [9, 10, 11, 12, 13, 8, 14, 15, 16, 17, 18, 19, 20, 21, 22, 23, 24, 25, 26, 27, 28, 29, 30, 31, 32, 33, 34, 35, 116, 117, 118, 119, 120, 121, 122, 123, 124, 125, 126, 127, 128, 129, 130] (by decide +kernel) (by decide +kernel)
set_option maxRecDepth 20000 in
theorem gX9_learnDual_X0_forbidAllButLefts : GoodIn wsX9_learnDual (wsV RX9 256 RX0 yX0_forbidAllButLefts wsX0_forbidAllButLefts) := goodIn_app (goodIn_of _ (by decide +kernel)) ggX9_learnDual_X0_forbidAllButLefts
set_option maxRecDepth 20000 in
theorem ggX9_learnDual_X0_run : GoodIn wsX9_learnDual wsX0_run := goodIn_r _ [39, 10, 40, 41, 42, 8, 43, 44, 45, 46, 47, 48, 49, 50, 51, 52, 53, 54, 55, 56, 57, 58, 59, 60, 61, 62, 63, 64, 65, 66, 67, 68, 69, 70, 71, 72, 73, 74, 75, 76, 77, 78, 30, 79, 80, 81, 82, 83, 84, 85, 86, 87, 88, 89, 90, 91, 16, 92, 93, 94, 95, 96, 15, 21, 22, 97, 98, 99, 100, 101, 116, 117, 118, 119, 120, 121, 122, 123, 124, 125, 131, 132, 133] (by decide +kernel) (by decide +kernel)
set_option maxRecDepth 20000 in
theorem gX9_learnDual_X0_run : GoodIn wsX9_learnDual (wsV RX9 252 RX0 yX0_run wsX0_run) := goodIn_app (goodIn_of _ (by decide +kernel)) ggX9_learnDual_X0_run
theorem dX9_learnDual_0 : decode cX9_learnDual 0 = .ok (.aload_n 0, 1) := by decide +kernel
theorem dX9_learnDual_1 : decode cX9_learnDual 1 = .ok (.getfield 245, 3) := by decide +kernel
theorem dX9_learnDual_4 : decode cX9_learnDual 4 = .ok (.ifCond .ne 34, 3) := by decide +kernel
theorem dX9_learnDual_7 : decode cX9_learnDual 7 = .ok (.aload_n 0, 1) := by decide +kernel
theorem dX9_learnDual_8 : decode cX9_learnDual 8 = .ok (.getfield 51, 3) := by decide +kernel
theorem dX9_learnDual_11 : decode cX9_learnDual 11 = .ok (.aload_n 0, 1) := by decide +kernel
theorem dX9_learnDual_12 : decode cX9_learnDual 12 = .ok (.getfield 10, 3) := by decide +kernel
theorem dX9_learnDual_15 : decode cX9_learnDual 15 = .ok (.invokevirtual 256, 3) := by decide +kernel
theorem dX9_learnDual_18 : decode cX9_learnDual 18 = .ok (.aload_n 0, 1) := by decide +kernel
theorem dX9_learnDual_19 : decode cX9_learnDual 19 = .ok (.getfield 51, 3) := by decide +kernel
theorem dX9_learnDual_22 : decode cX9_learnDual 22 = .ok (.aload_n 0, 1) := by decide +kernel
theorem dX9_learnDual_23 : decode cX9_learnDual 23 = .ok (.getfield 10, 3) := by decide +kernel
theorem dX9_learnDual_26 : decode cX9_learnDual 26 = .ok (.aload_n 0, 1) := by decide +kernel
theorem dX9_learnDual_27 : decode cX9_learnDual 27 = .ok (.getfield 66, 3) := by decide +kernel
theorem dX9_learnDual_30 : decode cX9_learnDual 30 = .ok (.invokevirtual 252, 3) := by decide +kernel
theorem dX9_learnDual_33 : decode cX9_learnDual 33 = .ok (.aload_n 0, 1) := by decide +kernel
theorem dX9_learnDual_34 : decode cX9_learnDual 34 = .ok (.iconst 1, 1) := by decide +kernel
theorem dX9_learnDual_35 : decode cX9_learnDual 35 = .ok (.putfield 245, 3) := by decide +kernel
theorem dX9_learnDual_38 : decode cX9_learnDual 38 = .ok (.return_, 1) := by decide +kernel
theorem dX10_init_0 : decode cX10_init 0 = .ok (.aload_n 0, 1) := by decide +kernel
theorem dX10_init_1 : decode cX10_init 1 = .ok (.invokespecial 1, 3) := by decide +kernel
theorem dX10_init_4 : decode cX10_init 4 = .ok (.aload_n 0, 1) := by decide +kernel
theorem dX10_init_5 : decode cX10_init 5 = .ok (.iconst 4, 1) := by decide +kernel
theorem dX10_init_6 : decode cX10_init 6 = .ok (.newarray .int, 2) := by decide +kernel
theorem dX10_init_8 : decode cX10_init 8 = .ok (.putfield 7, 3) := by decide +kernel
theorem dX10_init_11 : decode cX10_init 11 = .ok (.aload_n 0, 1) := by decide +kernel
theorem dX10_init_12 : decode cX10_init 12 = .ok (.sipush 1800, 3) := by decide +kernel
theorem dX10_init_15 : decode cX10_init 15 = .ok (.newarray .int, 2) := by decide +kernel
theorem dX10_init_17 : decode cX10_init 17 = .ok (.putfield 13, 3) := by decide +kernel
theorem dX10_init_20 : decode cX10_init 20 = .ok (.aload_n 0, 1) := by decide +kernel
theorem dX10_init_21 : decode cX10_init 21 = .ok (.bipush 30, 2) := by decide +kernel
theorem dX10_init_23 : decode cX10_init 23 = .ok (.newarray .int, 2) := by decide +kernel
theorem dX10_init_25 : decode cX10_init 25 = .ok (.putfield 16, 3) := by decide +kernel
theorem dX10_init_28 : decode cX10_init 28 = .ok (.aload_n 0, 1) := by decide +kernel
theorem dX10_init_29 : decode cX10_init 29 = .ok (.bipush 8, 2) := by decide +kernel
theorem dX10_init_31 : decode cX10_init 31 = .ok (.newarray .boolean, 2) := by decide +kernel
theorem dX10_init_33 : decode cX10_init 33 = .ok (.putfield 19, 3) := by decide +kernel
theorem dX10_init_36 : decode cX10_init 36 = .ok (.aload_n 0, 1) := by decide +kernel
theorem dX10_init_37 : decode cX10_init 37 = .ok (.bipush 7, 2) := by decide +kernel
theorem dX10_init_39 : decode cX10_init 39 = .ok (.newarray .long, 2) := by decide +kernel
theorem dX10_init_41 : decode cX10_init 41 = .ok (.putfield 23, 3) := by decide +kernel
theorem dX10_init_44 : decode cX10_init 44 = .ok (.aload_n 0, 1) := by decide +kernel
theorem dX10_init_45 : decode cX10_init 45 = .ok (.bipush 61, 2) := by decide +kernel
theorem dX10_init_47 : decode cX10_init 47 = .ok (.newarray .int, 2) := by decide +kernel
theorem dX10_init_49 : decode cX10_init 49 = .ok (.putfield 27, 3) := by decide +kernel
theorem dX10_init_52 : decode cX10_init 52 = .ok (.aload_n 0, 1) := by decide +kernel
theorem dX10_init_53 : decode cX10_init 53 = .ok (.bipush 13, 2) := by decide +kernel
theorem dX10_init_55 : decode cX10_init 55 = .ok (.newarray .int, 2) := by decide +kernel
theorem dX10_init_57 : decode cX10_init 57 = .ok (.putfield 30, 3) := by decide +kernel
theorem dX10_init_60 : decode cX10_init 60 = .ok (.aload_n 0, 1) := by decide +kernel
theorem dX10_init_61 : decode cX10_init 61 = .ok (.bipush 13, 2) := by decide +kernel
theorem dX10_init_63 : decode cX10_init 63 = .ok (.newarray .int, 2) := by decide +kernel
theorem dX10_init_65 : decode cX10_init 65 = .ok (.putfield 33, 3) := by decide +kernel
theorem dX10_init_68 : decode cX10_init 68 = .ok (.aload_n 0, 1) := by decide +kernel
theorem dX10_init_69 : decode cX10_init 69 = .ok (.bipush 60, 2) := by decide +kernel
theorem dX10_init_71 : decode cX10_init 71 = .ok (.newarray .int, 2) := by decide +kernel
theorem dX10_init_73 : decode cX10_init 73 = .ok (.putfield 36, 3) := by decide +kernel
theorem dX10_init_76 : decode cX10_init 76 = .ok (.aload_n 0, 1) := by decide +kernel
theorem dX10_init_77 : decode cX10_init 77 = .ok (.bipush 49, 2) := by decide +kernel
theorem dX10_init_79 : decode cX10_init 79 = .ok (.newarray .long, 2) := by decide +kernel
theorem dX10_init_81 : decode cX10_init 81 = .ok (.putfield 39, 3) := by decide +kernel
theorem dX10_init_84 : decode cX10_init 84 = .ok (.aload_n 0, 1) := by decide +kernel
theorem dX10_init_85 : decode cX10_init 85 = .ok (.bipush 7, 2) := by decide +kernel
theorem dX10_init_87 : decode cX10_init 87 = .ok (.newarray .long, 2) := by decide +kernel
theorem dX10_init_89 : decode cX10_init 89 = .ok (.putfield 42, 3) := by decide +kernel
theorem dX10_init_92 : decode cX10_init 92 = .ok (.aload_n 0, 1) := by decide +kernel
theorem dX10_init_93 : decode cX10_init 93 = .ok (.bipush 32, 2) := by decide +kernel
theorem dX10_init_95 : decode cX10_init 95 = .ok (.newarray .boolean, 2) := by decide +kernel
theorem dX10_init_97 : decode cX10_init 97 = .ok (.putfield 45, 3) := by decide +kernel
theorem dX10_init_100 : decode cX10_init 100 = .ok (.aload_n 0, 1) := by decide +kernel
theorem dX10_init_101 : decode cX10_init 101 = .ok (.bipush 28, 2) := by decide +kernel
theorem dX10_init_103 : decode cX10_init 103 = .ok (.newarray .long, 2) := by decide +kernel
theorem dX10_init_105 : decode cX10_init 105 = .ok (.putfield 48, 3) := by decide +kernel
theorem dX10_init_108 : decode cX10_init 108 = .ok (.return_, 1) := by decide +kernel
theorem dX10_in_0 : decode cX10_in 0 = .ok (.iload_n 0, 1) := by decide +kernel
theorem dX10_in_1 : decode cX10_in 1 = .ok (.iload_n 1, 1) := by decide +kernel
theorem dX10_in_2 : decode cX10_in 2 = .ok (.if_icmp .lt 12, 3) := by decide +kernel
theorem dX10_in_5 : decode cX10_in 5 = .ok (.iload_n 0, 1) := by decide +kernel
theorem dX10_in_6 : decode cX10_in 6 = .ok (.iload_n 2, 1) := by decide +kernel
theorem dX10_in_7 : decode cX10_in 7 = .ok (.if_icmp .gt 7, 3) := by decide +kernel
theorem dX10_in_10 : decode cX10_in 10 = .ok (.iconst 1, 1) := by decide +kernel
theorem dX10_in_11 : decode cX10_in 11 = .ok (.goto 4, 3) := by decide +kernel
theorem dX10_in_14 : decode cX10_in 14 = .ok (.iconst 0, 1) := by decide +kernel
theorem dX10_in_15 : decode cX10_in 15 = .ok (.ireturn, 1) := by decide +kernel
set_option maxRecDepth 20000 in
theorem ggX10_act_X10_in : GoodIn wsX10_act wsX10_in := goodIn_r _ [7] (by decide +kernel) (by decide +kernel)
set_option maxRecDepth 20000 in
theorem gX10_act_X10_in : GoodIn wsX10_act (va_wsS RX10 51 yX10_in wsX10_in) := goodIn_app (goodIn_of _ (by decide +kernel)) ggX10_act_X10_in
theorem dX10_act_0 : decode cX10_act 0 = .ok (.iload_n 1, 1) := by decide +kernel
theorem dX10_act_1 : decode cX10_act 1 = .ok (.iconst 2, 1) := by decide +kernel
theorem dX10_act_2 : decode cX10_act 2 = .ok (.iconst 3, 1) := by decide +kernel
theorem dX10_act_3 : decode cX10_act 3 = .ok (.invokestatic 51, 3) := by decide +kernel
theorem dX10_act_6 : decode cX10_act 6 = .ok (.ifCond .ne 6, 3) := by decide +kernel
theorem dX10_act_9 : decode cX10_act 9 = .ok (.bipush (-2), 2) := by decide +kernel
theorem dX10_act_11 : decode cX10_act 11 = .ok (.ireturn, 1) := by decide +kernel
theorem dX10_act_12 : decode cX10_act 12 = .ok (.aload_n 0, 1) := by decide +kernel
theorem dX10_act_13 : decode cX10_act 13 = .ok (.getfield 55, 3) := by decide +kernel
theorem dX10_act_16 : decode cX10_act 16 = .ok (.iconst 4, 1) := by decide +kernel
theorem dX10_act_17 : decode cX10_act 17 = .ok (.if_icmp .ne 6, 3) := by decide +kernel
theorem dX10_act_20 : decode cX10_act 20 = .ok (.bipush (-4), 2) := by decide +kernel
theorem dX10_act_22 : decode cX10_act 22 = .ok (.ireturn, 1) := by decide +kernel
theorem dX10_act_23 : decode cX10_act 23 = .ok (.aload_n 0, 1) := by decide +kernel
theorem dX10_act_24 : decode cX10_act 24 = .ok (.getfield 7, 3) := by decide +kernel
theorem dX10_act_27 : decode cX10_act 27 = .ok (.aload_n 0, 1) := by decide +kernel
theorem dX10_act_28 : decode cX10_act 28 = .ok (.getfield 55, 3) := by decide +kernel
theorem dX10_act_31 : decode cX10_act 31 = .ok (.iload_n 1, 1) := by decide +kernel
theorem dX10_act_32 : decode cX10_act 32 = .ok (.iastore, 1) := by decide +kernel
theorem dX10_act_33 : decode cX10_act 33 = .ok (.aload_n 0, 1) := by decide +kernel
theorem dX10_act_34 : decode cX10_act 34 = .ok (.dup, 1) := by decide +kernel
theorem dX10_act_35 : decode cX10_act 35 = .ok (.getfield 55, 3) := by decide +kernel
theorem dX10_act_38 : decode cX10_act 38 = .ok (.iconst 1, 1) := by decide +kernel
theorem dX10_act_39 : decode cX10_act 39 = .ok (.iadd, 1) := by decide +kernel
theorem dX10_act_40 : decode cX10_act 40 = .ok (.putfield 55, 3) := by decide +kernel
theorem dX10_act_43 : decode cX10_act 43 = .ok (.aload_n 0, 1) := by decide +kernel
theorem dX10_act_44 : decode cX10_act 44 = .ok (.iconst 0, 1) := by decide +kernel
theorem dX10_act_45 : decode cX10_act 45 = .ok (.putfield 59, 3) := by decide +kernel
theorem dX10_act_48 : decode cX10_act 48 = .ok (.aload_n 0, 1) := by decide +kernel
theorem dX10_act_49 : decode cX10_act 49 = .ok (.getfield 55, 3) := by decide +kernel
theorem dX10_act_52 : decode cX10_act 52 = .ok (.iconst 1, 1) := by decide +kernel
theorem dX10_act_53 : decode cX10_act 53 = .ok (.isub, 1) := by decide +kernel
theorem dX10_act_54 : decode cX10_act 54 = .ok (.ireturn, 1) := by decide +kernel
set_option maxRecDepth 20000 in
theorem ggX10_isRow_X10_in : GoodIn wsX10_isRow wsX10_in := goodIn_r _ [4] (by decide +kernel) (by decide +kernel)
set_option maxRecDepth 20000 in
theorem gX10_isRow_X10_in : GoodIn wsX10_isRow (va_wsS RX10 51 yX10_in wsX10_in) := goodIn_app (goodIn_of _ (by decide +kernel)) ggX10_isRow_X10_in
theorem dX10_isRow_0 : decode cX10_isRow 0 = .ok (.iload_n 0, 1) := by decide +kernel
theorem dX10_isRow_1 : decode cX10_isRow 1 = .ok (.iconst 0, 1) := by decide +kernel
theorem dX10_isRow_2 : decode cX10_isRow 2 = .ok (.bipush 9, 2) := by decide +kernel
theorem dX10_isRow_4 : decode cX10_isRow 4 = .ok (.invokestatic 51, 3) := by decide +kernel
theorem dX10_isRow_7 : decode cX10_isRow 7 = .ok (.ireturn, 1) := by decide +kernel
set_option maxRecDepth 20000 in
theorem ggX10_put_X10_isRow : GoodIn wsX10_put wsX10_isRow := goodIn_r _ [6, 7, 8, 5, 9] (by decide +kernel) (by decide +kernel)
set_option maxRecDepth 20000 in
theorem gX10_put_X10_isRow : GoodIn wsX10_put (va_wsS RX10 63 yX10_isRow wsX10_isRow) := goodIn_app (goodIn_of _ (by decide +kernel)) ggX10_put_X10_isRow
set_option maxRecDepth 20000 in
theorem ggX10_put_X10_in : GoodIn wsX10_put wsX10_in := goodIn_r _ [9] (by decide +kernel) (by decide +kernel)
set_option maxRecDepth 20000 in
theorem gX10_put_X10_in : GoodIn wsX10_put (va_wsS RX10 51 yX10_in wsX10_in) := goodIn_app (goodIn_of _ (by decide +kernel)) ggX10_put_X10_in
set_option maxRecDepth 20000 in
theorem ggX10_put_X10_comes : GoodIn wsX10_put wsX10_comes := goodIn_r _ [13, 14, 2, 15, 16, 17, 18, 19, 20, 21, 22, 23, 24, 25, 26, 27, 28, 29, 30, 31, 32, 33, 34, 35, 36] (by decide +kernel) (by decide +kernel)
set_option maxRecDepth 20000 in
theorem gX10_put_X10_comes : GoodIn wsX10_put (wsV RX10 67 RX10 yX10_comes wsX10_comes) := goodIn_app (goodIn_of _ (by decide +kernel)) ggX10_put_X10_comes
theorem dX10_put_0 : decode cX10_put 0 = .ok (.iload_n 1, 1) := by decide +kernel
theorem dX10_put_1 : decode cX10_put 1 = .ok (.invokestatic 63, 3) := by decide +kernel
theorem dX10_put_4 : decode cX10_put 4 = .ok (.ifCond .eq 17, 3) := by decide +kernel
theorem dX10_put_7 : decode cX10_put 7 = .ok (.iload_n 2, 1) := by decide +kernel
theorem dX10_put_8 : decode cX10_put 8 = .ok (.iconst (-1), 1) := by decide +kernel
theorem dX10_put_9 : decode cX10_put 9 = .ok (.aload_n 0, 1) := by decide +kernel
theorem dX10_put_10 : decode cX10_put 10 = .ok (.getfield 55, 3) := by decide +kernel
theorem dX10_put_13 : decode cX10_put 13 = .ok (.iconst 1, 1) := by decide +kernel
theorem dX10_put_14 : decode cX10_put 14 = .ok (.isub, 1) := by decide +kernel
theorem dX10_put_15 : decode cX10_put 15 = .ok (.invokestatic 51, 3) := by decide +kernel
theorem dX10_put_18 : decode cX10_put 18 = .ok (.ifCond .ne 6, 3) := by decide +kernel
theorem dX10_put_21 : decode cX10_put 21 = .ok (.bipush (-2), 2) := by decide +kernel
theorem dX10_put_23 : decode cX10_put 23 = .ok (.ireturn, 1) := by decide +kernel
theorem dX10_put_24 : decode cX10_put 24 = .ok (.aload_n 0, 1) := by decide +kernel
theorem dX10_put_25 : decode cX10_put 25 = .ok (.getfield 16, 3) := by decide +kernel
theorem dX10_put_28 : decode cX10_put 28 = .ok (.iload_n 1, 1) := by decide +kernel
theorem dX10_put_29 : decode cX10_put 29 = .ok (.iaload, 1) := by decide +kernel
theorem dX10_put_30 : decode cX10_put 30 = .ok (.bipush 60, 2) := by decide +kernel
theorem dX10_put_32 : decode cX10_put 32 = .ok (.if_icmp .ne 6, 3) := by decide +kernel
theorem dX10_put_35 : decode cX10_put 35 = .ok (.bipush (-4), 2) := by decide +kernel
theorem dX10_put_37 : decode cX10_put 37 = .ok (.ireturn, 1) := by decide +kernel
theorem dX10_put_38 : decode cX10_put 38 = .ok (.aload_n 0, 1) := by decide +kernel
theorem dX10_put_39 : decode cX10_put 39 = .ok (.iload_n 1, 1) := by decide +kernel
theorem dX10_put_40 : decode cX10_put 40 = .ok (.iload_n 2, 1) := by decide +kernel
theorem dX10_put_41 : decode cX10_put 41 = .ok (.invokevirtual 67, 3) := by decide +kernel
theorem dX10_put_44 : decode cX10_put 44 = .ok (.aload_n 0, 1) := by decide +kernel
theorem dX10_put_45 : decode cX10_put 45 = .ok (.getfield 16, 3) := by decide +kernel
theorem dX10_put_48 : decode cX10_put 48 = .ok (.iload_n 1, 1) := by decide +kernel
theorem dX10_put_49 : decode cX10_put 49 = .ok (.iaload, 1) := by decide +kernel
theorem dX10_put_50 : decode cX10_put 50 = .ok (.ireturn, 1) := by decide +kernel
theorem dX10_comes_0 : decode cX10_comes 0 = .ok (.aload_n 0, 1) := by decide +kernel
theorem dX10_comes_1 : decode cX10_comes 1 = .ok (.getfield 13, 3) := by decide +kernel
theorem dX10_comes_4 : decode cX10_comes 4 = .ok (.bipush 60, 2) := by decide +kernel
theorem dX10_comes_6 : decode cX10_comes 6 = .ok (.iload_n 1, 1) := by decide +kernel
theorem dX10_comes_7 : decode cX10_comes 7 = .ok (.imul, 1) := by decide +kernel
theorem dX10_comes_8 : decode cX10_comes 8 = .ok (.aload_n 0, 1) := by decide +kernel
theorem dX10_comes_9 : decode cX10_comes 9 = .ok (.getfield 16, 3) := by decide +kernel
theorem dX10_comes_12 : decode cX10_comes 12 = .ok (.iload_n 1, 1) := by decide +kernel
theorem dX10_comes_13 : decode cX10_comes 13 = .ok (.iaload, 1) := by decide +kernel
theorem dX10_comes_14 : decode cX10_comes 14 = .ok (.iadd, 1) := by decide +kernel
theorem dX10_comes_15 : decode cX10_comes 15 = .ok (.iload_n 2, 1) := by decide +kernel
theorem dX10_comes_16 : decode cX10_comes 16 = .ok (.iastore, 1) := by decide +kernel
theorem dX10_comes_17 : decode cX10_comes 17 = .ok (.aload_n 0, 1) := by decide +kernel
theorem dX10_comes_18 : decode cX10_comes 18 = .ok (.getfield 16, 3) := by decide +kernel
theorem dX10_comes_21 : decode cX10_comes 21 = .ok (.iload_n 1, 1) := by decide +kernel
theorem dX10_comes_22 : decode cX10_comes 22 = .ok (.dup2, 1) := by decide +kernel
theorem dX10_comes_23 : decode cX10_comes 23 = .ok (.iaload, 1) := by decide +kernel
theorem dX10_comes_24 : decode cX10_comes 24 = .ok (.iconst 1, 1) := by decide +kernel
theorem dX10_comes_25 : decode cX10_comes 25 = .ok (.iadd, 1) := by decide +kernel
theorem dX10_comes_26 : decode cX10_comes 26 = .ok (.iastore, 1) := by decide +kernel
theorem dX10_comes_27 : decode cX10_comes 27 = .ok (.return_, 1) := by decide +kernel
set_option maxRecDepth 20000 in
theorem ggX10_empty_X10_isRow : GoodIn wsX10_empty wsX10_isRow := goodIn_r _ [5, 6, 7, 4, 8] (by decide +kernel) (by decide +kernel)
set_option maxRecDepth 20000 in
theorem gX10_empty_X10_isRow : GoodIn wsX10_empty (va_wsS RX10 63 yX10_isRow wsX10_isRow) := goodIn_app (goodIn_of _ (by decide +kernel)) ggX10_empty_X10_isRow
theorem dX10_empty_0 : decode cX10_empty 0 = .ok (.iload_n 1, 1) := by decide +kernel
theorem dX10_empty_1 : decode cX10_empty 1 = .ok (.invokestatic 63, 3) := by decide +kernel
theorem dX10_empty_4 : decode cX10_empty 4 = .ok (.ifCond .ne 6, 3) := by decide +kernel
theorem dX10_empty_7 : decode cX10_empty 7 = .ok (.bipush (-2), 2) := by decide +kernel
theorem dX10_empty_9 : decode cX10_empty 9 = .ok (.ireturn, 1) := by decide +kernel
theorem dX10_empty_10 : decode cX10_empty 10 = .ok (.aload_n 0, 1) := by decide +kernel
theorem dX10_empty_11 : decode cX10_empty 11 = .ok (.getfield 16, 3) := by decide +kernel
theorem dX10_empty_14 : decode cX10_empty 14 = .ok (.iload_n 1, 1) := by decide +kernel
theorem dX10_empty_15 : decode cX10_empty 15 = .ok (.iaload, 1) := by decide +kernel
theorem dX10_empty_16 : decode cX10_empty 16 = .ok (.istore_n 2, 1) := by decide +kernel
theorem dX10_empty_17 : decode cX10_empty 17 = .ok (.aload_n 0, 1) := by decide +kernel
theorem dX10_empty_18 : decode cX10_empty 18 = .ok (.getfield 16, 3) := by decide +kernel
theorem dX10_empty_21 : decode cX10_empty 21 = .ok (.iload_n 1, 1) := by decide +kernel
theorem dX10_empty_22 : decode cX10_empty 22 = .ok (.iconst 0, 1) := by decide +kernel
theorem dX10_empty_23 : decode cX10_empty 23 = .ok (.iastore, 1) := by decide +kernel
theorem dX10_empty_24 : decode cX10_empty 24 = .ok (.iload_n 2, 1) := by decide +kernel
theorem dX10_empty_25 : decode cX10_empty 25 = .ok (.ireturn, 1) := by decide +kernel
set_option maxRecDepth 20000 in
theorem ggX10_at_X10_isRow : GoodIn wsX10_at wsX10_isRow := goodIn_r _ [6, 7, 8, 5, 9] (by decide +kernel) (by decide +kernel)
set_option maxRecDepth 20000 in
theorem gX10_at_X10_isRow : GoodIn wsX10_at (va_wsS RX10 63 yX10_isRow wsX10_isRow) := goodIn_app (goodIn_of _ (by decide +kernel)) ggX10_at_X10_isRow
set_option maxRecDepth 20000 in
theorem ggX10_at_X10_in : GoodIn wsX10_at wsX10_in := goodIn_r _ [9] (by decide +kernel) (by decide +kernel)
set_option maxRecDepth 20000 in
theorem gX10_at_X10_in : GoodIn wsX10_at (va_wsS RX10 51 yX10_in wsX10_in) := goodIn_app (goodIn_of _ (by decide +kernel)) ggX10_at_X10_in
theorem dX10_at_0 : decode cX10_at 0 = .ok (.iload_n 1, 1) := by decide +kernel
theorem dX10_at_1 : decode cX10_at 1 = .ok (.invokestatic 63, 3) := by decide +kernel
theorem dX10_at_4 : decode cX10_at 4 = .ok (.ifCond .ne 8, 3) := by decide +kernel
theorem dX10_at_7 : decode cX10_at 7 = .ok (.bipush (-2), 2) := by decide +kernel
theorem dX10_at_9 : decode cX10_at 9 = .ok (.goto 35, 3) := by decide +kernel
theorem dX10_at_12 : decode cX10_at 12 = .ok (.iload_n 2, 1) := by decide +kernel
theorem dX10_at_13 : decode cX10_at 13 = .ok (.iconst 0, 1) := by decide +kernel
theorem dX10_at_14 : decode cX10_at 14 = .ok (.aload_n 0, 1) := by decide +kernel
theorem dX10_at_15 : decode cX10_at 15 = .ok (.getfield 16, 3) := by decide +kernel
theorem dX10_at_18 : decode cX10_at 18 = .ok (.iload_n 1, 1) := by decide +kernel
theorem dX10_at_19 : decode cX10_at 19 = .ok (.iaload, 1) := by decide +kernel
theorem dX10_at_20 : decode cX10_at 20 = .ok (.iconst 1, 1) := by decide +kernel
theorem dX10_at_21 : decode cX10_at 21 = .ok (.isub, 1) := by decide +kernel
theorem dX10_at_22 : decode cX10_at 22 = .ok (.invokestatic 51, 3) := by decide +kernel
theorem dX10_at_25 : decode cX10_at 25 = .ok (.ifCond .eq 17, 3) := by decide +kernel
theorem dX10_at_28 : decode cX10_at 28 = .ok (.aload_n 0, 1) := by decide +kernel
theorem dX10_at_29 : decode cX10_at 29 = .ok (.getfield 13, 3) := by decide +kernel
theorem dX10_at_32 : decode cX10_at 32 = .ok (.bipush 60, 2) := by decide +kernel
theorem dX10_at_34 : decode cX10_at 34 = .ok (.iload_n 1, 1) := by decide +kernel
theorem dX10_at_35 : decode cX10_at 35 = .ok (.imul, 1) := by decide +kernel
theorem dX10_at_36 : decode cX10_at 36 = .ok (.iload_n 2, 1) := by decide +kernel
theorem dX10_at_37 : decode cX10_at 37 = .ok (.iadd, 1) := by decide +kernel
theorem dX10_at_38 : decode cX10_at 38 = .ok (.iaload, 1) := by decide +kernel
theorem dX10_at_39 : decode cX10_at 39 = .ok (.goto 5, 3) := by decide +kernel
theorem dX10_at_42 : decode cX10_at 42 = .ok (.bipush (-100), 2) := by decide +kernel
theorem dX10_at_44 : decode cX10_at 44 = .ok (.ireturn, 1) := by decide +kernel
theorem dX10_wants_0 : decode cX10_wants 0 = .ok (.iload_n 1, 1) := by decide +kernel
theorem dX10_wants_1 : decode cX10_wants 1 = .ok (.iconst (-1), 1) := by decide +kernel
theorem dX10_wants_2 : decode cX10_wants 2 = .ok (.if_icmp .ne 7, 3) := by decide +kernel
theorem dX10_wants_5 : decode cX10_wants 5 = .ok (.iconst 0, 1) := by decide +kernel
theorem dX10_wants_6 : decode cX10_wants 6 = .ok (.goto 9, 3) := by decide +kernel
theorem dX10_wants_9 : decode cX10_wants 9 = .ok (.aload_n 0, 1) := by decide +kernel
theorem dX10_wants_10 : decode cX10_wants 10 = .ok (.getfield 7, 3) := by decide +kernel
theorem dX10_wants_13 : decode cX10_wants 13 = .ok (.iload_n 1, 1) := by decide +kernel
theorem dX10_wants_14 : decode cX10_wants 14 = .ok (.iaload, 1) := by decide +kernel
theorem dX10_wants_15 : decode cX10_wants 15 = .ok (.ireturn, 1) := by decide +kernel
set_option maxRecDepth 20000 in
theorem ggX10_end_X10_wants : GoodIn wsX10_end wsX10_wants := goodIn_r _ [7, 8, 9, 10, 11, 12, 13, 14, 15, 16, 17, 18, 19, 20, 21, 22, 23, 24, 25, 26, 27, 28, 29, 30] (by decide +kernel) (by decide +kernel)
set_option maxRecDepth 20000 in
theorem gX10_end_X10_wants : GoodIn wsX10_end (wsV RX10 71 RX10 yX10_wants wsX10_wants) := goodIn_app (goodIn_of _ (by decide +kernel)) ggX10_end_X10_wants
theorem dX10_end_0 : decode cX10_end 0 = .ok (.iconst 1, 1) := by decide +kernel
theorem dX10_end_1 : decode cX10_end 1 = .ok (.istore_n 3, 1) := by decide +kernel
theorem dX10_end_2 : decode cX10_end 2 = .ok (.iload_n 2, 1) := by decide +kernel
theorem dX10_end_3 : decode cX10_end 3 = .ok (.istore 4, 2) := by decide +kernel
theorem dX10_end_5 : decode cX10_end 5 = .ok (.iload_n 3, 1) := by decide +kernel
theorem dX10_end_6 : decode cX10_end 6 = .ok (.ifCond .le 41, 3) := by decide +kernel
theorem dX10_end_9 : decode cX10_end 9 = .ok (.iload 4, 2) := by decide +kernel
theorem dX10_end_11 : decode cX10_end 11 = .ok (.aload_n 0, 1) := by decide +kernel
theorem dX10_end_12 : decode cX10_end 12 = .ok (.getfield 16, 3) := by decide +kernel
theorem dX10_end_15 : decode cX10_end 15 = .ok (.iload_n 1, 1) := by decide +kernel
theorem dX10_end_16 : decode cX10_end 16 = .ok (.iaload, 1) := by decide +kernel
theorem dX10_end_17 : decode cX10_end 17 = .ok (.if_icmp .ge 30, 3) := by decide +kernel
theorem dX10_end_20 : decode cX10_end 20 = .ok (.iload_n 3, 1) := by decide +kernel
theorem dX10_end_21 : decode cX10_end 21 = .ok (.aload_n 0, 1) := by decide +kernel
theorem dX10_end_22 : decode cX10_end 22 = .ok (.aload_n 0, 1) := by decide +kernel
theorem dX10_end_23 : decode cX10_end 23 = .ok (.getfield 13, 3) := by decide +kernel
theorem dX10_end_26 : decode cX10_end 26 = .ok (.bipush 60, 2) := by decide +kernel
theorem dX10_end_28 : decode cX10_end 28 = .ok (.iload_n 1, 1) := by decide +kernel
theorem dX10_end_29 : decode cX10_end 29 = .ok (.imul, 1) := by decide +kernel
theorem dX10_end_30 : decode cX10_end 30 = .ok (.iload 4, 2) := by decide +kernel
theorem dX10_end_32 : decode cX10_end 32 = .ok (.iadd, 1) := by decide +kernel
theorem dX10_end_33 : decode cX10_end 33 = .ok (.iaload, 1) := by decide +kernel
theorem dX10_end_34 : decode cX10_end 34 = .ok (.invokevirtual 71, 3) := by decide +kernel
theorem dX10_end_37 : decode cX10_end 37 = .ok (.iconst 1, 1) := by decide +kernel
theorem dX10_end_38 : decode cX10_end 38 = .ok (.isub, 1) := by decide +kernel
theorem dX10_end_39 : decode cX10_end 39 = .ok (.iadd, 1) := by decide +kernel
theorem dX10_end_40 : decode cX10_end 40 = .ok (.istore_n 3, 1) := by decide +kernel
theorem dX10_end_41 : decode cX10_end 41 = .ok (.iinc 4 1, 3) := by decide +kernel
theorem dX10_end_44 : decode cX10_end 44 = .ok (.goto (-39), 3) := by decide +kernel
theorem dX10_end_47 : decode cX10_end 47 = .ok (.iload_n 3, 1) := by decide +kernel
theorem dX10_end_48 : decode cX10_end 48 = .ok (.ifCond .ne 8, 3) := by decide +kernel
theorem dX10_end_51 : decode cX10_end 51 = .ok (.iload 4, 2) := by decide +kernel
theorem dX10_end_53 : decode cX10_end 53 = .ok (.goto 4, 3) := by decide +kernel
theorem dX10_end_56 : decode cX10_end 56 = .ok (.iconst (-1), 1) := by decide +kernel
theorem dX10_end_57 : decode cX10_end 57 = .ok (.ireturn, 1) := by decide +kernel
set_option maxRecDepth 20000 in
theorem ggX10_isTree_X10_end : GoodIn wsX10_isTree wsX10_end := goodIn_r _ [6, 1, 7, 8, 9, 10, 5, 11, 12, 13, 14, 15, 16, 17, 18, 19, 20, 21, 22, 23, 24, 25, 26, 27, 28, 29, 30, 31, 32, 33, 34] (by decide +kernel) (by decide +kernel)
set_option maxRecDepth 20000 in
theorem gX10_isTree_X10_end : GoodIn wsX10_isTree (wsV RX10 75 RX10 yX10_end wsX10_end) := goodIn_app (goodIn_of _ (by decide +kernel)) ggX10_isTree_X10_end
theorem dX10_isTree_0 : decode cX10_isTree 0 = .ok (.aload_n 0, 1) := by decide +kernel
theorem dX10_isTree_1 : decode cX10_isTree 1 = .ok (.getfield 16, 3) := by decide +kernel
theorem dX10_isTree_4 : decode cX10_isTree 4 = .ok (.iload_n 1, 1) := by decide +kernel
theorem dX10_isTree_5 : decode cX10_isTree 5 = .ok (.iaload, 1) := by decide +kernel
theorem dX10_isTree_6 : decode cX10_isTree 6 = .ok (.ifCond .le 22, 3) := by decide +kernel
theorem dX10_isTree_9 : decode cX10_isTree 9 = .ok (.aload_n 0, 1) := by decide +kernel
theorem dX10_isTree_10 : decode cX10_isTree 10 = .ok (.iload_n 1, 1) := by decide +kernel
theorem dX10_isTree_11 : decode cX10_isTree 11 = .ok (.iconst 0, 1) := by decide +kernel
theorem dX10_isTree_12 : decode cX10_isTree 12 = .ok (.invokevirtual 75, 3) := by decide +kernel
theorem dX10_isTree_15 : decode cX10_isTree 15 = .ok (.aload_n 0, 1) := by decide +kernel
theorem dX10_isTree_16 : decode cX10_isTree 16 = .ok (.getfield 16, 3) := by decide +kernel
theorem dX10_isTree_19 : decode cX10_isTree 19 = .ok (.iload_n 1, 1) := by decide +kernel
theorem dX10_isTree_20 : decode cX10_isTree 20 = .ok (.iaload, 1) := by decide +kernel
theorem dX10_isTree_21 : decode cX10_isTree 21 = .ok (.if_icmp .ne 7, 3) := by decide +kernel
theorem dX10_isTree_24 : decode cX10_isTree 24 = .ok (.iconst 1, 1) := by decide +kernel
theorem dX10_isTree_25 : decode cX10_isTree 25 = .ok (.goto 4, 3) := by decide +kernel
theorem dX10_isTree_28 : decode cX10_isTree 28 = .ok (.iconst 0, 1) := by decide +kernel
theorem dX10_isTree_29 : decode cX10_isTree 29 = .ok (.ireturn, 1) := by decide +kernel
set_option maxRecDepth 20000 in
theorem ggX10_isTreeRow_X10_isRow : GoodIn wsX10_isTreeRow wsX10_isRow := goodIn_r _ [4, 5, 6, 3, 7] (by decide +kernel) (by decide +kernel)
set_option maxRecDepth 20000 in
theorem gX10_isTreeRow_X10_isRow : GoodIn wsX10_isTreeRow (va_wsS RX10 63 yX10_isRow wsX10_isRow) := goodIn_app (goodIn_of _ (by decide +kernel)) ggX10_isTreeRow_X10_isRow
set_option maxRecDepth 20000 in
theorem ggX10_isTreeRow_X10_isTree : GoodIn wsX10_isTreeRow wsX10_isTree := goodIn_r _ [11, 12, 13, 14, 15, 3, 16, 17, 18, 19, 20, 21, 22, 23, 24, 25, 26, 27, 28, 29, 30, 31, 32, 33, 34, 35, 36, 37, 38, 39, 40, 41, 42, 43, 44] (by decide +kernel) (by decide +kernel)
set_option maxRecDepth 20000 in
theorem gX10_isTreeRow_X10_isTree : GoodIn wsX10_isTreeRow (wsV RX10 79 RX10 yX10_isTree wsX10_isTree) := goodIn_app (goodIn_of _ (by decide +kernel)) ggX10_isTreeRow_X10_isTree
theorem dX10_isTreeRow_0 : decode cX10_isTreeRow 0 = .ok (.iload_n 1, 1) := by decide +kernel
theorem dX10_isTreeRow_1 : decode cX10_isTreeRow 1 = .ok (.invokestatic 63, 3) := by decide +kernel
theorem dX10_isTreeRow_4 : decode cX10_isTreeRow 4 = .ok (.ifCond .eq 15, 3) := by decide +kernel
theorem dX10_isTreeRow_7 : decode cX10_isTreeRow 7 = .ok (.aload_n 0, 1) := by decide +kernel
theorem dX10_isTreeRow_8 : decode cX10_isTreeRow 8 = .ok (.iload_n 1, 1) := by decide +kernel
theorem dX10_isTreeRow_9 : decode cX10_isTreeRow 9 = .ok (.invokevirtual 79, 3) := by decide +kernel
theorem dX10_isTreeRow_12 : decode cX10_isTreeRow 12 = .ok (.ifCond .eq 7, 3) := by decide +kernel
theorem dX10_isTreeRow_15 : decode cX10_isTreeRow 15 = .ok (.iconst 1, 1) := by decide +kernel
theorem dX10_isTreeRow_16 : decode cX10_isTreeRow 16 = .ok (.goto 4, 3) := by decide +kernel
theorem dX10_isTreeRow_19 : decode cX10_isTreeRow 19 = .ok (.iconst 0, 1) := by decide +kernel
theorem dX10_isTreeRow_20 : decode cX10_isTreeRow 20 = .ok (.ireturn, 1) := by decide +kernel
theorem dX10_leaves_0 : decode cX10_leaves 0 = .ok (.iconst 0, 1) := by decide +kernel
theorem dX10_leaves_1 : decode cX10_leaves 1 = .ok (.istore_n 2, 1) := by decide +kernel
theorem dX10_leaves_2 : decode cX10_leaves 2 = .ok (.iconst 0, 1) := by decide +kernel
theorem dX10_leaves_3 : decode cX10_leaves 3 = .ok (.istore_n 3, 1) := by decide +kernel
theorem dX10_leaves_4 : decode cX10_leaves 4 = .ok (.iload_n 3, 1) := by decide +kernel
theorem dX10_leaves_5 : decode cX10_leaves 5 = .ok (.aload_n 0, 1) := by decide +kernel
theorem dX10_leaves_6 : decode cX10_leaves 6 = .ok (.getfield 16, 3) := by decide +kernel
theorem dX10_leaves_9 : decode cX10_leaves 9 = .ok (.iload_n 1, 1) := by decide +kernel
theorem dX10_leaves_10 : decode cX10_leaves 10 = .ok (.iaload, 1) := by decide +kernel
theorem dX10_leaves_11 : decode cX10_leaves 11 = .ok (.if_icmp .ge 32, 3) := by decide +kernel
theorem dX10_leaves_14 : decode cX10_leaves 14 = .ok (.iload_n 2, 1) := by decide +kernel
theorem dX10_leaves_15 : decode cX10_leaves 15 = .ok (.aload_n 0, 1) := by decide +kernel
theorem dX10_leaves_16 : decode cX10_leaves 16 = .ok (.getfield 13, 3) := by decide +kernel
theorem dX10_leaves_19 : decode cX10_leaves 19 = .ok (.bipush 60, 2) := by decide +kernel
theorem dX10_leaves_21 : decode cX10_leaves 21 = .ok (.iload_n 1, 1) := by decide +kernel
theorem dX10_leaves_22 : decode cX10_leaves 22 = .ok (.imul, 1) := by decide +kernel
theorem dX10_leaves_23 : decode cX10_leaves 23 = .ok (.iload_n 3, 1) := by decide +kernel
theorem dX10_leaves_24 : decode cX10_leaves 24 = .ok (.iadd, 1) := by decide +kernel
theorem dX10_leaves_25 : decode cX10_leaves 25 = .ok (.iaload, 1) := by decide +kernel
theorem dX10_leaves_26 : decode cX10_leaves 26 = .ok (.iconst (-1), 1) := by decide +kernel
theorem dX10_leaves_27 : decode cX10_leaves 27 = .ok (.if_icmp .ne 7, 3) := by decide +kernel
theorem dX10_leaves_30 : decode cX10_leaves 30 = .ok (.iconst 1, 1) := by decide +kernel
theorem dX10_leaves_31 : decode cX10_leaves 31 = .ok (.goto 4, 3) := by decide +kernel
theorem dX10_leaves_34 : decode cX10_leaves 34 = .ok (.iconst 0, 1) := by decide +kernel
theorem dX10_leaves_35 : decode cX10_leaves 35 = .ok (.iadd, 1) := by decide +kernel
theorem dX10_leaves_36 : decode cX10_leaves 36 = .ok (.istore_n 2, 1) := by decide +kernel
theorem dX10_leaves_37 : decode cX10_leaves 37 = .ok (.iinc 3 1, 3) := by decide +kernel
theorem dX10_leaves_40 : decode cX10_leaves 40 = .ok (.goto (-36), 3) := by decide +kernel
theorem dX10_leaves_43 : decode cX10_leaves 43 = .ok (.iload_n 2, 1) := by decide +kernel
theorem dX10_leaves_44 : decode cX10_leaves 44 = .ok (.ireturn, 1) := by decide +kernel
theorem dX10_height_0 : decode cX10_height 0 = .ok (.iconst 0, 1) := by decide +kernel
theorem dX10_height_1 : decode cX10_height 1 = .ok (.istore_n 2, 1) := by decide +kernel
theorem dX10_height_2 : decode cX10_height 2 = .ok (.iconst 0, 1) := by decide +kernel
theorem dX10_height_3 : decode cX10_height 3 = .ok (.istore_n 3, 1) := by decide +kernel
theorem dX10_height_4 : decode cX10_height 4 = .ok (.iconst 0, 1) := by decide +kernel
theorem dX10_height_5 : decode cX10_height 5 = .ok (.istore 4, 2) := by decide +kernel
theorem dX10_height_7 : decode cX10_height 7 = .ok (.iload 4, 2) := by decide +kernel
theorem dX10_height_9 : decode cX10_height 9 = .ok (.aload_n 0, 1) := by decide +kernel
theorem dX10_height_10 : decode cX10_height 10 = .ok (.getfield 16, 3) := by decide +kernel
theorem dX10_height_13 : decode cX10_height 13 = .ok (.iload_n 1, 1) := by decide +kernel
theorem dX10_height_14 : decode cX10_height 14 = .ok (.iaload, 1) := by decide +kernel
theorem dX10_height_15 : decode cX10_height 15 = .ok (.if_icmp .ge 117, 3) := by decide +kernel
theorem dX10_height_18 : decode cX10_height 18 = .ok (.aload_n 0, 1) := by decide +kernel
theorem dX10_height_19 : decode cX10_height 19 = .ok (.getfield 13, 3) := by decide +kernel
theorem dX10_height_22 : decode cX10_height 22 = .ok (.bipush 60, 2) := by decide +kernel
theorem dX10_height_24 : decode cX10_height 24 = .ok (.iload_n 1, 1) := by decide +kernel
theorem dX10_height_25 : decode cX10_height 25 = .ok (.imul, 1) := by decide +kernel
theorem dX10_height_26 : decode cX10_height 26 = .ok (.iload 4, 2) := by decide +kernel
theorem dX10_height_28 : decode cX10_height 28 = .ok (.iadd, 1) := by decide +kernel
theorem dX10_height_29 : decode cX10_height 29 = .ok (.iaload, 1) := by decide +kernel
theorem dX10_height_30 : decode cX10_height 30 = .ok (.istore 5, 2) := by decide +kernel
theorem dX10_height_32 : decode cX10_height 32 = .ok (.iload 5, 2) := by decide +kernel
theorem dX10_height_34 : decode cX10_height 34 = .ok (.iconst (-1), 1) := by decide +kernel
theorem dX10_height_35 : decode cX10_height 35 = .ok (.if_icmp .eq 33, 3) := by decide +kernel
theorem dX10_height_38 : decode cX10_height 38 = .ok (.aload_n 0, 1) := by decide +kernel
theorem dX10_height_39 : decode cX10_height 39 = .ok (.getfield 27, 3) := by decide +kernel
theorem dX10_height_42 : decode cX10_height 42 = .ok (.iload_n 2, 1) := by decide +kernel
theorem dX10_height_43 : decode cX10_height 43 = .ok (.aload_n 0, 1) := by decide +kernel
theorem dX10_height_44 : decode cX10_height 44 = .ok (.getfield 7, 3) := by decide +kernel
theorem dX10_height_47 : decode cX10_height 47 = .ok (.iload 5, 2) := by decide +kernel
theorem dX10_height_49 : decode cX10_height 49 = .ok (.iaload, 1) := by decide +kernel
theorem dX10_height_50 : decode cX10_height 50 = .ok (.iastore, 1) := by decide +kernel
theorem dX10_height_51 : decode cX10_height 51 = .ok (.iinc 2 1, 3) := by decide +kernel
theorem dX10_height_54 : decode cX10_height 54 = .ok (.iload_n 2, 1) := by decide +kernel
theorem dX10_height_55 : decode cX10_height 55 = .ok (.iload_n 3, 1) := by decide +kernel
theorem dX10_height_56 : decode cX10_height 56 = .ok (.if_icmp .le 7, 3) := by decide +kernel
theorem dX10_height_59 : decode cX10_height 59 = .ok (.iload_n 2, 1) := by decide +kernel
theorem dX10_height_60 : decode cX10_height 60 = .ok (.goto 4, 3) := by decide +kernel
theorem dX10_height_63 : decode cX10_height 63 = .ok (.iload_n 3, 1) := by decide +kernel
theorem dX10_height_64 : decode cX10_height 64 = .ok (.istore_n 3, 1) := by decide +kernel
theorem dX10_height_65 : decode cX10_height 65 = .ok (.goto 61, 3) := by decide +kernel
theorem dX10_height_68 : decode cX10_height 68 = .ok (.iconst 1, 1) := by decide +kernel
theorem dX10_height_69 : decode cX10_height 69 = .ok (.istore 6, 2) := by decide +kernel
theorem dX10_height_71 : decode cX10_height 71 = .ok (.iload 6, 2) := by decide +kernel
theorem dX10_height_73 : decode cX10_height 73 = .ok (.ifCond .eq 53, 3) := by decide +kernel
theorem dX10_height_76 : decode cX10_height 76 = .ok (.iload_n 2, 1) := by decide +kernel
theorem dX10_height_77 : decode cX10_height 77 = .ok (.ifCond .le 49, 3) := by decide +kernel
theorem dX10_height_80 : decode cX10_height 80 = .ok (.aload_n 0, 1) := by decide +kernel
theorem dX10_height_81 : decode cX10_height 81 = .ok (.getfield 27, 3) := by decide +kernel
theorem dX10_height_84 : decode cX10_height 84 = .ok (.iload_n 2, 1) := by decide +kernel
theorem dX10_height_85 : decode cX10_height 85 = .ok (.iconst 1, 1) := by decide +kernel
theorem dX10_height_86 : decode cX10_height 86 = .ok (.isub, 1) := by decide +kernel
theorem dX10_height_87 : decode cX10_height 87 = .ok (.dup2, 1) := by decide +kernel
theorem dX10_height_88 : decode cX10_height 88 = .ok (.iaload, 1) := by decide +kernel
theorem dX10_height_89 : decode cX10_height 89 = .ok (.iconst 1, 1) := by decide +kernel
theorem dX10_height_90 : decode cX10_height 90 = .ok (.isub, 1) := by decide +kernel
theorem dX10_height_91 : decode cX10_height 91 = .ok (.iastore, 1) := by decide +kernel
theorem dX10_height_92 : decode cX10_height 92 = .ok (.aload_n 0, 1) := by decide +kernel
theorem dX10_height_93 : decode cX10_height 93 = .ok (.getfield 27, 3) := by decide +kernel
theorem dX10_height_96 : decode cX10_height 96 = .ok (.iload_n 2, 1) := by decide +kernel
theorem dX10_height_97 : decode cX10_height 97 = .ok (.iconst 1, 1) := by decide +kernel
theorem dX10_height_98 : decode cX10_height 98 = .ok (.isub, 1) := by decide +kernel
theorem dX10_height_99 : decode cX10_height 99 = .ok (.iaload, 1) := by decide +kernel
theorem dX10_height_100 : decode cX10_height 100 = .ok (.ifCond .ne 7, 3) := by decide +kernel
theorem dX10_height_103 : decode cX10_height 103 = .ok (.iconst 1, 1) := by decide +kernel
theorem dX10_height_104 : decode cX10_height 104 = .ok (.goto 4, 3) := by decide +kernel
theorem dX10_height_107 : decode cX10_height 107 = .ok (.iconst 0, 1) := by decide +kernel
theorem dX10_height_108 : decode cX10_height 108 = .ok (.istore 6, 2) := by decide +kernel
theorem dX10_height_110 : decode cX10_height 110 = .ok (.iload_n 2, 1) := by decide +kernel
theorem dX10_height_111 : decode cX10_height 111 = .ok (.iload 6, 2) := by decide +kernel
theorem dX10_height_113 : decode cX10_height 113 = .ok (.ifCond .eq 7, 3) := by decide +kernel
theorem dX10_height_116 : decode cX10_height 116 = .ok (.iconst 1, 1) := by decide +kernel
theorem dX10_height_117 : decode cX10_height 117 = .ok (.goto 4, 3) := by decide +kernel
theorem dX10_height_120 : decode cX10_height 120 = .ok (.iconst 0, 1) := by decide +kernel
theorem dX10_height_121 : decode cX10_height 121 = .ok (.isub, 1) := by decide +kernel
theorem dX10_height_122 : decode cX10_height 122 = .ok (.istore_n 2, 1) := by decide +kernel
theorem dX10_height_123 : decode cX10_height 123 = .ok (.goto (-52), 3) := by decide +kernel
theorem dX10_height_126 : decode cX10_height 126 = .ok (.iinc 4 1, 3) := by decide +kernel
theorem dX10_height_129 : decode cX10_height 129 = .ok (.goto (-122), 3) := by decide +kernel
theorem dX10_height_132 : decode cX10_height 132 = .ok (.iload_n 3, 1) := by decide +kernel
theorem dX10_height_133 : decode cX10_height 133 = .ok (.ireturn, 1) := by decide +kernel
set_option maxRecDepth 20000 in
theorem ggX10_about_X10_isRow : GoodIn wsX10_about wsX10_isRow := goodIn_r _ [5, 6, 7, 4, 8] (by decide +kernel) (by decide +kernel)
set_option maxRecDepth 20000 in
theorem gX10_about_X10_isRow : GoodIn wsX10_about (va_wsS RX10 63 yX10_isRow wsX10_isRow) := goodIn_app (goodIn_of _ (by decide +kernel)) ggX10_about_X10_isRow
set_option maxRecDepth 20000 in
theorem ggX10_about_X10_in : GoodIn wsX10_about wsX10_in := goodIn_r _ [8] (by decide +kernel) (by decide +kernel)
set_option maxRecDepth 20000 in
theorem gX10_about_X10_in : GoodIn wsX10_about (va_wsS RX10 51 yX10_in wsX10_in) := goodIn_app (goodIn_of _ (by decide +kernel)) ggX10_about_X10_in
set_option maxRecDepth 20000 in
theorem ggX10_about_X10_isTree : GoodIn wsX10_about wsX10_isTree := goodIn_r _ [12, 1, 13, 14, 15, 4, 16, 17, 18, 19, 20, 21, 22, 32, 33, 34, 35, 36, 37, 38, 39, 40, 41, 42, 43, 44, 45, 46, 47, 48, 49, 50, 51, 52, 53] (by decide +kernel) (by decide +kernel)
set_option maxRecDepth 20000 in
theorem gX10_about_X10_isTree : GoodIn wsX10_about (wsV RX10 79 RX10 yX10_isTree wsX10_isTree) := goodIn_app (goodIn_of _ (by decide +kernel)) ggX10_about_X10_isTree
set_option maxRecDepth 20000 in
theorem ggX10_about_X10_leaves : GoodIn wsX10_about wsX10_leaves := goodIn_r _ [26, 1, 17, 32, 33, 34, 35, 36, 37, 38, 39, 40, 41, 42, 43, 44, 45, 46, 47, 48, 49, 50, 51, 52, 53] (by decide +kernel) (by decide +kernel)
set_option maxRecDepth 20000 in
theorem gX10_about_X10_leaves : GoodIn wsX10_about (wsV RX10 82 RX10 yX10_leaves wsX10_leaves) := goodIn_app (goodIn_of _ (by decide +kernel)) ggX10_about_X10_leaves
set_option maxRecDepth 20000 in
theorem ggX10_about_X10_height : GoodIn wsX10_about wsX10_height := goodIn_r _ [30, 1, 17, 31, 22, 32, 33, 34, 35, 36, 37, 38, 39, 40, 41, 42, 43, 44, 45, 46, 47, 48, 49, 50, 51, 52, 53] (by decide +kernel) (by decide +kernel)
set_option maxRecDepth 20000 in
theorem gX10_about_X10_height : GoodIn wsX10_about (wsV RX10 85 RX10 yX10_height wsX10_height) := goodIn_app (goodIn_of _ (by decide +kernel)) ggX10_about_X10_height
theorem dX10_about_0 : decode cX10_about 0 = .ok (.iload_n 1, 1) := by decide +kernel
theorem dX10_about_1 : decode cX10_about 1 = .ok (.invokestatic 63, 3) := by decide +kernel
theorem dX10_about_4 : decode cX10_about 4 = .ok (.ifCond .eq 12, 3) := by decide +kernel
theorem dX10_about_7 : decode cX10_about 7 = .ok (.iload_n 2, 1) := by decide +kernel
theorem dX10_about_8 : decode cX10_about 8 = .ok (.iconst 0, 1) := by decide +kernel
theorem dX10_about_9 : decode cX10_about 9 = .ok (.iconst 4, 1) := by decide +kernel
theorem dX10_about_10 : decode cX10_about 10 = .ok (.invokestatic 51, 3) := by decide +kernel
theorem dX10_about_13 : decode cX10_about 13 = .ok (.ifCond .ne 6, 3) := by decide +kernel
theorem dX10_about_16 : decode cX10_about 16 = .ok (.bipush (-2), 2) := by decide +kernel
theorem dX10_about_18 : decode cX10_about 18 = .ok (.ireturn, 1) := by decide +kernel
theorem dX10_about_19 : decode cX10_about 19 = .ok (.iload_n 2, 1) := by decide +kernel
theorem dX10_about_20 : decode cX10_about 20 = .ok (.iconst 2, 1) := by decide +kernel
theorem dX10_about_21 : decode cX10_about 21 = .ok (.if_icmp .ge 30, 3) := by decide +kernel
theorem dX10_about_24 : decode cX10_about 24 = .ok (.iload_n 2, 1) := by decide +kernel
theorem dX10_about_25 : decode cX10_about 25 = .ok (.ifCond .ne 12, 3) := by decide +kernel
theorem dX10_about_28 : decode cX10_about 28 = .ok (.aload_n 0, 1) := by decide +kernel
theorem dX10_about_29 : decode cX10_about 29 = .ok (.getfield 16, 3) := by decide +kernel
theorem dX10_about_32 : decode cX10_about 32 = .ok (.iload_n 1, 1) := by decide +kernel
theorem dX10_about_33 : decode cX10_about 33 = .ok (.iaload, 1) := by decide +kernel
theorem dX10_about_34 : decode cX10_about 34 = .ok (.goto 16, 3) := by decide +kernel
theorem dX10_about_37 : decode cX10_about 37 = .ok (.aload_n 0, 1) := by decide +kernel
theorem dX10_about_38 : decode cX10_about 38 = .ok (.iload_n 1, 1) := by decide +kernel
theorem dX10_about_39 : decode cX10_about 39 = .ok (.invokevirtual 79, 3) := by decide +kernel
theorem dX10_about_42 : decode cX10_about 42 = .ok (.ifCond .eq 7, 3) := by decide +kernel
theorem dX10_about_45 : decode cX10_about 45 = .ok (.iconst 1, 1) := by decide +kernel
theorem dX10_about_46 : decode cX10_about 46 = .ok (.goto 4, 3) := by decide +kernel
theorem dX10_about_49 : decode cX10_about 49 = .ok (.iconst 0, 1) := by decide +kernel
theorem dX10_about_50 : decode cX10_about 50 = .ok (.ireturn, 1) := by decide +kernel
theorem dX10_about_51 : decode cX10_about 51 = .ok (.aload_n 0, 1) := by decide +kernel
theorem dX10_about_52 : decode cX10_about 52 = .ok (.iload_n 1, 1) := by decide +kernel
theorem dX10_about_53 : decode cX10_about 53 = .ok (.invokevirtual 79, 3) := by decide +kernel
theorem dX10_about_56 : decode cX10_about 56 = .ok (.ifCond .ne 8, 3) := by decide +kernel
theorem dX10_about_59 : decode cX10_about 59 = .ok (.bipush (-3), 2) := by decide +kernel
theorem dX10_about_61 : decode cX10_about 61 = .ok (.goto 41, 3) := by decide +kernel
theorem dX10_about_64 : decode cX10_about 64 = .ok (.iload_n 2, 1) := by decide +kernel
theorem dX10_about_65 : decode cX10_about 65 = .ok (.iconst 2, 1) := by decide +kernel
theorem dX10_about_66 : decode cX10_about 66 = .ok (.if_icmp .ne 11, 3) := by decide +kernel
theorem dX10_about_69 : decode cX10_about 69 = .ok (.aload_n 0, 1) := by decide +kernel
theorem dX10_about_70 : decode cX10_about 70 = .ok (.iload_n 1, 1) := by decide +kernel
theorem dX10_about_71 : decode cX10_about 71 = .ok (.invokevirtual 82, 3) := by decide +kernel
theorem dX10_about_74 : decode cX10_about 74 = .ok (.goto 28, 3) := by decide +kernel
theorem dX10_about_77 : decode cX10_about 77 = .ok (.iload_n 2, 1) := by decide +kernel
theorem dX10_about_78 : decode cX10_about 78 = .ok (.iconst 3, 1) := by decide +kernel
theorem dX10_about_79 : decode cX10_about 79 = .ok (.if_icmp .ne 18, 3) := by decide +kernel
theorem dX10_about_82 : decode cX10_about 82 = .ok (.aload_n 0, 1) := by decide +kernel
theorem dX10_about_83 : decode cX10_about 83 = .ok (.getfield 16, 3) := by decide +kernel
theorem dX10_about_86 : decode cX10_about 86 = .ok (.iload_n 1, 1) := by decide +kernel
theorem dX10_about_87 : decode cX10_about 87 = .ok (.iaload, 1) := by decide +kernel
theorem dX10_about_88 : decode cX10_about 88 = .ok (.aload_n 0, 1) := by decide +kernel
theorem dX10_about_89 : decode cX10_about 89 = .ok (.iload_n 1, 1) := by decide +kernel
theorem dX10_about_90 : decode cX10_about 90 = .ok (.invokevirtual 82, 3) := by decide +kernel
theorem dX10_about_93 : decode cX10_about 93 = .ok (.isub, 1) := by decide +kernel
theorem dX10_about_94 : decode cX10_about 94 = .ok (.goto 8, 3) := by decide +kernel
theorem dX10_about_97 : decode cX10_about 97 = .ok (.aload_n 0, 1) := by decide +kernel
theorem dX10_about_98 : decode cX10_about 98 = .ok (.iload_n 1, 1) := by decide +kernel
theorem dX10_about_99 : decode cX10_about 99 = .ok (.invokevirtual 85, 3) := by decide +kernel
theorem dX10_about_102 : decode cX10_about 102 = .ok (.ireturn, 1) := by decide +kernel
theorem dX10_copy_0 : decode cX10_copy 0 = .ok (.iconst 0, 1) := by decide +kernel
theorem dX10_copy_1 : decode cX10_copy 1 = .ok (.istore_n 3, 1) := by decide +kernel
theorem dX10_copy_2 : decode cX10_copy 2 = .ok (.iload_n 3, 1) := by decide +kernel
theorem dX10_copy_3 : decode cX10_copy 3 = .ok (.aload_n 0, 1) := by decide +kernel
theorem dX10_copy_4 : decode cX10_copy 4 = .ok (.getfield 16, 3) := by decide +kernel
theorem dX10_copy_7 : decode cX10_copy 7 = .ok (.iload_n 1, 1) := by decide +kernel
theorem dX10_copy_8 : decode cX10_copy 8 = .ok (.iaload, 1) := by decide +kernel
theorem dX10_copy_9 : decode cX10_copy 9 = .ok (.if_icmp .ge 31, 3) := by decide +kernel
theorem dX10_copy_12 : decode cX10_copy 12 = .ok (.aload_n 0, 1) := by decide +kernel
theorem dX10_copy_13 : decode cX10_copy 13 = .ok (.getfield 13, 3) := by decide +kernel
theorem dX10_copy_16 : decode cX10_copy 16 = .ok (.bipush 60, 2) := by decide +kernel
theorem dX10_copy_18 : decode cX10_copy 18 = .ok (.iload_n 2, 1) := by decide +kernel
theorem dX10_copy_19 : decode cX10_copy 19 = .ok (.imul, 1) := by decide +kernel
theorem dX10_copy_20 : decode cX10_copy 20 = .ok (.iload_n 3, 1) := by decide +kernel
theorem dX10_copy_21 : decode cX10_copy 21 = .ok (.iadd, 1) := by decide +kernel
theorem dX10_copy_22 : decode cX10_copy 22 = .ok (.aload_n 0, 1) := by decide +kernel
theorem dX10_copy_23 : decode cX10_copy 23 = .ok (.getfield 13, 3) := by decide +kernel
theorem dX10_copy_26 : decode cX10_copy 26 = .ok (.bipush 60, 2) := by decide +kernel
theorem dX10_copy_28 : decode cX10_copy 28 = .ok (.iload_n 1, 1) := by decide +kernel
theorem dX10_copy_29 : decode cX10_copy 29 = .ok (.imul, 1) := by decide +kernel
theorem dX10_copy_30 : decode cX10_copy 30 = .ok (.iload_n 3, 1) := by decide +kernel
theorem dX10_copy_31 : decode cX10_copy 31 = .ok (.iadd, 1) := by decide +kernel
theorem dX10_copy_32 : decode cX10_copy 32 = .ok (.iaload, 1) := by decide +kernel
theorem dX10_copy_33 : decode cX10_copy 33 = .ok (.iastore, 1) := by decide +kernel
theorem dX10_copy_34 : decode cX10_copy 34 = .ok (.iinc 3 1, 3) := by decide +kernel
theorem dX10_copy_37 : decode cX10_copy 37 = .ok (.goto (-35), 3) := by decide +kernel
theorem dX10_copy_40 : decode cX10_copy 40 = .ok (.aload_n 0, 1) := by decide +kernel
theorem dX10_copy_41 : decode cX10_copy 41 = .ok (.getfield 16, 3) := by decide +kernel
theorem dX10_copy_44 : decode cX10_copy 44 = .ok (.iload_n 2, 1) := by decide +kernel
theorem dX10_copy_45 : decode cX10_copy 45 = .ok (.aload_n 0, 1) := by decide +kernel
theorem dX10_copy_46 : decode cX10_copy 46 = .ok (.getfield 16, 3) := by decide +kernel
theorem dX10_copy_49 : decode cX10_copy 49 = .ok (.iload_n 1, 1) := by decide +kernel
theorem dX10_copy_50 : decode cX10_copy 50 = .ok (.iaload, 1) := by decide +kernel
theorem dX10_copy_51 : decode cX10_copy 51 = .ok (.iastore, 1) := by decide +kernel
theorem dX10_copy_52 : decode cX10_copy 52 = .ok (.return_, 1) := by decide +kernel
set_option maxRecDepth 20000 in
theorem ggX10_adds_X10_comes : GoodIn wsX10_adds wsX10_comes := goodIn_r _ [7, 2, 1, 8, 9, 10, 11, 12, 13, 14, 15, 16, 17, 18, 19, 20, 21, 22, 23, 24, 25, 26, 27, 28, 29] (by decide +kernel) (by decide +kernel)
set_option maxRecDepth 20000 in
theorem gX10_adds_X10_comes : GoodIn wsX10_adds (wsV RX10 67 RX10 yX10_comes wsX10_comes) := goodIn_app (goodIn_of _ (by decide +kernel)) ggX10_adds_X10_comes
theorem dX10_adds_0 : decode cX10_adds 0 = .ok (.aload_n 0, 1) := by decide +kernel
theorem dX10_adds_1 : decode cX10_adds 1 = .ok (.getfield 16, 3) := by decide +kernel
theorem dX10_adds_4 : decode cX10_adds 4 = .ok (.iload_n 1, 1) := by decide +kernel
theorem dX10_adds_5 : decode cX10_adds 5 = .ok (.iaload, 1) := by decide +kernel
theorem dX10_adds_6 : decode cX10_adds 6 = .ok (.iload 4, 2) := by decide +kernel
theorem dX10_adds_8 : decode cX10_adds 8 = .ok (.iadd, 1) := by decide +kernel
theorem dX10_adds_9 : decode cX10_adds 9 = .ok (.iload_n 3, 1) := by decide +kernel
theorem dX10_adds_10 : decode cX10_adds 10 = .ok (.isub, 1) := by decide +kernel
theorem dX10_adds_11 : decode cX10_adds 11 = .ok (.bipush 60, 2) := by decide +kernel
theorem dX10_adds_13 : decode cX10_adds 13 = .ok (.if_icmp .le 5, 3) := by decide +kernel
theorem dX10_adds_16 : decode cX10_adds 16 = .ok (.iconst 0, 1) := by decide +kernel
theorem dX10_adds_17 : decode cX10_adds 17 = .ok (.ireturn, 1) := by decide +kernel
theorem dX10_adds_18 : decode cX10_adds 18 = .ok (.iload_n 3, 1) := by decide +kernel
theorem dX10_adds_19 : decode cX10_adds 19 = .ok (.istore 5, 2) := by decide +kernel
theorem dX10_adds_21 : decode cX10_adds 21 = .ok (.iload 5, 2) := by decide +kernel
theorem dX10_adds_23 : decode cX10_adds 23 = .ok (.iload 4, 2) := by decide +kernel
theorem dX10_adds_25 : decode cX10_adds 25 = .ok (.if_icmp .ge 26, 3) := by decide +kernel
theorem dX10_adds_28 : decode cX10_adds 28 = .ok (.aload_n 0, 1) := by decide +kernel
theorem dX10_adds_29 : decode cX10_adds 29 = .ok (.iload_n 1, 1) := by decide +kernel
theorem dX10_adds_30 : decode cX10_adds 30 = .ok (.aload_n 0, 1) := by decide +kernel
theorem dX10_adds_31 : decode cX10_adds 31 = .ok (.getfield 13, 3) := by decide +kernel
theorem dX10_adds_34 : decode cX10_adds 34 = .ok (.bipush 60, 2) := by decide +kernel
theorem dX10_adds_36 : decode cX10_adds 36 = .ok (.iload_n 2, 1) := by decide +kernel
theorem dX10_adds_37 : decode cX10_adds 37 = .ok (.imul, 1) := by decide +kernel
theorem dX10_adds_38 : decode cX10_adds 38 = .ok (.iload 5, 2) := by decide +kernel
theorem dX10_adds_40 : decode cX10_adds 40 = .ok (.iadd, 1) := by decide +kernel
theorem dX10_adds_41 : decode cX10_adds 41 = .ok (.iaload, 1) := by decide +kernel
theorem dX10_adds_42 : decode cX10_adds 42 = .ok (.invokevirtual 67, 3) := by decide +kernel
theorem dX10_adds_45 : decode cX10_adds 45 = .ok (.iinc 5 1, 3) := by decide +kernel
theorem dX10_adds_48 : decode cX10_adds 48 = .ok (.goto (-27), 3) := by decide +kernel
theorem dX10_adds_51 : decode cX10_adds 51 = .ok (.iconst 1, 1) := by decide +kernel
theorem dX10_adds_52 : decode cX10_adds 52 = .ok (.ireturn, 1) := by decide +kernel
set_option maxRecDepth 20000 in
theorem ggX10_graft_X10_isTreeRow : GoodIn wsX10_graft wsX10_isTreeRow := goodIn_r _ [7, 8, 9, 6, 10, 11, 12, 13, 14, 15, 16, 17, 2, 18, 19, 20, 21, 1, 22, 23, 24, 25, 26, 43, 44, 45, 46, 47, 48, 49, 50, 51, 52, 53, 54, 55, 56, 57, 58, 59, 60, 61, 62, 63, 64] (by decide +kernel) (by decide +kernel)
set_option maxRecDepth 20000 in
theorem gX10_graft_X10_isTreeRow : GoodIn wsX10_graft (wsV RX10 88 RX10 yX10_isTreeRow wsX10_isTreeRow) := goodIn_app (goodIn_of _ (by decide +kernel)) ggX10_graft_X10_isTreeRow
set_option maxRecDepth 20000 in
theorem ggX10_graft_X10_isRow : GoodIn wsX10_graft wsX10_isRow := goodIn_r _ [10, 11, 12, 6, 13] (by decide +kernel) (by decide +kernel)
set_option maxRecDepth 20000 in
theorem gX10_graft_X10_isRow : GoodIn wsX10_graft (va_wsS RX10 63 yX10_isRow wsX10_isRow) := goodIn_app (goodIn_of _ (by decide +kernel)) ggX10_graft_X10_isRow
set_option maxRecDepth 20000 in
theorem ggX10_graft_X10_leaves : GoodIn wsX10_graft wsX10_leaves := goodIn_r _ [30, 2, 1, 43, 44, 45, 46, 47, 48, 49, 50, 51, 52, 53, 54, 55, 56, 57, 58, 59, 60, 61, 62, 63, 64] (by decide +kernel) (by decide +kernel)
set_option maxRecDepth 20000 in
theorem gX10_graft_X10_leaves : GoodIn wsX10_graft (wsV RX10 82 RX10 yX10_leaves wsX10_leaves) := goodIn_app (goodIn_of _ (by decide +kernel)) ggX10_graft_X10_leaves
set_option maxRecDepth 20000 in
theorem ggX10_graft_X10_in : GoodIn wsX10_graft wsX10_in := goodIn_r _ [13] (by decide +kernel) (by decide +kernel)
set_option maxRecDepth 20000 in
theorem gX10_graft_X10_in : GoodIn wsX10_graft (va_wsS RX10 51 yX10_in wsX10_in) := goodIn_app (goodIn_of _ (by decide +kernel)) ggX10_graft_X10_in
set_option maxRecDepth 20000 in
theorem ggX10_graft_X10_adds : GoodIn wsX10_graft wsX10_adds := goodIn_r _ [34, 2, 1, 35, 36, 37, 6, 38, 43, 44, 45, 46, 47, 48, 49, 50, 51, 52, 53, 54, 55, 56, 57, 58, 59, 60, 61, 62, 63, 64] (by decide +kernel) (by decide +kernel)
set_option maxRecDepth 20000 in
theorem gX10_graft_X10_adds : GoodIn wsX10_graft (wsV RX10 91 RX10 yX10_adds wsX10_adds) := goodIn_app (goodIn_of _ (by decide +kernel)) ggX10_graft_X10_adds
set_option maxRecDepth 20000 in
theorem ggX10_graft_X10_copy : GoodIn wsX10_graft wsX10_copy := goodIn_r _ [42, 2, 1, 43, 44, 45, 46, 47, 48, 49, 50, 51, 52, 53, 54, 55, 56, 57, 58, 59, 60, 61, 62, 63, 64] (by decide +kernel) (by decide +kernel)
set_option maxRecDepth 20000 in
theorem gX10_graft_X10_copy : GoodIn wsX10_graft (wsV RX10 95 RX10 yX10_copy wsX10_copy) := goodIn_app (goodIn_of _ (by decide +kernel)) ggX10_graft_X10_copy
theorem dX10_graft_0 : decode cX10_graft 0 = .ok (.aload_n 0, 1) := by decide +kernel
theorem dX10_graft_1 : decode cX10_graft 1 = .ok (.iload_n 1, 1) := by decide +kernel
theorem dX10_graft_2 : decode cX10_graft 2 = .ok (.invokevirtual 88, 3) := by decide +kernel
theorem dX10_graft_5 : decode cX10_graft 5 = .ok (.ifCond .eq 34, 3) := by decide +kernel
theorem dX10_graft_8 : decode cX10_graft 8 = .ok (.aload_n 0, 1) := by decide +kernel
theorem dX10_graft_9 : decode cX10_graft 9 = .ok (.iload_n 3, 1) := by decide +kernel
theorem dX10_graft_10 : decode cX10_graft 10 = .ok (.invokevirtual 88, 3) := by decide +kernel
theorem dX10_graft_13 : decode cX10_graft 13 = .ok (.ifCond .eq 26, 3) := by decide +kernel
theorem dX10_graft_16 : decode cX10_graft 16 = .ok (.iload 4, 2) := by decide +kernel
theorem dX10_graft_18 : decode cX10_graft 18 = .ok (.invokestatic 63, 3) := by decide +kernel
theorem dX10_graft_21 : decode cX10_graft 21 = .ok (.ifCond .eq 18, 3) := by decide +kernel
theorem dX10_graft_24 : decode cX10_graft 24 = .ok (.iload_n 2, 1) := by decide +kernel
theorem dX10_graft_25 : decode cX10_graft 25 = .ok (.iconst 0, 1) := by decide +kernel
theorem dX10_graft_26 : decode cX10_graft 26 = .ok (.aload_n 0, 1) := by decide +kernel
theorem dX10_graft_27 : decode cX10_graft 27 = .ok (.iload_n 1, 1) := by decide +kernel
theorem dX10_graft_28 : decode cX10_graft 28 = .ok (.invokevirtual 82, 3) := by decide +kernel
theorem dX10_graft_31 : decode cX10_graft 31 = .ok (.iconst 1, 1) := by decide +kernel
theorem dX10_graft_32 : decode cX10_graft 32 = .ok (.isub, 1) := by decide +kernel
theorem dX10_graft_33 : decode cX10_graft 33 = .ok (.invokestatic 51, 3) := by decide +kernel
theorem dX10_graft_36 : decode cX10_graft 36 = .ok (.ifCond .ne 6, 3) := by decide +kernel
theorem dX10_graft_39 : decode cX10_graft 39 = .ok (.bipush (-2), 2) := by decide +kernel
theorem dX10_graft_41 : decode cX10_graft 41 = .ok (.ireturn, 1) := by decide +kernel
theorem dX10_graft_42 : decode cX10_graft 42 = .ok (.iconst (-1), 1) := by decide +kernel
theorem dX10_graft_43 : decode cX10_graft 43 = .ok (.istore 5, 2) := by decide +kernel
theorem dX10_graft_45 : decode cX10_graft 45 = .ok (.iload_n 2, 1) := by decide +kernel
theorem dX10_graft_46 : decode cX10_graft 46 = .ok (.istore 6, 2) := by decide +kernel
theorem dX10_graft_48 : decode cX10_graft 48 = .ok (.iload 6, 2) := by decide +kernel
theorem dX10_graft_50 : decode cX10_graft 50 = .ok (.ifCond .lt 35, 3) := by decide +kernel
theorem dX10_graft_53 : decode cX10_graft 53 = .ok (.iinc 5 1, 3) := by decide +kernel
theorem dX10_graft_56 : decode cX10_graft 56 = .ok (.iload 6, 2) := by decide +kernel
theorem dX10_graft_58 : decode cX10_graft 58 = .ok (.aload_n 0, 1) := by decide +kernel
theorem dX10_graft_59 : decode cX10_graft 59 = .ok (.getfield 13, 3) := by decide +kernel
theorem dX10_graft_62 : decode cX10_graft 62 = .ok (.bipush 60, 2) := by decide +kernel
theorem dX10_graft_64 : decode cX10_graft 64 = .ok (.iload_n 1, 1) := by decide +kernel
theorem dX10_graft_65 : decode cX10_graft 65 = .ok (.imul, 1) := by decide +kernel
theorem dX10_graft_66 : decode cX10_graft 66 = .ok (.iload 5, 2) := by decide +kernel
theorem dX10_graft_68 : decode cX10_graft 68 = .ok (.iadd, 1) := by decide +kernel
theorem dX10_graft_69 : decode cX10_graft 69 = .ok (.iaload, 1) := by decide +kernel
theorem dX10_graft_70 : decode cX10_graft 70 = .ok (.iconst (-1), 1) := by decide +kernel
theorem dX10_graft_71 : decode cX10_graft 71 = .ok (.if_icmp .ne 7, 3) := by decide +kernel
theorem dX10_graft_74 : decode cX10_graft 74 = .ok (.iconst 1, 1) := by decide +kernel
theorem dX10_graft_75 : decode cX10_graft 75 = .ok (.goto 4, 3) := by decide +kernel
theorem dX10_graft_78 : decode cX10_graft 78 = .ok (.iconst 0, 1) := by decide +kernel
theorem dX10_graft_79 : decode cX10_graft 79 = .ok (.isub, 1) := by decide +kernel
theorem dX10_graft_80 : decode cX10_graft 80 = .ok (.istore 6, 2) := by decide +kernel
theorem dX10_graft_82 : decode cX10_graft 82 = .ok (.goto (-34), 3) := by decide +kernel
theorem dX10_graft_85 : decode cX10_graft 85 = .ok (.aload_n 0, 1) := by decide +kernel
theorem dX10_graft_86 : decode cX10_graft 86 = .ok (.getfield 16, 3) := by decide +kernel
theorem dX10_graft_89 : decode cX10_graft 89 = .ok (.bipush 28, 2) := by decide +kernel
theorem dX10_graft_91 : decode cX10_graft 91 = .ok (.iconst 0, 1) := by decide +kernel
theorem dX10_graft_92 : decode cX10_graft 92 = .ok (.iastore, 1) := by decide +kernel
theorem dX10_graft_93 : decode cX10_graft 93 = .ok (.aload_n 0, 1) := by decide +kernel
theorem dX10_graft_94 : decode cX10_graft 94 = .ok (.bipush 28, 2) := by decide +kernel
theorem dX10_graft_96 : decode cX10_graft 96 = .ok (.iload_n 1, 1) := by decide +kernel
theorem dX10_graft_97 : decode cX10_graft 97 = .ok (.iconst 0, 1) := by decide +kernel
theorem dX10_graft_98 : decode cX10_graft 98 = .ok (.iload 5, 2) := by decide +kernel
theorem dX10_graft_100 : decode cX10_graft 100 = .ok (.invokevirtual 91, 3) := by decide +kernel
theorem dX10_graft_103 : decode cX10_graft 103 = .ok (.ifCond .eq 44, 3) := by decide +kernel
theorem dX10_graft_106 : decode cX10_graft 106 = .ok (.aload_n 0, 1) := by decide +kernel
theorem dX10_graft_107 : decode cX10_graft 107 = .ok (.bipush 28, 2) := by decide +kernel
theorem dX10_graft_109 : decode cX10_graft 109 = .ok (.iload_n 3, 1) := by decide +kernel
theorem dX10_graft_110 : decode cX10_graft 110 = .ok (.iconst 0, 1) := by decide +kernel
theorem dX10_graft_111 : decode cX10_graft 111 = .ok (.aload_n 0, 1) := by decide +kernel
theorem dX10_graft_112 : decode cX10_graft 112 = .ok (.getfield 16, 3) := by decide +kernel
theorem dX10_graft_115 : decode cX10_graft 115 = .ok (.iload_n 3, 1) := by decide +kernel
theorem dX10_graft_116 : decode cX10_graft 116 = .ok (.iaload, 1) := by decide +kernel
theorem dX10_graft_117 : decode cX10_graft 117 = .ok (.invokevirtual 91, 3) := by decide +kernel
theorem dX10_graft_120 : decode cX10_graft 120 = .ok (.ifCond .eq 27, 3) := by decide +kernel
theorem dX10_graft_123 : decode cX10_graft 123 = .ok (.aload_n 0, 1) := by decide +kernel
theorem dX10_graft_124 : decode cX10_graft 124 = .ok (.bipush 28, 2) := by decide +kernel
theorem dX10_graft_126 : decode cX10_graft 126 = .ok (.iload_n 1, 1) := by decide +kernel
theorem dX10_graft_127 : decode cX10_graft 127 = .ok (.iload 5, 2) := by decide +kernel
theorem dX10_graft_129 : decode cX10_graft 129 = .ok (.iconst 1, 1) := by decide +kernel
theorem dX10_graft_130 : decode cX10_graft 130 = .ok (.iadd, 1) := by decide +kernel
theorem dX10_graft_131 : decode cX10_graft 131 = .ok (.aload_n 0, 1) := by decide +kernel
theorem dX10_graft_132 : decode cX10_graft 132 = .ok (.getfield 16, 3) := by decide +kernel
theorem dX10_graft_135 : decode cX10_graft 135 = .ok (.iload_n 1, 1) := by decide +kernel
theorem dX10_graft_136 : decode cX10_graft 136 = .ok (.iaload, 1) := by decide +kernel
theorem dX10_graft_137 : decode cX10_graft 137 = .ok (.invokevirtual 91, 3) := by decide +kernel
theorem dX10_graft_140 : decode cX10_graft 140 = .ok (.ifCond .eq 7, 3) := by decide +kernel
theorem dX10_graft_143 : decode cX10_graft 143 = .ok (.iconst 1, 1) := by decide +kernel
theorem dX10_graft_144 : decode cX10_graft 144 = .ok (.goto 4, 3) := by decide +kernel
theorem dX10_graft_147 : decode cX10_graft 147 = .ok (.iconst 0, 1) := by decide +kernel
theorem dX10_graft_148 : decode cX10_graft 148 = .ok (.istore 7, 2) := by decide +kernel
theorem dX10_graft_150 : decode cX10_graft 150 = .ok (.iload 7, 2) := by decide +kernel
theorem dX10_graft_152 : decode cX10_graft 152 = .ok (.ifCond .ne 6, 3) := by decide +kernel
theorem dX10_graft_155 : decode cX10_graft 155 = .ok (.bipush (-4), 2) := by decide +kernel
theorem dX10_graft_157 : decode cX10_graft 157 = .ok (.ireturn, 1) := by decide +kernel
theorem dX10_graft_158 : decode cX10_graft 158 = .ok (.aload_n 0, 1) := by decide +kernel
theorem dX10_graft_159 : decode cX10_graft 159 = .ok (.bipush 28, 2) := by decide +kernel
theorem dX10_graft_161 : decode cX10_graft 161 = .ok (.iload 4, 2) := by decide +kernel
theorem dX10_graft_163 : decode cX10_graft 163 = .ok (.invokevirtual 95, 3) := by decide +kernel
theorem dX10_graft_166 : decode cX10_graft 166 = .ok (.aload_n 0, 1) := by decide +kernel
theorem dX10_graft_167 : decode cX10_graft 167 = .ok (.getfield 16, 3) := by decide +kernel
theorem dX10_graft_170 : decode cX10_graft 170 = .ok (.iload 4, 2) := by decide +kernel
theorem dX10_graft_172 : decode cX10_graft 172 = .ok (.iaload, 1) := by decide +kernel
theorem dX10_graft_173 : decode cX10_graft 173 = .ok (.ireturn, 1) := by decide +kernel
theorem dX10_isSame_0 : decode cX10_isSame 0 = .ok (.aload_n 0, 1) := by decide +kernel
theorem dX10_isSame_1 : decode cX10_isSame 1 = .ok (.getfield 16, 3) := by decide +kernel
theorem dX10_isSame_4 : decode cX10_isSame 4 = .ok (.iload_n 1, 1) := by decide +kernel
theorem dX10_isSame_5 : decode cX10_isSame 5 = .ok (.iaload, 1) := by decide +kernel
theorem dX10_isSame_6 : decode cX10_isSame 6 = .ok (.aload_n 0, 1) := by decide +kernel
theorem dX10_isSame_7 : decode cX10_isSame 7 = .ok (.getfield 16, 3) := by decide +kernel
theorem dX10_isSame_10 : decode cX10_isSame 10 = .ok (.iload_n 2, 1) := by decide +kernel
theorem dX10_isSame_11 : decode cX10_isSame 11 = .ok (.iaload, 1) := by decide +kernel
theorem dX10_isSame_12 : decode cX10_isSame 12 = .ok (.if_icmp .ne 7, 3) := by decide +kernel
theorem dX10_isSame_15 : decode cX10_isSame 15 = .ok (.iconst 1, 1) := by decide +kernel
theorem dX10_isSame_16 : decode cX10_isSame 16 = .ok (.goto 4, 3) := by decide +kernel
theorem dX10_isSame_19 : decode cX10_isSame 19 = .ok (.iconst 0, 1) := by decide +kernel
theorem dX10_isSame_20 : decode cX10_isSame 20 = .ok (.istore_n 3, 1) := by decide +kernel
theorem dX10_isSame_21 : decode cX10_isSame 21 = .ok (.iconst 0, 1) := by decide +kernel
theorem dX10_isSame_22 : decode cX10_isSame 22 = .ok (.istore 4, 2) := by decide +kernel
theorem dX10_isSame_24 : decode cX10_isSame 24 = .ok (.iload 4, 2) := by decide +kernel
theorem dX10_isSame_26 : decode cX10_isSame 26 = .ok (.aload_n 0, 1) := by decide +kernel
theorem dX10_isSame_27 : decode cX10_isSame 27 = .ok (.getfield 16, 3) := by decide +kernel
theorem dX10_isSame_30 : decode cX10_isSame 30 = .ok (.iload_n 1, 1) := by decide +kernel
theorem dX10_isSame_31 : decode cX10_isSame 31 = .ok (.iaload, 1) := by decide +kernel
theorem dX10_isSame_32 : decode cX10_isSame 32 = .ok (.if_icmp .ge 46, 3) := by decide +kernel
theorem dX10_isSame_35 : decode cX10_isSame 35 = .ok (.iload_n 3, 1) := by decide +kernel
theorem dX10_isSame_36 : decode cX10_isSame 36 = .ok (.ifCond .eq 42, 3) := by decide +kernel
theorem dX10_isSame_39 : decode cX10_isSame 39 = .ok (.aload_n 0, 1) := by decide +kernel
theorem dX10_isSame_40 : decode cX10_isSame 40 = .ok (.getfield 13, 3) := by decide +kernel
theorem dX10_isSame_43 : decode cX10_isSame 43 = .ok (.bipush 60, 2) := by decide +kernel
theorem dX10_isSame_45 : decode cX10_isSame 45 = .ok (.iload_n 1, 1) := by decide +kernel
theorem dX10_isSame_46 : decode cX10_isSame 46 = .ok (.imul, 1) := by decide +kernel
theorem dX10_isSame_47 : decode cX10_isSame 47 = .ok (.iload 4, 2) := by decide +kernel
theorem dX10_isSame_49 : decode cX10_isSame 49 = .ok (.iadd, 1) := by decide +kernel
theorem dX10_isSame_50 : decode cX10_isSame 50 = .ok (.iaload, 1) := by decide +kernel
theorem dX10_isSame_51 : decode cX10_isSame 51 = .ok (.aload_n 0, 1) := by decide +kernel
theorem dX10_isSame_52 : decode cX10_isSame 52 = .ok (.getfield 13, 3) := by decide +kernel
theorem dX10_isSame_55 : decode cX10_isSame 55 = .ok (.bipush 60, 2) := by decide +kernel
theorem dX10_isSame_57 : decode cX10_isSame 57 = .ok (.iload_n 2, 1) := by decide +kernel
theorem dX10_isSame_58 : decode cX10_isSame 58 = .ok (.imul, 1) := by decide +kernel
theorem dX10_isSame_59 : decode cX10_isSame 59 = .ok (.iload 4, 2) := by decide +kernel
theorem dX10_isSame_61 : decode cX10_isSame 61 = .ok (.iadd, 1) := by decide +kernel
theorem dX10_isSame_62 : decode cX10_isSame 62 = .ok (.iaload, 1) := by decide +kernel
theorem dX10_isSame_63 : decode cX10_isSame 63 = .ok (.if_icmp .ne 7, 3) := by decide +kernel
theorem dX10_isSame_66 : decode cX10_isSame 66 = .ok (.iconst 1, 1) := by decide +kernel
theorem dX10_isSame_67 : decode cX10_isSame 67 = .ok (.goto 4, 3) := by decide +kernel
theorem dX10_isSame_70 : decode cX10_isSame 70 = .ok (.iconst 0, 1) := by decide +kernel
theorem dX10_isSame_71 : decode cX10_isSame 71 = .ok (.istore_n 3, 1) := by decide +kernel
theorem dX10_isSame_72 : decode cX10_isSame 72 = .ok (.iinc 4 1, 3) := by decide +kernel
theorem dX10_isSame_75 : decode cX10_isSame 75 = .ok (.goto (-51), 3) := by decide +kernel
theorem dX10_isSame_78 : decode cX10_isSame 78 = .ok (.iload_n 3, 1) := by decide +kernel
theorem dX10_isSame_79 : decode cX10_isSame 79 = .ok (.ireturn, 1) := by decide +kernel
