set_option maxRecDepth 20000 in
theorem ggX10_overlaps_X10_goesTo : GoodIn wsX10_overlaps wsX10_goesTo := goodIn_r _ [6, 7, 8, 9, 10, 11, 12, 13, 14, 15, 5, 16, 17, 18, 19, 20, 21, 22, 23, 24, 25, 26, 27, 28, 29, 30, 31, 32, 33, 34, 35, 36, 37, 38, 39, 40, 41, 42, 43, 44, 45, 46, 47, 48, 49, 50, 51, 52, 53, 54, 55] (by decide +kernel) (by decide +kernel)
set_option maxRecDepth 20000 in
theorem gX10_overlaps_X10_goesTo : GoodIn wsX10_overlaps (wsV RX10 169 RX10 yX10_goesTo wsX10_goesTo) := goodIn_app (goodIn_of _ (by decide +kernel)) ggX10_overlaps_X10_goesTo
theorem dX10_overlaps_0 : decode cX10_overlaps 0 = .ok (.aload_n 0, 1) := by decide +kernel
theorem dX10_overlaps_1 : decode cX10_overlaps 1 = .ok (.ldc 168, 2) := by decide +kernel
theorem dX10_overlaps_3 : decode cX10_overlaps 3 = .ok (.invokevirtual 169, 3) := by decide +kernel
theorem dX10_overlaps_6 : decode cX10_overlaps 6 = .ok (.ireturn, 1) := by decide +kernel
set_option maxRecDepth 20000 in
theorem ggX10_hasOverlap_X10_goesTo : GoodIn wsX10_hasOverlap wsX10_goesTo := goodIn_r _ [6, 7, 8, 9, 1, 10, 11, 12, 13, 14, 5, 15, 16, 17, 18, 19, 20, 21, 22, 23, 24, 25, 26, 27, 28, 29, 30, 31, 32, 33, 34, 35, 36, 37, 38, 39, 40, 41, 42, 43, 44, 45, 46, 47, 48, 49, 50, 51, 52, 53, 54] (by decide +kernel) (by decide +kernel)
set_option maxRecDepth 20000 in
theorem gX10_hasOverlap_X10_goesTo : GoodIn wsX10_hasOverlap (wsV RX10 169 RX10 yX10_goesTo wsX10_goesTo) := goodIn_app (goodIn_of _ (by decide +kernel)) ggX10_hasOverlap_X10_goesTo
theorem dX10_hasOverlap_0 : decode cX10_hasOverlap 0 = .ok (.aload_n 0, 1) := by decide +kernel
theorem dX10_hasOverlap_1 : decode cX10_hasOverlap 1 = .ok (.iconst (-1), 1) := by decide +kernel
theorem dX10_hasOverlap_2 : decode cX10_hasOverlap 2 = .ok (.putfield 159, 3) := by decide +kernel
theorem dX10_hasOverlap_5 : decode cX10_hasOverlap 5 = .ok (.aload_n 0, 1) := by decide +kernel
theorem dX10_hasOverlap_6 : decode cX10_hasOverlap 6 = .ok (.iload_n 1, 1) := by decide +kernel
theorem dX10_hasOverlap_7 : decode cX10_hasOverlap 7 = .ok (.invokevirtual 169, 3) := by decide +kernel
theorem dX10_hasOverlap_10 : decode cX10_hasOverlap 10 = .ok (.pop, 1) := by decide +kernel
theorem dX10_hasOverlap_11 : decode cX10_hasOverlap 11 = .ok (.aload_n 0, 1) := by decide +kernel
theorem dX10_hasOverlap_12 : decode cX10_hasOverlap 12 = .ok (.getfield 159, 3) := by decide +kernel
theorem dX10_hasOverlap_15 : decode cX10_hasOverlap 15 = .ok (.iconst (-1), 1) := by decide +kernel
theorem dX10_hasOverlap_16 : decode cX10_hasOverlap 16 = .ok (.if_icmp .eq 7, 3) := by decide +kernel
theorem dX10_hasOverlap_19 : decode cX10_hasOverlap 19 = .ok (.iconst 1, 1) := by decide +kernel
theorem dX10_hasOverlap_20 : decode cX10_hasOverlap 20 = .ok (.goto 4, 3) := by decide +kernel
theorem dX10_hasOverlap_23 : decode cX10_hasOverlap 23 = .ok (.iconst 0, 1) := by decide +kernel
theorem dX10_hasOverlap_24 : decode cX10_hasOverlap 24 = .ok (.ireturn, 1) := by decide +kernel
set_option maxRecDepth 20000 in
theorem ggX10_overlap_X10_isRow : GoodIn wsX10_overlap wsX10_isRow := goodIn_r _ [7, 8, 9, 6, 10] (by decide +kernel) (by decide +kernel)
set_option maxRecDepth 20000 in
theorem gX10_overlap_X10_isRow : GoodIn wsX10_overlap (va_wsS RX10 63 yX10_isRow wsX10_isRow) := goodIn_app (goodIn_of _ (by decide +kernel)) ggX10_overlap_X10_isRow
set_option maxRecDepth 20000 in
theorem ggX10_overlap_X10_hasOverlap : GoodIn wsX10_overlap wsX10_hasOverlap := goodIn_r _ [14, 1, 15, 16, 17, 6, 18, 19, 20, 21, 2, 3, 22, 23, 24, 25, 26, 27, 28, 29, 30, 31, 32, 33, 34, 35, 36, 37, 38, 39, 40, 41, 42, 47, 48, 49, 50, 51, 52, 53, 54, 55, 56, 57, 58, 59, 60, 61, 62, 63, 64, 65, 66, 67, 68] (by decide +kernel) (by decide +kernel)
set_option maxRecDepth 20000 in
theorem gX10_overlap_X10_hasOverlap : GoodIn wsX10_overlap (wsV RX10 172 RX10 yX10_hasOverlap wsX10_hasOverlap) := goodIn_app (goodIn_of _ (by decide +kernel)) ggX10_overlap_X10_hasOverlap
set_option maxRecDepth 20000 in
theorem ggX10_overlap_X10_copy : GoodIn wsX10_overlap wsX10_copy := goodIn_r _ [46, 20, 21, 47, 48, 49, 50, 51, 52, 53, 54, 55, 56, 57, 58, 59, 60, 61, 62, 63, 64, 65, 66, 67, 68] (by decide +kernel) (by decide +kernel)
set_option maxRecDepth 20000 in
theorem gX10_overlap_X10_copy : GoodIn wsX10_overlap (wsV RX10 95 RX10 yX10_copy wsX10_copy) := goodIn_app (goodIn_of _ (by decide +kernel)) ggX10_overlap_X10_copy
theorem dX10_overlap_0 : decode cX10_overlap 0 = .ok (.iload_n 1, 1) := by decide +kernel
theorem dX10_overlap_1 : decode cX10_overlap 1 = .ok (.ifCond .lt 10, 3) := by decide +kernel
theorem dX10_overlap_4 : decode cX10_overlap 4 = .ok (.iload_n 2, 1) := by decide +kernel
theorem dX10_overlap_5 : decode cX10_overlap 5 = .ok (.invokestatic 63, 3) := by decide +kernel
theorem dX10_overlap_8 : decode cX10_overlap 8 = .ok (.ifCond .ne 6, 3) := by decide +kernel
theorem dX10_overlap_11 : decode cX10_overlap 11 = .ok (.bipush (-2), 2) := by decide +kernel
theorem dX10_overlap_13 : decode cX10_overlap 13 = .ok (.ireturn, 1) := by decide +kernel
theorem dX10_overlap_14 : decode cX10_overlap 14 = .ok (.aload_n 0, 1) := by decide +kernel
theorem dX10_overlap_15 : decode cX10_overlap 15 = .ok (.iload_n 1, 1) := by decide +kernel
theorem dX10_overlap_16 : decode cX10_overlap 16 = .ok (.invokevirtual 172, 3) := by decide +kernel
theorem dX10_overlap_19 : decode cX10_overlap 19 = .ok (.ifCond .ne 5, 3) := by decide +kernel
theorem dX10_overlap_22 : decode cX10_overlap 22 = .ok (.iconst (-1), 1) := by decide +kernel
theorem dX10_overlap_23 : decode cX10_overlap 23 = .ok (.ireturn, 1) := by decide +kernel
theorem dX10_overlap_24 : decode cX10_overlap 24 = .ok (.aload_n 0, 1) := by decide +kernel
theorem dX10_overlap_25 : decode cX10_overlap 25 = .ok (.bipush 27, 2) := by decide +kernel
theorem dX10_overlap_27 : decode cX10_overlap 27 = .ok (.iload_n 2, 1) := by decide +kernel
theorem dX10_overlap_28 : decode cX10_overlap 28 = .ok (.invokevirtual 95, 3) := by decide +kernel
theorem dX10_overlap_31 : decode cX10_overlap 31 = .ok (.sipush 1000, 3) := by decide +kernel
theorem dX10_overlap_34 : decode cX10_overlap 34 = .ok (.aload_n 0, 1) := by decide +kernel
theorem dX10_overlap_35 : decode cX10_overlap 35 = .ok (.getfield 159, 3) := by decide +kernel
theorem dX10_overlap_38 : decode cX10_overlap 38 = .ok (.imul, 1) := by decide +kernel
theorem dX10_overlap_39 : decode cX10_overlap 39 = .ok (.bipush 100, 2) := by decide +kernel
theorem dX10_overlap_41 : decode cX10_overlap 41 = .ok (.aload_n 0, 1) := by decide +kernel
theorem dX10_overlap_42 : decode cX10_overlap 42 = .ok (.getfield 162, 3) := by decide +kernel
theorem dX10_overlap_45 : decode cX10_overlap 45 = .ok (.imul, 1) := by decide +kernel
theorem dX10_overlap_46 : decode cX10_overlap 46 = .ok (.iadd, 1) := by decide +kernel
theorem dX10_overlap_47 : decode cX10_overlap 47 = .ok (.aload_n 0, 1) := by decide +kernel
theorem dX10_overlap_48 : decode cX10_overlap 48 = .ok (.getfield 165, 3) := by decide +kernel
theorem dX10_overlap_51 : decode cX10_overlap 51 = .ok (.iadd, 1) := by decide +kernel
theorem dX10_overlap_52 : decode cX10_overlap 52 = .ok (.ireturn, 1) := by decide +kernel
set_option maxRecDepth 20000 in
theorem ggX10_comesOf_X10_copy : GoodIn wsX10_comesOf wsX10_copy := goodIn_r _ [5, 6, 7, 47, 48, 49, 50, 51, 52, 53, 54, 55, 56, 57, 58, 59, 60, 61, 62, 63, 64, 65, 66, 67, 68] (by decide +kernel) (by decide +kernel)
set_option maxRecDepth 20000 in
theorem gX10_comesOf_X10_copy : GoodIn wsX10_comesOf (wsV RX10 95 RX10 yX10_copy wsX10_copy) := goodIn_app (goodIn_of _ (by decide +kernel)) ggX10_comesOf_X10_copy
set_option maxRecDepth 20000 in
theorem ggX10_comesOf_X10_lies : GoodIn wsX10_comesOf wsX10_lies := goodIn_r _ [11, 12, 6, 7, 13, 14, 15, 16, 17, 18, 4, 19, 20, 21, 22, 23, 24, 47, 48, 49, 50, 51, 52, 53, 54, 55, 56, 57, 58, 59, 60, 61, 62, 63, 64, 65, 66, 67, 68] (by decide +kernel) (by decide +kernel)
set_option maxRecDepth 20000 in
theorem gX10_comesOf_X10_lies : GoodIn wsX10_comesOf (wsV RX10 120 RX10 yX10_lies wsX10_lies) := goodIn_app (goodIn_of _ (by decide +kernel)) ggX10_comesOf_X10_lies
set_option maxRecDepth 20000 in
theorem ggX10_comesOf_X10_uses : GoodIn wsX10_comesOf wsX10_uses := goodIn_r _ [28, 29, 6, 7, 13, 14, 15, 30, 31, 32, 4, 33, 34, 35, 36, 37, 1, 2, 3, 5, 47, 48, 49, 50, 51, 52, 53, 54, 55, 56, 57, 58, 59, 60, 61, 62, 63, 64, 65, 66, 67, 68] (by decide +kernel) (by decide +kernel)
set_option maxRecDepth 20000 in
theorem gX10_comesOf_X10_uses : GoodIn wsX10_comesOf (wsV RX10 126 RX10 yX10_uses wsX10_uses) := goodIn_app (goodIn_of _ (by decide +kernel)) ggX10_comesOf_X10_uses
set_option maxRecDepth 20000 in
theorem ggX10_comesOf_X10_normals : GoodIn wsX10_comesOf wsX10_normals := goodIn_r _ [41, 42, 43, 44, 4, 45, 6, 46, 8, 9, 10, 11, 12, 7, 13, 14, 15, 16, 17, 18, 19, 20, 21, 22, 23, 24, 25, 26, 27, 28, 29, 30, 31, 32, 33, 34, 35, 36, 37, 1, 2, 3, 5, 47, 48, 49, 50, 51, 52, 53, 54, 55, 56, 57, 58, 59, 60, 61, 62, 63, 64, 65, 66, 67, 68] (by decide +kernel) (by decide +kernel)
set_option maxRecDepth 20000 in
theorem gX10_comesOf_X10_normals : GoodIn wsX10_comesOf (wsV RX10 133 RX10 yX10_normals wsX10_normals) := goodIn_app (goodIn_of _ (by decide +kernel)) ggX10_comesOf_X10_normals
theorem dX10_comesOf_0 : decode cX10_comesOf 0 = .ok (.aload_n 0, 1) := by decide +kernel
theorem dX10_comesOf_1 : decode cX10_comesOf 1 = .ok (.bipush 27, 2) := by decide +kernel
theorem dX10_comesOf_3 : decode cX10_comesOf 3 = .ok (.iload_n 3, 1) := by decide +kernel
theorem dX10_comesOf_4 : decode cX10_comesOf 4 = .ok (.invokevirtual 95, 3) := by decide +kernel
theorem dX10_comesOf_7 : decode cX10_comesOf 7 = .ok (.aload_n 0, 1) := by decide +kernel
theorem dX10_comesOf_8 : decode cX10_comesOf 8 = .ok (.iload_n 1, 1) := by decide +kernel
theorem dX10_comesOf_9 : decode cX10_comesOf 9 = .ok (.iload_n 3, 1) := by decide +kernel
theorem dX10_comesOf_10 : decode cX10_comesOf 10 = .ok (.iload_n 2, 1) := by decide +kernel
theorem dX10_comesOf_11 : decode cX10_comesOf 11 = .ok (.invokevirtual 120, 3) := by decide +kernel
theorem dX10_comesOf_14 : decode cX10_comesOf 14 = .ok (.pop, 1) := by decide +kernel
theorem dX10_comesOf_15 : decode cX10_comesOf 15 = .ok (.aload_n 0, 1) := by decide +kernel
theorem dX10_comesOf_16 : decode cX10_comesOf 16 = .ok (.iload_n 1, 1) := by decide +kernel
theorem dX10_comesOf_17 : decode cX10_comesOf 17 = .ok (.iload_n 3, 1) := by decide +kernel
theorem dX10_comesOf_18 : decode cX10_comesOf 18 = .ok (.iload_n 2, 1) := by decide +kernel
theorem dX10_comesOf_19 : decode cX10_comesOf 19 = .ok (.invokevirtual 126, 3) := by decide +kernel
theorem dX10_comesOf_22 : decode cX10_comesOf 22 = .ok (.istore 4, 2) := by decide +kernel
theorem dX10_comesOf_24 : decode cX10_comesOf 24 = .ok (.iload 4, 2) := by decide +kernel
theorem dX10_comesOf_26 : decode cX10_comesOf 26 = .ok (.iconst 1, 1) := by decide +kernel
theorem dX10_comesOf_27 : decode cX10_comesOf 27 = .ok (.if_icmp .ne 33, 3) := by decide +kernel
theorem dX10_comesOf_30 : decode cX10_comesOf 30 = .ok (.aload_n 0, 1) := by decide +kernel
theorem dX10_comesOf_31 : decode cX10_comesOf 31 = .ok (.iload_n 3, 1) := by decide +kernel
theorem dX10_comesOf_32 : decode cX10_comesOf 32 = .ok (.invokevirtual 133, 3) := by decide +kernel
theorem dX10_comesOf_35 : decode cX10_comesOf 35 = .ok (.istore 5, 2) := by decide +kernel
theorem dX10_comesOf_37 : decode cX10_comesOf 37 = .ok (.iload 5, 2) := by decide +kernel
theorem dX10_comesOf_39 : decode cX10_comesOf 39 = .ok (.bipush (-5), 2) := by decide +kernel
theorem dX10_comesOf_41 : decode cX10_comesOf 41 = .ok (.if_icmp .ne 8, 3) := by decide +kernel
theorem dX10_comesOf_44 : decode cX10_comesOf 44 = .ok (.bipush (-5), 2) := by decide +kernel
theorem dX10_comesOf_46 : decode cX10_comesOf 46 = .ok (.goto 13, 3) := by decide +kernel
theorem dX10_comesOf_49 : decode cX10_comesOf 49 = .ok (.iload 5, 2) := by decide +kernel
theorem dX10_comesOf_51 : decode cX10_comesOf 51 = .ok (.ifCond .ge 7, 3) := by decide +kernel
theorem dX10_comesOf_54 : decode cX10_comesOf 54 = .ok (.iconst 0, 1) := by decide +kernel
theorem dX10_comesOf_55 : decode cX10_comesOf 55 = .ok (.goto 4, 3) := by decide +kernel
theorem dX10_comesOf_58 : decode cX10_comesOf 58 = .ok (.iconst 1, 1) := by decide +kernel
theorem dX10_comesOf_59 : decode cX10_comesOf 59 = .ok (.ireturn, 1) := by decide +kernel
theorem dX10_comesOf_60 : decode cX10_comesOf 60 = .ok (.iload 4, 2) := by decide +kernel
theorem dX10_comesOf_62 : decode cX10_comesOf 62 = .ok (.iconst 2, 1) := by decide +kernel
theorem dX10_comesOf_63 : decode cX10_comesOf 63 = .ok (.if_icmp .ne 7, 3) := by decide +kernel
theorem dX10_comesOf_66 : decode cX10_comesOf 66 = .ok (.iconst 0, 1) := by decide +kernel
theorem dX10_comesOf_67 : decode cX10_comesOf 67 = .ok (.goto 5, 3) := by decide +kernel
theorem dX10_comesOf_70 : decode cX10_comesOf 70 = .ok (.bipush (-5), 2) := by decide +kernel
theorem dX10_comesOf_72 : decode cX10_comesOf 72 = .ok (.ireturn, 1) := by decide +kernel
set_option maxRecDepth 20000 in
theorem ggX10_closes_X10_hasOverlap : GoodIn wsX10_closes wsX10_hasOverlap := goodIn_r _ [12, 1, 13, 14, 15, 11, 16, 17, 2, 5, 6, 7, 18, 19, 20, 21, 22, 23, 24, 25, 26, 27, 28, 29, 30, 31, 32, 33, 34, 35, 36, 37, 38, 68, 69, 70, 71, 72, 73, 74, 75, 76, 77, 78, 79, 80, 81, 82, 83, 84, 85, 86, 87, 88, 89] (by decide +kernel) (by decide +kernel)
set_option maxRecDepth 20000 in
theorem gX10_closes_X10_hasOverlap : GoodIn wsX10_closes (wsV RX10 172 RX10 yX10_hasOverlap wsX10_hasOverlap) := goodIn_app (goodIn_of _ (by decide +kernel)) ggX10_closes_X10_hasOverlap
set_option maxRecDepth 20000 in
theorem ggX10_closes_X10_comesOf : GoodIn wsX10_closes wsX10_comesOf := goodIn_r _ [42, 43, 44, 45, 11, 46, 2, 5, 47, 48, 49, 50, 51, 52, 53, 54, 30, 31, 32, 33, 34, 35, 36, 37, 38, 55, 56, 57, 58, 59, 22, 23, 24, 25, 26, 27, 28, 29, 60, 61, 62, 63, 64, 65, 66, 67, 17, 68, 69, 70, 71, 72, 73, 74, 75, 76, 77, 78, 79, 80, 81, 82, 83, 84, 85, 86, 87, 88, 89] (by decide +kernel) (by decide +kernel)
set_option maxRecDepth 20000 in
theorem gX10_closes_X10_comesOf : GoodIn wsX10_closes (wsV RX10 175 RX10 yX10_comesOf wsX10_comesOf) := goodIn_app (goodIn_of _ (by decide +kernel)) ggX10_closes_X10_comesOf
theorem dX10_closes_0 : decode cX10_closes 0 = .ok (.iconst 0, 1) := by decide +kernel
theorem dX10_closes_1 : decode cX10_closes 1 = .ok (.istore_n 1, 1) := by decide +kernel
theorem dX10_closes_2 : decode cX10_closes 2 = .ok (.aload_n 0, 1) := by decide +kernel
theorem dX10_closes_3 : decode cX10_closes 3 = .ok (.iload_n 1, 1) := by decide +kernel
theorem dX10_closes_4 : decode cX10_closes 4 = .ok (.invokevirtual 172, 3) := by decide +kernel
theorem dX10_closes_7 : decode cX10_closes 7 = .ok (.ifCond .eq 192, 3) := by decide +kernel
theorem dX10_closes_10 : decode cX10_closes 10 = .ok (.aload_n 0, 1) := by decide +kernel
theorem dX10_closes_11 : decode cX10_closes 11 = .ok (.aload_n 0, 1) := by decide +kernel
theorem dX10_closes_12 : decode cX10_closes 12 = .ok (.getfield 159, 3) := by decide +kernel
theorem dX10_closes_15 : decode cX10_closes 15 = .ok (.iconst 0, 1) := by decide +kernel
theorem dX10_closes_16 : decode cX10_closes 16 = .ok (.bipush 26, 2) := by decide +kernel
theorem dX10_closes_18 : decode cX10_closes 18 = .ok (.invokevirtual 175, 3) := by decide +kernel
theorem dX10_closes_21 : decode cX10_closes 21 = .ok (.istore_n 2, 1) := by decide +kernel
theorem dX10_closes_22 : decode cX10_closes 22 = .ok (.aload_n 0, 1) := by decide +kernel
theorem dX10_closes_23 : decode cX10_closes 23 = .ok (.aload_n 0, 1) := by decide +kernel
theorem dX10_closes_24 : decode cX10_closes 24 = .ok (.getfield 16, 3) := by decide +kernel
theorem dX10_closes_27 : decode cX10_closes 27 = .ok (.bipush 26, 2) := by decide +kernel
theorem dX10_closes_29 : decode cX10_closes 29 = .ok (.iaload, 1) := by decide +kernel
theorem dX10_closes_30 : decode cX10_closes 30 = .ok (.putfield 178, 3) := by decide +kernel
theorem dX10_closes_33 : decode cX10_closes 33 = .ok (.iconst 0, 1) := by decide +kernel
theorem dX10_closes_34 : decode cX10_closes 34 = .ok (.istore_n 3, 1) := by decide +kernel
theorem dX10_closes_35 : decode cX10_closes 35 = .ok (.iload_n 3, 1) := by decide +kernel
theorem dX10_closes_36 : decode cX10_closes 36 = .ok (.aload_n 0, 1) := by decide +kernel
theorem dX10_closes_37 : decode cX10_closes 37 = .ok (.getfield 178, 3) := by decide +kernel
theorem dX10_closes_40 : decode cX10_closes 40 = .ok (.if_icmp .ge 25, 3) := by decide +kernel
theorem dX10_closes_43 : decode cX10_closes 43 = .ok (.aload_n 0, 1) := by decide +kernel
theorem dX10_closes_44 : decode cX10_closes 44 = .ok (.getfield 36, 3) := by decide +kernel
theorem dX10_closes_47 : decode cX10_closes 47 = .ok (.iload_n 3, 1) := by decide +kernel
theorem dX10_closes_48 : decode cX10_closes 48 = .ok (.aload_n 0, 1) := by decide +kernel
theorem dX10_closes_49 : decode cX10_closes 49 = .ok (.getfield 13, 3) := by decide +kernel
theorem dX10_closes_52 : decode cX10_closes 52 = .ok (.sipush 1560, 3) := by decide +kernel
theorem dX10_closes_55 : decode cX10_closes 55 = .ok (.iload_n 3, 1) := by decide +kernel
theorem dX10_closes_56 : decode cX10_closes 56 = .ok (.iadd, 1) := by decide +kernel
theorem dX10_closes_57 : decode cX10_closes 57 = .ok (.iaload, 1) := by decide +kernel
theorem dX10_closes_58 : decode cX10_closes 58 = .ok (.iastore, 1) := by decide +kernel
theorem dX10_closes_59 : decode cX10_closes 59 = .ok (.iinc 3 1, 3) := by decide +kernel
theorem dX10_closes_62 : decode cX10_closes 62 = .ok (.goto (-27), 3) := by decide +kernel
theorem dX10_closes_65 : decode cX10_closes 65 = .ok (.iload_n 2, 1) := by decide +kernel
theorem dX10_closes_66 : decode cX10_closes 66 = .ok (.bipush (-5), 2) := by decide +kernel
theorem dX10_closes_68 : decode cX10_closes 68 = .ok (.if_icmp .ne 8, 3) := by decide +kernel
theorem dX10_closes_71 : decode cX10_closes 71 = .ok (.bipush (-5), 2) := by decide +kernel
theorem dX10_closes_73 : decode cX10_closes 73 = .ok (.goto 17, 3) := by decide +kernel
theorem dX10_closes_76 : decode cX10_closes 76 = .ok (.aload_n 0, 1) := by decide +kernel
theorem dX10_closes_77 : decode cX10_closes 77 = .ok (.aload_n 0, 1) := by decide +kernel
theorem dX10_closes_78 : decode cX10_closes 78 = .ok (.getfield 162, 3) := by decide +kernel
theorem dX10_closes_81 : decode cX10_closes 81 = .ok (.aload_n 0, 1) := by decide +kernel
theorem dX10_closes_82 : decode cX10_closes 82 = .ok (.getfield 165, 3) := by decide +kernel
theorem dX10_closes_85 : decode cX10_closes 85 = .ok (.bipush 26, 2) := by decide +kernel
theorem dX10_closes_87 : decode cX10_closes 87 = .ok (.invokevirtual 175, 3) := by decide +kernel
theorem dX10_closes_90 : decode cX10_closes 90 = .ok (.istore_n 3, 1) := by decide +kernel
theorem dX10_closes_91 : decode cX10_closes 91 = .ok (.iload_n 3, 1) := by decide +kernel
theorem dX10_closes_92 : decode cX10_closes 92 = .ok (.bipush (-5), 2) := by decide +kernel
theorem dX10_closes_94 : decode cX10_closes 94 = .ok (.if_icmp .ne 6, 3) := by decide +kernel
theorem dX10_closes_97 : decode cX10_closes 97 = .ok (.bipush (-5), 2) := by decide +kernel
theorem dX10_closes_99 : decode cX10_closes 99 = .ok (.ireturn, 1) := by decide +kernel
theorem dX10_closes_100 : decode cX10_closes 100 = .ok (.iload_n 2, 1) := by decide +kernel
theorem dX10_closes_101 : decode cX10_closes 101 = .ok (.iload_n 3, 1) := by decide +kernel
theorem dX10_closes_102 : decode cX10_closes 102 = .ok (.if_icmp .ne 25, 3) := by decide +kernel
theorem dX10_closes_105 : decode cX10_closes 105 = .ok (.iload_n 2, 1) := by decide +kernel
theorem dX10_closes_106 : decode cX10_closes 106 = .ok (.ifCond .eq 17, 3) := by decide +kernel
theorem dX10_closes_109 : decode cX10_closes 109 = .ok (.aload_n 0, 1) := by decide +kernel
theorem dX10_closes_110 : decode cX10_closes 110 = .ok (.getfield 178, 3) := by decide +kernel
theorem dX10_closes_113 : decode cX10_closes 113 = .ok (.aload_n 0, 1) := by decide +kernel
theorem dX10_closes_114 : decode cX10_closes 114 = .ok (.getfield 16, 3) := by decide +kernel
theorem dX10_closes_117 : decode cX10_closes 117 = .ok (.bipush 26, 2) := by decide +kernel
theorem dX10_closes_119 : decode cX10_closes 119 = .ok (.iaload, 1) := by decide +kernel
theorem dX10_closes_120 : decode cX10_closes 120 = .ok (.if_icmp .ne 7, 3) := by decide +kernel
theorem dX10_closes_123 : decode cX10_closes 123 = .ok (.iconst 1, 1) := by decide +kernel
theorem dX10_closes_124 : decode cX10_closes 124 = .ok (.goto 4, 3) := by decide +kernel
theorem dX10_closes_127 : decode cX10_closes 127 = .ok (.iconst 0, 1) := by decide +kernel
theorem dX10_closes_128 : decode cX10_closes 128 = .ok (.istore 4, 2) := by decide +kernel
theorem dX10_closes_130 : decode cX10_closes 130 = .ok (.iconst 0, 1) := by decide +kernel
theorem dX10_closes_131 : decode cX10_closes 131 = .ok (.istore 5, 2) := by decide +kernel
theorem dX10_closes_133 : decode cX10_closes 133 = .ok (.iload 5, 2) := by decide +kernel
theorem dX10_closes_135 : decode cX10_closes 135 = .ok (.aload_n 0, 1) := by decide +kernel
theorem dX10_closes_136 : decode cX10_closes 136 = .ok (.getfield 178, 3) := by decide +kernel
theorem dX10_closes_139 : decode cX10_closes 139 = .ok (.if_icmp .ge 47, 3) := by decide +kernel
theorem dX10_closes_142 : decode cX10_closes 142 = .ok (.iload 4, 2) := by decide +kernel
theorem dX10_closes_144 : decode cX10_closes 144 = .ok (.ifCond .eq 42, 3) := by decide +kernel
theorem dX10_closes_147 : decode cX10_closes 147 = .ok (.iload_n 2, 1) := by decide +kernel
theorem dX10_closes_148 : decode cX10_closes 148 = .ok (.iconst 1, 1) := by decide +kernel
theorem dX10_closes_149 : decode cX10_closes 149 = .ok (.if_icmp .ne 37, 3) := by decide +kernel
theorem dX10_closes_152 : decode cX10_closes 152 = .ok (.aload_n 0, 1) := by decide +kernel
theorem dX10_closes_153 : decode cX10_closes 153 = .ok (.getfield 36, 3) := by decide +kernel
theorem dX10_closes_156 : decode cX10_closes 156 = .ok (.iload 5, 2) := by decide +kernel
theorem dX10_closes_158 : decode cX10_closes 158 = .ok (.iaload, 1) := by decide +kernel
theorem dX10_closes_159 : decode cX10_closes 159 = .ok (.aload_n 0, 1) := by decide +kernel
theorem dX10_closes_160 : decode cX10_closes 160 = .ok (.getfield 13, 3) := by decide +kernel
theorem dX10_closes_163 : decode cX10_closes 163 = .ok (.sipush 1560, 3) := by decide +kernel
theorem dX10_closes_166 : decode cX10_closes 166 = .ok (.iload 5, 2) := by decide +kernel
theorem dX10_closes_168 : decode cX10_closes 168 = .ok (.iadd, 1) := by decide +kernel
theorem dX10_closes_169 : decode cX10_closes 169 = .ok (.iaload, 1) := by decide +kernel
theorem dX10_closes_170 : decode cX10_closes 170 = .ok (.if_icmp .ne 7, 3) := by decide +kernel
theorem dX10_closes_173 : decode cX10_closes 173 = .ok (.iconst 1, 1) := by decide +kernel
theorem dX10_closes_174 : decode cX10_closes 174 = .ok (.goto 4, 3) := by decide +kernel
theorem dX10_closes_177 : decode cX10_closes 177 = .ok (.iconst 0, 1) := by decide +kernel
theorem dX10_closes_178 : decode cX10_closes 178 = .ok (.istore 4, 2) := by decide +kernel
theorem dX10_closes_180 : decode cX10_closes 180 = .ok (.iinc 5 1, 3) := by decide +kernel
theorem dX10_closes_183 : decode cX10_closes 183 = .ok (.goto (-50), 3) := by decide +kernel
theorem dX10_closes_186 : decode cX10_closes 186 = .ok (.iload 4, 2) := by decide +kernel
theorem dX10_closes_188 : decode cX10_closes 188 = .ok (.ifCond .ne 5, 3) := by decide +kernel
theorem dX10_closes_191 : decode cX10_closes 191 = .ok (.iload_n 1, 1) := by decide +kernel
theorem dX10_closes_192 : decode cX10_closes 192 = .ok (.ireturn, 1) := by decide +kernel
theorem dX10_closes_193 : decode cX10_closes 193 = .ok (.iinc 1 1, 3) := by decide +kernel
theorem dX10_closes_196 : decode cX10_closes 196 = .ok (.goto (-194), 3) := by decide +kernel
theorem dX10_closes_199 : decode cX10_closes 199 = .ok (.iconst (-1), 1) := by decide +kernel
theorem dX10_closes_200 : decode cX10_closes 200 = .ok (.ireturn, 1) := by decide +kernel
set_option maxRecDepth 20000 in
theorem ggX10_turns_X10_counts : GoodIn wsX10_turns wsX10_counts := goodIn_r _ [8, 9, 3, 10, 11, 12, 7, 13, 14, 15, 16, 17, 18, 19, 20, 21, 22, 23, 24, 25, 26, 27, 28, 29, 30, 31, 32, 33, 34, 35, 36, 37, 38, 39, 40, 41, 42, 43, 44, 45, 46, 47, 48, 49, 50, 51, 52, 53, 54, 55, 56, 57, 58, 59, 60, 61, 62, 63, 64, 65, 66, 67, 68, 69, 70, 71, 72, 73, 74, 75, 76] (by decide +kernel) (by decide +kernel)
set_option maxRecDepth 20000 in
theorem gX10_turns_X10_counts : GoodIn wsX10_turns (wsV RX10 153 RX10 yX10_counts wsX10_counts) := goodIn_app (goodIn_of _ (by decide +kernel)) ggX10_turns_X10_counts
theorem dX10_turns_0 : decode cX10_turns 0 = .ok (.aload_n 0, 1) := by decide +kernel
theorem dX10_turns_1 : decode cX10_turns 1 = .ok (.invokevirtual 153, 3) := by decide +kernel
theorem dX10_turns_4 : decode cX10_turns 4 = .ok (.iconst 0, 1) := by decide +kernel
theorem dX10_turns_5 : decode cX10_turns 5 = .ok (.istore_n 1, 1) := by decide +kernel
theorem dX10_turns_6 : decode cX10_turns 6 = .ok (.iload_n 1, 1) := by decide +kernel
theorem dX10_turns_7 : decode cX10_turns 7 = .ok (.bipush 49, 2) := by decide +kernel
theorem dX10_turns_9 : decode cX10_turns 9 = .ok (.if_icmp .ge 16, 3) := by decide +kernel
theorem dX10_turns_12 : decode cX10_turns 12 = .ok (.aload_n 0, 1) := by decide +kernel
theorem dX10_turns_13 : decode cX10_turns 13 = .ok (.getfield 39, 3) := by decide +kernel
theorem dX10_turns_16 : decode cX10_turns 16 = .ok (.iload_n 1, 1) := by decide +kernel
theorem dX10_turns_17 : decode cX10_turns 17 = .ok (.lconst 0, 1) := by decide +kernel
theorem dX10_turns_18 : decode cX10_turns 18 = .ok (.lastore, 1) := by decide +kernel
theorem dX10_turns_19 : decode cX10_turns 19 = .ok (.iinc 1 1, 3) := by decide +kernel
theorem dX10_turns_22 : decode cX10_turns 22 = .ok (.goto (-16), 3) := by decide +kernel
theorem dX10_turns_25 : decode cX10_turns 25 = .ok (.aload_n 0, 1) := by decide +kernel
theorem dX10_turns_26 : decode cX10_turns 26 = .ok (.getfield 39, 3) := by decide +kernel
theorem dX10_turns_29 : decode cX10_turns 29 = .ok (.iconst 0, 1) := by decide +kernel
theorem dX10_turns_30 : decode cX10_turns 30 = .ok (.lconst 1, 1) := by decide +kernel
theorem dX10_turns_31 : decode cX10_turns 31 = .ok (.lastore, 1) := by decide +kernel
theorem dX10_turns_32 : decode cX10_turns 32 = .ok (.iconst 1, 1) := by decide +kernel
theorem dX10_turns_33 : decode cX10_turns 33 = .ok (.istore_n 1, 1) := by decide +kernel
theorem dX10_turns_34 : decode cX10_turns 34 = .ok (.iload_n 1, 1) := by decide +kernel
theorem dX10_turns_35 : decode cX10_turns 35 = .ok (.bipush 6, 2) := by decide +kernel
theorem dX10_turns_37 : decode cX10_turns 37 = .ok (.if_icmp .gt 133, 3) := by decide +kernel
theorem dX10_turns_40 : decode cX10_turns 40 = .ok (.lconst 0, 1) := by decide +kernel
theorem dX10_turns_41 : decode cX10_turns 41 = .ok (.lstore_n 2, 1) := by decide +kernel
theorem dX10_turns_42 : decode cX10_turns 42 = .ok (.iconst 2, 1) := by decide +kernel
theorem dX10_turns_43 : decode cX10_turns 43 = .ok (.istore 4, 2) := by decide +kernel
theorem dX10_turns_45 : decode cX10_turns 45 = .ok (.iload 4, 2) := by decide +kernel
theorem dX10_turns_47 : decode cX10_turns 47 = .ok (.iload_n 1, 1) := by decide +kernel
theorem dX10_turns_48 : decode cX10_turns 48 = .ok (.if_icmp .gt 84, 3) := by decide +kernel
theorem dX10_turns_51 : decode cX10_turns 51 = .ok (.lconst 0, 1) := by decide +kernel
theorem dX10_turns_52 : decode cX10_turns 52 = .ok (.lstore 5, 2) := by decide +kernel
theorem dX10_turns_54 : decode cX10_turns 54 = .ok (.iconst 1, 1) := by decide +kernel
theorem dX10_turns_55 : decode cX10_turns 55 = .ok (.istore 7, 2) := by decide +kernel
theorem dX10_turns_57 : decode cX10_turns 57 = .ok (.iload 7, 2) := by decide +kernel
theorem dX10_turns_59 : decode cX10_turns 59 = .ok (.iload_n 1, 1) := by decide +kernel
theorem dX10_turns_60 : decode cX10_turns 60 = .ok (.if_icmp .ge 39, 3) := by decide +kernel
theorem dX10_turns_63 : decode cX10_turns 63 = .ok (.lload 5, 2) := by decide +kernel
theorem dX10_turns_65 : decode cX10_turns 65 = .ok (.aload_n 0, 1) := by decide +kernel
theorem dX10_turns_66 : decode cX10_turns 66 = .ok (.getfield 42, 3) := by decide +kernel
theorem dX10_turns_69 : decode cX10_turns 69 = .ok (.iload 7, 2) := by decide +kernel
theorem dX10_turns_71 : decode cX10_turns 71 = .ok (.laload, 1) := by decide +kernel
theorem dX10_turns_72 : decode cX10_turns 72 = .ok (.aload_n 0, 1) := by decide +kernel
theorem dX10_turns_73 : decode cX10_turns 73 = .ok (.getfield 39, 3) := by decide +kernel
theorem dX10_turns_76 : decode cX10_turns 76 = .ok (.bipush 7, 2) := by decide +kernel
theorem dX10_turns_78 : decode cX10_turns 78 = .ok (.iload 4, 2) := by decide +kernel
theorem dX10_turns_80 : decode cX10_turns 80 = .ok (.iconst 1, 1) := by decide +kernel
theorem dX10_turns_81 : decode cX10_turns 81 = .ok (.isub, 1) := by decide +kernel
theorem dX10_turns_82 : decode cX10_turns 82 = .ok (.imul, 1) := by decide +kernel
theorem dX10_turns_83 : decode cX10_turns 83 = .ok (.iload_n 1, 1) := by decide +kernel
theorem dX10_turns_84 : decode cX10_turns 84 = .ok (.iadd, 1) := by decide +kernel
theorem dX10_turns_85 : decode cX10_turns 85 = .ok (.iload 7, 2) := by decide +kernel
theorem dX10_turns_87 : decode cX10_turns 87 = .ok (.isub, 1) := by decide +kernel
theorem dX10_turns_88 : decode cX10_turns 88 = .ok (.laload, 1) := by decide +kernel
theorem dX10_turns_89 : decode cX10_turns 89 = .ok (.lmul, 1) := by decide +kernel
theorem dX10_turns_90 : decode cX10_turns 90 = .ok (.ladd, 1) := by decide +kernel
theorem dX10_turns_91 : decode cX10_turns 91 = .ok (.lstore 5, 2) := by decide +kernel
theorem dX10_turns_93 : decode cX10_turns 93 = .ok (.iinc 7 1, 3) := by decide +kernel
theorem dX10_turns_96 : decode cX10_turns 96 = .ok (.goto (-39), 3) := by decide +kernel
theorem dX10_turns_99 : decode cX10_turns 99 = .ok (.aload_n 0, 1) := by decide +kernel
theorem dX10_turns_100 : decode cX10_turns 100 = .ok (.getfield 39, 3) := by decide +kernel
theorem dX10_turns_103 : decode cX10_turns 103 = .ok (.bipush 7, 2) := by decide +kernel
theorem dX10_turns_105 : decode cX10_turns 105 = .ok (.iload 4, 2) := by decide +kernel
theorem dX10_turns_107 : decode cX10_turns 107 = .ok (.imul, 1) := by decide +kernel
theorem dX10_turns_108 : decode cX10_turns 108 = .ok (.iload_n 1, 1) := by decide +kernel
theorem dX10_turns_109 : decode cX10_turns 109 = .ok (.iadd, 1) := by decide +kernel
theorem dX10_turns_110 : decode cX10_turns 110 = .ok (.lload 5, 2) := by decide +kernel
theorem dX10_turns_112 : decode cX10_turns 112 = .ok (.lastore, 1) := by decide +kernel
theorem dX10_turns_113 : decode cX10_turns 113 = .ok (.lload_n 2, 1) := by decide +kernel
theorem dX10_turns_114 : decode cX10_turns 114 = .ok (.aload_n 0, 1) := by decide +kernel
theorem dX10_turns_115 : decode cX10_turns 115 = .ok (.getfield 23, 3) := by decide +kernel
theorem dX10_turns_118 : decode cX10_turns 118 = .ok (.iload 4, 2) := by decide +kernel
theorem dX10_turns_120 : decode cX10_turns 120 = .ok (.laload, 1) := by decide +kernel
theorem dX10_turns_121 : decode cX10_turns 121 = .ok (.lload 5, 2) := by decide +kernel
theorem dX10_turns_123 : decode cX10_turns 123 = .ok (.lmul, 1) := by decide +kernel
theorem dX10_turns_124 : decode cX10_turns 124 = .ok (.ladd, 1) := by decide +kernel
theorem dX10_turns_125 : decode cX10_turns 125 = .ok (.lstore_n 2, 1) := by decide +kernel
theorem dX10_turns_126 : decode cX10_turns 126 = .ok (.iinc 4 1, 3) := by decide +kernel
theorem dX10_turns_129 : decode cX10_turns 129 = .ok (.goto (-84), 3) := by decide +kernel
theorem dX10_turns_132 : decode cX10_turns 132 = .ok (.aload_n 0, 1) := by decide +kernel
theorem dX10_turns_133 : decode cX10_turns 133 = .ok (.getfield 42, 3) := by decide +kernel
theorem dX10_turns_136 : decode cX10_turns 136 = .ok (.iload_n 1, 1) := by decide +kernel
theorem dX10_turns_137 : decode cX10_turns 137 = .ok (.iload_n 1, 1) := by decide +kernel
theorem dX10_turns_138 : decode cX10_turns 138 = .ok (.iconst 1, 1) := by decide +kernel
theorem dX10_turns_139 : decode cX10_turns 139 = .ok (.if_icmp .ne 7, 3) := by decide +kernel
theorem dX10_turns_142 : decode cX10_turns 142 = .ok (.lconst 1, 1) := by decide +kernel
theorem dX10_turns_143 : decode cX10_turns 143 = .ok (.goto 5, 3) := by decide +kernel
theorem dX10_turns_146 : decode cX10_turns 146 = .ok (.lload_n 2, 1) := by decide +kernel
theorem dX10_turns_147 : decode cX10_turns 147 = .ok (.lneg, 1) := by decide +kernel
theorem dX10_turns_148 : decode cX10_turns 148 = .ok (.lastore, 1) := by decide +kernel
theorem dX10_turns_149 : decode cX10_turns 149 = .ok (.aload_n 0, 1) := by decide +kernel
theorem dX10_turns_150 : decode cX10_turns 150 = .ok (.getfield 39, 3) := by decide +kernel
theorem dX10_turns_153 : decode cX10_turns 153 = .ok (.bipush 7, 2) := by decide +kernel
theorem dX10_turns_155 : decode cX10_turns 155 = .ok (.iload_n 1, 1) := by decide +kernel
theorem dX10_turns_156 : decode cX10_turns 156 = .ok (.iadd, 1) := by decide +kernel
theorem dX10_turns_157 : decode cX10_turns 157 = .ok (.aload_n 0, 1) := by decide +kernel
theorem dX10_turns_158 : decode cX10_turns 158 = .ok (.getfield 42, 3) := by decide +kernel
theorem dX10_turns_161 : decode cX10_turns 161 = .ok (.iload_n 1, 1) := by decide +kernel
theorem dX10_turns_162 : decode cX10_turns 162 = .ok (.laload, 1) := by decide +kernel
theorem dX10_turns_163 : decode cX10_turns 163 = .ok (.lastore, 1) := by decide +kernel
theorem dX10_turns_164 : decode cX10_turns 164 = .ok (.iinc 1 1, 3) := by decide +kernel
theorem dX10_turns_167 : decode cX10_turns 167 = .ok (.goto (-133), 3) := by decide +kernel
theorem dX10_turns_170 : decode cX10_turns 170 = .ok (.return_, 1) := by decide +kernel
set_option maxRecDepth 20000 in
theorem ggX10_turned_X10_in : GoodIn wsX10_turned wsX10_in := goodIn_r _ [6] (by decide +kernel) (by decide +kernel)
set_option maxRecDepth 20000 in
theorem gX10_turned_X10_in : GoodIn wsX10_turned (va_wsS RX10 51 yX10_in wsX10_in) := goodIn_app (goodIn_of _ (by decide +kernel)) ggX10_turned_X10_in
set_option maxRecDepth 20000 in
theorem ggX10_turned_X10_turns : GoodIn wsX10_turned wsX10_turns := goodIn_r _ [10, 11, 2, 12, 13, 14, 15, 5, 16, 17, 18, 19, 20, 21, 22, 23, 24, 25, 26, 27, 28, 29, 30, 31, 32, 33, 34, 35, 36, 37, 38, 39, 40, 41, 42, 43, 44, 45, 46, 47, 48, 49, 50, 51, 52, 53, 54, 55, 56, 57, 58, 59, 60, 61, 62, 63, 64, 65, 66, 67, 68, 69, 70, 71, 72, 73, 74, 75, 76, 77, 78, 79, 80, 81, 82, 83, 84] (by decide +kernel) (by decide +kernel)
set_option maxRecDepth 20000 in
theorem gX10_turned_X10_turns : GoodIn wsX10_turned (wsV RX10 181 RX10 yX10_turns wsX10_turns) := goodIn_app (goodIn_of _ (by decide +kernel)) ggX10_turned_X10_turns
theorem dX10_turned_0 : decode cX10_turned 0 = .ok (.iload_n 1, 1) := by decide +kernel
theorem dX10_turned_1 : decode cX10_turned 1 = .ok (.iconst 1, 1) := by decide +kernel
theorem dX10_turned_2 : decode cX10_turned 2 = .ok (.bipush 6, 2) := by decide +kernel
theorem dX10_turned_4 : decode cX10_turned 4 = .ok (.invokestatic 51, 3) := by decide +kernel
theorem dX10_turned_7 : decode cX10_turned 7 = .ok (.ifCond .ne 7, 3) := by decide +kernel
theorem dX10_turned_10 : decode cX10_turned 10 = .ok (.ldc2_w 151, 3) := by decide +kernel
theorem dX10_turned_13 : decode cX10_turned 13 = .ok (.lreturn, 1) := by decide +kernel
theorem dX10_turned_14 : decode cX10_turned 14 = .ok (.aload_n 0, 1) := by decide +kernel
theorem dX10_turned_15 : decode cX10_turned 15 = .ok (.invokevirtual 181, 3) := by decide +kernel
theorem dX10_turned_18 : decode cX10_turned 18 = .ok (.aload_n 0, 1) := by decide +kernel
theorem dX10_turned_19 : decode cX10_turned 19 = .ok (.getfield 42, 3) := by decide +kernel
theorem dX10_turned_22 : decode cX10_turned 22 = .ok (.iload_n 1, 1) := by decide +kernel
theorem dX10_turned_23 : decode cX10_turned 23 = .ok (.laload, 1) := by decide +kernel
theorem dX10_turned_24 : decode cX10_turned 24 = .ok (.lreturn, 1) := by decide +kernel
theorem dX10_isDual_0 : decode cX10_isDual 0 = .ok (.iconst 1, 1) := by decide +kernel
theorem dX10_isDual_1 : decode cX10_isDual 1 = .ok (.istore_n 1, 1) := by decide +kernel
theorem dX10_isDual_2 : decode cX10_isDual 2 = .ok (.iconst 0, 1) := by decide +kernel
theorem dX10_isDual_3 : decode cX10_isDual 3 = .ok (.istore_n 2, 1) := by decide +kernel
theorem dX10_isDual_4 : decode cX10_isDual 4 = .ok (.iload_n 2, 1) := by decide +kernel
theorem dX10_isDual_5 : decode cX10_isDual 5 = .ok (.aload_n 0, 1) := by decide +kernel
theorem dX10_isDual_6 : decode cX10_isDual 6 = .ok (.getfield 55, 3) := by decide +kernel
theorem dX10_isDual_9 : decode cX10_isDual 9 = .ok (.if_icmp .ge 29, 3) := by decide +kernel
theorem dX10_isDual_12 : decode cX10_isDual 12 = .ok (.iload_n 1, 1) := by decide +kernel
theorem dX10_isDual_13 : decode cX10_isDual 13 = .ok (.ifCond .eq 17, 3) := by decide +kernel
theorem dX10_isDual_16 : decode cX10_isDual 16 = .ok (.aload_n 0, 1) := by decide +kernel
theorem dX10_isDual_17 : decode cX10_isDual 17 = .ok (.getfield 7, 3) := by decide +kernel
theorem dX10_isDual_20 : decode cX10_isDual 20 = .ok (.iload_n 2, 1) := by decide +kernel
theorem dX10_isDual_21 : decode cX10_isDual 21 = .ok (.iaload, 1) := by decide +kernel
theorem dX10_isDual_22 : decode cX10_isDual 22 = .ok (.iconst 2, 1) := by decide +kernel
theorem dX10_isDual_23 : decode cX10_isDual 23 = .ok (.if_icmp .ne 7, 3) := by decide +kernel
theorem dX10_isDual_26 : decode cX10_isDual 26 = .ok (.iconst 1, 1) := by decide +kernel
theorem dX10_isDual_27 : decode cX10_isDual 27 = .ok (.goto 4, 3) := by decide +kernel
theorem dX10_isDual_30 : decode cX10_isDual 30 = .ok (.iconst 0, 1) := by decide +kernel
theorem dX10_isDual_31 : decode cX10_isDual 31 = .ok (.istore_n 1, 1) := by decide +kernel
theorem dX10_isDual_32 : decode cX10_isDual 32 = .ok (.iinc 2 1, 3) := by decide +kernel
theorem dX10_isDual_35 : decode cX10_isDual 35 = .ok (.goto (-31), 3) := by decide +kernel
theorem dX10_isDual_38 : decode cX10_isDual 38 = .ok (.iconst 0, 1) := by decide +kernel
theorem dX10_isDual_39 : decode cX10_isDual 39 = .ok (.istore_n 2, 1) := by decide +kernel
theorem dX10_isDual_40 : decode cX10_isDual 40 = .ok (.iload_n 2, 1) := by decide +kernel
theorem dX10_isDual_41 : decode cX10_isDual 41 = .ok (.aload_n 0, 1) := by decide +kernel
theorem dX10_isDual_42 : decode cX10_isDual 42 = .ok (.getfield 102, 3) := by decide +kernel
theorem dX10_isDual_45 : decode cX10_isDual 45 = .ok (.if_icmp .ge 41, 3) := by decide +kernel
theorem dX10_isDual_48 : decode cX10_isDual 48 = .ok (.iload_n 1, 1) := by decide +kernel
theorem dX10_isDual_49 : decode cX10_isDual 49 = .ok (.ifCond .eq 29, 3) := by decide +kernel
theorem dX10_isDual_52 : decode cX10_isDual 52 = .ok (.aload_n 0, 1) := by decide +kernel
theorem dX10_isDual_53 : decode cX10_isDual 53 = .ok (.getfield 19, 3) := by decide +kernel
theorem dX10_isDual_56 : decode cX10_isDual 56 = .ok (.iload_n 2, 1) := by decide +kernel
theorem dX10_isDual_57 : decode cX10_isDual 57 = .ok (.baload, 1) := by decide +kernel
theorem dX10_isDual_58 : decode cX10_isDual 58 = .ok (.ifCond .eq 20, 3) := by decide +kernel
theorem dX10_isDual_61 : decode cX10_isDual 61 = .ok (.aload_n 0, 1) := by decide +kernel
theorem dX10_isDual_62 : decode cX10_isDual 62 = .ok (.getfield 16, 3) := by decide +kernel
theorem dX10_isDual_65 : decode cX10_isDual 65 = .ok (.bipush 10, 2) := by decide +kernel
theorem dX10_isDual_67 : decode cX10_isDual 67 = .ok (.iload_n 2, 1) := by decide +kernel
theorem dX10_isDual_68 : decode cX10_isDual 68 = .ok (.iadd, 1) := by decide +kernel
theorem dX10_isDual_69 : decode cX10_isDual 69 = .ok (.iaload, 1) := by decide +kernel
theorem dX10_isDual_70 : decode cX10_isDual 70 = .ok (.iconst 5, 1) := by decide +kernel
theorem dX10_isDual_71 : decode cX10_isDual 71 = .ok (.if_icmp .ne 7, 3) := by decide +kernel
theorem dX10_isDual_74 : decode cX10_isDual 74 = .ok (.iconst 1, 1) := by decide +kernel
theorem dX10_isDual_75 : decode cX10_isDual 75 = .ok (.goto 4, 3) := by decide +kernel
theorem dX10_isDual_78 : decode cX10_isDual 78 = .ok (.iconst 0, 1) := by decide +kernel
theorem dX10_isDual_79 : decode cX10_isDual 79 = .ok (.istore_n 1, 1) := by decide +kernel
theorem dX10_isDual_80 : decode cX10_isDual 80 = .ok (.iinc 2 1, 3) := by decide +kernel
theorem dX10_isDual_83 : decode cX10_isDual 83 = .ok (.goto (-43), 3) := by decide +kernel
theorem dX10_isDual_86 : decode cX10_isDual 86 = .ok (.iload_n 1, 1) := by decide +kernel
theorem dX10_isDual_87 : decode cX10_isDual 87 = .ok (.ireturn, 1) := by decide +kernel
theorem dX10_findMay_0 : decode cX10_findMay 0 = .ok (.iconst 0, 1) := by decide +kernel
theorem dX10_findMay_1 : decode cX10_findMay 1 = .ok (.istore_n 1, 1) := by decide +kernel
theorem dX10_findMay_2 : decode cX10_findMay 2 = .ok (.iload_n 1, 1) := by decide +kernel
theorem dX10_findMay_3 : decode cX10_findMay 3 = .ok (.bipush 32, 2) := by decide +kernel
theorem dX10_findMay_5 : decode cX10_findMay 5 = .ok (.if_icmp .ge 16, 3) := by decide +kernel
theorem dX10_findMay_8 : decode cX10_findMay 8 = .ok (.aload_n 0, 1) := by decide +kernel
theorem dX10_findMay_9 : decode cX10_findMay 9 = .ok (.getfield 45, 3) := by decide +kernel
theorem dX10_findMay_12 : decode cX10_findMay 12 = .ok (.iload_n 1, 1) := by decide +kernel
theorem dX10_findMay_13 : decode cX10_findMay 13 = .ok (.iconst 0, 1) := by decide +kernel
theorem dX10_findMay_14 : decode cX10_findMay 14 = .ok (.bastore, 1) := by decide +kernel
theorem dX10_findMay_15 : decode cX10_findMay 15 = .ok (.iinc 1 1, 3) := by decide +kernel
theorem dX10_findMay_18 : decode cX10_findMay 18 = .ok (.goto (-16), 3) := by decide +kernel
theorem dX10_findMay_21 : decode cX10_findMay 21 = .ok (.iconst 0, 1) := by decide +kernel
theorem dX10_findMay_22 : decode cX10_findMay 22 = .ok (.istore_n 1, 1) := by decide +kernel
theorem dX10_findMay_23 : decode cX10_findMay 23 = .ok (.iload_n 1, 1) := by decide +kernel
theorem dX10_findMay_24 : decode cX10_findMay 24 = .ok (.aload_n 0, 1) := by decide +kernel
theorem dX10_findMay_25 : decode cX10_findMay 25 = .ok (.getfield 102, 3) := by decide +kernel
theorem dX10_findMay_28 : decode cX10_findMay 28 = .ok (.if_icmp .ge 88, 3) := by decide +kernel
theorem dX10_findMay_31 : decode cX10_findMay 31 = .ok (.bipush 60, 2) := by decide +kernel
theorem dX10_findMay_33 : decode cX10_findMay 33 = .ok (.bipush 10, 2) := by decide +kernel
theorem dX10_findMay_35 : decode cX10_findMay 35 = .ok (.iload_n 1, 1) := by decide +kernel
theorem dX10_findMay_36 : decode cX10_findMay 36 = .ok (.iadd, 1) := by decide +kernel
theorem dX10_findMay_37 : decode cX10_findMay 37 = .ok (.imul, 1) := by decide +kernel
theorem dX10_findMay_38 : decode cX10_findMay 38 = .ok (.istore_n 2, 1) := by decide +kernel
theorem dX10_findMay_39 : decode cX10_findMay 39 = .ok (.aload_n 0, 1) := by decide +kernel
theorem dX10_findMay_40 : decode cX10_findMay 40 = .ok (.getfield 13, 3) := by decide +kernel
theorem dX10_findMay_43 : decode cX10_findMay 43 = .ok (.iload_n 2, 1) := by decide +kernel
theorem dX10_findMay_44 : decode cX10_findMay 44 = .ok (.iconst 1, 1) := by decide +kernel
theorem dX10_findMay_45 : decode cX10_findMay 45 = .ok (.iadd, 1) := by decide +kernel
theorem dX10_findMay_46 : decode cX10_findMay 46 = .ok (.iaload, 1) := by decide +kernel
theorem dX10_findMay_47 : decode cX10_findMay 47 = .ok (.iconst (-1), 1) := by decide +kernel
theorem dX10_findMay_48 : decode cX10_findMay 48 = .ok (.if_icmp .eq 7, 3) := by decide +kernel
theorem dX10_findMay_51 : decode cX10_findMay 51 = .ok (.iconst 1, 1) := by decide +kernel
theorem dX10_findMay_52 : decode cX10_findMay 52 = .ok (.goto 4, 3) := by decide +kernel
theorem dX10_findMay_55 : decode cX10_findMay 55 = .ok (.iconst 0, 1) := by decide +kernel
theorem dX10_findMay_56 : decode cX10_findMay 56 = .ok (.istore_n 3, 1) := by decide +kernel
theorem dX10_findMay_57 : decode cX10_findMay 57 = .ok (.iload_n 3, 1) := by decide +kernel
theorem dX10_findMay_58 : decode cX10_findMay 58 = .ok (.ifCond .eq 14, 3) := by decide +kernel
theorem dX10_findMay_61 : decode cX10_findMay 61 = .ok (.aload_n 0, 1) := by decide +kernel
theorem dX10_findMay_62 : decode cX10_findMay 62 = .ok (.getfield 13, 3) := by decide +kernel
theorem dX10_findMay_65 : decode cX10_findMay 65 = .ok (.iload_n 2, 1) := by decide +kernel
theorem dX10_findMay_66 : decode cX10_findMay 66 = .ok (.iconst 1, 1) := by decide +kernel
theorem dX10_findMay_67 : decode cX10_findMay 67 = .ok (.iadd, 1) := by decide +kernel
theorem dX10_findMay_68 : decode cX10_findMay 68 = .ok (.iaload, 1) := by decide +kernel
theorem dX10_findMay_69 : decode cX10_findMay 69 = .ok (.goto 11, 3) := by decide +kernel
theorem dX10_findMay_72 : decode cX10_findMay 72 = .ok (.aload_n 0, 1) := by decide +kernel
theorem dX10_findMay_73 : decode cX10_findMay 73 = .ok (.getfield 13, 3) := by decide +kernel
theorem dX10_findMay_76 : decode cX10_findMay 76 = .ok (.iload_n 2, 1) := by decide +kernel
theorem dX10_findMay_77 : decode cX10_findMay 77 = .ok (.iconst 2, 1) := by decide +kernel
theorem dX10_findMay_78 : decode cX10_findMay 78 = .ok (.iadd, 1) := by decide +kernel
theorem dX10_findMay_79 : decode cX10_findMay 79 = .ok (.iaload, 1) := by decide +kernel
theorem dX10_findMay_80 : decode cX10_findMay 80 = .ok (.istore 4, 2) := by decide +kernel
theorem dX10_findMay_82 : decode cX10_findMay 82 = .ok (.aload_n 0, 1) := by decide +kernel
theorem dX10_findMay_83 : decode cX10_findMay 83 = .ok (.getfield 45, 3) := by decide +kernel
theorem dX10_findMay_86 : decode cX10_findMay 86 = .ok (.bipush 8, 2) := by decide +kernel
theorem dX10_findMay_88 : decode cX10_findMay 88 = .ok (.aload_n 0, 1) := by decide +kernel
theorem dX10_findMay_89 : decode cX10_findMay 89 = .ok (.getfield 13, 3) := by decide +kernel
theorem dX10_findMay_92 : decode cX10_findMay 92 = .ok (.iload_n 2, 1) := by decide +kernel
theorem dX10_findMay_93 : decode cX10_findMay 93 = .ok (.iaload, 1) := by decide +kernel
theorem dX10_findMay_94 : decode cX10_findMay 94 = .ok (.imul, 1) := by decide +kernel
theorem dX10_findMay_95 : decode cX10_findMay 95 = .ok (.iload_n 3, 1) := by decide +kernel
theorem dX10_findMay_96 : decode cX10_findMay 96 = .ok (.ifCond .eq 7, 3) := by decide +kernel
theorem dX10_findMay_99 : decode cX10_findMay 99 = .ok (.iconst 0, 1) := by decide +kernel
theorem dX10_findMay_100 : decode cX10_findMay 100 = .ok (.goto 4, 3) := by decide +kernel
theorem dX10_findMay_103 : decode cX10_findMay 103 = .ok (.iconst 4, 1) := by decide +kernel
theorem dX10_findMay_104 : decode cX10_findMay 104 = .ok (.iadd, 1) := by decide +kernel
theorem dX10_findMay_105 : decode cX10_findMay 105 = .ok (.iload 4, 2) := by decide +kernel
theorem dX10_findMay_107 : decode cX10_findMay 107 = .ok (.iadd, 1) := by decide +kernel
theorem dX10_findMay_108 : decode cX10_findMay 108 = .ok (.iconst 1, 1) := by decide +kernel
theorem dX10_findMay_109 : decode cX10_findMay 109 = .ok (.bastore, 1) := by decide +kernel
theorem dX10_findMay_110 : decode cX10_findMay 110 = .ok (.iinc 1 1, 3) := by decide +kernel
theorem dX10_findMay_113 : decode cX10_findMay 113 = .ok (.goto (-90), 3) := by decide +kernel
theorem dX10_findMay_116 : decode cX10_findMay 116 = .ok (.return_, 1) := by decide +kernel
theorem dX10_below_0 : decode cX10_below 0 = .ok (.iload_n 3, 1) := by decide +kernel
theorem dX10_below_1 : decode cX10_below 1 = .ok (.iconst 1, 1) := by decide +kernel
theorem dX10_below_2 : decode cX10_below 2 = .ok (.if_icmp .ne 5, 3) := by decide +kernel
theorem dX10_below_5 : decode cX10_below 5 = .ok (.lconst 1, 1) := by decide +kernel
theorem dX10_below_6 : decode cX10_below 6 = .ok (.lreturn, 1) := by decide +kernel
theorem dX10_below_7 : decode cX10_below 7 = .ok (.lconst 0, 1) := by decide +kernel
theorem dX10_below_8 : decode cX10_below 8 = .ok (.lstore 4, 2) := by decide +kernel
theorem dX10_below_10 : decode cX10_below 10 = .ok (.iconst 0, 1) := by decide +kernel
theorem dX10_below_11 : decode cX10_below 11 = .ok (.istore 6, 2) := by decide +kernel
theorem dX10_below_13 : decode cX10_below 13 = .ok (.iload 6, 2) := by decide +kernel
theorem dX10_below_15 : decode cX10_below 15 = .ok (.aload_n 0, 1) := by decide +kernel
theorem dX10_below_16 : decode cX10_below 16 = .ok (.getfield 55, 3) := by decide +kernel
theorem dX10_below_19 : decode cX10_below 19 = .ok (.if_icmp .ge 49, 3) := by decide +kernel
theorem dX10_below_22 : decode cX10_below 22 = .ok (.lload 4, 2) := by decide +kernel
theorem dX10_below_24 : decode cX10_below 24 = .ok (.aload_n 0, 1) := by decide +kernel
theorem dX10_below_25 : decode cX10_below 25 = .ok (.getfield 45, 3) := by decide +kernel
theorem dX10_below_28 : decode cX10_below 28 = .ok (.bipush 8, 2) := by decide +kernel
theorem dX10_below_30 : decode cX10_below 30 = .ok (.iload_n 1, 1) := by decide +kernel
theorem dX10_below_31 : decode cX10_below 31 = .ok (.imul, 1) := by decide +kernel
theorem dX10_below_32 : decode cX10_below 32 = .ok (.iconst 4, 1) := by decide +kernel
theorem dX10_below_33 : decode cX10_below 33 = .ok (.iload_n 2, 1) := by decide +kernel
theorem dX10_below_34 : decode cX10_below 34 = .ok (.imul, 1) := by decide +kernel
theorem dX10_below_35 : decode cX10_below 35 = .ok (.iadd, 1) := by decide +kernel
theorem dX10_below_36 : decode cX10_below 36 = .ok (.iload 6, 2) := by decide +kernel
theorem dX10_below_38 : decode cX10_below 38 = .ok (.iadd, 1) := by decide +kernel
theorem dX10_below_39 : decode cX10_below 39 = .ok (.baload, 1) := by decide +kernel
theorem dX10_below_40 : decode cX10_below 40 = .ok (.ifCond .eq 18, 3) := by decide +kernel
theorem dX10_below_43 : decode cX10_below 43 = .ok (.aload_n 0, 1) := by decide +kernel
theorem dX10_below_44 : decode cX10_below 44 = .ok (.getfield 48, 3) := by decide +kernel
theorem dX10_below_47 : decode cX10_below 47 = .ok (.bipush 7, 2) := by decide +kernel
theorem dX10_below_49 : decode cX10_below 49 = .ok (.iload 6, 2) := by decide +kernel
theorem dX10_below_51 : decode cX10_below 51 = .ok (.imul, 1) := by decide +kernel
theorem dX10_below_52 : decode cX10_below 52 = .ok (.iload_n 3, 1) := by decide +kernel
theorem dX10_below_53 : decode cX10_below 53 = .ok (.iadd, 1) := by decide +kernel
theorem dX10_below_54 : decode cX10_below 54 = .ok (.laload, 1) := by decide +kernel
theorem dX10_below_55 : decode cX10_below 55 = .ok (.goto 4, 3) := by decide +kernel
theorem dX10_below_58 : decode cX10_below 58 = .ok (.lconst 0, 1) := by decide +kernel
theorem dX10_below_59 : decode cX10_below 59 = .ok (.ladd, 1) := by decide +kernel
theorem dX10_below_60 : decode cX10_below 60 = .ok (.lstore 4, 2) := by decide +kernel
theorem dX10_below_62 : decode cX10_below 62 = .ok (.iinc 6 1, 3) := by decide +kernel
theorem dX10_below_65 : decode cX10_below 65 = .ok (.goto (-52), 3) := by decide +kernel
theorem dX10_below_68 : decode cX10_below 68 = .ok (.lload 4, 2) := by decide +kernel
theorem dX10_below_70 : decode cX10_below 70 = .ok (.lreturn, 1) := by decide +kernel
set_option maxRecDepth 20000 in
theorem ggX10_dual_X10_in : GoodIn wsX10_dual wsX10_in := goodIn_r _ [8] (by decide +kernel) (by decide +kernel)
set_option maxRecDepth 20000 in
theorem gX10_dual_X10_in : GoodIn wsX10_dual (va_wsS RX10 51 yX10_in wsX10_in) := goodIn_app (goodIn_of _ (by decide +kernel)) ggX10_dual_X10_in
set_option maxRecDepth 20000 in
theorem ggX10_dual_X10_isDual : GoodIn wsX10_dual wsX10_isDual := goodIn_r _ [12, 3, 13, 14, 15, 16, 27, 28, 29, 30, 31, 32, 33, 34, 35, 36, 37, 38, 39, 40, 41, 42, 43, 44, 45, 46, 47, 48] (by decide +kernel) (by decide +kernel)
set_option maxRecDepth 20000 in
theorem gX10_dual_X10_isDual : GoodIn wsX10_dual (wsV RX10 184 RX10 yX10_isDual wsX10_isDual) := goodIn_app (goodIn_of _ (by decide +kernel)) ggX10_dual_X10_isDual
set_option maxRecDepth 20000 in
theorem ggX10_dual_X10_findMay : GoodIn wsX10_dual wsX10_findMay := goodIn_r _ [20, 21, 14, 22, 27, 28, 29, 30, 31, 32, 33, 34, 35, 36, 37, 38, 39, 40, 41, 42, 43, 44, 45, 46, 47, 48] (by decide +kernel) (by decide +kernel)
set_option maxRecDepth 20000 in
theorem gX10_dual_X10_findMay : GoodIn wsX10_dual (wsV RX10 189 RX10 yX10_findMay wsX10_findMay) := goodIn_app (goodIn_of _ (by decide +kernel)) ggX10_dual_X10_findMay
set_option maxRecDepth 20000 in
theorem ggX10_dual_X10_below : GoodIn wsX10_dual wsX10_below := goodIn_r _ [26, 3, 21, 4, 27, 28, 29, 30, 31, 32, 33, 34, 35, 36, 37, 38, 39, 40, 41, 42, 43, 44, 45, 46, 47, 48] (by decide +kernel) (by decide +kernel)
set_option maxRecDepth 20000 in
theorem gX10_dual_X10_below : GoodIn wsX10_dual (wsV RX10 192 RX10 yX10_below wsX10_below) := goodIn_app (goodIn_of _ (by decide +kernel)) ggX10_dual_X10_below
theorem dX10_dual_0 : decode cX10_dual 0 = .ok (.iload_n 1, 1) := by decide +kernel
theorem dX10_dual_1 : decode cX10_dual 1 = .ok (.iconst 1, 1) := by decide +kernel
theorem dX10_dual_2 : decode cX10_dual 2 = .ok (.bipush 6, 2) := by decide +kernel
theorem dX10_dual_4 : decode cX10_dual 4 = .ok (.invokestatic 51, 3) := by decide +kernel
theorem dX10_dual_7 : decode cX10_dual 7 = .ok (.ifCond .ne 7, 3) := by decide +kernel
theorem dX10_dual_10 : decode cX10_dual 10 = .ok (.ldc2_w 151, 3) := by decide +kernel
theorem dX10_dual_13 : decode cX10_dual 13 = .ok (.lreturn, 1) := by decide +kernel
theorem dX10_dual_14 : decode cX10_dual 14 = .ok (.aload_n 0, 1) := by decide +kernel
theorem dX10_dual_15 : decode cX10_dual 15 = .ok (.invokevirtual 184, 3) := by decide +kernel
theorem dX10_dual_18 : decode cX10_dual 18 = .ok (.ifCond .ne 7, 3) := by decide +kernel
theorem dX10_dual_21 : decode cX10_dual 21 = .ok (.ldc2_w 187, 3) := by decide +kernel
theorem dX10_dual_24 : decode cX10_dual 24 = .ok (.lreturn, 1) := by decide +kernel
theorem dX10_dual_25 : decode cX10_dual 25 = .ok (.aload_n 0, 1) := by decide +kernel
theorem dX10_dual_26 : decode cX10_dual 26 = .ok (.invokevirtual 189, 3) := by decide +kernel
theorem dX10_dual_29 : decode cX10_dual 29 = .ok (.lconst 1, 1) := by decide +kernel
theorem dX10_dual_30 : decode cX10_dual 30 = .ok (.lstore_n 2, 1) := by decide +kernel
theorem dX10_dual_31 : decode cX10_dual 31 = .ok (.iconst 2, 1) := by decide +kernel
theorem dX10_dual_32 : decode cX10_dual 32 = .ok (.istore 4, 2) := by decide +kernel
theorem dX10_dual_34 : decode cX10_dual 34 = .ok (.iload 4, 2) := by decide +kernel
theorem dX10_dual_36 : decode cX10_dual 36 = .ok (.iload_n 1, 1) := by decide +kernel
theorem dX10_dual_37 : decode cX10_dual 37 = .ok (.if_icmp .gt 95, 3) := by decide +kernel
theorem dX10_dual_40 : decode cX10_dual 40 = .ok (.lconst 0, 1) := by decide +kernel
theorem dX10_dual_41 : decode cX10_dual 41 = .ok (.lstore_n 2, 1) := by decide +kernel
theorem dX10_dual_42 : decode cX10_dual 42 = .ok (.iconst 0, 1) := by decide +kernel
theorem dX10_dual_43 : decode cX10_dual 43 = .ok (.istore 5, 2) := by decide +kernel
theorem dX10_dual_45 : decode cX10_dual 45 = .ok (.iload 5, 2) := by decide +kernel
theorem dX10_dual_47 : decode cX10_dual 47 = .ok (.aload_n 0, 1) := by decide +kernel
theorem dX10_dual_48 : decode cX10_dual 48 = .ok (.getfield 55, 3) := by decide +kernel
theorem dX10_dual_51 : decode cX10_dual 51 = .ok (.if_icmp .ge 75, 3) := by decide +kernel
theorem dX10_dual_54 : decode cX10_dual 54 = .ok (.lconst 0, 1) := by decide +kernel
theorem dX10_dual_55 : decode cX10_dual 55 = .ok (.lstore 6, 2) := by decide +kernel
theorem dX10_dual_57 : decode cX10_dual 57 = .ok (.iconst 1, 1) := by decide +kernel
theorem dX10_dual_58 : decode cX10_dual 58 = .ok (.istore 8, 2) := by decide +kernel
theorem dX10_dual_60 : decode cX10_dual 60 = .ok (.iload 8, 2) := by decide +kernel
theorem dX10_dual_62 : decode cX10_dual 62 = .ok (.iload 4, 2) := by decide +kernel
theorem dX10_dual_64 : decode cX10_dual 64 = .ok (.if_icmp .ge 36, 3) := by decide +kernel
theorem dX10_dual_67 : decode cX10_dual 67 = .ok (.lload 6, 2) := by decide +kernel
theorem dX10_dual_69 : decode cX10_dual 69 = .ok (.aload_n 0, 1) := by decide +kernel
theorem dX10_dual_70 : decode cX10_dual 70 = .ok (.iload 5, 2) := by decide +kernel
theorem dX10_dual_72 : decode cX10_dual 72 = .ok (.iconst 0, 1) := by decide +kernel
theorem dX10_dual_73 : decode cX10_dual 73 = .ok (.iload 8, 2) := by decide +kernel
theorem dX10_dual_75 : decode cX10_dual 75 = .ok (.invokevirtual 192, 3) := by decide +kernel
theorem dX10_dual_78 : decode cX10_dual 78 = .ok (.aload_n 0, 1) := by decide +kernel
theorem dX10_dual_79 : decode cX10_dual 79 = .ok (.iload 5, 2) := by decide +kernel
theorem dX10_dual_81 : decode cX10_dual 81 = .ok (.iconst 1, 1) := by decide +kernel
theorem dX10_dual_82 : decode cX10_dual 82 = .ok (.iload 4, 2) := by decide +kernel
theorem dX10_dual_84 : decode cX10_dual 84 = .ok (.iload 8, 2) := by decide +kernel
theorem dX10_dual_86 : decode cX10_dual 86 = .ok (.isub, 1) := by decide +kernel
theorem dX10_dual_87 : decode cX10_dual 87 = .ok (.invokevirtual 192, 3) := by decide +kernel
theorem dX10_dual_90 : decode cX10_dual 90 = .ok (.lmul, 1) := by decide +kernel
theorem dX10_dual_91 : decode cX10_dual 91 = .ok (.ladd, 1) := by decide +kernel
theorem dX10_dual_92 : decode cX10_dual 92 = .ok (.lstore 6, 2) := by decide +kernel
theorem dX10_dual_94 : decode cX10_dual 94 = .ok (.iinc 8 1, 3) := by decide +kernel
theorem dX10_dual_97 : decode cX10_dual 97 = .ok (.goto (-37), 3) := by decide +kernel
theorem dX10_dual_100 : decode cX10_dual 100 = .ok (.aload_n 0, 1) := by decide +kernel
theorem dX10_dual_101 : decode cX10_dual 101 = .ok (.getfield 48, 3) := by decide +kernel
theorem dX10_dual_104 : decode cX10_dual 104 = .ok (.bipush 7, 2) := by decide +kernel
theorem dX10_dual_106 : decode cX10_dual 106 = .ok (.iload 5, 2) := by decide +kernel
theorem dX10_dual_108 : decode cX10_dual 108 = .ok (.imul, 1) := by decide +kernel
theorem dX10_dual_109 : decode cX10_dual 109 = .ok (.iload 4, 2) := by decide +kernel
theorem dX10_dual_111 : decode cX10_dual 111 = .ok (.iadd, 1) := by decide +kernel
theorem dX10_dual_112 : decode cX10_dual 112 = .ok (.lload 6, 2) := by decide +kernel
theorem dX10_dual_114 : decode cX10_dual 114 = .ok (.lastore, 1) := by decide +kernel
theorem dX10_dual_115 : decode cX10_dual 115 = .ok (.lload_n 2, 1) := by decide +kernel
theorem dX10_dual_116 : decode cX10_dual 116 = .ok (.lload 6, 2) := by decide +kernel
theorem dX10_dual_118 : decode cX10_dual 118 = .ok (.ladd, 1) := by decide +kernel
theorem dX10_dual_119 : decode cX10_dual 119 = .ok (.lstore_n 2, 1) := by decide +kernel
theorem dX10_dual_120 : decode cX10_dual 120 = .ok (.iinc 5 1, 3) := by decide +kernel
theorem dX10_dual_123 : decode cX10_dual 123 = .ok (.goto (-78), 3) := by decide +kernel
theorem dX10_dual_126 : decode cX10_dual 126 = .ok (.iinc 4 1, 3) := by decide +kernel
theorem dX10_dual_129 : decode cX10_dual 129 = .ok (.goto (-95), 3) := by decide +kernel
theorem dX10_dual_132 : decode cX10_dual 132 = .ok (.lload_n 2, 1) := by decide +kernel
theorem dX10_dual_133 : decode cX10_dual 133 = .ok (.lreturn, 1) := by decide +kernel
set_option maxRecDepth 20000 in
theorem ggX10_count_X10_isTree : GoodIn wsX10_count wsX10_isTree := goodIn_r _ [8, 9, 10, 11, 12, 7, 13, 14, 15, 16, 17, 18, 19, 20, 21, 22, 23, 24, 25, 26, 27, 28, 29, 30, 31, 32, 33, 34, 35, 36, 37, 38, 39, 40, 41] (by decide +kernel) (by decide +kernel)
set_option maxRecDepth 20000 in
theorem gX10_count_X10_isTree : GoodIn wsX10_count (wsV RX10 79 RX10 yX10_isTree wsX10_isTree) := goodIn_app (goodIn_of _ (by decide +kernel)) ggX10_count_X10_isTree
theorem dX10_count_0 : decode cX10_count 0 = .ok (.iconst 0, 1) := by decide +kernel
theorem dX10_count_1 : decode cX10_count 1 = .ok (.istore_n 2, 1) := by decide +kernel
theorem dX10_count_2 : decode cX10_count 2 = .ok (.iload_n 1, 1) := by decide +kernel
theorem dX10_count_3 : decode cX10_count 3 = .ok (.tableswitch 106 0 3 #[29, 34, 39, 71], 29) := by decide +kernel
theorem dX10_count_32 : decode cX10_count 32 = .ok (.aload_n 0, 1) := by decide +kernel
theorem dX10_count_33 : decode cX10_count 33 = .ok (.getfield 55, 3) := by decide +kernel
theorem dX10_count_36 : decode cX10_count 36 = .ok (.ireturn, 1) := by decide +kernel
theorem dX10_count_37 : decode cX10_count 37 = .ok (.aload_n 0, 1) := by decide +kernel
theorem dX10_count_38 : decode cX10_count 38 = .ok (.getfield 102, 3) := by decide +kernel
theorem dX10_count_41 : decode cX10_count 41 = .ok (.ireturn, 1) := by decide +kernel
theorem dX10_count_42 : decode cX10_count 42 = .ok (.iconst 0, 1) := by decide +kernel
theorem dX10_count_43 : decode cX10_count 43 = .ok (.istore_n 3, 1) := by decide +kernel
theorem dX10_count_44 : decode cX10_count 44 = .ok (.iload_n 3, 1) := by decide +kernel
theorem dX10_count_45 : decode cX10_count 45 = .ok (.bipush 10, 2) := by decide +kernel
theorem dX10_count_47 : decode cX10_count 47 = .ok (.if_icmp .ge 25, 3) := by decide +kernel
theorem dX10_count_50 : decode cX10_count 50 = .ok (.iload_n 2, 1) := by decide +kernel
theorem dX10_count_51 : decode cX10_count 51 = .ok (.aload_n 0, 1) := by decide +kernel
theorem dX10_count_52 : decode cX10_count 52 = .ok (.iload_n 3, 1) := by decide +kernel
theorem dX10_count_53 : decode cX10_count 53 = .ok (.invokevirtual 79, 3) := by decide +kernel
theorem dX10_count_56 : decode cX10_count 56 = .ok (.ifCond .eq 7, 3) := by decide +kernel
theorem dX10_count_59 : decode cX10_count 59 = .ok (.iconst 1, 1) := by decide +kernel
theorem dX10_count_60 : decode cX10_count 60 = .ok (.goto 4, 3) := by decide +kernel
theorem dX10_count_63 : decode cX10_count 63 = .ok (.iconst 0, 1) := by decide +kernel
theorem dX10_count_64 : decode cX10_count 64 = .ok (.iadd, 1) := by decide +kernel
theorem dX10_count_65 : decode cX10_count 65 = .ok (.istore_n 2, 1) := by decide +kernel
theorem dX10_count_66 : decode cX10_count 66 = .ok (.iinc 3 1, 3) := by decide +kernel
theorem dX10_count_69 : decode cX10_count 69 = .ok (.goto (-25), 3) := by decide +kernel
theorem dX10_count_72 : decode cX10_count 72 = .ok (.iload_n 2, 1) := by decide +kernel
theorem dX10_count_73 : decode cX10_count 73 = .ok (.ireturn, 1) := by decide +kernel
theorem dX10_count_74 : decode cX10_count 74 = .ok (.iconst 0, 1) := by decide +kernel
theorem dX10_count_75 : decode cX10_count 75 = .ok (.istore_n 3, 1) := by decide +kernel
theorem dX10_count_76 : decode cX10_count 76 = .ok (.iload_n 3, 1) := by decide +kernel
theorem dX10_count_77 : decode cX10_count 77 = .ok (.aload_n 0, 1) := by decide +kernel
theorem dX10_count_78 : decode cX10_count 78 = .ok (.getfield 102, 3) := by decide +kernel
theorem dX10_count_81 : decode cX10_count 81 = .ok (.if_icmp .ge 26, 3) := by decide +kernel
theorem dX10_count_84 : decode cX10_count 84 = .ok (.iload_n 2, 1) := by decide +kernel
theorem dX10_count_85 : decode cX10_count 85 = .ok (.aload_n 0, 1) := by decide +kernel
theorem dX10_count_86 : decode cX10_count 86 = .ok (.getfield 19, 3) := by decide +kernel
theorem dX10_count_89 : decode cX10_count 89 = .ok (.iload_n 3, 1) := by decide +kernel
theorem dX10_count_90 : decode cX10_count 90 = .ok (.baload, 1) := by decide +kernel
theorem dX10_count_91 : decode cX10_count 91 = .ok (.ifCond .eq 7, 3) := by decide +kernel
theorem dX10_count_94 : decode cX10_count 94 = .ok (.iconst 1, 1) := by decide +kernel
theorem dX10_count_95 : decode cX10_count 95 = .ok (.goto 4, 3) := by decide +kernel
theorem dX10_count_98 : decode cX10_count 98 = .ok (.iconst 0, 1) := by decide +kernel
theorem dX10_count_99 : decode cX10_count 99 = .ok (.iadd, 1) := by decide +kernel
theorem dX10_count_100 : decode cX10_count 100 = .ok (.istore_n 2, 1) := by decide +kernel
theorem dX10_count_101 : decode cX10_count 101 = .ok (.iinc 3 1, 3) := by decide +kernel
theorem dX10_count_104 : decode cX10_count 104 = .ok (.goto (-28), 3) := by decide +kernel
theorem dX10_count_107 : decode cX10_count 107 = .ok (.iload_n 2, 1) := by decide +kernel
theorem dX10_count_108 : decode cX10_count 108 = .ok (.ireturn, 1) := by decide +kernel
theorem dX10_count_109 : decode cX10_count 109 = .ok (.bipush (-2), 2) := by decide +kernel
theorem dX10_count_111 : decode cX10_count 111 = .ok (.ireturn, 1) := by decide +kernel
theorem dX10_digestRow_0 : decode cX10_digestRow 0 = .ok (.lload_n 1, 1) := by decide +kernel
theorem dX10_digestRow_1 : decode cX10_digestRow 1 = .ok (.lstore 4, 2) := by decide +kernel
theorem dX10_digestRow_3 : decode cX10_digestRow 3 = .ok (.iconst 0, 1) := by decide +kernel
theorem dX10_digestRow_4 : decode cX10_digestRow 4 = .ok (.istore 6, 2) := by decide +kernel
theorem dX10_digestRow_6 : decode cX10_digestRow 6 = .ok (.iload 6, 2) := by decide +kernel
theorem dX10_digestRow_8 : decode cX10_digestRow 8 = .ok (.aload_n 0, 1) := by decide +kernel
theorem dX10_digestRow_9 : decode cX10_digestRow 9 = .ok (.getfield 16, 3) := by decide +kernel
theorem dX10_digestRow_12 : decode cX10_digestRow 12 = .ok (.iload_n 3, 1) := by decide +kernel
theorem dX10_digestRow_13 : decode cX10_digestRow 13 = .ok (.iaload, 1) := by decide +kernel
theorem dX10_digestRow_14 : decode cX10_digestRow 14 = .ok (.if_icmp .ge 31, 3) := by decide +kernel
theorem dX10_digestRow_17 : decode cX10_digestRow 17 = .ok (.ldc2_w 196, 3) := by decide +kernel
theorem dX10_digestRow_20 : decode cX10_digestRow 20 = .ok (.lload 4, 2) := by decide +kernel
theorem dX10_digestRow_22 : decode cX10_digestRow 22 = .ok (.lmul, 1) := by decide +kernel
theorem dX10_digestRow_23 : decode cX10_digestRow 23 = .ok (.aload_n 0, 1) := by decide +kernel
theorem dX10_digestRow_24 : decode cX10_digestRow 24 = .ok (.getfield 13, 3) := by decide +kernel
theorem dX10_digestRow_27 : decode cX10_digestRow 27 = .ok (.bipush 60, 2) := by decide +kernel
theorem dX10_digestRow_29 : decode cX10_digestRow 29 = .ok (.iload_n 3, 1) := by decide +kernel
theorem dX10_digestRow_30 : decode cX10_digestRow 30 = .ok (.imul, 1) := by decide +kernel
theorem dX10_digestRow_31 : decode cX10_digestRow 31 = .ok (.iload 6, 2) := by decide +kernel
theorem dX10_digestRow_33 : decode cX10_digestRow 33 = .ok (.iadd, 1) := by decide +kernel
theorem dX10_digestRow_34 : decode cX10_digestRow 34 = .ok (.iaload, 1) := by decide +kernel
theorem dX10_digestRow_35 : decode cX10_digestRow 35 = .ok (.i2l, 1) := by decide +kernel
theorem dX10_digestRow_36 : decode cX10_digestRow 36 = .ok (.ladd, 1) := by decide +kernel
theorem dX10_digestRow_37 : decode cX10_digestRow 37 = .ok (.lstore 4, 2) := by decide +kernel
theorem dX10_digestRow_39 : decode cX10_digestRow 39 = .ok (.iinc 6 1, 3) := by decide +kernel
theorem dX10_digestRow_42 : decode cX10_digestRow 42 = .ok (.goto (-36), 3) := by decide +kernel
theorem dX10_digestRow_45 : decode cX10_digestRow 45 = .ok (.ldc2_w 196, 3) := by decide +kernel
theorem dX10_digestRow_48 : decode cX10_digestRow 48 = .ok (.lload 4, 2) := by decide +kernel
theorem dX10_digestRow_50 : decode cX10_digestRow 50 = .ok (.lmul, 1) := by decide +kernel
theorem dX10_digestRow_51 : decode cX10_digestRow 51 = .ok (.ldc2_w 198, 3) := by decide +kernel
theorem dX10_digestRow_54 : decode cX10_digestRow 54 = .ok (.ladd, 1) := by decide +kernel
theorem dX10_digestRow_55 : decode cX10_digestRow 55 = .ok (.lreturn, 1) := by decide +kernel
set_option maxRecDepth 20000 in
theorem ggX10_digest_X10_count : GoodIn wsX10_digest wsX10_count := goodIn_r _ [10, 3, 5, 11, 12, 13, 14, 9, 15, 16, 17, 18, 19, 20, 21, 22, 23, 24, 25, 4, 31, 32, 33, 34, 35, 36, 37, 38, 39, 40, 41, 42, 43, 44, 45, 46, 47, 48, 49, 50, 51, 52] (by decide +kernel) (by decide +kernel)
set_option maxRecDepth 20000 in
theorem gX10_digest_X10_count : GoodIn wsX10_digest (wsV RX10 202 RX10 yX10_count wsX10_count) := goodIn_app (goodIn_of _ (by decide +kernel)) ggX10_digest_X10_count
set_option maxRecDepth 20000 in
theorem ggX10_digest_X10_digestRow : GoodIn wsX10_digest wsX10_digestRow := goodIn_r _ [29, 16, 2, 21, 30, 31, 32, 33, 34, 35, 36, 37, 38, 39, 40, 41, 42, 43, 44, 45, 46, 47, 48, 49, 50, 51, 52] (by decide +kernel) (by decide +kernel)
set_option maxRecDepth 20000 in
theorem gX10_digest_X10_digestRow : GoodIn wsX10_digest (wsV RX10 205 RX10 yX10_digestRow wsX10_digestRow) := goodIn_app (goodIn_of _ (by decide +kernel)) ggX10_digest_X10_digestRow
theorem dX10_digest_0 : decode cX10_digest 0 = .ok (.ldc2_w 200, 3) := by decide +kernel
theorem dX10_digest_3 : decode cX10_digest 3 = .ok (.lstore_n 1, 1) := by decide +kernel
theorem dX10_digest_4 : decode cX10_digest 4 = .ok (.iconst 0, 1) := by decide +kernel
theorem dX10_digest_5 : decode cX10_digest 5 = .ok (.istore_n 3, 1) := by decide +kernel
theorem dX10_digest_6 : decode cX10_digest 6 = .ok (.iload_n 3, 1) := by decide +kernel
theorem dX10_digest_7 : decode cX10_digest 7 = .ok (.iconst 4, 1) := by decide +kernel
theorem dX10_digest_8 : decode cX10_digest 8 = .ok (.if_icmp .ge 22, 3) := by decide +kernel
theorem dX10_digest_11 : decode cX10_digest 11 = .ok (.ldc2_w 196, 3) := by decide +kernel
theorem dX10_digest_14 : decode cX10_digest 14 = .ok (.lload_n 1, 1) := by decide +kernel
theorem dX10_digest_15 : decode cX10_digest 15 = .ok (.lmul, 1) := by decide +kernel
theorem dX10_digest_16 : decode cX10_digest 16 = .ok (.aload_n 0, 1) := by decide +kernel
theorem dX10_digest_17 : decode cX10_digest 17 = .ok (.iload_n 3, 1) := by decide +kernel
theorem dX10_digest_18 : decode cX10_digest 18 = .ok (.invokevirtual 202, 3) := by decide +kernel
theorem dX10_digest_21 : decode cX10_digest 21 = .ok (.i2l, 1) := by decide +kernel
theorem dX10_digest_22 : decode cX10_digest 22 = .ok (.ladd, 1) := by decide +kernel
theorem dX10_digest_23 : decode cX10_digest 23 = .ok (.lstore_n 1, 1) := by decide +kernel
theorem dX10_digest_24 : decode cX10_digest 24 = .ok (.iinc 3 1, 3) := by decide +kernel
theorem dX10_digest_27 : decode cX10_digest 27 = .ok (.goto (-21), 3) := by decide +kernel
theorem dX10_digest_30 : decode cX10_digest 30 = .ok (.iconst 0, 1) := by decide +kernel
theorem dX10_digest_31 : decode cX10_digest 31 = .ok (.istore_n 3, 1) := by decide +kernel
theorem dX10_digest_32 : decode cX10_digest 32 = .ok (.iload_n 3, 1) := by decide +kernel
theorem dX10_digest_33 : decode cX10_digest 33 = .ok (.aload_n 0, 1) := by decide +kernel
theorem dX10_digest_34 : decode cX10_digest 34 = .ok (.getfield 55, 3) := by decide +kernel
theorem dX10_digest_37 : decode cX10_digest 37 = .ok (.if_icmp .ge 23, 3) := by decide +kernel
theorem dX10_digest_40 : decode cX10_digest 40 = .ok (.ldc2_w 196, 3) := by decide +kernel
theorem dX10_digest_43 : decode cX10_digest 43 = .ok (.lload_n 1, 1) := by decide +kernel
theorem dX10_digest_44 : decode cX10_digest 44 = .ok (.lmul, 1) := by decide +kernel
theorem dX10_digest_45 : decode cX10_digest 45 = .ok (.aload_n 0, 1) := by decide +kernel
theorem dX10_digest_46 : decode cX10_digest 46 = .ok (.getfield 7, 3) := by decide +kernel
theorem dX10_digest_49 : decode cX10_digest 49 = .ok (.iload_n 3, 1) := by decide +kernel
theorem dX10_digest_50 : decode cX10_digest 50 = .ok (.iaload, 1) := by decide +kernel
theorem dX10_digest_51 : decode cX10_digest 51 = .ok (.i2l, 1) := by decide +kernel
theorem dX10_digest_52 : decode cX10_digest 52 = .ok (.ladd, 1) := by decide +kernel
theorem dX10_digest_53 : decode cX10_digest 53 = .ok (.lstore_n 1, 1) := by decide +kernel
theorem dX10_digest_54 : decode cX10_digest 54 = .ok (.iinc 3 1, 3) := by decide +kernel
theorem dX10_digest_57 : decode cX10_digest 57 = .ok (.goto (-25), 3) := by decide +kernel
theorem dX10_digest_60 : decode cX10_digest 60 = .ok (.iconst 0, 1) := by decide +kernel
theorem dX10_digest_61 : decode cX10_digest 61 = .ok (.istore_n 3, 1) := by decide +kernel
theorem dX10_digest_62 : decode cX10_digest 62 = .ok (.iload_n 3, 1) := by decide +kernel
theorem dX10_digest_63 : decode cX10_digest 63 = .ok (.bipush 10, 2) := by decide +kernel
theorem dX10_digest_65 : decode cX10_digest 65 = .ok (.if_icmp .ge 16, 3) := by decide +kernel
theorem dX10_digest_68 : decode cX10_digest 68 = .ok (.aload_n 0, 1) := by decide +kernel
theorem dX10_digest_69 : decode cX10_digest 69 = .ok (.lload_n 1, 1) := by decide +kernel
theorem dX10_digest_70 : decode cX10_digest 70 = .ok (.iload_n 3, 1) := by decide +kernel
theorem dX10_digest_71 : decode cX10_digest 71 = .ok (.invokevirtual 205, 3) := by decide +kernel
theorem dX10_digest_74 : decode cX10_digest 74 = .ok (.lstore_n 1, 1) := by decide +kernel
theorem dX10_digest_75 : decode cX10_digest 75 = .ok (.iinc 3 1, 3) := by decide +kernel
theorem dX10_digest_78 : decode cX10_digest 78 = .ok (.goto (-16), 3) := by decide +kernel
theorem dX10_digest_81 : decode cX10_digest 81 = .ok (.iconst 0, 1) := by decide +kernel
theorem dX10_digest_82 : decode cX10_digest 82 = .ok (.istore_n 3, 1) := by decide +kernel
theorem dX10_digest_83 : decode cX10_digest 83 = .ok (.iload_n 3, 1) := by decide +kernel
theorem dX10_digest_84 : decode cX10_digest 84 = .ok (.aload_n 0, 1) := by decide +kernel
theorem dX10_digest_85 : decode cX10_digest 85 = .ok (.getfield 102, 3) := by decide +kernel
theorem dX10_digest_88 : decode cX10_digest 88 = .ok (.if_icmp .ge 27, 3) := by decide +kernel
theorem dX10_digest_91 : decode cX10_digest 91 = .ok (.aload_n 0, 1) := by decide +kernel
theorem dX10_digest_92 : decode cX10_digest 92 = .ok (.aload_n 0, 1) := by decide +kernel
theorem dX10_digest_93 : decode cX10_digest 93 = .ok (.lload_n 1, 1) := by decide +kernel
theorem dX10_digest_94 : decode cX10_digest 94 = .ok (.bipush 10, 2) := by decide +kernel
theorem dX10_digest_96 : decode cX10_digest 96 = .ok (.iload_n 3, 1) := by decide +kernel
theorem dX10_digest_97 : decode cX10_digest 97 = .ok (.iadd, 1) := by decide +kernel
theorem dX10_digest_98 : decode cX10_digest 98 = .ok (.invokevirtual 205, 3) := by decide +kernel
theorem dX10_digest_101 : decode cX10_digest 101 = .ok (.bipush 18, 2) := by decide +kernel
theorem dX10_digest_103 : decode cX10_digest 103 = .ok (.iload_n 3, 1) := by decide +kernel
theorem dX10_digest_104 : decode cX10_digest 104 = .ok (.iadd, 1) := by decide +kernel
theorem dX10_digest_105 : decode cX10_digest 105 = .ok (.invokevirtual 205, 3) := by decide +kernel
theorem dX10_digest_108 : decode cX10_digest 108 = .ok (.lstore_n 1, 1) := by decide +kernel
theorem dX10_digest_109 : decode cX10_digest 109 = .ok (.iinc 3 1, 3) := by decide +kernel
theorem dX10_digest_112 : decode cX10_digest 112 = .ok (.goto (-29), 3) := by decide +kernel
theorem dX10_digest_115 : decode cX10_digest 115 = .ok (.lload_n 1, 1) := by decide +kernel
theorem dX10_digest_116 : decode cX10_digest 116 = .ok (.lreturn, 1) := by decide +kernel
theorem dJ9_max_7cf53_0 : decode cJ9_max_7cf53 0 = .ok (.iload_n 0, 1) := by decide +kernel
theorem dJ9_max_7cf53_1 : decode cJ9_max_7cf53 1 = .ok (.iload_n 1, 1) := by decide +kernel
theorem dJ9_max_7cf53_2 : decode cJ9_max_7cf53 2 = .ok (.if_icmp .lt 7, 3) := by decide +kernel
theorem dJ9_max_7cf53_5 : decode cJ9_max_7cf53 5 = .ok (.iload_n 0, 1) := by decide +kernel
theorem dJ9_max_7cf53_6 : decode cJ9_max_7cf53 6 = .ok (.goto 4, 3) := by decide +kernel
theorem dJ9_max_7cf53_9 : decode cJ9_max_7cf53 9 = .ok (.iload_n 1, 1) := by decide +kernel
theorem dJ9_max_7cf53_10 : decode cJ9_max_7cf53 10 = .ok (.ireturn, 1) := by decide +kernel
theorem dJ9_min_7cf53_0 : decode cJ9_min_7cf53 0 = .ok (.iload_n 0, 1) := by decide +kernel
theorem dJ9_min_7cf53_1 : decode cJ9_min_7cf53 1 = .ok (.iload_n 1, 1) := by decide +kernel
theorem dJ9_min_7cf53_2 : decode cJ9_min_7cf53 2 = .ok (.if_icmp .gt 7, 3) := by decide +kernel
theorem dJ9_min_7cf53_5 : decode cJ9_min_7cf53 5 = .ok (.iload_n 0, 1) := by decide +kernel
theorem dJ9_min_7cf53_6 : decode cJ9_min_7cf53 6 = .ok (.goto 4, 3) := by decide +kernel
theorem dJ9_min_7cf53_9 : decode cJ9_min_7cf53 9 = .ok (.iload_n 1, 1) := by decide +kernel
theorem dJ9_min_7cf53_10 : decode cJ9_min_7cf53 10 = .ok (.ireturn, 1) := by decide +kernel
theorem dJ7_copyOf_c38d5_0 : decode cJ7_copyOf_c38d5 0 = .ok (.iload_n 1, 1) := by decide +kernel
theorem dJ7_copyOf_c38d5_1 : decode cJ7_copyOf_c38d5 1 = .ok (.aload_n 0, 1) := by decide +kernel
theorem dJ7_copyOf_c38d5_2 : decode cJ7_copyOf_c38d5 2 = .ok (.arraylength, 1) := by decide +kernel
theorem dJ7_copyOf_c38d5_3 : decode cJ7_copyOf_c38d5 3 = .ok (.if_icmp .ne 11, 3) := by decide +kernel
theorem dJ7_copyOf_c38d5_6 : decode cJ7_copyOf_c38d5 6 = .ok (.aload_n 0, 1) := by decide +kernel
theorem dJ7_copyOf_c38d5_7 : decode cJ7_copyOf_c38d5 7 = .ok (.invokevirtual 319, 3) := by decide +kernel
theorem dJ7_copyOf_c38d5_10 : decode cJ7_copyOf_c38d5 10 = .ok (.checkcast 320, 3) := by decide +kernel
theorem dJ7_copyOf_c38d5_13 : decode cJ7_copyOf_c38d5 13 = .ok (.areturn, 1) := by decide +kernel
theorem dJ7_copyOf_c38d5_14 : decode cJ7_copyOf_c38d5 14 = .ok (.iload_n 1, 1) := by decide +kernel
theorem dJ7_copyOf_c38d5_15 : decode cJ7_copyOf_c38d5 15 = .ok (.newarray .long, 2) := by decide +kernel
theorem dJ7_copyOf_c38d5_17 : decode cJ7_copyOf_c38d5 17 = .ok (.astore_n 2, 1) := by decide +kernel
theorem dJ7_copyOf_c38d5_18 : decode cJ7_copyOf_c38d5 18 = .ok (.aload_n 0, 1) := by decide +kernel
theorem dJ7_copyOf_c38d5_19 : decode cJ7_copyOf_c38d5 19 = .ok (.iconst 0, 1) := by decide +kernel
theorem dJ7_copyOf_c38d5_20 : decode cJ7_copyOf_c38d5 20 = .ok (.aload_n 2, 1) := by decide +kernel
theorem dJ7_copyOf_c38d5_21 : decode cJ7_copyOf_c38d5 21 = .ok (.iconst 0, 1) := by decide +kernel
theorem dJ7_copyOf_c38d5_22 : decode cJ7_copyOf_c38d5 22 = .ok (.aload_n 0, 1) := by decide +kernel
theorem dJ7_copyOf_c38d5_23 : decode cJ7_copyOf_c38d5 23 = .ok (.arraylength, 1) := by decide +kernel
theorem dJ7_copyOf_c38d5_24 : decode cJ7_copyOf_c38d5 24 = .ok (.iload_n 1, 1) := by decide +kernel
theorem dJ7_copyOf_c38d5_25 : decode cJ7_copyOf_c38d5 25 = .ok (.invokestatic 304, 3) := by decide +kernel
theorem dJ7_copyOf_c38d5_28 : decode cJ7_copyOf_c38d5 28 = .ok (.invokestatic 150, 3) := by decide +kernel
theorem dJ7_copyOf_c38d5_31 : decode cJ7_copyOf_c38d5 31 = .ok (.aload_n 2, 1) := by decide +kernel
theorem dJ7_copyOf_c38d5_32 : decode cJ7_copyOf_c38d5 32 = .ok (.areturn, 1) := by decide +kernel
