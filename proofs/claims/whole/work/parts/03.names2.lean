set_option maxRecDepth 20000 in
theorem ggX2_normalForm_X2_advance : GoodIn wsX2_normalForm wsX2_advance := goodIn_r _ [5, 6, 7, 8, 9, 10, 11, 12, 13, 14, 15, 16, 17, 18, 19, 20, 21, 22, 23, 24, 25, 26, 27, 28, 29, 4, 30, 31, 32, 33, 34, 35, 36, 37, 38, 39, 40, 41, 42, 43, 44, 45, 46, 47, 48, 49, 50, 51, 52, 53, 54, 55, 56, 57, 58, 59, 60, 61, 62, 63, 64, 65, 66, 67, 68, 69, 70, 71, 72, 73, 74, 75, 76, 77] (by decide +kernel) (by decide +kernel)
set_option maxRecDepth 20000 in
theorem gX2_normalForm_X2_advance : GoodIn wsX2_normalForm (wsV RX2 68 RX2 yX2_advance wsX2_advance) := goodIn_app (goodIn_of _ (by decide +kernel)) ggX2_normalForm_X2_advance
theorem dX2_normalForm_0 : decode cX2_normalForm 0 = .ok (.iconst 0, 1) := by decide +kernel
theorem dX2_normalForm_1 : decode cX2_normalForm 1 = .ok (.istore_n 3, 1) := by decide +kernel
theorem dX2_normalForm_2 : decode cX2_normalForm 2 = .ok (.iload_n 3, 1) := by decide +kernel
theorem dX2_normalForm_3 : decode cX2_normalForm 3 = .ok (.sipush 200, 3) := by decide +kernel
theorem dX2_normalForm_6 : decode cX2_normalForm 6 = .ok (.if_icmp .gt 54, 3) := by decide +kernel
theorem dX2_normalForm_9 : decode cX2_normalForm 9 = .ok (.aload_n 0, 1) := by decide +kernel
theorem dX2_normalForm_10 : decode cX2_normalForm 10 = .ok (.aload_n 1, 1) := by decide +kernel
theorem dX2_normalForm_11 : decode cX2_normalForm 11 = .ok (.aload_n 2, 1) := by decide +kernel
theorem dX2_normalForm_12 : decode cX2_normalForm 12 = .ok (.invokevirtual 68, 3) := by decide +kernel
theorem dX2_normalForm_15 : decode cX2_normalForm 15 = .ok (.istore 4, 2) := by decide +kernel
theorem dX2_normalForm_17 : decode cX2_normalForm 17 = .ok (.iload 4, 2) := by decide +kernel
theorem dX2_normalForm_19 : decode cX2_normalForm 19 = .ok (.ifCond .ne 5, 3) := by decide +kernel
theorem dX2_normalForm_22 : decode cX2_normalForm 22 = .ok (.iload_n 3, 1) := by decide +kernel
theorem dX2_normalForm_23 : decode cX2_normalForm 23 = .ok (.ireturn, 1) := by decide +kernel
theorem dX2_normalForm_24 : decode cX2_normalForm 24 = .ok (.iload 4, 2) := by decide +kernel
theorem dX2_normalForm_26 : decode cX2_normalForm 26 = .ok (.bipush (-5), 2) := by decide +kernel
theorem dX2_normalForm_28 : decode cX2_normalForm 28 = .ok (.if_icmp .eq 10, 3) := by decide +kernel
theorem dX2_normalForm_31 : decode cX2_normalForm 31 = .ok (.iload_n 3, 1) := by decide +kernel
theorem dX2_normalForm_32 : decode cX2_normalForm 32 = .ok (.sipush 200, 3) := by decide +kernel
theorem dX2_normalForm_35 : decode cX2_normalForm 35 = .ok (.if_icmp .ne 6, 3) := by decide +kernel
theorem dX2_normalForm_38 : decode cX2_normalForm 38 = .ok (.bipush (-5), 2) := by decide +kernel
theorem dX2_normalForm_40 : decode cX2_normalForm 40 = .ok (.ireturn, 1) := by decide +kernel
theorem dX2_normalForm_41 : decode cX2_normalForm 41 = .ok (.iload 4, 2) := by decide +kernel
theorem dX2_normalForm_43 : decode cX2_normalForm 43 = .ok (.iconst 2, 1) := by decide +kernel
theorem dX2_normalForm_44 : decode cX2_normalForm 44 = .ok (.if_icmp .ne 10, 3) := by decide +kernel
theorem dX2_normalForm_47 : decode cX2_normalForm 47 = .ok (.bipush (-10), 2) := by decide +kernel
theorem dX2_normalForm_49 : decode cX2_normalForm 49 = .ok (.iload_n 3, 1) := by decide +kernel
theorem dX2_normalForm_50 : decode cX2_normalForm 50 = .ok (.isub, 1) := by decide +kernel
theorem dX2_normalForm_51 : decode cX2_normalForm 51 = .ok (.iconst 1, 1) := by decide +kernel
theorem dX2_normalForm_52 : decode cX2_normalForm 52 = .ok (.isub, 1) := by decide +kernel
theorem dX2_normalForm_53 : decode cX2_normalForm 53 = .ok (.ireturn, 1) := by decide +kernel
theorem dX2_normalForm_54 : decode cX2_normalForm 54 = .ok (.iinc 3 1, 3) := by decide +kernel
theorem dX2_normalForm_57 : decode cX2_normalForm 57 = .ok (.goto (-55), 3) := by decide +kernel
theorem dX2_normalForm_60 : decode cX2_normalForm 60 = .ok (.bipush (-5), 2) := by decide +kernel
theorem dX2_normalForm_62 : decode cX2_normalForm 62 = .ok (.ireturn, 1) := by decide +kernel
set_option maxRecDepth 20000 in
theorem ggX2_meet_X3_become : GoodIn wsX2_meet wsX3_become := goodIn_r _ [11, 12, 13, 14, 15, 16, 17, 96, 97] (by decide +kernel) (by decide +kernel)
set_option maxRecDepth 20000 in
theorem gX2_meet_X3_become : GoodIn wsX2_meet (wsV RX2 77 RX3 yX3_become wsX3_become) := goodIn_app (goodIn_of _ (by decide +kernel)) ggX2_meet_X3_become
set_option maxRecDepth 20000 in
theorem ggX2_meet_X2_goDown : GoodIn wsX2_meet wsX2_goDown := goodIn_r _ [22, 23, 24, 25, 26, 27, 28, 29, 30, 31, 32, 33, 34, 35, 36, 37, 38, 39, 40, 41, 42, 43, 44, 45, 46, 47, 48, 21, 49, 50, 51, 52, 53, 54, 55, 56, 57, 58, 59, 60, 61, 62, 63, 10, 64, 13, 65, 66, 67, 68, 12, 14, 15, 16, 17, 69, 70, 71, 72, 7, 8, 9, 11, 73, 74, 75, 76, 77, 78, 79, 80, 81, 86, 87, 88, 89, 90, 98, 99, 100, 101, 102, 103, 104, 96, 97, 105] (by decide +kernel) (by decide +kernel)
set_option maxRecDepth 20000 in
theorem gX2_meet_X2_goDown : GoodIn wsX2_meet (wsV RX2 84 RX2 yX2_goDown wsX2_goDown) := goodIn_app (goodIn_of _ (by decide +kernel)) ggX2_meet_X2_goDown
set_option maxRecDepth 20000 in
theorem ggX2_meet_X3_isLike : GoodIn wsX2_meet wsX3_isLike := goodIn_r _ [85, 13, 12, 96, 97] (by decide +kernel) (by decide +kernel)
set_option maxRecDepth 20000 in
theorem gX2_meet_X3_isLike : GoodIn wsX2_meet (wsV RX2 94 RX3 yX3_isLike wsX3_isLike) := goodIn_app (goodIn_of _ (by decide +kernel)) ggX2_meet_X3_isLike
theorem dX2_meet_0 : decode cX2_meet 0 = .ok (.aload_n 0, 1) := by decide +kernel
theorem dX2_meet_1 : decode cX2_meet 1 = .ok (.getfield 29, 3) := by decide +kernel
theorem dX2_meet_4 : decode cX2_meet 4 = .ok (.aload_n 2, 1) := by decide +kernel
theorem dX2_meet_5 : decode cX2_meet 5 = .ok (.getfield 72, 3) := by decide +kernel
theorem dX2_meet_8 : decode cX2_meet 8 = .ok (.invokevirtual 77, 3) := by decide +kernel
theorem dX2_meet_11 : decode cX2_meet 11 = .ok (.aload_n 0, 1) := by decide +kernel
theorem dX2_meet_12 : decode cX2_meet 12 = .ok (.getfield 32, 3) := by decide +kernel
theorem dX2_meet_15 : decode cX2_meet 15 = .ok (.aload_n 2, 1) := by decide +kernel
theorem dX2_meet_16 : decode cX2_meet 16 = .ok (.getfield 72, 3) := by decide +kernel
theorem dX2_meet_19 : decode cX2_meet 19 = .ok (.invokevirtual 77, 3) := by decide +kernel
theorem dX2_meet_22 : decode cX2_meet 22 = .ok (.aload_n 0, 1) := by decide +kernel
theorem dX2_meet_23 : decode cX2_meet 23 = .ok (.aload_n 1, 1) := by decide +kernel
theorem dX2_meet_24 : decode cX2_meet 24 = .ok (.aload_n 2, 1) := by decide +kernel
theorem dX2_meet_25 : decode cX2_meet 25 = .ok (.getfield 81, 3) := by decide +kernel
theorem dX2_meet_28 : decode cX2_meet 28 = .ok (.aload_n 0, 1) := by decide +kernel
theorem dX2_meet_29 : decode cX2_meet 29 = .ok (.getfield 29, 3) := by decide +kernel
theorem dX2_meet_32 : decode cX2_meet 32 = .ok (.iconst 0, 1) := by decide +kernel
theorem dX2_meet_33 : decode cX2_meet 33 = .ok (.invokevirtual 84, 3) := by decide +kernel
theorem dX2_meet_36 : decode cX2_meet 36 = .ok (.istore_n 3, 1) := by decide +kernel
theorem dX2_meet_37 : decode cX2_meet 37 = .ok (.aload_n 0, 1) := by decide +kernel
theorem dX2_meet_38 : decode cX2_meet 38 = .ok (.aload_n 1, 1) := by decide +kernel
theorem dX2_meet_39 : decode cX2_meet 39 = .ok (.aload_n 2, 1) := by decide +kernel
theorem dX2_meet_40 : decode cX2_meet 40 = .ok (.getfield 88, 3) := by decide +kernel
theorem dX2_meet_43 : decode cX2_meet 43 = .ok (.aload_n 0, 1) := by decide +kernel
theorem dX2_meet_44 : decode cX2_meet 44 = .ok (.getfield 32, 3) := by decide +kernel
theorem dX2_meet_47 : decode cX2_meet 47 = .ok (.aload_n 2, 1) := by decide +kernel
theorem dX2_meet_48 : decode cX2_meet 48 = .ok (.getfield 91, 3) := by decide +kernel
theorem dX2_meet_51 : decode cX2_meet 51 = .ok (.invokevirtual 84, 3) := by decide +kernel
theorem dX2_meet_54 : decode cX2_meet 54 = .ok (.istore 4, 2) := by decide +kernel
theorem dX2_meet_56 : decode cX2_meet 56 = .ok (.iload_n 3, 1) := by decide +kernel
theorem dX2_meet_57 : decode cX2_meet 57 = .ok (.bipush (-5), 2) := by decide +kernel
theorem dX2_meet_59 : decode cX2_meet 59 = .ok (.if_icmp .eq 10, 3) := by decide +kernel
theorem dX2_meet_62 : decode cX2_meet 62 = .ok (.iload 4, 2) := by decide +kernel
theorem dX2_meet_64 : decode cX2_meet 64 = .ok (.bipush (-5), 2) := by decide +kernel
theorem dX2_meet_66 : decode cX2_meet 66 = .ok (.if_icmp .ne 6, 3) := by decide +kernel
theorem dX2_meet_69 : decode cX2_meet 69 = .ok (.bipush (-5), 2) := by decide +kernel
theorem dX2_meet_71 : decode cX2_meet 71 = .ok (.ireturn, 1) := by decide +kernel
theorem dX2_meet_72 : decode cX2_meet 72 = .ok (.aload_n 0, 1) := by decide +kernel
theorem dX2_meet_73 : decode cX2_meet 73 = .ok (.getfield 29, 3) := by decide +kernel
theorem dX2_meet_76 : decode cX2_meet 76 = .ok (.aload_n 0, 1) := by decide +kernel
theorem dX2_meet_77 : decode cX2_meet 77 = .ok (.getfield 32, 3) := by decide +kernel
theorem dX2_meet_80 : decode cX2_meet 80 = .ok (.invokevirtual 94, 3) := by decide +kernel
theorem dX2_meet_83 : decode cX2_meet 83 = .ok (.ifCond .eq 7, 3) := by decide +kernel
theorem dX2_meet_86 : decode cX2_meet 86 = .ok (.iconst 1, 1) := by decide +kernel
theorem dX2_meet_87 : decode cX2_meet 87 = .ok (.goto 4, 3) := by decide +kernel
theorem dX2_meet_90 : decode cX2_meet 90 = .ok (.iconst 0, 1) := by decide +kernel
theorem dX2_meet_91 : decode cX2_meet 91 = .ok (.ireturn, 1) := by decide +kernel
set_option maxRecDepth 20000 in
theorem ggX2_goDown_X6_measure : GoodIn wsX2_goDown wsX6_measure := goodIn_r _ [8, 9, 10, 11, 12, 13, 14, 15, 16, 17, 18, 84, 85, 86, 77, 78, 79, 80] (by decide +kernel) (by decide +kernel)
set_option maxRecDepth 20000 in
theorem gX2_goDown_X6_measure : GoodIn wsX2_goDown (wsV RX2 35 RX6 yX6_measure wsX6_measure) := goodIn_app (goodIn_of _ (by decide +kernel)) ggX2_goDown_X6_measure
set_option maxRecDepth 20000 in
theorem ggX2_goDown_X8_isRule : GoodIn wsX2_goDown wsX8_isRule := goodIn_r _ [22, 23, 77, 78, 79, 80] (by decide +kernel) (by decide +kernel)
set_option maxRecDepth 20000 in
theorem gX2_goDown_X8_isRule : GoodIn wsX2_goDown (wsV RX2 98 RX8 yX8_isRule wsX8_isRule) := goodIn_app (goodIn_of _ (by decide +kernel)) ggX2_goDown_X8_isRule
set_option maxRecDepth 20000 in
theorem ggX2_goDown_X2_fits : GoodIn wsX2_goDown wsX2_fits := goodIn_r _ [28, 29, 30, 31, 1, 32, 84, 85, 72, 73, 74, 75, 76, 86] (by decide +kernel) (by decide +kernel)
set_option maxRecDepth 20000 in
theorem gX2_goDown_X2_fits : GoodIn wsX2_goDown (wsV RX2 48 RX2 yX2_fits wsX2_fits) := goodIn_app (goodIn_of _ (by decide +kernel)) ggX2_goDown_X2_fits
set_option maxRecDepth 20000 in
theorem ggX2_goDown_X2_replace : GoodIn wsX2_goDown wsX2_replace := goodIn_r _ [36, 37, 38, 39, 29, 30, 31, 1, 32, 40, 41, 42, 43, 44, 45, 46, 47, 48, 49, 50, 51, 52, 53, 54, 55, 56, 57, 58, 59, 60, 61, 62, 81, 82, 83, 72, 73, 74, 75, 76, 84, 85, 86] (by decide +kernel) (by decide +kernel)
set_option maxRecDepth 20000 in
theorem gX2_goDown_X2_replace : GoodIn wsX2_goDown (wsV RX2 64 RX2 yX2_replace wsX2_replace) := goodIn_app (goodIn_of _ (by decide +kernel)) ggX2_goDown_X2_replace
set_option maxRecDepth 20000 in
theorem ggX2_goDown_X2_normalForm : GoodIn wsX2_goDown wsX2_normalForm := goodIn_r _ [66, 67, 68, 69, 27, 70, 1, 29, 71, 30, 2, 3, 4, 5, 6, 7, 8, 9, 10, 11, 12, 13, 14, 15, 16, 17, 18, 24, 25, 26, 28, 31, 32, 33, 34, 35, 36, 37, 38, 39, 40, 41, 42, 43, 44, 45, 46, 47, 48, 49, 50, 51, 52, 53, 54, 55, 56, 57, 58, 59, 60, 61, 62, 72, 73, 74, 75, 76, 84, 85, 77, 78, 79, 80, 81, 82, 83, 86] (by decide +kernel) (by decide +kernel)
set_option maxRecDepth 20000 in
theorem gX2_goDown_X2_normalForm : GoodIn wsX2_goDown (wsV RX2 102 RX2 yX2_normalForm wsX2_normalForm) := goodIn_app (goodIn_of _ (by decide +kernel)) ggX2_goDown_X2_normalForm
theorem dX2_goDown_0 : decode cX2_goDown 0 = .ok (.aload_n 0, 1) := by decide +kernel
theorem dX2_goDown_1 : decode cX2_goDown 1 = .ok (.getfield 12, 3) := by decide +kernel
theorem dX2_goDown_4 : decode cX2_goDown 4 = .ok (.aload_n 1, 1) := by decide +kernel
theorem dX2_goDown_5 : decode cX2_goDown 5 = .ok (.aload_n 3, 1) := by decide +kernel
theorem dX2_goDown_6 : decode cX2_goDown 6 = .ok (.invokevirtual 35, 3) := by decide +kernel
theorem dX2_goDown_9 : decode cX2_goDown 9 = .ok (.aload_n 1, 1) := by decide +kernel
theorem dX2_goDown_10 : decode cX2_goDown 10 = .ok (.iload_n 2, 1) := by decide +kernel
theorem dX2_goDown_11 : decode cX2_goDown 11 = .ok (.invokevirtual 98, 3) := by decide +kernel
theorem dX2_goDown_14 : decode cX2_goDown 14 = .ok (.ifCond .eq 22, 3) := by decide +kernel
theorem dX2_goDown_17 : decode cX2_goDown 17 = .ok (.aload_n 0, 1) := by decide +kernel
theorem dX2_goDown_18 : decode cX2_goDown 18 = .ok (.aload_n 1, 1) := by decide +kernel
theorem dX2_goDown_19 : decode cX2_goDown 19 = .ok (.getfield 60, 3) := by decide +kernel
theorem dX2_goDown_22 : decode cX2_goDown 22 = .ok (.iload_n 2, 1) := by decide +kernel
theorem dX2_goDown_23 : decode cX2_goDown 23 = .ok (.aaload, 1) := by decide +kernel
theorem dX2_goDown_24 : decode cX2_goDown 24 = .ok (.getfield 43, 3) := by decide +kernel
theorem dX2_goDown_27 : decode cX2_goDown 27 = .ok (.aload_n 3, 1) := by decide +kernel
theorem dX2_goDown_28 : decode cX2_goDown 28 = .ok (.iload 4, 2) := by decide +kernel
theorem dX2_goDown_30 : decode cX2_goDown 30 = .ok (.invokevirtual 48, 3) := by decide +kernel
theorem dX2_goDown_33 : decode cX2_goDown 33 = .ok (.ifCond .ne 6, 3) := by decide +kernel
theorem dX2_goDown_36 : decode cX2_goDown 36 = .ok (.bipush (-5), 2) := by decide +kernel
theorem dX2_goDown_38 : decode cX2_goDown 38 = .ok (.ireturn, 1) := by decide +kernel
theorem dX2_goDown_39 : decode cX2_goDown 39 = .ok (.aload_n 0, 1) := by decide +kernel
theorem dX2_goDown_40 : decode cX2_goDown 40 = .ok (.aload_n 1, 1) := by decide +kernel
theorem dX2_goDown_41 : decode cX2_goDown 41 = .ok (.getfield 60, 3) := by decide +kernel
theorem dX2_goDown_44 : decode cX2_goDown 44 = .ok (.iload_n 2, 1) := by decide +kernel
theorem dX2_goDown_45 : decode cX2_goDown 45 = .ok (.aaload, 1) := by decide +kernel
theorem dX2_goDown_46 : decode cX2_goDown 46 = .ok (.aload_n 3, 1) := by decide +kernel
theorem dX2_goDown_47 : decode cX2_goDown 47 = .ok (.iload 4, 2) := by decide +kernel
theorem dX2_goDown_49 : decode cX2_goDown 49 = .ok (.invokevirtual 64, 3) := by decide +kernel
theorem dX2_goDown_52 : decode cX2_goDown 52 = .ok (.istore 5, 2) := by decide +kernel
theorem dX2_goDown_54 : decode cX2_goDown 54 = .ok (.iload 5, 2) := by decide +kernel
theorem dX2_goDown_56 : decode cX2_goDown 56 = .ok (.iconst 1, 1) := by decide +kernel
theorem dX2_goDown_57 : decode cX2_goDown 57 = .ok (.if_icmp .ne 12, 3) := by decide +kernel
theorem dX2_goDown_60 : decode cX2_goDown 60 = .ok (.aload_n 0, 1) := by decide +kernel
theorem dX2_goDown_61 : decode cX2_goDown 61 = .ok (.aload_n 1, 1) := by decide +kernel
theorem dX2_goDown_62 : decode cX2_goDown 62 = .ok (.aload_n 3, 1) := by decide +kernel
theorem dX2_goDown_63 : decode cX2_goDown 63 = .ok (.invokevirtual 102, 3) := by decide +kernel
theorem dX2_goDown_66 : decode cX2_goDown 66 = .ok (.goto 5, 3) := by decide +kernel
theorem dX2_goDown_69 : decode cX2_goDown 69 = .ok (.iload 5, 2) := by decide +kernel
theorem dX2_goDown_71 : decode cX2_goDown 71 = .ok (.ireturn, 1) := by decide +kernel
theorem dX2_fits_0 : decode cX2_fits 0 = .ok (.iload_n 3, 1) := by decide +kernel
theorem dX2_fits_1 : decode cX2_fits 1 = .ok (.istore 4, 2) := by decide +kernel
theorem dX2_fits_3 : decode cX2_fits 3 = .ok (.iconst 0, 1) := by decide +kernel
theorem dX2_fits_4 : decode cX2_fits 4 = .ok (.istore 5, 2) := by decide +kernel
theorem dX2_fits_6 : decode cX2_fits 6 = .ok (.iconst 0, 1) := by decide +kernel
theorem dX2_fits_7 : decode cX2_fits 7 = .ok (.istore 6, 2) := by decide +kernel
theorem dX2_fits_9 : decode cX2_fits 9 = .ok (.iload 6, 2) := by decide +kernel
theorem dX2_fits_11 : decode cX2_fits 11 = .ok (.aload_n 1, 1) := by decide +kernel
theorem dX2_fits_12 : decode cX2_fits 12 = .ok (.getfield 39, 3) := by decide +kernel
theorem dX2_fits_15 : decode cX2_fits 15 = .ok (.if_icmp .ge 83, 3) := by decide +kernel
theorem dX2_fits_18 : decode cX2_fits 18 = .ok (.iload 4, 2) := by decide +kernel
theorem dX2_fits_20 : decode cX2_fits 20 = .ok (.aload_n 2, 1) := by decide +kernel
theorem dX2_fits_21 : decode cX2_fits 21 = .ok (.getfield 39, 3) := by decide +kernel
theorem dX2_fits_24 : decode cX2_fits 24 = .ok (.if_icmp .lt 5, 3) := by decide +kernel
theorem dX2_fits_27 : decode cX2_fits 27 = .ok (.iconst 0, 1) := by decide +kernel
theorem dX2_fits_28 : decode cX2_fits 28 = .ok (.ireturn, 1) := by decide +kernel
theorem dX2_fits_29 : decode cX2_fits 29 = .ok (.aload_n 1, 1) := by decide +kernel
theorem dX2_fits_30 : decode cX2_fits 30 = .ok (.getfield 57, 3) := by decide +kernel
theorem dX2_fits_33 : decode cX2_fits 33 = .ok (.iload 6, 2) := by decide +kernel
theorem dX2_fits_35 : decode cX2_fits 35 = .ok (.iaload, 1) := by decide +kernel
theorem dX2_fits_36 : decode cX2_fits 36 = .ok (.iconst (-1), 1) := by decide +kernel
theorem dX2_fits_37 : decode cX2_fits 37 = .ok (.if_icmp .ne 30, 3) := by decide +kernel
theorem dX2_fits_40 : decode cX2_fits 40 = .ok (.aload_n 0, 1) := by decide +kernel
theorem dX2_fits_41 : decode cX2_fits 41 = .ok (.getfield 18, 3) := by decide +kernel
theorem dX2_fits_44 : decode cX2_fits 44 = .ok (.iload 5, 2) := by decide +kernel
theorem dX2_fits_46 : decode cX2_fits 46 = .ok (.iload 4, 2) := by decide +kernel
theorem dX2_fits_48 : decode cX2_fits 48 = .ok (.iastore, 1) := by decide +kernel
theorem dX2_fits_49 : decode cX2_fits 49 = .ok (.iinc 5 1, 3) := by decide +kernel
theorem dX2_fits_52 : decode cX2_fits 52 = .ok (.aload_n 0, 1) := by decide +kernel
theorem dX2_fits_53 : decode cX2_fits 53 = .ok (.getfield 12, 3) := by decide +kernel
theorem dX2_fits_56 : decode cX2_fits 56 = .ok (.getfield 105, 3) := by decide +kernel
theorem dX2_fits_59 : decode cX2_fits 59 = .ok (.iload 4, 2) := by decide +kernel
theorem dX2_fits_61 : decode cX2_fits 61 = .ok (.iaload, 1) := by decide +kernel
theorem dX2_fits_62 : decode cX2_fits 62 = .ok (.istore 4, 2) := by decide +kernel
theorem dX2_fits_64 : decode cX2_fits 64 = .ok (.goto 28, 3) := by decide +kernel
theorem dX2_fits_67 : decode cX2_fits 67 = .ok (.aload_n 1, 1) := by decide +kernel
theorem dX2_fits_68 : decode cX2_fits 68 = .ok (.getfield 57, 3) := by decide +kernel
theorem dX2_fits_71 : decode cX2_fits 71 = .ok (.iload 6, 2) := by decide +kernel
theorem dX2_fits_73 : decode cX2_fits 73 = .ok (.iaload, 1) := by decide +kernel
theorem dX2_fits_74 : decode cX2_fits 74 = .ok (.aload_n 2, 1) := by decide +kernel
theorem dX2_fits_75 : decode cX2_fits 75 = .ok (.getfield 57, 3) := by decide +kernel
theorem dX2_fits_78 : decode cX2_fits 78 = .ok (.iload 4, 2) := by decide +kernel
theorem dX2_fits_80 : decode cX2_fits 80 = .ok (.iaload, 1) := by decide +kernel
theorem dX2_fits_81 : decode cX2_fits 81 = .ok (.if_icmp .ne 9, 3) := by decide +kernel
theorem dX2_fits_84 : decode cX2_fits 84 = .ok (.iinc 4 1, 3) := by decide +kernel
theorem dX2_fits_87 : decode cX2_fits 87 = .ok (.goto 5, 3) := by decide +kernel
theorem dX2_fits_90 : decode cX2_fits 90 = .ok (.iconst 0, 1) := by decide +kernel
theorem dX2_fits_91 : decode cX2_fits 91 = .ok (.ireturn, 1) := by decide +kernel
theorem dX2_fits_92 : decode cX2_fits 92 = .ok (.iinc 6 1, 3) := by decide +kernel
theorem dX2_fits_95 : decode cX2_fits 95 = .ok (.goto (-86), 3) := by decide +kernel
theorem dX2_fits_98 : decode cX2_fits 98 = .ok (.iconst 1, 1) := by decide +kernel
theorem dX2_fits_99 : decode cX2_fits 99 = .ok (.ireturn, 1) := by decide +kernel
set_option maxRecDepth 20000 in
theorem ggX2_replace_X3_clear : GoodIn wsX2_replace wsX3_clear := goodIn_r _ [13, 14, 40, 41] (by decide +kernel) (by decide +kernel)
set_option maxRecDepth 20000 in
theorem gX2_replace_X3_clear : GoodIn wsX2_replace (wsV RX2 112 RX3 yX3_clear wsX3_clear) := goodIn_app (goodIn_of _ (by decide +kernel)) ggX2_replace_X3_clear
set_option maxRecDepth 20000 in
theorem ggX2_replace_X3_addPart : GoodIn wsX2_replace wsX3_addPart := goodIn_r _ [18, 14, 19, 20, 21, 22, 23, 40, 41] (by decide +kernel) (by decide +kernel)
set_option maxRecDepth 20000 in
theorem gX2_replace_X3_addPart : GoodIn wsX2_replace (wsV RX2 115 RX3 yX3_addPart wsX3_addPart) := goodIn_app (goodIn_of _ (by decide +kernel)) ggX2_replace_X3_addPart
set_option maxRecDepth 20000 in
theorem ggX2_replace_X3_add : GoodIn wsX2_replace wsX3_add := goodIn_r _ [27, 14, 19, 40, 41] (by decide +kernel) (by decide +kernel)
set_option maxRecDepth 20000 in
theorem gX2_replace_X3_add : GoodIn wsX2_replace (wsV RX2 122 RX3 yX3_add wsX3_add) := goodIn_app (goodIn_of _ (by decide +kernel)) ggX2_replace_X3_add
set_option maxRecDepth 20000 in
theorem ggX2_replace_X3_become : GoodIn wsX2_replace wsX3_become := goodIn_r _ [31, 19, 14, 20, 21, 22, 23, 40, 41] (by decide +kernel) (by decide +kernel)
set_option maxRecDepth 20000 in
theorem gX2_replace_X3_become : GoodIn wsX2_replace (wsV RX2 77 RX3 yX3_become wsX3_become) := goodIn_app (goodIn_of _ (by decide +kernel)) ggX2_replace_X3_become
theorem dX2_replace_0 : decode cX2_replace 0 = .ok (.aload_n 1, 1) := by decide +kernel
theorem dX2_replace_1 : decode cX2_replace 1 = .ok (.getfield 108, 3) := by decide +kernel
theorem dX2_replace_4 : decode cX2_replace 4 = .ok (.ifCond .eq 9, 3) := by decide +kernel
theorem dX2_replace_7 : decode cX2_replace 7 = .ok (.aload_n 2, 1) := by decide +kernel
theorem dX2_replace_8 : decode cX2_replace 8 = .ok (.invokevirtual 112, 3) := by decide +kernel
theorem dX2_replace_11 : decode cX2_replace 11 = .ok (.iconst 2, 1) := by decide +kernel
theorem dX2_replace_12 : decode cX2_replace 12 = .ok (.ireturn, 1) := by decide +kernel
theorem dX2_replace_13 : decode cX2_replace 13 = .ok (.aload_n 0, 1) := by decide +kernel
theorem dX2_replace_14 : decode cX2_replace 14 = .ok (.getfield 25, 3) := by decide +kernel
theorem dX2_replace_17 : decode cX2_replace 17 = .ok (.invokevirtual 112, 3) := by decide +kernel
theorem dX2_replace_20 : decode cX2_replace 20 = .ok (.aload_n 0, 1) := by decide +kernel
theorem dX2_replace_21 : decode cX2_replace 21 = .ok (.getfield 25, 3) := by decide +kernel
theorem dX2_replace_24 : decode cX2_replace 24 = .ok (.aload_n 2, 1) := by decide +kernel
theorem dX2_replace_25 : decode cX2_replace 25 = .ok (.iconst 0, 1) := by decide +kernel
theorem dX2_replace_26 : decode cX2_replace 26 = .ok (.iload_n 3, 1) := by decide +kernel
theorem dX2_replace_27 : decode cX2_replace 27 = .ok (.invokevirtual 115, 3) := by decide +kernel
theorem dX2_replace_30 : decode cX2_replace 30 = .ok (.istore 4, 2) := by decide +kernel
theorem dX2_replace_32 : decode cX2_replace 32 = .ok (.iconst 0, 1) := by decide +kernel
theorem dX2_replace_33 : decode cX2_replace 33 = .ok (.istore 5, 2) := by decide +kernel
theorem dX2_replace_35 : decode cX2_replace 35 = .ok (.iconst 0, 1) := by decide +kernel
theorem dX2_replace_36 : decode cX2_replace 36 = .ok (.istore 6, 2) := by decide +kernel
theorem dX2_replace_38 : decode cX2_replace 38 = .ok (.iload 6, 2) := by decide +kernel
theorem dX2_replace_40 : decode cX2_replace 40 = .ok (.aload_n 1, 1) := by decide +kernel
theorem dX2_replace_41 : decode cX2_replace 41 = .ok (.getfield 119, 3) := by decide +kernel
theorem dX2_replace_44 : decode cX2_replace 44 = .ok (.getfield 39, 3) := by decide +kernel
theorem dX2_replace_47 : decode cX2_replace 47 = .ok (.if_icmp .ge 81, 3) := by decide +kernel
theorem dX2_replace_50 : decode cX2_replace 50 = .ok (.iload 4, 2) := by decide +kernel
theorem dX2_replace_52 : decode cX2_replace 52 = .ok (.ifCond .eq 76, 3) := by decide +kernel
theorem dX2_replace_55 : decode cX2_replace 55 = .ok (.aload_n 1, 1) := by decide +kernel
theorem dX2_replace_56 : decode cX2_replace 56 = .ok (.getfield 119, 3) := by decide +kernel
theorem dX2_replace_59 : decode cX2_replace 59 = .ok (.getfield 57, 3) := by decide +kernel
theorem dX2_replace_62 : decode cX2_replace 62 = .ok (.iload 6, 2) := by decide +kernel
theorem dX2_replace_64 : decode cX2_replace 64 = .ok (.iaload, 1) := by decide +kernel
theorem dX2_replace_65 : decode cX2_replace 65 = .ok (.istore 7, 2) := by decide +kernel
theorem dX2_replace_67 : decode cX2_replace 67 = .ok (.iload 7, 2) := by decide +kernel
theorem dX2_replace_69 : decode cX2_replace 69 = .ok (.iconst (-1), 1) := by decide +kernel
theorem dX2_replace_70 : decode cX2_replace 70 = .ok (.if_icmp .ne 41, 3) := by decide +kernel
theorem dX2_replace_73 : decode cX2_replace 73 = .ok (.aload_n 0, 1) := by decide +kernel
theorem dX2_replace_74 : decode cX2_replace 74 = .ok (.getfield 25, 3) := by decide +kernel
theorem dX2_replace_77 : decode cX2_replace 77 = .ok (.aload_n 2, 1) := by decide +kernel
theorem dX2_replace_78 : decode cX2_replace 78 = .ok (.aload_n 0, 1) := by decide +kernel
theorem dX2_replace_79 : decode cX2_replace 79 = .ok (.getfield 18, 3) := by decide +kernel
theorem dX2_replace_82 : decode cX2_replace 82 = .ok (.iload 5, 2) := by decide +kernel
theorem dX2_replace_84 : decode cX2_replace 84 = .ok (.iaload, 1) := by decide +kernel
theorem dX2_replace_85 : decode cX2_replace 85 = .ok (.aload_n 0, 1) := by decide +kernel
theorem dX2_replace_86 : decode cX2_replace 86 = .ok (.getfield 12, 3) := by decide +kernel
theorem dX2_replace_89 : decode cX2_replace 89 = .ok (.getfield 105, 3) := by decide +kernel
theorem dX2_replace_92 : decode cX2_replace 92 = .ok (.aload_n 0, 1) := by decide +kernel
theorem dX2_replace_93 : decode cX2_replace 93 = .ok (.getfield 18, 3) := by decide +kernel
theorem dX2_replace_96 : decode cX2_replace 96 = .ok (.iload 5, 2) := by decide +kernel
theorem dX2_replace_98 : decode cX2_replace 98 = .ok (.iaload, 1) := by decide +kernel
theorem dX2_replace_99 : decode cX2_replace 99 = .ok (.iaload, 1) := by decide +kernel
theorem dX2_replace_100 : decode cX2_replace 100 = .ok (.invokevirtual 115, 3) := by decide +kernel
theorem dX2_replace_103 : decode cX2_replace 103 = .ok (.istore 4, 2) := by decide +kernel
theorem dX2_replace_105 : decode cX2_replace 105 = .ok (.iinc 5 1, 3) := by decide +kernel
theorem dX2_replace_108 : decode cX2_replace 108 = .ok (.goto 14, 3) := by decide +kernel
theorem dX2_replace_111 : decode cX2_replace 111 = .ok (.aload_n 0, 1) := by decide +kernel
theorem dX2_replace_112 : decode cX2_replace 112 = .ok (.getfield 25, 3) := by decide +kernel
theorem dX2_replace_115 : decode cX2_replace 115 = .ok (.iload 7, 2) := by decide +kernel
theorem dX2_replace_117 : decode cX2_replace 117 = .ok (.invokevirtual 122, 3) := by decide +kernel
theorem dX2_replace_120 : decode cX2_replace 120 = .ok (.istore 4, 2) := by decide +kernel
theorem dX2_replace_122 : decode cX2_replace 122 = .ok (.iinc 6 1, 3) := by decide +kernel
theorem dX2_replace_125 : decode cX2_replace 125 = .ok (.goto (-87), 3) := by decide +kernel
theorem dX2_replace_128 : decode cX2_replace 128 = .ok (.iload 4, 2) := by decide +kernel
theorem dX2_replace_130 : decode cX2_replace 130 = .ok (.ifCond .eq 27, 3) := by decide +kernel
theorem dX2_replace_133 : decode cX2_replace 133 = .ok (.aload_n 0, 1) := by decide +kernel
theorem dX2_replace_134 : decode cX2_replace 134 = .ok (.getfield 25, 3) := by decide +kernel
theorem dX2_replace_137 : decode cX2_replace 137 = .ok (.aload_n 2, 1) := by decide +kernel
theorem dX2_replace_138 : decode cX2_replace 138 = .ok (.aload_n 0, 1) := by decide +kernel
theorem dX2_replace_139 : decode cX2_replace 139 = .ok (.getfield 12, 3) := by decide +kernel
theorem dX2_replace_142 : decode cX2_replace 142 = .ok (.getfield 105, 3) := by decide +kernel
theorem dX2_replace_145 : decode cX2_replace 145 = .ok (.iload_n 3, 1) := by decide +kernel
theorem dX2_replace_146 : decode cX2_replace 146 = .ok (.iaload, 1) := by decide +kernel
theorem dX2_replace_147 : decode cX2_replace 147 = .ok (.aload_n 2, 1) := by decide +kernel
theorem dX2_replace_148 : decode cX2_replace 148 = .ok (.getfield 39, 3) := by decide +kernel
theorem dX2_replace_151 : decode cX2_replace 151 = .ok (.invokevirtual 115, 3) := by decide +kernel
theorem dX2_replace_154 : decode cX2_replace 154 = .ok (.ifCond .ne 6, 3) := by decide +kernel
theorem dX2_replace_157 : decode cX2_replace 157 = .ok (.bipush (-5), 2) := by decide +kernel
theorem dX2_replace_159 : decode cX2_replace 159 = .ok (.ireturn, 1) := by decide +kernel
theorem dX2_replace_160 : decode cX2_replace 160 = .ok (.aload_n 2, 1) := by decide +kernel
theorem dX2_replace_161 : decode cX2_replace 161 = .ok (.aload_n 0, 1) := by decide +kernel
theorem dX2_replace_162 : decode cX2_replace 162 = .ok (.getfield 25, 3) := by decide +kernel
theorem dX2_replace_165 : decode cX2_replace 165 = .ok (.invokevirtual 77, 3) := by decide +kernel
theorem dX2_replace_168 : decode cX2_replace 168 = .ok (.iconst 1, 1) := by decide +kernel
theorem dX2_replace_169 : decode cX2_replace 169 = .ok (.ireturn, 1) := by decide +kernel
theorem dX3_init_0 : decode cX3_init 0 = .ok (.aload_n 0, 1) := by decide +kernel
theorem dX3_init_1 : decode cX3_init 1 = .ok (.invokespecial 3, 3) := by decide +kernel
theorem dX3_init_4 : decode cX3_init 4 = .ok (.aload_n 0, 1) := by decide +kernel
theorem dX3_init_5 : decode cX3_init 5 = .ok (.bipush 60, 2) := by decide +kernel
theorem dX3_init_7 : decode cX3_init 7 = .ok (.newarray .int, 2) := by decide +kernel
theorem dX3_init_9 : decode cX3_init 9 = .ok (.putfield 9, 3) := by decide +kernel
theorem dX3_init_12 : decode cX3_init 12 = .ok (.return_, 1) := by decide +kernel
theorem dX3_clear_0 : decode cX3_clear 0 = .ok (.aload_n 0, 1) := by decide +kernel
theorem dX3_clear_1 : decode cX3_clear 1 = .ok (.iconst 0, 1) := by decide +kernel
theorem dX3_clear_2 : decode cX3_clear 2 = .ok (.putfield 15, 3) := by decide +kernel
theorem dX3_clear_5 : decode cX3_clear 5 = .ok (.return_, 1) := by decide +kernel
theorem dX3_add_0 : decode cX3_add 0 = .ok (.aload_n 0, 1) := by decide +kernel
theorem dX3_add_1 : decode cX3_add 1 = .ok (.getfield 15, 3) := by decide +kernel
theorem dX3_add_4 : decode cX3_add 4 = .ok (.bipush 60, 2) := by decide +kernel
theorem dX3_add_6 : decode cX3_add 6 = .ok (.if_icmp .lt 5, 3) := by decide +kernel
theorem dX3_add_9 : decode cX3_add 9 = .ok (.iconst 0, 1) := by decide +kernel
theorem dX3_add_10 : decode cX3_add 10 = .ok (.ireturn, 1) := by decide +kernel
theorem dX3_add_11 : decode cX3_add 11 = .ok (.aload_n 0, 1) := by decide +kernel
theorem dX3_add_12 : decode cX3_add 12 = .ok (.getfield 9, 3) := by decide +kernel
theorem dX3_add_15 : decode cX3_add 15 = .ok (.aload_n 0, 1) := by decide +kernel
theorem dX3_add_16 : decode cX3_add 16 = .ok (.getfield 15, 3) := by decide +kernel
theorem dX3_add_19 : decode cX3_add 19 = .ok (.iload_n 1, 1) := by decide +kernel
theorem dX3_add_20 : decode cX3_add 20 = .ok (.iastore, 1) := by decide +kernel
theorem dX3_add_21 : decode cX3_add 21 = .ok (.aload_n 0, 1) := by decide +kernel
theorem dX3_add_22 : decode cX3_add 22 = .ok (.dup, 1) := by decide +kernel
theorem dX3_add_23 : decode cX3_add 23 = .ok (.getfield 15, 3) := by decide +kernel
theorem dX3_add_26 : decode cX3_add 26 = .ok (.iconst 1, 1) := by decide +kernel
theorem dX3_add_27 : decode cX3_add 27 = .ok (.iadd, 1) := by decide +kernel
theorem dX3_add_28 : decode cX3_add 28 = .ok (.putfield 15, 3) := by decide +kernel
theorem dX3_add_31 : decode cX3_add 31 = .ok (.iconst 1, 1) := by decide +kernel
theorem dX3_add_32 : decode cX3_add 32 = .ok (.ireturn, 1) := by decide +kernel
theorem dX3_addPart_0 : decode cX3_addPart 0 = .ok (.iload_n 2, 1) := by decide +kernel
theorem dX3_addPart_1 : decode cX3_addPart 1 = .ok (.ifCond .lt 29, 3) := by decide +kernel
theorem dX3_addPart_4 : decode cX3_addPart 4 = .ok (.iload_n 2, 1) := by decide +kernel
theorem dX3_addPart_5 : decode cX3_addPart 5 = .ok (.iload_n 3, 1) := by decide +kernel
theorem dX3_addPart_6 : decode cX3_addPart 6 = .ok (.if_icmp .gt 24, 3) := by decide +kernel
theorem dX3_addPart_9 : decode cX3_addPart 9 = .ok (.iload_n 3, 1) := by decide +kernel
theorem dX3_addPart_10 : decode cX3_addPart 10 = .ok (.aload_n 1, 1) := by decide +kernel
theorem dX3_addPart_11 : decode cX3_addPart 11 = .ok (.getfield 15, 3) := by decide +kernel
theorem dX3_addPart_14 : decode cX3_addPart 14 = .ok (.if_icmp .gt 16, 3) := by decide +kernel
theorem dX3_addPart_17 : decode cX3_addPart 17 = .ok (.aload_n 0, 1) := by decide +kernel
theorem dX3_addPart_18 : decode cX3_addPart 18 = .ok (.getfield 15, 3) := by decide +kernel
theorem dX3_addPart_21 : decode cX3_addPart 21 = .ok (.iload_n 3, 1) := by decide +kernel
theorem dX3_addPart_22 : decode cX3_addPart 22 = .ok (.iadd, 1) := by decide +kernel
theorem dX3_addPart_23 : decode cX3_addPart 23 = .ok (.iload_n 2, 1) := by decide +kernel
theorem dX3_addPart_24 : decode cX3_addPart 24 = .ok (.isub, 1) := by decide +kernel
theorem dX3_addPart_25 : decode cX3_addPart 25 = .ok (.bipush 60, 2) := by decide +kernel
theorem dX3_addPart_27 : decode cX3_addPart 27 = .ok (.if_icmp .le 5, 3) := by decide +kernel
theorem dX3_addPart_30 : decode cX3_addPart 30 = .ok (.iconst 0, 1) := by decide +kernel
theorem dX3_addPart_31 : decode cX3_addPart 31 = .ok (.ireturn, 1) := by decide +kernel
theorem dX3_addPart_32 : decode cX3_addPart 32 = .ok (.aload_n 1, 1) := by decide +kernel
theorem dX3_addPart_33 : decode cX3_addPart 33 = .ok (.getfield 9, 3) := by decide +kernel
theorem dX3_addPart_36 : decode cX3_addPart 36 = .ok (.iload_n 2, 1) := by decide +kernel
theorem dX3_addPart_37 : decode cX3_addPart 37 = .ok (.aload_n 0, 1) := by decide +kernel
theorem dX3_addPart_38 : decode cX3_addPart 38 = .ok (.getfield 9, 3) := by decide +kernel
theorem dX3_addPart_41 : decode cX3_addPart 41 = .ok (.aload_n 0, 1) := by decide +kernel
theorem dX3_addPart_42 : decode cX3_addPart 42 = .ok (.getfield 15, 3) := by decide +kernel
theorem dX3_addPart_45 : decode cX3_addPart 45 = .ok (.iload_n 3, 1) := by decide +kernel
theorem dX3_addPart_46 : decode cX3_addPart 46 = .ok (.iload_n 2, 1) := by decide +kernel
theorem dX3_addPart_47 : decode cX3_addPart 47 = .ok (.isub, 1) := by decide +kernel
theorem dX3_addPart_48 : decode cX3_addPart 48 = .ok (.invokestatic 19, 3) := by decide +kernel
theorem dX3_addPart_51 : decode cX3_addPart 51 = .ok (.aload_n 0, 1) := by decide +kernel
theorem dX3_addPart_52 : decode cX3_addPart 52 = .ok (.dup, 1) := by decide +kernel
theorem dX3_addPart_53 : decode cX3_addPart 53 = .ok (.getfield 15, 3) := by decide +kernel
theorem dX3_addPart_56 : decode cX3_addPart 56 = .ok (.iload_n 3, 1) := by decide +kernel
theorem dX3_addPart_57 : decode cX3_addPart 57 = .ok (.iload_n 2, 1) := by decide +kernel
theorem dX3_addPart_58 : decode cX3_addPart 58 = .ok (.isub, 1) := by decide +kernel
theorem dX3_addPart_59 : decode cX3_addPart 59 = .ok (.iadd, 1) := by decide +kernel
theorem dX3_addPart_60 : decode cX3_addPart 60 = .ok (.putfield 15, 3) := by decide +kernel
theorem dX3_addPart_63 : decode cX3_addPart 63 = .ok (.iconst 1, 1) := by decide +kernel
theorem dX3_addPart_64 : decode cX3_addPart 64 = .ok (.ireturn, 1) := by decide +kernel
theorem dX3_become_0 : decode cX3_become 0 = .ok (.aload_n 1, 1) := by decide +kernel
theorem dX3_become_1 : decode cX3_become 1 = .ok (.getfield 9, 3) := by decide +kernel
theorem dX3_become_4 : decode cX3_become 4 = .ok (.iconst 0, 1) := by decide +kernel
theorem dX3_become_5 : decode cX3_become 5 = .ok (.aload_n 0, 1) := by decide +kernel
theorem dX3_become_6 : decode cX3_become 6 = .ok (.getfield 9, 3) := by decide +kernel
theorem dX3_become_9 : decode cX3_become 9 = .ok (.iconst 0, 1) := by decide +kernel
theorem dX3_become_10 : decode cX3_become 10 = .ok (.aload_n 1, 1) := by decide +kernel
theorem dX3_become_11 : decode cX3_become 11 = .ok (.getfield 15, 3) := by decide +kernel
theorem dX3_become_14 : decode cX3_become 14 = .ok (.invokestatic 19, 3) := by decide +kernel
theorem dX3_become_17 : decode cX3_become 17 = .ok (.aload_n 0, 1) := by decide +kernel
theorem dX3_become_18 : decode cX3_become 18 = .ok (.aload_n 1, 1) := by decide +kernel
theorem dX3_become_19 : decode cX3_become 19 = .ok (.getfield 15, 3) := by decide +kernel
theorem dX3_become_22 : decode cX3_become 22 = .ok (.putfield 15, 3) := by decide +kernel
theorem dX3_become_25 : decode cX3_become 25 = .ok (.return_, 1) := by decide +kernel
theorem dX3_isLike_0 : decode cX3_isLike 0 = .ok (.aload_n 0, 1) := by decide +kernel
theorem dX3_isLike_1 : decode cX3_isLike 1 = .ok (.getfield 15, 3) := by decide +kernel
theorem dX3_isLike_4 : decode cX3_isLike 4 = .ok (.aload_n 1, 1) := by decide +kernel
theorem dX3_isLike_5 : decode cX3_isLike 5 = .ok (.getfield 15, 3) := by decide +kernel
theorem dX3_isLike_8 : decode cX3_isLike 8 = .ok (.if_icmp .eq 5, 3) := by decide +kernel
theorem dX3_isLike_11 : decode cX3_isLike 11 = .ok (.iconst 0, 1) := by decide +kernel
theorem dX3_isLike_12 : decode cX3_isLike 12 = .ok (.ireturn, 1) := by decide +kernel
theorem dX3_isLike_13 : decode cX3_isLike 13 = .ok (.iconst 0, 1) := by decide +kernel
theorem dX3_isLike_14 : decode cX3_isLike 14 = .ok (.istore_n 2, 1) := by decide +kernel
theorem dX3_isLike_15 : decode cX3_isLike 15 = .ok (.iload_n 2, 1) := by decide +kernel
theorem dX3_isLike_16 : decode cX3_isLike 16 = .ok (.aload_n 0, 1) := by decide +kernel
theorem dX3_isLike_17 : decode cX3_isLike 17 = .ok (.getfield 15, 3) := by decide +kernel
theorem dX3_isLike_20 : decode cX3_isLike 20 = .ok (.if_icmp .ge 26, 3) := by decide +kernel
theorem dX3_isLike_23 : decode cX3_isLike 23 = .ok (.aload_n 0, 1) := by decide +kernel
theorem dX3_isLike_24 : decode cX3_isLike 24 = .ok (.getfield 9, 3) := by decide +kernel
theorem dX3_isLike_27 : decode cX3_isLike 27 = .ok (.iload_n 2, 1) := by decide +kernel
theorem dX3_isLike_28 : decode cX3_isLike 28 = .ok (.iaload, 1) := by decide +kernel
theorem dX3_isLike_29 : decode cX3_isLike 29 = .ok (.aload_n 1, 1) := by decide +kernel
theorem dX3_isLike_30 : decode cX3_isLike 30 = .ok (.getfield 9, 3) := by decide +kernel
theorem dX3_isLike_33 : decode cX3_isLike 33 = .ok (.iload_n 2, 1) := by decide +kernel
theorem dX3_isLike_34 : decode cX3_isLike 34 = .ok (.iaload, 1) := by decide +kernel
theorem dX3_isLike_35 : decode cX3_isLike 35 = .ok (.if_icmp .eq 5, 3) := by decide +kernel
theorem dX3_isLike_38 : decode cX3_isLike 38 = .ok (.iconst 0, 1) := by decide +kernel
theorem dX3_isLike_39 : decode cX3_isLike 39 = .ok (.ireturn, 1) := by decide +kernel
theorem dX3_isLike_40 : decode cX3_isLike 40 = .ok (.iinc 2 1, 3) := by decide +kernel
theorem dX3_isLike_43 : decode cX3_isLike 43 = .ok (.goto (-28), 3) := by decide +kernel
theorem dX3_isLike_46 : decode cX3_isLike 46 = .ok (.iconst 1, 1) := by decide +kernel
theorem dX3_isLike_47 : decode cX3_isLike 47 = .ok (.ireturn, 1) := by decide +kernel
theorem dX3_leaves_0 : decode cX3_leaves 0 = .ok (.iconst 0, 1) := by decide +kernel
theorem dX3_leaves_1 : decode cX3_leaves 1 = .ok (.istore_n 1, 1) := by decide +kernel
theorem dX3_leaves_2 : decode cX3_leaves 2 = .ok (.iconst 0, 1) := by decide +kernel
theorem dX3_leaves_3 : decode cX3_leaves 3 = .ok (.istore_n 2, 1) := by decide +kernel
theorem dX3_leaves_4 : decode cX3_leaves 4 = .ok (.iload_n 2, 1) := by decide +kernel
theorem dX3_leaves_5 : decode cX3_leaves 5 = .ok (.aload_n 0, 1) := by decide +kernel
theorem dX3_leaves_6 : decode cX3_leaves 6 = .ok (.getfield 15, 3) := by decide +kernel
theorem dX3_leaves_9 : decode cX3_leaves 9 = .ok (.if_icmp .ge 22, 3) := by decide +kernel
theorem dX3_leaves_12 : decode cX3_leaves 12 = .ok (.aload_n 0, 1) := by decide +kernel
theorem dX3_leaves_13 : decode cX3_leaves 13 = .ok (.getfield 9, 3) := by decide +kernel
theorem dX3_leaves_16 : decode cX3_leaves 16 = .ok (.iload_n 2, 1) := by decide +kernel
theorem dX3_leaves_17 : decode cX3_leaves 17 = .ok (.iaload, 1) := by decide +kernel
theorem dX3_leaves_18 : decode cX3_leaves 18 = .ok (.iconst (-1), 1) := by decide +kernel
theorem dX3_leaves_19 : decode cX3_leaves 19 = .ok (.if_icmp .ne 6, 3) := by decide +kernel
theorem dX3_leaves_22 : decode cX3_leaves 22 = .ok (.iinc 1 1, 3) := by decide +kernel
theorem dX3_leaves_25 : decode cX3_leaves 25 = .ok (.iinc 2 1, 3) := by decide +kernel
theorem dX3_leaves_28 : decode cX3_leaves 28 = .ok (.goto (-24), 3) := by decide +kernel
theorem dX3_leaves_31 : decode cX3_leaves 31 = .ok (.iload_n 1, 1) := by decide +kernel
theorem dX3_leaves_32 : decode cX3_leaves 32 = .ok (.ireturn, 1) := by decide +kernel
set_option maxRecDepth 20000 in
theorem ggX3_size_X3_leaves : GoodIn wsX3_size wsX3_leaves := goodIn_r _ [6, 1, 7, 8, 9] (by decide +kernel) (by decide +kernel)
set_option maxRecDepth 20000 in
theorem gX3_size_X3_leaves : GoodIn wsX3_size (wsV RX3 25 RX3 yX3_leaves wsX3_leaves) := goodIn_app (goodIn_of _ (by decide +kernel)) ggX3_size_X3_leaves
theorem dX3_size_0 : decode cX3_size 0 = .ok (.aload_n 0, 1) := by decide +kernel
theorem dX3_size_1 : decode cX3_size 1 = .ok (.getfield 15, 3) := by decide +kernel
theorem dX3_size_4 : decode cX3_size 4 = .ok (.aload_n 0, 1) := by decide +kernel
theorem dX3_size_5 : decode cX3_size 5 = .ok (.invokevirtual 25, 3) := by decide +kernel
theorem dX3_size_8 : decode cX3_size 8 = .ok (.isub, 1) := by decide +kernel
theorem dX3_size_9 : decode cX3_size 9 = .ok (.ireturn, 1) := by decide +kernel
theorem dX3_placeOfLeaf_0 : decode cX3_placeOfLeaf 0 = .ok (.iconst 0, 1) := by decide +kernel
theorem dX3_placeOfLeaf_1 : decode cX3_placeOfLeaf 1 = .ok (.istore_n 2, 1) := by decide +kernel
theorem dX3_placeOfLeaf_2 : decode cX3_placeOfLeaf 2 = .ok (.iconst 0, 1) := by decide +kernel
theorem dX3_placeOfLeaf_3 : decode cX3_placeOfLeaf 3 = .ok (.istore_n 3, 1) := by decide +kernel
theorem dX3_placeOfLeaf_4 : decode cX3_placeOfLeaf 4 = .ok (.iload_n 3, 1) := by decide +kernel
theorem dX3_placeOfLeaf_5 : decode cX3_placeOfLeaf 5 = .ok (.aload_n 0, 1) := by decide +kernel
theorem dX3_placeOfLeaf_6 : decode cX3_placeOfLeaf 6 = .ok (.getfield 15, 3) := by decide +kernel
theorem dX3_placeOfLeaf_9 : decode cX3_placeOfLeaf 9 = .ok (.if_icmp .ge 29, 3) := by decide +kernel
theorem dX3_placeOfLeaf_12 : decode cX3_placeOfLeaf 12 = .ok (.aload_n 0, 1) := by decide +kernel
theorem dX3_placeOfLeaf_13 : decode cX3_placeOfLeaf 13 = .ok (.getfield 9, 3) := by decide +kernel
theorem dX3_placeOfLeaf_16 : decode cX3_placeOfLeaf 16 = .ok (.iload_n 3, 1) := by decide +kernel
theorem dX3_placeOfLeaf_17 : decode cX3_placeOfLeaf 17 = .ok (.iaload, 1) := by decide +kernel
theorem dX3_placeOfLeaf_18 : decode cX3_placeOfLeaf 18 = .ok (.iconst (-1), 1) := by decide +kernel
theorem dX3_placeOfLeaf_19 : decode cX3_placeOfLeaf 19 = .ok (.if_icmp .ne 13, 3) := by decide +kernel
theorem dX3_placeOfLeaf_22 : decode cX3_placeOfLeaf 22 = .ok (.iload_n 2, 1) := by decide +kernel
theorem dX3_placeOfLeaf_23 : decode cX3_placeOfLeaf 23 = .ok (.iload_n 1, 1) := by decide +kernel
theorem dX3_placeOfLeaf_24 : decode cX3_placeOfLeaf 24 = .ok (.if_icmp .ne 5, 3) := by decide +kernel
theorem dX3_placeOfLeaf_27 : decode cX3_placeOfLeaf 27 = .ok (.iload_n 3, 1) := by decide +kernel
theorem dX3_placeOfLeaf_28 : decode cX3_placeOfLeaf 28 = .ok (.ireturn, 1) := by decide +kernel
theorem dX3_placeOfLeaf_29 : decode cX3_placeOfLeaf 29 = .ok (.iinc 2 1, 3) := by decide +kernel
theorem dX3_placeOfLeaf_32 : decode cX3_placeOfLeaf 32 = .ok (.iinc 3 1, 3) := by decide +kernel
theorem dX3_placeOfLeaf_35 : decode cX3_placeOfLeaf 35 = .ok (.goto (-31), 3) := by decide +kernel
theorem dX3_placeOfLeaf_38 : decode cX3_placeOfLeaf 38 = .ok (.iconst (-1), 1) := by decide +kernel
theorem dX3_placeOfLeaf_39 : decode cX3_placeOfLeaf 39 = .ok (.ireturn, 1) := by decide +kernel
theorem dX3_digestedAfter_0 : decode cX3_digestedAfter 0 = .ok (.lload_n 1, 1) := by decide +kernel
theorem dX3_digestedAfter_1 : decode cX3_digestedAfter 1 = .ok (.lstore_n 3, 1) := by decide +kernel
theorem dX3_digestedAfter_2 : decode cX3_digestedAfter 2 = .ok (.iconst 0, 1) := by decide +kernel
theorem dX3_digestedAfter_3 : decode cX3_digestedAfter 3 = .ok (.istore 5, 2) := by decide +kernel
theorem dX3_digestedAfter_5 : decode cX3_digestedAfter 5 = .ok (.iload 5, 2) := by decide +kernel
theorem dX3_digestedAfter_7 : decode cX3_digestedAfter 7 = .ok (.aload_n 0, 1) := by decide +kernel
theorem dX3_digestedAfter_8 : decode cX3_digestedAfter 8 = .ok (.getfield 15, 3) := by decide +kernel
theorem dX3_digestedAfter_11 : decode cX3_digestedAfter 11 = .ok (.if_icmp .ge 24, 3) := by decide +kernel
theorem dX3_digestedAfter_14 : decode cX3_digestedAfter 14 = .ok (.ldc2_w 29, 3) := by decide +kernel
theorem dX3_digestedAfter_17 : decode cX3_digestedAfter 17 = .ok (.lload_n 3, 1) := by decide +kernel
theorem dX3_digestedAfter_18 : decode cX3_digestedAfter 18 = .ok (.lmul, 1) := by decide +kernel
theorem dX3_digestedAfter_19 : decode cX3_digestedAfter 19 = .ok (.aload_n 0, 1) := by decide +kernel
theorem dX3_digestedAfter_20 : decode cX3_digestedAfter 20 = .ok (.getfield 9, 3) := by decide +kernel
theorem dX3_digestedAfter_23 : decode cX3_digestedAfter 23 = .ok (.iload 5, 2) := by decide +kernel
theorem dX3_digestedAfter_25 : decode cX3_digestedAfter 25 = .ok (.iaload, 1) := by decide +kernel
theorem dX3_digestedAfter_26 : decode cX3_digestedAfter 26 = .ok (.i2l, 1) := by decide +kernel
theorem dX3_digestedAfter_27 : decode cX3_digestedAfter 27 = .ok (.ladd, 1) := by decide +kernel
theorem dX3_digestedAfter_28 : decode cX3_digestedAfter 28 = .ok (.lstore_n 3, 1) := by decide +kernel
theorem dX3_digestedAfter_29 : decode cX3_digestedAfter 29 = .ok (.iinc 5 1, 3) := by decide +kernel
theorem dX3_digestedAfter_32 : decode cX3_digestedAfter 32 = .ok (.goto (-27), 3) := by decide +kernel
theorem dX3_digestedAfter_35 : decode cX3_digestedAfter 35 = .ok (.ldc2_w 29, 3) := by decide +kernel
theorem dX3_digestedAfter_38 : decode cX3_digestedAfter 38 = .ok (.lload_n 3, 1) := by decide +kernel
theorem dX3_digestedAfter_39 : decode cX3_digestedAfter 39 = .ok (.lmul, 1) := by decide +kernel
theorem dX3_digestedAfter_40 : decode cX3_digestedAfter 40 = .ok (.ldc2_w 31, 3) := by decide +kernel
theorem dX3_digestedAfter_43 : decode cX3_digestedAfter 43 = .ok (.ladd, 1) := by decide +kernel
theorem dX3_digestedAfter_44 : decode cX3_digestedAfter 44 = .ok (.lreturn, 1) := by decide +kernel
set_option maxRecDepth 20000 in
theorem ggX4_init_X3_init : GoodIn wsX4_init wsX3_init := goodIn_r _ [10, 11, 2, 3, 12, 13, 14, 15] (by decide +kernel) (by decide +kernel)
set_option maxRecDepth 20000 in
theorem gX4_init_X3_init_n9 : GoodIn wsX4_init (wsX3_init) := ggX4_init_X3_init
theorem dX4_init_0 : decode cX4_init 0 = .ok (.aload_n 0, 1) := by decide +kernel
theorem dX4_init_1 : decode cX4_init 1 = .ok (.invokespecial 1, 3) := by decide +kernel
theorem dX4_init_4 : decode cX4_init 4 = .ok (.aload_n 0, 1) := by decide +kernel
theorem dX4_init_5 : decode cX4_init 5 = .ok (.new 7, 3) := by decide +kernel
theorem dX4_init_8 : decode cX4_init 8 = .ok (.dup, 1) := by decide +kernel
theorem dX4_init_9 : decode cX4_init 9 = .ok (.invokespecial 9, 3) := by decide +kernel
theorem dX4_init_12 : decode cX4_init 12 = .ok (.putfield 10, 3) := by decide +kernel
theorem dX4_init_15 : decode cX4_init 15 = .ok (.aload_n 0, 1) := by decide +kernel
theorem dX4_init_16 : decode cX4_init 16 = .ok (.new 7, 3) := by decide +kernel
theorem dX4_init_19 : decode cX4_init 19 = .ok (.dup, 1) := by decide +kernel
theorem dX4_init_20 : decode cX4_init 20 = .ok (.invokespecial 9, 3) := by decide +kernel
theorem dX4_init_23 : decode cX4_init 23 = .ok (.putfield 16, 3) := by decide +kernel
theorem dX4_init_26 : decode cX4_init 26 = .ok (.return_, 1) := by decide +kernel
theorem dX5_init_0 : decode cX5_init 0 = .ok (.aload_n 0, 1) := by decide +kernel
theorem dX5_init_1 : decode cX5_init 1 = .ok (.invokespecial 3, 3) := by decide +kernel
theorem dX5_init_4 : decode cX5_init 4 = .ok (.aload_n 0, 1) := by decide +kernel
theorem dX5_init_5 : decode cX5_init 5 = .ok (.bipush 7, 2) := by decide +kernel
theorem dX5_init_7 : decode cX5_init 7 = .ok (.newarray .long, 2) := by decide +kernel
theorem dX5_init_9 : decode cX5_init 9 = .ok (.putfield 9, 3) := by decide +kernel
theorem dX5_init_12 : decode cX5_init 12 = .ok (.aload_n 0, 1) := by decide +kernel
theorem dX5_init_13 : decode cX5_init 13 = .ok (.bipush 7, 2) := by decide +kernel
theorem dX5_init_15 : decode cX5_init 15 = .ok (.bipush 7, 2) := by decide +kernel
theorem dX5_init_17 : decode cX5_init 17 = .ok (.multianewarray 15 2, 4) := by decide +kernel
theorem dX5_init_21 : decode cX5_init 21 = .ok (.putfield 17, 3) := by decide +kernel
theorem dX5_init_24 : decode cX5_init 24 = .ok (.return_, 1) := by decide +kernel
set_option maxRecDepth 20000 in
theorem ggX5_turn_X5_rowsOf : GoodIn wsX5_turn wsX5_rowsOf := goodIn_r _ [7, 1, 2, 8, 9] (by decide +kernel) (by decide +kernel)
set_option maxRecDepth 20000 in
theorem gX5_turn_X5_rowsOf : GoodIn wsX5_turn (wsV RX5 20 RX5 yX5_rowsOf wsX5_rowsOf) := goodIn_app (goodIn_of _ (by decide +kernel)) ggX5_turn_X5_rowsOf
theorem dX5_turn_0 : decode cX5_turn 0 = .ok (.aload_n 0, 1) := by decide +kernel
theorem dX5_turn_1 : decode cX5_turn 1 = .ok (.getfield 9, 3) := by decide +kernel
theorem dX5_turn_4 : decode cX5_turn 4 = .ok (.iconst 1, 1) := by decide +kernel
theorem dX5_turn_5 : decode cX5_turn 5 = .ok (.lconst 1, 1) := by decide +kernel
theorem dX5_turn_6 : decode cX5_turn 6 = .ok (.lastore, 1) := by decide +kernel
theorem dX5_turn_7 : decode cX5_turn 7 = .ok (.aload_n 0, 1) := by decide +kernel
theorem dX5_turn_8 : decode cX5_turn 8 = .ok (.getfield 17, 3) := by decide +kernel
theorem dX5_turn_11 : decode cX5_turn 11 = .ok (.iconst 1, 1) := by decide +kernel
theorem dX5_turn_12 : decode cX5_turn 12 = .ok (.aaload, 1) := by decide +kernel
theorem dX5_turn_13 : decode cX5_turn 13 = .ok (.iconst 1, 1) := by decide +kernel
theorem dX5_turn_14 : decode cX5_turn 14 = .ok (.lconst 1, 1) := by decide +kernel
theorem dX5_turn_15 : decode cX5_turn 15 = .ok (.lastore, 1) := by decide +kernel
theorem dX5_turn_16 : decode cX5_turn 16 = .ok (.iconst 2, 1) := by decide +kernel
theorem dX5_turn_17 : decode cX5_turn 17 = .ok (.istore_n 2, 1) := by decide +kernel
theorem dX5_turn_18 : decode cX5_turn 18 = .ok (.iload_n 2, 1) := by decide +kernel
theorem dX5_turn_19 : decode cX5_turn 19 = .ok (.bipush 6, 2) := by decide +kernel
theorem dX5_turn_21 : decode cX5_turn 21 = .ok (.if_icmp .gt 77, 3) := by decide +kernel
theorem dX5_turn_24 : decode cX5_turn 24 = .ok (.lconst 0, 1) := by decide +kernel
theorem dX5_turn_25 : decode cX5_turn 25 = .ok (.lstore_n 3, 1) := by decide +kernel
theorem dX5_turn_26 : decode cX5_turn 26 = .ok (.iconst 2, 1) := by decide +kernel
theorem dX5_turn_27 : decode cX5_turn 27 = .ok (.istore 5, 2) := by decide +kernel
theorem dX5_turn_29 : decode cX5_turn 29 = .ok (.iload 5, 2) := by decide +kernel
theorem dX5_turn_31 : decode cX5_turn 31 = .ok (.iload_n 2, 1) := by decide +kernel
theorem dX5_turn_32 : decode cX5_turn 32 = .ok (.if_icmp .gt 42, 3) := by decide +kernel
theorem dX5_turn_35 : decode cX5_turn 35 = .ok (.aload_n 0, 1) := by decide +kernel
theorem dX5_turn_36 : decode cX5_turn 36 = .ok (.getfield 17, 3) := by decide +kernel
theorem dX5_turn_39 : decode cX5_turn 39 = .ok (.iload 5, 2) := by decide +kernel
theorem dX5_turn_41 : decode cX5_turn 41 = .ok (.aaload, 1) := by decide +kernel
theorem dX5_turn_42 : decode cX5_turn 42 = .ok (.iload_n 2, 1) := by decide +kernel
theorem dX5_turn_43 : decode cX5_turn 43 = .ok (.aload_n 0, 1) := by decide +kernel
theorem dX5_turn_44 : decode cX5_turn 44 = .ok (.iload 5, 2) := by decide +kernel
theorem dX5_turn_46 : decode cX5_turn 46 = .ok (.iload_n 2, 1) := by decide +kernel
theorem dX5_turn_47 : decode cX5_turn 47 = .ok (.invokevirtual 20, 3) := by decide +kernel
theorem dX5_turn_50 : decode cX5_turn 50 = .ok (.lastore, 1) := by decide +kernel
theorem dX5_turn_51 : decode cX5_turn 51 = .ok (.lload_n 3, 1) := by decide +kernel
theorem dX5_turn_52 : decode cX5_turn 52 = .ok (.aload_n 1, 1) := by decide +kernel
theorem dX5_turn_53 : decode cX5_turn 53 = .ok (.iload 5, 2) := by decide +kernel
theorem dX5_turn_55 : decode cX5_turn 55 = .ok (.laload, 1) := by decide +kernel
theorem dX5_turn_56 : decode cX5_turn 56 = .ok (.aload_n 0, 1) := by decide +kernel
theorem dX5_turn_57 : decode cX5_turn 57 = .ok (.getfield 17, 3) := by decide +kernel
theorem dX5_turn_60 : decode cX5_turn 60 = .ok (.iload 5, 2) := by decide +kernel
theorem dX5_turn_62 : decode cX5_turn 62 = .ok (.aaload, 1) := by decide +kernel
theorem dX5_turn_63 : decode cX5_turn 63 = .ok (.iload_n 2, 1) := by decide +kernel
theorem dX5_turn_64 : decode cX5_turn 64 = .ok (.laload, 1) := by decide +kernel
theorem dX5_turn_65 : decode cX5_turn 65 = .ok (.lmul, 1) := by decide +kernel
theorem dX5_turn_66 : decode cX5_turn 66 = .ok (.ladd, 1) := by decide +kernel
theorem dX5_turn_67 : decode cX5_turn 67 = .ok (.lstore_n 3, 1) := by decide +kernel
theorem dX5_turn_68 : decode cX5_turn 68 = .ok (.iinc 5 1, 3) := by decide +kernel
theorem dX5_turn_71 : decode cX5_turn 71 = .ok (.goto (-42), 3) := by decide +kernel
theorem dX5_turn_74 : decode cX5_turn 74 = .ok (.aload_n 0, 1) := by decide +kernel
theorem dX5_turn_75 : decode cX5_turn 75 = .ok (.getfield 9, 3) := by decide +kernel
theorem dX5_turn_78 : decode cX5_turn 78 = .ok (.iload_n 2, 1) := by decide +kernel
theorem dX5_turn_79 : decode cX5_turn 79 = .ok (.lload_n 3, 1) := by decide +kernel
theorem dX5_turn_80 : decode cX5_turn 80 = .ok (.lneg, 1) := by decide +kernel
theorem dX5_turn_81 : decode cX5_turn 81 = .ok (.lastore, 1) := by decide +kernel
theorem dX5_turn_82 : decode cX5_turn 82 = .ok (.aload_n 0, 1) := by decide +kernel
theorem dX5_turn_83 : decode cX5_turn 83 = .ok (.getfield 17, 3) := by decide +kernel
theorem dX5_turn_86 : decode cX5_turn 86 = .ok (.iconst 1, 1) := by decide +kernel
theorem dX5_turn_87 : decode cX5_turn 87 = .ok (.aaload, 1) := by decide +kernel
theorem dX5_turn_88 : decode cX5_turn 88 = .ok (.iload_n 2, 1) := by decide +kernel
theorem dX5_turn_89 : decode cX5_turn 89 = .ok (.lload_n 3, 1) := by decide +kernel
theorem dX5_turn_90 : decode cX5_turn 90 = .ok (.lneg, 1) := by decide +kernel
theorem dX5_turn_91 : decode cX5_turn 91 = .ok (.lastore, 1) := by decide +kernel
theorem dX5_turn_92 : decode cX5_turn 92 = .ok (.iinc 2 1, 3) := by decide +kernel
theorem dX5_turn_95 : decode cX5_turn 95 = .ok (.goto (-77), 3) := by decide +kernel
theorem dX5_turn_98 : decode cX5_turn 98 = .ok (.return_, 1) := by decide +kernel
theorem dX5_rowsOf_0 : decode cX5_rowsOf 0 = .ok (.lconst 0, 1) := by decide +kernel
theorem dX5_rowsOf_1 : decode cX5_rowsOf 1 = .ok (.lstore_n 3, 1) := by decide +kernel
theorem dX5_rowsOf_2 : decode cX5_rowsOf 2 = .ok (.iconst 1, 1) := by decide +kernel
theorem dX5_rowsOf_3 : decode cX5_rowsOf 3 = .ok (.istore 5, 2) := by decide +kernel
theorem dX5_rowsOf_5 : decode cX5_rowsOf 5 = .ok (.iload 5, 2) := by decide +kernel
theorem dX5_rowsOf_7 : decode cX5_rowsOf 7 = .ok (.iload_n 2, 1) := by decide +kernel
theorem dX5_rowsOf_8 : decode cX5_rowsOf 8 = .ok (.if_icmp .ge 33, 3) := by decide +kernel
theorem dX5_rowsOf_11 : decode cX5_rowsOf 11 = .ok (.lload_n 3, 1) := by decide +kernel
theorem dX5_rowsOf_12 : decode cX5_rowsOf 12 = .ok (.aload_n 0, 1) := by decide +kernel
theorem dX5_rowsOf_13 : decode cX5_rowsOf 13 = .ok (.getfield 9, 3) := by decide +kernel
theorem dX5_rowsOf_16 : decode cX5_rowsOf 16 = .ok (.iload 5, 2) := by decide +kernel
theorem dX5_rowsOf_18 : decode cX5_rowsOf 18 = .ok (.laload, 1) := by decide +kernel
theorem dX5_rowsOf_19 : decode cX5_rowsOf 19 = .ok (.aload_n 0, 1) := by decide +kernel
theorem dX5_rowsOf_20 : decode cX5_rowsOf 20 = .ok (.getfield 17, 3) := by decide +kernel
theorem dX5_rowsOf_23 : decode cX5_rowsOf 23 = .ok (.iload_n 1, 1) := by decide +kernel
theorem dX5_rowsOf_24 : decode cX5_rowsOf 24 = .ok (.iconst 1, 1) := by decide +kernel
theorem dX5_rowsOf_25 : decode cX5_rowsOf 25 = .ok (.isub, 1) := by decide +kernel
theorem dX5_rowsOf_26 : decode cX5_rowsOf 26 = .ok (.aaload, 1) := by decide +kernel
theorem dX5_rowsOf_27 : decode cX5_rowsOf 27 = .ok (.iload_n 2, 1) := by decide +kernel
theorem dX5_rowsOf_28 : decode cX5_rowsOf 28 = .ok (.iload 5, 2) := by decide +kernel
theorem dX5_rowsOf_30 : decode cX5_rowsOf 30 = .ok (.isub, 1) := by decide +kernel
theorem dX5_rowsOf_31 : decode cX5_rowsOf 31 = .ok (.laload, 1) := by decide +kernel
theorem dX5_rowsOf_32 : decode cX5_rowsOf 32 = .ok (.lmul, 1) := by decide +kernel
theorem dX5_rowsOf_33 : decode cX5_rowsOf 33 = .ok (.ladd, 1) := by decide +kernel
theorem dX5_rowsOf_34 : decode cX5_rowsOf 34 = .ok (.lstore_n 3, 1) := by decide +kernel
theorem dX5_rowsOf_35 : decode cX5_rowsOf 35 = .ok (.iinc 5 1, 3) := by decide +kernel
theorem dX5_rowsOf_38 : decode cX5_rowsOf 38 = .ok (.goto (-33), 3) := by decide +kernel
theorem dX5_rowsOf_41 : decode cX5_rowsOf 41 = .ok (.lload_n 3, 1) := by decide +kernel
theorem dX5_rowsOf_42 : decode cX5_rowsOf 42 = .ok (.lreturn, 1) := by decide +kernel
theorem dX6_init_0 : decode cX6_init 0 = .ok (.aload_n 0, 1) := by decide +kernel
theorem dX6_init_1 : decode cX6_init 1 = .ok (.invokespecial 3, 3) := by decide +kernel
theorem dX6_init_4 : decode cX6_init 4 = .ok (.aload_n 0, 1) := by decide +kernel
theorem dX6_init_5 : decode cX6_init 5 = .ok (.bipush 60, 2) := by decide +kernel
theorem dX6_init_7 : decode cX6_init 7 = .ok (.newarray .int, 2) := by decide +kernel
theorem dX6_init_9 : decode cX6_init 9 = .ok (.putfield 9, 3) := by decide +kernel
theorem dX6_init_12 : decode cX6_init 12 = .ok (.return_, 1) := by decide +kernel
set_option maxRecDepth 20000 in
theorem ggX6_measure_X8_entriesOf : GoodIn wsX6_measure wsX8_entriesOf := goodIn_r _ [8, 9, 10, 14, 15, 16, 17] (by decide +kernel) (by decide +kernel)
set_option maxRecDepth 20000 in
theorem gX6_measure_X8_entriesOf : GoodIn wsX6_measure (wsV RX6 24 RX8 yX8_entriesOf wsX8_entriesOf) := goodIn_app (goodIn_of _ (by decide +kernel)) ggX6_measure_X8_entriesOf
theorem dX6_measure_0 : decode cX6_measure 0 = .ok (.aload_n 2, 1) := by decide +kernel
theorem dX6_measure_1 : decode cX6_measure 1 = .ok (.getfield 15, 3) := by decide +kernel
theorem dX6_measure_4 : decode cX6_measure 4 = .ok (.iconst 1, 1) := by decide +kernel
theorem dX6_measure_5 : decode cX6_measure 5 = .ok (.isub, 1) := by decide +kernel
theorem dX6_measure_6 : decode cX6_measure 6 = .ok (.istore_n 3, 1) := by decide +kernel
theorem dX6_measure_7 : decode cX6_measure 7 = .ok (.iload_n 3, 1) := by decide +kernel
theorem dX6_measure_8 : decode cX6_measure 8 = .ok (.ifCond .lt 75, 3) := by decide +kernel
theorem dX6_measure_11 : decode cX6_measure 11 = .ok (.iload_n 3, 1) := by decide +kernel
theorem dX6_measure_12 : decode cX6_measure 12 = .ok (.iconst 1, 1) := by decide +kernel
theorem dX6_measure_13 : decode cX6_measure 13 = .ok (.iadd, 1) := by decide +kernel
theorem dX6_measure_14 : decode cX6_measure 14 = .ok (.istore 4, 2) := by decide +kernel
theorem dX6_measure_16 : decode cX6_measure 16 = .ok (.aload_n 1, 1) := by decide +kernel
theorem dX6_measure_17 : decode cX6_measure 17 = .ok (.aload_n 2, 1) := by decide +kernel
theorem dX6_measure_18 : decode cX6_measure 18 = .ok (.getfield 21, 3) := by decide +kernel
theorem dX6_measure_21 : decode cX6_measure 21 = .ok (.iload_n 3, 1) := by decide +kernel
theorem dX6_measure_22 : decode cX6_measure 22 = .ok (.iaload, 1) := by decide +kernel
theorem dX6_measure_23 : decode cX6_measure 23 = .ok (.invokevirtual 24, 3) := by decide +kernel
theorem dX6_measure_26 : decode cX6_measure 26 = .ok (.istore 5, 2) := by decide +kernel
theorem dX6_measure_28 : decode cX6_measure 28 = .ok (.iconst 0, 1) := by decide +kernel
theorem dX6_measure_29 : decode cX6_measure 29 = .ok (.istore 6, 2) := by decide +kernel
theorem dX6_measure_31 : decode cX6_measure 31 = .ok (.iload 6, 2) := by decide +kernel
theorem dX6_measure_33 : decode cX6_measure 33 = .ok (.iload 5, 2) := by decide +kernel
theorem dX6_measure_35 : decode cX6_measure 35 = .ok (.if_icmp .ge 34, 3) := by decide +kernel
theorem dX6_measure_38 : decode cX6_measure 38 = .ok (.iload 4, 2) := by decide +kernel
theorem dX6_measure_40 : decode cX6_measure 40 = .ok (.aload_n 2, 1) := by decide +kernel
theorem dX6_measure_41 : decode cX6_measure 41 = .ok (.getfield 15, 3) := by decide +kernel
theorem dX6_measure_44 : decode cX6_measure 44 = .ok (.if_icmp .ge 13, 3) := by decide +kernel
theorem dX6_measure_47 : decode cX6_measure 47 = .ok (.aload_n 0, 1) := by decide +kernel
theorem dX6_measure_48 : decode cX6_measure 48 = .ok (.getfield 9, 3) := by decide +kernel
theorem dX6_measure_51 : decode cX6_measure 51 = .ok (.iload 4, 2) := by decide +kernel
theorem dX6_measure_53 : decode cX6_measure 53 = .ok (.iaload, 1) := by decide +kernel
theorem dX6_measure_54 : decode cX6_measure 54 = .ok (.goto 7, 3) := by decide +kernel
theorem dX6_measure_57 : decode cX6_measure 57 = .ok (.aload_n 2, 1) := by decide +kernel
theorem dX6_measure_58 : decode cX6_measure 58 = .ok (.getfield 15, 3) := by decide +kernel
theorem dX6_measure_61 : decode cX6_measure 61 = .ok (.istore 4, 2) := by decide +kernel
theorem dX6_measure_63 : decode cX6_measure 63 = .ok (.iinc 6 1, 3) := by decide +kernel
theorem dX6_measure_66 : decode cX6_measure 66 = .ok (.goto (-35), 3) := by decide +kernel
theorem dX6_measure_69 : decode cX6_measure 69 = .ok (.aload_n 0, 1) := by decide +kernel
theorem dX6_measure_70 : decode cX6_measure 70 = .ok (.getfield 9, 3) := by decide +kernel
theorem dX6_measure_73 : decode cX6_measure 73 = .ok (.iload_n 3, 1) := by decide +kernel
theorem dX6_measure_74 : decode cX6_measure 74 = .ok (.iload 4, 2) := by decide +kernel
theorem dX6_measure_76 : decode cX6_measure 76 = .ok (.iastore, 1) := by decide +kernel
theorem dX6_measure_77 : decode cX6_measure 77 = .ok (.iinc 3 (-1), 3) := by decide +kernel
theorem dX6_measure_80 : decode cX6_measure 80 = .ok (.goto (-73), 3) := by decide +kernel
theorem dX6_measure_83 : decode cX6_measure 83 = .ok (.return_, 1) := by decide +kernel
set_option maxRecDepth 20000 in
theorem ggX6_heightOf_X6_measure : GoodIn wsX6_heightOf wsX6_measure := goodIn_r _ [10, 1, 11, 12, 13, 14, 15, 16, 17, 18, 19, 24, 25, 26, 27, 28, 29, 30] (by decide +kernel) (by decide +kernel)
set_option maxRecDepth 20000 in
theorem gX6_heightOf_X6_measure : GoodIn wsX6_heightOf (wsV RX6 30 RX6 yX6_measure wsX6_measure) := goodIn_app (goodIn_of _ (by decide +kernel)) ggX6_heightOf_X6_measure
set_option maxRecDepth 20000 in
theorem ggX6_heightOf_X6_actsOver : GoodIn wsX6_heightOf wsX6_actsOver := goodIn_r _ [23, 11, 12, 24, 25, 26] (by decide +kernel) (by decide +kernel)
set_option maxRecDepth 20000 in
theorem gX6_heightOf_X6_actsOver : GoodIn wsX6_heightOf (wsV RX6 34 RX6 yX6_actsOver wsX6_actsOver) := goodIn_app (goodIn_of _ (by decide +kernel)) ggX6_heightOf_X6_actsOver
theorem dX6_heightOf_0 : decode cX6_heightOf 0 = .ok (.aload_n 0, 1) := by decide +kernel
theorem dX6_heightOf_1 : decode cX6_heightOf 1 = .ok (.aload_n 1, 1) := by decide +kernel
theorem dX6_heightOf_2 : decode cX6_heightOf 2 = .ok (.aload_n 2, 1) := by decide +kernel
theorem dX6_heightOf_3 : decode cX6_heightOf 3 = .ok (.invokevirtual 30, 3) := by decide +kernel
theorem dX6_heightOf_6 : decode cX6_heightOf 6 = .ok (.iconst 0, 1) := by decide +kernel
theorem dX6_heightOf_7 : decode cX6_heightOf 7 = .ok (.istore_n 3, 1) := by decide +kernel
theorem dX6_heightOf_8 : decode cX6_heightOf 8 = .ok (.iconst 0, 1) := by decide +kernel
theorem dX6_heightOf_9 : decode cX6_heightOf 9 = .ok (.istore 4, 2) := by decide +kernel
theorem dX6_heightOf_11 : decode cX6_heightOf 11 = .ok (.iload 4, 2) := by decide +kernel
theorem dX6_heightOf_13 : decode cX6_heightOf 13 = .ok (.aload_n 2, 1) := by decide +kernel
theorem dX6_heightOf_14 : decode cX6_heightOf 14 = .ok (.getfield 15, 3) := by decide +kernel
theorem dX6_heightOf_17 : decode cX6_heightOf 17 = .ok (.if_icmp .ge 21, 3) := by decide +kernel
theorem dX6_heightOf_20 : decode cX6_heightOf 20 = .ok (.iload_n 3, 1) := by decide +kernel
theorem dX6_heightOf_21 : decode cX6_heightOf 21 = .ok (.aload_n 0, 1) := by decide +kernel
theorem dX6_heightOf_22 : decode cX6_heightOf 22 = .ok (.aload_n 2, 1) := by decide +kernel
theorem dX6_heightOf_23 : decode cX6_heightOf 23 = .ok (.iload 4, 2) := by decide +kernel
theorem dX6_heightOf_25 : decode cX6_heightOf 25 = .ok (.invokevirtual 34, 3) := by decide +kernel
theorem dX6_heightOf_28 : decode cX6_heightOf 28 = .ok (.invokestatic 38, 3) := by decide +kernel
theorem dX6_heightOf_31 : decode cX6_heightOf 31 = .ok (.istore_n 3, 1) := by decide +kernel
theorem dX6_heightOf_32 : decode cX6_heightOf 32 = .ok (.iinc 4 1, 3) := by decide +kernel
theorem dX6_heightOf_35 : decode cX6_heightOf 35 = .ok (.goto (-24), 3) := by decide +kernel
theorem dX6_heightOf_38 : decode cX6_heightOf 38 = .ok (.iload_n 3, 1) := by decide +kernel
theorem dX6_heightOf_39 : decode cX6_heightOf 39 = .ok (.ireturn, 1) := by decide +kernel
theorem dX6_actsOver_0 : decode cX6_actsOver 0 = .ok (.iconst 0, 1) := by decide +kernel
theorem dX6_actsOver_1 : decode cX6_actsOver 1 = .ok (.istore_n 3, 1) := by decide +kernel
theorem dX6_actsOver_2 : decode cX6_actsOver 2 = .ok (.iconst 0, 1) := by decide +kernel
theorem dX6_actsOver_3 : decode cX6_actsOver 3 = .ok (.istore 4, 2) := by decide +kernel
theorem dX6_actsOver_5 : decode cX6_actsOver 5 = .ok (.iload 4, 2) := by decide +kernel
theorem dX6_actsOver_7 : decode cX6_actsOver 7 = .ok (.iload_n 2, 1) := by decide +kernel
theorem dX6_actsOver_8 : decode cX6_actsOver 8 = .ok (.if_icmp .gt 34, 3) := by decide +kernel
theorem dX6_actsOver_11 : decode cX6_actsOver 11 = .ok (.aload_n 1, 1) := by decide +kernel
theorem dX6_actsOver_12 : decode cX6_actsOver 12 = .ok (.getfield 21, 3) := by decide +kernel
theorem dX6_actsOver_15 : decode cX6_actsOver 15 = .ok (.iload 4, 2) := by decide +kernel
theorem dX6_actsOver_17 : decode cX6_actsOver 17 = .ok (.iaload, 1) := by decide +kernel
theorem dX6_actsOver_18 : decode cX6_actsOver 18 = .ok (.iconst (-1), 1) := by decide +kernel
theorem dX6_actsOver_19 : decode cX6_actsOver 19 = .ok (.if_icmp .eq 17, 3) := by decide +kernel
theorem dX6_actsOver_22 : decode cX6_actsOver 22 = .ok (.aload_n 0, 1) := by decide +kernel
theorem dX6_actsOver_23 : decode cX6_actsOver 23 = .ok (.getfield 9, 3) := by decide +kernel
theorem dX6_actsOver_26 : decode cX6_actsOver 26 = .ok (.iload 4, 2) := by decide +kernel
theorem dX6_actsOver_28 : decode cX6_actsOver 28 = .ok (.iaload, 1) := by decide +kernel
theorem dX6_actsOver_29 : decode cX6_actsOver 29 = .ok (.iload_n 2, 1) := by decide +kernel
theorem dX6_actsOver_30 : decode cX6_actsOver 30 = .ok (.if_icmp .le 6, 3) := by decide +kernel
theorem dX6_actsOver_33 : decode cX6_actsOver 33 = .ok (.iinc 3 1, 3) := by decide +kernel
theorem dX6_actsOver_36 : decode cX6_actsOver 36 = .ok (.iinc 4 1, 3) := by decide +kernel
theorem dX6_actsOver_39 : decode cX6_actsOver 39 = .ok (.goto (-34), 3) := by decide +kernel
theorem dX6_actsOver_42 : decode cX6_actsOver 42 = .ok (.iload_n 3, 1) := by decide +kernel
theorem dX6_actsOver_43 : decode cX6_actsOver 43 = .ok (.ireturn, 1) := by decide +kernel
theorem dX7_init_0 : decode cX7_init 0 = .ok (.aload_n 0, 1) := by decide +kernel
theorem dX7_init_1 : decode cX7_init 1 = .ok (.invokespecial 1, 3) := by decide +kernel
theorem dX7_init_4 : decode cX7_init 4 = .ok (.aload_n 0, 1) := by decide +kernel
theorem dX7_init_5 : decode cX7_init 5 = .ok (.bipush 16, 2) := by decide +kernel
theorem dX7_init_7 : decode cX7_init 7 = .ok (.newarray .long, 2) := by decide +kernel
theorem dX7_init_9 : decode cX7_init 9 = .ok (.putfield 7, 3) := by decide +kernel
theorem dX7_init_12 : decode cX7_init 12 = .ok (.aload_n 0, 1) := by decide +kernel
theorem dX7_init_13 : decode cX7_init 13 = .ok (.bipush 16, 2) := by decide +kernel
theorem dX7_init_15 : decode cX7_init 15 = .ok (.newarray .long, 2) := by decide +kernel
theorem dX7_init_17 : decode cX7_init 17 = .ok (.putfield 13, 3) := by decide +kernel
theorem dX7_init_20 : decode cX7_init 20 = .ok (.return_, 1) := by decide +kernel
theorem dX7_clear_0 : decode cX7_clear 0 = .ok (.aload_n 0, 1) := by decide +kernel
theorem dX7_clear_1 : decode cX7_clear 1 = .ok (.iconst 0, 1) := by decide +kernel
theorem dX7_clear_2 : decode cX7_clear 2 = .ok (.putfield 16, 3) := by decide +kernel
theorem dX7_clear_5 : decode cX7_clear 5 = .ok (.return_, 1) := by decide +kernel
set_option maxRecDepth 20000 in
theorem ggX7_add_J7_copyOf_c38d5 : GoodIn wsX7_add wsJ7_copyOf_c38d5 := goodIn_r _ [7, 8, 9, 10, 11, 12, 13, 14, 15, 16, 17, 18, 19, 20, 21, 22] (by decide +kernel) (by decide +kernel)
set_option maxRecDepth 20000 in
theorem gX7_add_J7_copyOf_c38d5 : GoodIn wsX7_add (va_wsS RX7 20 yJ7_copyOf_c38d5 wsJ7_copyOf_c38d5) := goodIn_app (goodIn_of _ (by decide +kernel)) ggX7_add_J7_copyOf_c38d5
theorem dX7_add_0 : decode cX7_add 0 = .ok (.iconst 0, 1) := by decide +kernel
theorem dX7_add_1 : decode cX7_add 1 = .ok (.istore 5, 2) := by decide +kernel
theorem dX7_add_3 : decode cX7_add 3 = .ok (.iload 5, 2) := by decide +kernel
theorem dX7_add_5 : decode cX7_add 5 = .ok (.aload_n 0, 1) := by decide +kernel
theorem dX7_add_6 : decode cX7_add 6 = .ok (.getfield 16, 3) := by decide +kernel
theorem dX7_add_9 : decode cX7_add 9 = .ok (.if_icmp .ge 33, 3) := by decide +kernel
theorem dX7_add_12 : decode cX7_add 12 = .ok (.aload_n 0, 1) := by decide +kernel
theorem dX7_add_13 : decode cX7_add 13 = .ok (.getfield 7, 3) := by decide +kernel
theorem dX7_add_16 : decode cX7_add 16 = .ok (.iload 5, 2) := by decide +kernel
theorem dX7_add_18 : decode cX7_add 18 = .ok (.laload, 1) := by decide +kernel
theorem dX7_add_19 : decode cX7_add 19 = .ok (.lload_n 1, 1) := by decide +kernel
theorem dX7_add_20 : decode cX7_add 20 = .ok (.lcmp, 1) := by decide +kernel
theorem dX7_add_21 : decode cX7_add 21 = .ok (.ifCond .ne 15, 3) := by decide +kernel
theorem dX7_add_24 : decode cX7_add 24 = .ok (.aload_n 0, 1) := by decide +kernel
theorem dX7_add_25 : decode cX7_add 25 = .ok (.getfield 13, 3) := by decide +kernel
theorem dX7_add_28 : decode cX7_add 28 = .ok (.iload 5, 2) := by decide +kernel
theorem dX7_add_30 : decode cX7_add 30 = .ok (.dup2, 1) := by decide +kernel
theorem dX7_add_31 : decode cX7_add 31 = .ok (.laload, 1) := by decide +kernel
theorem dX7_add_32 : decode cX7_add 32 = .ok (.lload_n 3, 1) := by decide +kernel
theorem dX7_add_33 : decode cX7_add 33 = .ok (.ladd, 1) := by decide +kernel
theorem dX7_add_34 : decode cX7_add 34 = .ok (.lastore, 1) := by decide +kernel
theorem dX7_add_35 : decode cX7_add 35 = .ok (.return_, 1) := by decide +kernel
theorem dX7_add_36 : decode cX7_add 36 = .ok (.iinc 5 1, 3) := by decide +kernel
theorem dX7_add_39 : decode cX7_add 39 = .ok (.goto (-36), 3) := by decide +kernel
theorem dX7_add_42 : decode cX7_add 42 = .ok (.aload_n 0, 1) := by decide +kernel
theorem dX7_add_43 : decode cX7_add 43 = .ok (.getfield 16, 3) := by decide +kernel
theorem dX7_add_46 : decode cX7_add 46 = .ok (.aload_n 0, 1) := by decide +kernel
theorem dX7_add_47 : decode cX7_add 47 = .ok (.getfield 7, 3) := by decide +kernel
theorem dX7_add_50 : decode cX7_add 50 = .ok (.arraylength, 1) := by decide +kernel
theorem dX7_add_51 : decode cX7_add 51 = .ok (.if_icmp .ne 37, 3) := by decide +kernel
theorem dX7_add_54 : decode cX7_add 54 = .ok (.aload_n 0, 1) := by decide +kernel
theorem dX7_add_55 : decode cX7_add 55 = .ok (.aload_n 0, 1) := by decide +kernel
theorem dX7_add_56 : decode cX7_add 56 = .ok (.getfield 7, 3) := by decide +kernel
theorem dX7_add_59 : decode cX7_add 59 = .ok (.iconst 2, 1) := by decide +kernel
theorem dX7_add_60 : decode cX7_add 60 = .ok (.aload_n 0, 1) := by decide +kernel
theorem dX7_add_61 : decode cX7_add 61 = .ok (.getfield 16, 3) := by decide +kernel
theorem dX7_add_64 : decode cX7_add 64 = .ok (.imul, 1) := by decide +kernel
theorem dX7_add_65 : decode cX7_add 65 = .ok (.invokestatic 20, 3) := by decide +kernel
theorem dX7_add_68 : decode cX7_add 68 = .ok (.putfield 7, 3) := by decide +kernel
theorem dX7_add_71 : decode cX7_add 71 = .ok (.aload_n 0, 1) := by decide +kernel
theorem dX7_add_72 : decode cX7_add 72 = .ok (.aload_n 0, 1) := by decide +kernel
theorem dX7_add_73 : decode cX7_add 73 = .ok (.getfield 13, 3) := by decide +kernel
theorem dX7_add_76 : decode cX7_add 76 = .ok (.iconst 2, 1) := by decide +kernel
theorem dX7_add_77 : decode cX7_add 77 = .ok (.aload_n 0, 1) := by decide +kernel
theorem dX7_add_78 : decode cX7_add 78 = .ok (.getfield 16, 3) := by decide +kernel
theorem dX7_add_81 : decode cX7_add 81 = .ok (.imul, 1) := by decide +kernel
theorem dX7_add_82 : decode cX7_add 82 = .ok (.invokestatic 20, 3) := by decide +kernel
theorem dX7_add_85 : decode cX7_add 85 = .ok (.putfield 13, 3) := by decide +kernel
theorem dX7_add_88 : decode cX7_add 88 = .ok (.aload_n 0, 1) := by decide +kernel
theorem dX7_add_89 : decode cX7_add 89 = .ok (.getfield 7, 3) := by decide +kernel
theorem dX7_add_92 : decode cX7_add 92 = .ok (.aload_n 0, 1) := by decide +kernel
theorem dX7_add_93 : decode cX7_add 93 = .ok (.getfield 16, 3) := by decide +kernel
theorem dX7_add_96 : decode cX7_add 96 = .ok (.lload_n 1, 1) := by decide +kernel
theorem dX7_add_97 : decode cX7_add 97 = .ok (.lastore, 1) := by decide +kernel
theorem dX7_add_98 : decode cX7_add 98 = .ok (.aload_n 0, 1) := by decide +kernel
theorem dX7_add_99 : decode cX7_add 99 = .ok (.getfield 13, 3) := by decide +kernel
theorem dX7_add_102 : decode cX7_add 102 = .ok (.aload_n 0, 1) := by decide +kernel
theorem dX7_add_103 : decode cX7_add 103 = .ok (.getfield 16, 3) := by decide +kernel
theorem dX7_add_106 : decode cX7_add 106 = .ok (.lload_n 3, 1) := by decide +kernel
theorem dX7_add_107 : decode cX7_add 107 = .ok (.lastore, 1) := by decide +kernel
theorem dX7_add_108 : decode cX7_add 108 = .ok (.aload_n 0, 1) := by decide +kernel
theorem dX7_add_109 : decode cX7_add 109 = .ok (.dup, 1) := by decide +kernel
theorem dX7_add_110 : decode cX7_add 110 = .ok (.getfield 16, 3) := by decide +kernel
theorem dX7_add_113 : decode cX7_add 113 = .ok (.iconst 1, 1) := by decide +kernel
theorem dX7_add_114 : decode cX7_add 114 = .ok (.iadd, 1) := by decide +kernel
theorem dX7_add_115 : decode cX7_add 115 = .ok (.putfield 16, 3) := by decide +kernel
theorem dX7_add_118 : decode cX7_add 118 = .ok (.return_, 1) := by decide +kernel
set_option maxRecDepth 20000 in
theorem ggX8_init_X4_init : GoodIn wsX8_init wsX4_init := goodIn_r _ [11, 12, 2, 3, 13, 14, 15, 16, 17, 18, 19, 20, 4, 21, 29, 30, 26, 27, 28] (by decide +kernel) (by decide +kernel)
set_option maxRecDepth 20000 in
theorem gX8_init_X4_init_n21 : GoodIn wsX8_init (wsX4_init) := ggX8_init_X4_init
theorem dX8_init_0 : decode cX8_init 0 = .ok (.aload_n 0, 1) := by decide +kernel
theorem dX8_init_1 : decode cX8_init 1 = .ok (.invokespecial 3, 3) := by decide +kernel
theorem dX8_init_4 : decode cX8_init 4 = .ok (.aload_n 0, 1) := by decide +kernel
theorem dX8_init_5 : decode cX8_init 5 = .ok (.iconst 4, 1) := by decide +kernel
theorem dX8_init_6 : decode cX8_init 6 = .ok (.newarray .int, 2) := by decide +kernel
theorem dX8_init_8 : decode cX8_init 8 = .ok (.putfield 9, 3) := by decide +kernel
theorem dX8_init_11 : decode cX8_init 11 = .ok (.aload_n 0, 1) := by decide +kernel
theorem dX8_init_12 : decode cX8_init 12 = .ok (.bipush 8, 2) := by decide +kernel
theorem dX8_init_14 : decode cX8_init 14 = .ok (.anewarray 15, 3) := by decide +kernel
theorem dX8_init_17 : decode cX8_init 17 = .ok (.putfield 17, 3) := by decide +kernel
theorem dX8_init_20 : decode cX8_init 20 = .ok (.iconst 0, 1) := by decide +kernel
theorem dX8_init_21 : decode cX8_init 21 = .ok (.istore_n 1, 1) := by decide +kernel
theorem dX8_init_22 : decode cX8_init 22 = .ok (.iload_n 1, 1) := by decide +kernel
theorem dX8_init_23 : decode cX8_init 23 = .ok (.bipush 8, 2) := by decide +kernel
theorem dX8_init_25 : decode cX8_init 25 = .ok (.if_icmp .ge 22, 3) := by decide +kernel
theorem dX8_init_28 : decode cX8_init 28 = .ok (.aload_n 0, 1) := by decide +kernel
theorem dX8_init_29 : decode cX8_init 29 = .ok (.getfield 17, 3) := by decide +kernel
theorem dX8_init_32 : decode cX8_init 32 = .ok (.iload_n 1, 1) := by decide +kernel
theorem dX8_init_33 : decode cX8_init 33 = .ok (.new 15, 3) := by decide +kernel
theorem dX8_init_36 : decode cX8_init 36 = .ok (.dup, 1) := by decide +kernel
theorem dX8_init_37 : decode cX8_init 37 = .ok (.invokespecial 21, 3) := by decide +kernel
theorem dX8_init_40 : decode cX8_init 40 = .ok (.aastore, 1) := by decide +kernel
theorem dX8_init_41 : decode cX8_init 41 = .ok (.iinc 1 1, 3) := by decide +kernel
theorem dX8_init_44 : decode cX8_init 44 = .ok (.goto (-22), 3) := by decide +kernel
theorem dX8_init_47 : decode cX8_init 47 = .ok (.return_, 1) := by decide +kernel
theorem dX8_addAct_0 : decode cX8_addAct 0 = .ok (.aload_n 0, 1) := by decide +kernel
theorem dX8_addAct_1 : decode cX8_addAct 1 = .ok (.getfield 22, 3) := by decide +kernel
theorem dX8_addAct_4 : decode cX8_addAct 4 = .ok (.iconst 4, 1) := by decide +kernel
theorem dX8_addAct_5 : decode cX8_addAct 5 = .ok (.if_icmp .lt 6, 3) := by decide +kernel
theorem dX8_addAct_8 : decode cX8_addAct 8 = .ok (.bipush (-4), 2) := by decide +kernel
theorem dX8_addAct_10 : decode cX8_addAct 10 = .ok (.ireturn, 1) := by decide +kernel
theorem dX8_addAct_11 : decode cX8_addAct 11 = .ok (.aload_n 0, 1) := by decide +kernel
theorem dX8_addAct_12 : decode cX8_addAct 12 = .ok (.getfield 9, 3) := by decide +kernel
theorem dX8_addAct_15 : decode cX8_addAct 15 = .ok (.aload_n 0, 1) := by decide +kernel
theorem dX8_addAct_16 : decode cX8_addAct 16 = .ok (.getfield 22, 3) := by decide +kernel
theorem dX8_addAct_19 : decode cX8_addAct 19 = .ok (.iload_n 1, 1) := by decide +kernel
theorem dX8_addAct_20 : decode cX8_addAct 20 = .ok (.iastore, 1) := by decide +kernel
theorem dX8_addAct_21 : decode cX8_addAct 21 = .ok (.aload_n 0, 1) := by decide +kernel
theorem dX8_addAct_22 : decode cX8_addAct 22 = .ok (.dup, 1) := by decide +kernel
theorem dX8_addAct_23 : decode cX8_addAct 23 = .ok (.getfield 22, 3) := by decide +kernel
theorem dX8_addAct_26 : decode cX8_addAct 26 = .ok (.iconst 1, 1) := by decide +kernel
theorem dX8_addAct_27 : decode cX8_addAct 27 = .ok (.iadd, 1) := by decide +kernel
theorem dX8_addAct_28 : decode cX8_addAct 28 = .ok (.putfield 22, 3) := by decide +kernel
theorem dX8_addAct_31 : decode cX8_addAct 31 = .ok (.aload_n 0, 1) := by decide +kernel
theorem dX8_addAct_32 : decode cX8_addAct 32 = .ok (.getfield 22, 3) := by decide +kernel
theorem dX8_addAct_35 : decode cX8_addAct 35 = .ok (.iconst 1, 1) := by decide +kernel
theorem dX8_addAct_36 : decode cX8_addAct 36 = .ok (.isub, 1) := by decide +kernel
theorem dX8_addAct_37 : decode cX8_addAct 37 = .ok (.ireturn, 1) := by decide +kernel
set_option maxRecDepth 20000 in
theorem ggX8_addRule_X3_become : GoodIn wsX8_addRule wsX3_become := goodIn_r _ [10, 11, 12, 13, 14, 15, 16, 24, 25] (by decide +kernel) (by decide +kernel)
set_option maxRecDepth 20000 in
theorem gX8_addRule_X3_become : GoodIn wsX8_addRule (wsV RX8 33 RX3 yX3_become wsX3_become) := goodIn_app (goodIn_of _ (by decide +kernel)) ggX8_addRule_X3_become
theorem dX8_addRule_0 : decode cX8_addRule 0 = .ok (.aload_n 0, 1) := by decide +kernel
theorem dX8_addRule_1 : decode cX8_addRule 1 = .ok (.getfield 26, 3) := by decide +kernel
theorem dX8_addRule_4 : decode cX8_addRule 4 = .ok (.bipush 8, 2) := by decide +kernel
theorem dX8_addRule_6 : decode cX8_addRule 6 = .ok (.if_icmp .lt 6, 3) := by decide +kernel
theorem dX8_addRule_9 : decode cX8_addRule 9 = .ok (.bipush (-4), 2) := by decide +kernel
theorem dX8_addRule_11 : decode cX8_addRule 11 = .ok (.ireturn, 1) := by decide +kernel
theorem dX8_addRule_12 : decode cX8_addRule 12 = .ok (.aload_n 0, 1) := by decide +kernel
theorem dX8_addRule_13 : decode cX8_addRule 13 = .ok (.getfield 17, 3) := by decide +kernel
theorem dX8_addRule_16 : decode cX8_addRule 16 = .ok (.aload_n 0, 1) := by decide +kernel
theorem dX8_addRule_17 : decode cX8_addRule 17 = .ok (.getfield 26, 3) := by decide +kernel
theorem dX8_addRule_20 : decode cX8_addRule 20 = .ok (.aaload, 1) := by decide +kernel
theorem dX8_addRule_21 : decode cX8_addRule 21 = .ok (.astore 4, 2) := by decide +kernel
theorem dX8_addRule_23 : decode cX8_addRule 23 = .ok (.aload 4, 2) := by decide +kernel
theorem dX8_addRule_25 : decode cX8_addRule 25 = .ok (.getfield 29, 3) := by decide +kernel
theorem dX8_addRule_28 : decode cX8_addRule 28 = .ok (.aload_n 1, 1) := by decide +kernel
theorem dX8_addRule_29 : decode cX8_addRule 29 = .ok (.invokevirtual 33, 3) := by decide +kernel
theorem dX8_addRule_32 : decode cX8_addRule 32 = .ok (.aload 4, 2) := by decide +kernel
theorem dX8_addRule_34 : decode cX8_addRule 34 = .ok (.getfield 39, 3) := by decide +kernel
theorem dX8_addRule_37 : decode cX8_addRule 37 = .ok (.aload_n 2, 1) := by decide +kernel
theorem dX8_addRule_38 : decode cX8_addRule 38 = .ok (.invokevirtual 33, 3) := by decide +kernel
theorem dX8_addRule_41 : decode cX8_addRule 41 = .ok (.aload 4, 2) := by decide +kernel
theorem dX8_addRule_43 : decode cX8_addRule 43 = .ok (.iload_n 3, 1) := by decide +kernel
theorem dX8_addRule_44 : decode cX8_addRule 44 = .ok (.putfield 42, 3) := by decide +kernel
theorem dX8_addRule_47 : decode cX8_addRule 47 = .ok (.aload_n 0, 1) := by decide +kernel
theorem dX8_addRule_48 : decode cX8_addRule 48 = .ok (.dup, 1) := by decide +kernel
theorem dX8_addRule_49 : decode cX8_addRule 49 = .ok (.getfield 26, 3) := by decide +kernel
theorem dX8_addRule_52 : decode cX8_addRule 52 = .ok (.iconst 1, 1) := by decide +kernel
theorem dX8_addRule_53 : decode cX8_addRule 53 = .ok (.iadd, 1) := by decide +kernel
theorem dX8_addRule_54 : decode cX8_addRule 54 = .ok (.putfield 26, 3) := by decide +kernel
theorem dX8_addRule_57 : decode cX8_addRule 57 = .ok (.aload_n 0, 1) := by decide +kernel
theorem dX8_addRule_58 : decode cX8_addRule 58 = .ok (.getfield 26, 3) := by decide +kernel
theorem dX8_addRule_61 : decode cX8_addRule 61 = .ok (.iconst 1, 1) := by decide +kernel
theorem dX8_addRule_62 : decode cX8_addRule 62 = .ok (.isub, 1) := by decide +kernel
theorem dX8_addRule_63 : decode cX8_addRule 63 = .ok (.ireturn, 1) := by decide +kernel
theorem dX8_isSymbol_0 : decode cX8_isSymbol 0 = .ok (.iload_n 1, 1) := by decide +kernel
theorem dX8_isSymbol_1 : decode cX8_isSymbol 1 = .ok (.iconst (-1), 1) := by decide +kernel
theorem dX8_isSymbol_2 : decode cX8_isSymbol 2 = .ok (.if_icmp .lt 15, 3) := by decide +kernel
theorem dX8_isSymbol_5 : decode cX8_isSymbol 5 = .ok (.iload_n 1, 1) := by decide +kernel
theorem dX8_isSymbol_6 : decode cX8_isSymbol 6 = .ok (.aload_n 0, 1) := by decide +kernel
theorem dX8_isSymbol_7 : decode cX8_isSymbol 7 = .ok (.getfield 22, 3) := by decide +kernel
theorem dX8_isSymbol_10 : decode cX8_isSymbol 10 = .ok (.if_icmp .ge 7, 3) := by decide +kernel
theorem dX8_isSymbol_13 : decode cX8_isSymbol 13 = .ok (.iconst 1, 1) := by decide +kernel
theorem dX8_isSymbol_14 : decode cX8_isSymbol 14 = .ok (.goto 4, 3) := by decide +kernel
theorem dX8_isSymbol_17 : decode cX8_isSymbol 17 = .ok (.iconst 0, 1) := by decide +kernel
theorem dX8_isSymbol_18 : decode cX8_isSymbol 18 = .ok (.ireturn, 1) := by decide +kernel
theorem dX8_isRule_0 : decode cX8_isRule 0 = .ok (.iload_n 1, 1) := by decide +kernel
theorem dX8_isRule_1 : decode cX8_isRule 1 = .ok (.ifCond .lt 15, 3) := by decide +kernel
theorem dX8_isRule_4 : decode cX8_isRule 4 = .ok (.iload_n 1, 1) := by decide +kernel
theorem dX8_isRule_5 : decode cX8_isRule 5 = .ok (.aload_n 0, 1) := by decide +kernel
theorem dX8_isRule_6 : decode cX8_isRule 6 = .ok (.getfield 26, 3) := by decide +kernel
theorem dX8_isRule_9 : decode cX8_isRule 9 = .ok (.if_icmp .ge 7, 3) := by decide +kernel
theorem dX8_isRule_12 : decode cX8_isRule 12 = .ok (.iconst 1, 1) := by decide +kernel
theorem dX8_isRule_13 : decode cX8_isRule 13 = .ok (.goto 4, 3) := by decide +kernel
theorem dX8_isRule_16 : decode cX8_isRule 16 = .ok (.iconst 0, 1) := by decide +kernel
theorem dX8_isRule_17 : decode cX8_isRule 17 = .ok (.ireturn, 1) := by decide +kernel
theorem dX8_entriesOf_0 : decode cX8_entriesOf 0 = .ok (.iload_n 1, 1) := by decide +kernel
theorem dX8_entriesOf_1 : decode cX8_entriesOf 1 = .ok (.ifCond .lt 20, 3) := by decide +kernel
theorem dX8_entriesOf_4 : decode cX8_entriesOf 4 = .ok (.iload_n 1, 1) := by decide +kernel
theorem dX8_entriesOf_5 : decode cX8_entriesOf 5 = .ok (.aload_n 0, 1) := by decide +kernel
theorem dX8_entriesOf_6 : decode cX8_entriesOf 6 = .ok (.getfield 22, 3) := by decide +kernel
theorem dX8_entriesOf_9 : decode cX8_entriesOf 9 = .ok (.if_icmp .ge 12, 3) := by decide +kernel
theorem dX8_entriesOf_12 : decode cX8_entriesOf 12 = .ok (.aload_n 0, 1) := by decide +kernel
theorem dX8_entriesOf_13 : decode cX8_entriesOf 13 = .ok (.getfield 9, 3) := by decide +kernel
theorem dX8_entriesOf_16 : decode cX8_entriesOf 16 = .ok (.iload_n 1, 1) := by decide +kernel
theorem dX8_entriesOf_17 : decode cX8_entriesOf 17 = .ok (.iaload, 1) := by decide +kernel
theorem dX8_entriesOf_18 : decode cX8_entriesOf 18 = .ok (.goto 4, 3) := by decide +kernel
theorem dX8_entriesOf_21 : decode cX8_entriesOf 21 = .ok (.iconst 0, 1) := by decide +kernel
theorem dX8_entriesOf_22 : decode cX8_entriesOf 22 = .ok (.ireturn, 1) := by decide +kernel
set_option maxRecDepth 20000 in
theorem ggX8_endOf_X8_entriesOf : GoodIn wsX8_endOf wsX8_entriesOf := goodIn_r _ [11, 12, 13, 16, 17, 18, 19] (by decide +kernel) (by decide +kernel)
set_option maxRecDepth 20000 in
theorem gX8_endOf_X8_entriesOf : GoodIn wsX8_endOf (wsV RX8 58 RX8 yX8_entriesOf wsX8_entriesOf) := goodIn_app (goodIn_of _ (by decide +kernel)) ggX8_endOf_X8_entriesOf
theorem dX8_endOf_0 : decode cX8_endOf 0 = .ok (.iconst 1, 1) := by decide +kernel
theorem dX8_endOf_1 : decode cX8_endOf 1 = .ok (.istore_n 3, 1) := by decide +kernel
theorem dX8_endOf_2 : decode cX8_endOf 2 = .ok (.iload_n 2, 1) := by decide +kernel
theorem dX8_endOf_3 : decode cX8_endOf 3 = .ok (.iconst 0, 1) := by decide +kernel
theorem dX8_endOf_4 : decode cX8_endOf 4 = .ok (.invokestatic 46, 3) := by decide +kernel
theorem dX8_endOf_7 : decode cX8_endOf 7 = .ok (.istore 4, 2) := by decide +kernel
theorem dX8_endOf_9 : decode cX8_endOf 9 = .ok (.iload 4, 2) := by decide +kernel
theorem dX8_endOf_11 : decode cX8_endOf 11 = .ok (.aload_n 1, 1) := by decide +kernel
theorem dX8_endOf_12 : decode cX8_endOf 12 = .ok (.getfield 52, 3) := by decide +kernel
theorem dX8_endOf_15 : decode cX8_endOf 15 = .ok (.if_icmp .ge 34, 3) := by decide +kernel
theorem dX8_endOf_18 : decode cX8_endOf 18 = .ok (.iload_n 3, 1) := by decide +kernel
theorem dX8_endOf_19 : decode cX8_endOf 19 = .ok (.aload_n 0, 1) := by decide +kernel
theorem dX8_endOf_20 : decode cX8_endOf 20 = .ok (.aload_n 1, 1) := by decide +kernel
theorem dX8_endOf_21 : decode cX8_endOf 21 = .ok (.getfield 55, 3) := by decide +kernel
theorem dX8_endOf_24 : decode cX8_endOf 24 = .ok (.iload 4, 2) := by decide +kernel
theorem dX8_endOf_26 : decode cX8_endOf 26 = .ok (.iaload, 1) := by decide +kernel
theorem dX8_endOf_27 : decode cX8_endOf 27 = .ok (.invokevirtual 58, 3) := by decide +kernel
theorem dX8_endOf_30 : decode cX8_endOf 30 = .ok (.iconst 1, 1) := by decide +kernel
theorem dX8_endOf_31 : decode cX8_endOf 31 = .ok (.isub, 1) := by decide +kernel
theorem dX8_endOf_32 : decode cX8_endOf 32 = .ok (.iadd, 1) := by decide +kernel
theorem dX8_endOf_33 : decode cX8_endOf 33 = .ok (.istore_n 3, 1) := by decide +kernel
theorem dX8_endOf_34 : decode cX8_endOf 34 = .ok (.iload_n 3, 1) := by decide +kernel
theorem dX8_endOf_35 : decode cX8_endOf 35 = .ok (.ifCond .ne 8, 3) := by decide +kernel
theorem dX8_endOf_38 : decode cX8_endOf 38 = .ok (.iload 4, 2) := by decide +kernel
theorem dX8_endOf_40 : decode cX8_endOf 40 = .ok (.iconst 1, 1) := by decide +kernel
theorem dX8_endOf_41 : decode cX8_endOf 41 = .ok (.iadd, 1) := by decide +kernel
theorem dX8_endOf_42 : decode cX8_endOf 42 = .ok (.ireturn, 1) := by decide +kernel
theorem dX8_endOf_43 : decode cX8_endOf 43 = .ok (.iinc 4 1, 3) := by decide +kernel
theorem dX8_endOf_46 : decode cX8_endOf 46 = .ok (.goto (-37), 3) := by decide +kernel
theorem dX8_endOf_49 : decode cX8_endOf 49 = .ok (.aload_n 1, 1) := by decide +kernel
theorem dX8_endOf_50 : decode cX8_endOf 50 = .ok (.getfield 52, 3) := by decide +kernel
theorem dX8_endOf_53 : decode cX8_endOf 53 = .ok (.iconst 1, 1) := by decide +kernel
theorem dX8_endOf_54 : decode cX8_endOf 54 = .ok (.iadd, 1) := by decide +kernel
theorem dX8_endOf_55 : decode cX8_endOf 55 = .ok (.ireturn, 1) := by decide +kernel
set_option maxRecDepth 20000 in
theorem ggX8_isTree_X8_endOf : GoodIn wsX8_isTree wsX8_endOf := goodIn_r _ [6, 7, 8, 9, 10, 1, 11, 12, 13, 14, 5, 15, 16, 17, 18, 19, 20, 21, 22, 23] (by decide +kernel) (by decide +kernel)
set_option maxRecDepth 20000 in
theorem gX8_isTree_X8_endOf : GoodIn wsX8_isTree (wsV RX8 62 RX8 yX8_endOf wsX8_endOf) := goodIn_app (goodIn_of _ (by decide +kernel)) ggX8_isTree_X8_endOf
theorem dX8_isTree_0 : decode cX8_isTree 0 = .ok (.aload_n 0, 1) := by decide +kernel
theorem dX8_isTree_1 : decode cX8_isTree 1 = .ok (.aload_n 1, 1) := by decide +kernel
theorem dX8_isTree_2 : decode cX8_isTree 2 = .ok (.iconst 0, 1) := by decide +kernel
theorem dX8_isTree_3 : decode cX8_isTree 3 = .ok (.invokevirtual 62, 3) := by decide +kernel
theorem dX8_isTree_6 : decode cX8_isTree 6 = .ok (.aload_n 1, 1) := by decide +kernel
theorem dX8_isTree_7 : decode cX8_isTree 7 = .ok (.getfield 52, 3) := by decide +kernel
theorem dX8_isTree_10 : decode cX8_isTree 10 = .ok (.if_icmp .ne 7, 3) := by decide +kernel
theorem dX8_isTree_13 : decode cX8_isTree 13 = .ok (.iconst 1, 1) := by decide +kernel
theorem dX8_isTree_14 : decode cX8_isTree 14 = .ok (.goto 4, 3) := by decide +kernel
theorem dX8_isTree_17 : decode cX8_isTree 17 = .ok (.iconst 0, 1) := by decide +kernel
theorem dX8_isTree_18 : decode cX8_isTree 18 = .ok (.ireturn, 1) := by decide +kernel
theorem dX8_rulesToNothing_0 : decode cX8_rulesToNothing 0 = .ok (.iconst 0, 1) := by decide +kernel
theorem dX8_rulesToNothing_1 : decode cX8_rulesToNothing 1 = .ok (.istore_n 1, 1) := by decide +kernel
theorem dX8_rulesToNothing_2 : decode cX8_rulesToNothing 2 = .ok (.iconst 0, 1) := by decide +kernel
theorem dX8_rulesToNothing_3 : decode cX8_rulesToNothing 3 = .ok (.istore_n 2, 1) := by decide +kernel
theorem dX8_rulesToNothing_4 : decode cX8_rulesToNothing 4 = .ok (.iload_n 2, 1) := by decide +kernel
theorem dX8_rulesToNothing_5 : decode cX8_rulesToNothing 5 = .ok (.aload_n 0, 1) := by decide +kernel
theorem dX8_rulesToNothing_6 : decode cX8_rulesToNothing 6 = .ok (.getfield 26, 3) := by decide +kernel
theorem dX8_rulesToNothing_9 : decode cX8_rulesToNothing 9 = .ok (.if_icmp .ge 24, 3) := by decide +kernel
theorem dX8_rulesToNothing_12 : decode cX8_rulesToNothing 12 = .ok (.aload_n 0, 1) := by decide +kernel
theorem dX8_rulesToNothing_13 : decode cX8_rulesToNothing 13 = .ok (.getfield 17, 3) := by decide +kernel
theorem dX8_rulesToNothing_16 : decode cX8_rulesToNothing 16 = .ok (.iload_n 2, 1) := by decide +kernel
theorem dX8_rulesToNothing_17 : decode cX8_rulesToNothing 17 = .ok (.aaload, 1) := by decide +kernel
theorem dX8_rulesToNothing_18 : decode cX8_rulesToNothing 18 = .ok (.getfield 42, 3) := by decide +kernel
theorem dX8_rulesToNothing_21 : decode cX8_rulesToNothing 21 = .ok (.ifCond .eq 6, 3) := by decide +kernel
theorem dX8_rulesToNothing_24 : decode cX8_rulesToNothing 24 = .ok (.iinc 1 1, 3) := by decide +kernel
theorem dX8_rulesToNothing_27 : decode cX8_rulesToNothing 27 = .ok (.iinc 2 1, 3) := by decide +kernel
theorem dX8_rulesToNothing_30 : decode cX8_rulesToNothing 30 = .ok (.goto (-26), 3) := by decide +kernel
theorem dX8_rulesToNothing_33 : decode cX8_rulesToNothing 33 = .ok (.iload_n 1, 1) := by decide +kernel
theorem dX8_rulesToNothing_34 : decode cX8_rulesToNothing 34 = .ok (.ireturn, 1) := by decide +kernel
