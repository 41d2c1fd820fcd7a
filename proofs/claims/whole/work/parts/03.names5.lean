set_option maxRecDepth 20000 in
theorem ggX10_same_X10_isTreeRow : GoodIn wsX10_same wsX10_isTreeRow := goodIn_r _ [5, 6, 7, 4, 8, 9, 10, 11, 12, 13, 14, 15, 16, 17, 18, 19, 20, 21, 22, 23, 24, 25, 26, 31, 32, 33, 34, 35, 36, 37, 38, 39, 40, 41, 42, 43, 44, 45, 46, 47, 48, 49, 50, 51, 52] (by decide +kernel) (by decide +kernel)
set_option maxRecDepth 20000 in
theorem gX10_same_X10_isTreeRow : GoodIn wsX10_same (wsV RX10 88 RX10 yX10_isTreeRow wsX10_isTreeRow) := goodIn_app (goodIn_of _ (by decide +kernel)) ggX10_same_X10_isTreeRow
set_option maxRecDepth 20000 in
theorem ggX10_same_X10_isSame : GoodIn wsX10_same wsX10_isSame := goodIn_r _ [30, 16, 21, 31, 32, 33, 34, 35, 36, 37, 38, 39, 40, 41, 42, 43, 44, 45, 46, 47, 48, 49, 50, 51, 52] (by decide +kernel) (by decide +kernel)
set_option maxRecDepth 20000 in
theorem gX10_same_X10_isSame : GoodIn wsX10_same (wsV RX10 98 RX10 yX10_isSame wsX10_isSame) := goodIn_app (goodIn_of _ (by decide +kernel)) ggX10_same_X10_isSame
theorem dX10_same_0 : decode cX10_same 0 = .ok (.aload_n 0, 1) := by decide +kernel
theorem dX10_same_1 : decode cX10_same 1 = .ok (.iload_n 1, 1) := by decide +kernel
theorem dX10_same_2 : decode cX10_same 2 = .ok (.invokevirtual 88, 3) := by decide +kernel
theorem dX10_same_5 : decode cX10_same 5 = .ok (.ifCond .eq 11, 3) := by decide +kernel
theorem dX10_same_8 : decode cX10_same 8 = .ok (.aload_n 0, 1) := by decide +kernel
theorem dX10_same_9 : decode cX10_same 9 = .ok (.iload_n 2, 1) := by decide +kernel
theorem dX10_same_10 : decode cX10_same 10 = .ok (.invokevirtual 88, 3) := by decide +kernel
theorem dX10_same_13 : decode cX10_same 13 = .ok (.ifCond .ne 8, 3) := by decide +kernel
theorem dX10_same_16 : decode cX10_same 16 = .ok (.bipush (-2), 2) := by decide +kernel
theorem dX10_same_18 : decode cX10_same 18 = .ok (.goto 17, 3) := by decide +kernel
theorem dX10_same_21 : decode cX10_same 21 = .ok (.aload_n 0, 1) := by decide +kernel
theorem dX10_same_22 : decode cX10_same 22 = .ok (.iload_n 1, 1) := by decide +kernel
theorem dX10_same_23 : decode cX10_same 23 = .ok (.iload_n 2, 1) := by decide +kernel
theorem dX10_same_24 : decode cX10_same 24 = .ok (.invokevirtual 98, 3) := by decide +kernel
theorem dX10_same_27 : decode cX10_same 27 = .ok (.ifCond .eq 7, 3) := by decide +kernel
theorem dX10_same_30 : decode cX10_same 30 = .ok (.iconst 1, 1) := by decide +kernel
theorem dX10_same_31 : decode cX10_same 31 = .ok (.goto 4, 3) := by decide +kernel
theorem dX10_same_34 : decode cX10_same 34 = .ok (.iconst 0, 1) := by decide +kernel
theorem dX10_same_35 : decode cX10_same 35 = .ok (.ireturn, 1) := by decide +kernel
set_option maxRecDepth 20000 in
theorem ggX10_isLeft_X10_isTreeRow : GoodIn wsX10_isLeft wsX10_isTreeRow := goodIn_r _ [6, 7, 8, 5, 9, 10, 11, 12, 13, 14, 15, 16, 1, 17, 18, 19, 20, 21, 22, 23, 24, 25, 26, 31, 32, 33, 34, 35, 36, 37, 38, 39, 40, 41, 42, 43, 44, 45, 46, 47, 48, 49, 50, 51, 52] (by decide +kernel) (by decide +kernel)
set_option maxRecDepth 20000 in
theorem gX10_isLeft_X10_isTreeRow : GoodIn wsX10_isLeft (wsV RX10 88 RX10 yX10_isTreeRow wsX10_isTreeRow) := goodIn_app (goodIn_of _ (by decide +kernel)) ggX10_isLeft_X10_isTreeRow
set_option maxRecDepth 20000 in
theorem ggX10_isLeft_X10_leaves : GoodIn wsX10_isLeft wsX10_leaves := goodIn_r _ [30, 1, 21, 31, 32, 33, 34, 35, 36, 37, 38, 39, 40, 41, 42, 43, 44, 45, 46, 47, 48, 49, 50, 51, 52] (by decide +kernel) (by decide +kernel)
set_option maxRecDepth 20000 in
theorem gX10_isLeft_X10_leaves : GoodIn wsX10_isLeft (wsV RX10 82 RX10 yX10_leaves wsX10_leaves) := goodIn_app (goodIn_of _ (by decide +kernel)) ggX10_isLeft_X10_leaves
set_option maxRecDepth 20000 in
theorem ggX10_isLeft_X10_in : GoodIn wsX10_isLeft wsX10_in := goodIn_r _ [12] (by decide +kernel) (by decide +kernel)
set_option maxRecDepth 20000 in
theorem gX10_isLeft_X10_in : GoodIn wsX10_isLeft (va_wsS RX10 51 yX10_in wsX10_in) := goodIn_app (goodIn_of _ (by decide +kernel)) ggX10_isLeft_X10_in
theorem dX10_isLeft_0 : decode cX10_isLeft 0 = .ok (.aload_n 0, 1) := by decide +kernel
theorem dX10_isLeft_1 : decode cX10_isLeft 1 = .ok (.iload_n 1, 1) := by decide +kernel
theorem dX10_isLeft_2 : decode cX10_isLeft 2 = .ok (.invokevirtual 88, 3) := by decide +kernel
theorem dX10_isLeft_5 : decode cX10_isLeft 5 = .ok (.ifCond .eq 27, 3) := by decide +kernel
theorem dX10_isLeft_8 : decode cX10_isLeft 8 = .ok (.aload_n 0, 1) := by decide +kernel
theorem dX10_isLeft_9 : decode cX10_isLeft 9 = .ok (.getfield 16, 3) := by decide +kernel
theorem dX10_isLeft_12 : decode cX10_isLeft 12 = .ok (.iload_n 1, 1) := by decide +kernel
theorem dX10_isLeft_13 : decode cX10_isLeft 13 = .ok (.iaload, 1) := by decide +kernel
theorem dX10_isLeft_14 : decode cX10_isLeft 14 = .ok (.aload_n 0, 1) := by decide +kernel
theorem dX10_isLeft_15 : decode cX10_isLeft 15 = .ok (.iload_n 1, 1) := by decide +kernel
theorem dX10_isLeft_16 : decode cX10_isLeft 16 = .ok (.invokevirtual 82, 3) := by decide +kernel
theorem dX10_isLeft_19 : decode cX10_isLeft 19 = .ok (.isub, 1) := by decide +kernel
theorem dX10_isLeft_20 : decode cX10_isLeft 20 = .ok (.iconst 1, 1) := by decide +kernel
theorem dX10_isLeft_21 : decode cX10_isLeft 21 = .ok (.iconst 4, 1) := by decide +kernel
theorem dX10_isLeft_22 : decode cX10_isLeft 22 = .ok (.invokestatic 51, 3) := by decide +kernel
theorem dX10_isLeft_25 : decode cX10_isLeft 25 = .ok (.ifCond .eq 7, 3) := by decide +kernel
theorem dX10_isLeft_28 : decode cX10_isLeft 28 = .ok (.iconst 1, 1) := by decide +kernel
theorem dX10_isLeft_29 : decode cX10_isLeft 29 = .ok (.goto 4, 3) := by decide +kernel
theorem dX10_isLeft_32 : decode cX10_isLeft 32 = .ok (.iconst 0, 1) := by decide +kernel
theorem dX10_isLeft_33 : decode cX10_isLeft 33 = .ok (.ireturn, 1) := by decide +kernel
set_option maxRecDepth 20000 in
theorem ggX10_comesRule_X10_copy : GoodIn wsX10_comesRule wsX10_copy := goodIn_r _ [9, 3, 10, 11, 12, 13, 14, 15, 16, 17, 18, 19, 20, 21, 22, 23, 24, 25, 26, 27, 28, 29, 30, 31, 32] (by decide +kernel) (by decide +kernel)
set_option maxRecDepth 20000 in
theorem gX10_comesRule_X10_copy : GoodIn wsX10_comesRule (wsV RX10 95 RX10 yX10_copy wsX10_copy) := goodIn_app (goodIn_of _ (by decide +kernel)) ggX10_comesRule_X10_copy
theorem dX10_comesRule_0 : decode cX10_comesRule 0 = .ok (.aload_n 0, 1) := by decide +kernel
theorem dX10_comesRule_1 : decode cX10_comesRule 1 = .ok (.getfield 102, 3) := by decide +kernel
theorem dX10_comesRule_4 : decode cX10_comesRule 4 = .ok (.bipush 8, 2) := by decide +kernel
theorem dX10_comesRule_6 : decode cX10_comesRule 6 = .ok (.if_icmp .ne 6, 3) := by decide +kernel
theorem dX10_comesRule_9 : decode cX10_comesRule 9 = .ok (.bipush (-4), 2) := by decide +kernel
theorem dX10_comesRule_11 : decode cX10_comesRule 11 = .ok (.ireturn, 1) := by decide +kernel
theorem dX10_comesRule_12 : decode cX10_comesRule 12 = .ok (.aload_n 0, 1) := by decide +kernel
theorem dX10_comesRule_13 : decode cX10_comesRule 13 = .ok (.iload_n 1, 1) := by decide +kernel
theorem dX10_comesRule_14 : decode cX10_comesRule 14 = .ok (.bipush 10, 2) := by decide +kernel
theorem dX10_comesRule_16 : decode cX10_comesRule 16 = .ok (.aload_n 0, 1) := by decide +kernel
theorem dX10_comesRule_17 : decode cX10_comesRule 17 = .ok (.getfield 102, 3) := by decide +kernel
theorem dX10_comesRule_20 : decode cX10_comesRule 20 = .ok (.iadd, 1) := by decide +kernel
theorem dX10_comesRule_21 : decode cX10_comesRule 21 = .ok (.invokevirtual 95, 3) := by decide +kernel
theorem dX10_comesRule_24 : decode cX10_comesRule 24 = .ok (.aload_n 0, 1) := by decide +kernel
theorem dX10_comesRule_25 : decode cX10_comesRule 25 = .ok (.getfield 19, 3) := by decide +kernel
theorem dX10_comesRule_28 : decode cX10_comesRule 28 = .ok (.aload_n 0, 1) := by decide +kernel
theorem dX10_comesRule_29 : decode cX10_comesRule 29 = .ok (.getfield 102, 3) := by decide +kernel
theorem dX10_comesRule_32 : decode cX10_comesRule 32 = .ok (.iload_n 2, 1) := by decide +kernel
theorem dX10_comesRule_33 : decode cX10_comesRule 33 = .ok (.iconst (-1), 1) := by decide +kernel
theorem dX10_comesRule_34 : decode cX10_comesRule 34 = .ok (.if_icmp .ne 7, 3) := by decide +kernel
theorem dX10_comesRule_37 : decode cX10_comesRule 37 = .ok (.iconst 1, 1) := by decide +kernel
theorem dX10_comesRule_38 : decode cX10_comesRule 38 = .ok (.goto 4, 3) := by decide +kernel
theorem dX10_comesRule_41 : decode cX10_comesRule 41 = .ok (.iconst 0, 1) := by decide +kernel
theorem dX10_comesRule_42 : decode cX10_comesRule 42 = .ok (.bastore, 1) := by decide +kernel
theorem dX10_comesRule_43 : decode cX10_comesRule 43 = .ok (.aload_n 0, 1) := by decide +kernel
theorem dX10_comesRule_44 : decode cX10_comesRule 44 = .ok (.getfield 16, 3) := by decide +kernel
theorem dX10_comesRule_47 : decode cX10_comesRule 47 = .ok (.bipush 18, 2) := by decide +kernel
theorem dX10_comesRule_49 : decode cX10_comesRule 49 = .ok (.aload_n 0, 1) := by decide +kernel
theorem dX10_comesRule_50 : decode cX10_comesRule 50 = .ok (.getfield 102, 3) := by decide +kernel
theorem dX10_comesRule_53 : decode cX10_comesRule 53 = .ok (.iadd, 1) := by decide +kernel
theorem dX10_comesRule_54 : decode cX10_comesRule 54 = .ok (.iconst 0, 1) := by decide +kernel
theorem dX10_comesRule_55 : decode cX10_comesRule 55 = .ok (.iastore, 1) := by decide +kernel
theorem dX10_comesRule_56 : decode cX10_comesRule 56 = .ok (.iload_n 2, 1) := by decide +kernel
theorem dX10_comesRule_57 : decode cX10_comesRule 57 = .ok (.iconst (-1), 1) := by decide +kernel
theorem dX10_comesRule_58 : decode cX10_comesRule 58 = .ok (.if_icmp .eq 15, 3) := by decide +kernel
theorem dX10_comesRule_61 : decode cX10_comesRule 61 = .ok (.aload_n 0, 1) := by decide +kernel
theorem dX10_comesRule_62 : decode cX10_comesRule 62 = .ok (.iload_n 2, 1) := by decide +kernel
theorem dX10_comesRule_63 : decode cX10_comesRule 63 = .ok (.bipush 18, 2) := by decide +kernel
theorem dX10_comesRule_65 : decode cX10_comesRule 65 = .ok (.aload_n 0, 1) := by decide +kernel
theorem dX10_comesRule_66 : decode cX10_comesRule 66 = .ok (.getfield 102, 3) := by decide +kernel
theorem dX10_comesRule_69 : decode cX10_comesRule 69 = .ok (.iadd, 1) := by decide +kernel
theorem dX10_comesRule_70 : decode cX10_comesRule 70 = .ok (.invokevirtual 95, 3) := by decide +kernel
theorem dX10_comesRule_73 : decode cX10_comesRule 73 = .ok (.aload_n 0, 1) := by decide +kernel
theorem dX10_comesRule_74 : decode cX10_comesRule 74 = .ok (.dup, 1) := by decide +kernel
theorem dX10_comesRule_75 : decode cX10_comesRule 75 = .ok (.getfield 102, 3) := by decide +kernel
theorem dX10_comesRule_78 : decode cX10_comesRule 78 = .ok (.iconst 1, 1) := by decide +kernel
theorem dX10_comesRule_79 : decode cX10_comesRule 79 = .ok (.iadd, 1) := by decide +kernel
theorem dX10_comesRule_80 : decode cX10_comesRule 80 = .ok (.putfield 102, 3) := by decide +kernel
theorem dX10_comesRule_83 : decode cX10_comesRule 83 = .ok (.aload_n 0, 1) := by decide +kernel
theorem dX10_comesRule_84 : decode cX10_comesRule 84 = .ok (.iconst 0, 1) := by decide +kernel
theorem dX10_comesRule_85 : decode cX10_comesRule 85 = .ok (.putfield 59, 3) := by decide +kernel
theorem dX10_comesRule_88 : decode cX10_comesRule 88 = .ok (.aload_n 0, 1) := by decide +kernel
theorem dX10_comesRule_89 : decode cX10_comesRule 89 = .ok (.getfield 102, 3) := by decide +kernel
theorem dX10_comesRule_92 : decode cX10_comesRule 92 = .ok (.iconst 1, 1) := by decide +kernel
theorem dX10_comesRule_93 : decode cX10_comesRule 93 = .ok (.isub, 1) := by decide +kernel
theorem dX10_comesRule_94 : decode cX10_comesRule 94 = .ok (.ireturn, 1) := by decide +kernel
set_option maxRecDepth 20000 in
theorem ggX10_rule_X10_isLeft : GoodIn wsX10_rule wsX10_isLeft := goodIn_r _ [5, 6, 7, 8, 9, 4, 10, 11, 12, 13, 14, 15, 16, 17, 18, 19, 20, 21, 22, 23, 24, 25, 26, 27, 28, 29, 30, 31, 32, 33, 34, 46, 47, 48, 49, 50, 51, 52, 53, 54, 55, 56, 57, 58, 59, 60, 61, 62, 63, 64, 65, 66, 67] (by decide +kernel) (by decide +kernel)
set_option maxRecDepth 20000 in
theorem gX10_rule_X10_isLeft : GoodIn wsX10_rule (wsV RX10 105 RX10 yX10_isLeft wsX10_isLeft) := goodIn_app (goodIn_of _ (by decide +kernel)) ggX10_rule_X10_isLeft
set_option maxRecDepth 20000 in
theorem ggX10_rule_X10_isTreeRow : GoodIn wsX10_rule wsX10_isTreeRow := goodIn_r _ [10, 11, 12, 4, 13, 14, 15, 16, 17, 18, 19, 20, 6, 21, 22, 23, 24, 25, 26, 27, 28, 29, 30, 46, 47, 48, 49, 50, 51, 52, 53, 54, 55, 56, 57, 58, 59, 60, 61, 62, 63, 64, 65, 66, 67] (by decide +kernel) (by decide +kernel)
set_option maxRecDepth 20000 in
theorem gX10_rule_X10_isTreeRow : GoodIn wsX10_rule (wsV RX10 88 RX10 yX10_isTreeRow wsX10_isTreeRow) := goodIn_app (goodIn_of _ (by decide +kernel)) ggX10_rule_X10_isTreeRow
set_option maxRecDepth 20000 in
theorem ggX10_rule_X10_leaves : GoodIn wsX10_rule wsX10_leaves := goodIn_r _ [34, 6, 25, 46, 47, 48, 49, 50, 51, 52, 53, 54, 55, 56, 57, 58, 59, 60, 61, 62, 63, 64, 65, 66, 67] (by decide +kernel) (by decide +kernel)
set_option maxRecDepth 20000 in
theorem gX10_rule_X10_leaves : GoodIn wsX10_rule (wsV RX10 82 RX10 yX10_leaves wsX10_leaves) := goodIn_app (goodIn_of _ (by decide +kernel)) ggX10_rule_X10_leaves
set_option maxRecDepth 20000 in
theorem ggX10_rule_X10_comesRule : GoodIn wsX10_rule wsX10_comesRule := goodIn_r _ [38, 39, 40, 6, 41, 42, 43, 44, 4, 45, 25, 46, 47, 48, 49, 50, 51, 52, 53, 54, 55, 56, 57, 58, 59, 60, 61, 62, 63, 64, 65, 66, 67] (by decide +kernel) (by decide +kernel)
set_option maxRecDepth 20000 in
theorem gX10_rule_X10_comesRule : GoodIn wsX10_rule (wsV RX10 108 RX10 yX10_comesRule wsX10_comesRule) := goodIn_app (goodIn_of _ (by decide +kernel)) ggX10_rule_X10_comesRule
theorem dX10_rule_0 : decode cX10_rule 0 = .ok (.aload_n 0, 1) := by decide +kernel
theorem dX10_rule_1 : decode cX10_rule 1 = .ok (.iload_n 1, 1) := by decide +kernel
theorem dX10_rule_2 : decode cX10_rule 2 = .ok (.invokevirtual 105, 3) := by decide +kernel
theorem dX10_rule_5 : decode cX10_rule 5 = .ok (.ifCond .eq 11, 3) := by decide +kernel
theorem dX10_rule_8 : decode cX10_rule 8 = .ok (.aload_n 0, 1) := by decide +kernel
theorem dX10_rule_9 : decode cX10_rule 9 = .ok (.iload_n 2, 1) := by decide +kernel
theorem dX10_rule_10 : decode cX10_rule 10 = .ok (.invokevirtual 88, 3) := by decide +kernel
theorem dX10_rule_13 : decode cX10_rule 13 = .ok (.ifCond .ne 6, 3) := by decide +kernel
theorem dX10_rule_16 : decode cX10_rule 16 = .ok (.bipush (-2), 2) := by decide +kernel
theorem dX10_rule_18 : decode cX10_rule 18 = .ok (.ireturn, 1) := by decide +kernel
theorem dX10_rule_19 : decode cX10_rule 19 = .ok (.aload_n 0, 1) := by decide +kernel
theorem dX10_rule_20 : decode cX10_rule 20 = .ok (.iload_n 1, 1) := by decide +kernel
theorem dX10_rule_21 : decode cX10_rule 21 = .ok (.invokevirtual 82, 3) := by decide +kernel
theorem dX10_rule_24 : decode cX10_rule 24 = .ok (.aload_n 0, 1) := by decide +kernel
theorem dX10_rule_25 : decode cX10_rule 25 = .ok (.iload_n 2, 1) := by decide +kernel
theorem dX10_rule_26 : decode cX10_rule 26 = .ok (.invokevirtual 82, 3) := by decide +kernel
theorem dX10_rule_29 : decode cX10_rule 29 = .ok (.if_icmp .eq 8, 3) := by decide +kernel
theorem dX10_rule_32 : decode cX10_rule 32 = .ok (.bipush (-3), 2) := by decide +kernel
theorem dX10_rule_34 : decode cX10_rule 34 = .ok (.goto 9, 3) := by decide +kernel
theorem dX10_rule_37 : decode cX10_rule 37 = .ok (.aload_n 0, 1) := by decide +kernel
theorem dX10_rule_38 : decode cX10_rule 38 = .ok (.iload_n 1, 1) := by decide +kernel
theorem dX10_rule_39 : decode cX10_rule 39 = .ok (.iload_n 2, 1) := by decide +kernel
theorem dX10_rule_40 : decode cX10_rule 40 = .ok (.invokevirtual 108, 3) := by decide +kernel
theorem dX10_rule_43 : decode cX10_rule 43 = .ok (.ireturn, 1) := by decide +kernel
set_option maxRecDepth 20000 in
theorem ggX10_nought_X10_isLeft : GoodIn wsX10_nought wsX10_isLeft := goodIn_r _ [5, 6, 7, 8, 9, 4, 10, 11, 12, 13, 14, 15, 16, 17, 18, 19, 20, 21, 22, 23, 24, 25, 26, 27, 28, 29, 30, 31, 32, 33, 34, 46, 47, 48, 49, 50, 51, 52, 53, 54, 55, 56, 57, 58, 59, 60, 61, 62, 63, 64, 65, 66, 67] (by decide +kernel) (by decide +kernel)
set_option maxRecDepth 20000 in
theorem gX10_nought_X10_isLeft : GoodIn wsX10_nought (wsV RX10 105 RX10 yX10_isLeft wsX10_isLeft) := goodIn_app (goodIn_of _ (by decide +kernel)) ggX10_nought_X10_isLeft
set_option maxRecDepth 20000 in
theorem ggX10_nought_X10_comesRule : GoodIn wsX10_nought wsX10_comesRule := goodIn_r _ [38, 39, 40, 6, 41, 42, 43, 44, 4, 45, 25, 46, 47, 48, 49, 50, 51, 52, 53, 54, 55, 56, 57, 58, 59, 60, 61, 62, 63, 64, 65, 66, 67] (by decide +kernel) (by decide +kernel)
set_option maxRecDepth 20000 in
theorem gX10_nought_X10_comesRule : GoodIn wsX10_nought (wsV RX10 108 RX10 yX10_comesRule wsX10_comesRule) := goodIn_app (goodIn_of _ (by decide +kernel)) ggX10_nought_X10_comesRule
theorem dX10_nought_0 : decode cX10_nought 0 = .ok (.aload_n 0, 1) := by decide +kernel
theorem dX10_nought_1 : decode cX10_nought 1 = .ok (.iload_n 1, 1) := by decide +kernel
theorem dX10_nought_2 : decode cX10_nought 2 = .ok (.invokevirtual 105, 3) := by decide +kernel
theorem dX10_nought_5 : decode cX10_nought 5 = .ok (.ifCond .eq 12, 3) := by decide +kernel
theorem dX10_nought_8 : decode cX10_nought 8 = .ok (.aload_n 0, 1) := by decide +kernel
theorem dX10_nought_9 : decode cX10_nought 9 = .ok (.iload_n 1, 1) := by decide +kernel
theorem dX10_nought_10 : decode cX10_nought 10 = .ok (.iconst (-1), 1) := by decide +kernel
theorem dX10_nought_11 : decode cX10_nought 11 = .ok (.invokevirtual 108, 3) := by decide +kernel
theorem dX10_nought_14 : decode cX10_nought 14 = .ok (.goto 5, 3) := by decide +kernel
theorem dX10_nought_17 : decode cX10_nought 17 = .ok (.bipush (-2), 2) := by decide +kernel
theorem dX10_nought_19 : decode cX10_nought 19 = .ok (.ireturn, 1) := by decide +kernel
theorem dX10_unrule_0 : decode cX10_unrule 0 = .ok (.aload_n 0, 1) := by decide +kernel
theorem dX10_unrule_1 : decode cX10_unrule 1 = .ok (.getfield 102, 3) := by decide +kernel
theorem dX10_unrule_4 : decode cX10_unrule 4 = .ok (.istore_n 1, 1) := by decide +kernel
theorem dX10_unrule_5 : decode cX10_unrule 5 = .ok (.aload_n 0, 1) := by decide +kernel
theorem dX10_unrule_6 : decode cX10_unrule 6 = .ok (.iconst 0, 1) := by decide +kernel
theorem dX10_unrule_7 : decode cX10_unrule 7 = .ok (.putfield 102, 3) := by decide +kernel
theorem dX10_unrule_10 : decode cX10_unrule 10 = .ok (.aload_n 0, 1) := by decide +kernel
theorem dX10_unrule_11 : decode cX10_unrule 11 = .ok (.iconst 0, 1) := by decide +kernel
theorem dX10_unrule_12 : decode cX10_unrule 12 = .ok (.putfield 59, 3) := by decide +kernel
theorem dX10_unrule_15 : decode cX10_unrule 15 = .ok (.iload_n 1, 1) := by decide +kernel
theorem dX10_unrule_16 : decode cX10_unrule 16 = .ok (.ireturn, 1) := by decide +kernel
set_option maxRecDepth 20000 in
theorem ggX10_isRule_X10_in : GoodIn wsX10_isRule wsX10_in := goodIn_r _ [5] (by decide +kernel) (by decide +kernel)
set_option maxRecDepth 20000 in
theorem gX10_isRule_X10_in : GoodIn wsX10_isRule (va_wsS RX10 51 yX10_in wsX10_in) := goodIn_app (goodIn_of _ (by decide +kernel)) ggX10_isRule_X10_in
theorem dX10_isRule_0 : decode cX10_isRule 0 = .ok (.iload_n 1, 1) := by decide +kernel
theorem dX10_isRule_1 : decode cX10_isRule 1 = .ok (.iconst 0, 1) := by decide +kernel
theorem dX10_isRule_2 : decode cX10_isRule 2 = .ok (.aload_n 0, 1) := by decide +kernel
theorem dX10_isRule_3 : decode cX10_isRule 3 = .ok (.getfield 102, 3) := by decide +kernel
theorem dX10_isRule_6 : decode cX10_isRule 6 = .ok (.iconst 1, 1) := by decide +kernel
theorem dX10_isRule_7 : decode cX10_isRule 7 = .ok (.isub, 1) := by decide +kernel
theorem dX10_isRule_8 : decode cX10_isRule 8 = .ok (.invokestatic 51, 3) := by decide +kernel
theorem dX10_isRule_11 : decode cX10_isRule 11 = .ok (.ireturn, 1) := by decide +kernel
set_option maxRecDepth 20000 in
theorem ggX10_side_X10_isRule : GoodIn wsX10_side wsX10_isRule := goodIn_r _ [6, 7, 8, 9, 5, 10, 19, 20, 21, 22, 23, 24, 25, 26, 27, 28, 29, 30, 31, 32, 33, 34, 35, 36, 37, 38, 39, 40] (by decide +kernel) (by decide +kernel)
set_option maxRecDepth 20000 in
theorem gX10_side_X10_isRule : GoodIn wsX10_side (wsV RX10 111 RX10 yX10_isRule wsX10_isRule) := goodIn_app (goodIn_of _ (by decide +kernel)) ggX10_side_X10_isRule
set_option maxRecDepth 20000 in
theorem ggX10_side_X10_in : GoodIn wsX10_side wsX10_in := goodIn_r _ [10] (by decide +kernel) (by decide +kernel)
set_option maxRecDepth 20000 in
theorem gX10_side_X10_in : GoodIn wsX10_side (va_wsS RX10 51 yX10_in wsX10_in) := goodIn_app (goodIn_of _ (by decide +kernel)) ggX10_side_X10_in
set_option maxRecDepth 20000 in
theorem ggX10_side_X10_isRow : GoodIn wsX10_side wsX10_isRow := goodIn_r _ [13, 8, 9, 5, 10] (by decide +kernel) (by decide +kernel)
set_option maxRecDepth 20000 in
theorem gX10_side_X10_isRow : GoodIn wsX10_side (va_wsS RX10 63 yX10_isRow wsX10_isRow) := goodIn_app (goodIn_of _ (by decide +kernel)) ggX10_side_X10_isRow
set_option maxRecDepth 20000 in
theorem ggX10_side_X10_copy : GoodIn wsX10_side wsX10_copy := goodIn_r _ [17, 1, 18, 19, 20, 21, 22, 23, 24, 25, 26, 27, 28, 29, 30, 31, 32, 33, 34, 35, 36, 37, 38, 39, 40] (by decide +kernel) (by decide +kernel)
set_option maxRecDepth 20000 in
theorem gX10_side_X10_copy : GoodIn wsX10_side (wsV RX10 95 RX10 yX10_copy wsX10_copy) := goodIn_app (goodIn_of _ (by decide +kernel)) ggX10_side_X10_copy
theorem dX10_side_0 : decode cX10_side 0 = .ok (.aload_n 0, 1) := by decide +kernel
theorem dX10_side_1 : decode cX10_side 1 = .ok (.iload_n 1, 1) := by decide +kernel
theorem dX10_side_2 : decode cX10_side 2 = .ok (.invokevirtual 111, 3) := by decide +kernel
theorem dX10_side_5 : decode cX10_side 5 = .ok (.ifCond .eq 19, 3) := by decide +kernel
theorem dX10_side_8 : decode cX10_side 8 = .ok (.iload_n 2, 1) := by decide +kernel
theorem dX10_side_9 : decode cX10_side 9 = .ok (.iconst 0, 1) := by decide +kernel
theorem dX10_side_10 : decode cX10_side 10 = .ok (.iconst 1, 1) := by decide +kernel
theorem dX10_side_11 : decode cX10_side 11 = .ok (.invokestatic 51, 3) := by decide +kernel
theorem dX10_side_14 : decode cX10_side 14 = .ok (.ifCond .eq 10, 3) := by decide +kernel
theorem dX10_side_17 : decode cX10_side 17 = .ok (.iload_n 3, 1) := by decide +kernel
theorem dX10_side_18 : decode cX10_side 18 = .ok (.invokestatic 63, 3) := by decide +kernel
theorem dX10_side_21 : decode cX10_side 21 = .ok (.ifCond .ne 6, 3) := by decide +kernel
theorem dX10_side_24 : decode cX10_side 24 = .ok (.bipush (-2), 2) := by decide +kernel
theorem dX10_side_26 : decode cX10_side 26 = .ok (.ireturn, 1) := by decide +kernel
theorem dX10_side_27 : decode cX10_side 27 = .ok (.aload_n 0, 1) := by decide +kernel
theorem dX10_side_28 : decode cX10_side 28 = .ok (.iload_n 2, 1) := by decide +kernel
theorem dX10_side_29 : decode cX10_side 29 = .ok (.ifCond .ne 8, 3) := by decide +kernel
theorem dX10_side_32 : decode cX10_side 32 = .ok (.bipush 10, 2) := by decide +kernel
theorem dX10_side_34 : decode cX10_side 34 = .ok (.goto 5, 3) := by decide +kernel
theorem dX10_side_37 : decode cX10_side 37 = .ok (.bipush 18, 2) := by decide +kernel
theorem dX10_side_39 : decode cX10_side 39 = .ok (.iload_n 1, 1) := by decide +kernel
theorem dX10_side_40 : decode cX10_side 40 = .ok (.iadd, 1) := by decide +kernel
theorem dX10_side_41 : decode cX10_side 41 = .ok (.iload_n 3, 1) := by decide +kernel
theorem dX10_side_42 : decode cX10_side 42 = .ok (.invokevirtual 95, 3) := by decide +kernel
theorem dX10_side_45 : decode cX10_side 45 = .ok (.aload_n 0, 1) := by decide +kernel
theorem dX10_side_46 : decode cX10_side 46 = .ok (.getfield 16, 3) := by decide +kernel
theorem dX10_side_49 : decode cX10_side 49 = .ok (.iload_n 3, 1) := by decide +kernel
theorem dX10_side_50 : decode cX10_side 50 = .ok (.iaload, 1) := by decide +kernel
theorem dX10_side_51 : decode cX10_side 51 = .ok (.ireturn, 1) := by decide +kernel
set_option maxRecDepth 20000 in
theorem ggX10_lies_X10_end : GoodIn wsX10_lies wsX10_end := goodIn_r _ [11, 2, 3, 12, 13, 14, 10, 15, 16, 17, 18, 19, 20, 21, 22, 23, 24, 25, 26, 27, 28, 29, 30, 31, 32, 33, 34, 35, 36, 37, 38] (by decide +kernel) (by decide +kernel)
set_option maxRecDepth 20000 in
theorem gX10_lies_X10_end : GoodIn wsX10_lies (wsV RX10 75 RX10 yX10_end wsX10_end) := goodIn_app (goodIn_of _ (by decide +kernel)) ggX10_lies_X10_end
theorem dX10_lies_0 : decode cX10_lies 0 = .ok (.bipush 10, 2) := by decide +kernel
theorem dX10_lies_2 : decode cX10_lies 2 = .ok (.iload_n 1, 1) := by decide +kernel
theorem dX10_lies_3 : decode cX10_lies 3 = .ok (.iadd, 1) := by decide +kernel
theorem dX10_lies_4 : decode cX10_lies 4 = .ok (.istore 4, 2) := by decide +kernel
theorem dX10_lies_6 : decode cX10_lies 6 = .ok (.iload_n 3, 1) := by decide +kernel
theorem dX10_lies_7 : decode cX10_lies 7 = .ok (.istore 5, 2) := by decide +kernel
theorem dX10_lies_9 : decode cX10_lies 9 = .ok (.aload_n 0, 1) := by decide +kernel
theorem dX10_lies_10 : decode cX10_lies 10 = .ok (.iconst 0, 1) := by decide +kernel
theorem dX10_lies_11 : decode cX10_lies 11 = .ok (.putfield 114, 3) := by decide +kernel
theorem dX10_lies_14 : decode cX10_lies 14 = .ok (.iconst 0, 1) := by decide +kernel
theorem dX10_lies_15 : decode cX10_lies 15 = .ok (.istore 6, 2) := by decide +kernel
theorem dX10_lies_17 : decode cX10_lies 17 = .ok (.iload 6, 2) := by decide +kernel
theorem dX10_lies_19 : decode cX10_lies 19 = .ok (.aload_n 0, 1) := by decide +kernel
theorem dX10_lies_20 : decode cX10_lies 20 = .ok (.getfield 16, 3) := by decide +kernel
theorem dX10_lies_23 : decode cX10_lies 23 = .ok (.iload 4, 2) := by decide +kernel
theorem dX10_lies_25 : decode cX10_lies 25 = .ok (.iaload, 1) := by decide +kernel
theorem dX10_lies_26 : decode cX10_lies 26 = .ok (.if_icmp .ge 121, 3) := by decide +kernel
theorem dX10_lies_29 : decode cX10_lies 29 = .ok (.iload 5, 2) := by decide +kernel
theorem dX10_lies_31 : decode cX10_lies 31 = .ok (.aload_n 0, 1) := by decide +kernel
theorem dX10_lies_32 : decode cX10_lies 32 = .ok (.getfield 16, 3) := by decide +kernel
theorem dX10_lies_35 : decode cX10_lies 35 = .ok (.iload_n 2, 1) := by decide +kernel
theorem dX10_lies_36 : decode cX10_lies 36 = .ok (.iaload, 1) := by decide +kernel
theorem dX10_lies_37 : decode cX10_lies 37 = .ok (.if_icmp .lt 5, 3) := by decide +kernel
theorem dX10_lies_40 : decode cX10_lies 40 = .ok (.iconst 0, 1) := by decide +kernel
theorem dX10_lies_41 : decode cX10_lies 41 = .ok (.ireturn, 1) := by decide +kernel
theorem dX10_lies_42 : decode cX10_lies 42 = .ok (.aload_n 0, 1) := by decide +kernel
theorem dX10_lies_43 : decode cX10_lies 43 = .ok (.getfield 13, 3) := by decide +kernel
theorem dX10_lies_46 : decode cX10_lies 46 = .ok (.bipush 60, 2) := by decide +kernel
theorem dX10_lies_48 : decode cX10_lies 48 = .ok (.iload 4, 2) := by decide +kernel
theorem dX10_lies_50 : decode cX10_lies 50 = .ok (.imul, 1) := by decide +kernel
theorem dX10_lies_51 : decode cX10_lies 51 = .ok (.iload 6, 2) := by decide +kernel
theorem dX10_lies_53 : decode cX10_lies 53 = .ok (.iadd, 1) := by decide +kernel
theorem dX10_lies_54 : decode cX10_lies 54 = .ok (.iaload, 1) := by decide +kernel
theorem dX10_lies_55 : decode cX10_lies 55 = .ok (.istore 7, 2) := by decide +kernel
theorem dX10_lies_57 : decode cX10_lies 57 = .ok (.iload 7, 2) := by decide +kernel
theorem dX10_lies_59 : decode cX10_lies 59 = .ok (.iconst (-1), 1) := by decide +kernel
theorem dX10_lies_60 : decode cX10_lies 60 = .ok (.if_icmp .ne 59, 3) := by decide +kernel
theorem dX10_lies_63 : decode cX10_lies 63 = .ok (.aload_n 0, 1) := by decide +kernel
theorem dX10_lies_64 : decode cX10_lies 64 = .ok (.iload_n 2, 1) := by decide +kernel
theorem dX10_lies_65 : decode cX10_lies 65 = .ok (.iload 5, 2) := by decide +kernel
theorem dX10_lies_67 : decode cX10_lies 67 = .ok (.invokevirtual 75, 3) := by decide +kernel
theorem dX10_lies_70 : decode cX10_lies 70 = .ok (.istore 8, 2) := by decide +kernel
theorem dX10_lies_72 : decode cX10_lies 72 = .ok (.iload 8, 2) := by decide +kernel
theorem dX10_lies_74 : decode cX10_lies 74 = .ok (.iconst (-1), 1) := by decide +kernel
theorem dX10_lies_75 : decode cX10_lies 75 = .ok (.if_icmp .ne 5, 3) := by decide +kernel
theorem dX10_lies_78 : decode cX10_lies 78 = .ok (.iconst 0, 1) := by decide +kernel
theorem dX10_lies_79 : decode cX10_lies 79 = .ok (.ireturn, 1) := by decide +kernel
theorem dX10_lies_80 : decode cX10_lies 80 = .ok (.aload_n 0, 1) := by decide +kernel
theorem dX10_lies_81 : decode cX10_lies 81 = .ok (.getfield 30, 3) := by decide +kernel
theorem dX10_lies_84 : decode cX10_lies 84 = .ok (.aload_n 0, 1) := by decide +kernel
theorem dX10_lies_85 : decode cX10_lies 85 = .ok (.getfield 114, 3) := by decide +kernel
theorem dX10_lies_88 : decode cX10_lies 88 = .ok (.iload 5, 2) := by decide +kernel
theorem dX10_lies_90 : decode cX10_lies 90 = .ok (.iastore, 1) := by decide +kernel
theorem dX10_lies_91 : decode cX10_lies 91 = .ok (.aload_n 0, 1) := by decide +kernel
theorem dX10_lies_92 : decode cX10_lies 92 = .ok (.getfield 33, 3) := by decide +kernel
theorem dX10_lies_95 : decode cX10_lies 95 = .ok (.aload_n 0, 1) := by decide +kernel
theorem dX10_lies_96 : decode cX10_lies 96 = .ok (.getfield 114, 3) := by decide +kernel
theorem dX10_lies_99 : decode cX10_lies 99 = .ok (.iload 8, 2) := by decide +kernel
theorem dX10_lies_101 : decode cX10_lies 101 = .ok (.iastore, 1) := by decide +kernel
theorem dX10_lies_102 : decode cX10_lies 102 = .ok (.aload_n 0, 1) := by decide +kernel
theorem dX10_lies_103 : decode cX10_lies 103 = .ok (.dup, 1) := by decide +kernel
theorem dX10_lies_104 : decode cX10_lies 104 = .ok (.getfield 114, 3) := by decide +kernel
theorem dX10_lies_107 : decode cX10_lies 107 = .ok (.iconst 1, 1) := by decide +kernel
theorem dX10_lies_108 : decode cX10_lies 108 = .ok (.iadd, 1) := by decide +kernel
theorem dX10_lies_109 : decode cX10_lies 109 = .ok (.putfield 114, 3) := by decide +kernel
theorem dX10_lies_112 : decode cX10_lies 112 = .ok (.iload 8, 2) := by decide +kernel
theorem dX10_lies_114 : decode cX10_lies 114 = .ok (.istore 5, 2) := by decide +kernel
theorem dX10_lies_116 : decode cX10_lies 116 = .ok (.goto 25, 3) := by decide +kernel
theorem dX10_lies_119 : decode cX10_lies 119 = .ok (.aload_n 0, 1) := by decide +kernel
theorem dX10_lies_120 : decode cX10_lies 120 = .ok (.getfield 13, 3) := by decide +kernel
theorem dX10_lies_123 : decode cX10_lies 123 = .ok (.bipush 60, 2) := by decide +kernel
theorem dX10_lies_125 : decode cX10_lies 125 = .ok (.iload_n 2, 1) := by decide +kernel
theorem dX10_lies_126 : decode cX10_lies 126 = .ok (.imul, 1) := by decide +kernel
theorem dX10_lies_127 : decode cX10_lies 127 = .ok (.iload 5, 2) := by decide +kernel
theorem dX10_lies_129 : decode cX10_lies 129 = .ok (.iadd, 1) := by decide +kernel
theorem dX10_lies_130 : decode cX10_lies 130 = .ok (.iaload, 1) := by decide +kernel
theorem dX10_lies_131 : decode cX10_lies 131 = .ok (.iload 7, 2) := by decide +kernel
theorem dX10_lies_133 : decode cX10_lies 133 = .ok (.if_icmp .eq 5, 3) := by decide +kernel
theorem dX10_lies_136 : decode cX10_lies 136 = .ok (.iconst 0, 1) := by decide +kernel
theorem dX10_lies_137 : decode cX10_lies 137 = .ok (.ireturn, 1) := by decide +kernel
theorem dX10_lies_138 : decode cX10_lies 138 = .ok (.iinc 5 1, 3) := by decide +kernel
theorem dX10_lies_141 : decode cX10_lies 141 = .ok (.iinc 6 1, 3) := by decide +kernel
theorem dX10_lies_144 : decode cX10_lies 144 = .ok (.goto (-127), 3) := by decide +kernel
theorem dX10_lies_147 : decode cX10_lies 147 = .ok (.aload_n 0, 1) := by decide +kernel
theorem dX10_lies_148 : decode cX10_lies 148 = .ok (.iload 5, 2) := by decide +kernel
theorem dX10_lies_150 : decode cX10_lies 150 = .ok (.putfield 117, 3) := by decide +kernel
theorem dX10_lies_153 : decode cX10_lies 153 = .ok (.iconst 1, 1) := by decide +kernel
theorem dX10_lies_154 : decode cX10_lies 154 = .ok (.ireturn, 1) := by decide +kernel
set_option maxRecDepth 20000 in
theorem ggX10_firstPlace_X10_lies : GoodIn wsX10_firstPlace wsX10_lies := goodIn_r _ [6, 7, 1, 8, 9, 10, 11, 12, 13, 14, 5, 15, 16, 17, 18, 19, 20, 21, 22, 23, 24, 25, 26, 27, 28, 29, 30, 31, 32, 33, 34, 35, 36, 37, 38, 39, 40, 41, 42] (by decide +kernel) (by decide +kernel)
set_option maxRecDepth 20000 in
theorem gX10_firstPlace_X10_lies : GoodIn wsX10_firstPlace (wsV RX10 120 RX10 yX10_lies wsX10_lies) := goodIn_app (goodIn_of _ (by decide +kernel)) ggX10_firstPlace_X10_lies
theorem dX10_firstPlace_0 : decode cX10_firstPlace 0 = .ok (.iconst 0, 1) := by decide +kernel
theorem dX10_firstPlace_1 : decode cX10_firstPlace 1 = .ok (.istore_n 3, 1) := by decide +kernel
theorem dX10_firstPlace_2 : decode cX10_firstPlace 2 = .ok (.iload_n 3, 1) := by decide +kernel
theorem dX10_firstPlace_3 : decode cX10_firstPlace 3 = .ok (.aload_n 0, 1) := by decide +kernel
theorem dX10_firstPlace_4 : decode cX10_firstPlace 4 = .ok (.getfield 16, 3) := by decide +kernel
theorem dX10_firstPlace_7 : decode cX10_firstPlace 7 = .ok (.iload_n 2, 1) := by decide +kernel
theorem dX10_firstPlace_8 : decode cX10_firstPlace 8 = .ok (.iaload, 1) := by decide +kernel
theorem dX10_firstPlace_9 : decode cX10_firstPlace 9 = .ok (.if_icmp .ge 21, 3) := by decide +kernel
theorem dX10_firstPlace_12 : decode cX10_firstPlace 12 = .ok (.aload_n 0, 1) := by decide +kernel
theorem dX10_firstPlace_13 : decode cX10_firstPlace 13 = .ok (.iload_n 1, 1) := by decide +kernel
theorem dX10_firstPlace_14 : decode cX10_firstPlace 14 = .ok (.iload_n 2, 1) := by decide +kernel
theorem dX10_firstPlace_15 : decode cX10_firstPlace 15 = .ok (.iload_n 3, 1) := by decide +kernel
theorem dX10_firstPlace_16 : decode cX10_firstPlace 16 = .ok (.invokevirtual 120, 3) := by decide +kernel
theorem dX10_firstPlace_19 : decode cX10_firstPlace 19 = .ok (.ifCond .eq 5, 3) := by decide +kernel
theorem dX10_firstPlace_22 : decode cX10_firstPlace 22 = .ok (.iload_n 3, 1) := by decide +kernel
theorem dX10_firstPlace_23 : decode cX10_firstPlace 23 = .ok (.ireturn, 1) := by decide +kernel
theorem dX10_firstPlace_24 : decode cX10_firstPlace 24 = .ok (.iinc 3 1, 3) := by decide +kernel
theorem dX10_firstPlace_27 : decode cX10_firstPlace 27 = .ok (.goto (-25), 3) := by decide +kernel
theorem dX10_firstPlace_30 : decode cX10_firstPlace 30 = .ok (.iconst (-1), 1) := by decide +kernel
theorem dX10_firstPlace_31 : decode cX10_firstPlace 31 = .ok (.ireturn, 1) := by decide +kernel
set_option maxRecDepth 20000 in
theorem ggX10_matches_X10_isRule : GoodIn wsX10_matches wsX10_isRule := goodIn_r _ [5, 6, 7, 8, 4, 9, 44, 45, 46, 47, 48, 49, 50, 51, 52, 53, 54, 55, 56, 57, 58, 59, 60, 61, 62, 63, 64, 65] (by decide +kernel) (by decide +kernel)
set_option maxRecDepth 20000 in
theorem gX10_matches_X10_isRule : GoodIn wsX10_matches (wsV RX10 111 RX10 yX10_isRule wsX10_isRule) := goodIn_app (goodIn_of _ (by decide +kernel)) ggX10_matches_X10_isRule
set_option maxRecDepth 20000 in
theorem ggX10_matches_X10_isTreeRow : GoodIn wsX10_matches wsX10_isTreeRow := goodIn_r _ [13, 14, 15, 4, 16, 7, 8, 9, 17, 18, 19, 20, 21, 22, 23, 24, 25, 26, 27, 28, 29, 30, 31, 44, 45, 46, 47, 48, 49, 50, 51, 52, 53, 54, 55, 56, 57, 58, 59, 60, 61, 62, 63, 64, 65] (by decide +kernel) (by decide +kernel)
set_option maxRecDepth 20000 in
theorem gX10_matches_X10_isTreeRow : GoodIn wsX10_matches (wsV RX10 88 RX10 yX10_isTreeRow wsX10_isTreeRow) := goodIn_app (goodIn_of _ (by decide +kernel)) ggX10_matches_X10_isTreeRow
set_option maxRecDepth 20000 in
theorem ggX10_matches_X10_firstPlace : GoodIn wsX10_matches wsX10_firstPlace := goodIn_r _ [35, 21, 36, 37, 38, 4, 39, 40, 26, 41, 42, 43, 22, 23, 24, 25, 27, 28, 29, 30, 31, 44, 45, 46, 47, 48, 49, 50, 51, 52, 53, 54, 55, 56, 57, 58, 59, 60, 61, 62, 63, 64, 65] (by decide +kernel) (by decide +kernel)
set_option maxRecDepth 20000 in
theorem gX10_matches_X10_firstPlace : GoodIn wsX10_matches (wsV RX10 123 RX10 yX10_firstPlace wsX10_firstPlace) := goodIn_app (goodIn_of _ (by decide +kernel)) ggX10_matches_X10_firstPlace
theorem dX10_matches_0 : decode cX10_matches 0 = .ok (.aload_n 0, 1) := by decide +kernel
theorem dX10_matches_1 : decode cX10_matches 1 = .ok (.iload_n 1, 1) := by decide +kernel
theorem dX10_matches_2 : decode cX10_matches 2 = .ok (.invokevirtual 111, 3) := by decide +kernel
theorem dX10_matches_5 : decode cX10_matches 5 = .ok (.ifCond .eq 20, 3) := by decide +kernel
theorem dX10_matches_8 : decode cX10_matches 8 = .ok (.aload_n 0, 1) := by decide +kernel
theorem dX10_matches_9 : decode cX10_matches 9 = .ok (.iload_n 2, 1) := by decide +kernel
theorem dX10_matches_10 : decode cX10_matches 10 = .ok (.invokevirtual 88, 3) := by decide +kernel
theorem dX10_matches_13 : decode cX10_matches 13 = .ok (.ifCond .eq 12, 3) := by decide +kernel
theorem dX10_matches_16 : decode cX10_matches 16 = .ok (.aload_n 0, 1) := by decide +kernel
theorem dX10_matches_17 : decode cX10_matches 17 = .ok (.iload_n 1, 1) := by decide +kernel
theorem dX10_matches_18 : decode cX10_matches 18 = .ok (.iload_n 2, 1) := by decide +kernel
theorem dX10_matches_19 : decode cX10_matches 19 = .ok (.invokevirtual 123, 3) := by decide +kernel
theorem dX10_matches_22 : decode cX10_matches 22 = .ok (.goto 5, 3) := by decide +kernel
theorem dX10_matches_25 : decode cX10_matches 25 = .ok (.bipush (-2), 2) := by decide +kernel
theorem dX10_matches_27 : decode cX10_matches 27 = .ok (.ireturn, 1) := by decide +kernel
set_option maxRecDepth 20000 in
theorem ggX10_uses_X10_adds : GoodIn wsX10_uses wsX10_adds := goodIn_r _ [11, 2, 3, 12, 13, 14, 10, 15, 20, 21, 22, 23, 24, 25, 26, 27, 28, 29, 30, 31, 32, 33, 34, 35, 36, 37, 38, 39, 40, 41] (by decide +kernel) (by decide +kernel)
set_option maxRecDepth 20000 in
theorem gX10_uses_X10_adds : GoodIn wsX10_uses (wsV RX10 91 RX10 yX10_adds wsX10_adds) := goodIn_app (goodIn_of _ (by decide +kernel)) ggX10_uses_X10_adds
set_option maxRecDepth 20000 in
theorem ggX10_uses_X10_copy : GoodIn wsX10_uses wsX10_copy := goodIn_r _ [19, 2, 3, 20, 21, 22, 23, 24, 25, 26, 27, 28, 29, 30, 31, 32, 33, 34, 35, 36, 37, 38, 39, 40, 41] (by decide +kernel) (by decide +kernel)
set_option maxRecDepth 20000 in
theorem gX10_uses_X10_copy : GoodIn wsX10_uses (wsV RX10 95 RX10 yX10_copy wsX10_copy) := goodIn_app (goodIn_of _ (by decide +kernel)) ggX10_uses_X10_copy
theorem dX10_uses_0 : decode cX10_uses 0 = .ok (.aload_n 0, 1) := by decide +kernel
theorem dX10_uses_1 : decode cX10_uses 1 = .ok (.getfield 19, 3) := by decide +kernel
theorem dX10_uses_4 : decode cX10_uses 4 = .ok (.iload_n 1, 1) := by decide +kernel
theorem dX10_uses_5 : decode cX10_uses 5 = .ok (.baload, 1) := by decide +kernel
theorem dX10_uses_6 : decode cX10_uses 6 = .ok (.ifCond .eq 12, 3) := by decide +kernel
theorem dX10_uses_9 : decode cX10_uses 9 = .ok (.aload_n 0, 1) := by decide +kernel
theorem dX10_uses_10 : decode cX10_uses 10 = .ok (.getfield 16, 3) := by decide +kernel
theorem dX10_uses_13 : decode cX10_uses 13 = .ok (.iload_n 2, 1) := by decide +kernel
theorem dX10_uses_14 : decode cX10_uses 14 = .ok (.iconst 0, 1) := by decide +kernel
theorem dX10_uses_15 : decode cX10_uses 15 = .ok (.iastore, 1) := by decide +kernel
theorem dX10_uses_16 : decode cX10_uses 16 = .ok (.iconst 2, 1) := by decide +kernel
theorem dX10_uses_17 : decode cX10_uses 17 = .ok (.ireturn, 1) := by decide +kernel
theorem dX10_uses_18 : decode cX10_uses 18 = .ok (.bipush 18, 2) := by decide +kernel
theorem dX10_uses_20 : decode cX10_uses 20 = .ok (.iload_n 1, 1) := by decide +kernel
theorem dX10_uses_21 : decode cX10_uses 21 = .ok (.iadd, 1) := by decide +kernel
theorem dX10_uses_22 : decode cX10_uses 22 = .ok (.istore 4, 2) := by decide +kernel
theorem dX10_uses_24 : decode cX10_uses 24 = .ok (.aload_n 0, 1) := by decide +kernel
theorem dX10_uses_25 : decode cX10_uses 25 = .ok (.getfield 16, 3) := by decide +kernel
theorem dX10_uses_28 : decode cX10_uses 28 = .ok (.bipush 28, 2) := by decide +kernel
theorem dX10_uses_30 : decode cX10_uses 30 = .ok (.iconst 0, 1) := by decide +kernel
theorem dX10_uses_31 : decode cX10_uses 31 = .ok (.iastore, 1) := by decide +kernel
theorem dX10_uses_32 : decode cX10_uses 32 = .ok (.aload_n 0, 1) := by decide +kernel
theorem dX10_uses_33 : decode cX10_uses 33 = .ok (.bipush 28, 2) := by decide +kernel
theorem dX10_uses_35 : decode cX10_uses 35 = .ok (.iload_n 2, 1) := by decide +kernel
theorem dX10_uses_36 : decode cX10_uses 36 = .ok (.iconst 0, 1) := by decide +kernel
theorem dX10_uses_37 : decode cX10_uses 37 = .ok (.iload_n 3, 1) := by decide +kernel
theorem dX10_uses_38 : decode cX10_uses 38 = .ok (.invokevirtual 91, 3) := by decide +kernel
theorem dX10_uses_41 : decode cX10_uses 41 = .ok (.istore 5, 2) := by decide +kernel
theorem dX10_uses_43 : decode cX10_uses 43 = .ok (.iconst 0, 1) := by decide +kernel
theorem dX10_uses_44 : decode cX10_uses 44 = .ok (.istore 6, 2) := by decide +kernel
theorem dX10_uses_46 : decode cX10_uses 46 = .ok (.iconst 0, 1) := by decide +kernel
theorem dX10_uses_47 : decode cX10_uses 47 = .ok (.istore 7, 2) := by decide +kernel
theorem dX10_uses_49 : decode cX10_uses 49 = .ok (.iload 7, 2) := by decide +kernel
theorem dX10_uses_51 : decode cX10_uses 51 = .ok (.aload_n 0, 1) := by decide +kernel
theorem dX10_uses_52 : decode cX10_uses 52 = .ok (.getfield 16, 3) := by decide +kernel
theorem dX10_uses_55 : decode cX10_uses 55 = .ok (.iload 4, 2) := by decide +kernel
theorem dX10_uses_57 : decode cX10_uses 57 = .ok (.iaload, 1) := by decide +kernel
theorem dX10_uses_58 : decode cX10_uses 58 = .ok (.if_icmp .ge 76, 3) := by decide +kernel
theorem dX10_uses_61 : decode cX10_uses 61 = .ok (.iload 5, 2) := by decide +kernel
theorem dX10_uses_63 : decode cX10_uses 63 = .ok (.ifCond .eq 71, 3) := by decide +kernel
theorem dX10_uses_66 : decode cX10_uses 66 = .ok (.aload_n 0, 1) := by decide +kernel
theorem dX10_uses_67 : decode cX10_uses 67 = .ok (.getfield 13, 3) := by decide +kernel
theorem dX10_uses_70 : decode cX10_uses 70 = .ok (.bipush 60, 2) := by decide +kernel
theorem dX10_uses_72 : decode cX10_uses 72 = .ok (.iload 4, 2) := by decide +kernel
theorem dX10_uses_74 : decode cX10_uses 74 = .ok (.imul, 1) := by decide +kernel
theorem dX10_uses_75 : decode cX10_uses 75 = .ok (.iload 7, 2) := by decide +kernel
theorem dX10_uses_77 : decode cX10_uses 77 = .ok (.iadd, 1) := by decide +kernel
theorem dX10_uses_78 : decode cX10_uses 78 = .ok (.iaload, 1) := by decide +kernel
theorem dX10_uses_79 : decode cX10_uses 79 = .ok (.iconst (-1), 1) := by decide +kernel
theorem dX10_uses_80 : decode cX10_uses 80 = .ok (.if_icmp .ne 32, 3) := by decide +kernel
theorem dX10_uses_83 : decode cX10_uses 83 = .ok (.aload_n 0, 1) := by decide +kernel
theorem dX10_uses_84 : decode cX10_uses 84 = .ok (.bipush 28, 2) := by decide +kernel
theorem dX10_uses_86 : decode cX10_uses 86 = .ok (.iload_n 2, 1) := by decide +kernel
theorem dX10_uses_87 : decode cX10_uses 87 = .ok (.aload_n 0, 1) := by decide +kernel
theorem dX10_uses_88 : decode cX10_uses 88 = .ok (.getfield 30, 3) := by decide +kernel
theorem dX10_uses_91 : decode cX10_uses 91 = .ok (.iload 6, 2) := by decide +kernel
theorem dX10_uses_93 : decode cX10_uses 93 = .ok (.iaload, 1) := by decide +kernel
theorem dX10_uses_94 : decode cX10_uses 94 = .ok (.aload_n 0, 1) := by decide +kernel
theorem dX10_uses_95 : decode cX10_uses 95 = .ok (.getfield 33, 3) := by decide +kernel
theorem dX10_uses_98 : decode cX10_uses 98 = .ok (.iload 6, 2) := by decide +kernel
theorem dX10_uses_100 : decode cX10_uses 100 = .ok (.iaload, 1) := by decide +kernel
theorem dX10_uses_101 : decode cX10_uses 101 = .ok (.invokevirtual 91, 3) := by decide +kernel
theorem dX10_uses_104 : decode cX10_uses 104 = .ok (.istore 5, 2) := by decide +kernel
theorem dX10_uses_106 : decode cX10_uses 106 = .ok (.iinc 6 1, 3) := by decide +kernel
theorem dX10_uses_109 : decode cX10_uses 109 = .ok (.goto 19, 3) := by decide +kernel
theorem dX10_uses_112 : decode cX10_uses 112 = .ok (.aload_n 0, 1) := by decide +kernel
theorem dX10_uses_113 : decode cX10_uses 113 = .ok (.bipush 28, 2) := by decide +kernel
theorem dX10_uses_115 : decode cX10_uses 115 = .ok (.iload 4, 2) := by decide +kernel
theorem dX10_uses_117 : decode cX10_uses 117 = .ok (.iload 7, 2) := by decide +kernel
theorem dX10_uses_119 : decode cX10_uses 119 = .ok (.iload 7, 2) := by decide +kernel
theorem dX10_uses_121 : decode cX10_uses 121 = .ok (.iconst 1, 1) := by decide +kernel
theorem dX10_uses_122 : decode cX10_uses 122 = .ok (.iadd, 1) := by decide +kernel
theorem dX10_uses_123 : decode cX10_uses 123 = .ok (.invokevirtual 91, 3) := by decide +kernel
theorem dX10_uses_126 : decode cX10_uses 126 = .ok (.istore 5, 2) := by decide +kernel
theorem dX10_uses_128 : decode cX10_uses 128 = .ok (.iinc 7 1, 3) := by decide +kernel
theorem dX10_uses_131 : decode cX10_uses 131 = .ok (.goto (-82), 3) := by decide +kernel
theorem dX10_uses_134 : decode cX10_uses 134 = .ok (.iload 5, 2) := by decide +kernel
theorem dX10_uses_136 : decode cX10_uses 136 = .ok (.ifCond .eq 27, 3) := by decide +kernel
theorem dX10_uses_139 : decode cX10_uses 139 = .ok (.aload_n 0, 1) := by decide +kernel
theorem dX10_uses_140 : decode cX10_uses 140 = .ok (.bipush 28, 2) := by decide +kernel
theorem dX10_uses_142 : decode cX10_uses 142 = .ok (.iload_n 2, 1) := by decide +kernel
theorem dX10_uses_143 : decode cX10_uses 143 = .ok (.aload_n 0, 1) := by decide +kernel
theorem dX10_uses_144 : decode cX10_uses 144 = .ok (.getfield 117, 3) := by decide +kernel
theorem dX10_uses_147 : decode cX10_uses 147 = .ok (.aload_n 0, 1) := by decide +kernel
theorem dX10_uses_148 : decode cX10_uses 148 = .ok (.getfield 16, 3) := by decide +kernel
theorem dX10_uses_151 : decode cX10_uses 151 = .ok (.iload_n 2, 1) := by decide +kernel
theorem dX10_uses_152 : decode cX10_uses 152 = .ok (.iaload, 1) := by decide +kernel
theorem dX10_uses_153 : decode cX10_uses 153 = .ok (.invokevirtual 91, 3) := by decide +kernel
theorem dX10_uses_156 : decode cX10_uses 156 = .ok (.ifCond .eq 7, 3) := by decide +kernel
theorem dX10_uses_159 : decode cX10_uses 159 = .ok (.iconst 1, 1) := by decide +kernel
theorem dX10_uses_160 : decode cX10_uses 160 = .ok (.goto 4, 3) := by decide +kernel
theorem dX10_uses_163 : decode cX10_uses 163 = .ok (.iconst 0, 1) := by decide +kernel
theorem dX10_uses_164 : decode cX10_uses 164 = .ok (.istore 5, 2) := by decide +kernel
theorem dX10_uses_166 : decode cX10_uses 166 = .ok (.iload 5, 2) := by decide +kernel
theorem dX10_uses_168 : decode cX10_uses 168 = .ok (.ifCond .ne 6, 3) := by decide +kernel
theorem dX10_uses_171 : decode cX10_uses 171 = .ok (.bipush (-5), 2) := by decide +kernel
theorem dX10_uses_173 : decode cX10_uses 173 = .ok (.ireturn, 1) := by decide +kernel
theorem dX10_uses_174 : decode cX10_uses 174 = .ok (.aload_n 0, 1) := by decide +kernel
theorem dX10_uses_175 : decode cX10_uses 175 = .ok (.bipush 28, 2) := by decide +kernel
theorem dX10_uses_177 : decode cX10_uses 177 = .ok (.iload_n 2, 1) := by decide +kernel
theorem dX10_uses_178 : decode cX10_uses 178 = .ok (.invokevirtual 95, 3) := by decide +kernel
theorem dX10_uses_181 : decode cX10_uses 181 = .ok (.iconst 1, 1) := by decide +kernel
theorem dX10_uses_182 : decode cX10_uses 182 = .ok (.ireturn, 1) := by decide +kernel
set_option maxRecDepth 20000 in
theorem ggX10_steps_X10_lies : GoodIn wsX10_steps wsX10_lies := goodIn_r _ [7, 8, 1, 9, 10, 11, 12, 13, 14, 15, 6, 16, 17, 18, 19, 20, 21, 39, 40, 41, 42, 43, 44, 45, 46, 47, 48, 49, 50, 51, 52, 53, 54, 55, 56, 57, 58, 59, 60] (by decide +kernel) (by decide +kernel)
set_option maxRecDepth 20000 in
theorem gX10_steps_X10_lies : GoodIn wsX10_steps (wsV RX10 120 RX10 yX10_lies wsX10_lies) := goodIn_app (goodIn_of _ (by decide +kernel)) ggX10_steps_X10_lies
set_option maxRecDepth 20000 in
theorem ggX10_steps_X10_uses : GoodIn wsX10_steps wsX10_uses := goodIn_r _ [25, 26, 1, 9, 10, 11, 12, 27, 28, 29, 6, 30, 31, 32, 33, 34, 35, 36, 37, 38, 39, 40, 41, 42, 43, 44, 45, 46, 47, 48, 49, 50, 51, 52, 53, 54, 55, 56, 57, 58, 59, 60] (by decide +kernel) (by decide +kernel)
set_option maxRecDepth 20000 in
theorem gX10_steps_X10_uses : GoodIn wsX10_steps (wsV RX10 126 RX10 yX10_uses wsX10_uses) := goodIn_app (goodIn_of _ (by decide +kernel)) ggX10_steps_X10_uses
theorem dX10_steps_0 : decode cX10_steps 0 = .ok (.iconst 0, 1) := by decide +kernel
theorem dX10_steps_1 : decode cX10_steps 1 = .ok (.istore_n 2, 1) := by decide +kernel
theorem dX10_steps_2 : decode cX10_steps 2 = .ok (.iload_n 2, 1) := by decide +kernel
theorem dX10_steps_3 : decode cX10_steps 3 = .ok (.aload_n 0, 1) := by decide +kernel
theorem dX10_steps_4 : decode cX10_steps 4 = .ok (.getfield 16, 3) := by decide +kernel
theorem dX10_steps_7 : decode cX10_steps 7 = .ok (.iload_n 1, 1) := by decide +kernel
theorem dX10_steps_8 : decode cX10_steps 8 = .ok (.iaload, 1) := by decide +kernel
theorem dX10_steps_9 : decode cX10_steps 9 = .ok (.if_icmp .ge 43, 3) := by decide +kernel
theorem dX10_steps_12 : decode cX10_steps 12 = .ok (.iconst 0, 1) := by decide +kernel
theorem dX10_steps_13 : decode cX10_steps 13 = .ok (.istore_n 3, 1) := by decide +kernel
theorem dX10_steps_14 : decode cX10_steps 14 = .ok (.iload_n 3, 1) := by decide +kernel
theorem dX10_steps_15 : decode cX10_steps 15 = .ok (.aload_n 0, 1) := by decide +kernel
theorem dX10_steps_16 : decode cX10_steps 16 = .ok (.getfield 102, 3) := by decide +kernel
theorem dX10_steps_19 : decode cX10_steps 19 = .ok (.if_icmp .ge 27, 3) := by decide +kernel
theorem dX10_steps_22 : decode cX10_steps 22 = .ok (.aload_n 0, 1) := by decide +kernel
theorem dX10_steps_23 : decode cX10_steps 23 = .ok (.iload_n 3, 1) := by decide +kernel
theorem dX10_steps_24 : decode cX10_steps 24 = .ok (.iload_n 1, 1) := by decide +kernel
theorem dX10_steps_25 : decode cX10_steps 25 = .ok (.iload_n 2, 1) := by decide +kernel
theorem dX10_steps_26 : decode cX10_steps 26 = .ok (.invokevirtual 120, 3) := by decide +kernel
theorem dX10_steps_29 : decode cX10_steps 29 = .ok (.ifCond .eq 11, 3) := by decide +kernel
theorem dX10_steps_32 : decode cX10_steps 32 = .ok (.aload_n 0, 1) := by decide +kernel
theorem dX10_steps_33 : decode cX10_steps 33 = .ok (.iload_n 3, 1) := by decide +kernel
theorem dX10_steps_34 : decode cX10_steps 34 = .ok (.iload_n 1, 1) := by decide +kernel
theorem dX10_steps_35 : decode cX10_steps 35 = .ok (.iload_n 2, 1) := by decide +kernel
theorem dX10_steps_36 : decode cX10_steps 36 = .ok (.invokevirtual 126, 3) := by decide +kernel
theorem dX10_steps_39 : decode cX10_steps 39 = .ok (.ireturn, 1) := by decide +kernel
theorem dX10_steps_40 : decode cX10_steps 40 = .ok (.iinc 3 1, 3) := by decide +kernel
theorem dX10_steps_43 : decode cX10_steps 43 = .ok (.goto (-29), 3) := by decide +kernel
theorem dX10_steps_46 : decode cX10_steps 46 = .ok (.iinc 2 1, 3) := by decide +kernel
theorem dX10_steps_49 : decode cX10_steps 49 = .ok (.goto (-47), 3) := by decide +kernel
theorem dX10_steps_52 : decode cX10_steps 52 = .ok (.iconst 0, 1) := by decide +kernel
theorem dX10_steps_53 : decode cX10_steps 53 = .ok (.ireturn, 1) := by decide +kernel
set_option maxRecDepth 20000 in
theorem ggX10_step_X10_isTreeRow : GoodIn wsX10_step wsX10_isTreeRow := goodIn_r _ [5, 6, 7, 4, 8, 9, 10, 11, 12, 13, 14, 15, 16, 17, 18, 19, 20, 21, 22, 23, 24, 25, 26, 57, 58, 59, 60, 61, 62, 63, 64, 65, 66, 67, 68, 69, 70, 71, 72, 73, 74, 75, 76, 77, 78] (by decide +kernel) (by decide +kernel)
set_option maxRecDepth 20000 in
theorem gX10_step_X10_isTreeRow : GoodIn wsX10_step (wsV RX10 88 RX10 yX10_isTreeRow wsX10_isTreeRow) := goodIn_app (goodIn_of _ (by decide +kernel)) ggX10_step_X10_isTreeRow
set_option maxRecDepth 20000 in
theorem ggX10_step_X10_steps : GoodIn wsX10_step wsX10_steps := goodIn_r _ [30, 16, 31, 32, 33, 34, 4, 35, 36, 21, 37, 38, 39, 17, 18, 19, 20, 22, 23, 24, 25, 26, 40, 41, 42, 43, 44, 45, 46, 47, 48, 49, 50, 51, 52, 53, 54, 55, 56, 57, 58, 59, 60, 61, 62, 63, 64, 65, 66, 67, 68, 69, 70, 71, 72, 73, 74, 75, 76, 77, 78] (by decide +kernel) (by decide +kernel)
set_option maxRecDepth 20000 in
theorem gX10_step_X10_steps : GoodIn wsX10_step (wsV RX10 130 RX10 yX10_steps wsX10_steps) := goodIn_app (goodIn_of _ (by decide +kernel)) ggX10_step_X10_steps
theorem dX10_step_0 : decode cX10_step 0 = .ok (.aload_n 0, 1) := by decide +kernel
theorem dX10_step_1 : decode cX10_step 1 = .ok (.iload_n 1, 1) := by decide +kernel
theorem dX10_step_2 : decode cX10_step 2 = .ok (.invokevirtual 88, 3) := by decide +kernel
theorem dX10_step_5 : decode cX10_step 5 = .ok (.ifCond .eq 11, 3) := by decide +kernel
theorem dX10_step_8 : decode cX10_step 8 = .ok (.aload_n 0, 1) := by decide +kernel
theorem dX10_step_9 : decode cX10_step 9 = .ok (.iload_n 1, 1) := by decide +kernel
theorem dX10_step_10 : decode cX10_step 10 = .ok (.invokevirtual 130, 3) := by decide +kernel
theorem dX10_step_13 : decode cX10_step 13 = .ok (.goto 5, 3) := by decide +kernel
theorem dX10_step_16 : decode cX10_step 16 = .ok (.bipush (-2), 2) := by decide +kernel
theorem dX10_step_18 : decode cX10_step 18 = .ok (.ireturn, 1) := by decide +kernel
set_option maxRecDepth 20000 in
theorem ggX10_normals_X10_steps : GoodIn wsX10_normals wsX10_steps := goodIn_r _ [5, 6, 7, 8, 9, 10, 4, 11, 12, 13, 14, 15, 16, 17, 18, 19, 20, 21, 22, 23, 24, 25, 26, 27, 28, 29, 30, 31, 32, 33, 34, 35, 36, 37, 38, 39, 40, 41, 42, 43, 44, 45, 46, 47, 48, 49, 50, 51, 52, 53, 54, 55, 56, 57, 58, 59, 60, 61, 62, 63, 64] (by decide +kernel) (by decide +kernel)
set_option maxRecDepth 20000 in
theorem gX10_normals_X10_steps : GoodIn wsX10_normals (wsV RX10 130 RX10 yX10_steps wsX10_steps) := goodIn_app (goodIn_of _ (by decide +kernel)) ggX10_normals_X10_steps
theorem dX10_normals_0 : decode cX10_normals 0 = .ok (.iconst 0, 1) := by decide +kernel
theorem dX10_normals_1 : decode cX10_normals 1 = .ok (.istore_n 2, 1) := by decide +kernel
theorem dX10_normals_2 : decode cX10_normals 2 = .ok (.aload_n 0, 1) := by decide +kernel
theorem dX10_normals_3 : decode cX10_normals 3 = .ok (.iload_n 1, 1) := by decide +kernel
theorem dX10_normals_4 : decode cX10_normals 4 = .ok (.invokevirtual 130, 3) := by decide +kernel
theorem dX10_normals_7 : decode cX10_normals 7 = .ok (.istore_n 3, 1) := by decide +kernel
theorem dX10_normals_8 : decode cX10_normals 8 = .ok (.iload_n 3, 1) := by decide +kernel
theorem dX10_normals_9 : decode cX10_normals 9 = .ok (.ifCond .ne 5, 3) := by decide +kernel
theorem dX10_normals_12 : decode cX10_normals 12 = .ok (.iload_n 2, 1) := by decide +kernel
theorem dX10_normals_13 : decode cX10_normals 13 = .ok (.ireturn, 1) := by decide +kernel
theorem dX10_normals_14 : decode cX10_normals 14 = .ok (.iinc 2 1, 3) := by decide +kernel
theorem dX10_normals_17 : decode cX10_normals 17 = .ok (.iload_n 3, 1) := by decide +kernel
theorem dX10_normals_18 : decode cX10_normals 18 = .ok (.bipush (-5), 2) := by decide +kernel
theorem dX10_normals_20 : decode cX10_normals 20 = .ok (.if_icmp .eq 10, 3) := by decide +kernel
theorem dX10_normals_23 : decode cX10_normals 23 = .ok (.iload_n 2, 1) := by decide +kernel
theorem dX10_normals_24 : decode cX10_normals 24 = .ok (.sipush 200, 3) := by decide +kernel
theorem dX10_normals_27 : decode cX10_normals 27 = .ok (.if_icmp .le 6, 3) := by decide +kernel
theorem dX10_normals_30 : decode cX10_normals 30 = .ok (.bipush (-5), 2) := by decide +kernel
theorem dX10_normals_32 : decode cX10_normals 32 = .ok (.ireturn, 1) := by decide +kernel
theorem dX10_normals_33 : decode cX10_normals 33 = .ok (.iload_n 3, 1) := by decide +kernel
theorem dX10_normals_34 : decode cX10_normals 34 = .ok (.iconst 2, 1) := by decide +kernel
theorem dX10_normals_35 : decode cX10_normals 35 = .ok (.if_icmp .ne 8, 3) := by decide +kernel
theorem dX10_normals_38 : decode cX10_normals 38 = .ok (.bipush (-10), 2) := by decide +kernel
theorem dX10_normals_40 : decode cX10_normals 40 = .ok (.iload_n 2, 1) := by decide +kernel
theorem dX10_normals_41 : decode cX10_normals 41 = .ok (.isub, 1) := by decide +kernel
theorem dX10_normals_42 : decode cX10_normals 42 = .ok (.ireturn, 1) := by decide +kernel
theorem dX10_normals_43 : decode cX10_normals 43 = .ok (.goto (-41), 3) := by decide +kernel
set_option maxRecDepth 20000 in
theorem ggX10_normal_X10_isTreeRow : GoodIn wsX10_normal wsX10_isTreeRow := goodIn_r _ [5, 6, 7, 4, 8, 9, 10, 11, 12, 13, 14, 15, 16, 17, 18, 19, 20, 21, 22, 23, 24, 25, 26, 61, 62, 63, 64, 65, 66, 67, 68, 69, 70, 71, 72, 73, 74, 75, 76, 77, 78, 79, 80, 81, 82] (by decide +kernel) (by decide +kernel)
set_option maxRecDepth 20000 in
theorem gX10_normal_X10_isTreeRow : GoodIn wsX10_normal (wsV RX10 88 RX10 yX10_isTreeRow wsX10_isTreeRow) := goodIn_app (goodIn_of _ (by decide +kernel)) ggX10_normal_X10_isTreeRow
set_option maxRecDepth 20000 in
theorem ggX10_normal_X10_copy : GoodIn wsX10_normal wsX10_copy := goodIn_r _ [30, 16, 21, 61, 62, 63, 64, 65, 66, 67, 68, 69, 70, 71, 72, 73, 74, 75, 76, 77, 78, 79, 80, 81, 82] (by decide +kernel) (by decide +kernel)
set_option maxRecDepth 20000 in
theorem gX10_normal_X10_copy : GoodIn wsX10_normal (wsV RX10 95 RX10 yX10_copy wsX10_copy) := goodIn_app (goodIn_of _ (by decide +kernel)) ggX10_normal_X10_copy
set_option maxRecDepth 20000 in
theorem ggX10_normal_X10_normals : GoodIn wsX10_normal wsX10_normals := goodIn_r _ [34, 35, 36, 37, 4, 38, 16, 39, 40, 41, 42, 43, 44, 21, 45, 46, 47, 17, 18, 19, 20, 22, 23, 24, 25, 26, 48, 49, 50, 51, 52, 53, 54, 55, 56, 57, 58, 59, 60, 27, 28, 29, 30, 61, 62, 63, 64, 65, 66, 67, 68, 69, 70, 71, 72, 73, 74, 75, 76, 77, 78, 79, 80, 81, 82] (by decide +kernel) (by decide +kernel)
set_option maxRecDepth 20000 in
theorem gX10_normal_X10_normals : GoodIn wsX10_normal (wsV RX10 133 RX10 yX10_normals wsX10_normals) := goodIn_app (goodIn_of _ (by decide +kernel)) ggX10_normal_X10_normals
theorem dX10_normal_0 : decode cX10_normal 0 = .ok (.aload_n 0, 1) := by decide +kernel
theorem dX10_normal_1 : decode cX10_normal 1 = .ok (.iload_n 1, 1) := by decide +kernel
theorem dX10_normal_2 : decode cX10_normal 2 = .ok (.invokevirtual 88, 3) := by decide +kernel
theorem dX10_normal_5 : decode cX10_normal 5 = .ok (.ifCond .ne 6, 3) := by decide +kernel
theorem dX10_normal_8 : decode cX10_normal 8 = .ok (.bipush (-2), 2) := by decide +kernel
theorem dX10_normal_10 : decode cX10_normal 10 = .ok (.ireturn, 1) := by decide +kernel
theorem dX10_normal_11 : decode cX10_normal 11 = .ok (.aload_n 0, 1) := by decide +kernel
theorem dX10_normal_12 : decode cX10_normal 12 = .ok (.iload_n 1, 1) := by decide +kernel
theorem dX10_normal_13 : decode cX10_normal 13 = .ok (.bipush 26, 2) := by decide +kernel
theorem dX10_normal_15 : decode cX10_normal 15 = .ok (.invokevirtual 95, 3) := by decide +kernel
theorem dX10_normal_18 : decode cX10_normal 18 = .ok (.aload_n 0, 1) := by decide +kernel
theorem dX10_normal_19 : decode cX10_normal 19 = .ok (.bipush 26, 2) := by decide +kernel
theorem dX10_normal_21 : decode cX10_normal 21 = .ok (.invokevirtual 133, 3) := by decide +kernel
theorem dX10_normal_24 : decode cX10_normal 24 = .ok (.istore_n 2, 1) := by decide +kernel
theorem dX10_normal_25 : decode cX10_normal 25 = .ok (.iload_n 2, 1) := by decide +kernel
theorem dX10_normal_26 : decode cX10_normal 26 = .ok (.bipush (-5), 2) := by decide +kernel
theorem dX10_normal_28 : decode cX10_normal 28 = .ok (.if_icmp .eq 10, 3) := by decide +kernel
theorem dX10_normal_31 : decode cX10_normal 31 = .ok (.aload_n 0, 1) := by decide +kernel
theorem dX10_normal_32 : decode cX10_normal 32 = .ok (.bipush 26, 2) := by decide +kernel
theorem dX10_normal_34 : decode cX10_normal 34 = .ok (.iload_n 1, 1) := by decide +kernel
theorem dX10_normal_35 : decode cX10_normal 35 = .ok (.invokevirtual 95, 3) := by decide +kernel
theorem dX10_normal_38 : decode cX10_normal 38 = .ok (.iload_n 2, 1) := by decide +kernel
theorem dX10_normal_39 : decode cX10_normal 39 = .ok (.ireturn, 1) := by decide +kernel
set_option maxRecDepth 20000 in
theorem ggX10_isBarred_X10_lies : GoodIn wsX10_isBarred wsX10_lies := goodIn_r _ [7, 8, 1, 9, 10, 11, 12, 13, 14, 15, 6, 16, 17, 18, 19, 20, 21, 22, 23, 24, 25, 26, 27, 28, 29, 30, 31, 32, 33, 34, 35, 36, 37, 38, 39, 40, 41, 42, 43] (by decide +kernel) (by decide +kernel)
set_option maxRecDepth 20000 in
theorem gX10_isBarred_X10_lies : GoodIn wsX10_isBarred (wsV RX10 120 RX10 yX10_lies wsX10_lies) := goodIn_app (goodIn_of _ (by decide +kernel)) ggX10_isBarred_X10_lies
theorem dX10_isBarred_0 : decode cX10_isBarred 0 = .ok (.iconst 0, 1) := by decide +kernel
theorem dX10_isBarred_1 : decode cX10_isBarred 1 = .ok (.istore_n 1, 1) := by decide +kernel
theorem dX10_isBarred_2 : decode cX10_isBarred 2 = .ok (.iload_n 1, 1) := by decide +kernel
theorem dX10_isBarred_3 : decode cX10_isBarred 3 = .ok (.aload_n 0, 1) := by decide +kernel
theorem dX10_isBarred_4 : decode cX10_isBarred 4 = .ok (.getfield 16, 3) := by decide +kernel
theorem dX10_isBarred_7 : decode cX10_isBarred 7 = .ok (.bipush 29, 2) := by decide +kernel
theorem dX10_isBarred_9 : decode cX10_isBarred 9 = .ok (.iaload, 1) := by decide +kernel
theorem dX10_isBarred_10 : decode cX10_isBarred 10 = .ok (.if_icmp .ge 38, 3) := by decide +kernel
theorem dX10_isBarred_13 : decode cX10_isBarred 13 = .ok (.iconst 0, 1) := by decide +kernel
theorem dX10_isBarred_14 : decode cX10_isBarred 14 = .ok (.istore_n 2, 1) := by decide +kernel
theorem dX10_isBarred_15 : decode cX10_isBarred 15 = .ok (.iload_n 2, 1) := by decide +kernel
theorem dX10_isBarred_16 : decode cX10_isBarred 16 = .ok (.aload_n 0, 1) := by decide +kernel
theorem dX10_isBarred_17 : decode cX10_isBarred 17 = .ok (.getfield 102, 3) := by decide +kernel
theorem dX10_isBarred_20 : decode cX10_isBarred 20 = .ok (.if_icmp .ge 22, 3) := by decide +kernel
theorem dX10_isBarred_23 : decode cX10_isBarred 23 = .ok (.aload_n 0, 1) := by decide +kernel
theorem dX10_isBarred_24 : decode cX10_isBarred 24 = .ok (.iload_n 2, 1) := by decide +kernel
theorem dX10_isBarred_25 : decode cX10_isBarred 25 = .ok (.bipush 29, 2) := by decide +kernel
theorem dX10_isBarred_27 : decode cX10_isBarred 27 = .ok (.iload_n 1, 1) := by decide +kernel
theorem dX10_isBarred_28 : decode cX10_isBarred 28 = .ok (.invokevirtual 120, 3) := by decide +kernel
theorem dX10_isBarred_31 : decode cX10_isBarred 31 = .ok (.ifCond .eq 5, 3) := by decide +kernel
theorem dX10_isBarred_34 : decode cX10_isBarred 34 = .ok (.iconst 1, 1) := by decide +kernel
theorem dX10_isBarred_35 : decode cX10_isBarred 35 = .ok (.ireturn, 1) := by decide +kernel
theorem dX10_isBarred_36 : decode cX10_isBarred 36 = .ok (.iinc 2 1, 3) := by decide +kernel
theorem dX10_isBarred_39 : decode cX10_isBarred 39 = .ok (.goto (-24), 3) := by decide +kernel
theorem dX10_isBarred_42 : decode cX10_isBarred 42 = .ok (.iinc 1 1, 3) := by decide +kernel
theorem dX10_isBarred_45 : decode cX10_isBarred 45 = .ok (.goto (-43), 3) := by decide +kernel
theorem dX10_isBarred_48 : decode cX10_isBarred 48 = .ok (.iconst 0, 1) := by decide +kernel
theorem dX10_isBarred_49 : decode cX10_isBarred 49 = .ok (.ireturn, 1) := by decide +kernel
theorem dX10_goesOn_0 : decode cX10_goesOn 0 = .ok (.aload_n 0, 1) := by decide +kernel
theorem dX10_goesOn_1 : decode cX10_goesOn 1 = .ok (.getfield 16, 3) := by decide +kernel
theorem dX10_goesOn_4 : decode cX10_goesOn 4 = .ok (.bipush 29, 2) := by decide +kernel
theorem dX10_goesOn_6 : decode cX10_goesOn 6 = .ok (.iaload, 1) := by decide +kernel
theorem dX10_goesOn_7 : decode cX10_goesOn 7 = .ok (.ifCond .le 58, 3) := by decide +kernel
theorem dX10_goesOn_10 : decode cX10_goesOn 10 = .ok (.sipush 1740, 3) := by decide +kernel
theorem dX10_goesOn_13 : decode cX10_goesOn 13 = .ok (.aload_n 0, 1) := by decide +kernel
theorem dX10_goesOn_14 : decode cX10_goesOn 14 = .ok (.getfield 16, 3) := by decide +kernel
theorem dX10_goesOn_17 : decode cX10_goesOn 17 = .ok (.bipush 29, 2) := by decide +kernel
theorem dX10_goesOn_19 : decode cX10_goesOn 19 = .ok (.iaload, 1) := by decide +kernel
theorem dX10_goesOn_20 : decode cX10_goesOn 20 = .ok (.iadd, 1) := by decide +kernel
theorem dX10_goesOn_21 : decode cX10_goesOn 21 = .ok (.iconst 1, 1) := by decide +kernel
theorem dX10_goesOn_22 : decode cX10_goesOn 22 = .ok (.isub, 1) := by decide +kernel
theorem dX10_goesOn_23 : decode cX10_goesOn 23 = .ok (.istore_n 1, 1) := by decide +kernel
theorem dX10_goesOn_24 : decode cX10_goesOn 24 = .ok (.aload_n 0, 1) := by decide +kernel
theorem dX10_goesOn_25 : decode cX10_goesOn 25 = .ok (.getfield 13, 3) := by decide +kernel
theorem dX10_goesOn_28 : decode cX10_goesOn 28 = .ok (.iload_n 1, 1) := by decide +kernel
theorem dX10_goesOn_29 : decode cX10_goesOn 29 = .ok (.iaload, 1) := by decide +kernel
theorem dX10_goesOn_30 : decode cX10_goesOn 30 = .ok (.aload_n 0, 1) := by decide +kernel
theorem dX10_goesOn_31 : decode cX10_goesOn 31 = .ok (.getfield 55, 3) := by decide +kernel
theorem dX10_goesOn_34 : decode cX10_goesOn 34 = .ok (.iconst 1, 1) := by decide +kernel
theorem dX10_goesOn_35 : decode cX10_goesOn 35 = .ok (.isub, 1) := by decide +kernel
theorem dX10_goesOn_36 : decode cX10_goesOn 36 = .ok (.if_icmp .ge 15, 3) := by decide +kernel
theorem dX10_goesOn_39 : decode cX10_goesOn 39 = .ok (.aload_n 0, 1) := by decide +kernel
theorem dX10_goesOn_40 : decode cX10_goesOn 40 = .ok (.getfield 13, 3) := by decide +kernel
theorem dX10_goesOn_43 : decode cX10_goesOn 43 = .ok (.iload_n 1, 1) := by decide +kernel
theorem dX10_goesOn_44 : decode cX10_goesOn 44 = .ok (.dup2, 1) := by decide +kernel
theorem dX10_goesOn_45 : decode cX10_goesOn 45 = .ok (.iaload, 1) := by decide +kernel
theorem dX10_goesOn_46 : decode cX10_goesOn 46 = .ok (.iconst 1, 1) := by decide +kernel
theorem dX10_goesOn_47 : decode cX10_goesOn 47 = .ok (.iadd, 1) := by decide +kernel
theorem dX10_goesOn_48 : decode cX10_goesOn 48 = .ok (.iastore, 1) := by decide +kernel
theorem dX10_goesOn_49 : decode cX10_goesOn 49 = .ok (.iconst 1, 1) := by decide +kernel
theorem dX10_goesOn_50 : decode cX10_goesOn 50 = .ok (.ireturn, 1) := by decide +kernel
theorem dX10_goesOn_51 : decode cX10_goesOn 51 = .ok (.aload_n 0, 1) := by decide +kernel
theorem dX10_goesOn_52 : decode cX10_goesOn 52 = .ok (.getfield 16, 3) := by decide +kernel
theorem dX10_goesOn_55 : decode cX10_goesOn 55 = .ok (.bipush 29, 2) := by decide +kernel
theorem dX10_goesOn_57 : decode cX10_goesOn 57 = .ok (.dup2, 1) := by decide +kernel
theorem dX10_goesOn_58 : decode cX10_goesOn 58 = .ok (.iaload, 1) := by decide +kernel
theorem dX10_goesOn_59 : decode cX10_goesOn 59 = .ok (.iconst 1, 1) := by decide +kernel
theorem dX10_goesOn_60 : decode cX10_goesOn 60 = .ok (.isub, 1) := by decide +kernel
theorem dX10_goesOn_61 : decode cX10_goesOn 61 = .ok (.iastore, 1) := by decide +kernel
theorem dX10_goesOn_62 : decode cX10_goesOn 62 = .ok (.goto (-62), 3) := by decide +kernel
theorem dX10_goesOn_65 : decode cX10_goesOn 65 = .ok (.iconst 0, 1) := by decide +kernel
theorem dX10_goesOn_66 : decode cX10_goesOn 66 = .ok (.ireturn, 1) := by decide +kernel
set_option maxRecDepth 20000 in
theorem ggX10_wantedYet_X10_wants : GoodIn wsX10_wantedYet wsX10_wants := goodIn_r _ [7, 8, 9, 10, 11, 12, 13, 14, 15, 16, 17, 18, 19, 20, 21, 22, 23, 24, 25, 26, 27, 28, 29, 30] (by decide +kernel) (by decide +kernel)
set_option maxRecDepth 20000 in
theorem gX10_wantedYet_X10_wants : GoodIn wsX10_wantedYet (wsV RX10 71 RX10 yX10_wants wsX10_wants) := goodIn_app (goodIn_of _ (by decide +kernel)) ggX10_wantedYet_X10_wants
theorem dX10_wantedYet_0 : decode cX10_wantedYet 0 = .ok (.iconst 1, 1) := by decide +kernel
theorem dX10_wantedYet_1 : decode cX10_wantedYet 1 = .ok (.istore_n 1, 1) := by decide +kernel
theorem dX10_wantedYet_2 : decode cX10_wantedYet 2 = .ok (.iconst 0, 1) := by decide +kernel
theorem dX10_wantedYet_3 : decode cX10_wantedYet 3 = .ok (.istore_n 2, 1) := by decide +kernel
theorem dX10_wantedYet_4 : decode cX10_wantedYet 4 = .ok (.iload_n 2, 1) := by decide +kernel
theorem dX10_wantedYet_5 : decode cX10_wantedYet 5 = .ok (.aload_n 0, 1) := by decide +kernel
theorem dX10_wantedYet_6 : decode cX10_wantedYet 6 = .ok (.getfield 16, 3) := by decide +kernel
theorem dX10_wantedYet_9 : decode cX10_wantedYet 9 = .ok (.bipush 29, 2) := by decide +kernel
theorem dX10_wantedYet_11 : decode cX10_wantedYet 11 = .ok (.iaload, 1) := by decide +kernel
theorem dX10_wantedYet_12 : decode cX10_wantedYet 12 = .ok (.if_icmp .ge 28, 3) := by decide +kernel
theorem dX10_wantedYet_15 : decode cX10_wantedYet 15 = .ok (.iload_n 1, 1) := by decide +kernel
theorem dX10_wantedYet_16 : decode cX10_wantedYet 16 = .ok (.aload_n 0, 1) := by decide +kernel
theorem dX10_wantedYet_17 : decode cX10_wantedYet 17 = .ok (.aload_n 0, 1) := by decide +kernel
theorem dX10_wantedYet_18 : decode cX10_wantedYet 18 = .ok (.getfield 13, 3) := by decide +kernel
theorem dX10_wantedYet_21 : decode cX10_wantedYet 21 = .ok (.sipush 1740, 3) := by decide +kernel
theorem dX10_wantedYet_24 : decode cX10_wantedYet 24 = .ok (.iload_n 2, 1) := by decide +kernel
theorem dX10_wantedYet_25 : decode cX10_wantedYet 25 = .ok (.iadd, 1) := by decide +kernel
theorem dX10_wantedYet_26 : decode cX10_wantedYet 26 = .ok (.iaload, 1) := by decide +kernel
theorem dX10_wantedYet_27 : decode cX10_wantedYet 27 = .ok (.invokevirtual 71, 3) := by decide +kernel
theorem dX10_wantedYet_30 : decode cX10_wantedYet 30 = .ok (.iconst 1, 1) := by decide +kernel
theorem dX10_wantedYet_31 : decode cX10_wantedYet 31 = .ok (.isub, 1) := by decide +kernel
theorem dX10_wantedYet_32 : decode cX10_wantedYet 32 = .ok (.iadd, 1) := by decide +kernel
theorem dX10_wantedYet_33 : decode cX10_wantedYet 33 = .ok (.istore_n 1, 1) := by decide +kernel
theorem dX10_wantedYet_34 : decode cX10_wantedYet 34 = .ok (.iinc 2 1, 3) := by decide +kernel
theorem dX10_wantedYet_37 : decode cX10_wantedYet 37 = .ok (.goto (-33), 3) := by decide +kernel
theorem dX10_wantedYet_40 : decode cX10_wantedYet 40 = .ok (.iload_n 1, 1) := by decide +kernel
theorem dX10_wantedYet_41 : decode cX10_wantedYet 41 = .ok (.ireturn, 1) := by decide +kernel
set_option maxRecDepth 20000 in
theorem ggX10_countOf_X10_comes : GoodIn wsX10_countOf wsX10_comes := goodIn_r _ [6, 7, 1, 43, 44, 45, 46, 47, 48, 49, 50, 51, 52, 53, 54, 55, 56, 57, 58, 59, 60, 61, 62, 63, 64] (by decide +kernel) (by decide +kernel)
set_option maxRecDepth 20000 in
theorem gX10_countOf_X10_comes : GoodIn wsX10_countOf (wsV RX10 67 RX10 yX10_comes wsX10_comes) := goodIn_app (goodIn_of _ (by decide +kernel)) ggX10_countOf_X10_comes
set_option maxRecDepth 20000 in
theorem ggX10_countOf_X10_wantedYet : GoodIn wsX10_countOf wsX10_wantedYet := goodIn_r _ [11, 1, 7, 12, 13, 14, 5, 15, 16, 43, 44, 45, 46, 47, 48, 49, 50, 51, 52, 53, 54, 55, 56, 57, 58, 59, 60, 61, 62, 63, 64] (by decide +kernel) (by decide +kernel)
set_option maxRecDepth 20000 in
theorem gX10_countOf_X10_wantedYet : GoodIn wsX10_countOf (wsV RX10 136 RX10 yX10_wantedYet wsX10_wantedYet) := goodIn_app (goodIn_of _ (by decide +kernel)) ggX10_countOf_X10_wantedYet
set_option maxRecDepth 20000 in
theorem ggX10_countOf_X10_leaves : GoodIn wsX10_countOf wsX10_leaves := goodIn_r _ [20, 1, 7, 43, 44, 45, 46, 47, 48, 49, 50, 51, 52, 53, 54, 55, 56, 57, 58, 59, 60, 61, 62, 63, 64] (by decide +kernel) (by decide +kernel)
set_option maxRecDepth 20000 in
theorem gX10_countOf_X10_leaves : GoodIn wsX10_countOf (wsV RX10 82 RX10 yX10_leaves wsX10_leaves) := goodIn_app (goodIn_of _ (by decide +kernel)) ggX10_countOf_X10_leaves
set_option maxRecDepth 20000 in
theorem ggX10_countOf_X10_isBarred : GoodIn wsX10_countOf wsX10_isBarred := goodIn_r _ [24, 1, 25, 26, 27, 28, 5, 29, 30, 7, 31, 32, 33, 34, 35, 36, 37, 12, 13, 14, 15, 16, 43, 44, 45, 46, 47, 48, 49, 50, 51, 52, 53, 54, 55, 56, 57, 58, 59, 60, 61, 62, 63, 64] (by decide +kernel) (by decide +kernel)
set_option maxRecDepth 20000 in
theorem gX10_countOf_X10_isBarred : GoodIn wsX10_countOf (wsV RX10 140 RX10 yX10_isBarred wsX10_isBarred) := goodIn_app (goodIn_of _ (by decide +kernel)) ggX10_countOf_X10_isBarred
set_option maxRecDepth 20000 in
theorem ggX10_countOf_X10_goesOn : GoodIn wsX10_countOf wsX10_goesOn := goodIn_r _ [41, 1, 7, 42, 43, 44, 45, 46, 47, 48, 49, 50, 51, 52, 53, 54, 55, 56, 57, 58, 59, 60, 61, 62, 63, 64] (by decide +kernel) (by decide +kernel)
set_option maxRecDepth 20000 in
theorem gX10_countOf_X10_goesOn : GoodIn wsX10_countOf (wsV RX10 144 RX10 yX10_goesOn wsX10_goesOn) := goodIn_app (goodIn_of _ (by decide +kernel)) ggX10_countOf_X10_goesOn
theorem dX10_countOf_0 : decode cX10_countOf 0 = .ok (.lconst 0, 1) := by decide +kernel
theorem dX10_countOf_1 : decode cX10_countOf 1 = .ok (.lstore_n 2, 1) := by decide +kernel
theorem dX10_countOf_2 : decode cX10_countOf 2 = .ok (.aload_n 0, 1) := by decide +kernel
theorem dX10_countOf_3 : decode cX10_countOf 3 = .ok (.getfield 16, 3) := by decide +kernel
theorem dX10_countOf_6 : decode cX10_countOf 6 = .ok (.bipush 29, 2) := by decide +kernel
theorem dX10_countOf_8 : decode cX10_countOf 8 = .ok (.iconst 0, 1) := by decide +kernel
theorem dX10_countOf_9 : decode cX10_countOf 9 = .ok (.iastore, 1) := by decide +kernel
theorem dX10_countOf_10 : decode cX10_countOf 10 = .ok (.aload_n 0, 1) := by decide +kernel
theorem dX10_countOf_11 : decode cX10_countOf 11 = .ok (.bipush 29, 2) := by decide +kernel
theorem dX10_countOf_13 : decode cX10_countOf 13 = .ok (.iconst (-1), 1) := by decide +kernel
theorem dX10_countOf_14 : decode cX10_countOf 14 = .ok (.invokevirtual 67, 3) := by decide +kernel
theorem dX10_countOf_17 : decode cX10_countOf 17 = .ok (.iconst 1, 1) := by decide +kernel
theorem dX10_countOf_18 : decode cX10_countOf 18 = .ok (.istore 4, 2) := by decide +kernel
theorem dX10_countOf_20 : decode cX10_countOf 20 = .ok (.iload 4, 2) := by decide +kernel
theorem dX10_countOf_22 : decode cX10_countOf 22 = .ok (.ifCond .eq 93, 3) := by decide +kernel
theorem dX10_countOf_25 : decode cX10_countOf 25 = .ok (.aload_n 0, 1) := by decide +kernel
theorem dX10_countOf_26 : decode cX10_countOf 26 = .ok (.invokevirtual 136, 3) := by decide +kernel
theorem dX10_countOf_29 : decode cX10_countOf 29 = .ok (.istore 5, 2) := by decide +kernel
theorem dX10_countOf_31 : decode cX10_countOf 31 = .ok (.aload_n 0, 1) := by decide +kernel
theorem dX10_countOf_32 : decode cX10_countOf 32 = .ok (.bipush 29, 2) := by decide +kernel
theorem dX10_countOf_34 : decode cX10_countOf 34 = .ok (.invokevirtual 82, 3) := by decide +kernel
theorem dX10_countOf_37 : decode cX10_countOf 37 = .ok (.iload 5, 2) := by decide +kernel
theorem dX10_countOf_39 : decode cX10_countOf 39 = .ok (.iadd, 1) := by decide +kernel
theorem dX10_countOf_40 : decode cX10_countOf 40 = .ok (.iload_n 1, 1) := by decide +kernel
theorem dX10_countOf_41 : decode cX10_countOf 41 = .ok (.if_icmp .gt 14, 3) := by decide +kernel
theorem dX10_countOf_44 : decode cX10_countOf 44 = .ok (.aload_n 0, 1) := by decide +kernel
theorem dX10_countOf_45 : decode cX10_countOf 45 = .ok (.invokevirtual 140, 3) := by decide +kernel
theorem dX10_countOf_48 : decode cX10_countOf 48 = .ok (.ifCond .ne 7, 3) := by decide +kernel
theorem dX10_countOf_51 : decode cX10_countOf 51 = .ok (.iconst 1, 1) := by decide +kernel
theorem dX10_countOf_52 : decode cX10_countOf 52 = .ok (.goto 4, 3) := by decide +kernel
theorem dX10_countOf_55 : decode cX10_countOf 55 = .ok (.iconst 0, 1) := by decide +kernel
theorem dX10_countOf_56 : decode cX10_countOf 56 = .ok (.istore 6, 2) := by decide +kernel
theorem dX10_countOf_58 : decode cX10_countOf 58 = .ok (.iload 6, 2) := by decide +kernel
theorem dX10_countOf_60 : decode cX10_countOf 60 = .ok (.ifCond .eq 26, 3) := by decide +kernel
theorem dX10_countOf_63 : decode cX10_countOf 63 = .ok (.iload 5, 2) := by decide +kernel
theorem dX10_countOf_65 : decode cX10_countOf 65 = .ok (.ifCond .ne 21, 3) := by decide +kernel
theorem dX10_countOf_68 : decode cX10_countOf 68 = .ok (.lload_n 2, 1) := by decide +kernel
theorem dX10_countOf_69 : decode cX10_countOf 69 = .ok (.aload_n 0, 1) := by decide +kernel
theorem dX10_countOf_70 : decode cX10_countOf 70 = .ok (.bipush 29, 2) := by decide +kernel
theorem dX10_countOf_72 : decode cX10_countOf 72 = .ok (.invokevirtual 82, 3) := by decide +kernel
theorem dX10_countOf_75 : decode cX10_countOf 75 = .ok (.iload_n 1, 1) := by decide +kernel
theorem dX10_countOf_76 : decode cX10_countOf 76 = .ok (.if_icmp .ne 7, 3) := by decide +kernel
theorem dX10_countOf_79 : decode cX10_countOf 79 = .ok (.lconst 1, 1) := by decide +kernel
theorem dX10_countOf_80 : decode cX10_countOf 80 = .ok (.goto 4, 3) := by decide +kernel
theorem dX10_countOf_83 : decode cX10_countOf 83 = .ok (.lconst 0, 1) := by decide +kernel
theorem dX10_countOf_84 : decode cX10_countOf 84 = .ok (.ladd, 1) := by decide +kernel
theorem dX10_countOf_85 : decode cX10_countOf 85 = .ok (.lstore_n 2, 1) := by decide +kernel
theorem dX10_countOf_86 : decode cX10_countOf 86 = .ok (.iload 6, 2) := by decide +kernel
theorem dX10_countOf_88 : decode cX10_countOf 88 = .ok (.ifCond .eq 18, 3) := by decide +kernel
theorem dX10_countOf_91 : decode cX10_countOf 91 = .ok (.iload 5, 2) := by decide +kernel
theorem dX10_countOf_93 : decode cX10_countOf 93 = .ok (.ifCond .le 13, 3) := by decide +kernel
theorem dX10_countOf_96 : decode cX10_countOf 96 = .ok (.aload_n 0, 1) := by decide +kernel
theorem dX10_countOf_97 : decode cX10_countOf 97 = .ok (.bipush 29, 2) := by decide +kernel
theorem dX10_countOf_99 : decode cX10_countOf 99 = .ok (.iconst (-1), 1) := by decide +kernel
theorem dX10_countOf_100 : decode cX10_countOf 100 = .ok (.invokevirtual 67, 3) := by decide +kernel
theorem dX10_countOf_103 : decode cX10_countOf 103 = .ok (.goto 9, 3) := by decide +kernel
theorem dX10_countOf_106 : decode cX10_countOf 106 = .ok (.aload_n 0, 1) := by decide +kernel
theorem dX10_countOf_107 : decode cX10_countOf 107 = .ok (.invokevirtual 144, 3) := by decide +kernel
theorem dX10_countOf_110 : decode cX10_countOf 110 = .ok (.istore 4, 2) := by decide +kernel
theorem dX10_countOf_112 : decode cX10_countOf 112 = .ok (.goto (-92), 3) := by decide +kernel
theorem dX10_countOf_115 : decode cX10_countOf 115 = .ok (.lload_n 2, 1) := by decide +kernel
theorem dX10_countOf_116 : decode cX10_countOf 116 = .ok (.lreturn, 1) := by decide +kernel
set_option maxRecDepth 20000 in
theorem ggX10_counts_X10_countOf : GoodIn wsX10_counts wsX10_countOf := goodIn_r _ [7, 8, 9, 10, 11, 6, 12, 13, 14, 15, 16, 17, 18, 19, 20, 21, 22, 23, 24, 25, 26, 27, 28, 29, 30, 31, 32, 33, 34, 35, 36, 37, 38, 39, 40, 41, 42, 43, 44, 45, 46, 47, 48, 49, 50, 51, 52, 53, 54, 55, 56, 57, 58, 59, 60, 61, 62, 63, 64, 65, 66, 67, 68, 69, 70] (by decide +kernel) (by decide +kernel)
set_option maxRecDepth 20000 in
theorem gX10_counts_X10_countOf : GoodIn wsX10_counts (wsV RX10 147 RX10 yX10_countOf wsX10_countOf) := goodIn_app (goodIn_of _ (by decide +kernel)) ggX10_counts_X10_countOf
theorem dX10_counts_0 : decode cX10_counts 0 = .ok (.iconst 1, 1) := by decide +kernel
theorem dX10_counts_1 : decode cX10_counts 1 = .ok (.istore_n 1, 1) := by decide +kernel
theorem dX10_counts_2 : decode cX10_counts 2 = .ok (.iload_n 1, 1) := by decide +kernel
theorem dX10_counts_3 : decode cX10_counts 3 = .ok (.bipush 6, 2) := by decide +kernel
theorem dX10_counts_5 : decode cX10_counts 5 = .ok (.if_icmp .gt 36, 3) := by decide +kernel
theorem dX10_counts_8 : decode cX10_counts 8 = .ok (.aload_n 0, 1) := by decide +kernel
theorem dX10_counts_9 : decode cX10_counts 9 = .ok (.getfield 59, 3) := by decide +kernel
theorem dX10_counts_12 : decode cX10_counts 12 = .ok (.ifCond .ne 29, 3) := by decide +kernel
theorem dX10_counts_15 : decode cX10_counts 15 = .ok (.aload_n 0, 1) := by decide +kernel
theorem dX10_counts_16 : decode cX10_counts 16 = .ok (.getfield 23, 3) := by decide +kernel
theorem dX10_counts_19 : decode cX10_counts 19 = .ok (.iload_n 1, 1) := by decide +kernel
theorem dX10_counts_20 : decode cX10_counts 20 = .ok (.iload_n 1, 1) := by decide +kernel
theorem dX10_counts_21 : decode cX10_counts 21 = .ok (.iconst 1, 1) := by decide +kernel
theorem dX10_counts_22 : decode cX10_counts 22 = .ok (.if_icmp .ne 7, 3) := by decide +kernel
theorem dX10_counts_25 : decode cX10_counts 25 = .ok (.lconst 1, 1) := by decide +kernel
theorem dX10_counts_26 : decode cX10_counts 26 = .ok (.goto 8, 3) := by decide +kernel
theorem dX10_counts_29 : decode cX10_counts 29 = .ok (.aload_n 0, 1) := by decide +kernel
theorem dX10_counts_30 : decode cX10_counts 30 = .ok (.iload_n 1, 1) := by decide +kernel
theorem dX10_counts_31 : decode cX10_counts 31 = .ok (.invokevirtual 147, 3) := by decide +kernel
theorem dX10_counts_34 : decode cX10_counts 34 = .ok (.lastore, 1) := by decide +kernel
theorem dX10_counts_35 : decode cX10_counts 35 = .ok (.iinc 1 1, 3) := by decide +kernel
theorem dX10_counts_38 : decode cX10_counts 38 = .ok (.goto (-36), 3) := by decide +kernel
theorem dX10_counts_41 : decode cX10_counts 41 = .ok (.aload_n 0, 1) := by decide +kernel
theorem dX10_counts_42 : decode cX10_counts 42 = .ok (.iconst 1, 1) := by decide +kernel
theorem dX10_counts_43 : decode cX10_counts 43 = .ok (.putfield 59, 3) := by decide +kernel
theorem dX10_counts_46 : decode cX10_counts 46 = .ok (.return_, 1) := by decide +kernel
set_option maxRecDepth 20000 in
theorem ggX10_howMany_X10_in : GoodIn wsX10_howMany wsX10_in := goodIn_r _ [6] (by decide +kernel) (by decide +kernel)
set_option maxRecDepth 20000 in
theorem gX10_howMany_X10_in : GoodIn wsX10_howMany (va_wsS RX10 51 yX10_in wsX10_in) := goodIn_app (goodIn_of _ (by decide +kernel)) ggX10_howMany_X10_in
set_option maxRecDepth 20000 in
theorem ggX10_howMany_X10_counts : GoodIn wsX10_howMany wsX10_counts := goodIn_r _ [10, 11, 2, 12, 13, 14, 5, 15, 16, 17, 18, 19, 20, 21, 22, 23, 24, 25, 26, 27, 28, 29, 30, 31, 32, 33, 34, 35, 36, 37, 38, 39, 40, 41, 42, 43, 44, 45, 46, 47, 48, 49, 50, 51, 52, 53, 54, 55, 56, 57, 58, 59, 60, 61, 62, 63, 64, 65, 66, 67, 68, 69, 70, 71, 72, 73, 74, 75, 76, 77, 78] (by decide +kernel) (by decide +kernel)
set_option maxRecDepth 20000 in
theorem gX10_howMany_X10_counts : GoodIn wsX10_howMany (wsV RX10 153 RX10 yX10_counts wsX10_counts) := goodIn_app (goodIn_of _ (by decide +kernel)) ggX10_howMany_X10_counts
theorem dX10_howMany_0 : decode cX10_howMany 0 = .ok (.iload_n 1, 1) := by decide +kernel
theorem dX10_howMany_1 : decode cX10_howMany 1 = .ok (.iconst 1, 1) := by decide +kernel
theorem dX10_howMany_2 : decode cX10_howMany 2 = .ok (.bipush 6, 2) := by decide +kernel
theorem dX10_howMany_4 : decode cX10_howMany 4 = .ok (.invokestatic 51, 3) := by decide +kernel
theorem dX10_howMany_7 : decode cX10_howMany 7 = .ok (.ifCond .ne 7, 3) := by decide +kernel
theorem dX10_howMany_10 : decode cX10_howMany 10 = .ok (.ldc2_w 151, 3) := by decide +kernel
theorem dX10_howMany_13 : decode cX10_howMany 13 = .ok (.lreturn, 1) := by decide +kernel
theorem dX10_howMany_14 : decode cX10_howMany 14 = .ok (.aload_n 0, 1) := by decide +kernel
theorem dX10_howMany_15 : decode cX10_howMany 15 = .ok (.invokevirtual 153, 3) := by decide +kernel
theorem dX10_howMany_18 : decode cX10_howMany 18 = .ok (.aload_n 0, 1) := by decide +kernel
theorem dX10_howMany_19 : decode cX10_howMany 19 = .ok (.getfield 23, 3) := by decide +kernel
theorem dX10_howMany_22 : decode cX10_howMany 22 = .ok (.iload_n 1, 1) := by decide +kernel
theorem dX10_howMany_23 : decode cX10_howMany 23 = .ok (.laload, 1) := by decide +kernel
theorem dX10_howMany_24 : decode cX10_howMany 24 = .ok (.lreturn, 1) := by decide +kernel
set_option maxRecDepth 20000 in
theorem ggX10_meetsAt_X10_adds : GoodIn wsX10_meetsAt wsX10_adds := goodIn_r _ [7, 1, 2, 8, 9, 10, 6, 11, 21, 22, 23, 24, 25, 26, 27, 28, 29, 30, 31, 32, 33, 34, 35, 36, 37, 38, 39, 40, 41, 42] (by decide +kernel) (by decide +kernel)
set_option maxRecDepth 20000 in
theorem gX10_meetsAt_X10_adds : GoodIn wsX10_meetsAt (wsV RX10 91 RX10 yX10_adds wsX10_adds) := goodIn_app (goodIn_of _ (by decide +kernel)) ggX10_meetsAt_X10_adds
set_option maxRecDepth 20000 in
theorem ggX10_meetsAt_X10_end : GoodIn wsX10_meetsAt wsX10_end := goodIn_r _ [15, 1, 2, 16, 17, 18, 6, 19, 20, 21, 22, 23, 24, 25, 26, 27, 28, 29, 30, 31, 32, 33, 34, 35, 36, 37, 38, 39, 40, 41, 42] (by decide +kernel) (by decide +kernel)
set_option maxRecDepth 20000 in
theorem gX10_meetsAt_X10_end : GoodIn wsX10_meetsAt (wsV RX10 75 RX10 yX10_end wsX10_end) := goodIn_app (goodIn_of _ (by decide +kernel)) ggX10_meetsAt_X10_end
theorem dX10_meetsAt_0 : decode cX10_meetsAt 0 = .ok (.bipush 10, 2) := by decide +kernel
theorem dX10_meetsAt_2 : decode cX10_meetsAt 2 = .ok (.iload_n 1, 1) := by decide +kernel
theorem dX10_meetsAt_3 : decode cX10_meetsAt 3 = .ok (.iadd, 1) := by decide +kernel
theorem dX10_meetsAt_4 : decode cX10_meetsAt 4 = .ok (.istore 4, 2) := by decide +kernel
theorem dX10_meetsAt_6 : decode cX10_meetsAt 6 = .ok (.bipush 10, 2) := by decide +kernel
theorem dX10_meetsAt_8 : decode cX10_meetsAt 8 = .ok (.iload_n 2, 1) := by decide +kernel
theorem dX10_meetsAt_9 : decode cX10_meetsAt 9 = .ok (.iadd, 1) := by decide +kernel
theorem dX10_meetsAt_10 : decode cX10_meetsAt 10 = .ok (.istore 5, 2) := by decide +kernel
theorem dX10_meetsAt_12 : decode cX10_meetsAt 12 = .ok (.aload_n 0, 1) := by decide +kernel
theorem dX10_meetsAt_13 : decode cX10_meetsAt 13 = .ok (.getfield 16, 3) := by decide +kernel
theorem dX10_meetsAt_16 : decode cX10_meetsAt 16 = .ok (.bipush 27, 2) := by decide +kernel
theorem dX10_meetsAt_18 : decode cX10_meetsAt 18 = .ok (.iconst 0, 1) := by decide +kernel
theorem dX10_meetsAt_19 : decode cX10_meetsAt 19 = .ok (.iastore, 1) := by decide +kernel
theorem dX10_meetsAt_20 : decode cX10_meetsAt 20 = .ok (.aload_n 0, 1) := by decide +kernel
theorem dX10_meetsAt_21 : decode cX10_meetsAt 21 = .ok (.bipush 27, 2) := by decide +kernel
theorem dX10_meetsAt_23 : decode cX10_meetsAt 23 = .ok (.iload 4, 2) := by decide +kernel
theorem dX10_meetsAt_25 : decode cX10_meetsAt 25 = .ok (.iconst 0, 1) := by decide +kernel
theorem dX10_meetsAt_26 : decode cX10_meetsAt 26 = .ok (.iload_n 3, 1) := by decide +kernel
theorem dX10_meetsAt_27 : decode cX10_meetsAt 27 = .ok (.invokevirtual 91, 3) := by decide +kernel
theorem dX10_meetsAt_30 : decode cX10_meetsAt 30 = .ok (.istore 6, 2) := by decide +kernel
theorem dX10_meetsAt_32 : decode cX10_meetsAt 32 = .ok (.iload_n 3, 1) := by decide +kernel
theorem dX10_meetsAt_33 : decode cX10_meetsAt 33 = .ok (.istore 7, 2) := by decide +kernel
theorem dX10_meetsAt_35 : decode cX10_meetsAt 35 = .ok (.iconst 0, 1) := by decide +kernel
theorem dX10_meetsAt_36 : decode cX10_meetsAt 36 = .ok (.istore 8, 2) := by decide +kernel
theorem dX10_meetsAt_38 : decode cX10_meetsAt 38 = .ok (.iload 8, 2) := by decide +kernel
theorem dX10_meetsAt_40 : decode cX10_meetsAt 40 = .ok (.aload_n 0, 1) := by decide +kernel
theorem dX10_meetsAt_41 : decode cX10_meetsAt 41 = .ok (.getfield 16, 3) := by decide +kernel
theorem dX10_meetsAt_44 : decode cX10_meetsAt 44 = .ok (.iload 5, 2) := by decide +kernel
theorem dX10_meetsAt_46 : decode cX10_meetsAt 46 = .ok (.iaload, 1) := by decide +kernel
theorem dX10_meetsAt_47 : decode cX10_meetsAt 47 = .ok (.if_icmp .ge 158, 3) := by decide +kernel
theorem dX10_meetsAt_50 : decode cX10_meetsAt 50 = .ok (.iload 6, 2) := by decide +kernel
theorem dX10_meetsAt_52 : decode cX10_meetsAt 52 = .ok (.ifCond .eq 153, 3) := by decide +kernel
theorem dX10_meetsAt_55 : decode cX10_meetsAt 55 = .ok (.aload_n 0, 1) := by decide +kernel
theorem dX10_meetsAt_56 : decode cX10_meetsAt 56 = .ok (.getfield 13, 3) := by decide +kernel
theorem dX10_meetsAt_59 : decode cX10_meetsAt 59 = .ok (.bipush 60, 2) := by decide +kernel
theorem dX10_meetsAt_61 : decode cX10_meetsAt 61 = .ok (.iload 4, 2) := by decide +kernel
theorem dX10_meetsAt_63 : decode cX10_meetsAt 63 = .ok (.imul, 1) := by decide +kernel
theorem dX10_meetsAt_64 : decode cX10_meetsAt 64 = .ok (.iload 7, 2) := by decide +kernel
theorem dX10_meetsAt_66 : decode cX10_meetsAt 66 = .ok (.iadd, 1) := by decide +kernel
theorem dX10_meetsAt_67 : decode cX10_meetsAt 67 = .ok (.iaload, 1) := by decide +kernel
theorem dX10_meetsAt_68 : decode cX10_meetsAt 68 = .ok (.istore 9, 2) := by decide +kernel
theorem dX10_meetsAt_70 : decode cX10_meetsAt 70 = .ok (.aload_n 0, 1) := by decide +kernel
theorem dX10_meetsAt_71 : decode cX10_meetsAt 71 = .ok (.getfield 13, 3) := by decide +kernel
theorem dX10_meetsAt_74 : decode cX10_meetsAt 74 = .ok (.bipush 60, 2) := by decide +kernel
theorem dX10_meetsAt_76 : decode cX10_meetsAt 76 = .ok (.iload 5, 2) := by decide +kernel
theorem dX10_meetsAt_78 : decode cX10_meetsAt 78 = .ok (.imul, 1) := by decide +kernel
theorem dX10_meetsAt_79 : decode cX10_meetsAt 79 = .ok (.iload 8, 2) := by decide +kernel
theorem dX10_meetsAt_81 : decode cX10_meetsAt 81 = .ok (.iadd, 1) := by decide +kernel
theorem dX10_meetsAt_82 : decode cX10_meetsAt 82 = .ok (.iaload, 1) := by decide +kernel
theorem dX10_meetsAt_83 : decode cX10_meetsAt 83 = .ok (.istore 10, 2) := by decide +kernel
theorem dX10_meetsAt_85 : decode cX10_meetsAt 85 = .ok (.iload 9, 2) := by decide +kernel
theorem dX10_meetsAt_87 : decode cX10_meetsAt 87 = .ok (.iconst (-1), 1) := by decide +kernel
theorem dX10_meetsAt_88 : decode cX10_meetsAt 88 = .ok (.if_icmp .ne 37, 3) := by decide +kernel
theorem dX10_meetsAt_91 : decode cX10_meetsAt 91 = .ok (.aload_n 0, 1) := by decide +kernel
theorem dX10_meetsAt_92 : decode cX10_meetsAt 92 = .ok (.iload 5, 2) := by decide +kernel
theorem dX10_meetsAt_94 : decode cX10_meetsAt 94 = .ok (.iload 8, 2) := by decide +kernel
theorem dX10_meetsAt_96 : decode cX10_meetsAt 96 = .ok (.invokevirtual 75, 3) := by decide +kernel
theorem dX10_meetsAt_99 : decode cX10_meetsAt 99 = .ok (.istore 11, 2) := by decide +kernel
theorem dX10_meetsAt_101 : decode cX10_meetsAt 101 = .ok (.aload_n 0, 1) := by decide +kernel
theorem dX10_meetsAt_102 : decode cX10_meetsAt 102 = .ok (.bipush 27, 2) := by decide +kernel
theorem dX10_meetsAt_104 : decode cX10_meetsAt 104 = .ok (.iload 5, 2) := by decide +kernel
theorem dX10_meetsAt_106 : decode cX10_meetsAt 106 = .ok (.iload 8, 2) := by decide +kernel
theorem dX10_meetsAt_108 : decode cX10_meetsAt 108 = .ok (.iload 11, 2) := by decide +kernel
theorem dX10_meetsAt_110 : decode cX10_meetsAt 110 = .ok (.invokevirtual 91, 3) := by decide +kernel
theorem dX10_meetsAt_113 : decode cX10_meetsAt 113 = .ok (.istore 6, 2) := by decide +kernel
theorem dX10_meetsAt_115 : decode cX10_meetsAt 115 = .ok (.iload 11, 2) := by decide +kernel
theorem dX10_meetsAt_117 : decode cX10_meetsAt 117 = .ok (.istore 8, 2) := by decide +kernel
theorem dX10_meetsAt_119 : decode cX10_meetsAt 119 = .ok (.iinc 7 1, 3) := by decide +kernel
theorem dX10_meetsAt_122 : decode cX10_meetsAt 122 = .ok (.goto 80, 3) := by decide +kernel
theorem dX10_meetsAt_125 : decode cX10_meetsAt 125 = .ok (.iload 10, 2) := by decide +kernel
theorem dX10_meetsAt_127 : decode cX10_meetsAt 127 = .ok (.iconst (-1), 1) := by decide +kernel
theorem dX10_meetsAt_128 : decode cX10_meetsAt 128 = .ok (.if_icmp .ne 37, 3) := by decide +kernel
theorem dX10_meetsAt_131 : decode cX10_meetsAt 131 = .ok (.aload_n 0, 1) := by decide +kernel
theorem dX10_meetsAt_132 : decode cX10_meetsAt 132 = .ok (.iload 4, 2) := by decide +kernel
theorem dX10_meetsAt_134 : decode cX10_meetsAt 134 = .ok (.iload 7, 2) := by decide +kernel
theorem dX10_meetsAt_136 : decode cX10_meetsAt 136 = .ok (.invokevirtual 75, 3) := by decide +kernel
theorem dX10_meetsAt_139 : decode cX10_meetsAt 139 = .ok (.istore 11, 2) := by decide +kernel
theorem dX10_meetsAt_141 : decode cX10_meetsAt 141 = .ok (.aload_n 0, 1) := by decide +kernel
theorem dX10_meetsAt_142 : decode cX10_meetsAt 142 = .ok (.bipush 27, 2) := by decide +kernel
theorem dX10_meetsAt_144 : decode cX10_meetsAt 144 = .ok (.iload 4, 2) := by decide +kernel
theorem dX10_meetsAt_146 : decode cX10_meetsAt 146 = .ok (.iload 7, 2) := by decide +kernel
theorem dX10_meetsAt_148 : decode cX10_meetsAt 148 = .ok (.iload 11, 2) := by decide +kernel
theorem dX10_meetsAt_150 : decode cX10_meetsAt 150 = .ok (.invokevirtual 91, 3) := by decide +kernel
theorem dX10_meetsAt_153 : decode cX10_meetsAt 153 = .ok (.istore 6, 2) := by decide +kernel
theorem dX10_meetsAt_155 : decode cX10_meetsAt 155 = .ok (.iload 11, 2) := by decide +kernel
theorem dX10_meetsAt_157 : decode cX10_meetsAt 157 = .ok (.istore 7, 2) := by decide +kernel
theorem dX10_meetsAt_159 : decode cX10_meetsAt 159 = .ok (.iinc 8 1, 3) := by decide +kernel
theorem dX10_meetsAt_162 : decode cX10_meetsAt 162 = .ok (.goto 40, 3) := by decide +kernel
theorem dX10_meetsAt_165 : decode cX10_meetsAt 165 = .ok (.iload 9, 2) := by decide +kernel
theorem dX10_meetsAt_167 : decode cX10_meetsAt 167 = .ok (.iload 10, 2) := by decide +kernel
theorem dX10_meetsAt_169 : decode cX10_meetsAt 169 = .ok (.if_icmp .ne 24, 3) := by decide +kernel
theorem dX10_meetsAt_172 : decode cX10_meetsAt 172 = .ok (.aload_n 0, 1) := by decide +kernel
theorem dX10_meetsAt_173 : decode cX10_meetsAt 173 = .ok (.bipush 27, 2) := by decide +kernel
theorem dX10_meetsAt_175 : decode cX10_meetsAt 175 = .ok (.iload 4, 2) := by decide +kernel
theorem dX10_meetsAt_177 : decode cX10_meetsAt 177 = .ok (.iload 7, 2) := by decide +kernel
theorem dX10_meetsAt_179 : decode cX10_meetsAt 179 = .ok (.iload 7, 2) := by decide +kernel
theorem dX10_meetsAt_181 : decode cX10_meetsAt 181 = .ok (.iconst 1, 1) := by decide +kernel
theorem dX10_meetsAt_182 : decode cX10_meetsAt 182 = .ok (.iadd, 1) := by decide +kernel
theorem dX10_meetsAt_183 : decode cX10_meetsAt 183 = .ok (.invokevirtual 91, 3) := by decide +kernel
theorem dX10_meetsAt_186 : decode cX10_meetsAt 186 = .ok (.ifCond .eq 7, 3) := by decide +kernel
theorem dX10_meetsAt_189 : decode cX10_meetsAt 189 = .ok (.iconst 1, 1) := by decide +kernel
theorem dX10_meetsAt_190 : decode cX10_meetsAt 190 = .ok (.goto 4, 3) := by decide +kernel
theorem dX10_meetsAt_193 : decode cX10_meetsAt 193 = .ok (.iconst 0, 1) := by decide +kernel
theorem dX10_meetsAt_194 : decode cX10_meetsAt 194 = .ok (.istore 6, 2) := by decide +kernel
theorem dX10_meetsAt_196 : decode cX10_meetsAt 196 = .ok (.iinc 7 1, 3) := by decide +kernel
theorem dX10_meetsAt_199 : decode cX10_meetsAt 199 = .ok (.iinc 8 1, 3) := by decide +kernel
theorem dX10_meetsAt_202 : decode cX10_meetsAt 202 = .ok (.goto (-164), 3) := by decide +kernel
theorem dX10_meetsAt_205 : decode cX10_meetsAt 205 = .ok (.iload 6, 2) := by decide +kernel
theorem dX10_meetsAt_207 : decode cX10_meetsAt 207 = .ok (.ifCond .eq 27, 3) := by decide +kernel
theorem dX10_meetsAt_210 : decode cX10_meetsAt 210 = .ok (.aload_n 0, 1) := by decide +kernel
theorem dX10_meetsAt_211 : decode cX10_meetsAt 211 = .ok (.bipush 27, 2) := by decide +kernel
theorem dX10_meetsAt_213 : decode cX10_meetsAt 213 = .ok (.iload 4, 2) := by decide +kernel
theorem dX10_meetsAt_215 : decode cX10_meetsAt 215 = .ok (.iload 7, 2) := by decide +kernel
theorem dX10_meetsAt_217 : decode cX10_meetsAt 217 = .ok (.aload_n 0, 1) := by decide +kernel
theorem dX10_meetsAt_218 : decode cX10_meetsAt 218 = .ok (.getfield 16, 3) := by decide +kernel
theorem dX10_meetsAt_221 : decode cX10_meetsAt 221 = .ok (.iload 4, 2) := by decide +kernel
theorem dX10_meetsAt_223 : decode cX10_meetsAt 223 = .ok (.iaload, 1) := by decide +kernel
theorem dX10_meetsAt_224 : decode cX10_meetsAt 224 = .ok (.invokevirtual 91, 3) := by decide +kernel
theorem dX10_meetsAt_227 : decode cX10_meetsAt 227 = .ok (.ifCond .eq 7, 3) := by decide +kernel
theorem dX10_meetsAt_230 : decode cX10_meetsAt 230 = .ok (.iconst 1, 1) := by decide +kernel
theorem dX10_meetsAt_231 : decode cX10_meetsAt 231 = .ok (.goto 4, 3) := by decide +kernel
theorem dX10_meetsAt_234 : decode cX10_meetsAt 234 = .ok (.iconst 0, 1) := by decide +kernel
theorem dX10_meetsAt_235 : decode cX10_meetsAt 235 = .ok (.ireturn, 1) := by decide +kernel
set_option maxRecDepth 20000 in
theorem ggX10_goesTo_X10_meetsAt : GoodIn wsX10_goesTo wsX10_meetsAt := goodIn_r _ [11, 2, 3, 12, 13, 14, 10, 15, 16, 17, 18, 19, 20, 21, 22, 23, 24, 25, 26, 27, 28, 29, 30, 31, 32, 33, 34, 35, 36, 37, 38, 39, 40, 41, 42, 43, 44, 45, 46, 47, 48, 49, 50] (by decide +kernel) (by decide +kernel)
set_option maxRecDepth 20000 in
theorem gX10_goesTo_X10_meetsAt : GoodIn wsX10_goesTo (wsV RX10 156 RX10 yX10_meetsAt wsX10_meetsAt) := goodIn_app (goodIn_of _ (by decide +kernel)) ggX10_goesTo_X10_meetsAt
theorem dX10_goesTo_0 : decode cX10_goesTo 0 = .ok (.iconst 0, 1) := by decide +kernel
theorem dX10_goesTo_1 : decode cX10_goesTo 1 = .ok (.istore_n 2, 1) := by decide +kernel
theorem dX10_goesTo_2 : decode cX10_goesTo 2 = .ok (.iconst 0, 1) := by decide +kernel
theorem dX10_goesTo_3 : decode cX10_goesTo 3 = .ok (.istore_n 3, 1) := by decide +kernel
theorem dX10_goesTo_4 : decode cX10_goesTo 4 = .ok (.iload_n 3, 1) := by decide +kernel
theorem dX10_goesTo_5 : decode cX10_goesTo 5 = .ok (.aload_n 0, 1) := by decide +kernel
theorem dX10_goesTo_6 : decode cX10_goesTo 6 = .ok (.getfield 102, 3) := by decide +kernel
theorem dX10_goesTo_9 : decode cX10_goesTo 9 = .ok (.if_icmp .ge 119, 3) := by decide +kernel
theorem dX10_goesTo_12 : decode cX10_goesTo 12 = .ok (.iconst 0, 1) := by decide +kernel
theorem dX10_goesTo_13 : decode cX10_goesTo 13 = .ok (.istore 4, 2) := by decide +kernel
theorem dX10_goesTo_15 : decode cX10_goesTo 15 = .ok (.iload 4, 2) := by decide +kernel
theorem dX10_goesTo_17 : decode cX10_goesTo 17 = .ok (.aload_n 0, 1) := by decide +kernel
theorem dX10_goesTo_18 : decode cX10_goesTo 18 = .ok (.getfield 102, 3) := by decide +kernel
theorem dX10_goesTo_21 : decode cX10_goesTo 21 = .ok (.if_icmp .ge 101, 3) := by decide +kernel
theorem dX10_goesTo_24 : decode cX10_goesTo 24 = .ok (.iconst 0, 1) := by decide +kernel
theorem dX10_goesTo_25 : decode cX10_goesTo 25 = .ok (.istore 5, 2) := by decide +kernel
theorem dX10_goesTo_27 : decode cX10_goesTo 27 = .ok (.iload 5, 2) := by decide +kernel
theorem dX10_goesTo_29 : decode cX10_goesTo 29 = .ok (.aload_n 0, 1) := by decide +kernel
theorem dX10_goesTo_30 : decode cX10_goesTo 30 = .ok (.getfield 16, 3) := by decide +kernel
theorem dX10_goesTo_33 : decode cX10_goesTo 33 = .ok (.bipush 10, 2) := by decide +kernel
theorem dX10_goesTo_35 : decode cX10_goesTo 35 = .ok (.iload_n 3, 1) := by decide +kernel
theorem dX10_goesTo_36 : decode cX10_goesTo 36 = .ok (.iadd, 1) := by decide +kernel
theorem dX10_goesTo_37 : decode cX10_goesTo 37 = .ok (.iaload, 1) := by decide +kernel
theorem dX10_goesTo_38 : decode cX10_goesTo 38 = .ok (.if_icmp .ge 78, 3) := by decide +kernel
theorem dX10_goesTo_41 : decode cX10_goesTo 41 = .ok (.aload_n 0, 1) := by decide +kernel
theorem dX10_goesTo_42 : decode cX10_goesTo 42 = .ok (.getfield 13, 3) := by decide +kernel
theorem dX10_goesTo_45 : decode cX10_goesTo 45 = .ok (.bipush 60, 2) := by decide +kernel
theorem dX10_goesTo_47 : decode cX10_goesTo 47 = .ok (.bipush 10, 2) := by decide +kernel
theorem dX10_goesTo_49 : decode cX10_goesTo 49 = .ok (.iload_n 3, 1) := by decide +kernel
theorem dX10_goesTo_50 : decode cX10_goesTo 50 = .ok (.iadd, 1) := by decide +kernel
theorem dX10_goesTo_51 : decode cX10_goesTo 51 = .ok (.imul, 1) := by decide +kernel
theorem dX10_goesTo_52 : decode cX10_goesTo 52 = .ok (.iload 5, 2) := by decide +kernel
theorem dX10_goesTo_54 : decode cX10_goesTo 54 = .ok (.iadd, 1) := by decide +kernel
theorem dX10_goesTo_55 : decode cX10_goesTo 55 = .ok (.iaload, 1) := by decide +kernel
theorem dX10_goesTo_56 : decode cX10_goesTo 56 = .ok (.iconst (-1), 1) := by decide +kernel
theorem dX10_goesTo_57 : decode cX10_goesTo 57 = .ok (.if_icmp .eq 53, 3) := by decide +kernel
theorem dX10_goesTo_60 : decode cX10_goesTo 60 = .ok (.iload 5, 2) := by decide +kernel
theorem dX10_goesTo_62 : decode cX10_goesTo 62 = .ok (.ifCond .gt 9, 3) := by decide +kernel
theorem dX10_goesTo_65 : decode cX10_goesTo 65 = .ok (.iload_n 3, 1) := by decide +kernel
theorem dX10_goesTo_66 : decode cX10_goesTo 66 = .ok (.iload 4, 2) := by decide +kernel
theorem dX10_goesTo_68 : decode cX10_goesTo 68 = .ok (.if_icmp .ge 42, 3) := by decide +kernel
theorem dX10_goesTo_71 : decode cX10_goesTo 71 = .ok (.aload_n 0, 1) := by decide +kernel
theorem dX10_goesTo_72 : decode cX10_goesTo 72 = .ok (.iload_n 3, 1) := by decide +kernel
theorem dX10_goesTo_73 : decode cX10_goesTo 73 = .ok (.iload 4, 2) := by decide +kernel
theorem dX10_goesTo_75 : decode cX10_goesTo 75 = .ok (.iload 5, 2) := by decide +kernel
theorem dX10_goesTo_77 : decode cX10_goesTo 77 = .ok (.invokevirtual 156, 3) := by decide +kernel
theorem dX10_goesTo_80 : decode cX10_goesTo 80 = .ok (.ifCond .eq 30, 3) := by decide +kernel
theorem dX10_goesTo_83 : decode cX10_goesTo 83 = .ok (.iload_n 2, 1) := by decide +kernel
theorem dX10_goesTo_84 : decode cX10_goesTo 84 = .ok (.iload_n 1, 1) := by decide +kernel
theorem dX10_goesTo_85 : decode cX10_goesTo 85 = .ok (.if_icmp .ne 22, 3) := by decide +kernel
theorem dX10_goesTo_88 : decode cX10_goesTo 88 = .ok (.aload_n 0, 1) := by decide +kernel
theorem dX10_goesTo_89 : decode cX10_goesTo 89 = .ok (.iload_n 3, 1) := by decide +kernel
theorem dX10_goesTo_90 : decode cX10_goesTo 90 = .ok (.putfield 159, 3) := by decide +kernel
theorem dX10_goesTo_93 : decode cX10_goesTo 93 = .ok (.aload_n 0, 1) := by decide +kernel
theorem dX10_goesTo_94 : decode cX10_goesTo 94 = .ok (.iload 4, 2) := by decide +kernel
theorem dX10_goesTo_96 : decode cX10_goesTo 96 = .ok (.putfield 162, 3) := by decide +kernel
theorem dX10_goesTo_99 : decode cX10_goesTo 99 = .ok (.aload_n 0, 1) := by decide +kernel
theorem dX10_goesTo_100 : decode cX10_goesTo 100 = .ok (.iload 5, 2) := by decide +kernel
theorem dX10_goesTo_102 : decode cX10_goesTo 102 = .ok (.putfield 165, 3) := by decide +kernel
theorem dX10_goesTo_105 : decode cX10_goesTo 105 = .ok (.iload_n 2, 1) := by decide +kernel
theorem dX10_goesTo_106 : decode cX10_goesTo 106 = .ok (.ireturn, 1) := by decide +kernel
theorem dX10_goesTo_107 : decode cX10_goesTo 107 = .ok (.iinc 2 1, 3) := by decide +kernel
theorem dX10_goesTo_110 : decode cX10_goesTo 110 = .ok (.iinc 5 1, 3) := by decide +kernel
theorem dX10_goesTo_113 : decode cX10_goesTo 113 = .ok (.goto (-86), 3) := by decide +kernel
theorem dX10_goesTo_116 : decode cX10_goesTo 116 = .ok (.iinc 4 1, 3) := by decide +kernel
theorem dX10_goesTo_119 : decode cX10_goesTo 119 = .ok (.goto (-104), 3) := by decide +kernel
theorem dX10_goesTo_122 : decode cX10_goesTo 122 = .ok (.iinc 3 1, 3) := by decide +kernel
theorem dX10_goesTo_125 : decode cX10_goesTo 125 = .ok (.goto (-121), 3) := by decide +kernel
theorem dX10_goesTo_128 : decode cX10_goesTo 128 = .ok (.iload_n 2, 1) := by decide +kernel
theorem dX10_goesTo_129 : decode cX10_goesTo 129 = .ok (.ireturn, 1) := by decide +kernel
