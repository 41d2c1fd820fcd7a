set_option maxRecDepth 20000 in
theorem ggX8_hasDual_X3_size : GoodIn wsX8_hasDual wsX3_size := goodIn_r _ [11, 12, 13, 14, 15, 10, 16, 17, 25, 26] (by decide +kernel) (by decide +kernel)
set_option maxRecDepth 20000 in
theorem gX8_hasDual_X3_size : GoodIn wsX8_hasDual (wsV RX8 66 RX3 yX3_size wsX3_size) := goodIn_app (goodIn_of _ (by decide +kernel)) ggX8_hasDual_X3_size
theorem dX8_hasDual_0 : decode cX8_hasDual 0 = .ok (.iconst 0, 1) := by decide +kernel
theorem dX8_hasDual_1 : decode cX8_hasDual 1 = .ok (.istore_n 1, 1) := by decide +kernel
theorem dX8_hasDual_2 : decode cX8_hasDual 2 = .ok (.iload_n 1, 1) := by decide +kernel
theorem dX8_hasDual_3 : decode cX8_hasDual 3 = .ok (.aload_n 0, 1) := by decide +kernel
theorem dX8_hasDual_4 : decode cX8_hasDual 4 = .ok (.getfield 22, 3) := by decide +kernel
theorem dX8_hasDual_7 : decode cX8_hasDual 7 = .ok (.if_icmp .ge 21, 3) := by decide +kernel
theorem dX8_hasDual_10 : decode cX8_hasDual 10 = .ok (.aload_n 0, 1) := by decide +kernel
theorem dX8_hasDual_11 : decode cX8_hasDual 11 = .ok (.getfield 9, 3) := by decide +kernel
theorem dX8_hasDual_14 : decode cX8_hasDual 14 = .ok (.iload_n 1, 1) := by decide +kernel
theorem dX8_hasDual_15 : decode cX8_hasDual 15 = .ok (.iaload, 1) := by decide +kernel
theorem dX8_hasDual_16 : decode cX8_hasDual 16 = .ok (.iconst 2, 1) := by decide +kernel
theorem dX8_hasDual_17 : decode cX8_hasDual 17 = .ok (.if_icmp .eq 5, 3) := by decide +kernel
theorem dX8_hasDual_20 : decode cX8_hasDual 20 = .ok (.iconst 0, 1) := by decide +kernel
theorem dX8_hasDual_21 : decode cX8_hasDual 21 = .ok (.ireturn, 1) := by decide +kernel
theorem dX8_hasDual_22 : decode cX8_hasDual 22 = .ok (.iinc 1 1, 3) := by decide +kernel
theorem dX8_hasDual_25 : decode cX8_hasDual 25 = .ok (.goto (-23), 3) := by decide +kernel
theorem dX8_hasDual_28 : decode cX8_hasDual 28 = .ok (.iconst 0, 1) := by decide +kernel
theorem dX8_hasDual_29 : decode cX8_hasDual 29 = .ok (.istore_n 1, 1) := by decide +kernel
theorem dX8_hasDual_30 : decode cX8_hasDual 30 = .ok (.iload_n 1, 1) := by decide +kernel
theorem dX8_hasDual_31 : decode cX8_hasDual 31 = .ok (.aload_n 0, 1) := by decide +kernel
theorem dX8_hasDual_32 : decode cX8_hasDual 32 = .ok (.getfield 26, 3) := by decide +kernel
theorem dX8_hasDual_35 : decode cX8_hasDual 35 = .ok (.if_icmp .ge 39, 3) := by decide +kernel
theorem dX8_hasDual_38 : decode cX8_hasDual 38 = .ok (.aload_n 0, 1) := by decide +kernel
theorem dX8_hasDual_39 : decode cX8_hasDual 39 = .ok (.getfield 17, 3) := by decide +kernel
theorem dX8_hasDual_42 : decode cX8_hasDual 42 = .ok (.iload_n 1, 1) := by decide +kernel
theorem dX8_hasDual_43 : decode cX8_hasDual 43 = .ok (.aaload, 1) := by decide +kernel
theorem dX8_hasDual_44 : decode cX8_hasDual 44 = .ok (.getfield 42, 3) := by decide +kernel
theorem dX8_hasDual_47 : decode cX8_hasDual 47 = .ok (.ifCond .eq 19, 3) := by decide +kernel
theorem dX8_hasDual_50 : decode cX8_hasDual 50 = .ok (.aload_n 0, 1) := by decide +kernel
theorem dX8_hasDual_51 : decode cX8_hasDual 51 = .ok (.getfield 17, 3) := by decide +kernel
theorem dX8_hasDual_54 : decode cX8_hasDual 54 = .ok (.iload_n 1, 1) := by decide +kernel
theorem dX8_hasDual_55 : decode cX8_hasDual 55 = .ok (.aaload, 1) := by decide +kernel
theorem dX8_hasDual_56 : decode cX8_hasDual 56 = .ok (.getfield 29, 3) := by decide +kernel
theorem dX8_hasDual_59 : decode cX8_hasDual 59 = .ok (.invokevirtual 66, 3) := by decide +kernel
theorem dX8_hasDual_62 : decode cX8_hasDual 62 = .ok (.iconst 2, 1) := by decide +kernel
theorem dX8_hasDual_63 : decode cX8_hasDual 63 = .ok (.if_icmp .eq 5, 3) := by decide +kernel
theorem dX8_hasDual_66 : decode cX8_hasDual 66 = .ok (.iconst 0, 1) := by decide +kernel
theorem dX8_hasDual_67 : decode cX8_hasDual 67 = .ok (.ireturn, 1) := by decide +kernel
theorem dX8_hasDual_68 : decode cX8_hasDual 68 = .ok (.iinc 1 1, 3) := by decide +kernel
theorem dX8_hasDual_71 : decode cX8_hasDual 71 = .ok (.goto (-41), 3) := by decide +kernel
theorem dX8_hasDual_74 : decode cX8_hasDual 74 = .ok (.iconst 1, 1) := by decide +kernel
theorem dX8_hasDual_75 : decode cX8_hasDual 75 = .ok (.ireturn, 1) := by decide +kernel
theorem dX8_hasLeft_0 : decode cX8_hasLeft 0 = .ok (.iconst 0, 1) := by decide +kernel
theorem dX8_hasLeft_1 : decode cX8_hasLeft 1 = .ok (.istore 4, 2) := by decide +kernel
theorem dX8_hasLeft_3 : decode cX8_hasLeft 3 = .ok (.iload 4, 2) := by decide +kernel
theorem dX8_hasLeft_5 : decode cX8_hasLeft 5 = .ok (.aload_n 0, 1) := by decide +kernel
theorem dX8_hasLeft_6 : decode cX8_hasLeft 6 = .ok (.getfield 26, 3) := by decide +kernel
theorem dX8_hasLeft_9 : decode cX8_hasLeft 9 = .ok (.if_icmp .ge 44, 3) := by decide +kernel
theorem dX8_hasLeft_12 : decode cX8_hasLeft 12 = .ok (.aload_n 0, 1) := by decide +kernel
theorem dX8_hasLeft_13 : decode cX8_hasLeft 13 = .ok (.getfield 17, 3) := by decide +kernel
theorem dX8_hasLeft_16 : decode cX8_hasLeft 16 = .ok (.iload 4, 2) := by decide +kernel
theorem dX8_hasLeft_18 : decode cX8_hasLeft 18 = .ok (.aaload, 1) := by decide +kernel
theorem dX8_hasLeft_19 : decode cX8_hasLeft 19 = .ok (.getfield 29, 3) := by decide +kernel
theorem dX8_hasLeft_22 : decode cX8_hasLeft 22 = .ok (.getfield 55, 3) := by decide +kernel
theorem dX8_hasLeft_25 : decode cX8_hasLeft 25 = .ok (.astore 5, 2) := by decide +kernel
theorem dX8_hasLeft_27 : decode cX8_hasLeft 27 = .ok (.aload 5, 2) := by decide +kernel
theorem dX8_hasLeft_29 : decode cX8_hasLeft 29 = .ok (.iconst 0, 1) := by decide +kernel
theorem dX8_hasLeft_30 : decode cX8_hasLeft 30 = .ok (.iaload, 1) := by decide +kernel
theorem dX8_hasLeft_31 : decode cX8_hasLeft 31 = .ok (.iload_n 1, 1) := by decide +kernel
theorem dX8_hasLeft_32 : decode cX8_hasLeft 32 = .ok (.if_icmp .ne 15, 3) := by decide +kernel
theorem dX8_hasLeft_35 : decode cX8_hasLeft 35 = .ok (.aload 5, 2) := by decide +kernel
theorem dX8_hasLeft_37 : decode cX8_hasLeft 37 = .ok (.iconst 1, 1) := by decide +kernel
theorem dX8_hasLeft_38 : decode cX8_hasLeft 38 = .ok (.iload_n 2, 1) := by decide +kernel
theorem dX8_hasLeft_39 : decode cX8_hasLeft 39 = .ok (.iadd, 1) := by decide +kernel
theorem dX8_hasLeft_40 : decode cX8_hasLeft 40 = .ok (.iaload, 1) := by decide +kernel
theorem dX8_hasLeft_41 : decode cX8_hasLeft 41 = .ok (.iload_n 3, 1) := by decide +kernel
theorem dX8_hasLeft_42 : decode cX8_hasLeft 42 = .ok (.if_icmp .ne 5, 3) := by decide +kernel
theorem dX8_hasLeft_45 : decode cX8_hasLeft 45 = .ok (.iconst 1, 1) := by decide +kernel
theorem dX8_hasLeft_46 : decode cX8_hasLeft 46 = .ok (.ireturn, 1) := by decide +kernel
theorem dX8_hasLeft_47 : decode cX8_hasLeft 47 = .ok (.iinc 4 1, 3) := by decide +kernel
theorem dX8_hasLeft_50 : decode cX8_hasLeft 50 = .ok (.goto (-47), 3) := by decide +kernel
theorem dX8_hasLeft_53 : decode cX8_hasLeft 53 = .ok (.iconst 0, 1) := by decide +kernel
theorem dX8_hasLeft_54 : decode cX8_hasLeft 54 = .ok (.ireturn, 1) := by decide +kernel
set_option maxRecDepth 20000 in
theorem ggX9_init_X8_init : GoodIn wsX9_init wsX8_init := goodIn_r _ [39, 40, 2, 3, 41, 42, 43, 44, 45, 46, 47, 48, 49, 50, 10, 11, 51, 52, 53, 54, 55, 56, 99, 100, 101, 102, 138, 139, 140, 117, 118] (by decide +kernel) (by decide +kernel)
set_option maxRecDepth 20000 in
theorem gX9_init_X8_init : GoodIn wsX9_init (wsX8_init) := ggX9_init_X8_init
set_option maxRecDepth 20000 in
theorem ggX9_init_X3_init : GoodIn wsX9_init wsX3_init := goodIn_r _ [54, 55, 2, 3, 41, 56, 117, 118] (by decide +kernel) (by decide +kernel)
set_option maxRecDepth 20000 in
theorem gX9_init_X3_init_n22 : GoodIn wsX9_init (wsX3_init) := ggX9_init_X3_init
set_option maxRecDepth 20000 in
theorem ggX9_init_X6_init : GoodIn wsX9_init wsX6_init := goodIn_r _ [58, 59, 2, 3, 41, 60, 119] (by decide +kernel) (by decide +kernel)
set_option maxRecDepth 20000 in
theorem gX9_init_X6_init_n29 : GoodIn wsX9_init (wsX6_init) := ggX9_init_X6_init
set_option maxRecDepth 20000 in
theorem ggX9_init_X2_init : GoodIn wsX9_init wsX2_init := goodIn_r _ [62, 63, 2, 3, 64, 14, 15, 65, 41, 66, 67, 10, 11, 68, 69, 70, 57, 58, 59, 60, 53, 54, 55, 56, 119, 120, 121, 122, 123, 124, 117, 118] (by decide +kernel) (by decide +kernel)
set_option maxRecDepth 20000 in
theorem gX9_init_X2_init_n36 : GoodIn wsX9_init (wsX2_init) := ggX9_init_X2_init
set_option maxRecDepth 20000 in
theorem ggX9_init_X1_init : GoodIn wsX9_init wsX1_init := goodIn_r _ [72, 73, 2, 3, 74, 10, 11, 75, 53, 54, 55, 41, 56, 117, 118, 125, 126, 127, 128, 129] (by decide +kernel) (by decide +kernel)
set_option maxRecDepth 20000 in
theorem gX9_init_X1_init_n43 : GoodIn wsX9_init (wsX1_init) := ggX9_init_X1_init
set_option maxRecDepth 20000 in
theorem ggX9_init_X0_init : GoodIn wsX9_init wsX0_init := goodIn_r _ [78, 79, 2, 3, 41, 80, 81, 33, 82, 83, 84, 85, 86, 87, 88, 89, 90, 91, 92, 130, 131, 132, 133, 134, 135, 141, 142, 143] (by decide +kernel) (by decide +kernel)
set_option maxRecDepth 20000 in
theorem gX9_init_X0_init : GoodIn wsX9_init (wsX0_init) := ggX9_init_X0_init
set_option maxRecDepth 20000 in
theorem ggX9_init_X5_init : GoodIn wsX9_init wsX5_init := goodIn_r _ [94, 95, 2, 3, 33, 96, 97, 98, 136, 137] (by decide +kernel) (by decide +kernel)
set_option maxRecDepth 20000 in
theorem gX9_init_X5_init_n57 : GoodIn wsX9_init (wsX5_init) := ggX9_init_X5_init
theorem dX9_init_0 : decode cX9_init 0 = .ok (.aload_n 0, 1) := by decide +kernel
theorem dX9_init_1 : decode cX9_init 1 = .ok (.invokespecial 1, 3) := by decide +kernel
theorem dX9_init_4 : decode cX9_init 4 = .ok (.aload_n 0, 1) := by decide +kernel
theorem dX9_init_5 : decode cX9_init 5 = .ok (.new 7, 3) := by decide +kernel
theorem dX9_init_8 : decode cX9_init 8 = .ok (.dup, 1) := by decide +kernel
theorem dX9_init_9 : decode cX9_init 9 = .ok (.invokespecial 9, 3) := by decide +kernel
theorem dX9_init_12 : decode cX9_init 12 = .ok (.putfield 10, 3) := by decide +kernel
theorem dX9_init_15 : decode cX9_init 15 = .ok (.aload_n 0, 1) := by decide +kernel
theorem dX9_init_16 : decode cX9_init 16 = .ok (.bipush 10, 2) := by decide +kernel
theorem dX9_init_18 : decode cX9_init 18 = .ok (.anewarray 16, 3) := by decide +kernel
theorem dX9_init_21 : decode cX9_init 21 = .ok (.putfield 18, 3) := by decide +kernel
theorem dX9_init_24 : decode cX9_init 24 = .ok (.aload_n 0, 1) := by decide +kernel
theorem dX9_init_25 : decode cX9_init 25 = .ok (.new 16, 3) := by decide +kernel
theorem dX9_init_28 : decode cX9_init 28 = .ok (.dup, 1) := by decide +kernel
theorem dX9_init_29 : decode cX9_init 29 = .ok (.invokespecial 22, 3) := by decide +kernel
theorem dX9_init_32 : decode cX9_init 32 = .ok (.putfield 23, 3) := by decide +kernel
theorem dX9_init_35 : decode cX9_init 35 = .ok (.aload_n 0, 1) := by decide +kernel
theorem dX9_init_36 : decode cX9_init 36 = .ok (.new 27, 3) := by decide +kernel
theorem dX9_init_39 : decode cX9_init 39 = .ok (.dup, 1) := by decide +kernel
theorem dX9_init_40 : decode cX9_init 40 = .ok (.invokespecial 29, 3) := by decide +kernel
theorem dX9_init_43 : decode cX9_init 43 = .ok (.putfield 30, 3) := by decide +kernel
theorem dX9_init_46 : decode cX9_init 46 = .ok (.aload_n 0, 1) := by decide +kernel
theorem dX9_init_47 : decode cX9_init 47 = .ok (.new 34, 3) := by decide +kernel
theorem dX9_init_50 : decode cX9_init 50 = .ok (.dup, 1) := by decide +kernel
theorem dX9_init_51 : decode cX9_init 51 = .ok (.invokespecial 36, 3) := by decide +kernel
theorem dX9_init_54 : decode cX9_init 54 = .ok (.putfield 37, 3) := by decide +kernel
theorem dX9_init_57 : decode cX9_init 57 = .ok (.aload_n 0, 1) := by decide +kernel
theorem dX9_init_58 : decode cX9_init 58 = .ok (.new 41, 3) := by decide +kernel
theorem dX9_init_61 : decode cX9_init 61 = .ok (.dup, 1) := by decide +kernel
theorem dX9_init_62 : decode cX9_init 62 = .ok (.invokespecial 43, 3) := by decide +kernel
theorem dX9_init_65 : decode cX9_init 65 = .ok (.putfield 44, 3) := by decide +kernel
theorem dX9_init_68 : decode cX9_init 68 = .ok (.aload_n 0, 1) := by decide +kernel
theorem dX9_init_69 : decode cX9_init 69 = .ok (.new 48, 3) := by decide +kernel
theorem dX9_init_72 : decode cX9_init 72 = .ok (.dup, 1) := by decide +kernel
theorem dX9_init_73 : decode cX9_init 73 = .ok (.invokespecial 50, 3) := by decide +kernel
theorem dX9_init_76 : decode cX9_init 76 = .ok (.putfield 51, 3) := by decide +kernel
theorem dX9_init_79 : decode cX9_init 79 = .ok (.aload_n 0, 1) := by decide +kernel
theorem dX9_init_80 : decode cX9_init 80 = .ok (.new 55, 3) := by decide +kernel
theorem dX9_init_83 : decode cX9_init 83 = .ok (.dup, 1) := by decide +kernel
theorem dX9_init_84 : decode cX9_init 84 = .ok (.invokespecial 57, 3) := by decide +kernel
theorem dX9_init_87 : decode cX9_init 87 = .ok (.putfield 58, 3) := by decide +kernel
theorem dX9_init_90 : decode cX9_init 90 = .ok (.aload_n 0, 1) := by decide +kernel
theorem dX9_init_91 : decode cX9_init 91 = .ok (.bipush 7, 2) := by decide +kernel
theorem dX9_init_93 : decode cX9_init 93 = .ok (.newarray .long, 2) := by decide +kernel
theorem dX9_init_95 : decode cX9_init 95 = .ok (.putfield 62, 3) := by decide +kernel
theorem dX9_init_98 : decode cX9_init 98 = .ok (.aload_n 0, 1) := by decide +kernel
theorem dX9_init_99 : decode cX9_init 99 = .ok (.bipush 7, 2) := by decide +kernel
theorem dX9_init_101 : decode cX9_init 101 = .ok (.newarray .long, 2) := by decide +kernel
theorem dX9_init_103 : decode cX9_init 103 = .ok (.putfield 66, 3) := by decide +kernel
theorem dX9_init_106 : decode cX9_init 106 = .ok (.aload_n 0, 1) := by decide +kernel
theorem dX9_init_107 : decode cX9_init 107 = .ok (.iconst (-1), 1) := by decide +kernel
theorem dX9_init_108 : decode cX9_init 108 = .ok (.putfield 69, 3) := by decide +kernel
theorem dX9_init_111 : decode cX9_init 111 = .ok (.iconst 0, 1) := by decide +kernel
theorem dX9_init_112 : decode cX9_init 112 = .ok (.istore_n 1, 1) := by decide +kernel
theorem dX9_init_113 : decode cX9_init 113 = .ok (.iload_n 1, 1) := by decide +kernel
theorem dX9_init_114 : decode cX9_init 114 = .ok (.bipush 10, 2) := by decide +kernel
theorem dX9_init_116 : decode cX9_init 116 = .ok (.if_icmp .ge 22, 3) := by decide +kernel
theorem dX9_init_119 : decode cX9_init 119 = .ok (.aload_n 0, 1) := by decide +kernel
theorem dX9_init_120 : decode cX9_init 120 = .ok (.getfield 18, 3) := by decide +kernel
theorem dX9_init_123 : decode cX9_init 123 = .ok (.iload_n 1, 1) := by decide +kernel
theorem dX9_init_124 : decode cX9_init 124 = .ok (.new 16, 3) := by decide +kernel
theorem dX9_init_127 : decode cX9_init 127 = .ok (.dup, 1) := by decide +kernel
theorem dX9_init_128 : decode cX9_init 128 = .ok (.invokespecial 22, 3) := by decide +kernel
theorem dX9_init_131 : decode cX9_init 131 = .ok (.aastore, 1) := by decide +kernel
theorem dX9_init_132 : decode cX9_init 132 = .ok (.iinc 1 1, 3) := by decide +kernel
theorem dX9_init_135 : decode cX9_init 135 = .ok (.goto (-22), 3) := by decide +kernel
theorem dX9_init_138 : decode cX9_init 138 = .ok (.return_, 1) := by decide +kernel
set_option maxRecDepth 20000 in
theorem ggX9_act_X9_forget : GoodIn wsX9_act wsX9_forget := goodIn_r _ [7, 8, 9, 10, 18, 19, 20, 21, 22, 23, 24, 25, 26, 27, 28, 29, 30, 31] (by decide +kernel) (by decide +kernel)
set_option maxRecDepth 20000 in
theorem gX9_act_X9_forget : GoodIn wsX9_act (wsV RX9 76 RX9 yX9_forget wsX9_forget) := goodIn_app (goodIn_of _ (by decide +kernel)) ggX9_act_X9_forget
set_option maxRecDepth 20000 in
theorem ggX9_act_X8_addAct : GoodIn wsX9_act wsX8_addAct := goodIn_r _ [15, 16, 17, 32, 33, 34, 35] (by decide +kernel) (by decide +kernel)
set_option maxRecDepth 20000 in
theorem gX9_act_X8_addAct : GoodIn wsX9_act (wsV RX9 79 RX8 yX8_addAct wsX8_addAct) := goodIn_app (goodIn_of _ (by decide +kernel)) ggX9_act_X8_addAct
theorem dX9_act_0 : decode cX9_act 0 = .ok (.iload_n 1, 1) := by decide +kernel
theorem dX9_act_1 : decode cX9_act 1 = .ok (.iconst 2, 1) := by decide +kernel
theorem dX9_act_2 : decode cX9_act 2 = .ok (.if_icmp .eq 11, 3) := by decide +kernel
theorem dX9_act_5 : decode cX9_act 5 = .ok (.iload_n 1, 1) := by decide +kernel
theorem dX9_act_6 : decode cX9_act 6 = .ok (.iconst 3, 1) := by decide +kernel
theorem dX9_act_7 : decode cX9_act 7 = .ok (.if_icmp .eq 6, 3) := by decide +kernel
theorem dX9_act_10 : decode cX9_act 10 = .ok (.bipush (-2), 2) := by decide +kernel
theorem dX9_act_12 : decode cX9_act 12 = .ok (.ireturn, 1) := by decide +kernel
theorem dX9_act_13 : decode cX9_act 13 = .ok (.aload_n 0, 1) := by decide +kernel
theorem dX9_act_14 : decode cX9_act 14 = .ok (.getfield 10, 3) := by decide +kernel
theorem dX9_act_17 : decode cX9_act 17 = .ok (.getfield 73, 3) := by decide +kernel
theorem dX9_act_20 : decode cX9_act 20 = .ok (.iconst 4, 1) := by decide +kernel
theorem dX9_act_21 : decode cX9_act 21 = .ok (.if_icmp .lt 6, 3) := by decide +kernel
theorem dX9_act_24 : decode cX9_act 24 = .ok (.bipush (-4), 2) := by decide +kernel
theorem dX9_act_26 : decode cX9_act 26 = .ok (.ireturn, 1) := by decide +kernel
theorem dX9_act_27 : decode cX9_act 27 = .ok (.aload_n 0, 1) := by decide +kernel
theorem dX9_act_28 : decode cX9_act 28 = .ok (.invokevirtual 76, 3) := by decide +kernel
theorem dX9_act_31 : decode cX9_act 31 = .ok (.aload_n 0, 1) := by decide +kernel
theorem dX9_act_32 : decode cX9_act 32 = .ok (.getfield 10, 3) := by decide +kernel
theorem dX9_act_35 : decode cX9_act 35 = .ok (.iload_n 1, 1) := by decide +kernel
theorem dX9_act_36 : decode cX9_act 36 = .ok (.invokevirtual 79, 3) := by decide +kernel
theorem dX9_act_39 : decode cX9_act 39 = .ok (.ireturn, 1) := by decide +kernel
set_option maxRecDepth 20000 in
theorem ggX9_put_X9_isRow : GoodIn wsX9_put wsX9_isRow := goodIn_r _ [7] (by decide +kernel) (by decide +kernel)
set_option maxRecDepth 20000 in
theorem gX9_put_X9_isRow : GoodIn wsX9_put (va_wsS RX9 83 yX9_isRow wsX9_isRow) := goodIn_app (goodIn_of _ (by decide +kernel)) ggX9_put_X9_isRow
set_option maxRecDepth 20000 in
theorem ggX9_put_X8_isSymbol : GoodIn wsX9_put wsX8_isSymbol := goodIn_r _ [12, 13, 37, 38, 39, 40] (by decide +kernel) (by decide +kernel)
set_option maxRecDepth 20000 in
theorem gX9_put_X8_isSymbol : GoodIn wsX9_put (wsV RX9 87 RX8 yX8_isSymbol wsX8_isSymbol) := goodIn_app (goodIn_of _ (by decide +kernel)) ggX9_put_X8_isSymbol
set_option maxRecDepth 20000 in
theorem ggX9_put_X3_add : GoodIn wsX9_put wsX3_add := goodIn_r _ [18, 19, 20, 35, 36] (by decide +kernel) (by decide +kernel)
set_option maxRecDepth 20000 in
theorem gX9_put_X3_add : GoodIn wsX9_put (wsV RX9 90 RX3 yX3_add wsX3_add) := goodIn_app (goodIn_of _ (by decide +kernel)) ggX9_put_X3_add
theorem dX9_put_0 : decode cX9_put 0 = .ok (.iload_n 1, 1) := by decide +kernel
theorem dX9_put_1 : decode cX9_put 1 = .ok (.invokestatic 83, 3) := by decide +kernel
theorem dX9_put_4 : decode cX9_put 4 = .ok (.ifCond .eq 14, 3) := by decide +kernel
theorem dX9_put_7 : decode cX9_put 7 = .ok (.aload_n 0, 1) := by decide +kernel
theorem dX9_put_8 : decode cX9_put 8 = .ok (.getfield 10, 3) := by decide +kernel
theorem dX9_put_11 : decode cX9_put 11 = .ok (.iload_n 2, 1) := by decide +kernel
theorem dX9_put_12 : decode cX9_put 12 = .ok (.invokevirtual 87, 3) := by decide +kernel
theorem dX9_put_15 : decode cX9_put 15 = .ok (.ifCond .ne 6, 3) := by decide +kernel
theorem dX9_put_18 : decode cX9_put 18 = .ok (.bipush (-2), 2) := by decide +kernel
theorem dX9_put_20 : decode cX9_put 20 = .ok (.ireturn, 1) := by decide +kernel
theorem dX9_put_21 : decode cX9_put 21 = .ok (.aload_n 0, 1) := by decide +kernel
theorem dX9_put_22 : decode cX9_put 22 = .ok (.getfield 18, 3) := by decide +kernel
theorem dX9_put_25 : decode cX9_put 25 = .ok (.iload_n 1, 1) := by decide +kernel
theorem dX9_put_26 : decode cX9_put 26 = .ok (.aaload, 1) := by decide +kernel
theorem dX9_put_27 : decode cX9_put 27 = .ok (.iload_n 2, 1) := by decide +kernel
theorem dX9_put_28 : decode cX9_put 28 = .ok (.invokevirtual 90, 3) := by decide +kernel
theorem dX9_put_31 : decode cX9_put 31 = .ok (.ifCond .eq 15, 3) := by decide +kernel
theorem dX9_put_34 : decode cX9_put 34 = .ok (.aload_n 0, 1) := by decide +kernel
theorem dX9_put_35 : decode cX9_put 35 = .ok (.getfield 18, 3) := by decide +kernel
theorem dX9_put_38 : decode cX9_put 38 = .ok (.iload_n 1, 1) := by decide +kernel
theorem dX9_put_39 : decode cX9_put 39 = .ok (.aaload, 1) := by decide +kernel
theorem dX9_put_40 : decode cX9_put 40 = .ok (.getfield 93, 3) := by decide +kernel
theorem dX9_put_43 : decode cX9_put 43 = .ok (.goto 5, 3) := by decide +kernel
theorem dX9_put_46 : decode cX9_put 46 = .ok (.bipush (-4), 2) := by decide +kernel
theorem dX9_put_48 : decode cX9_put 48 = .ok (.ireturn, 1) := by decide +kernel
set_option maxRecDepth 20000 in
theorem ggX9_empty_X9_isRow : GoodIn wsX9_empty wsX9_isRow := goodIn_r _ [6] (by decide +kernel) (by decide +kernel)
set_option maxRecDepth 20000 in
theorem gX9_empty_X9_isRow : GoodIn wsX9_empty (va_wsS RX9 83 yX9_isRow wsX9_isRow) := goodIn_app (goodIn_of _ (by decide +kernel)) ggX9_empty_X9_isRow
set_option maxRecDepth 20000 in
theorem ggX9_empty_X3_clear : GoodIn wsX9_empty wsX3_clear := goodIn_r _ [11, 12, 27, 28] (by decide +kernel) (by decide +kernel)
set_option maxRecDepth 20000 in
theorem gX9_empty_X3_clear : GoodIn wsX9_empty (wsV RX9 96 RX3 yX3_clear wsX3_clear) := goodIn_app (goodIn_of _ (by decide +kernel)) ggX9_empty_X3_clear
theorem dX9_empty_0 : decode cX9_empty 0 = .ok (.iload_n 1, 1) := by decide +kernel
theorem dX9_empty_1 : decode cX9_empty 1 = .ok (.invokestatic 83, 3) := by decide +kernel
theorem dX9_empty_4 : decode cX9_empty 4 = .ok (.ifCond .ne 6, 3) := by decide +kernel
theorem dX9_empty_7 : decode cX9_empty 7 = .ok (.bipush (-2), 2) := by decide +kernel
theorem dX9_empty_9 : decode cX9_empty 9 = .ok (.ireturn, 1) := by decide +kernel
theorem dX9_empty_10 : decode cX9_empty 10 = .ok (.aload_n 0, 1) := by decide +kernel
theorem dX9_empty_11 : decode cX9_empty 11 = .ok (.getfield 18, 3) := by decide +kernel
theorem dX9_empty_14 : decode cX9_empty 14 = .ok (.iload_n 1, 1) := by decide +kernel
theorem dX9_empty_15 : decode cX9_empty 15 = .ok (.aaload, 1) := by decide +kernel
theorem dX9_empty_16 : decode cX9_empty 16 = .ok (.getfield 93, 3) := by decide +kernel
theorem dX9_empty_19 : decode cX9_empty 19 = .ok (.istore_n 2, 1) := by decide +kernel
theorem dX9_empty_20 : decode cX9_empty 20 = .ok (.aload_n 0, 1) := by decide +kernel
theorem dX9_empty_21 : decode cX9_empty 21 = .ok (.getfield 18, 3) := by decide +kernel
theorem dX9_empty_24 : decode cX9_empty 24 = .ok (.iload_n 1, 1) := by decide +kernel
theorem dX9_empty_25 : decode cX9_empty 25 = .ok (.aaload, 1) := by decide +kernel
theorem dX9_empty_26 : decode cX9_empty 26 = .ok (.invokevirtual 96, 3) := by decide +kernel
theorem dX9_empty_29 : decode cX9_empty 29 = .ok (.iload_n 2, 1) := by decide +kernel
theorem dX9_empty_30 : decode cX9_empty 30 = .ok (.ireturn, 1) := by decide +kernel
set_option maxRecDepth 20000 in
theorem ggX9_at_X9_isRow : GoodIn wsX9_at wsX9_isRow := goodIn_r _ [7] (by decide +kernel) (by decide +kernel)
set_option maxRecDepth 20000 in
theorem gX9_at_X9_isRow : GoodIn wsX9_at (va_wsS RX9 83 yX9_isRow wsX9_isRow) := goodIn_app (goodIn_of _ (by decide +kernel)) ggX9_at_X9_isRow
theorem dX9_at_0 : decode cX9_at 0 = .ok (.iload_n 1, 1) := by decide +kernel
theorem dX9_at_1 : decode cX9_at 1 = .ok (.invokestatic 83, 3) := by decide +kernel
theorem dX9_at_4 : decode cX9_at 4 = .ok (.ifCond .ne 6, 3) := by decide +kernel
theorem dX9_at_7 : decode cX9_at 7 = .ok (.bipush (-2), 2) := by decide +kernel
theorem dX9_at_9 : decode cX9_at 9 = .ok (.ireturn, 1) := by decide +kernel
theorem dX9_at_10 : decode cX9_at 10 = .ok (.aload_n 0, 1) := by decide +kernel
theorem dX9_at_11 : decode cX9_at 11 = .ok (.getfield 18, 3) := by decide +kernel
theorem dX9_at_14 : decode cX9_at 14 = .ok (.iload_n 1, 1) := by decide +kernel
theorem dX9_at_15 : decode cX9_at 15 = .ok (.aaload, 1) := by decide +kernel
theorem dX9_at_16 : decode cX9_at 16 = .ok (.astore_n 3, 1) := by decide +kernel
theorem dX9_at_17 : decode cX9_at 17 = .ok (.iload_n 2, 1) := by decide +kernel
theorem dX9_at_18 : decode cX9_at 18 = .ok (.ifCond .lt 20, 3) := by decide +kernel
theorem dX9_at_21 : decode cX9_at 21 = .ok (.iload_n 2, 1) := by decide +kernel
theorem dX9_at_22 : decode cX9_at 22 = .ok (.aload_n 3, 1) := by decide +kernel
theorem dX9_at_23 : decode cX9_at 23 = .ok (.getfield 93, 3) := by decide +kernel
theorem dX9_at_26 : decode cX9_at 26 = .ok (.if_icmp .ge 12, 3) := by decide +kernel
theorem dX9_at_29 : decode cX9_at 29 = .ok (.aload_n 3, 1) := by decide +kernel
theorem dX9_at_30 : decode cX9_at 30 = .ok (.getfield 99, 3) := by decide +kernel
theorem dX9_at_33 : decode cX9_at 33 = .ok (.iload_n 2, 1) := by decide +kernel
theorem dX9_at_34 : decode cX9_at 34 = .ok (.iaload, 1) := by decide +kernel
theorem dX9_at_35 : decode cX9_at 35 = .ok (.goto 5, 3) := by decide +kernel
theorem dX9_at_38 : decode cX9_at 38 = .ok (.bipush (-100), 2) := by decide +kernel
theorem dX9_at_40 : decode cX9_at 40 = .ok (.ireturn, 1) := by decide +kernel
set_option maxRecDepth 20000 in
theorem ggX9_about_X9_isRow : GoodIn wsX9_about wsX9_isRow := goodIn_r _ [8] (by decide +kernel) (by decide +kernel)
set_option maxRecDepth 20000 in
theorem gX9_about_X9_isRow : GoodIn wsX9_about (va_wsS RX9 83 yX9_isRow wsX9_isRow) := goodIn_app (goodIn_of _ (by decide +kernel)) ggX9_about_X9_isRow
set_option maxRecDepth 20000 in
theorem ggX9_about_X8_isTree : GoodIn wsX9_about wsX8_isTree := goodIn_r _ [13, 14, 15, 16, 17, 12, 18, 19, 20, 21, 22, 23, 24, 25, 26, 27, 28, 29, 74, 75, 76, 77, 78, 79] (by decide +kernel) (by decide +kernel)
set_option maxRecDepth 20000 in
theorem gX9_about_X8_isTree : GoodIn wsX9_about (wsV RX9 103 RX8 yX8_isTree wsX8_isTree) := goodIn_app (goodIn_of _ (by decide +kernel)) ggX9_about_X8_isTree
set_option maxRecDepth 20000 in
theorem ggX9_about_X3_leaves : GoodIn wsX9_about wsX3_leaves := goodIn_r _ [34, 35, 36, 74, 75] (by decide +kernel) (by decide +kernel)
set_option maxRecDepth 20000 in
theorem gX9_about_X3_leaves : GoodIn wsX9_about (wsV RX9 107 RX3 yX3_leaves wsX3_leaves) := goodIn_app (goodIn_of _ (by decide +kernel)) ggX9_about_X3_leaves
set_option maxRecDepth 20000 in
theorem ggX9_about_X3_size : GoodIn wsX9_about wsX3_size := goodIn_r _ [40, 35, 41, 31, 32, 33, 34, 36, 74, 75] (by decide +kernel) (by decide +kernel)
set_option maxRecDepth 20000 in
theorem gX9_about_X3_size : GoodIn wsX9_about (wsV RX9 111 RX3 yX3_size wsX3_size) := goodIn_app (goodIn_of _ (by decide +kernel)) ggX9_about_X3_size
set_option maxRecDepth 20000 in
theorem ggX9_about_X6_heightOf : GoodIn wsX9_about wsX6_heightOf := goodIn_r _ [46, 47, 48, 20, 21, 22, 49, 50, 51, 45, 52, 53, 54, 55, 25, 26, 12, 27, 28, 29, 56, 57, 58, 59, 74, 75, 80, 76, 77, 78, 79] (by decide +kernel) (by decide +kernel)
set_option maxRecDepth 20000 in
theorem gX9_about_X6_heightOf : GoodIn wsX9_about (wsV RX9 114 RX6 yX6_heightOf wsX6_heightOf) := goodIn_app (goodIn_of _ (by decide +kernel)) ggX9_about_X6_heightOf
theorem dX9_about_0 : decode cX9_about 0 = .ok (.iload_n 1, 1) := by decide +kernel
theorem dX9_about_1 : decode cX9_about 1 = .ok (.invokestatic 83, 3) := by decide +kernel
theorem dX9_about_4 : decode cX9_about 4 = .ok (.ifCond .eq 12, 3) := by decide +kernel
theorem dX9_about_7 : decode cX9_about 7 = .ok (.iload_n 2, 1) := by decide +kernel
theorem dX9_about_8 : decode cX9_about 8 = .ok (.ifCond .lt 8, 3) := by decide +kernel
theorem dX9_about_11 : decode cX9_about 11 = .ok (.iload_n 2, 1) := by decide +kernel
theorem dX9_about_12 : decode cX9_about 12 = .ok (.iconst 4, 1) := by decide +kernel
theorem dX9_about_13 : decode cX9_about 13 = .ok (.if_icmp .le 6, 3) := by decide +kernel
theorem dX9_about_16 : decode cX9_about 16 = .ok (.bipush (-2), 2) := by decide +kernel
theorem dX9_about_18 : decode cX9_about 18 = .ok (.ireturn, 1) := by decide +kernel
theorem dX9_about_19 : decode cX9_about 19 = .ok (.aload_n 0, 1) := by decide +kernel
theorem dX9_about_20 : decode cX9_about 20 = .ok (.getfield 18, 3) := by decide +kernel
theorem dX9_about_23 : decode cX9_about 23 = .ok (.iload_n 1, 1) := by decide +kernel
theorem dX9_about_24 : decode cX9_about 24 = .ok (.aaload, 1) := by decide +kernel
theorem dX9_about_25 : decode cX9_about 25 = .ok (.astore_n 3, 1) := by decide +kernel
theorem dX9_about_26 : decode cX9_about 26 = .ok (.aload_n 0, 1) := by decide +kernel
theorem dX9_about_27 : decode cX9_about 27 = .ok (.getfield 10, 3) := by decide +kernel
theorem dX9_about_30 : decode cX9_about 30 = .ok (.aload_n 3, 1) := by decide +kernel
theorem dX9_about_31 : decode cX9_about 31 = .ok (.invokevirtual 103, 3) := by decide +kernel
theorem dX9_about_34 : decode cX9_about 34 = .ok (.istore 4, 2) := by decide +kernel
theorem dX9_about_36 : decode cX9_about 36 = .ok (.iload_n 2, 1) := by decide +kernel
theorem dX9_about_37 : decode cX9_about 37 = .ok (.ifCond .ne 8, 3) := by decide +kernel
theorem dX9_about_40 : decode cX9_about 40 = .ok (.aload_n 3, 1) := by decide +kernel
theorem dX9_about_41 : decode cX9_about 41 = .ok (.getfield 93, 3) := by decide +kernel
theorem dX9_about_44 : decode cX9_about 44 = .ok (.ireturn, 1) := by decide +kernel
theorem dX9_about_45 : decode cX9_about 45 = .ok (.iload_n 2, 1) := by decide +kernel
theorem dX9_about_46 : decode cX9_about 46 = .ok (.iconst 1, 1) := by decide +kernel
theorem dX9_about_47 : decode cX9_about 47 = .ok (.if_icmp .ne 14, 3) := by decide +kernel
theorem dX9_about_50 : decode cX9_about 50 = .ok (.iload 4, 2) := by decide +kernel
theorem dX9_about_52 : decode cX9_about 52 = .ok (.ifCond .eq 7, 3) := by decide +kernel
theorem dX9_about_55 : decode cX9_about 55 = .ok (.iconst 1, 1) := by decide +kernel
theorem dX9_about_56 : decode cX9_about 56 = .ok (.goto 4, 3) := by decide +kernel
theorem dX9_about_59 : decode cX9_about 59 = .ok (.iconst 0, 1) := by decide +kernel
theorem dX9_about_60 : decode cX9_about 60 = .ok (.ireturn, 1) := by decide +kernel
theorem dX9_about_61 : decode cX9_about 61 = .ok (.iload 4, 2) := by decide +kernel
theorem dX9_about_63 : decode cX9_about 63 = .ok (.ifCond .ne 6, 3) := by decide +kernel
theorem dX9_about_66 : decode cX9_about 66 = .ok (.bipush (-3), 2) := by decide +kernel
theorem dX9_about_68 : decode cX9_about 68 = .ok (.ireturn, 1) := by decide +kernel
theorem dX9_about_69 : decode cX9_about 69 = .ok (.iload_n 2, 1) := by decide +kernel
theorem dX9_about_70 : decode cX9_about 70 = .ok (.iconst 2, 1) := by decide +kernel
theorem dX9_about_71 : decode cX9_about 71 = .ok (.if_icmp .ne 8, 3) := by decide +kernel
theorem dX9_about_74 : decode cX9_about 74 = .ok (.aload_n 3, 1) := by decide +kernel
theorem dX9_about_75 : decode cX9_about 75 = .ok (.invokevirtual 107, 3) := by decide +kernel
theorem dX9_about_78 : decode cX9_about 78 = .ok (.ireturn, 1) := by decide +kernel
theorem dX9_about_79 : decode cX9_about 79 = .ok (.iload_n 2, 1) := by decide +kernel
theorem dX9_about_80 : decode cX9_about 80 = .ok (.iconst 3, 1) := by decide +kernel
theorem dX9_about_81 : decode cX9_about 81 = .ok (.if_icmp .ne 10, 3) := by decide +kernel
theorem dX9_about_84 : decode cX9_about 84 = .ok (.aload_n 3, 1) := by decide +kernel
theorem dX9_about_85 : decode cX9_about 85 = .ok (.invokevirtual 111, 3) := by decide +kernel
theorem dX9_about_88 : decode cX9_about 88 = .ok (.goto 15, 3) := by decide +kernel
theorem dX9_about_91 : decode cX9_about 91 = .ok (.aload_n 0, 1) := by decide +kernel
theorem dX9_about_92 : decode cX9_about 92 = .ok (.getfield 30, 3) := by decide +kernel
theorem dX9_about_95 : decode cX9_about 95 = .ok (.aload_n 0, 1) := by decide +kernel
theorem dX9_about_96 : decode cX9_about 96 = .ok (.getfield 10, 3) := by decide +kernel
theorem dX9_about_99 : decode cX9_about 99 = .ok (.aload_n 3, 1) := by decide +kernel
theorem dX9_about_100 : decode cX9_about 100 = .ok (.invokevirtual 114, 3) := by decide +kernel
theorem dX9_about_103 : decode cX9_about 103 = .ok (.ireturn, 1) := by decide +kernel
set_option maxRecDepth 20000 in
theorem ggX9_graft_X9_isTreeRow : GoodIn wsX9_graft wsX9_isTreeRow := goodIn_r _ [8, 9, 1, 10, 11, 7, 12, 13, 14, 15, 16, 17, 18, 19, 20, 21, 22, 23, 24, 25, 26, 27, 28, 29, 30, 31, 32, 33, 61, 62, 63, 64, 65, 66, 67, 68, 69, 70, 71, 72, 73, 74, 75, 76, 77, 78, 79, 80] (by decide +kernel) (by decide +kernel)
set_option maxRecDepth 20000 in
theorem gX9_graft_X9_isTreeRow : GoodIn wsX9_graft (wsV RX9 118 RX9 yX9_isTreeRow wsX9_isTreeRow) := goodIn_app (goodIn_of _ (by decide +kernel)) ggX9_graft_X9_isTreeRow
set_option maxRecDepth 20000 in
theorem ggX9_graft_X9_isRow : GoodIn wsX9_graft wsX9_isRow := goodIn_r _ [12] (by decide +kernel) (by decide +kernel)
set_option maxRecDepth 20000 in
theorem gX9_graft_X9_isRow : GoodIn wsX9_graft (va_wsS RX9 83 yX9_isRow wsX9_isRow) := goodIn_app (goodIn_of _ (by decide +kernel)) ggX9_graft_X9_isRow
set_option maxRecDepth 20000 in
theorem ggX9_graft_X3_placeOfLeaf : GoodIn wsX9_graft wsX3_placeOfLeaf := goodIn_r _ [38, 39, 40, 75, 76] (by decide +kernel) (by decide +kernel)
set_option maxRecDepth 20000 in
theorem gX9_graft_X3_placeOfLeaf : GoodIn wsX9_graft (wsV RX9 121 RX3 yX3_placeOfLeaf wsX3_placeOfLeaf) := goodIn_app (goodIn_of _ (by decide +kernel)) ggX9_graft_X3_placeOfLeaf
set_option maxRecDepth 20000 in
theorem ggX9_graft_X3_clear : GoodIn wsX9_graft wsX3_clear := goodIn_r _ [44, 39, 75, 76] (by decide +kernel) (by decide +kernel)
set_option maxRecDepth 20000 in
theorem gX9_graft_X3_clear : GoodIn wsX9_graft (wsV RX9 96 RX3 yX3_clear wsX3_clear) := goodIn_app (goodIn_of _ (by decide +kernel)) ggX9_graft_X3_clear
set_option maxRecDepth 20000 in
theorem ggX9_graft_X3_addPart : GoodIn wsX9_graft wsX3_addPart := goodIn_r _ [48, 39, 40, 49, 50, 51, 52, 75, 76] (by decide +kernel) (by decide +kernel)
set_option maxRecDepth 20000 in
theorem gX9_graft_X3_addPart : GoodIn wsX9_graft (wsV RX9 124 RX3 yX3_addPart wsX3_addPart) := goodIn_app (goodIn_of _ (by decide +kernel)) ggX9_graft_X3_addPart
set_option maxRecDepth 20000 in
theorem ggX9_graft_X9_bring : GoodIn wsX9_graft wsX9_bring := goodIn_r _ [56, 1, 2, 57, 58, 59, 37, 60, 40, 39, 49, 50, 51, 52, 61, 62, 63, 64, 65, 66, 67, 68, 69, 70, 71, 72, 73, 74, 75, 76] (by decide +kernel) (by decide +kernel)
set_option maxRecDepth 20000 in
theorem gX9_graft_X9_bring : GoodIn wsX9_graft (wsV RX9 128 RX9 yX9_bring wsX9_bring) := goodIn_app (goodIn_of _ (by decide +kernel)) ggX9_graft_X9_bring
theorem dX9_graft_0 : decode cX9_graft 0 = .ok (.aload_n 0, 1) := by decide +kernel
theorem dX9_graft_1 : decode cX9_graft 1 = .ok (.iload_n 1, 1) := by decide +kernel
theorem dX9_graft_2 : decode cX9_graft 2 = .ok (.invokevirtual 118, 3) := by decide +kernel
theorem dX9_graft_5 : decode cX9_graft 5 = .ok (.ifCond .eq 19, 3) := by decide +kernel
theorem dX9_graft_8 : decode cX9_graft 8 = .ok (.aload_n 0, 1) := by decide +kernel
theorem dX9_graft_9 : decode cX9_graft 9 = .ok (.iload_n 3, 1) := by decide +kernel
theorem dX9_graft_10 : decode cX9_graft 10 = .ok (.invokevirtual 118, 3) := by decide +kernel
theorem dX9_graft_13 : decode cX9_graft 13 = .ok (.ifCond .eq 11, 3) := by decide +kernel
theorem dX9_graft_16 : decode cX9_graft 16 = .ok (.iload 4, 2) := by decide +kernel
theorem dX9_graft_18 : decode cX9_graft 18 = .ok (.invokestatic 83, 3) := by decide +kernel
theorem dX9_graft_21 : decode cX9_graft 21 = .ok (.ifCond .ne 6, 3) := by decide +kernel
theorem dX9_graft_24 : decode cX9_graft 24 = .ok (.bipush (-2), 2) := by decide +kernel
theorem dX9_graft_26 : decode cX9_graft 26 = .ok (.ireturn, 1) := by decide +kernel
theorem dX9_graft_27 : decode cX9_graft 27 = .ok (.aload_n 0, 1) := by decide +kernel
theorem dX9_graft_28 : decode cX9_graft 28 = .ok (.getfield 18, 3) := by decide +kernel
theorem dX9_graft_31 : decode cX9_graft 31 = .ok (.iload_n 1, 1) := by decide +kernel
theorem dX9_graft_32 : decode cX9_graft 32 = .ok (.aaload, 1) := by decide +kernel
theorem dX9_graft_33 : decode cX9_graft 33 = .ok (.iload_n 2, 1) := by decide +kernel
theorem dX9_graft_34 : decode cX9_graft 34 = .ok (.invokevirtual 121, 3) := by decide +kernel
theorem dX9_graft_37 : decode cX9_graft 37 = .ok (.istore 5, 2) := by decide +kernel
theorem dX9_graft_39 : decode cX9_graft 39 = .ok (.iload 5, 2) := by decide +kernel
theorem dX9_graft_41 : decode cX9_graft 41 = .ok (.iconst (-1), 1) := by decide +kernel
theorem dX9_graft_42 : decode cX9_graft 42 = .ok (.if_icmp .ne 6, 3) := by decide +kernel
theorem dX9_graft_45 : decode cX9_graft 45 = .ok (.bipush (-2), 2) := by decide +kernel
theorem dX9_graft_47 : decode cX9_graft 47 = .ok (.ireturn, 1) := by decide +kernel
theorem dX9_graft_48 : decode cX9_graft 48 = .ok (.aload_n 0, 1) := by decide +kernel
theorem dX9_graft_49 : decode cX9_graft 49 = .ok (.getfield 18, 3) := by decide +kernel
theorem dX9_graft_52 : decode cX9_graft 52 = .ok (.iload_n 1, 1) := by decide +kernel
theorem dX9_graft_53 : decode cX9_graft 53 = .ok (.aaload, 1) := by decide +kernel
theorem dX9_graft_54 : decode cX9_graft 54 = .ok (.getfield 93, 3) := by decide +kernel
theorem dX9_graft_57 : decode cX9_graft 57 = .ok (.iconst 1, 1) := by decide +kernel
theorem dX9_graft_58 : decode cX9_graft 58 = .ok (.isub, 1) := by decide +kernel
theorem dX9_graft_59 : decode cX9_graft 59 = .ok (.aload_n 0, 1) := by decide +kernel
theorem dX9_graft_60 : decode cX9_graft 60 = .ok (.getfield 18, 3) := by decide +kernel
theorem dX9_graft_63 : decode cX9_graft 63 = .ok (.iload_n 3, 1) := by decide +kernel
theorem dX9_graft_64 : decode cX9_graft 64 = .ok (.aaload, 1) := by decide +kernel
theorem dX9_graft_65 : decode cX9_graft 65 = .ok (.getfield 93, 3) := by decide +kernel
theorem dX9_graft_68 : decode cX9_graft 68 = .ok (.iadd, 1) := by decide +kernel
theorem dX9_graft_69 : decode cX9_graft 69 = .ok (.bipush 60, 2) := by decide +kernel
theorem dX9_graft_71 : decode cX9_graft 71 = .ok (.if_icmp .le 6, 3) := by decide +kernel
theorem dX9_graft_74 : decode cX9_graft 74 = .ok (.bipush (-4), 2) := by decide +kernel
theorem dX9_graft_76 : decode cX9_graft 76 = .ok (.ireturn, 1) := by decide +kernel
theorem dX9_graft_77 : decode cX9_graft 77 = .ok (.aload_n 0, 1) := by decide +kernel
theorem dX9_graft_78 : decode cX9_graft 78 = .ok (.getfield 23, 3) := by decide +kernel
theorem dX9_graft_81 : decode cX9_graft 81 = .ok (.invokevirtual 96, 3) := by decide +kernel
theorem dX9_graft_84 : decode cX9_graft 84 = .ok (.aload_n 0, 1) := by decide +kernel
theorem dX9_graft_85 : decode cX9_graft 85 = .ok (.getfield 23, 3) := by decide +kernel
theorem dX9_graft_88 : decode cX9_graft 88 = .ok (.aload_n 0, 1) := by decide +kernel
theorem dX9_graft_89 : decode cX9_graft 89 = .ok (.getfield 18, 3) := by decide +kernel
theorem dX9_graft_92 : decode cX9_graft 92 = .ok (.iload_n 1, 1) := by decide +kernel
theorem dX9_graft_93 : decode cX9_graft 93 = .ok (.aaload, 1) := by decide +kernel
theorem dX9_graft_94 : decode cX9_graft 94 = .ok (.iconst 0, 1) := by decide +kernel
theorem dX9_graft_95 : decode cX9_graft 95 = .ok (.iload 5, 2) := by decide +kernel
theorem dX9_graft_97 : decode cX9_graft 97 = .ok (.invokevirtual 124, 3) := by decide +kernel
theorem dX9_graft_100 : decode cX9_graft 100 = .ok (.pop, 1) := by decide +kernel
theorem dX9_graft_101 : decode cX9_graft 101 = .ok (.aload_n 0, 1) := by decide +kernel
theorem dX9_graft_102 : decode cX9_graft 102 = .ok (.getfield 23, 3) := by decide +kernel
theorem dX9_graft_105 : decode cX9_graft 105 = .ok (.aload_n 0, 1) := by decide +kernel
theorem dX9_graft_106 : decode cX9_graft 106 = .ok (.getfield 18, 3) := by decide +kernel
theorem dX9_graft_109 : decode cX9_graft 109 = .ok (.iload_n 3, 1) := by decide +kernel
theorem dX9_graft_110 : decode cX9_graft 110 = .ok (.aaload, 1) := by decide +kernel
theorem dX9_graft_111 : decode cX9_graft 111 = .ok (.iconst 0, 1) := by decide +kernel
theorem dX9_graft_112 : decode cX9_graft 112 = .ok (.aload_n 0, 1) := by decide +kernel
theorem dX9_graft_113 : decode cX9_graft 113 = .ok (.getfield 18, 3) := by decide +kernel
theorem dX9_graft_116 : decode cX9_graft 116 = .ok (.iload_n 3, 1) := by decide +kernel
theorem dX9_graft_117 : decode cX9_graft 117 = .ok (.aaload, 1) := by decide +kernel
theorem dX9_graft_118 : decode cX9_graft 118 = .ok (.getfield 93, 3) := by decide +kernel
theorem dX9_graft_121 : decode cX9_graft 121 = .ok (.invokevirtual 124, 3) := by decide +kernel
theorem dX9_graft_124 : decode cX9_graft 124 = .ok (.pop, 1) := by decide +kernel
theorem dX9_graft_125 : decode cX9_graft 125 = .ok (.aload_n 0, 1) := by decide +kernel
theorem dX9_graft_126 : decode cX9_graft 126 = .ok (.getfield 23, 3) := by decide +kernel
theorem dX9_graft_129 : decode cX9_graft 129 = .ok (.aload_n 0, 1) := by decide +kernel
theorem dX9_graft_130 : decode cX9_graft 130 = .ok (.getfield 18, 3) := by decide +kernel
theorem dX9_graft_133 : decode cX9_graft 133 = .ok (.iload_n 1, 1) := by decide +kernel
theorem dX9_graft_134 : decode cX9_graft 134 = .ok (.aaload, 1) := by decide +kernel
theorem dX9_graft_135 : decode cX9_graft 135 = .ok (.iload 5, 2) := by decide +kernel
theorem dX9_graft_137 : decode cX9_graft 137 = .ok (.iconst 1, 1) := by decide +kernel
theorem dX9_graft_138 : decode cX9_graft 138 = .ok (.iadd, 1) := by decide +kernel
theorem dX9_graft_139 : decode cX9_graft 139 = .ok (.aload_n 0, 1) := by decide +kernel
theorem dX9_graft_140 : decode cX9_graft 140 = .ok (.getfield 18, 3) := by decide +kernel
theorem dX9_graft_143 : decode cX9_graft 143 = .ok (.iload_n 1, 1) := by decide +kernel
theorem dX9_graft_144 : decode cX9_graft 144 = .ok (.aaload, 1) := by decide +kernel
theorem dX9_graft_145 : decode cX9_graft 145 = .ok (.getfield 93, 3) := by decide +kernel
theorem dX9_graft_148 : decode cX9_graft 148 = .ok (.invokevirtual 124, 3) := by decide +kernel
theorem dX9_graft_151 : decode cX9_graft 151 = .ok (.pop, 1) := by decide +kernel
theorem dX9_graft_152 : decode cX9_graft 152 = .ok (.aload_n 0, 1) := by decide +kernel
theorem dX9_graft_153 : decode cX9_graft 153 = .ok (.aload_n 0, 1) := by decide +kernel
theorem dX9_graft_154 : decode cX9_graft 154 = .ok (.getfield 23, 3) := by decide +kernel
theorem dX9_graft_157 : decode cX9_graft 157 = .ok (.iload 4, 2) := by decide +kernel
theorem dX9_graft_159 : decode cX9_graft 159 = .ok (.invokevirtual 128, 3) := by decide +kernel
theorem dX9_graft_162 : decode cX9_graft 162 = .ok (.ireturn, 1) := by decide +kernel
set_option maxRecDepth 20000 in
theorem ggX9_same_X9_isTreeRow : GoodIn wsX9_same wsX9_isTreeRow := goodIn_r _ [6, 7, 1, 8, 9, 5, 10, 11, 12, 13, 14, 15, 16, 17, 18, 19, 20, 21, 22, 23, 24, 25, 26, 27, 28, 29, 30, 31, 39, 40, 41, 42, 43, 44, 45, 46, 47, 48, 49, 50, 51, 52, 53, 54, 55, 56, 57, 58] (by decide +kernel) (by decide +kernel)
set_option maxRecDepth 20000 in
theorem gX9_same_X9_isTreeRow : GoodIn wsX9_same (wsV RX9 118 RX9 yX9_isTreeRow wsX9_isTreeRow) := goodIn_app (goodIn_of _ (by decide +kernel)) ggX9_same_X9_isTreeRow
set_option maxRecDepth 20000 in
theorem ggX9_same_X3_isLike : GoodIn wsX9_same wsX3_isLike := goodIn_r _ [36, 37, 38, 53, 54] (by decide +kernel) (by decide +kernel)
set_option maxRecDepth 20000 in
theorem gX9_same_X3_isLike : GoodIn wsX9_same (wsV RX9 132 RX3 yX3_isLike wsX3_isLike) := goodIn_app (goodIn_of _ (by decide +kernel)) ggX9_same_X3_isLike
theorem dX9_same_0 : decode cX9_same 0 = .ok (.aload_n 0, 1) := by decide +kernel
theorem dX9_same_1 : decode cX9_same 1 = .ok (.iload_n 1, 1) := by decide +kernel
theorem dX9_same_2 : decode cX9_same 2 = .ok (.invokevirtual 118, 3) := by decide +kernel
theorem dX9_same_5 : decode cX9_same 5 = .ok (.ifCond .eq 11, 3) := by decide +kernel
theorem dX9_same_8 : decode cX9_same 8 = .ok (.aload_n 0, 1) := by decide +kernel
theorem dX9_same_9 : decode cX9_same 9 = .ok (.iload_n 2, 1) := by decide +kernel
theorem dX9_same_10 : decode cX9_same 10 = .ok (.invokevirtual 118, 3) := by decide +kernel
theorem dX9_same_13 : decode cX9_same 13 = .ok (.ifCond .ne 6, 3) := by decide +kernel
theorem dX9_same_16 : decode cX9_same 16 = .ok (.bipush (-2), 2) := by decide +kernel
theorem dX9_same_18 : decode cX9_same 18 = .ok (.ireturn, 1) := by decide +kernel
theorem dX9_same_19 : decode cX9_same 19 = .ok (.aload_n 0, 1) := by decide +kernel
theorem dX9_same_20 : decode cX9_same 20 = .ok (.getfield 18, 3) := by decide +kernel
theorem dX9_same_23 : decode cX9_same 23 = .ok (.iload_n 1, 1) := by decide +kernel
theorem dX9_same_24 : decode cX9_same 24 = .ok (.aaload, 1) := by decide +kernel
theorem dX9_same_25 : decode cX9_same 25 = .ok (.aload_n 0, 1) := by decide +kernel
theorem dX9_same_26 : decode cX9_same 26 = .ok (.getfield 18, 3) := by decide +kernel
theorem dX9_same_29 : decode cX9_same 29 = .ok (.iload_n 2, 1) := by decide +kernel
theorem dX9_same_30 : decode cX9_same 30 = .ok (.aaload, 1) := by decide +kernel
theorem dX9_same_31 : decode cX9_same 31 = .ok (.invokevirtual 132, 3) := by decide +kernel
theorem dX9_same_34 : decode cX9_same 34 = .ok (.ifCond .eq 7, 3) := by decide +kernel
theorem dX9_same_37 : decode cX9_same 37 = .ok (.iconst 1, 1) := by decide +kernel
theorem dX9_same_38 : decode cX9_same 38 = .ok (.goto 4, 3) := by decide +kernel
theorem dX9_same_41 : decode cX9_same 41 = .ok (.iconst 0, 1) := by decide +kernel
theorem dX9_same_42 : decode cX9_same 42 = .ok (.ireturn, 1) := by decide +kernel
set_option maxRecDepth 20000 in
theorem ggX9_rule_X9_isLeft : GoodIn wsX9_rule wsX9_isLeft := goodIn_r _ [8, 1, 9, 10, 11, 7, 12, 2, 13, 14, 15, 16, 17, 18, 19, 20, 21, 22, 23, 24, 25, 26, 27, 28, 29, 30, 31, 32, 33, 34, 35, 36, 37, 38, 39, 40, 41, 42, 43, 44, 45, 46, 47, 73, 74, 75, 76, 77, 78, 79, 80, 81, 82, 83, 84, 85, 86, 91, 92, 87, 88, 89, 90] (by decide +kernel) (by decide +kernel)
set_option maxRecDepth 20000 in
theorem gX9_rule_X9_isLeft : GoodIn wsX9_rule (wsV RX9 135 RX9 yX9_isLeft wsX9_isLeft) := goodIn_app (goodIn_of _ (by decide +kernel)) ggX9_rule_X9_isLeft
set_option maxRecDepth 20000 in
theorem ggX9_rule_X9_isTreeRow : GoodIn wsX9_rule wsX9_isTreeRow := goodIn_r _ [12, 2, 1, 13, 14, 7, 15, 16, 17, 18, 19, 20, 21, 22, 23, 24, 25, 26, 27, 28, 29, 30, 31, 32, 33, 34, 35, 36, 73, 74, 75, 76, 77, 78, 79, 80, 81, 82, 83, 84, 85, 86, 91, 92, 87, 88, 89, 90] (by decide +kernel) (by decide +kernel)
set_option maxRecDepth 20000 in
theorem gX9_rule_X9_isTreeRow : GoodIn wsX9_rule (wsV RX9 118 RX9 yX9_isTreeRow wsX9_isTreeRow) := goodIn_app (goodIn_of _ (by decide +kernel)) ggX9_rule_X9_isTreeRow
set_option maxRecDepth 20000 in
theorem ggX9_rule_X3_leaves : GoodIn wsX9_rule wsX3_leaves := goodIn_r _ [46, 42, 47, 91, 92] (by decide +kernel) (by decide +kernel)
set_option maxRecDepth 20000 in
theorem gX9_rule_X3_leaves : GoodIn wsX9_rule (wsV RX9 107 RX3 yX3_leaves wsX3_leaves) := goodIn_app (goodIn_of _ (by decide +kernel)) ggX9_rule_X3_leaves
set_option maxRecDepth 20000 in
theorem ggX9_rule_X9_forget : GoodIn wsX9_rule wsX9_forget := goodIn_r _ [52, 53, 54, 55, 73, 74, 75, 76, 77, 78, 79, 80, 81, 82, 83, 84, 85, 86] (by decide +kernel) (by decide +kernel)
set_option maxRecDepth 20000 in
theorem gX9_rule_X9_forget : GoodIn wsX9_rule (wsV RX9 76 RX9 yX9_forget wsX9_forget) := goodIn_app (goodIn_of _ (by decide +kernel)) ggX9_rule_X9_forget
set_option maxRecDepth 20000 in
theorem ggX9_rule_X8_addRule : GoodIn wsX9_rule wsX8_addRule := goodIn_r _ [59, 60, 61, 62, 63, 64, 65, 66, 67, 40, 68, 47, 42, 69, 70, 71, 72, 87, 88, 89, 90, 93, 94, 95, 91, 92] (by decide +kernel) (by decide +kernel)
set_option maxRecDepth 20000 in
theorem gX9_rule_X8_addRule : GoodIn wsX9_rule (wsV RX9 141 RX8 yX8_addRule wsX8_addRule) := goodIn_app (goodIn_of _ (by decide +kernel)) ggX9_rule_X8_addRule
theorem dX9_rule_0 : decode cX9_rule 0 = .ok (.aload_n 0, 1) := by decide +kernel
theorem dX9_rule_1 : decode cX9_rule 1 = .ok (.iload_n 1, 1) := by decide +kernel
theorem dX9_rule_2 : decode cX9_rule 2 = .ok (.invokevirtual 135, 3) := by decide +kernel
theorem dX9_rule_5 : decode cX9_rule 5 = .ok (.ifCond .eq 11, 3) := by decide +kernel
theorem dX9_rule_8 : decode cX9_rule 8 = .ok (.aload_n 0, 1) := by decide +kernel
theorem dX9_rule_9 : decode cX9_rule 9 = .ok (.iload_n 2, 1) := by decide +kernel
theorem dX9_rule_10 : decode cX9_rule 10 = .ok (.invokevirtual 118, 3) := by decide +kernel
theorem dX9_rule_13 : decode cX9_rule 13 = .ok (.ifCond .ne 6, 3) := by decide +kernel
theorem dX9_rule_16 : decode cX9_rule 16 = .ok (.bipush (-2), 2) := by decide +kernel
theorem dX9_rule_18 : decode cX9_rule 18 = .ok (.ireturn, 1) := by decide +kernel
theorem dX9_rule_19 : decode cX9_rule 19 = .ok (.aload_n 0, 1) := by decide +kernel
theorem dX9_rule_20 : decode cX9_rule 20 = .ok (.getfield 18, 3) := by decide +kernel
theorem dX9_rule_23 : decode cX9_rule 23 = .ok (.iload_n 1, 1) := by decide +kernel
theorem dX9_rule_24 : decode cX9_rule 24 = .ok (.aaload, 1) := by decide +kernel
theorem dX9_rule_25 : decode cX9_rule 25 = .ok (.invokevirtual 107, 3) := by decide +kernel
theorem dX9_rule_28 : decode cX9_rule 28 = .ok (.aload_n 0, 1) := by decide +kernel
theorem dX9_rule_29 : decode cX9_rule 29 = .ok (.getfield 18, 3) := by decide +kernel
theorem dX9_rule_32 : decode cX9_rule 32 = .ok (.iload_n 2, 1) := by decide +kernel
theorem dX9_rule_33 : decode cX9_rule 33 = .ok (.aaload, 1) := by decide +kernel
theorem dX9_rule_34 : decode cX9_rule 34 = .ok (.invokevirtual 107, 3) := by decide +kernel
theorem dX9_rule_37 : decode cX9_rule 37 = .ok (.if_icmp .eq 6, 3) := by decide +kernel
theorem dX9_rule_40 : decode cX9_rule 40 = .ok (.bipush (-3), 2) := by decide +kernel
theorem dX9_rule_42 : decode cX9_rule 42 = .ok (.ireturn, 1) := by decide +kernel
theorem dX9_rule_43 : decode cX9_rule 43 = .ok (.aload_n 0, 1) := by decide +kernel
theorem dX9_rule_44 : decode cX9_rule 44 = .ok (.getfield 10, 3) := by decide +kernel
theorem dX9_rule_47 : decode cX9_rule 47 = .ok (.getfield 138, 3) := by decide +kernel
theorem dX9_rule_50 : decode cX9_rule 50 = .ok (.bipush 8, 2) := by decide +kernel
theorem dX9_rule_52 : decode cX9_rule 52 = .ok (.if_icmp .lt 6, 3) := by decide +kernel
theorem dX9_rule_55 : decode cX9_rule 55 = .ok (.bipush (-4), 2) := by decide +kernel
theorem dX9_rule_57 : decode cX9_rule 57 = .ok (.ireturn, 1) := by decide +kernel
theorem dX9_rule_58 : decode cX9_rule 58 = .ok (.aload_n 0, 1) := by decide +kernel
theorem dX9_rule_59 : decode cX9_rule 59 = .ok (.invokevirtual 76, 3) := by decide +kernel
theorem dX9_rule_62 : decode cX9_rule 62 = .ok (.aload_n 0, 1) := by decide +kernel
theorem dX9_rule_63 : decode cX9_rule 63 = .ok (.getfield 10, 3) := by decide +kernel
theorem dX9_rule_66 : decode cX9_rule 66 = .ok (.aload_n 0, 1) := by decide +kernel
theorem dX9_rule_67 : decode cX9_rule 67 = .ok (.getfield 18, 3) := by decide +kernel
theorem dX9_rule_70 : decode cX9_rule 70 = .ok (.iload_n 1, 1) := by decide +kernel
theorem dX9_rule_71 : decode cX9_rule 71 = .ok (.aaload, 1) := by decide +kernel
theorem dX9_rule_72 : decode cX9_rule 72 = .ok (.aload_n 0, 1) := by decide +kernel
theorem dX9_rule_73 : decode cX9_rule 73 = .ok (.getfield 18, 3) := by decide +kernel
theorem dX9_rule_76 : decode cX9_rule 76 = .ok (.iload_n 2, 1) := by decide +kernel
theorem dX9_rule_77 : decode cX9_rule 77 = .ok (.aaload, 1) := by decide +kernel
theorem dX9_rule_78 : decode cX9_rule 78 = .ok (.iconst 0, 1) := by decide +kernel
theorem dX9_rule_79 : decode cX9_rule 79 = .ok (.invokevirtual 141, 3) := by decide +kernel
theorem dX9_rule_82 : decode cX9_rule 82 = .ok (.ireturn, 1) := by decide +kernel
set_option maxRecDepth 20000 in
theorem ggX9_nought_X9_isLeft : GoodIn wsX9_nought wsX9_isLeft := goodIn_r _ [9, 4, 10, 11, 12, 8, 13, 1, 14, 15, 16, 17, 18, 19, 20, 21, 22, 23, 24, 25, 26, 27, 28, 29, 30, 31, 32, 33, 34, 35, 36, 37, 38, 39, 40, 41, 42, 43, 44, 45, 46, 47, 48, 77, 78, 79, 80, 81, 82, 83, 84, 85, 86, 87, 88, 89, 90, 95, 96, 91, 92, 93, 94] (by decide +kernel) (by decide +kernel)
set_option maxRecDepth 20000 in
theorem gX9_nought_X9_isLeft : GoodIn wsX9_nought (wsV RX9 135 RX9 yX9_isLeft wsX9_isLeft) := goodIn_app (goodIn_of _ (by decide +kernel)) ggX9_nought_X9_isLeft
set_option maxRecDepth 20000 in
theorem ggX9_nought_X9_forget : GoodIn wsX9_nought wsX9_forget := goodIn_r _ [52, 53, 54, 55, 77, 78, 79, 80, 81, 82, 83, 84, 85, 86, 87, 88, 89, 90] (by decide +kernel) (by decide +kernel)
set_option maxRecDepth 20000 in
theorem gX9_nought_X9_forget : GoodIn wsX9_nought (wsV RX9 76 RX9 yX9_forget wsX9_forget) := goodIn_app (goodIn_of _ (by decide +kernel)) ggX9_nought_X9_forget
set_option maxRecDepth 20000 in
theorem ggX9_nought_X3_clear : GoodIn wsX9_nought wsX3_clear := goodIn_r _ [59, 43, 95, 96] (by decide +kernel) (by decide +kernel)
set_option maxRecDepth 20000 in
theorem gX9_nought_X3_clear : GoodIn wsX9_nought (wsV RX9 96 RX3 yX3_clear wsX3_clear) := goodIn_app (goodIn_of _ (by decide +kernel)) ggX9_nought_X3_clear
set_option maxRecDepth 20000 in
theorem ggX9_nought_X8_addRule : GoodIn wsX9_nought wsX8_addRule := goodIn_r _ [63, 64, 65, 66, 67, 68, 69, 70, 71, 41, 72, 48, 43, 73, 74, 75, 76, 91, 92, 93, 94, 97, 98, 99, 95, 96] (by decide +kernel) (by decide +kernel)
set_option maxRecDepth 20000 in
theorem gX9_nought_X8_addRule : GoodIn wsX9_nought (wsV RX9 141 RX8 yX8_addRule wsX8_addRule) := goodIn_app (goodIn_of _ (by decide +kernel)) ggX9_nought_X8_addRule
theorem dX9_nought_0 : decode cX9_nought 0 = .ok (.aload_n 0, 1) := by decide +kernel
theorem dX9_nought_1 : decode cX9_nought 1 = .ok (.iload_n 1, 1) := by decide +kernel
theorem dX9_nought_2 : decode cX9_nought 2 = .ok (.invokevirtual 135, 3) := by decide +kernel
theorem dX9_nought_5 : decode cX9_nought 5 = .ok (.ifCond .ne 6, 3) := by decide +kernel
theorem dX9_nought_8 : decode cX9_nought 8 = .ok (.bipush (-2), 2) := by decide +kernel
theorem dX9_nought_10 : decode cX9_nought 10 = .ok (.ireturn, 1) := by decide +kernel
theorem dX9_nought_11 : decode cX9_nought 11 = .ok (.aload_n 0, 1) := by decide +kernel
theorem dX9_nought_12 : decode cX9_nought 12 = .ok (.getfield 10, 3) := by decide +kernel
theorem dX9_nought_15 : decode cX9_nought 15 = .ok (.getfield 138, 3) := by decide +kernel
theorem dX9_nought_18 : decode cX9_nought 18 = .ok (.bipush 8, 2) := by decide +kernel
theorem dX9_nought_20 : decode cX9_nought 20 = .ok (.if_icmp .lt 6, 3) := by decide +kernel
theorem dX9_nought_23 : decode cX9_nought 23 = .ok (.bipush (-4), 2) := by decide +kernel
theorem dX9_nought_25 : decode cX9_nought 25 = .ok (.ireturn, 1) := by decide +kernel
theorem dX9_nought_26 : decode cX9_nought 26 = .ok (.aload_n 0, 1) := by decide +kernel
theorem dX9_nought_27 : decode cX9_nought 27 = .ok (.invokevirtual 76, 3) := by decide +kernel
theorem dX9_nought_30 : decode cX9_nought 30 = .ok (.aload_n 0, 1) := by decide +kernel
theorem dX9_nought_31 : decode cX9_nought 31 = .ok (.getfield 23, 3) := by decide +kernel
theorem dX9_nought_34 : decode cX9_nought 34 = .ok (.invokevirtual 96, 3) := by decide +kernel
theorem dX9_nought_37 : decode cX9_nought 37 = .ok (.aload_n 0, 1) := by decide +kernel
theorem dX9_nought_38 : decode cX9_nought 38 = .ok (.getfield 10, 3) := by decide +kernel
theorem dX9_nought_41 : decode cX9_nought 41 = .ok (.aload_n 0, 1) := by decide +kernel
theorem dX9_nought_42 : decode cX9_nought 42 = .ok (.getfield 18, 3) := by decide +kernel
theorem dX9_nought_45 : decode cX9_nought 45 = .ok (.iload_n 1, 1) := by decide +kernel
theorem dX9_nought_46 : decode cX9_nought 46 = .ok (.aaload, 1) := by decide +kernel
theorem dX9_nought_47 : decode cX9_nought 47 = .ok (.aload_n 0, 1) := by decide +kernel
theorem dX9_nought_48 : decode cX9_nought 48 = .ok (.getfield 23, 3) := by decide +kernel
theorem dX9_nought_51 : decode cX9_nought 51 = .ok (.iconst 1, 1) := by decide +kernel
theorem dX9_nought_52 : decode cX9_nought 52 = .ok (.invokevirtual 141, 3) := by decide +kernel
theorem dX9_nought_55 : decode cX9_nought 55 = .ok (.ireturn, 1) := by decide +kernel
set_option maxRecDepth 20000 in
theorem ggX9_unrule_X9_forget : GoodIn wsX9_unrule wsX9_forget := goodIn_r _ [7, 8, 9, 10, 11, 12, 13, 14, 15, 16, 17, 18, 19, 20, 21, 22, 23, 24] (by decide +kernel) (by decide +kernel)
set_option maxRecDepth 20000 in
theorem gX9_unrule_X9_forget : GoodIn wsX9_unrule (wsV RX9 76 RX9 yX9_forget wsX9_forget) := goodIn_app (goodIn_of _ (by decide +kernel)) ggX9_unrule_X9_forget
theorem dX9_unrule_0 : decode cX9_unrule 0 = .ok (.aload_n 0, 1) := by decide +kernel
theorem dX9_unrule_1 : decode cX9_unrule 1 = .ok (.getfield 10, 3) := by decide +kernel
theorem dX9_unrule_4 : decode cX9_unrule 4 = .ok (.getfield 138, 3) := by decide +kernel
theorem dX9_unrule_7 : decode cX9_unrule 7 = .ok (.istore_n 1, 1) := by decide +kernel
theorem dX9_unrule_8 : decode cX9_unrule 8 = .ok (.aload_n 0, 1) := by decide +kernel
theorem dX9_unrule_9 : decode cX9_unrule 9 = .ok (.getfield 10, 3) := by decide +kernel
theorem dX9_unrule_12 : decode cX9_unrule 12 = .ok (.iconst 0, 1) := by decide +kernel
theorem dX9_unrule_13 : decode cX9_unrule 13 = .ok (.putfield 138, 3) := by decide +kernel
theorem dX9_unrule_16 : decode cX9_unrule 16 = .ok (.aload_n 0, 1) := by decide +kernel
theorem dX9_unrule_17 : decode cX9_unrule 17 = .ok (.invokevirtual 76, 3) := by decide +kernel
theorem dX9_unrule_20 : decode cX9_unrule 20 = .ok (.iload_n 1, 1) := by decide +kernel
theorem dX9_unrule_21 : decode cX9_unrule 21 = .ok (.ireturn, 1) := by decide +kernel
set_option maxRecDepth 20000 in
theorem ggX9_side_X8_isRule : GoodIn wsX9_side wsX8_isRule := goodIn_r _ [9, 10, 46, 47, 48, 49] (by decide +kernel) (by decide +kernel)
set_option maxRecDepth 20000 in
theorem gX9_side_X8_isRule : GoodIn wsX9_side (wsV RX9 145 RX8 yX8_isRule wsX8_isRule) := goodIn_app (goodIn_of _ (by decide +kernel)) ggX9_side_X8_isRule
set_option maxRecDepth 20000 in
theorem ggX9_side_X9_isRow : GoodIn wsX9_side wsX9_isRow := goodIn_r _ [14] (by decide +kernel) (by decide +kernel)
set_option maxRecDepth 20000 in
theorem gX9_side_X9_isRow : GoodIn wsX9_side (va_wsS RX9 83 yX9_isRow wsX9_isRow) := goodIn_app (goodIn_of _ (by decide +kernel)) ggX9_side_X9_isRow
set_option maxRecDepth 20000 in
theorem ggX9_side_X9_bring : GoodIn wsX9_side wsX9_bring := goodIn_r _ [18, 19, 20, 21, 22, 23, 24, 25, 26, 27, 28, 29, 30, 31, 32, 33, 34, 35, 36, 37, 38, 39, 40, 41, 42, 43, 44, 45, 53, 54] (by decide +kernel) (by decide +kernel)
set_option maxRecDepth 20000 in
theorem gX9_side_X9_bring : GoodIn wsX9_side (wsV RX9 128 RX9 yX9_bring wsX9_bring) := goodIn_app (goodIn_of _ (by decide +kernel)) ggX9_side_X9_bring
theorem dX9_side_0 : decode cX9_side 0 = .ok (.aload_n 0, 1) := by decide +kernel
theorem dX9_side_1 : decode cX9_side 1 = .ok (.getfield 10, 3) := by decide +kernel
theorem dX9_side_4 : decode cX9_side 4 = .ok (.iload_n 1, 1) := by decide +kernel
theorem dX9_side_5 : decode cX9_side 5 = .ok (.invokevirtual 145, 3) := by decide +kernel
theorem dX9_side_8 : decode cX9_side 8 = .ok (.ifCond .eq 19, 3) := by decide +kernel
theorem dX9_side_11 : decode cX9_side 11 = .ok (.iload_n 2, 1) := by decide +kernel
theorem dX9_side_12 : decode cX9_side 12 = .ok (.ifCond .lt 15, 3) := by decide +kernel
theorem dX9_side_15 : decode cX9_side 15 = .ok (.iload_n 2, 1) := by decide +kernel
theorem dX9_side_16 : decode cX9_side 16 = .ok (.iconst 1, 1) := by decide +kernel
theorem dX9_side_17 : decode cX9_side 17 = .ok (.if_icmp .gt 10, 3) := by decide +kernel
theorem dX9_side_20 : decode cX9_side 20 = .ok (.iload_n 3, 1) := by decide +kernel
theorem dX9_side_21 : decode cX9_side 21 = .ok (.invokestatic 83, 3) := by decide +kernel
theorem dX9_side_24 : decode cX9_side 24 = .ok (.ifCond .ne 6, 3) := by decide +kernel
theorem dX9_side_27 : decode cX9_side 27 = .ok (.bipush (-2), 2) := by decide +kernel
theorem dX9_side_29 : decode cX9_side 29 = .ok (.ireturn, 1) := by decide +kernel
theorem dX9_side_30 : decode cX9_side 30 = .ok (.aload_n 0, 1) := by decide +kernel
theorem dX9_side_31 : decode cX9_side 31 = .ok (.getfield 10, 3) := by decide +kernel
theorem dX9_side_34 : decode cX9_side 34 = .ok (.getfield 148, 3) := by decide +kernel
theorem dX9_side_37 : decode cX9_side 37 = .ok (.iload_n 1, 1) := by decide +kernel
theorem dX9_side_38 : decode cX9_side 38 = .ok (.aaload, 1) := by decide +kernel
theorem dX9_side_39 : decode cX9_side 39 = .ok (.astore 4, 2) := by decide +kernel
theorem dX9_side_41 : decode cX9_side 41 = .ok (.aload_n 0, 1) := by decide +kernel
theorem dX9_side_42 : decode cX9_side 42 = .ok (.iload_n 2, 1) := by decide +kernel
theorem dX9_side_43 : decode cX9_side 43 = .ok (.ifCond .ne 11, 3) := by decide +kernel
theorem dX9_side_46 : decode cX9_side 46 = .ok (.aload 4, 2) := by decide +kernel
theorem dX9_side_48 : decode cX9_side 48 = .ok (.getfield 152, 3) := by decide +kernel
theorem dX9_side_51 : decode cX9_side 51 = .ok (.goto 8, 3) := by decide +kernel
theorem dX9_side_54 : decode cX9_side 54 = .ok (.aload 4, 2) := by decide +kernel
theorem dX9_side_56 : decode cX9_side 56 = .ok (.getfield 157, 3) := by decide +kernel
theorem dX9_side_59 : decode cX9_side 59 = .ok (.iload_n 3, 1) := by decide +kernel
theorem dX9_side_60 : decode cX9_side 60 = .ok (.invokevirtual 128, 3) := by decide +kernel
theorem dX9_side_63 : decode cX9_side 63 = .ok (.ireturn, 1) := by decide +kernel
set_option maxRecDepth 20000 in
theorem ggX9_matches_X8_isRule : GoodIn wsX9_matches wsX8_isRule := goodIn_r _ [9, 10, 77, 78, 79, 80] (by decide +kernel) (by decide +kernel)
set_option maxRecDepth 20000 in
theorem gX9_matches_X8_isRule : GoodIn wsX9_matches (wsV RX9 145 RX8 yX8_isRule wsX8_isRule) := goodIn_app (goodIn_of _ (by decide +kernel)) ggX9_matches_X8_isRule
set_option maxRecDepth 20000 in
theorem ggX9_matches_X9_isTreeRow : GoodIn wsX9_matches wsX9_isTreeRow := goodIn_r _ [15, 1, 4, 16, 17, 14, 18, 19, 20, 21, 8, 22, 23, 24, 25, 26, 27, 28, 29, 30, 31, 32, 33, 34, 35, 36, 37, 38, 63, 64, 65, 66, 67, 68, 69, 70, 71, 72, 73, 74, 75, 76, 81, 82, 77, 78, 79, 80] (by decide +kernel) (by decide +kernel)
set_option maxRecDepth 20000 in
theorem gX9_matches_X9_isTreeRow : GoodIn wsX9_matches (wsV RX9 118 RX9 yX9_isTreeRow wsX9_isTreeRow) := goodIn_app (goodIn_of _ (by decide +kernel)) ggX9_matches_X9_isTreeRow
set_option maxRecDepth 20000 in
theorem ggX9_matches_X2_firstPlace : GoodIn wsX9_matches wsX2_firstPlace := goodIn_r _ [43, 44, 45, 46, 47, 48, 49, 50, 51, 52, 53, 54, 55, 34, 35, 8, 36, 37, 38, 56, 57, 58, 42, 59, 60, 61, 62, 83, 84, 85, 86, 87, 81, 82, 88, 89, 90, 91, 77, 78, 79, 80] (by decide +kernel) (by decide +kernel)
set_option maxRecDepth 20000 in
theorem gX9_matches_X2_firstPlace : GoodIn wsX9_matches (wsV RX9 160 RX2 yX2_firstPlace wsX2_firstPlace) := goodIn_app (goodIn_of _ (by decide +kernel)) ggX9_matches_X2_firstPlace
theorem dX9_matches_0 : decode cX9_matches 0 = .ok (.aload_n 0, 1) := by decide +kernel
theorem dX9_matches_1 : decode cX9_matches 1 = .ok (.getfield 10, 3) := by decide +kernel
theorem dX9_matches_4 : decode cX9_matches 4 = .ok (.iload_n 1, 1) := by decide +kernel
theorem dX9_matches_5 : decode cX9_matches 5 = .ok (.invokevirtual 145, 3) := by decide +kernel
theorem dX9_matches_8 : decode cX9_matches 8 = .ok (.ifCond .eq 11, 3) := by decide +kernel
theorem dX9_matches_11 : decode cX9_matches 11 = .ok (.aload_n 0, 1) := by decide +kernel
theorem dX9_matches_12 : decode cX9_matches 12 = .ok (.iload_n 2, 1) := by decide +kernel
theorem dX9_matches_13 : decode cX9_matches 13 = .ok (.invokevirtual 118, 3) := by decide +kernel
theorem dX9_matches_16 : decode cX9_matches 16 = .ok (.ifCond .ne 6, 3) := by decide +kernel
theorem dX9_matches_19 : decode cX9_matches 19 = .ok (.bipush (-2), 2) := by decide +kernel
theorem dX9_matches_21 : decode cX9_matches 21 = .ok (.ireturn, 1) := by decide +kernel
theorem dX9_matches_22 : decode cX9_matches 22 = .ok (.aload_n 0, 1) := by decide +kernel
theorem dX9_matches_23 : decode cX9_matches 23 = .ok (.getfield 37, 3) := by decide +kernel
theorem dX9_matches_26 : decode cX9_matches 26 = .ok (.aload_n 0, 1) := by decide +kernel
theorem dX9_matches_27 : decode cX9_matches 27 = .ok (.getfield 10, 3) := by decide +kernel
theorem dX9_matches_30 : decode cX9_matches 30 = .ok (.aload_n 0, 1) := by decide +kernel
theorem dX9_matches_31 : decode cX9_matches 31 = .ok (.getfield 10, 3) := by decide +kernel
theorem dX9_matches_34 : decode cX9_matches 34 = .ok (.getfield 148, 3) := by decide +kernel
theorem dX9_matches_37 : decode cX9_matches 37 = .ok (.iload_n 1, 1) := by decide +kernel
theorem dX9_matches_38 : decode cX9_matches 38 = .ok (.aaload, 1) := by decide +kernel
theorem dX9_matches_39 : decode cX9_matches 39 = .ok (.aload_n 0, 1) := by decide +kernel
theorem dX9_matches_40 : decode cX9_matches 40 = .ok (.getfield 18, 3) := by decide +kernel
theorem dX9_matches_43 : decode cX9_matches 43 = .ok (.iload_n 2, 1) := by decide +kernel
theorem dX9_matches_44 : decode cX9_matches 44 = .ok (.aaload, 1) := by decide +kernel
theorem dX9_matches_45 : decode cX9_matches 45 = .ok (.invokevirtual 160, 3) := by decide +kernel
theorem dX9_matches_48 : decode cX9_matches 48 = .ok (.ireturn, 1) := by decide +kernel
set_option maxRecDepth 20000 in
theorem ggX9_step_X9_isTreeRow : GoodIn wsX9_step wsX9_isTreeRow := goodIn_r _ [8, 2, 3, 9, 10, 7, 11, 12, 13, 14, 15, 16, 17, 18, 19, 20, 21, 22, 23, 24, 25, 26, 27, 28, 29, 30, 31, 32, 89, 90, 91, 92, 93, 94, 95, 96, 97, 98, 99, 100, 101, 102, 103, 104, 105, 106, 107, 108] (by decide +kernel) (by decide +kernel)
set_option maxRecDepth 20000 in
theorem gX9_step_X9_isTreeRow : GoodIn wsX9_step (wsV RX9 118 RX9 yX9_isTreeRow wsX9_isTreeRow) := goodIn_app (goodIn_of _ (by decide +kernel)) ggX9_step_X9_isTreeRow
set_option maxRecDepth 20000 in
theorem ggX9_step_X2_advance : GoodIn wsX9_step wsX2_advance := goodIn_r _ [37, 38, 39, 40, 41, 42, 43, 44, 45, 46, 47, 48, 49, 50, 51, 52, 28, 29, 15, 30, 31, 32, 53, 54, 55, 36, 56, 57, 58, 59, 60, 61, 62, 63, 64, 65, 66, 67, 68, 69, 70, 71, 72, 73, 74, 75, 76, 77, 78, 79, 80, 81, 82, 83, 84, 85, 86, 87, 88, 109, 110, 111, 112, 113, 103, 104, 105, 106, 107, 108, 114, 115, 116, 117] (by decide +kernel) (by decide +kernel)
set_option maxRecDepth 20000 in
theorem gX9_step_X2_advance : GoodIn wsX9_step (wsV RX9 164 RX2 yX2_advance wsX2_advance) := goodIn_app (goodIn_of _ (by decide +kernel)) ggX9_step_X2_advance
theorem dX9_step_0 : decode cX9_step 0 = .ok (.aload_n 0, 1) := by decide +kernel
theorem dX9_step_1 : decode cX9_step 1 = .ok (.iload_n 1, 1) := by decide +kernel
theorem dX9_step_2 : decode cX9_step 2 = .ok (.invokevirtual 118, 3) := by decide +kernel
theorem dX9_step_5 : decode cX9_step 5 = .ok (.ifCond .ne 6, 3) := by decide +kernel
theorem dX9_step_8 : decode cX9_step 8 = .ok (.bipush (-2), 2) := by decide +kernel
theorem dX9_step_10 : decode cX9_step 10 = .ok (.ireturn, 1) := by decide +kernel
theorem dX9_step_11 : decode cX9_step 11 = .ok (.aload_n 0, 1) := by decide +kernel
theorem dX9_step_12 : decode cX9_step 12 = .ok (.getfield 37, 3) := by decide +kernel
theorem dX9_step_15 : decode cX9_step 15 = .ok (.aload_n 0, 1) := by decide +kernel
theorem dX9_step_16 : decode cX9_step 16 = .ok (.getfield 10, 3) := by decide +kernel
theorem dX9_step_19 : decode cX9_step 19 = .ok (.aload_n 0, 1) := by decide +kernel
theorem dX9_step_20 : decode cX9_step 20 = .ok (.getfield 18, 3) := by decide +kernel
theorem dX9_step_23 : decode cX9_step 23 = .ok (.iload_n 1, 1) := by decide +kernel
theorem dX9_step_24 : decode cX9_step 24 = .ok (.aaload, 1) := by decide +kernel
theorem dX9_step_25 : decode cX9_step 25 = .ok (.invokevirtual 164, 3) := by decide +kernel
theorem dX9_step_28 : decode cX9_step 28 = .ok (.ireturn, 1) := by decide +kernel
set_option maxRecDepth 20000 in
theorem ggX9_normal_X9_isTreeRow : GoodIn wsX9_normal wsX9_isTreeRow := goodIn_r _ [9, 4, 2, 10, 11, 8, 12, 13, 14, 15, 16, 17, 18, 19, 20, 21, 22, 23, 24, 25, 26, 27, 28, 29, 30, 31, 32, 33, 95, 96, 97, 98, 99, 100, 101, 102, 103, 104, 105, 106, 107, 108, 109, 110, 111, 112, 113, 114] (by decide +kernel) (by decide +kernel)
set_option maxRecDepth 20000 in
theorem gX9_normal_X9_isTreeRow : GoodIn wsX9_normal (wsV RX9 118 RX9 yX9_isTreeRow wsX9_isTreeRow) := goodIn_app (goodIn_of _ (by decide +kernel)) ggX9_normal_X9_isTreeRow
set_option maxRecDepth 20000 in
theorem ggX9_normal_X3_become : GoodIn wsX9_normal wsX3_become := goodIn_r _ [38, 39, 40, 41, 42, 43, 44, 109, 110] (by decide +kernel) (by decide +kernel)
set_option maxRecDepth 20000 in
theorem gX9_normal_X3_become : GoodIn wsX9_normal (wsV RX9 167 RX3 yX3_become wsX3_become) := goodIn_app (goodIn_of _ (by decide +kernel)) ggX9_normal_X3_become
set_option maxRecDepth 20000 in
theorem ggX9_normal_X2_normalForm : GoodIn wsX9_normal wsX2_normalForm := goodIn_r _ [49, 50, 51, 52, 48, 53, 54, 55, 56, 57, 58, 59, 60, 61, 62, 63, 64, 65, 66, 67, 68, 29, 30, 16, 31, 32, 33, 69, 70, 71, 72, 73, 74, 75, 76, 77, 78, 79, 80, 81, 82, 83, 84, 37, 85, 40, 86, 87, 88, 89, 39, 41, 42, 43, 44, 90, 91, 92, 93, 94, 35, 36, 38, 115, 116, 117, 118, 119, 109, 110, 111, 112, 113, 114, 120, 121, 122, 123] (by decide +kernel) (by decide +kernel)
set_option maxRecDepth 20000 in
theorem gX9_normal_X2_normalForm : GoodIn wsX9_normal (wsV RX9 171 RX2 yX2_normalForm wsX2_normalForm) := goodIn_app (goodIn_of _ (by decide +kernel)) ggX9_normal_X2_normalForm
theorem dX9_normal_0 : decode cX9_normal 0 = .ok (.aload_n 0, 1) := by decide +kernel
theorem dX9_normal_1 : decode cX9_normal 1 = .ok (.iload_n 1, 1) := by decide +kernel
theorem dX9_normal_2 : decode cX9_normal 2 = .ok (.invokevirtual 118, 3) := by decide +kernel
theorem dX9_normal_5 : decode cX9_normal 5 = .ok (.ifCond .ne 6, 3) := by decide +kernel
theorem dX9_normal_8 : decode cX9_normal 8 = .ok (.bipush (-2), 2) := by decide +kernel
theorem dX9_normal_10 : decode cX9_normal 10 = .ok (.ireturn, 1) := by decide +kernel
theorem dX9_normal_11 : decode cX9_normal 11 = .ok (.aload_n 0, 1) := by decide +kernel
theorem dX9_normal_12 : decode cX9_normal 12 = .ok (.getfield 23, 3) := by decide +kernel
theorem dX9_normal_15 : decode cX9_normal 15 = .ok (.aload_n 0, 1) := by decide +kernel
theorem dX9_normal_16 : decode cX9_normal 16 = .ok (.getfield 18, 3) := by decide +kernel
theorem dX9_normal_19 : decode cX9_normal 19 = .ok (.iload_n 1, 1) := by decide +kernel
theorem dX9_normal_20 : decode cX9_normal 20 = .ok (.aaload, 1) := by decide +kernel
theorem dX9_normal_21 : decode cX9_normal 21 = .ok (.invokevirtual 167, 3) := by decide +kernel
theorem dX9_normal_24 : decode cX9_normal 24 = .ok (.aload_n 0, 1) := by decide +kernel
theorem dX9_normal_25 : decode cX9_normal 25 = .ok (.getfield 37, 3) := by decide +kernel
theorem dX9_normal_28 : decode cX9_normal 28 = .ok (.aload_n 0, 1) := by decide +kernel
theorem dX9_normal_29 : decode cX9_normal 29 = .ok (.getfield 10, 3) := by decide +kernel
theorem dX9_normal_32 : decode cX9_normal 32 = .ok (.aload_n 0, 1) := by decide +kernel
theorem dX9_normal_33 : decode cX9_normal 33 = .ok (.getfield 23, 3) := by decide +kernel
theorem dX9_normal_36 : decode cX9_normal 36 = .ok (.invokevirtual 171, 3) := by decide +kernel
theorem dX9_normal_39 : decode cX9_normal 39 = .ok (.istore_n 2, 1) := by decide +kernel
theorem dX9_normal_40 : decode cX9_normal 40 = .ok (.iload_n 2, 1) := by decide +kernel
theorem dX9_normal_41 : decode cX9_normal 41 = .ok (.bipush (-5), 2) := by decide +kernel
theorem dX9_normal_43 : decode cX9_normal 43 = .ok (.if_icmp .eq 16, 3) := by decide +kernel
theorem dX9_normal_46 : decode cX9_normal 46 = .ok (.aload_n 0, 1) := by decide +kernel
theorem dX9_normal_47 : decode cX9_normal 47 = .ok (.getfield 18, 3) := by decide +kernel
theorem dX9_normal_50 : decode cX9_normal 50 = .ok (.iload_n 1, 1) := by decide +kernel
theorem dX9_normal_51 : decode cX9_normal 51 = .ok (.aaload, 1) := by decide +kernel
theorem dX9_normal_52 : decode cX9_normal 52 = .ok (.aload_n 0, 1) := by decide +kernel
theorem dX9_normal_53 : decode cX9_normal 53 = .ok (.getfield 23, 3) := by decide +kernel
theorem dX9_normal_56 : decode cX9_normal 56 = .ok (.invokevirtual 167, 3) := by decide +kernel
theorem dX9_normal_59 : decode cX9_normal 59 = .ok (.iload_n 2, 1) := by decide +kernel
theorem dX9_normal_60 : decode cX9_normal 60 = .ok (.ireturn, 1) := by decide +kernel
set_option maxRecDepth 20000 in
theorem ggX9_howMany_X9_isLeafNumber : GoodIn wsX9_howMany wsX9_isLeafNumber := goodIn_r _ [6] (by decide +kernel) (by decide +kernel)
set_option maxRecDepth 20000 in
theorem gX9_howMany_X9_isLeafNumber : GoodIn wsX9_howMany (va_wsS RX9 174 yX9_isLeafNumber wsX9_isLeafNumber) := goodIn_app (goodIn_of _ (by decide +kernel)) ggX9_howMany_X9_isLeafNumber
set_option maxRecDepth 20000 in
theorem ggX9_howMany_X9_learnMany : GoodIn wsX9_howMany wsX9_learnMany := goodIn_r _ [10, 11, 12, 13, 2, 14, 15, 16, 17, 18, 19, 20, 21, 22, 23, 24, 25, 26, 27, 28, 29, 30, 31, 32, 33, 34, 35, 36, 37, 38, 39, 40, 41, 42, 43, 44, 45, 46, 47, 48, 49, 50, 51, 52, 53, 54, 55, 56, 57, 58, 59, 60, 61, 62, 63, 64, 65, 66, 67, 68, 69, 70, 71, 72, 73, 74, 75, 76, 77, 78, 79, 80, 81, 82, 83, 84, 85, 86, 87, 88, 89, 90, 91, 92, 93, 94, 95, 96, 97, 98, 99, 100, 101, 102, 103, 104, 105, 106, 107, 108, 109, 110, 111, 112, 113, 114, 115, 116, 117, 118, 119, 120, 121, 122, 123, 124, 125, 126, 127, 128, 129, 130, 131, 132, 133, 134, 135, 136, 137, 138, 139, 140, 141, 142, 143, 144, 145, 146, 147, 148, 149, 150, 151, 152, 153, 154, 155] (by decide +kernel) (by decide +kernel)
set_option maxRecDepth 20000 in
theorem gX9_howMany_X9_learnMany : GoodIn wsX9_howMany (wsV RX9 179 RX9 yX9_learnMany wsX9_learnMany) := goodIn_app (goodIn_of _ (by decide +kernel)) ggX9_howMany_X9_learnMany
theorem dX9_howMany_0 : decode cX9_howMany 0 = .ok (.iload_n 1, 1) := by decide +kernel
theorem dX9_howMany_1 : decode cX9_howMany 1 = .ok (.invokestatic 174, 3) := by decide +kernel
theorem dX9_howMany_4 : decode cX9_howMany 4 = .ok (.ifCond .ne 7, 3) := by decide +kernel
theorem dX9_howMany_7 : decode cX9_howMany 7 = .ok (.ldc2_w 177, 3) := by decide +kernel
theorem dX9_howMany_10 : decode cX9_howMany 10 = .ok (.lreturn, 1) := by decide +kernel
theorem dX9_howMany_11 : decode cX9_howMany 11 = .ok (.aload_n 0, 1) := by decide +kernel
theorem dX9_howMany_12 : decode cX9_howMany 12 = .ok (.invokevirtual 179, 3) := by decide +kernel
theorem dX9_howMany_15 : decode cX9_howMany 15 = .ok (.aload_n 0, 1) := by decide +kernel
theorem dX9_howMany_16 : decode cX9_howMany 16 = .ok (.getfield 62, 3) := by decide +kernel
theorem dX9_howMany_19 : decode cX9_howMany 19 = .ok (.iload_n 1, 1) := by decide +kernel
theorem dX9_howMany_20 : decode cX9_howMany 20 = .ok (.laload, 1) := by decide +kernel
theorem dX9_howMany_21 : decode cX9_howMany 21 = .ok (.lreturn, 1) := by decide +kernel
set_option maxRecDepth 20000 in
theorem ggX9_overlaps_X1_restart : GoodIn wsX9_overlaps wsX1_restart := goodIn_r _ [7, 8, 84, 85, 86, 87, 88] (by decide +kernel) (by decide +kernel)
set_option maxRecDepth 20000 in
theorem gX9_overlaps_X1_restart : GoodIn wsX9_overlaps (wsV RX9 182 RX1 yX1_restart wsX1_restart) := goodIn_app (goodIn_of _ (by decide +kernel)) ggX9_overlaps_X1_restart
set_option maxRecDepth 20000 in
theorem ggX9_overlaps_X1_next : GoodIn wsX9_overlaps wsX1_next := goodIn_r _ [12, 8, 13, 14, 15, 16, 17, 18, 19, 20, 6, 21, 22, 23, 24, 25, 26, 27, 28, 29, 30, 31, 32, 33, 34, 35, 36, 37, 38, 39, 40, 41, 42, 43, 44, 45, 46, 47, 48, 49, 50, 51, 52, 53, 54, 55, 56, 57, 58, 59, 60, 61, 62, 63, 64, 65, 66, 67, 68, 69, 84, 85, 86, 87, 88, 89, 90, 91, 92, 93, 94, 95, 96, 97] (by decide +kernel) (by decide +kernel)
set_option maxRecDepth 20000 in
theorem gX9_overlaps_X1_next : GoodIn wsX9_overlaps (wsV RX9 185 RX1 yX1_next wsX1_next) := goodIn_app (goodIn_of _ (by decide +kernel)) ggX9_overlaps_X1_next
theorem dX9_overlaps_0 : decode cX9_overlaps 0 = .ok (.iconst 0, 1) := by decide +kernel
theorem dX9_overlaps_1 : decode cX9_overlaps 1 = .ok (.istore_n 1, 1) := by decide +kernel
theorem dX9_overlaps_2 : decode cX9_overlaps 2 = .ok (.aload_n 0, 1) := by decide +kernel
theorem dX9_overlaps_3 : decode cX9_overlaps 3 = .ok (.getfield 44, 3) := by decide +kernel
theorem dX9_overlaps_6 : decode cX9_overlaps 6 = .ok (.invokevirtual 182, 3) := by decide +kernel
theorem dX9_overlaps_9 : decode cX9_overlaps 9 = .ok (.iconst 0, 1) := by decide +kernel
theorem dX9_overlaps_10 : decode cX9_overlaps 10 = .ok (.istore_n 2, 1) := by decide +kernel
theorem dX9_overlaps_11 : decode cX9_overlaps 11 = .ok (.iload_n 2, 1) := by decide +kernel
theorem dX9_overlaps_12 : decode cX9_overlaps 12 = .ok (.sipush 832, 3) := by decide +kernel
theorem dX9_overlaps_15 : decode cX9_overlaps 15 = .ok (.if_icmp .ge 26, 3) := by decide +kernel
theorem dX9_overlaps_18 : decode cX9_overlaps 18 = .ok (.aload_n 0, 1) := by decide +kernel
theorem dX9_overlaps_19 : decode cX9_overlaps 19 = .ok (.getfield 44, 3) := by decide +kernel
theorem dX9_overlaps_22 : decode cX9_overlaps 22 = .ok (.aload_n 0, 1) := by decide +kernel
theorem dX9_overlaps_23 : decode cX9_overlaps 23 = .ok (.getfield 10, 3) := by decide +kernel
theorem dX9_overlaps_26 : decode cX9_overlaps 26 = .ok (.invokevirtual 185, 3) := by decide +kernel
theorem dX9_overlaps_29 : decode cX9_overlaps 29 = .ok (.ifCond .eq 12, 3) := by decide +kernel
theorem dX9_overlaps_32 : decode cX9_overlaps 32 = .ok (.iinc 1 1, 3) := by decide +kernel
theorem dX9_overlaps_35 : decode cX9_overlaps 35 = .ok (.iinc 2 1, 3) := by decide +kernel
theorem dX9_overlaps_38 : decode cX9_overlaps 38 = .ok (.goto (-27), 3) := by decide +kernel
theorem dX9_overlaps_41 : decode cX9_overlaps 41 = .ok (.iload_n 1, 1) := by decide +kernel
theorem dX9_overlaps_42 : decode cX9_overlaps 42 = .ok (.ireturn, 1) := by decide +kernel
set_option maxRecDepth 20000 in
theorem ggX9_overlap_X9_isRow : GoodIn wsX9_overlap wsX9_isRow := goodIn_r _ [10] (by decide +kernel) (by decide +kernel)
set_option maxRecDepth 20000 in
theorem gX9_overlap_X9_isRow : GoodIn wsX9_overlap (va_wsS RX9 83 yX9_isRow wsX9_isRow) := goodIn_app (goodIn_of _ (by decide +kernel)) ggX9_overlap_X9_isRow
set_option maxRecDepth 20000 in
theorem ggX9_overlap_X1_restart : GoodIn wsX9_overlap wsX1_restart := goodIn_r _ [15, 16, 102, 103, 104, 105, 106] (by decide +kernel) (by decide +kernel)
set_option maxRecDepth 20000 in
theorem gX9_overlap_X1_restart : GoodIn wsX9_overlap (wsV RX9 182 RX1 yX1_restart wsX1_restart) := goodIn_app (goodIn_of _ (by decide +kernel)) ggX9_overlap_X1_restart
set_option maxRecDepth 20000 in
theorem ggX9_overlap_X1_next : GoodIn wsX9_overlap wsX1_next := goodIn_r _ [20, 16, 21, 22, 23, 24, 25, 26, 27, 28, 14, 29, 30, 31, 32, 33, 34, 35, 36, 37, 38, 39, 40, 41, 42, 43, 44, 45, 46, 47, 48, 49, 50, 51, 52, 53, 54, 55, 56, 57, 58, 59, 60, 61, 62, 63, 64, 65, 66, 67, 68, 69, 70, 71, 72, 73, 74, 75, 76, 77, 102, 103, 104, 105, 106, 107, 108, 109, 110, 111, 112, 113, 114, 115] (by decide +kernel) (by decide +kernel)
set_option maxRecDepth 20000 in
theorem gX9_overlap_X1_next : GoodIn wsX9_overlap (wsV RX9 185 RX1 yX1_next wsX1_next) := goodIn_app (goodIn_of _ (by decide +kernel)) ggX9_overlap_X1_next
set_option maxRecDepth 20000 in
theorem ggX9_overlap_X9_bring : GoodIn wsX9_overlap wsX9_bring := goodIn_r _ [81, 82, 83, 84, 85, 86, 46, 87, 53, 48, 54, 55, 56, 57, 88, 89, 90, 91, 92, 93, 94, 95, 96, 97, 98, 99, 100, 101, 114, 115] (by decide +kernel) (by decide +kernel)
set_option maxRecDepth 20000 in
theorem gX9_overlap_X9_bring : GoodIn wsX9_overlap (wsV RX9 128 RX9 yX9_bring wsX9_bring) := goodIn_app (goodIn_of _ (by decide +kernel)) ggX9_overlap_X9_bring
theorem dX9_overlap_0 : decode cX9_overlap 0 = .ok (.iload_n 1, 1) := by decide +kernel
theorem dX9_overlap_1 : decode cX9_overlap 1 = .ok (.ifCond .lt 10, 3) := by decide +kernel
theorem dX9_overlap_4 : decode cX9_overlap 4 = .ok (.iload_n 2, 1) := by decide +kernel
theorem dX9_overlap_5 : decode cX9_overlap 5 = .ok (.invokestatic 83, 3) := by decide +kernel
theorem dX9_overlap_8 : decode cX9_overlap 8 = .ok (.ifCond .ne 6, 3) := by decide +kernel
theorem dX9_overlap_11 : decode cX9_overlap 11 = .ok (.bipush (-2), 2) := by decide +kernel
theorem dX9_overlap_13 : decode cX9_overlap 13 = .ok (.ireturn, 1) := by decide +kernel
theorem dX9_overlap_14 : decode cX9_overlap 14 = .ok (.aload_n 0, 1) := by decide +kernel
theorem dX9_overlap_15 : decode cX9_overlap 15 = .ok (.getfield 44, 3) := by decide +kernel
theorem dX9_overlap_18 : decode cX9_overlap 18 = .ok (.invokevirtual 182, 3) := by decide +kernel
theorem dX9_overlap_21 : decode cX9_overlap 21 = .ok (.iconst 0, 1) := by decide +kernel
theorem dX9_overlap_22 : decode cX9_overlap 22 = .ok (.istore_n 3, 1) := by decide +kernel
theorem dX9_overlap_23 : decode cX9_overlap 23 = .ok (.iload_n 3, 1) := by decide +kernel
theorem dX9_overlap_24 : decode cX9_overlap 24 = .ok (.sipush 832, 3) := by decide +kernel
theorem dX9_overlap_27 : decode cX9_overlap 27 = .ok (.if_icmp .ge 72, 3) := by decide +kernel
theorem dX9_overlap_30 : decode cX9_overlap 30 = .ok (.aload_n 0, 1) := by decide +kernel
theorem dX9_overlap_31 : decode cX9_overlap 31 = .ok (.getfield 44, 3) := by decide +kernel
theorem dX9_overlap_34 : decode cX9_overlap 34 = .ok (.aload_n 0, 1) := by decide +kernel
theorem dX9_overlap_35 : decode cX9_overlap 35 = .ok (.getfield 10, 3) := by decide +kernel
theorem dX9_overlap_38 : decode cX9_overlap 38 = .ok (.invokevirtual 185, 3) := by decide +kernel
theorem dX9_overlap_41 : decode cX9_overlap 41 = .ok (.ifCond .eq 58, 3) := by decide +kernel
theorem dX9_overlap_44 : decode cX9_overlap 44 = .ok (.iload_n 3, 1) := by decide +kernel
theorem dX9_overlap_45 : decode cX9_overlap 45 = .ok (.iload_n 1, 1) := by decide +kernel
theorem dX9_overlap_46 : decode cX9_overlap 46 = .ok (.if_icmp .ne 47, 3) := by decide +kernel
theorem dX9_overlap_49 : decode cX9_overlap 49 = .ok (.aload_n 0, 1) := by decide +kernel
theorem dX9_overlap_50 : decode cX9_overlap 50 = .ok (.aload_n 0, 1) := by decide +kernel
theorem dX9_overlap_51 : decode cX9_overlap 51 = .ok (.getfield 44, 3) := by decide +kernel
theorem dX9_overlap_54 : decode cX9_overlap 54 = .ok (.getfield 189, 3) := by decide +kernel
theorem dX9_overlap_57 : decode cX9_overlap 57 = .ok (.iload_n 2, 1) := by decide +kernel
theorem dX9_overlap_58 : decode cX9_overlap 58 = .ok (.invokevirtual 128, 3) := by decide +kernel
theorem dX9_overlap_61 : decode cX9_overlap 61 = .ok (.pop, 1) := by decide +kernel
theorem dX9_overlap_62 : decode cX9_overlap 62 = .ok (.sipush 1000, 3) := by decide +kernel
theorem dX9_overlap_65 : decode cX9_overlap 65 = .ok (.aload_n 0, 1) := by decide +kernel
theorem dX9_overlap_66 : decode cX9_overlap 66 = .ok (.getfield 44, 3) := by decide +kernel
theorem dX9_overlap_69 : decode cX9_overlap 69 = .ok (.getfield 192, 3) := by decide +kernel
theorem dX9_overlap_72 : decode cX9_overlap 72 = .ok (.imul, 1) := by decide +kernel
theorem dX9_overlap_73 : decode cX9_overlap 73 = .ok (.bipush 100, 2) := by decide +kernel
theorem dX9_overlap_75 : decode cX9_overlap 75 = .ok (.aload_n 0, 1) := by decide +kernel
theorem dX9_overlap_76 : decode cX9_overlap 76 = .ok (.getfield 44, 3) := by decide +kernel
theorem dX9_overlap_79 : decode cX9_overlap 79 = .ok (.getfield 195, 3) := by decide +kernel
theorem dX9_overlap_82 : decode cX9_overlap 82 = .ok (.imul, 1) := by decide +kernel
theorem dX9_overlap_83 : decode cX9_overlap 83 = .ok (.iadd, 1) := by decide +kernel
theorem dX9_overlap_84 : decode cX9_overlap 84 = .ok (.aload_n 0, 1) := by decide +kernel
theorem dX9_overlap_85 : decode cX9_overlap 85 = .ok (.getfield 44, 3) := by decide +kernel
theorem dX9_overlap_88 : decode cX9_overlap 88 = .ok (.getfield 198, 3) := by decide +kernel
theorem dX9_overlap_91 : decode cX9_overlap 91 = .ok (.iadd, 1) := by decide +kernel
theorem dX9_overlap_92 : decode cX9_overlap 92 = .ok (.ireturn, 1) := by decide +kernel
theorem dX9_overlap_93 : decode cX9_overlap 93 = .ok (.iinc 3 1, 3) := by decide +kernel
theorem dX9_overlap_96 : decode cX9_overlap 96 = .ok (.goto (-73), 3) := by decide +kernel
theorem dX9_overlap_99 : decode cX9_overlap 99 = .ok (.iconst (-1), 1) := by decide +kernel
theorem dX9_overlap_100 : decode cX9_overlap 100 = .ok (.ireturn, 1) := by decide +kernel
set_option maxRecDepth 20000 in
theorem ggX9_closes_X1_restart : GoodIn wsX9_closes wsX1_restart := goodIn_r _ [10, 11, 150, 151, 152, 153, 154] (by decide +kernel) (by decide +kernel)
set_option maxRecDepth 20000 in
theorem gX9_closes_X1_restart : GoodIn wsX9_closes (wsV RX9 182 RX1 yX1_restart wsX1_restart) := goodIn_app (goodIn_of _ (by decide +kernel)) ggX9_closes_X1_restart
set_option maxRecDepth 20000 in
theorem ggX9_closes_X1_next : GoodIn wsX9_closes wsX1_next := goodIn_r _ [15, 11, 16, 17, 18, 19, 20, 21, 22, 23, 9, 24, 25, 26, 27, 28, 29, 30, 31, 32, 33, 34, 35, 36, 37, 38, 39, 40, 41, 42, 43, 44, 45, 46, 47, 48, 49, 50, 51, 52, 53, 54, 55, 56, 57, 58, 59, 60, 61, 62, 63, 64, 65, 66, 67, 68, 69, 70, 71, 72, 150, 151, 152, 153, 154, 155, 156, 157, 158, 159, 160, 161, 162, 163] (by decide +kernel) (by decide +kernel)
set_option maxRecDepth 20000 in
theorem gX9_closes_X1_next : GoodIn wsX9_closes (wsV RX9 185 RX1 yX1_next wsX1_next) := goodIn_app (goodIn_of _ (by decide +kernel)) ggX9_closes_X1_next
set_option maxRecDepth 20000 in
theorem ggX9_closes_X2_meet : GoodIn wsX9_closes wsX2_meet := goodIn_r _ [77, 78, 79, 80, 81, 82, 83, 84, 85, 86, 41, 87, 48, 43, 49, 50, 51, 52, 88, 89, 90, 76, 91, 92, 93, 94, 95, 96, 97, 98, 99, 100, 101, 102, 103, 68, 69, 30, 70, 71, 72, 104, 28, 29, 31, 32, 105, 106, 107, 108, 109, 110, 111, 112, 113, 114, 115, 116, 117, 118, 119, 120, 39, 40, 42, 121, 45, 46, 47, 122, 54, 55, 56, 123, 124, 125, 126, 127, 128, 129, 130, 131, 132, 133, 134, 135, 164, 165, 166, 167, 168, 150, 151, 152, 153, 154, 162, 163, 155, 156, 157, 158, 159, 160, 161, 169] (by decide +kernel) (by decide +kernel)
set_option maxRecDepth 20000 in
theorem gX9_closes_X2_meet : GoodIn wsX9_closes (wsV RX9 205 RX2 yX2_meet wsX2_meet) := goodIn_app (goodIn_of _ (by decide +kernel)) ggX9_closes_X2_meet
theorem dX9_closes_0 : decode cX9_closes 0 = .ok (.aload_n 0, 1) := by decide +kernel
theorem dX9_closes_1 : decode cX9_closes 1 = .ok (.getfield 201, 3) := by decide +kernel
theorem dX9_closes_4 : decode cX9_closes 4 = .ok (.ifCond .eq 8, 3) := by decide +kernel
theorem dX9_closes_7 : decode cX9_closes 7 = .ok (.aload_n 0, 1) := by decide +kernel
theorem dX9_closes_8 : decode cX9_closes 8 = .ok (.getfield 69, 3) := by decide +kernel
theorem dX9_closes_11 : decode cX9_closes 11 = .ok (.ireturn, 1) := by decide +kernel
theorem dX9_closes_12 : decode cX9_closes 12 = .ok (.aload_n 0, 1) := by decide +kernel
theorem dX9_closes_13 : decode cX9_closes 13 = .ok (.iconst (-1), 1) := by decide +kernel
theorem dX9_closes_14 : decode cX9_closes 14 = .ok (.putfield 69, 3) := by decide +kernel
theorem dX9_closes_17 : decode cX9_closes 17 = .ok (.aload_n 0, 1) := by decide +kernel
theorem dX9_closes_18 : decode cX9_closes 18 = .ok (.iconst 1, 1) := by decide +kernel
theorem dX9_closes_19 : decode cX9_closes 19 = .ok (.putfield 201, 3) := by decide +kernel
theorem dX9_closes_22 : decode cX9_closes 22 = .ok (.aload_n 0, 1) := by decide +kernel
theorem dX9_closes_23 : decode cX9_closes 23 = .ok (.getfield 44, 3) := by decide +kernel
theorem dX9_closes_26 : decode cX9_closes 26 = .ok (.invokevirtual 182, 3) := by decide +kernel
theorem dX9_closes_29 : decode cX9_closes 29 = .ok (.iconst 0, 1) := by decide +kernel
theorem dX9_closes_30 : decode cX9_closes 30 = .ok (.istore_n 1, 1) := by decide +kernel
theorem dX9_closes_31 : decode cX9_closes 31 = .ok (.iload_n 1, 1) := by decide +kernel
theorem dX9_closes_32 : decode cX9_closes 32 = .ok (.sipush 832, 3) := by decide +kernel
theorem dX9_closes_35 : decode cX9_closes 35 = .ok (.if_icmp .ge 71, 3) := by decide +kernel
theorem dX9_closes_38 : decode cX9_closes 38 = .ok (.aload_n 0, 1) := by decide +kernel
theorem dX9_closes_39 : decode cX9_closes 39 = .ok (.getfield 69, 3) := by decide +kernel
theorem dX9_closes_42 : decode cX9_closes 42 = .ok (.iconst (-1), 1) := by decide +kernel
theorem dX9_closes_43 : decode cX9_closes 43 = .ok (.if_icmp .ne 63, 3) := by decide +kernel
theorem dX9_closes_46 : decode cX9_closes 46 = .ok (.aload_n 0, 1) := by decide +kernel
theorem dX9_closes_47 : decode cX9_closes 47 = .ok (.getfield 44, 3) := by decide +kernel
theorem dX9_closes_50 : decode cX9_closes 50 = .ok (.aload_n 0, 1) := by decide +kernel
theorem dX9_closes_51 : decode cX9_closes 51 = .ok (.getfield 10, 3) := by decide +kernel
theorem dX9_closes_54 : decode cX9_closes 54 = .ok (.invokevirtual 185, 3) := by decide +kernel
theorem dX9_closes_57 : decode cX9_closes 57 = .ok (.ifCond .eq 49, 3) := by decide +kernel
theorem dX9_closes_60 : decode cX9_closes 60 = .ok (.aload_n 0, 1) := by decide +kernel
theorem dX9_closes_61 : decode cX9_closes 61 = .ok (.getfield 37, 3) := by decide +kernel
theorem dX9_closes_64 : decode cX9_closes 64 = .ok (.aload_n 0, 1) := by decide +kernel
theorem dX9_closes_65 : decode cX9_closes 65 = .ok (.getfield 10, 3) := by decide +kernel
theorem dX9_closes_68 : decode cX9_closes 68 = .ok (.aload_n 0, 1) := by decide +kernel
theorem dX9_closes_69 : decode cX9_closes 69 = .ok (.getfield 44, 3) := by decide +kernel
theorem dX9_closes_72 : decode cX9_closes 72 = .ok (.invokevirtual 205, 3) := by decide +kernel
theorem dX9_closes_75 : decode cX9_closes 75 = .ok (.istore_n 2, 1) := by decide +kernel
theorem dX9_closes_76 : decode cX9_closes 76 = .ok (.iload_n 2, 1) := by decide +kernel
theorem dX9_closes_77 : decode cX9_closes 77 = .ok (.bipush (-5), 2) := by decide +kernel
theorem dX9_closes_79 : decode cX9_closes 79 = .ok (.if_icmp .ne 12, 3) := by decide +kernel
theorem dX9_closes_82 : decode cX9_closes 82 = .ok (.aload_n 0, 1) := by decide +kernel
theorem dX9_closes_83 : decode cX9_closes 83 = .ok (.bipush (-5), 2) := by decide +kernel
theorem dX9_closes_85 : decode cX9_closes 85 = .ok (.putfield 69, 3) := by decide +kernel
theorem dX9_closes_88 : decode cX9_closes 88 = .ok (.goto 12, 3) := by decide +kernel
theorem dX9_closes_91 : decode cX9_closes 91 = .ok (.iload_n 2, 1) := by decide +kernel
theorem dX9_closes_92 : decode cX9_closes 92 = .ok (.ifCond .ne 8, 3) := by decide +kernel
theorem dX9_closes_95 : decode cX9_closes 95 = .ok (.aload_n 0, 1) := by decide +kernel
theorem dX9_closes_96 : decode cX9_closes 96 = .ok (.iload_n 1, 1) := by decide +kernel
theorem dX9_closes_97 : decode cX9_closes 97 = .ok (.putfield 69, 3) := by decide +kernel
theorem dX9_closes_100 : decode cX9_closes 100 = .ok (.iinc 1 1, 3) := by decide +kernel
theorem dX9_closes_103 : decode cX9_closes 103 = .ok (.goto (-72), 3) := by decide +kernel
theorem dX9_closes_106 : decode cX9_closes 106 = .ok (.aload_n 0, 1) := by decide +kernel
theorem dX9_closes_107 : decode cX9_closes 107 = .ok (.getfield 69, 3) := by decide +kernel
theorem dX9_closes_110 : decode cX9_closes 110 = .ok (.ireturn, 1) := by decide +kernel
set_option maxRecDepth 20000 in
theorem ggX9_turned_X9_isLeafNumber : GoodIn wsX9_turned wsX9_isLeafNumber := goodIn_r _ [8] (by decide +kernel) (by decide +kernel)
set_option maxRecDepth 20000 in
theorem gX9_turned_X9_isLeafNumber : GoodIn wsX9_turned (va_wsS RX9 174 yX9_isLeafNumber wsX9_isLeafNumber) := goodIn_app (goodIn_of _ (by decide +kernel)) ggX9_turned_X9_isLeafNumber
set_option maxRecDepth 20000 in
theorem ggX9_turned_X9_learnMany : GoodIn wsX9_turned wsX9_learnMany := goodIn_r _ [12, 13, 14, 15, 3, 16, 17, 18, 19, 20, 21, 22, 23, 24, 25, 26, 27, 28, 29, 30, 31, 32, 33, 34, 35, 36, 37, 38, 39, 40, 41, 42, 43, 44, 45, 46, 47, 48, 49, 50, 51, 52, 53, 54, 55, 56, 57, 58, 59, 60, 61, 62, 63, 64, 65, 66, 67, 68, 69, 70, 71, 72, 73, 74, 75, 76, 77, 78, 79, 80, 81, 82, 83, 84, 85, 86, 87, 88, 89, 90, 91, 92, 93, 94, 95, 96, 97, 98, 99, 100, 101, 102, 103, 104, 105, 106, 107, 108, 109, 110, 111, 112, 113, 114, 115, 116, 117, 118, 119, 120, 121, 122, 123, 124, 125, 137, 138, 139, 140, 141, 142, 143, 144, 145, 146, 147, 148, 149, 150, 153, 154, 155, 156, 157, 158, 159, 160, 161, 162, 163, 164, 165, 166, 167, 168, 169, 170] (by decide +kernel) (by decide +kernel)
set_option maxRecDepth 20000 in
theorem gX9_turned_X9_learnMany : GoodIn wsX9_turned (wsV RX9 179 RX9 yX9_learnMany wsX9_learnMany) := goodIn_app (goodIn_of _ (by decide +kernel)) ggX9_turned_X9_learnMany
set_option maxRecDepth 20000 in
theorem ggX9_turned_X5_turn : GoodIn wsX9_turned wsX5_turn := goodIn_r _ [130, 131, 132, 133, 134, 135, 129, 136, 151, 152] (by decide +kernel) (by decide +kernel)
set_option maxRecDepth 20000 in
theorem gX9_turned_X5_turn : GoodIn wsX9_turned (wsV RX9 209 RX5 yX5_turn wsX5_turn) := goodIn_app (goodIn_of _ (by decide +kernel)) ggX9_turned_X5_turn
theorem dX9_turned_0 : decode cX9_turned 0 = .ok (.iload_n 1, 1) := by decide +kernel
theorem dX9_turned_1 : decode cX9_turned 1 = .ok (.invokestatic 174, 3) := by decide +kernel
theorem dX9_turned_4 : decode cX9_turned 4 = .ok (.ifCond .ne 7, 3) := by decide +kernel
theorem dX9_turned_7 : decode cX9_turned 7 = .ok (.ldc2_w 177, 3) := by decide +kernel
theorem dX9_turned_10 : decode cX9_turned 10 = .ok (.lreturn, 1) := by decide +kernel
theorem dX9_turned_11 : decode cX9_turned 11 = .ok (.aload_n 0, 1) := by decide +kernel
theorem dX9_turned_12 : decode cX9_turned 12 = .ok (.invokevirtual 179, 3) := by decide +kernel
theorem dX9_turned_15 : decode cX9_turned 15 = .ok (.aload_n 0, 1) := by decide +kernel
theorem dX9_turned_16 : decode cX9_turned 16 = .ok (.getfield 58, 3) := by decide +kernel
theorem dX9_turned_19 : decode cX9_turned 19 = .ok (.aload_n 0, 1) := by decide +kernel
theorem dX9_turned_20 : decode cX9_turned 20 = .ok (.getfield 62, 3) := by decide +kernel
theorem dX9_turned_23 : decode cX9_turned 23 = .ok (.invokevirtual 209, 3) := by decide +kernel
theorem dX9_turned_26 : decode cX9_turned 26 = .ok (.aload_n 0, 1) := by decide +kernel
theorem dX9_turned_27 : decode cX9_turned 27 = .ok (.getfield 58, 3) := by decide +kernel
theorem dX9_turned_30 : decode cX9_turned 30 = .ok (.getfield 213, 3) := by decide +kernel
theorem dX9_turned_33 : decode cX9_turned 33 = .ok (.iload_n 1, 1) := by decide +kernel
theorem dX9_turned_34 : decode cX9_turned 34 = .ok (.laload, 1) := by decide +kernel
theorem dX9_turned_35 : decode cX9_turned 35 = .ok (.lreturn, 1) := by decide +kernel
