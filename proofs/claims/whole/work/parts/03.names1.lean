theorem inlX0 : ∀ w ∈ wsX00, w ∈ wsL_law := fun _ h => List.mem_append_left _ (List.mem_append_left _ (List.mem_append_left _ (List.mem_append_left _ (List.mem_append_right _ h))))
theorem inlX1 : ∀ w ∈ wsX10, w ∈ wsL_law := fun _ h => List.mem_append_left _ (List.mem_append_left _ (List.mem_append_left _ (List.mem_append_left _ (List.mem_append_left _ (List.mem_append_right _ h)))))
theorem inlX2 : ∀ w ∈ wsX20, w ∈ wsL_law := fun _ h => List.mem_append_left _ (List.mem_append_left _ (List.mem_append_left _ (List.mem_append_left _ (List.mem_append_left _ (List.mem_append_left _ (List.mem_append_right _ h))))))
theorem inlX3 : ∀ w ∈ wsX30, w ∈ wsL_law := fun _ h => List.mem_append_left _ (List.mem_append_left _ (List.mem_append_left _ (List.mem_append_left _ (List.mem_append_left _ (List.mem_append_left _ (List.mem_append_left _ (List.mem_append_left _ (List.mem_append_right _ h))))))))
theorem inlX4 : ∀ w ∈ wsX40, w ∈ wsL_law := fun _ h => List.mem_append_left _ (List.mem_append_left _ (List.mem_append_right _ h))
theorem inlX5 : ∀ w ∈ wsX50, w ∈ wsL_law := fun _ h => List.mem_append_left _ (List.mem_append_left _ (List.mem_append_left _ (List.mem_append_right _ h)))
theorem inlX6 : ∀ w ∈ wsX60, w ∈ wsL_law := fun _ h => List.mem_append_left _ (List.mem_append_left _ (List.mem_append_left _ (List.mem_append_left _ (List.mem_append_left _ (List.mem_append_left _ (List.mem_append_left _ (List.mem_append_right _ h)))))))
theorem inlX7 : ∀ w ∈ wsX70, w ∈ wsL_law := fun _ h => List.mem_append_left _ (List.mem_append_right _ h)
theorem inlX8 : ∀ w ∈ wsX80, w ∈ wsL_law := fun _ h => List.mem_append_left _ (List.mem_append_left _ (List.mem_append_left _ (List.mem_append_left _ (List.mem_append_left _ (List.mem_append_left _ (List.mem_append_left _ (List.mem_append_left _ (List.mem_append_left _ (List.mem_append_right _ h)))))))))
theorem inlX9 : ∀ w ∈ wsX90, w ∈ wsL_law := fun _ h => List.mem_append_left _ (List.mem_append_left _ (List.mem_append_left _ (List.mem_append_left _ (List.mem_append_left _ (List.mem_append_left _ (List.mem_append_left _ (List.mem_append_left _ (List.mem_append_left _ (List.mem_append_left _ (List.mem_append_left _ (List.mem_append_right _ h)))))))))))
theorem inlX10 : ∀ w ∈ wsX100, w ∈ wsL_law := fun _ h => List.mem_append_left _ (List.mem_append_left _ (List.mem_append_left _ (List.mem_append_left _ (List.mem_append_left _ (List.mem_append_left _ (List.mem_append_left _ (List.mem_append_left _ (List.mem_append_left _ (List.mem_append_left _ (List.mem_append_right _ h))))))))))
theorem inJx8e188 : ∀ w ∈ wsJx8e1880, w ∈ lw_tbl := by decide +kernel
theorem inJ9 : ∀ w ∈ wsJ90, w ∈ lw_tbl := by decide +kernel
theorem inJ10 : ∀ w ∈ wsJ100, w ∈ lw_tbl := by decide +kernel
theorem inJ7 : ∀ w ∈ wsJ70, w ∈ lw_tbl := by decide +kernel
set_option maxRecDepth 20000 in
theorem ggX0_init_X7_init : GoodIn wsX0_init wsX7_init := goodIn_r _ [15, 16, 2, 3, 7, 17, 18, 25, 26, 27] (by decide +kernel) (by decide +kernel)
set_option maxRecDepth 20000 in
theorem gX0_init_X7_init_n30 : GoodIn wsX0_init (wsX7_init) := ggX0_init_X7_init
theorem dX0_init_0 : decode cX0_init 0 = .ok (.aload_n 0, 1) := by decide +kernel
theorem dX0_init_1 : decode cX0_init 1 = .ok (.invokespecial 3, 3) := by decide +kernel
theorem dX0_init_4 : decode cX0_init 4 = .ok (.aload_n 0, 1) := by decide +kernel
theorem dX0_init_5 : decode cX0_init 5 = .ok (.bipush 36, 2) := by decide +kernel
theorem dX0_init_7 : decode cX0_init 7 = .ok (.newarray .int, 2) := by decide +kernel
theorem dX0_init_9 : decode cX0_init 9 = .ok (.putfield 9, 3) := by decide +kernel
theorem dX0_init_12 : decode cX0_init 12 = .ok (.aload_n 0, 1) := by decide +kernel
theorem dX0_init_13 : decode cX0_init 13 = .ok (.iconst 3, 1) := by decide +kernel
theorem dX0_init_14 : decode cX0_init 14 = .ok (.bipush 36, 2) := by decide +kernel
theorem dX0_init_16 : decode cX0_init 16 = .ok (.multianewarray 15 2, 4) := by decide +kernel
theorem dX0_init_20 : decode cX0_init 20 = .ok (.putfield 17, 3) := by decide +kernel
theorem dX0_init_23 : decode cX0_init 23 = .ok (.aload_n 0, 1) := by decide +kernel
theorem dX0_init_24 : decode cX0_init 24 = .ok (.bipush 60, 2) := by decide +kernel
theorem dX0_init_26 : decode cX0_init 26 = .ok (.newarray .long, 2) := by decide +kernel
theorem dX0_init_28 : decode cX0_init 28 = .ok (.putfield 20, 3) := by decide +kernel
theorem dX0_init_31 : decode cX0_init 31 = .ok (.aload_n 0, 1) := by decide +kernel
theorem dX0_init_32 : decode cX0_init 32 = .ok (.bipush 6, 2) := by decide +kernel
theorem dX0_init_34 : decode cX0_init 34 = .ok (.anewarray 24, 3) := by decide +kernel
theorem dX0_init_37 : decode cX0_init 37 = .ok (.putfield 26, 3) := by decide +kernel
theorem dX0_init_40 : decode cX0_init 40 = .ok (.iconst 0, 1) := by decide +kernel
theorem dX0_init_41 : decode cX0_init 41 = .ok (.istore_n 1, 1) := by decide +kernel
theorem dX0_init_42 : decode cX0_init 42 = .ok (.iload_n 1, 1) := by decide +kernel
theorem dX0_init_43 : decode cX0_init 43 = .ok (.bipush 6, 2) := by decide +kernel
theorem dX0_init_45 : decode cX0_init 45 = .ok (.if_icmp .ge 22, 3) := by decide +kernel
theorem dX0_init_48 : decode cX0_init 48 = .ok (.aload_n 0, 1) := by decide +kernel
theorem dX0_init_49 : decode cX0_init 49 = .ok (.getfield 26, 3) := by decide +kernel
theorem dX0_init_52 : decode cX0_init 52 = .ok (.iload_n 1, 1) := by decide +kernel
theorem dX0_init_53 : decode cX0_init 53 = .ok (.new 24, 3) := by decide +kernel
theorem dX0_init_56 : decode cX0_init 56 = .ok (.dup, 1) := by decide +kernel
theorem dX0_init_57 : decode cX0_init 57 = .ok (.invokespecial 30, 3) := by decide +kernel
theorem dX0_init_60 : decode cX0_init 60 = .ok (.aastore, 1) := by decide +kernel
theorem dX0_init_61 : decode cX0_init 61 = .ok (.iinc 1 1, 3) := by decide +kernel
theorem dX0_init_64 : decode cX0_init 64 = .ok (.goto (-22), 3) := by decide +kernel
theorem dX0_init_67 : decode cX0_init 67 = .ok (.return_, 1) := by decide +kernel
set_option maxRecDepth 20000 in
theorem ggX0_forbidLefts_X0_clear : GoodIn wsX0_forbidLefts wsX0_clear := goodIn_r _ [8, 9, 10, 56, 57, 58, 59, 60, 61] (by decide +kernel) (by decide +kernel)
set_option maxRecDepth 20000 in
theorem gX0_forbidLefts_X0_clear : GoodIn wsX0_forbidLefts (wsV RX0 31 RX0 yX0_clear wsX0_clear) := goodIn_app (goodIn_of _ (by decide +kernel)) ggX0_forbidLefts_X0_clear
set_option maxRecDepth 20000 in
theorem ggX0_forbidLefts_X0_forbid : GoodIn wsX0_forbidLefts wsX0_forbid := goodIn_r _ [14, 15, 16, 17, 18, 19, 20, 7, 21, 9, 22, 23, 10, 24, 25, 26, 27, 28, 29, 30, 31, 32, 33, 34, 35, 36, 37, 38, 39, 40, 41, 42, 43, 44, 45, 46, 47, 48, 62, 63, 56, 57, 58, 59, 60, 61, 49, 50, 51, 52] (by decide +kernel) (by decide +kernel)
set_option maxRecDepth 20000 in
theorem gX0_forbidLefts_X0_forbid : GoodIn wsX0_forbidLefts (wsV RX0 50 RX0 yX0_forbid wsX0_forbid) := goodIn_app (goodIn_of _ (by decide +kernel)) ggX0_forbidLefts_X0_forbid
theorem dX0_forbidLefts_0 : decode cX0_forbidLefts 0 = .ok (.aload_n 0, 1) := by decide +kernel
theorem dX0_forbidLefts_1 : decode cX0_forbidLefts 1 = .ok (.invokevirtual 31, 3) := by decide +kernel
theorem dX0_forbidLefts_4 : decode cX0_forbidLefts 4 = .ok (.iconst 0, 1) := by decide +kernel
theorem dX0_forbidLefts_5 : decode cX0_forbidLefts 5 = .ok (.istore_n 2, 1) := by decide +kernel
theorem dX0_forbidLefts_6 : decode cX0_forbidLefts 6 = .ok (.iload_n 2, 1) := by decide +kernel
theorem dX0_forbidLefts_7 : decode cX0_forbidLefts 7 = .ok (.aload_n 1, 1) := by decide +kernel
theorem dX0_forbidLefts_8 : decode cX0_forbidLefts 8 = .ok (.getfield 34, 3) := by decide +kernel
theorem dX0_forbidLefts_11 : decode cX0_forbidLefts 11 = .ok (.if_icmp .ge 23, 3) := by decide +kernel
theorem dX0_forbidLefts_14 : decode cX0_forbidLefts 14 = .ok (.aload_n 0, 1) := by decide +kernel
theorem dX0_forbidLefts_15 : decode cX0_forbidLefts 15 = .ok (.aload_n 1, 1) := by decide +kernel
theorem dX0_forbidLefts_16 : decode cX0_forbidLefts 16 = .ok (.aload_n 1, 1) := by decide +kernel
theorem dX0_forbidLefts_17 : decode cX0_forbidLefts 17 = .ok (.getfield 40, 3) := by decide +kernel
theorem dX0_forbidLefts_20 : decode cX0_forbidLefts 20 = .ok (.iload_n 2, 1) := by decide +kernel
theorem dX0_forbidLefts_21 : decode cX0_forbidLefts 21 = .ok (.aaload, 1) := by decide +kernel
theorem dX0_forbidLefts_22 : decode cX0_forbidLefts 22 = .ok (.getfield 44, 3) := by decide +kernel
theorem dX0_forbidLefts_25 : decode cX0_forbidLefts 25 = .ok (.invokevirtual 50, 3) := by decide +kernel
theorem dX0_forbidLefts_28 : decode cX0_forbidLefts 28 = .ok (.iinc 2 1, 3) := by decide +kernel
theorem dX0_forbidLefts_31 : decode cX0_forbidLefts 31 = .ok (.goto (-25), 3) := by decide +kernel
theorem dX0_forbidLefts_34 : decode cX0_forbidLefts 34 = .ok (.return_, 1) := by decide +kernel
set_option maxRecDepth 20000 in
theorem ggX0_forbidAllButLefts_X0_clear : GoodIn wsX0_forbidAllButLefts wsX0_clear := goodIn_r _ [6, 7, 8, 32, 33, 34, 35, 36, 37] (by decide +kernel) (by decide +kernel)
set_option maxRecDepth 20000 in
theorem gX0_forbidAllButLefts_X0_clear : GoodIn wsX0_forbidAllButLefts (wsV RX0 31 RX0 yX0_clear wsX0_clear) := goodIn_app (goodIn_of _ (by decide +kernel)) ggX0_forbidAllButLefts_X0_clear
set_option maxRecDepth 20000 in
theorem ggX0_forbidAllButLefts_X0_addNode : GoodIn wsX0_forbidAllButLefts wsX0_addNode := goodIn_r _ [12, 7, 13, 14, 8, 32, 33, 34, 35, 36, 37] (by decide +kernel) (by decide +kernel)
set_option maxRecDepth 20000 in
theorem gX0_forbidAllButLefts_X0_addNode : GoodIn wsX0_forbidAllButLefts (wsV RX0 57 RX0 yX0_addNode wsX0_addNode) := goodIn_app (goodIn_of _ (by decide +kernel)) ggX0_forbidAllButLefts_X0_addNode
set_option maxRecDepth 20000 in
theorem ggX0_forbidAllButLefts_X0_forbidUnlessLeft : GoodIn wsX0_forbidAllButLefts wsX0_forbidUnlessLeft := goodIn_r _ [18, 14, 19, 20, 21, 22, 23, 24, 25, 26, 27, 9, 10, 11, 5, 12, 7, 13, 8, 32, 33, 34, 35, 36, 37, 28, 29, 30, 31, 38, 39, 40, 41, 42] (by decide +kernel) (by decide +kernel)
set_option maxRecDepth 20000 in
theorem gX0_forbidAllButLefts_X0_forbidUnlessLeft : GoodIn wsX0_forbidAllButLefts (wsV RX0 61 RX0 yX0_forbidUnlessLeft wsX0_forbidUnlessLeft) := goodIn_app (goodIn_of _ (by decide +kernel)) ggX0_forbidAllButLefts_X0_forbidUnlessLeft
theorem dX0_forbidAllButLefts_0 : decode cX0_forbidAllButLefts 0 = .ok (.aload_n 0, 1) := by decide +kernel
theorem dX0_forbidAllButLefts_1 : decode cX0_forbidAllButLefts 1 = .ok (.invokevirtual 31, 3) := by decide +kernel
theorem dX0_forbidAllButLefts_4 : decode cX0_forbidAllButLefts 4 = .ok (.iconst 0, 1) := by decide +kernel
theorem dX0_forbidAllButLefts_5 : decode cX0_forbidAllButLefts 5 = .ok (.istore_n 2, 1) := by decide +kernel
theorem dX0_forbidAllButLefts_6 : decode cX0_forbidAllButLefts 6 = .ok (.iload_n 2, 1) := by decide +kernel
theorem dX0_forbidAllButLefts_7 : decode cX0_forbidAllButLefts 7 = .ok (.aload_n 1, 1) := by decide +kernel
theorem dX0_forbidAllButLefts_8 : decode cX0_forbidAllButLefts 8 = .ok (.getfield 54, 3) := by decide +kernel
theorem dX0_forbidAllButLefts_11 : decode cX0_forbidAllButLefts 11 = .ok (.if_icmp .ge 16, 3) := by decide +kernel
theorem dX0_forbidAllButLefts_14 : decode cX0_forbidAllButLefts 14 = .ok (.aload_n 0, 1) := by decide +kernel
theorem dX0_forbidAllButLefts_15 : decode cX0_forbidAllButLefts 15 = .ok (.iload_n 2, 1) := by decide +kernel
theorem dX0_forbidAllButLefts_16 : decode cX0_forbidAllButLefts 16 = .ok (.iconst 0, 1) := by decide +kernel
theorem dX0_forbidAllButLefts_17 : decode cX0_forbidAllButLefts 17 = .ok (.invokevirtual 57, 3) := by decide +kernel
theorem dX0_forbidAllButLefts_20 : decode cX0_forbidAllButLefts 20 = .ok (.pop, 1) := by decide +kernel
theorem dX0_forbidAllButLefts_21 : decode cX0_forbidAllButLefts 21 = .ok (.iinc 2 1, 3) := by decide +kernel
theorem dX0_forbidAllButLefts_24 : decode cX0_forbidAllButLefts 24 = .ok (.goto (-18), 3) := by decide +kernel
theorem dX0_forbidAllButLefts_27 : decode cX0_forbidAllButLefts 27 = .ok (.iconst 0, 1) := by decide +kernel
theorem dX0_forbidAllButLefts_28 : decode cX0_forbidAllButLefts 28 = .ok (.istore_n 2, 1) := by decide +kernel
theorem dX0_forbidAllButLefts_29 : decode cX0_forbidAllButLefts 29 = .ok (.iload_n 2, 1) := by decide +kernel
theorem dX0_forbidAllButLefts_30 : decode cX0_forbidAllButLefts 30 = .ok (.aload_n 1, 1) := by decide +kernel
theorem dX0_forbidAllButLefts_31 : decode cX0_forbidAllButLefts 31 = .ok (.getfield 54, 3) := by decide +kernel
theorem dX0_forbidAllButLefts_34 : decode cX0_forbidAllButLefts 34 = .ok (.if_icmp .ge 41, 3) := by decide +kernel
theorem dX0_forbidAllButLefts_37 : decode cX0_forbidAllButLefts 37 = .ok (.iconst 0, 1) := by decide +kernel
theorem dX0_forbidAllButLefts_38 : decode cX0_forbidAllButLefts 38 = .ok (.istore_n 3, 1) := by decide +kernel
theorem dX0_forbidAllButLefts_39 : decode cX0_forbidAllButLefts 39 = .ok (.iload_n 3, 1) := by decide +kernel
theorem dX0_forbidAllButLefts_40 : decode cX0_forbidAllButLefts 40 = .ok (.aload_n 1, 1) := by decide +kernel
theorem dX0_forbidAllButLefts_41 : decode cX0_forbidAllButLefts 41 = .ok (.getfield 54, 3) := by decide +kernel
theorem dX0_forbidAllButLefts_44 : decode cX0_forbidAllButLefts 44 = .ok (.if_icmp .ge 25, 3) := by decide +kernel
theorem dX0_forbidAllButLefts_47 : decode cX0_forbidAllButLefts 47 = .ok (.aload_n 0, 1) := by decide +kernel
theorem dX0_forbidAllButLefts_48 : decode cX0_forbidAllButLefts 48 = .ok (.aload_n 1, 1) := by decide +kernel
theorem dX0_forbidAllButLefts_49 : decode cX0_forbidAllButLefts 49 = .ok (.iload_n 2, 1) := by decide +kernel
theorem dX0_forbidAllButLefts_50 : decode cX0_forbidAllButLefts 50 = .ok (.iconst 0, 1) := by decide +kernel
theorem dX0_forbidAllButLefts_51 : decode cX0_forbidAllButLefts 51 = .ok (.iload_n 3, 1) := by decide +kernel
theorem dX0_forbidAllButLefts_52 : decode cX0_forbidAllButLefts 52 = .ok (.invokevirtual 61, 3) := by decide +kernel
theorem dX0_forbidAllButLefts_55 : decode cX0_forbidAllButLefts 55 = .ok (.aload_n 0, 1) := by decide +kernel
theorem dX0_forbidAllButLefts_56 : decode cX0_forbidAllButLefts 56 = .ok (.aload_n 1, 1) := by decide +kernel
theorem dX0_forbidAllButLefts_57 : decode cX0_forbidAllButLefts 57 = .ok (.iload_n 2, 1) := by decide +kernel
theorem dX0_forbidAllButLefts_58 : decode cX0_forbidAllButLefts 58 = .ok (.iconst 1, 1) := by decide +kernel
theorem dX0_forbidAllButLefts_59 : decode cX0_forbidAllButLefts 59 = .ok (.iload_n 3, 1) := by decide +kernel
theorem dX0_forbidAllButLefts_60 : decode cX0_forbidAllButLefts 60 = .ok (.invokevirtual 61, 3) := by decide +kernel
theorem dX0_forbidAllButLefts_63 : decode cX0_forbidAllButLefts 63 = .ok (.iinc 3 1, 3) := by decide +kernel
theorem dX0_forbidAllButLefts_66 : decode cX0_forbidAllButLefts 66 = .ok (.goto (-27), 3) := by decide +kernel
theorem dX0_forbidAllButLefts_69 : decode cX0_forbidAllButLefts 69 = .ok (.iinc 2 1, 3) := by decide +kernel
theorem dX0_forbidAllButLefts_72 : decode cX0_forbidAllButLefts 72 = .ok (.goto (-43), 3) := by decide +kernel
theorem dX0_forbidAllButLefts_75 : decode cX0_forbidAllButLefts 75 = .ok (.return_, 1) := by decide +kernel
set_option maxRecDepth 20000 in
theorem ggX0_run_X0_startTallies : GoodIn wsX0_run wsX0_startTallies := goodIn_r _ [6, 7, 8, 9, 10, 11, 12, 13, 14, 15, 16, 17, 18, 19, 20, 21, 22, 23, 24, 25, 26, 27, 28, 29, 30, 31, 32, 33, 34, 35, 36, 37, 38, 74, 75, 76, 77, 78, 79, 80, 81, 82] (by decide +kernel) (by decide +kernel)
set_option maxRecDepth 20000 in
theorem gX0_run_X0_startTallies : GoodIn wsX0_run (wsV RX0 65 RX0 yX0_startTallies wsX0_startTallies) := goodIn_app (goodIn_of _ (by decide +kernel)) ggX0_run_X0_startTallies
set_option maxRecDepth 20000 in
theorem ggX0_run_X8_entriesOf : GoodIn wsX0_run wsX8_entriesOf := goodIn_r _ [43, 44, 45, 70, 71, 72, 73] (by decide +kernel) (by decide +kernel)
set_option maxRecDepth 20000 in
theorem gX0_run_X8_entriesOf : GoodIn wsX0_run (wsV RX0 68 RX8 yX8_entriesOf wsX8_entriesOf) := goodIn_app (goodIn_of _ (by decide +kernel)) ggX0_run_X8_entriesOf
set_option maxRecDepth 20000 in
theorem ggX0_run_X0_treesUnder : GoodIn wsX0_run wsX0_treesUnder := goodIn_r _ [49, 7, 50, 51, 52, 5, 53, 54, 55, 56, 57, 58, 59, 60, 61, 62, 63, 64, 65, 66, 67, 68, 69, 14, 15, 16, 11, 17, 13, 18, 19, 20, 21, 22, 23, 24, 25, 26, 27, 28, 29, 30, 31, 32, 33, 34, 35, 36, 37, 38, 74, 75, 76, 77, 78, 79, 80, 81, 82] (by decide +kernel) (by decide +kernel)
set_option maxRecDepth 20000 in
theorem gX0_run_X0_treesUnder : GoodIn wsX0_run (wsV RX0 72 RX0 yX0_treesUnder wsX0_treesUnder) := goodIn_app (goodIn_of _ (by decide +kernel)) ggX0_run_X0_treesUnder
theorem dX0_run_0 : decode cX0_run 0 = .ok (.aload_n 0, 1) := by decide +kernel
theorem dX0_run_1 : decode cX0_run 1 = .ok (.invokevirtual 65, 3) := by decide +kernel
theorem dX0_run_4 : decode cX0_run 4 = .ok (.aload_n 2, 1) := by decide +kernel
theorem dX0_run_5 : decode cX0_run 5 = .ok (.iconst 1, 1) := by decide +kernel
theorem dX0_run_6 : decode cX0_run 6 = .ok (.lconst 1, 1) := by decide +kernel
theorem dX0_run_7 : decode cX0_run 7 = .ok (.lastore, 1) := by decide +kernel
theorem dX0_run_8 : decode cX0_run 8 = .ok (.iconst 2, 1) := by decide +kernel
theorem dX0_run_9 : decode cX0_run 9 = .ok (.istore_n 3, 1) := by decide +kernel
theorem dX0_run_10 : decode cX0_run 10 = .ok (.iload_n 3, 1) := by decide +kernel
theorem dX0_run_11 : decode cX0_run 11 = .ok (.bipush 6, 2) := by decide +kernel
theorem dX0_run_13 : decode cX0_run 13 = .ok (.if_icmp .gt 50, 3) := by decide +kernel
theorem dX0_run_16 : decode cX0_run 16 = .ok (.aload_n 2, 1) := by decide +kernel
theorem dX0_run_17 : decode cX0_run 17 = .ok (.iload_n 3, 1) := by decide +kernel
theorem dX0_run_18 : decode cX0_run 18 = .ok (.lconst 0, 1) := by decide +kernel
theorem dX0_run_19 : decode cX0_run 19 = .ok (.lastore, 1) := by decide +kernel
theorem dX0_run_20 : decode cX0_run 20 = .ok (.iconst 0, 1) := by decide +kernel
theorem dX0_run_21 : decode cX0_run 21 = .ok (.istore 4, 2) := by decide +kernel
theorem dX0_run_23 : decode cX0_run 23 = .ok (.iload 4, 2) := by decide +kernel
theorem dX0_run_25 : decode cX0_run 25 = .ok (.aload_n 1, 1) := by decide +kernel
theorem dX0_run_26 : decode cX0_run 26 = .ok (.getfield 54, 3) := by decide +kernel
theorem dX0_run_29 : decode cX0_run 29 = .ok (.if_icmp .ge 28, 3) := by decide +kernel
theorem dX0_run_32 : decode cX0_run 32 = .ok (.aload_n 2, 1) := by decide +kernel
theorem dX0_run_33 : decode cX0_run 33 = .ok (.iload_n 3, 1) := by decide +kernel
theorem dX0_run_34 : decode cX0_run 34 = .ok (.dup2, 1) := by decide +kernel
theorem dX0_run_35 : decode cX0_run 35 = .ok (.laload, 1) := by decide +kernel
theorem dX0_run_36 : decode cX0_run 36 = .ok (.aload_n 0, 1) := by decide +kernel
theorem dX0_run_37 : decode cX0_run 37 = .ok (.iload 4, 2) := by decide +kernel
theorem dX0_run_39 : decode cX0_run 39 = .ok (.aload_n 1, 1) := by decide +kernel
theorem dX0_run_40 : decode cX0_run 40 = .ok (.iload 4, 2) := by decide +kernel
theorem dX0_run_42 : decode cX0_run 42 = .ok (.invokevirtual 68, 3) := by decide +kernel
theorem dX0_run_45 : decode cX0_run 45 = .ok (.iload_n 3, 1) := by decide +kernel
theorem dX0_run_46 : decode cX0_run 46 = .ok (.invokevirtual 72, 3) := by decide +kernel
theorem dX0_run_49 : decode cX0_run 49 = .ok (.ladd, 1) := by decide +kernel
theorem dX0_run_50 : decode cX0_run 50 = .ok (.lastore, 1) := by decide +kernel
theorem dX0_run_51 : decode cX0_run 51 = .ok (.iinc 4 1, 3) := by decide +kernel
theorem dX0_run_54 : decode cX0_run 54 = .ok (.goto (-31), 3) := by decide +kernel
theorem dX0_run_57 : decode cX0_run 57 = .ok (.iinc 3 1, 3) := by decide +kernel
theorem dX0_run_60 : decode cX0_run 60 = .ok (.goto (-50), 3) := by decide +kernel
theorem dX0_run_63 : decode cX0_run 63 = .ok (.return_, 1) := by decide +kernel
theorem dX0_clear_0 : decode cX0_clear 0 = .ok (.aload_n 0, 1) := by decide +kernel
theorem dX0_clear_1 : decode cX0_clear 1 = .ok (.iconst 0, 1) := by decide +kernel
theorem dX0_clear_2 : decode cX0_clear 2 = .ok (.putfield 76, 3) := by decide +kernel
theorem dX0_clear_5 : decode cX0_clear 5 = .ok (.aload_n 0, 1) := by decide +kernel
theorem dX0_clear_6 : decode cX0_clear 6 = .ok (.lconst 0, 1) := by decide +kernel
theorem dX0_clear_7 : decode cX0_clear 7 = .ok (.putfield 79, 3) := by decide +kernel
theorem dX0_clear_10 : decode cX0_clear 10 = .ok (.return_, 1) := by decide +kernel
theorem dX0_addNode_0 : decode cX0_addNode 0 = .ok (.aload_n 0, 1) := by decide +kernel
theorem dX0_addNode_1 : decode cX0_addNode 1 = .ok (.getfield 76, 3) := by decide +kernel
theorem dX0_addNode_4 : decode cX0_addNode 4 = .ok (.bipush 36, 2) := by decide +kernel
theorem dX0_addNode_6 : decode cX0_addNode 6 = .ok (.if_icmp .lt 5, 3) := by decide +kernel
theorem dX0_addNode_9 : decode cX0_addNode 9 = .ok (.iconst (-1), 1) := by decide +kernel
theorem dX0_addNode_10 : decode cX0_addNode 10 = .ok (.ireturn, 1) := by decide +kernel
theorem dX0_addNode_11 : decode cX0_addNode 11 = .ok (.aload_n 0, 1) := by decide +kernel
theorem dX0_addNode_12 : decode cX0_addNode 12 = .ok (.getfield 9, 3) := by decide +kernel
theorem dX0_addNode_15 : decode cX0_addNode 15 = .ok (.aload_n 0, 1) := by decide +kernel
theorem dX0_addNode_16 : decode cX0_addNode 16 = .ok (.getfield 76, 3) := by decide +kernel
theorem dX0_addNode_19 : decode cX0_addNode 19 = .ok (.iload_n 1, 1) := by decide +kernel
theorem dX0_addNode_20 : decode cX0_addNode 20 = .ok (.iastore, 1) := by decide +kernel
theorem dX0_addNode_21 : decode cX0_addNode 21 = .ok (.iconst 0, 1) := by decide +kernel
theorem dX0_addNode_22 : decode cX0_addNode 22 = .ok (.istore_n 3, 1) := by decide +kernel
theorem dX0_addNode_23 : decode cX0_addNode 23 = .ok (.iload_n 3, 1) := by decide +kernel
theorem dX0_addNode_24 : decode cX0_addNode 24 = .ok (.iconst 3, 1) := by decide +kernel
theorem dX0_addNode_25 : decode cX0_addNode 25 = .ok (.if_icmp .ge 21, 3) := by decide +kernel
theorem dX0_addNode_28 : decode cX0_addNode 28 = .ok (.aload_n 0, 1) := by decide +kernel
theorem dX0_addNode_29 : decode cX0_addNode 29 = .ok (.getfield 17, 3) := by decide +kernel
theorem dX0_addNode_32 : decode cX0_addNode 32 = .ok (.iload_n 3, 1) := by decide +kernel
theorem dX0_addNode_33 : decode cX0_addNode 33 = .ok (.aaload, 1) := by decide +kernel
theorem dX0_addNode_34 : decode cX0_addNode 34 = .ok (.aload_n 0, 1) := by decide +kernel
theorem dX0_addNode_35 : decode cX0_addNode 35 = .ok (.getfield 76, 3) := by decide +kernel
theorem dX0_addNode_38 : decode cX0_addNode 38 = .ok (.lconst 0, 1) := by decide +kernel
theorem dX0_addNode_39 : decode cX0_addNode 39 = .ok (.lastore, 1) := by decide +kernel
theorem dX0_addNode_40 : decode cX0_addNode 40 = .ok (.iinc 3 1, 3) := by decide +kernel
theorem dX0_addNode_43 : decode cX0_addNode 43 = .ok (.goto (-20), 3) := by decide +kernel
theorem dX0_addNode_46 : decode cX0_addNode 46 = .ok (.iload_n 2, 1) := by decide +kernel
theorem dX0_addNode_47 : decode cX0_addNode 47 = .ok (.ifCond .eq 18, 3) := by decide +kernel
theorem dX0_addNode_50 : decode cX0_addNode 50 = .ok (.aload_n 0, 1) := by decide +kernel
theorem dX0_addNode_51 : decode cX0_addNode 51 = .ok (.dup, 1) := by decide +kernel
theorem dX0_addNode_52 : decode cX0_addNode 52 = .ok (.getfield 79, 3) := by decide +kernel
theorem dX0_addNode_55 : decode cX0_addNode 55 = .ok (.lconst 1, 1) := by decide +kernel
theorem dX0_addNode_56 : decode cX0_addNode 56 = .ok (.aload_n 0, 1) := by decide +kernel
theorem dX0_addNode_57 : decode cX0_addNode 57 = .ok (.getfield 76, 3) := by decide +kernel
theorem dX0_addNode_60 : decode cX0_addNode 60 = .ok (.lshl, 1) := by decide +kernel
theorem dX0_addNode_61 : decode cX0_addNode 61 = .ok (.lor, 1) := by decide +kernel
theorem dX0_addNode_62 : decode cX0_addNode 62 = .ok (.putfield 79, 3) := by decide +kernel
theorem dX0_addNode_65 : decode cX0_addNode 65 = .ok (.aload_n 0, 1) := by decide +kernel
theorem dX0_addNode_66 : decode cX0_addNode 66 = .ok (.dup, 1) := by decide +kernel
theorem dX0_addNode_67 : decode cX0_addNode 67 = .ok (.getfield 76, 3) := by decide +kernel
theorem dX0_addNode_70 : decode cX0_addNode 70 = .ok (.iconst 1, 1) := by decide +kernel
theorem dX0_addNode_71 : decode cX0_addNode 71 = .ok (.iadd, 1) := by decide +kernel
theorem dX0_addNode_72 : decode cX0_addNode 72 = .ok (.putfield 76, 3) := by decide +kernel
theorem dX0_addNode_75 : decode cX0_addNode 75 = .ok (.aload_n 0, 1) := by decide +kernel
theorem dX0_addNode_76 : decode cX0_addNode 76 = .ok (.getfield 76, 3) := by decide +kernel
theorem dX0_addNode_79 : decode cX0_addNode 79 = .ok (.iconst 1, 1) := by decide +kernel
theorem dX0_addNode_80 : decode cX0_addNode 80 = .ok (.isub, 1) := by decide +kernel
theorem dX0_addNode_81 : decode cX0_addNode 81 = .ok (.ireturn, 1) := by decide +kernel
set_option maxRecDepth 20000 in
theorem ggX0_forbid_X0_addNode : GoodIn wsX0_forbid wsX0_addNode := goodIn_r _ [8, 9, 10, 11, 12, 40, 41, 42, 43, 44, 45] (by decide +kernel) (by decide +kernel)
set_option maxRecDepth 20000 in
theorem gX0_forbid_X0_addNode : GoodIn wsX0_forbid (wsV RX0 57 RX0 yX0_addNode wsX0_addNode) := goodIn_app (goodIn_of _ (by decide +kernel)) ggX0_forbid_X0_addNode
set_option maxRecDepth 20000 in
theorem ggX0_forbid_X0_linkEntries : GoodIn wsX0_forbid wsX0_linkEntries := goodIn_r _ [16, 3, 17, 18, 19, 20, 1, 11, 2, 21, 22, 23, 24, 25, 26, 27, 28, 29, 30, 31, 32, 33, 34, 35, 36, 37, 38, 39, 40, 41, 42, 43, 44, 45, 46, 47, 48, 49] (by decide +kernel) (by decide +kernel)
set_option maxRecDepth 20000 in
theorem gX0_forbid_X0_linkEntries : GoodIn wsX0_forbid (wsV RX0 91 RX0 yX0_linkEntries wsX0_linkEntries) := goodIn_app (goodIn_of _ (by decide +kernel)) ggX0_forbid_X0_linkEntries
theorem dX0_forbid_0 : decode cX0_forbid 0 = .ok (.aload_n 2, 1) := by decide +kernel
theorem dX0_forbid_1 : decode cX0_forbid 1 = .ok (.getfield 83, 3) := by decide +kernel
theorem dX0_forbid_4 : decode cX0_forbid 4 = .ok (.iconst 1, 1) := by decide +kernel
theorem dX0_forbid_5 : decode cX0_forbid 5 = .ok (.isub, 1) := by decide +kernel
theorem dX0_forbid_6 : decode cX0_forbid 6 = .ok (.istore_n 3, 1) := by decide +kernel
theorem dX0_forbid_7 : decode cX0_forbid 7 = .ok (.iload_n 3, 1) := by decide +kernel
theorem dX0_forbid_8 : decode cX0_forbid 8 = .ok (.ifCond .lt 76, 3) := by decide +kernel
theorem dX0_forbid_11 : decode cX0_forbid 11 = .ok (.aload_n 0, 1) := by decide +kernel
theorem dX0_forbid_12 : decode cX0_forbid 12 = .ok (.getfield 20, 3) := by decide +kernel
theorem dX0_forbid_15 : decode cX0_forbid 15 = .ok (.iload_n 3, 1) := by decide +kernel
theorem dX0_forbid_16 : decode cX0_forbid 16 = .ok (.lconst 0, 1) := by decide +kernel
theorem dX0_forbid_17 : decode cX0_forbid 17 = .ok (.lastore, 1) := by decide +kernel
theorem dX0_forbid_18 : decode cX0_forbid 18 = .ok (.aload_n 2, 1) := by decide +kernel
theorem dX0_forbid_19 : decode cX0_forbid 19 = .ok (.getfield 88, 3) := by decide +kernel
theorem dX0_forbid_22 : decode cX0_forbid 22 = .ok (.iload_n 3, 1) := by decide +kernel
theorem dX0_forbid_23 : decode cX0_forbid 23 = .ok (.iaload, 1) := by decide +kernel
theorem dX0_forbid_24 : decode cX0_forbid 24 = .ok (.istore 4, 2) := by decide +kernel
theorem dX0_forbid_26 : decode cX0_forbid 26 = .ok (.iload 4, 2) := by decide +kernel
theorem dX0_forbid_28 : decode cX0_forbid 28 = .ok (.iconst (-1), 1) := by decide +kernel
theorem dX0_forbid_29 : decode cX0_forbid 29 = .ok (.if_icmp .ne 7, 3) := by decide +kernel
theorem dX0_forbid_32 : decode cX0_forbid 32 = .ok (.iconst (-1), 1) := by decide +kernel
theorem dX0_forbid_33 : decode cX0_forbid 33 = .ok (.goto 18, 3) := by decide +kernel
theorem dX0_forbid_36 : decode cX0_forbid 36 = .ok (.aload_n 0, 1) := by decide +kernel
theorem dX0_forbid_37 : decode cX0_forbid 37 = .ok (.iload 4, 2) := by decide +kernel
theorem dX0_forbid_39 : decode cX0_forbid 39 = .ok (.iload_n 3, 1) := by decide +kernel
theorem dX0_forbid_40 : decode cX0_forbid 40 = .ok (.ifCond .ne 7, 3) := by decide +kernel
theorem dX0_forbid_43 : decode cX0_forbid 43 = .ok (.iconst 1, 1) := by decide +kernel
theorem dX0_forbid_44 : decode cX0_forbid 44 = .ok (.goto 4, 3) := by decide +kernel
theorem dX0_forbid_47 : decode cX0_forbid 47 = .ok (.iconst 0, 1) := by decide +kernel
theorem dX0_forbid_48 : decode cX0_forbid 48 = .ok (.invokevirtual 57, 3) := by decide +kernel
theorem dX0_forbid_51 : decode cX0_forbid 51 = .ok (.istore 5, 2) := by decide +kernel
theorem dX0_forbid_53 : decode cX0_forbid 53 = .ok (.iload 5, 2) := by decide +kernel
theorem dX0_forbid_55 : decode cX0_forbid 55 = .ok (.iconst (-1), 1) := by decide +kernel
theorem dX0_forbid_56 : decode cX0_forbid 56 = .ok (.if_icmp .eq 22, 3) := by decide +kernel
theorem dX0_forbid_59 : decode cX0_forbid 59 = .ok (.aload_n 0, 1) := by decide +kernel
theorem dX0_forbid_60 : decode cX0_forbid 60 = .ok (.getfield 20, 3) := by decide +kernel
theorem dX0_forbid_63 : decode cX0_forbid 63 = .ok (.iload_n 3, 1) := by decide +kernel
theorem dX0_forbid_64 : decode cX0_forbid 64 = .ok (.lconst 1, 1) := by decide +kernel
theorem dX0_forbid_65 : decode cX0_forbid 65 = .ok (.iload 5, 2) := by decide +kernel
theorem dX0_forbid_67 : decode cX0_forbid 67 = .ok (.lshl, 1) := by decide +kernel
theorem dX0_forbid_68 : decode cX0_forbid 68 = .ok (.lastore, 1) := by decide +kernel
theorem dX0_forbid_69 : decode cX0_forbid 69 = .ok (.aload_n 0, 1) := by decide +kernel
theorem dX0_forbid_70 : decode cX0_forbid 70 = .ok (.aload_n 1, 1) := by decide +kernel
theorem dX0_forbid_71 : decode cX0_forbid 71 = .ok (.aload_n 2, 1) := by decide +kernel
theorem dX0_forbid_72 : decode cX0_forbid 72 = .ok (.iload_n 3, 1) := by decide +kernel
theorem dX0_forbid_73 : decode cX0_forbid 73 = .ok (.iload 5, 2) := by decide +kernel
theorem dX0_forbid_75 : decode cX0_forbid 75 = .ok (.invokevirtual 91, 3) := by decide +kernel
theorem dX0_forbid_78 : decode cX0_forbid 78 = .ok (.iinc 3 (-1), 3) := by decide +kernel
theorem dX0_forbid_81 : decode cX0_forbid 81 = .ok (.goto (-74), 3) := by decide +kernel
theorem dX0_forbid_84 : decode cX0_forbid 84 = .ok (.return_, 1) := by decide +kernel
set_option maxRecDepth 20000 in
theorem ggX0_linkEntries_X8_entriesOf : GoodIn wsX0_linkEntries wsX8_entriesOf := goodIn_r _ [13, 14, 15, 34, 35, 36, 37] (by decide +kernel) (by decide +kernel)
set_option maxRecDepth 20000 in
theorem gX0_linkEntries_X8_entriesOf : GoodIn wsX0_linkEntries (wsV RX0 68 RX8 yX8_entriesOf wsX8_entriesOf) := goodIn_app (goodIn_of _ (by decide +kernel)) ggX0_linkEntries_X8_entriesOf
set_option maxRecDepth 20000 in
theorem ggX0_linkEntries_X8_endOf : GoodIn wsX0_linkEntries wsX8_endOf := goodIn_r _ [19, 20, 21, 4, 22, 23, 24, 25, 10, 11, 12, 13, 14, 15, 26, 27, 34, 35, 36, 37] (by decide +kernel) (by decide +kernel)
set_option maxRecDepth 20000 in
theorem gX0_linkEntries_X8_endOf : GoodIn wsX0_linkEntries (wsV RX0 101 RX8 yX8_endOf wsX8_endOf) := goodIn_app (goodIn_of _ (by decide +kernel)) ggX0_linkEntries_X8_endOf
theorem dX0_linkEntries_0 : decode cX0_linkEntries 0 = .ok (.iload_n 3, 1) := by decide +kernel
theorem dX0_linkEntries_1 : decode cX0_linkEntries 1 = .ok (.iconst 1, 1) := by decide +kernel
theorem dX0_linkEntries_2 : decode cX0_linkEntries 2 = .ok (.iadd, 1) := by decide +kernel
theorem dX0_linkEntries_3 : decode cX0_linkEntries 3 = .ok (.istore 5, 2) := by decide +kernel
theorem dX0_linkEntries_5 : decode cX0_linkEntries 5 = .ok (.aload_n 1, 1) := by decide +kernel
theorem dX0_linkEntries_6 : decode cX0_linkEntries 6 = .ok (.aload_n 2, 1) := by decide +kernel
theorem dX0_linkEntries_7 : decode cX0_linkEntries 7 = .ok (.getfield 88, 3) := by decide +kernel
theorem dX0_linkEntries_10 : decode cX0_linkEntries 10 = .ok (.iload_n 3, 1) := by decide +kernel
theorem dX0_linkEntries_11 : decode cX0_linkEntries 11 = .ok (.iaload, 1) := by decide +kernel
theorem dX0_linkEntries_12 : decode cX0_linkEntries 12 = .ok (.invokevirtual 68, 3) := by decide +kernel
theorem dX0_linkEntries_15 : decode cX0_linkEntries 15 = .ok (.iconst 3, 1) := by decide +kernel
theorem dX0_linkEntries_16 : decode cX0_linkEntries 16 = .ok (.invokestatic 95, 3) := by decide +kernel
theorem dX0_linkEntries_19 : decode cX0_linkEntries 19 = .ok (.istore 6, 2) := by decide +kernel
theorem dX0_linkEntries_21 : decode cX0_linkEntries 21 = .ok (.iconst 0, 1) := by decide +kernel
theorem dX0_linkEntries_22 : decode cX0_linkEntries 22 = .ok (.istore 7, 2) := by decide +kernel
theorem dX0_linkEntries_24 : decode cX0_linkEntries 24 = .ok (.iload 7, 2) := by decide +kernel
theorem dX0_linkEntries_26 : decode cX0_linkEntries 26 = .ok (.iload 6, 2) := by decide +kernel
theorem dX0_linkEntries_28 : decode cX0_linkEntries 28 = .ok (.if_icmp .ge 44, 3) := by decide +kernel
theorem dX0_linkEntries_31 : decode cX0_linkEntries 31 = .ok (.iload 5, 2) := by decide +kernel
theorem dX0_linkEntries_33 : decode cX0_linkEntries 33 = .ok (.aload_n 2, 1) := by decide +kernel
theorem dX0_linkEntries_34 : decode cX0_linkEntries 34 = .ok (.getfield 83, 3) := by decide +kernel
theorem dX0_linkEntries_37 : decode cX0_linkEntries 37 = .ok (.if_icmp .ge 35, 3) := by decide +kernel
theorem dX0_linkEntries_40 : decode cX0_linkEntries 40 = .ok (.aload_n 0, 1) := by decide +kernel
theorem dX0_linkEntries_41 : decode cX0_linkEntries 41 = .ok (.getfield 17, 3) := by decide +kernel
theorem dX0_linkEntries_44 : decode cX0_linkEntries 44 = .ok (.iload 7, 2) := by decide +kernel
theorem dX0_linkEntries_46 : decode cX0_linkEntries 46 = .ok (.aaload, 1) := by decide +kernel
theorem dX0_linkEntries_47 : decode cX0_linkEntries 47 = .ok (.iload 4, 2) := by decide +kernel
theorem dX0_linkEntries_49 : decode cX0_linkEntries 49 = .ok (.aload_n 0, 1) := by decide +kernel
theorem dX0_linkEntries_50 : decode cX0_linkEntries 50 = .ok (.getfield 20, 3) := by decide +kernel
theorem dX0_linkEntries_53 : decode cX0_linkEntries 53 = .ok (.iload 5, 2) := by decide +kernel
theorem dX0_linkEntries_55 : decode cX0_linkEntries 55 = .ok (.laload, 1) := by decide +kernel
theorem dX0_linkEntries_56 : decode cX0_linkEntries 56 = .ok (.lastore, 1) := by decide +kernel
theorem dX0_linkEntries_57 : decode cX0_linkEntries 57 = .ok (.aload_n 1, 1) := by decide +kernel
theorem dX0_linkEntries_58 : decode cX0_linkEntries 58 = .ok (.aload_n 2, 1) := by decide +kernel
theorem dX0_linkEntries_59 : decode cX0_linkEntries 59 = .ok (.iload 5, 2) := by decide +kernel
theorem dX0_linkEntries_61 : decode cX0_linkEntries 61 = .ok (.invokevirtual 101, 3) := by decide +kernel
theorem dX0_linkEntries_64 : decode cX0_linkEntries 64 = .ok (.istore 5, 2) := by decide +kernel
theorem dX0_linkEntries_66 : decode cX0_linkEntries 66 = .ok (.iinc 7 1, 3) := by decide +kernel
theorem dX0_linkEntries_69 : decode cX0_linkEntries 69 = .ok (.goto (-45), 3) := by decide +kernel
theorem dX0_linkEntries_72 : decode cX0_linkEntries 72 = .ok (.return_, 1) := by decide +kernel
set_option maxRecDepth 20000 in
theorem ggX0_forbidUnlessLeft_X8_hasLeft : GoodIn wsX0_forbidUnlessLeft wsX8_hasLeft := goodIn_r _ [6, 7, 8, 9, 10, 25, 26, 27, 28, 29, 30, 31, 32, 33] (by decide +kernel) (by decide +kernel)
set_option maxRecDepth 20000 in
theorem gX0_forbidUnlessLeft_X8_hasLeft : GoodIn wsX0_forbidUnlessLeft (wsV RX0 105 RX8 yX8_hasLeft wsX8_hasLeft) := goodIn_app (goodIn_of _ (by decide +kernel)) ggX0_forbidUnlessLeft_X8_hasLeft
set_option maxRecDepth 20000 in
theorem ggX0_forbidUnlessLeft_X0_addNode : GoodIn wsX0_forbidUnlessLeft wsX0_addNode := goodIn_r _ [15, 16, 17, 1, 18, 19, 20, 21, 22, 23, 24] (by decide +kernel) (by decide +kernel)
set_option maxRecDepth 20000 in
theorem gX0_forbidUnlessLeft_X0_addNode : GoodIn wsX0_forbidUnlessLeft (wsV RX0 57 RX0 yX0_addNode wsX0_addNode) := goodIn_app (goodIn_of _ (by decide +kernel)) ggX0_forbidUnlessLeft_X0_addNode
theorem dX0_forbidUnlessLeft_0 : decode cX0_forbidUnlessLeft 0 = .ok (.aload_n 1, 1) := by decide +kernel
theorem dX0_forbidUnlessLeft_1 : decode cX0_forbidUnlessLeft 1 = .ok (.iload_n 2, 1) := by decide +kernel
theorem dX0_forbidUnlessLeft_2 : decode cX0_forbidUnlessLeft 2 = .ok (.iload_n 3, 1) := by decide +kernel
theorem dX0_forbidUnlessLeft_3 : decode cX0_forbidUnlessLeft 3 = .ok (.iload 4, 2) := by decide +kernel
theorem dX0_forbidUnlessLeft_5 : decode cX0_forbidUnlessLeft 5 = .ok (.invokevirtual 105, 3) := by decide +kernel
theorem dX0_forbidUnlessLeft_8 : decode cX0_forbidUnlessLeft 8 = .ok (.ifCond .eq 4, 3) := by decide +kernel
theorem dX0_forbidUnlessLeft_11 : decode cX0_forbidUnlessLeft 11 = .ok (.return_, 1) := by decide +kernel
theorem dX0_forbidUnlessLeft_12 : decode cX0_forbidUnlessLeft 12 = .ok (.aload_n 0, 1) := by decide +kernel
theorem dX0_forbidUnlessLeft_13 : decode cX0_forbidUnlessLeft 13 = .ok (.iload_n 2, 1) := by decide +kernel
theorem dX0_forbidUnlessLeft_14 : decode cX0_forbidUnlessLeft 14 = .ok (.iconst 1, 1) := by decide +kernel
theorem dX0_forbidUnlessLeft_15 : decode cX0_forbidUnlessLeft 15 = .ok (.invokevirtual 57, 3) := by decide +kernel
theorem dX0_forbidUnlessLeft_18 : decode cX0_forbidUnlessLeft 18 = .ok (.istore 5, 2) := by decide +kernel
theorem dX0_forbidUnlessLeft_20 : decode cX0_forbidUnlessLeft 20 = .ok (.iload 5, 2) := by decide +kernel
theorem dX0_forbidUnlessLeft_22 : decode cX0_forbidUnlessLeft 22 = .ok (.iconst (-1), 1) := by decide +kernel
theorem dX0_forbidUnlessLeft_23 : decode cX0_forbidUnlessLeft 23 = .ok (.if_icmp .eq 16, 3) := by decide +kernel
theorem dX0_forbidUnlessLeft_26 : decode cX0_forbidUnlessLeft 26 = .ok (.aload_n 0, 1) := by decide +kernel
theorem dX0_forbidUnlessLeft_27 : decode cX0_forbidUnlessLeft 27 = .ok (.getfield 17, 3) := by decide +kernel
theorem dX0_forbidUnlessLeft_30 : decode cX0_forbidUnlessLeft 30 = .ok (.iload_n 3, 1) := by decide +kernel
theorem dX0_forbidUnlessLeft_31 : decode cX0_forbidUnlessLeft 31 = .ok (.aaload, 1) := by decide +kernel
theorem dX0_forbidUnlessLeft_32 : decode cX0_forbidUnlessLeft 32 = .ok (.iload 5, 2) := by decide +kernel
theorem dX0_forbidUnlessLeft_34 : decode cX0_forbidUnlessLeft 34 = .ok (.lconst 1, 1) := by decide +kernel
theorem dX0_forbidUnlessLeft_35 : decode cX0_forbidUnlessLeft 35 = .ok (.iload 4, 2) := by decide +kernel
theorem dX0_forbidUnlessLeft_37 : decode cX0_forbidUnlessLeft 37 = .ok (.lshl, 1) := by decide +kernel
theorem dX0_forbidUnlessLeft_38 : decode cX0_forbidUnlessLeft 38 = .ok (.lastore, 1) := by decide +kernel
theorem dX0_forbidUnlessLeft_39 : decode cX0_forbidUnlessLeft 39 = .ok (.return_, 1) := by decide +kernel
set_option maxRecDepth 20000 in
theorem ggX0_startTallies_X7_clear : GoodIn wsX0_startTallies wsX7_clear := goodIn_r _ [6, 7, 39, 40, 41] (by decide +kernel) (by decide +kernel)
set_option maxRecDepth 20000 in
theorem gX0_startTallies_X7_clear : GoodIn wsX0_startTallies (wsV RX0 109 RX7 yX7_clear wsX7_clear) := goodIn_app (goodIn_of _ (by decide +kernel)) ggX0_startTallies_X7_clear
set_option maxRecDepth 20000 in
theorem ggX0_startTallies_X7_add : GoodIn wsX0_startTallies wsX7_add := goodIn_r _ [11, 7, 12, 13, 14, 15, 16, 17, 18, 19, 20, 21, 22, 23, 24, 25, 26, 27, 28, 29, 30, 31, 32, 39, 40, 41] (by decide +kernel) (by decide +kernel)
set_option maxRecDepth 20000 in
theorem gX0_startTallies_X7_add : GoodIn wsX0_startTallies (wsV RX0 110 RX7 yX7_add wsX7_add) := goodIn_app (goodIn_of _ (by decide +kernel)) ggX0_startTallies_X7_add
theorem dX0_startTallies_0 : decode cX0_startTallies 0 = .ok (.iconst 0, 1) := by decide +kernel
theorem dX0_startTallies_1 : decode cX0_startTallies 1 = .ok (.istore_n 1, 1) := by decide +kernel
theorem dX0_startTallies_2 : decode cX0_startTallies 2 = .ok (.iload_n 1, 1) := by decide +kernel
theorem dX0_startTallies_3 : decode cX0_startTallies 3 = .ok (.bipush 6, 2) := by decide +kernel
theorem dX0_startTallies_5 : decode cX0_startTallies 5 = .ok (.if_icmp .ge 18, 3) := by decide +kernel
theorem dX0_startTallies_8 : decode cX0_startTallies 8 = .ok (.aload_n 0, 1) := by decide +kernel
theorem dX0_startTallies_9 : decode cX0_startTallies 9 = .ok (.getfield 26, 3) := by decide +kernel
theorem dX0_startTallies_12 : decode cX0_startTallies 12 = .ok (.iload_n 1, 1) := by decide +kernel
theorem dX0_startTallies_13 : decode cX0_startTallies 13 = .ok (.aaload, 1) := by decide +kernel
theorem dX0_startTallies_14 : decode cX0_startTallies 14 = .ok (.invokevirtual 109, 3) := by decide +kernel
theorem dX0_startTallies_17 : decode cX0_startTallies 17 = .ok (.iinc 1 1, 3) := by decide +kernel
theorem dX0_startTallies_20 : decode cX0_startTallies 20 = .ok (.goto (-18), 3) := by decide +kernel
theorem dX0_startTallies_23 : decode cX0_startTallies 23 = .ok (.aload_n 0, 1) := by decide +kernel
theorem dX0_startTallies_24 : decode cX0_startTallies 24 = .ok (.getfield 26, 3) := by decide +kernel
theorem dX0_startTallies_27 : decode cX0_startTallies 27 = .ok (.iconst 0, 1) := by decide +kernel
theorem dX0_startTallies_28 : decode cX0_startTallies 28 = .ok (.aaload, 1) := by decide +kernel
theorem dX0_startTallies_29 : decode cX0_startTallies 29 = .ok (.lconst 0, 1) := by decide +kernel
theorem dX0_startTallies_30 : decode cX0_startTallies 30 = .ok (.lconst 1, 1) := by decide +kernel
theorem dX0_startTallies_31 : decode cX0_startTallies 31 = .ok (.invokevirtual 110, 3) := by decide +kernel
theorem dX0_startTallies_34 : decode cX0_startTallies 34 = .ok (.aload_n 0, 1) := by decide +kernel
theorem dX0_startTallies_35 : decode cX0_startTallies 35 = .ok (.getfield 26, 3) := by decide +kernel
theorem dX0_startTallies_38 : decode cX0_startTallies 38 = .ok (.iconst 1, 1) := by decide +kernel
theorem dX0_startTallies_39 : decode cX0_startTallies 39 = .ok (.aaload, 1) := by decide +kernel
theorem dX0_startTallies_40 : decode cX0_startTallies 40 = .ok (.lconst 0, 1) := by decide +kernel
theorem dX0_startTallies_41 : decode cX0_startTallies 41 = .ok (.lconst 1, 1) := by decide +kernel
theorem dX0_startTallies_42 : decode cX0_startTallies 42 = .ok (.invokevirtual 110, 3) := by decide +kernel
theorem dX0_startTallies_45 : decode cX0_startTallies 45 = .ok (.return_, 1) := by decide +kernel
set_option maxRecDepth 20000 in
theorem ggX0_treesUnder_X0_join : GoodIn wsX0_treesUnder wsX0_join := goodIn_r _ [6, 7, 8, 9, 10, 11, 12, 13, 5, 14, 15, 16, 17, 18, 19, 20, 21, 22, 1, 23, 24, 25, 26, 27, 28, 29, 30, 31, 32, 33, 34, 35, 36, 37, 38, 39, 40, 41, 42, 43, 44, 45, 46, 47, 48, 49, 56, 57, 58, 50, 51, 52, 53, 54, 55] (by decide +kernel) (by decide +kernel)
set_option maxRecDepth 20000 in
theorem gX0_treesUnder_X0_join : GoodIn wsX0_treesUnder (wsV RX0 114 RX0 yX0_join wsX0_join) := goodIn_app (goodIn_of _ (by decide +kernel)) ggX0_treesUnder_X0_join
theorem dX0_treesUnder_0 : decode cX0_treesUnder 0 = .ok (.lconst 0, 1) := by decide +kernel
theorem dX0_treesUnder_1 : decode cX0_treesUnder 1 = .ok (.lstore 4, 2) := by decide +kernel
theorem dX0_treesUnder_3 : decode cX0_treesUnder 3 = .ok (.iconst 1, 1) := by decide +kernel
theorem dX0_treesUnder_4 : decode cX0_treesUnder 4 = .ok (.istore 6, 2) := by decide +kernel
theorem dX0_treesUnder_6 : decode cX0_treesUnder 6 = .ok (.iload 6, 2) := by decide +kernel
theorem dX0_treesUnder_8 : decode cX0_treesUnder 8 = .ok (.iload_n 3, 1) := by decide +kernel
theorem dX0_treesUnder_9 : decode cX0_treesUnder 9 = .ok (.if_icmp .ge 91, 3) := by decide +kernel
theorem dX0_treesUnder_12 : decode cX0_treesUnder 12 = .ok (.iconst 1, 1) := by decide +kernel
theorem dX0_treesUnder_13 : decode cX0_treesUnder 13 = .ok (.istore 7, 2) := by decide +kernel
theorem dX0_treesUnder_15 : decode cX0_treesUnder 15 = .ok (.iload 7, 2) := by decide +kernel
theorem dX0_treesUnder_17 : decode cX0_treesUnder 17 = .ok (.iload_n 3, 1) := by decide +kernel
theorem dX0_treesUnder_18 : decode cX0_treesUnder 18 = .ok (.iload 6, 2) := by decide +kernel
theorem dX0_treesUnder_20 : decode cX0_treesUnder 20 = .ok (.isub, 1) := by decide +kernel
theorem dX0_treesUnder_21 : decode cX0_treesUnder 21 = .ok (.if_icmp .gt 73, 3) := by decide +kernel
theorem dX0_treesUnder_24 : decode cX0_treesUnder 24 = .ok (.iload_n 3, 1) := by decide +kernel
theorem dX0_treesUnder_25 : decode cX0_treesUnder 25 = .ok (.iload 6, 2) := by decide +kernel
theorem dX0_treesUnder_27 : decode cX0_treesUnder 27 = .ok (.isub, 1) := by decide +kernel
theorem dX0_treesUnder_28 : decode cX0_treesUnder 28 = .ok (.iload 7, 2) := by decide +kernel
theorem dX0_treesUnder_30 : decode cX0_treesUnder 30 = .ok (.isub, 1) := by decide +kernel
theorem dX0_treesUnder_31 : decode cX0_treesUnder 31 = .ok (.istore 8, 2) := by decide +kernel
theorem dX0_treesUnder_33 : decode cX0_treesUnder 33 = .ok (.iload 8, 2) := by decide +kernel
theorem dX0_treesUnder_35 : decode cX0_treesUnder 35 = .ok (.ifCond .le 7, 3) := by decide +kernel
theorem dX0_treesUnder_38 : decode cX0_treesUnder 38 = .ok (.iconst 1, 1) := by decide +kernel
theorem dX0_treesUnder_39 : decode cX0_treesUnder 39 = .ok (.goto 4, 3) := by decide +kernel
theorem dX0_treesUnder_42 : decode cX0_treesUnder 42 = .ok (.iconst 0, 1) := by decide +kernel
theorem dX0_treesUnder_43 : decode cX0_treesUnder 43 = .ok (.iload_n 2, 1) := by decide +kernel
theorem dX0_treesUnder_44 : decode cX0_treesUnder 44 = .ok (.iconst 2, 1) := by decide +kernel
theorem dX0_treesUnder_45 : decode cX0_treesUnder 45 = .ok (.if_icmp .le 7, 3) := by decide +kernel
theorem dX0_treesUnder_48 : decode cX0_treesUnder 48 = .ok (.iconst 1, 1) := by decide +kernel
theorem dX0_treesUnder_49 : decode cX0_treesUnder 49 = .ok (.goto 4, 3) := by decide +kernel
theorem dX0_treesUnder_52 : decode cX0_treesUnder 52 = .ok (.iconst 0, 1) := by decide +kernel
theorem dX0_treesUnder_53 : decode cX0_treesUnder 53 = .ok (.if_icmp .ne 35, 3) := by decide +kernel
theorem dX0_treesUnder_56 : decode cX0_treesUnder 56 = .ok (.lload 4, 2) := by decide +kernel
theorem dX0_treesUnder_58 : decode cX0_treesUnder 58 = .ok (.aload_n 0, 1) := by decide +kernel
theorem dX0_treesUnder_59 : decode cX0_treesUnder 59 = .ok (.iload_n 1, 1) := by decide +kernel
theorem dX0_treesUnder_60 : decode cX0_treesUnder 60 = .ok (.iload_n 3, 1) := by decide +kernel
theorem dX0_treesUnder_61 : decode cX0_treesUnder 61 = .ok (.aload_n 0, 1) := by decide +kernel
theorem dX0_treesUnder_62 : decode cX0_treesUnder 62 = .ok (.getfield 26, 3) := by decide +kernel
theorem dX0_treesUnder_65 : decode cX0_treesUnder 65 = .ok (.iload 6, 2) := by decide +kernel
theorem dX0_treesUnder_67 : decode cX0_treesUnder 67 = .ok (.aaload, 1) := by decide +kernel
theorem dX0_treesUnder_68 : decode cX0_treesUnder 68 = .ok (.aload_n 0, 1) := by decide +kernel
theorem dX0_treesUnder_69 : decode cX0_treesUnder 69 = .ok (.getfield 26, 3) := by decide +kernel
theorem dX0_treesUnder_72 : decode cX0_treesUnder 72 = .ok (.iload 7, 2) := by decide +kernel
theorem dX0_treesUnder_74 : decode cX0_treesUnder 74 = .ok (.aaload, 1) := by decide +kernel
theorem dX0_treesUnder_75 : decode cX0_treesUnder 75 = .ok (.aload_n 0, 1) := by decide +kernel
theorem dX0_treesUnder_76 : decode cX0_treesUnder 76 = .ok (.getfield 26, 3) := by decide +kernel
theorem dX0_treesUnder_79 : decode cX0_treesUnder 79 = .ok (.iload 8, 2) := by decide +kernel
theorem dX0_treesUnder_81 : decode cX0_treesUnder 81 = .ok (.aaload, 1) := by decide +kernel
theorem dX0_treesUnder_82 : decode cX0_treesUnder 82 = .ok (.invokevirtual 114, 3) := by decide +kernel
theorem dX0_treesUnder_85 : decode cX0_treesUnder 85 = .ok (.ladd, 1) := by decide +kernel
theorem dX0_treesUnder_86 : decode cX0_treesUnder 86 = .ok (.lstore 4, 2) := by decide +kernel
theorem dX0_treesUnder_88 : decode cX0_treesUnder 88 = .ok (.iinc 7 1, 3) := by decide +kernel
theorem dX0_treesUnder_91 : decode cX0_treesUnder 91 = .ok (.goto (-76), 3) := by decide +kernel
theorem dX0_treesUnder_94 : decode cX0_treesUnder 94 = .ok (.iinc 6 1, 3) := by decide +kernel
theorem dX0_treesUnder_97 : decode cX0_treesUnder 97 = .ok (.goto (-91), 3) := by decide +kernel
theorem dX0_treesUnder_100 : decode cX0_treesUnder 100 = .ok (.lload 4, 2) := by decide +kernel
theorem dX0_treesUnder_102 : decode cX0_treesUnder 102 = .ok (.lreturn, 1) := by decide +kernel
set_option maxRecDepth 20000 in
theorem ggX0_join_X0_kindOf : GoodIn wsX0_join wsX0_kindOf := goodIn_r _ [9, 10, 11, 12, 13, 49, 50, 51, 52, 53, 54] (by decide +kernel) (by decide +kernel)
set_option maxRecDepth 20000 in
theorem gX0_join_X0_kindOf : GoodIn wsX0_join (wsV RX0 124 RX0 yX0_kindOf wsX0_kindOf) := goodIn_app (goodIn_of _ (by decide +kernel)) ggX0_join_X0_kindOf
set_option maxRecDepth 20000 in
theorem ggX0_join_X0_keep : GoodIn wsX0_join wsX0_keep := goodIn_r _ [17, 18, 19, 20, 21, 22, 23, 24, 25, 26, 27, 28, 29, 30, 31, 32, 33, 34, 35, 36, 37, 38, 39, 40, 41, 42, 43, 44, 45, 49, 50, 51, 52, 53, 54, 46, 47, 48] (by decide +kernel) (by decide +kernel)
set_option maxRecDepth 20000 in
theorem gX0_join_X0_keep : GoodIn wsX0_join (wsV RX0 131 RX0 yX0_keep wsX0_keep) := goodIn_app (goodIn_of _ (by decide +kernel)) ggX0_join_X0_keep
theorem dX0_join_0 : decode cX0_join 0 = .ok (.lconst 0, 1) := by decide +kernel
theorem dX0_join_1 : decode cX0_join 1 = .ok (.lstore 6, 2) := by decide +kernel
theorem dX0_join_3 : decode cX0_join 3 = .ok (.iconst 0, 1) := by decide +kernel
theorem dX0_join_4 : decode cX0_join 4 = .ok (.istore 8, 2) := by decide +kernel
theorem dX0_join_6 : decode cX0_join 6 = .ok (.iload 8, 2) := by decide +kernel
theorem dX0_join_8 : decode cX0_join 8 = .ok (.aload_n 3, 1) := by decide +kernel
theorem dX0_join_9 : decode cX0_join 9 = .ok (.getfield 118, 3) := by decide +kernel
theorem dX0_join_12 : decode cX0_join 12 = .ok (.if_icmp .ge 132, 3) := by decide +kernel
theorem dX0_join_15 : decode cX0_join 15 = .ok (.iconst 0, 1) := by decide +kernel
theorem dX0_join_16 : decode cX0_join 16 = .ok (.istore 9, 2) := by decide +kernel
theorem dX0_join_18 : decode cX0_join 18 = .ok (.iload 9, 2) := by decide +kernel
theorem dX0_join_20 : decode cX0_join 20 = .ok (.aload 4, 2) := by decide +kernel
theorem dX0_join_22 : decode cX0_join 22 = .ok (.getfield 118, 3) := by decide +kernel
theorem dX0_join_25 : decode cX0_join 25 = .ok (.if_icmp .ge 113, 3) := by decide +kernel
theorem dX0_join_28 : decode cX0_join 28 = .ok (.iconst 0, 1) := by decide +kernel
theorem dX0_join_29 : decode cX0_join 29 = .ok (.istore 10, 2) := by decide +kernel
theorem dX0_join_31 : decode cX0_join 31 = .ok (.iload 10, 2) := by decide +kernel
theorem dX0_join_33 : decode cX0_join 33 = .ok (.aload 5, 2) := by decide +kernel
theorem dX0_join_35 : decode cX0_join 35 = .ok (.getfield 118, 3) := by decide +kernel
theorem dX0_join_38 : decode cX0_join 38 = .ok (.if_icmp .ge 94, 3) := by decide +kernel
theorem dX0_join_41 : decode cX0_join 41 = .ok (.aload_n 0, 1) := by decide +kernel
theorem dX0_join_42 : decode cX0_join 42 = .ok (.iload_n 1, 1) := by decide +kernel
theorem dX0_join_43 : decode cX0_join 43 = .ok (.aload_n 3, 1) := by decide +kernel
theorem dX0_join_44 : decode cX0_join 44 = .ok (.getfield 121, 3) := by decide +kernel
theorem dX0_join_47 : decode cX0_join 47 = .ok (.iload 8, 2) := by decide +kernel
theorem dX0_join_49 : decode cX0_join 49 = .ok (.laload, 1) := by decide +kernel
theorem dX0_join_50 : decode cX0_join 50 = .ok (.aload 4, 2) := by decide +kernel
theorem dX0_join_52 : decode cX0_join 52 = .ok (.getfield 121, 3) := by decide +kernel
theorem dX0_join_55 : decode cX0_join 55 = .ok (.iload 9, 2) := by decide +kernel
theorem dX0_join_57 : decode cX0_join 57 = .ok (.laload, 1) := by decide +kernel
theorem dX0_join_58 : decode cX0_join 58 = .ok (.aload 5, 2) := by decide +kernel
theorem dX0_join_60 : decode cX0_join 60 = .ok (.getfield 121, 3) := by decide +kernel
theorem dX0_join_63 : decode cX0_join 63 = .ok (.iload 10, 2) := by decide +kernel
theorem dX0_join_65 : decode cX0_join 65 = .ok (.laload, 1) := by decide +kernel
theorem dX0_join_66 : decode cX0_join 66 = .ok (.invokevirtual 124, 3) := by decide +kernel
theorem dX0_join_69 : decode cX0_join 69 = .ok (.lstore 11, 2) := by decide +kernel
theorem dX0_join_71 : decode cX0_join 71 = .ok (.lload 11, 2) := by decide +kernel
theorem dX0_join_73 : decode cX0_join 73 = .ok (.aload_n 0, 1) := by decide +kernel
theorem dX0_join_74 : decode cX0_join 74 = .ok (.getfield 79, 3) := by decide +kernel
theorem dX0_join_77 : decode cX0_join 77 = .ok (.land, 1) := by decide +kernel
theorem dX0_join_78 : decode cX0_join 78 = .ok (.lconst 0, 1) := by decide +kernel
theorem dX0_join_79 : decode cX0_join 79 = .ok (.lcmp, 1) := by decide +kernel
theorem dX0_join_80 : decode cX0_join 80 = .ok (.ifCond .ne 46, 3) := by decide +kernel
theorem dX0_join_83 : decode cX0_join 83 = .ok (.aload_n 3, 1) := by decide +kernel
theorem dX0_join_84 : decode cX0_join 84 = .ok (.getfield 128, 3) := by decide +kernel
theorem dX0_join_87 : decode cX0_join 87 = .ok (.iload 8, 2) := by decide +kernel
theorem dX0_join_89 : decode cX0_join 89 = .ok (.laload, 1) := by decide +kernel
theorem dX0_join_90 : decode cX0_join 90 = .ok (.aload 4, 2) := by decide +kernel
theorem dX0_join_92 : decode cX0_join 92 = .ok (.getfield 128, 3) := by decide +kernel
theorem dX0_join_95 : decode cX0_join 95 = .ok (.iload 9, 2) := by decide +kernel
theorem dX0_join_97 : decode cX0_join 97 = .ok (.laload, 1) := by decide +kernel
theorem dX0_join_98 : decode cX0_join 98 = .ok (.lmul, 1) := by decide +kernel
theorem dX0_join_99 : decode cX0_join 99 = .ok (.aload 5, 2) := by decide +kernel
theorem dX0_join_101 : decode cX0_join 101 = .ok (.getfield 128, 3) := by decide +kernel
theorem dX0_join_104 : decode cX0_join 104 = .ok (.iload 10, 2) := by decide +kernel
theorem dX0_join_106 : decode cX0_join 106 = .ok (.laload, 1) := by decide +kernel
theorem dX0_join_107 : decode cX0_join 107 = .ok (.lmul, 1) := by decide +kernel
theorem dX0_join_108 : decode cX0_join 108 = .ok (.lstore 13, 2) := by decide +kernel
theorem dX0_join_110 : decode cX0_join 110 = .ok (.lload 6, 2) := by decide +kernel
theorem dX0_join_112 : decode cX0_join 112 = .ok (.lload 13, 2) := by decide +kernel
theorem dX0_join_114 : decode cX0_join 114 = .ok (.ladd, 1) := by decide +kernel
theorem dX0_join_115 : decode cX0_join 115 = .ok (.lstore 6, 2) := by decide +kernel
theorem dX0_join_117 : decode cX0_join 117 = .ok (.aload_n 0, 1) := by decide +kernel
theorem dX0_join_118 : decode cX0_join 118 = .ok (.iload_n 2, 1) := by decide +kernel
theorem dX0_join_119 : decode cX0_join 119 = .ok (.lload 11, 2) := by decide +kernel
theorem dX0_join_121 : decode cX0_join 121 = .ok (.lload 13, 2) := by decide +kernel
theorem dX0_join_123 : decode cX0_join 123 = .ok (.invokevirtual 131, 3) := by decide +kernel
theorem dX0_join_126 : decode cX0_join 126 = .ok (.iinc 10 1, 3) := by decide +kernel
theorem dX0_join_129 : decode cX0_join 129 = .ok (.goto (-98), 3) := by decide +kernel
theorem dX0_join_132 : decode cX0_join 132 = .ok (.iinc 9 1, 3) := by decide +kernel
theorem dX0_join_135 : decode cX0_join 135 = .ok (.goto (-117), 3) := by decide +kernel
theorem dX0_join_138 : decode cX0_join 138 = .ok (.iinc 8 1, 3) := by decide +kernel
theorem dX0_join_141 : decode cX0_join 141 = .ok (.goto (-135), 3) := by decide +kernel
theorem dX0_join_144 : decode cX0_join 144 = .ok (.lload 6, 2) := by decide +kernel
theorem dX0_join_146 : decode cX0_join 146 = .ok (.lreturn, 1) := by decide +kernel
set_option maxRecDepth 20000 in
theorem ggX0_keep_X7_add : GoodIn wsX0_keep wsX7_add := goodIn_r _ [6, 7, 8, 9, 10, 11, 12, 13, 14, 15, 16, 17, 18, 19, 20, 21, 22, 23, 24, 25, 26, 27, 28, 35, 36, 37] (by decide +kernel) (by decide +kernel)
set_option maxRecDepth 20000 in
theorem gX0_keep_X7_add : GoodIn wsX0_keep (wsV RX0 110 RX7 yX7_add wsX7_add) := goodIn_app (goodIn_of _ (by decide +kernel)) ggX0_keep_X7_add
theorem dX0_keep_0 : decode cX0_keep 0 = .ok (.iload_n 1, 1) := by decide +kernel
theorem dX0_keep_1 : decode cX0_keep 1 = .ok (.ifCond .lt 21, 3) := by decide +kernel
theorem dX0_keep_4 : decode cX0_keep 4 = .ok (.iload_n 1, 1) := by decide +kernel
theorem dX0_keep_5 : decode cX0_keep 5 = .ok (.bipush 6, 2) := by decide +kernel
theorem dX0_keep_7 : decode cX0_keep 7 = .ok (.if_icmp .ge 15, 3) := by decide +kernel
theorem dX0_keep_10 : decode cX0_keep 10 = .ok (.aload_n 0, 1) := by decide +kernel
theorem dX0_keep_11 : decode cX0_keep 11 = .ok (.getfield 26, 3) := by decide +kernel
theorem dX0_keep_14 : decode cX0_keep 14 = .ok (.iload_n 1, 1) := by decide +kernel
theorem dX0_keep_15 : decode cX0_keep 15 = .ok (.aaload, 1) := by decide +kernel
theorem dX0_keep_16 : decode cX0_keep 16 = .ok (.lload_n 2, 1) := by decide +kernel
theorem dX0_keep_17 : decode cX0_keep 17 = .ok (.lload 4, 2) := by decide +kernel
theorem dX0_keep_19 : decode cX0_keep 19 = .ok (.invokevirtual 110, 3) := by decide +kernel
theorem dX0_keep_22 : decode cX0_keep 22 = .ok (.return_, 1) := by decide +kernel
theorem dX0_kindOf_0 : decode cX0_kindOf 0 = .ok (.lconst 0, 1) := by decide +kernel
theorem dX0_kindOf_1 : decode cX0_kindOf 1 = .ok (.lstore 8, 2) := by decide +kernel
theorem dX0_kindOf_3 : decode cX0_kindOf 3 = .ok (.iconst 0, 1) := by decide +kernel
theorem dX0_kindOf_4 : decode cX0_kindOf 4 = .ok (.istore 10, 2) := by decide +kernel
theorem dX0_kindOf_6 : decode cX0_kindOf 6 = .ok (.iload 10, 2) := by decide +kernel
theorem dX0_kindOf_8 : decode cX0_kindOf 8 = .ok (.aload_n 0, 1) := by decide +kernel
theorem dX0_kindOf_9 : decode cX0_kindOf 9 = .ok (.getfield 76, 3) := by decide +kernel
theorem dX0_kindOf_12 : decode cX0_kindOf 12 = .ok (.if_icmp .ge 91, 3) := by decide +kernel
theorem dX0_kindOf_15 : decode cX0_kindOf 15 = .ok (.aload_n 0, 1) := by decide +kernel
theorem dX0_kindOf_16 : decode cX0_kindOf 16 = .ok (.getfield 9, 3) := by decide +kernel
theorem dX0_kindOf_19 : decode cX0_kindOf 19 = .ok (.iload 10, 2) := by decide +kernel
theorem dX0_kindOf_21 : decode cX0_kindOf 21 = .ok (.iaload, 1) := by decide +kernel
theorem dX0_kindOf_22 : decode cX0_kindOf 22 = .ok (.iload_n 1, 1) := by decide +kernel
theorem dX0_kindOf_23 : decode cX0_kindOf 23 = .ok (.if_icmp .ne 74, 3) := by decide +kernel
theorem dX0_kindOf_26 : decode cX0_kindOf 26 = .ok (.aload_n 0, 1) := by decide +kernel
theorem dX0_kindOf_27 : decode cX0_kindOf 27 = .ok (.getfield 17, 3) := by decide +kernel
theorem dX0_kindOf_30 : decode cX0_kindOf 30 = .ok (.iconst 0, 1) := by decide +kernel
theorem dX0_kindOf_31 : decode cX0_kindOf 31 = .ok (.aaload, 1) := by decide +kernel
theorem dX0_kindOf_32 : decode cX0_kindOf 32 = .ok (.iload 10, 2) := by decide +kernel
theorem dX0_kindOf_34 : decode cX0_kindOf 34 = .ok (.laload, 1) := by decide +kernel
theorem dX0_kindOf_35 : decode cX0_kindOf 35 = .ok (.lload_n 2, 1) := by decide +kernel
theorem dX0_kindOf_36 : decode cX0_kindOf 36 = .ok (.ldc2_w 135, 3) := by decide +kernel
theorem dX0_kindOf_39 : decode cX0_kindOf 39 = .ok (.lxor, 1) := by decide +kernel
theorem dX0_kindOf_40 : decode cX0_kindOf 40 = .ok (.land, 1) := by decide +kernel
theorem dX0_kindOf_41 : decode cX0_kindOf 41 = .ok (.lconst 0, 1) := by decide +kernel
theorem dX0_kindOf_42 : decode cX0_kindOf 42 = .ok (.lcmp, 1) := by decide +kernel
theorem dX0_kindOf_43 : decode cX0_kindOf 43 = .ok (.ifCond .ne 54, 3) := by decide +kernel
theorem dX0_kindOf_46 : decode cX0_kindOf 46 = .ok (.aload_n 0, 1) := by decide +kernel
theorem dX0_kindOf_47 : decode cX0_kindOf 47 = .ok (.getfield 17, 3) := by decide +kernel
theorem dX0_kindOf_50 : decode cX0_kindOf 50 = .ok (.iconst 1, 1) := by decide +kernel
theorem dX0_kindOf_51 : decode cX0_kindOf 51 = .ok (.aaload, 1) := by decide +kernel
theorem dX0_kindOf_52 : decode cX0_kindOf 52 = .ok (.iload 10, 2) := by decide +kernel
theorem dX0_kindOf_54 : decode cX0_kindOf 54 = .ok (.laload, 1) := by decide +kernel
theorem dX0_kindOf_55 : decode cX0_kindOf 55 = .ok (.lload 4, 2) := by decide +kernel
theorem dX0_kindOf_57 : decode cX0_kindOf 57 = .ok (.ldc2_w 135, 3) := by decide +kernel
theorem dX0_kindOf_60 : decode cX0_kindOf 60 = .ok (.lxor, 1) := by decide +kernel
theorem dX0_kindOf_61 : decode cX0_kindOf 61 = .ok (.land, 1) := by decide +kernel
theorem dX0_kindOf_62 : decode cX0_kindOf 62 = .ok (.lconst 0, 1) := by decide +kernel
theorem dX0_kindOf_63 : decode cX0_kindOf 63 = .ok (.lcmp, 1) := by decide +kernel
theorem dX0_kindOf_64 : decode cX0_kindOf 64 = .ok (.ifCond .ne 33, 3) := by decide +kernel
theorem dX0_kindOf_67 : decode cX0_kindOf 67 = .ok (.aload_n 0, 1) := by decide +kernel
theorem dX0_kindOf_68 : decode cX0_kindOf 68 = .ok (.getfield 17, 3) := by decide +kernel
theorem dX0_kindOf_71 : decode cX0_kindOf 71 = .ok (.iconst 2, 1) := by decide +kernel
theorem dX0_kindOf_72 : decode cX0_kindOf 72 = .ok (.aaload, 1) := by decide +kernel
theorem dX0_kindOf_73 : decode cX0_kindOf 73 = .ok (.iload 10, 2) := by decide +kernel
theorem dX0_kindOf_75 : decode cX0_kindOf 75 = .ok (.laload, 1) := by decide +kernel
theorem dX0_kindOf_76 : decode cX0_kindOf 76 = .ok (.lload 6, 2) := by decide +kernel
theorem dX0_kindOf_78 : decode cX0_kindOf 78 = .ok (.ldc2_w 135, 3) := by decide +kernel
theorem dX0_kindOf_81 : decode cX0_kindOf 81 = .ok (.lxor, 1) := by decide +kernel
theorem dX0_kindOf_82 : decode cX0_kindOf 82 = .ok (.land, 1) := by decide +kernel
theorem dX0_kindOf_83 : decode cX0_kindOf 83 = .ok (.lconst 0, 1) := by decide +kernel
theorem dX0_kindOf_84 : decode cX0_kindOf 84 = .ok (.lcmp, 1) := by decide +kernel
theorem dX0_kindOf_85 : decode cX0_kindOf 85 = .ok (.ifCond .ne 12, 3) := by decide +kernel
theorem dX0_kindOf_88 : decode cX0_kindOf 88 = .ok (.lload 8, 2) := by decide +kernel
theorem dX0_kindOf_90 : decode cX0_kindOf 90 = .ok (.lconst 1, 1) := by decide +kernel
theorem dX0_kindOf_91 : decode cX0_kindOf 91 = .ok (.iload 10, 2) := by decide +kernel
theorem dX0_kindOf_93 : decode cX0_kindOf 93 = .ok (.lshl, 1) := by decide +kernel
theorem dX0_kindOf_94 : decode cX0_kindOf 94 = .ok (.lor, 1) := by decide +kernel
theorem dX0_kindOf_95 : decode cX0_kindOf 95 = .ok (.lstore 8, 2) := by decide +kernel
theorem dX0_kindOf_97 : decode cX0_kindOf 97 = .ok (.iinc 10 1, 3) := by decide +kernel
theorem dX0_kindOf_100 : decode cX0_kindOf 100 = .ok (.goto (-94), 3) := by decide +kernel
theorem dX0_kindOf_103 : decode cX0_kindOf 103 = .ok (.lload 8, 2) := by decide +kernel
theorem dX0_kindOf_105 : decode cX0_kindOf 105 = .ok (.lreturn, 1) := by decide +kernel
set_option maxRecDepth 20000 in
theorem ggX1_init_X3_init : GoodIn wsX1_init wsX3_init := goodIn_r _ [9, 10, 2, 3, 11, 12, 13, 14] (by decide +kernel) (by decide +kernel)
set_option maxRecDepth 20000 in
theorem gX1_init_X3_init_n11 : GoodIn wsX1_init (wsX3_init) := ggX1_init_X3_init
theorem dX1_init_0 : decode cX1_init 0 = .ok (.aload_n 0, 1) := by decide +kernel
theorem dX1_init_1 : decode cX1_init 1 = .ok (.invokespecial 3, 3) := by decide +kernel
theorem dX1_init_4 : decode cX1_init 4 = .ok (.aload_n 0, 1) := by decide +kernel
theorem dX1_init_5 : decode cX1_init 5 = .ok (.new 9, 3) := by decide +kernel
theorem dX1_init_8 : decode cX1_init 8 = .ok (.dup, 1) := by decide +kernel
theorem dX1_init_9 : decode cX1_init 9 = .ok (.invokespecial 11, 3) := by decide +kernel
theorem dX1_init_12 : decode cX1_init 12 = .ok (.putfield 12, 3) := by decide +kernel
theorem dX1_init_15 : decode cX1_init 15 = .ok (.return_, 1) := by decide +kernel
theorem dX1_restart_0 : decode cX1_restart 0 = .ok (.aload_n 0, 1) := by decide +kernel
theorem dX1_restart_1 : decode cX1_restart 1 = .ok (.iconst (-1), 1) := by decide +kernel
theorem dX1_restart_2 : decode cX1_restart 2 = .ok (.putfield 18, 3) := by decide +kernel
theorem dX1_restart_5 : decode cX1_restart 5 = .ok (.return_, 1) := by decide +kernel
set_option maxRecDepth 20000 in
theorem ggX1_next_X1_mayOverlap : GoodIn wsX1_next wsX1_mayOverlap := goodIn_r _ [11, 2, 3, 4, 5, 6, 12, 13, 14, 15, 16, 17, 18, 19, 60, 61, 62, 63, 64, 65, 66, 67, 68, 69, 70, 71, 72, 73] (by decide +kernel) (by decide +kernel)
set_option maxRecDepth 20000 in
theorem gX1_next_X1_mayOverlap : GoodIn wsX1_next (wsV RX1 31 RX1 yX1_mayOverlap wsX1_mayOverlap) := goodIn_app (goodIn_of _ (by decide +kernel)) ggX1_next_X1_mayOverlap
set_option maxRecDepth 20000 in
theorem ggX1_next_X1_merge : GoodIn wsX1_next wsX1_merge := goodIn_r _ [23, 24, 4, 12, 13, 25, 26, 27, 28, 29, 30, 31, 32, 33, 34, 35, 36, 37, 38, 39, 40, 41, 42, 43, 44, 45, 46, 17, 47, 48, 49, 50, 51, 52, 53, 54, 55, 56, 57, 58, 59, 60, 61, 62, 63, 64, 72, 73, 65, 66, 67, 68] (by decide +kernel) (by decide +kernel)
set_option maxRecDepth 20000 in
theorem gX1_next_X1_merge : GoodIn wsX1_next (wsV RX1 46 RX1 yX1_merge wsX1_merge) := goodIn_app (goodIn_of _ (by decide +kernel)) ggX1_next_X1_merge
theorem dX1_next_0 : decode cX1_next 0 = .ok (.aload_n 0, 1) := by decide +kernel
theorem dX1_next_1 : decode cX1_next 1 = .ok (.dup, 1) := by decide +kernel
theorem dX1_next_2 : decode cX1_next 2 = .ok (.getfield 18, 3) := by decide +kernel
theorem dX1_next_5 : decode cX1_next 5 = .ok (.iconst 1, 1) := by decide +kernel
theorem dX1_next_6 : decode cX1_next 6 = .ok (.iadd, 1) := by decide +kernel
theorem dX1_next_7 : decode cX1_next 7 = .ok (.putfield 18, 3) := by decide +kernel
theorem dX1_next_10 : decode cX1_next 10 = .ok (.aload_n 0, 1) := by decide +kernel
theorem dX1_next_11 : decode cX1_next 11 = .ok (.getfield 18, 3) := by decide +kernel
theorem dX1_next_14 : decode cX1_next 14 = .ok (.sipush 832, 3) := by decide +kernel
theorem dX1_next_17 : decode cX1_next 17 = .ok (.if_icmp .ge 94, 3) := by decide +kernel
theorem dX1_next_20 : decode cX1_next 20 = .ok (.aload_n 0, 1) := by decide +kernel
theorem dX1_next_21 : decode cX1_next 21 = .ok (.aload_n 0, 1) := by decide +kernel
theorem dX1_next_22 : decode cX1_next 22 = .ok (.getfield 18, 3) := by decide +kernel
theorem dX1_next_25 : decode cX1_next 25 = .ok (.bipush 104, 2) := by decide +kernel
theorem dX1_next_27 : decode cX1_next 27 = .ok (.idiv, 1) := by decide +kernel
theorem dX1_next_28 : decode cX1_next 28 = .ok (.putfield 22, 3) := by decide +kernel
theorem dX1_next_31 : decode cX1_next 31 = .ok (.aload_n 0, 1) := by decide +kernel
theorem dX1_next_32 : decode cX1_next 32 = .ok (.aload_n 0, 1) := by decide +kernel
theorem dX1_next_33 : decode cX1_next 33 = .ok (.getfield 18, 3) := by decide +kernel
theorem dX1_next_36 : decode cX1_next 36 = .ok (.bipush 13, 2) := by decide +kernel
theorem dX1_next_38 : decode cX1_next 38 = .ok (.idiv, 1) := by decide +kernel
theorem dX1_next_39 : decode cX1_next 39 = .ok (.bipush 8, 2) := by decide +kernel
theorem dX1_next_41 : decode cX1_next 41 = .ok (.irem, 1) := by decide +kernel
theorem dX1_next_42 : decode cX1_next 42 = .ok (.putfield 25, 3) := by decide +kernel
theorem dX1_next_45 : decode cX1_next 45 = .ok (.aload_n 0, 1) := by decide +kernel
theorem dX1_next_46 : decode cX1_next 46 = .ok (.aload_n 0, 1) := by decide +kernel
theorem dX1_next_47 : decode cX1_next 47 = .ok (.getfield 18, 3) := by decide +kernel
theorem dX1_next_50 : decode cX1_next 50 = .ok (.bipush 13, 2) := by decide +kernel
theorem dX1_next_52 : decode cX1_next 52 = .ok (.irem, 1) := by decide +kernel
theorem dX1_next_53 : decode cX1_next 53 = .ok (.putfield 28, 3) := by decide +kernel
theorem dX1_next_56 : decode cX1_next 56 = .ok (.aload_n 0, 1) := by decide +kernel
theorem dX1_next_57 : decode cX1_next 57 = .ok (.aload_n 1, 1) := by decide +kernel
theorem dX1_next_58 : decode cX1_next 58 = .ok (.invokevirtual 31, 3) := by decide +kernel
theorem dX1_next_61 : decode cX1_next 61 = .ok (.ifCond .eq 37, 3) := by decide +kernel
theorem dX1_next_64 : decode cX1_next 64 = .ok (.aload_n 0, 1) := by decide +kernel
theorem dX1_next_65 : decode cX1_next 65 = .ok (.aload_n 1, 1) := by decide +kernel
theorem dX1_next_66 : decode cX1_next 66 = .ok (.aload_n 1, 1) := by decide +kernel
theorem dX1_next_67 : decode cX1_next 67 = .ok (.getfield 35, 3) := by decide +kernel
theorem dX1_next_70 : decode cX1_next 70 = .ok (.aload_n 0, 1) := by decide +kernel
theorem dX1_next_71 : decode cX1_next 71 = .ok (.getfield 22, 3) := by decide +kernel
theorem dX1_next_74 : decode cX1_next 74 = .ok (.aaload, 1) := by decide +kernel
theorem dX1_next_75 : decode cX1_next 75 = .ok (.getfield 41, 3) := by decide +kernel
theorem dX1_next_78 : decode cX1_next 78 = .ok (.aload_n 1, 1) := by decide +kernel
theorem dX1_next_79 : decode cX1_next 79 = .ok (.getfield 35, 3) := by decide +kernel
theorem dX1_next_82 : decode cX1_next 82 = .ok (.aload_n 0, 1) := by decide +kernel
theorem dX1_next_83 : decode cX1_next 83 = .ok (.getfield 25, 3) := by decide +kernel
theorem dX1_next_86 : decode cX1_next 86 = .ok (.aaload, 1) := by decide +kernel
theorem dX1_next_87 : decode cX1_next 87 = .ok (.getfield 41, 3) := by decide +kernel
theorem dX1_next_90 : decode cX1_next 90 = .ok (.invokevirtual 46, 3) := by decide +kernel
theorem dX1_next_93 : decode cX1_next 93 = .ok (.ifCond .eq 5, 3) := by decide +kernel
theorem dX1_next_96 : decode cX1_next 96 = .ok (.iconst 1, 1) := by decide +kernel
theorem dX1_next_97 : decode cX1_next 97 = .ok (.ireturn, 1) := by decide +kernel
theorem dX1_next_98 : decode cX1_next 98 = .ok (.aload_n 0, 1) := by decide +kernel
theorem dX1_next_99 : decode cX1_next 99 = .ok (.dup, 1) := by decide +kernel
theorem dX1_next_100 : decode cX1_next 100 = .ok (.getfield 18, 3) := by decide +kernel
theorem dX1_next_103 : decode cX1_next 103 = .ok (.iconst 1, 1) := by decide +kernel
theorem dX1_next_104 : decode cX1_next 104 = .ok (.iadd, 1) := by decide +kernel
theorem dX1_next_105 : decode cX1_next 105 = .ok (.putfield 18, 3) := by decide +kernel
theorem dX1_next_108 : decode cX1_next 108 = .ok (.goto (-98), 3) := by decide +kernel
theorem dX1_next_111 : decode cX1_next 111 = .ok (.iconst 0, 1) := by decide +kernel
theorem dX1_next_112 : decode cX1_next 112 = .ok (.ireturn, 1) := by decide +kernel
set_option maxRecDepth 20000 in
theorem ggX1_mayOverlap_X8_isRule : GoodIn wsX1_mayOverlap wsX8_isRule := goodIn_r _ [12, 13, 19, 20, 21, 22] (by decide +kernel) (by decide +kernel)
set_option maxRecDepth 20000 in
theorem gX1_mayOverlap_X8_isRule : GoodIn wsX1_mayOverlap (wsV RX1 50 RX8 yX8_isRule wsX8_isRule) := goodIn_app (goodIn_of _ (by decide +kernel)) ggX1_mayOverlap_X8_isRule
theorem dX1_mayOverlap_0 : decode cX1_mayOverlap 0 = .ok (.aload_n 1, 1) := by decide +kernel
theorem dX1_mayOverlap_1 : decode cX1_mayOverlap 1 = .ok (.aload_n 0, 1) := by decide +kernel
theorem dX1_mayOverlap_2 : decode cX1_mayOverlap 2 = .ok (.getfield 22, 3) := by decide +kernel
theorem dX1_mayOverlap_5 : decode cX1_mayOverlap 5 = .ok (.invokevirtual 50, 3) := by decide +kernel
theorem dX1_mayOverlap_8 : decode cX1_mayOverlap 8 = .ok (.ifCond .eq 32, 3) := by decide +kernel
theorem dX1_mayOverlap_11 : decode cX1_mayOverlap 11 = .ok (.aload_n 1, 1) := by decide +kernel
theorem dX1_mayOverlap_12 : decode cX1_mayOverlap 12 = .ok (.aload_n 0, 1) := by decide +kernel
theorem dX1_mayOverlap_13 : decode cX1_mayOverlap 13 = .ok (.getfield 25, 3) := by decide +kernel
theorem dX1_mayOverlap_16 : decode cX1_mayOverlap 16 = .ok (.invokevirtual 50, 3) := by decide +kernel
theorem dX1_mayOverlap_19 : decode cX1_mayOverlap 19 = .ok (.ifCond .eq 21, 3) := by decide +kernel
theorem dX1_mayOverlap_22 : decode cX1_mayOverlap 22 = .ok (.aload_n 0, 1) := by decide +kernel
theorem dX1_mayOverlap_23 : decode cX1_mayOverlap 23 = .ok (.getfield 28, 3) := by decide +kernel
theorem dX1_mayOverlap_26 : decode cX1_mayOverlap 26 = .ok (.ifCond .ne 16, 3) := by decide +kernel
theorem dX1_mayOverlap_29 : decode cX1_mayOverlap 29 = .ok (.aload_n 0, 1) := by decide +kernel
theorem dX1_mayOverlap_30 : decode cX1_mayOverlap 30 = .ok (.getfield 22, 3) := by decide +kernel
theorem dX1_mayOverlap_33 : decode cX1_mayOverlap 33 = .ok (.aload_n 0, 1) := by decide +kernel
theorem dX1_mayOverlap_34 : decode cX1_mayOverlap 34 = .ok (.getfield 25, 3) := by decide +kernel
theorem dX1_mayOverlap_37 : decode cX1_mayOverlap 37 = .ok (.if_icmp .lt 5, 3) := by decide +kernel
theorem dX1_mayOverlap_40 : decode cX1_mayOverlap 40 = .ok (.iconst 0, 1) := by decide +kernel
theorem dX1_mayOverlap_41 : decode cX1_mayOverlap 41 = .ok (.ireturn, 1) := by decide +kernel
theorem dX1_mayOverlap_42 : decode cX1_mayOverlap 42 = .ok (.aload_n 1, 1) := by decide +kernel
theorem dX1_mayOverlap_43 : decode cX1_mayOverlap 43 = .ok (.getfield 35, 3) := by decide +kernel
theorem dX1_mayOverlap_46 : decode cX1_mayOverlap 46 = .ok (.aload_n 0, 1) := by decide +kernel
theorem dX1_mayOverlap_47 : decode cX1_mayOverlap 47 = .ok (.getfield 22, 3) := by decide +kernel
theorem dX1_mayOverlap_50 : decode cX1_mayOverlap 50 = .ok (.aaload, 1) := by decide +kernel
theorem dX1_mayOverlap_51 : decode cX1_mayOverlap 51 = .ok (.getfield 41, 3) := by decide +kernel
theorem dX1_mayOverlap_54 : decode cX1_mayOverlap 54 = .ok (.astore_n 2, 1) := by decide +kernel
theorem dX1_mayOverlap_55 : decode cX1_mayOverlap 55 = .ok (.aload_n 0, 1) := by decide +kernel
theorem dX1_mayOverlap_56 : decode cX1_mayOverlap 56 = .ok (.getfield 28, 3) := by decide +kernel
theorem dX1_mayOverlap_59 : decode cX1_mayOverlap 59 = .ok (.aload_n 2, 1) := by decide +kernel
theorem dX1_mayOverlap_60 : decode cX1_mayOverlap 60 = .ok (.getfield 54, 3) := by decide +kernel
theorem dX1_mayOverlap_63 : decode cX1_mayOverlap 63 = .ok (.if_icmp .ge 20, 3) := by decide +kernel
theorem dX1_mayOverlap_66 : decode cX1_mayOverlap 66 = .ok (.aload_n 2, 1) := by decide +kernel
theorem dX1_mayOverlap_67 : decode cX1_mayOverlap 67 = .ok (.getfield 57, 3) := by decide +kernel
theorem dX1_mayOverlap_70 : decode cX1_mayOverlap 70 = .ok (.aload_n 0, 1) := by decide +kernel
theorem dX1_mayOverlap_71 : decode cX1_mayOverlap 71 = .ok (.getfield 28, 3) := by decide +kernel
theorem dX1_mayOverlap_74 : decode cX1_mayOverlap 74 = .ok (.iaload, 1) := by decide +kernel
theorem dX1_mayOverlap_75 : decode cX1_mayOverlap 75 = .ok (.iconst (-1), 1) := by decide +kernel
theorem dX1_mayOverlap_76 : decode cX1_mayOverlap 76 = .ok (.if_icmp .eq 7, 3) := by decide +kernel
theorem dX1_mayOverlap_79 : decode cX1_mayOverlap 79 = .ok (.iconst 1, 1) := by decide +kernel
theorem dX1_mayOverlap_80 : decode cX1_mayOverlap 80 = .ok (.goto 4, 3) := by decide +kernel
theorem dX1_mayOverlap_83 : decode cX1_mayOverlap 83 = .ok (.iconst 0, 1) := by decide +kernel
theorem dX1_mayOverlap_84 : decode cX1_mayOverlap 84 = .ok (.ireturn, 1) := by decide +kernel
set_option maxRecDepth 20000 in
theorem ggX1_merge_X3_clear : GoodIn wsX1_merge wsX3_clear := goodIn_r _ [9, 10, 46, 47] (by decide +kernel) (by decide +kernel)
set_option maxRecDepth 20000 in
theorem gX1_merge_X3_clear : GoodIn wsX1_merge (wsV RX1 61 RX3 yX3_clear wsX3_clear) := goodIn_app (goodIn_of _ (by decide +kernel)) ggX1_merge_X3_clear
set_option maxRecDepth 20000 in
theorem ggX1_merge_X3_addPart : GoodIn wsX1_merge wsX3_addPart := goodIn_r _ [14, 10, 15, 16, 17, 18, 19, 46, 47] (by decide +kernel) (by decide +kernel)
set_option maxRecDepth 20000 in
theorem gX1_merge_X3_addPart : GoodIn wsX1_merge (wsV RX1 64 RX3 yX3_addPart wsX3_addPart) := goodIn_app (goodIn_of _ (by decide +kernel)) ggX1_merge_X3_addPart
set_option maxRecDepth 20000 in
theorem ggX1_merge_X3_add : GoodIn wsX1_merge wsX3_add := goodIn_r _ [23, 10, 15, 46, 47] (by decide +kernel) (by decide +kernel)
set_option maxRecDepth 20000 in
theorem gX1_merge_X3_add : GoodIn wsX1_merge (wsV RX1 68 RX3 yX3_add wsX3_add) := goodIn_app (goodIn_of _ (by decide +kernel)) ggX1_merge_X3_add
set_option maxRecDepth 20000 in
theorem ggX1_merge_X8_endOf : GoodIn wsX1_merge wsX8_endOf := goodIn_r _ [28, 29, 30, 31, 32, 33, 34, 35, 36, 37, 27, 38, 39, 40, 46, 47, 48, 49, 50, 51] (by decide +kernel) (by decide +kernel)
set_option maxRecDepth 20000 in
theorem gX1_merge_X8_endOf : GoodIn wsX1_merge (wsV RX1 71 RX8 yX8_endOf wsX8_endOf) := goodIn_app (goodIn_of _ (by decide +kernel)) ggX1_merge_X8_endOf
theorem dX1_merge_0 : decode cX1_merge 0 = .ok (.aload_n 0, 1) := by decide +kernel
theorem dX1_merge_1 : decode cX1_merge 1 = .ok (.getfield 12, 3) := by decide +kernel
theorem dX1_merge_4 : decode cX1_merge 4 = .ok (.invokevirtual 61, 3) := by decide +kernel
theorem dX1_merge_7 : decode cX1_merge 7 = .ok (.aload_n 0, 1) := by decide +kernel
theorem dX1_merge_8 : decode cX1_merge 8 = .ok (.getfield 12, 3) := by decide +kernel
theorem dX1_merge_11 : decode cX1_merge 11 = .ok (.aload_n 2, 1) := by decide +kernel
theorem dX1_merge_12 : decode cX1_merge 12 = .ok (.iconst 0, 1) := by decide +kernel
theorem dX1_merge_13 : decode cX1_merge 13 = .ok (.aload_n 0, 1) := by decide +kernel
theorem dX1_merge_14 : decode cX1_merge 14 = .ok (.getfield 28, 3) := by decide +kernel
theorem dX1_merge_17 : decode cX1_merge 17 = .ok (.invokevirtual 64, 3) := by decide +kernel
theorem dX1_merge_20 : decode cX1_merge 20 = .ok (.pop, 1) := by decide +kernel
theorem dX1_merge_21 : decode cX1_merge 21 = .ok (.aload_n 0, 1) := by decide +kernel
theorem dX1_merge_22 : decode cX1_merge 22 = .ok (.getfield 28, 3) := by decide +kernel
theorem dX1_merge_25 : decode cX1_merge 25 = .ok (.istore 4, 2) := by decide +kernel
theorem dX1_merge_27 : decode cX1_merge 27 = .ok (.iconst 0, 1) := by decide +kernel
theorem dX1_merge_28 : decode cX1_merge 28 = .ok (.istore 5, 2) := by decide +kernel
theorem dX1_merge_30 : decode cX1_merge 30 = .ok (.iconst 0, 1) := by decide +kernel
theorem dX1_merge_31 : decode cX1_merge 31 = .ok (.istore 6, 2) := by decide +kernel
theorem dX1_merge_33 : decode cX1_merge 33 = .ok (.iload 6, 2) := by decide +kernel
theorem dX1_merge_35 : decode cX1_merge 35 = .ok (.bipush 13, 2) := by decide +kernel
theorem dX1_merge_37 : decode cX1_merge 37 = .ok (.if_icmp .ge 156, 3) := by decide +kernel
theorem dX1_merge_40 : decode cX1_merge 40 = .ok (.iload 4, 2) := by decide +kernel
theorem dX1_merge_42 : decode cX1_merge 42 = .ok (.aload_n 2, 1) := by decide +kernel
theorem dX1_merge_43 : decode cX1_merge 43 = .ok (.getfield 54, 3) := by decide +kernel
theorem dX1_merge_46 : decode cX1_merge 46 = .ok (.if_icmp .ge 147, 3) := by decide +kernel
theorem dX1_merge_49 : decode cX1_merge 49 = .ok (.iload 5, 2) := by decide +kernel
theorem dX1_merge_51 : decode cX1_merge 51 = .ok (.aload_n 3, 1) := by decide +kernel
theorem dX1_merge_52 : decode cX1_merge 52 = .ok (.getfield 54, 3) := by decide +kernel
theorem dX1_merge_55 : decode cX1_merge 55 = .ok (.if_icmp .ge 138, 3) := by decide +kernel
theorem dX1_merge_58 : decode cX1_merge 58 = .ok (.aload_n 2, 1) := by decide +kernel
theorem dX1_merge_59 : decode cX1_merge 59 = .ok (.getfield 57, 3) := by decide +kernel
theorem dX1_merge_62 : decode cX1_merge 62 = .ok (.iload 4, 2) := by decide +kernel
theorem dX1_merge_64 : decode cX1_merge 64 = .ok (.iaload, 1) := by decide +kernel
theorem dX1_merge_65 : decode cX1_merge 65 = .ok (.aload_n 3, 1) := by decide +kernel
theorem dX1_merge_66 : decode cX1_merge 66 = .ok (.getfield 57, 3) := by decide +kernel
theorem dX1_merge_69 : decode cX1_merge 69 = .ok (.iload 5, 2) := by decide +kernel
theorem dX1_merge_71 : decode cX1_merge 71 = .ok (.iaload, 1) := by decide +kernel
theorem dX1_merge_72 : decode cX1_merge 72 = .ok (.if_icmp .ne 27, 3) := by decide +kernel
theorem dX1_merge_75 : decode cX1_merge 75 = .ok (.aload_n 0, 1) := by decide +kernel
theorem dX1_merge_76 : decode cX1_merge 76 = .ok (.getfield 12, 3) := by decide +kernel
theorem dX1_merge_79 : decode cX1_merge 79 = .ok (.aload_n 2, 1) := by decide +kernel
theorem dX1_merge_80 : decode cX1_merge 80 = .ok (.getfield 57, 3) := by decide +kernel
theorem dX1_merge_83 : decode cX1_merge 83 = .ok (.iload 4, 2) := by decide +kernel
theorem dX1_merge_85 : decode cX1_merge 85 = .ok (.iaload, 1) := by decide +kernel
theorem dX1_merge_86 : decode cX1_merge 86 = .ok (.invokevirtual 68, 3) := by decide +kernel
theorem dX1_merge_89 : decode cX1_merge 89 = .ok (.pop, 1) := by decide +kernel
theorem dX1_merge_90 : decode cX1_merge 90 = .ok (.iinc 4 1, 3) := by decide +kernel
theorem dX1_merge_93 : decode cX1_merge 93 = .ok (.iinc 5 1, 3) := by decide +kernel
theorem dX1_merge_96 : decode cX1_merge 96 = .ok (.goto 91, 3) := by decide +kernel
theorem dX1_merge_99 : decode cX1_merge 99 = .ok (.aload_n 2, 1) := by decide +kernel
theorem dX1_merge_100 : decode cX1_merge 100 = .ok (.getfield 57, 3) := by decide +kernel
theorem dX1_merge_103 : decode cX1_merge 103 = .ok (.iload 4, 2) := by decide +kernel
theorem dX1_merge_105 : decode cX1_merge 105 = .ok (.iaload, 1) := by decide +kernel
theorem dX1_merge_106 : decode cX1_merge 106 = .ok (.iconst (-1), 1) := by decide +kernel
theorem dX1_merge_107 : decode cX1_merge 107 = .ok (.if_icmp .ne 35, 3) := by decide +kernel
theorem dX1_merge_110 : decode cX1_merge 110 = .ok (.aload_n 1, 1) := by decide +kernel
theorem dX1_merge_111 : decode cX1_merge 111 = .ok (.aload_n 3, 1) := by decide +kernel
theorem dX1_merge_112 : decode cX1_merge 112 = .ok (.iload 5, 2) := by decide +kernel
theorem dX1_merge_114 : decode cX1_merge 114 = .ok (.invokevirtual 71, 3) := by decide +kernel
theorem dX1_merge_117 : decode cX1_merge 117 = .ok (.istore 7, 2) := by decide +kernel
theorem dX1_merge_119 : decode cX1_merge 119 = .ok (.aload_n 0, 1) := by decide +kernel
theorem dX1_merge_120 : decode cX1_merge 120 = .ok (.getfield 12, 3) := by decide +kernel
theorem dX1_merge_123 : decode cX1_merge 123 = .ok (.aload_n 3, 1) := by decide +kernel
theorem dX1_merge_124 : decode cX1_merge 124 = .ok (.iload 5, 2) := by decide +kernel
theorem dX1_merge_126 : decode cX1_merge 126 = .ok (.iload 7, 2) := by decide +kernel
theorem dX1_merge_128 : decode cX1_merge 128 = .ok (.invokevirtual 64, 3) := by decide +kernel
theorem dX1_merge_131 : decode cX1_merge 131 = .ok (.pop, 1) := by decide +kernel
theorem dX1_merge_132 : decode cX1_merge 132 = .ok (.iinc 4 1, 3) := by decide +kernel
theorem dX1_merge_135 : decode cX1_merge 135 = .ok (.iload 7, 2) := by decide +kernel
theorem dX1_merge_137 : decode cX1_merge 137 = .ok (.istore 5, 2) := by decide +kernel
theorem dX1_merge_139 : decode cX1_merge 139 = .ok (.goto 48, 3) := by decide +kernel
theorem dX1_merge_142 : decode cX1_merge 142 = .ok (.aload_n 3, 1) := by decide +kernel
theorem dX1_merge_143 : decode cX1_merge 143 = .ok (.getfield 57, 3) := by decide +kernel
theorem dX1_merge_146 : decode cX1_merge 146 = .ok (.iload 5, 2) := by decide +kernel
theorem dX1_merge_148 : decode cX1_merge 148 = .ok (.iaload, 1) := by decide +kernel
theorem dX1_merge_149 : decode cX1_merge 149 = .ok (.iconst (-1), 1) := by decide +kernel
theorem dX1_merge_150 : decode cX1_merge 150 = .ok (.if_icmp .ne 35, 3) := by decide +kernel
theorem dX1_merge_153 : decode cX1_merge 153 = .ok (.aload_n 1, 1) := by decide +kernel
theorem dX1_merge_154 : decode cX1_merge 154 = .ok (.aload_n 2, 1) := by decide +kernel
theorem dX1_merge_155 : decode cX1_merge 155 = .ok (.iload 4, 2) := by decide +kernel
theorem dX1_merge_157 : decode cX1_merge 157 = .ok (.invokevirtual 71, 3) := by decide +kernel
theorem dX1_merge_160 : decode cX1_merge 160 = .ok (.istore 7, 2) := by decide +kernel
theorem dX1_merge_162 : decode cX1_merge 162 = .ok (.aload_n 0, 1) := by decide +kernel
theorem dX1_merge_163 : decode cX1_merge 163 = .ok (.getfield 12, 3) := by decide +kernel
theorem dX1_merge_166 : decode cX1_merge 166 = .ok (.aload_n 2, 1) := by decide +kernel
theorem dX1_merge_167 : decode cX1_merge 167 = .ok (.iload 4, 2) := by decide +kernel
theorem dX1_merge_169 : decode cX1_merge 169 = .ok (.iload 7, 2) := by decide +kernel
theorem dX1_merge_171 : decode cX1_merge 171 = .ok (.invokevirtual 64, 3) := by decide +kernel
theorem dX1_merge_174 : decode cX1_merge 174 = .ok (.pop, 1) := by decide +kernel
theorem dX1_merge_175 : decode cX1_merge 175 = .ok (.iload 7, 2) := by decide +kernel
theorem dX1_merge_177 : decode cX1_merge 177 = .ok (.istore 4, 2) := by decide +kernel
theorem dX1_merge_179 : decode cX1_merge 179 = .ok (.iinc 5 1, 3) := by decide +kernel
theorem dX1_merge_182 : decode cX1_merge 182 = .ok (.goto 5, 3) := by decide +kernel
theorem dX1_merge_185 : decode cX1_merge 185 = .ok (.iconst 0, 1) := by decide +kernel
theorem dX1_merge_186 : decode cX1_merge 186 = .ok (.ireturn, 1) := by decide +kernel
theorem dX1_merge_187 : decode cX1_merge 187 = .ok (.iinc 6 1, 3) := by decide +kernel
theorem dX1_merge_190 : decode cX1_merge 190 = .ok (.goto (-157), 3) := by decide +kernel
theorem dX1_merge_193 : decode cX1_merge 193 = .ok (.aload_n 0, 1) := by decide +kernel
theorem dX1_merge_194 : decode cX1_merge 194 = .ok (.getfield 12, 3) := by decide +kernel
theorem dX1_merge_197 : decode cX1_merge 197 = .ok (.aload_n 2, 1) := by decide +kernel
theorem dX1_merge_198 : decode cX1_merge 198 = .ok (.iload 4, 2) := by decide +kernel
theorem dX1_merge_200 : decode cX1_merge 200 = .ok (.aload_n 2, 1) := by decide +kernel
theorem dX1_merge_201 : decode cX1_merge 201 = .ok (.getfield 54, 3) := by decide +kernel
theorem dX1_merge_204 : decode cX1_merge 204 = .ok (.invokevirtual 64, 3) := by decide +kernel
theorem dX1_merge_207 : decode cX1_merge 207 = .ok (.ireturn, 1) := by decide +kernel
set_option maxRecDepth 20000 in
theorem ggX2_init_X6_init : GoodIn wsX2_init wsX6_init := goodIn_r _ [17, 18, 2, 3, 8, 19, 24] (by decide +kernel) (by decide +kernel)
set_option maxRecDepth 20000 in
theorem gX2_init_X6_init_n11 : GoodIn wsX2_init (wsX6_init) := ggX2_init_X6_init
set_option maxRecDepth 20000 in
theorem ggX2_init_X3_init : GoodIn wsX2_init wsX3_init := goodIn_r _ [21, 22, 2, 3, 8, 23, 30, 31] (by decide +kernel) (by decide +kernel)
set_option maxRecDepth 20000 in
theorem gX2_init_X3_init_n24 : GoodIn wsX2_init (wsX3_init) := ggX2_init_X3_init
theorem dX2_init_0 : decode cX2_init 0 = .ok (.aload_n 0, 1) := by decide +kernel
theorem dX2_init_1 : decode cX2_init 1 = .ok (.invokespecial 3, 3) := by decide +kernel
theorem dX2_init_4 : decode cX2_init 4 = .ok (.aload_n 0, 1) := by decide +kernel
theorem dX2_init_5 : decode cX2_init 5 = .ok (.new 9, 3) := by decide +kernel
theorem dX2_init_8 : decode cX2_init 8 = .ok (.dup, 1) := by decide +kernel
theorem dX2_init_9 : decode cX2_init 9 = .ok (.invokespecial 11, 3) := by decide +kernel
theorem dX2_init_12 : decode cX2_init 12 = .ok (.putfield 12, 3) := by decide +kernel
theorem dX2_init_15 : decode cX2_init 15 = .ok (.aload_n 0, 1) := by decide +kernel
theorem dX2_init_16 : decode cX2_init 16 = .ok (.bipush 60, 2) := by decide +kernel
theorem dX2_init_18 : decode cX2_init 18 = .ok (.newarray .int, 2) := by decide +kernel
theorem dX2_init_20 : decode cX2_init 20 = .ok (.putfield 18, 3) := by decide +kernel
theorem dX2_init_23 : decode cX2_init 23 = .ok (.aload_n 0, 1) := by decide +kernel
theorem dX2_init_24 : decode cX2_init 24 = .ok (.new 22, 3) := by decide +kernel
theorem dX2_init_27 : decode cX2_init 27 = .ok (.dup, 1) := by decide +kernel
theorem dX2_init_28 : decode cX2_init 28 = .ok (.invokespecial 24, 3) := by decide +kernel
theorem dX2_init_31 : decode cX2_init 31 = .ok (.putfield 25, 3) := by decide +kernel
theorem dX2_init_34 : decode cX2_init 34 = .ok (.aload_n 0, 1) := by decide +kernel
theorem dX2_init_35 : decode cX2_init 35 = .ok (.new 22, 3) := by decide +kernel
theorem dX2_init_38 : decode cX2_init 38 = .ok (.dup, 1) := by decide +kernel
theorem dX2_init_39 : decode cX2_init 39 = .ok (.invokespecial 24, 3) := by decide +kernel
theorem dX2_init_42 : decode cX2_init 42 = .ok (.putfield 29, 3) := by decide +kernel
theorem dX2_init_45 : decode cX2_init 45 = .ok (.aload_n 0, 1) := by decide +kernel
theorem dX2_init_46 : decode cX2_init 46 = .ok (.new 22, 3) := by decide +kernel
theorem dX2_init_49 : decode cX2_init 49 = .ok (.dup, 1) := by decide +kernel
theorem dX2_init_50 : decode cX2_init 50 = .ok (.invokespecial 24, 3) := by decide +kernel
theorem dX2_init_53 : decode cX2_init 53 = .ok (.putfield 32, 3) := by decide +kernel
theorem dX2_init_56 : decode cX2_init 56 = .ok (.return_, 1) := by decide +kernel
set_option maxRecDepth 20000 in
theorem ggX2_firstPlace_X6_measure : GoodIn wsX2_firstPlace wsX6_measure := goodIn_r _ [8, 9, 10, 11, 12, 13, 14, 15, 16, 17, 18, 32, 33, 37, 38, 39, 40, 41] (by decide +kernel) (by decide +kernel)
set_option maxRecDepth 20000 in
theorem gX2_firstPlace_X6_measure : GoodIn wsX2_firstPlace (wsV RX2 35 RX6 yX6_measure wsX6_measure) := goodIn_app (goodIn_of _ (by decide +kernel)) ggX2_firstPlace_X6_measure
set_option maxRecDepth 20000 in
theorem ggX2_firstPlace_X2_fits : GoodIn wsX2_firstPlace wsX2_fits := goodIn_r _ [23, 2, 24, 25, 1, 26, 32, 33, 27, 28, 29, 30, 31, 37] (by decide +kernel) (by decide +kernel)
set_option maxRecDepth 20000 in
theorem gX2_firstPlace_X2_fits : GoodIn wsX2_firstPlace (wsV RX2 48 RX2 yX2_fits wsX2_fits) := goodIn_app (goodIn_of _ (by decide +kernel)) ggX2_firstPlace_X2_fits
theorem dX2_firstPlace_0 : decode cX2_firstPlace 0 = .ok (.aload_n 0, 1) := by decide +kernel
theorem dX2_firstPlace_1 : decode cX2_firstPlace 1 = .ok (.getfield 12, 3) := by decide +kernel
theorem dX2_firstPlace_4 : decode cX2_firstPlace 4 = .ok (.aload_n 1, 1) := by decide +kernel
theorem dX2_firstPlace_5 : decode cX2_firstPlace 5 = .ok (.aload_n 3, 1) := by decide +kernel
theorem dX2_firstPlace_6 : decode cX2_firstPlace 6 = .ok (.invokevirtual 35, 3) := by decide +kernel
theorem dX2_firstPlace_9 : decode cX2_firstPlace 9 = .ok (.iconst 0, 1) := by decide +kernel
theorem dX2_firstPlace_10 : decode cX2_firstPlace 10 = .ok (.istore 4, 2) := by decide +kernel
theorem dX2_firstPlace_12 : decode cX2_firstPlace 12 = .ok (.iload 4, 2) := by decide +kernel
theorem dX2_firstPlace_14 : decode cX2_firstPlace 14 = .ok (.aload_n 3, 1) := by decide +kernel
theorem dX2_firstPlace_15 : decode cX2_firstPlace 15 = .ok (.getfield 39, 3) := by decide +kernel
theorem dX2_firstPlace_18 : decode cX2_firstPlace 18 = .ok (.if_icmp .ge 26, 3) := by decide +kernel
theorem dX2_firstPlace_21 : decode cX2_firstPlace 21 = .ok (.aload_n 0, 1) := by decide +kernel
theorem dX2_firstPlace_22 : decode cX2_firstPlace 22 = .ok (.aload_n 2, 1) := by decide +kernel
theorem dX2_firstPlace_23 : decode cX2_firstPlace 23 = .ok (.getfield 43, 3) := by decide +kernel
theorem dX2_firstPlace_26 : decode cX2_firstPlace 26 = .ok (.aload_n 3, 1) := by decide +kernel
theorem dX2_firstPlace_27 : decode cX2_firstPlace 27 = .ok (.iload 4, 2) := by decide +kernel
theorem dX2_firstPlace_29 : decode cX2_firstPlace 29 = .ok (.invokevirtual 48, 3) := by decide +kernel
theorem dX2_firstPlace_32 : decode cX2_firstPlace 32 = .ok (.ifCond .eq 6, 3) := by decide +kernel
theorem dX2_firstPlace_35 : decode cX2_firstPlace 35 = .ok (.iload 4, 2) := by decide +kernel
theorem dX2_firstPlace_37 : decode cX2_firstPlace 37 = .ok (.ireturn, 1) := by decide +kernel
theorem dX2_firstPlace_38 : decode cX2_firstPlace 38 = .ok (.iinc 4 1, 3) := by decide +kernel
theorem dX2_firstPlace_41 : decode cX2_firstPlace 41 = .ok (.goto (-29), 3) := by decide +kernel
theorem dX2_firstPlace_44 : decode cX2_firstPlace 44 = .ok (.iconst (-1), 1) := by decide +kernel
theorem dX2_firstPlace_45 : decode cX2_firstPlace 45 = .ok (.ireturn, 1) := by decide +kernel
set_option maxRecDepth 20000 in
theorem ggX2_advance_X6_measure : GoodIn wsX2_advance wsX6_measure := goodIn_r _ [11, 12, 13, 14, 15, 16, 17, 18, 19, 20, 21, 64, 65, 73, 66, 67, 68, 69] (by decide +kernel) (by decide +kernel)
set_option maxRecDepth 20000 in
theorem gX2_advance_X6_measure : GoodIn wsX2_advance (wsV RX2 35 RX6 yX6_measure wsX6_measure) := goodIn_app (goodIn_of _ (by decide +kernel)) ggX2_advance_X6_measure
set_option maxRecDepth 20000 in
theorem ggX2_advance_X2_fits : GoodIn wsX2_advance wsX2_fits := goodIn_r _ [26, 2, 4, 27, 1, 28, 64, 65, 59, 60, 61, 62, 63, 73] (by decide +kernel) (by decide +kernel)
set_option maxRecDepth 20000 in
theorem gX2_advance_X2_fits : GoodIn wsX2_advance (wsV RX2 48 RX2 yX2_fits wsX2_fits) := goodIn_app (goodIn_of _ (by decide +kernel)) ggX2_advance_X2_fits
set_option maxRecDepth 20000 in
theorem ggX2_advance_X2_replace : GoodIn wsX2_advance wsX2_replace := goodIn_r _ [32, 33, 34, 35, 2, 4, 27, 1, 28, 36, 37, 38, 39, 40, 41, 42, 43, 44, 45, 46, 47, 48, 49, 50, 51, 52, 53, 54, 55, 56, 57, 58, 70, 71, 72, 59, 60, 61, 62, 63, 64, 65, 73] (by decide +kernel) (by decide +kernel)
set_option maxRecDepth 20000 in
theorem gX2_advance_X2_replace : GoodIn wsX2_advance (wsV RX2 64 RX2 yX2_replace wsX2_replace) := goodIn_app (goodIn_of _ (by decide +kernel)) ggX2_advance_X2_replace
theorem dX2_advance_0 : decode cX2_advance 0 = .ok (.aload_n 0, 1) := by decide +kernel
theorem dX2_advance_1 : decode cX2_advance 1 = .ok (.getfield 12, 3) := by decide +kernel
theorem dX2_advance_4 : decode cX2_advance 4 = .ok (.aload_n 1, 1) := by decide +kernel
theorem dX2_advance_5 : decode cX2_advance 5 = .ok (.aload_n 2, 1) := by decide +kernel
theorem dX2_advance_6 : decode cX2_advance 6 = .ok (.invokevirtual 35, 3) := by decide +kernel
theorem dX2_advance_9 : decode cX2_advance 9 = .ok (.iconst 0, 1) := by decide +kernel
theorem dX2_advance_10 : decode cX2_advance 10 = .ok (.istore_n 3, 1) := by decide +kernel
theorem dX2_advance_11 : decode cX2_advance 11 = .ok (.iload_n 3, 1) := by decide +kernel
theorem dX2_advance_12 : decode cX2_advance 12 = .ok (.aload_n 2, 1) := by decide +kernel
theorem dX2_advance_13 : decode cX2_advance 13 = .ok (.getfield 39, 3) := by decide +kernel
theorem dX2_advance_16 : decode cX2_advance 16 = .ok (.if_icmp .ge 70, 3) := by decide +kernel
theorem dX2_advance_19 : decode cX2_advance 19 = .ok (.iconst 0, 1) := by decide +kernel
theorem dX2_advance_20 : decode cX2_advance 20 = .ok (.istore 4, 2) := by decide +kernel
theorem dX2_advance_22 : decode cX2_advance 22 = .ok (.iload 4, 2) := by decide +kernel
theorem dX2_advance_24 : decode cX2_advance 24 = .ok (.aload_n 1, 1) := by decide +kernel
theorem dX2_advance_25 : decode cX2_advance 25 = .ok (.getfield 52, 3) := by decide +kernel
theorem dX2_advance_28 : decode cX2_advance 28 = .ok (.if_icmp .ge 52, 3) := by decide +kernel
theorem dX2_advance_31 : decode cX2_advance 31 = .ok (.aload_n 2, 1) := by decide +kernel
theorem dX2_advance_32 : decode cX2_advance 32 = .ok (.getfield 57, 3) := by decide +kernel
theorem dX2_advance_35 : decode cX2_advance 35 = .ok (.iload_n 3, 1) := by decide +kernel
theorem dX2_advance_36 : decode cX2_advance 36 = .ok (.iaload, 1) := by decide +kernel
theorem dX2_advance_37 : decode cX2_advance 37 = .ok (.iconst (-1), 1) := by decide +kernel
theorem dX2_advance_38 : decode cX2_advance 38 = .ok (.if_icmp .eq 42, 3) := by decide +kernel
theorem dX2_advance_41 : decode cX2_advance 41 = .ok (.aload_n 0, 1) := by decide +kernel
theorem dX2_advance_42 : decode cX2_advance 42 = .ok (.aload_n 1, 1) := by decide +kernel
theorem dX2_advance_43 : decode cX2_advance 43 = .ok (.getfield 60, 3) := by decide +kernel
theorem dX2_advance_46 : decode cX2_advance 46 = .ok (.iload 4, 2) := by decide +kernel
theorem dX2_advance_48 : decode cX2_advance 48 = .ok (.aaload, 1) := by decide +kernel
theorem dX2_advance_49 : decode cX2_advance 49 = .ok (.getfield 43, 3) := by decide +kernel
theorem dX2_advance_52 : decode cX2_advance 52 = .ok (.aload_n 2, 1) := by decide +kernel
theorem dX2_advance_53 : decode cX2_advance 53 = .ok (.iload_n 3, 1) := by decide +kernel
theorem dX2_advance_54 : decode cX2_advance 54 = .ok (.invokevirtual 48, 3) := by decide +kernel
theorem dX2_advance_57 : decode cX2_advance 57 = .ok (.ifCond .eq 17, 3) := by decide +kernel
theorem dX2_advance_60 : decode cX2_advance 60 = .ok (.aload_n 0, 1) := by decide +kernel
theorem dX2_advance_61 : decode cX2_advance 61 = .ok (.aload_n 1, 1) := by decide +kernel
theorem dX2_advance_62 : decode cX2_advance 62 = .ok (.getfield 60, 3) := by decide +kernel
theorem dX2_advance_65 : decode cX2_advance 65 = .ok (.iload 4, 2) := by decide +kernel
theorem dX2_advance_67 : decode cX2_advance 67 = .ok (.aaload, 1) := by decide +kernel
theorem dX2_advance_68 : decode cX2_advance 68 = .ok (.aload_n 2, 1) := by decide +kernel
theorem dX2_advance_69 : decode cX2_advance 69 = .ok (.iload_n 3, 1) := by decide +kernel
theorem dX2_advance_70 : decode cX2_advance 70 = .ok (.invokevirtual 64, 3) := by decide +kernel
theorem dX2_advance_73 : decode cX2_advance 73 = .ok (.ireturn, 1) := by decide +kernel
theorem dX2_advance_74 : decode cX2_advance 74 = .ok (.iinc 4 1, 3) := by decide +kernel
theorem dX2_advance_77 : decode cX2_advance 77 = .ok (.goto (-55), 3) := by decide +kernel
theorem dX2_advance_80 : decode cX2_advance 80 = .ok (.iinc 3 1, 3) := by decide +kernel
theorem dX2_advance_83 : decode cX2_advance 83 = .ok (.goto (-72), 3) := by decide +kernel
theorem dX2_advance_86 : decode cX2_advance 86 = .ok (.iconst 0, 1) := by decide +kernel
theorem dX2_advance_87 : decode cX2_advance 87 = .ok (.ireturn, 1) := by decide +kernel
