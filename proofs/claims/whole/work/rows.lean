section
-- ===== PART A: goes FIRST, ahead of the names: the tables' words, and 'selects' of the private methods out of them =====
/-- a private method of a class that the tables say can be made, by its rows of tables_1 -/
def lw_okq (q : MethodName × Nat) : Prop := (q.1.cls ≠ "java/lang/invoke/MethodHandle" ∧ q.1.cls ≠ "java/lang/invoke/VarHandle") ∧ Cond.instantiable q.1.cls q.2 ∈ tables_1 ∧ Cond.privateMethod q.1 ∈ tables_1 ∧ Cond.instanceMethod q.1 ∈ tables_1
theorem lw_p0 : lw_okq (⟨"LeafTrees", "forget", "()V"⟩, 14) := ⟨⟨by decide +kernel, by decide +kernel⟩, List.mem_of_getElem? (i := 16) (by decide +kernel), List.mem_of_getElem? (i := 287) (by decide +kernel), List.mem_of_getElem? (i := 288) (by decide +kernel)⟩
theorem lw_p1 : lw_okq (⟨"LeafTrees$Shape", "actsOver", "(LLeafTrees$Row;I)I"⟩, 1) := ⟨⟨by decide +kernel, by decide +kernel⟩, List.mem_of_getElem? (i := 108) (by decide +kernel), List.mem_of_getElem? (i := 359) (by decide +kernel), List.mem_of_getElem? (i := 360) (by decide +kernel)⟩
theorem lw_p2 : lw_okq (⟨"LeafTrees", "isTreeRow", "(I)Z"⟩, 14) := ⟨⟨by decide +kernel, by decide +kernel⟩, List.mem_of_getElem? (i := 16) (by decide +kernel), List.mem_of_getElem? (i := 368) (by decide +kernel), List.mem_of_getElem? (i := 369) (by decide +kernel)⟩
theorem lw_p3 : lw_okq (⟨"LeafTrees", "bring", "(LLeafTrees$Row;I)I"⟩, 14) := ⟨⟨by decide +kernel, by decide +kernel⟩, List.mem_of_getElem? (i := 16) (by decide +kernel), List.mem_of_getElem? (i := 383) (by decide +kernel), List.mem_of_getElem? (i := 384) (by decide +kernel)⟩
theorem lw_p4 : lw_okq (⟨"LeafTrees", "isLeft", "(I)Z"⟩, 14) := ⟨⟨by decide +kernel, by decide +kernel⟩, List.mem_of_getElem? (i := 16) (by decide +kernel), List.mem_of_getElem? (i := 403) (by decide +kernel), List.mem_of_getElem? (i := 404) (by decide +kernel)⟩
theorem lw_p5 : lw_okq (⟨"LeafTrees$Rewriter", "fits", "(LLeafTrees$Row;LLeafTrees$Row;I)Z"⟩, 5) := ⟨⟨by decide +kernel, by decide +kernel⟩, List.mem_of_getElem? (i := 119) (by decide +kernel), List.mem_of_getElem? (i := 437) (by decide +kernel), List.mem_of_getElem? (i := 438) (by decide +kernel)⟩
theorem lw_p6 : lw_okq (⟨"LeafTrees$Rewriter", "replace", "(LLeafTrees$Rule;LLeafTrees$Row;I)I"⟩, 5) := ⟨⟨by decide +kernel, by decide +kernel⟩, List.mem_of_getElem? (i := 119) (by decide +kernel), List.mem_of_getElem? (i := 449) (by decide +kernel), List.mem_of_getElem? (i := 450) (by decide +kernel)⟩
theorem lw_p7 : lw_okq (⟨"LeafTrees", "learnMany", "()V"⟩, 14) := ⟨⟨by decide +kernel, by decide +kernel⟩, List.mem_of_getElem? (i := 16) (by decide +kernel), List.mem_of_getElem? (i := 474) (by decide +kernel), List.mem_of_getElem? (i := 475) (by decide +kernel)⟩
theorem lw_p8 : lw_okq (⟨"LeafTrees$Census", "clear", "()V"⟩, 6) := ⟨⟨by decide +kernel, by decide +kernel⟩, List.mem_of_getElem? (i := 177) (by decide +kernel), List.mem_of_getElem? (i := 482) (by decide +kernel), List.mem_of_getElem? (i := 483) (by decide +kernel)⟩
theorem lw_p9 : lw_okq (⟨"LeafTrees$Census", "forbid", "(LLeafTrees$World;LLeafTrees$Row;)V"⟩, 6) := ⟨⟨by decide +kernel, by decide +kernel⟩, List.mem_of_getElem? (i := 177) (by decide +kernel), List.mem_of_getElem? (i := 486) (by decide +kernel), List.mem_of_getElem? (i := 487) (by decide +kernel)⟩
theorem lw_p10 : lw_okq (⟨"LeafTrees$Census", "addNode", "(IZ)I"⟩, 6) := ⟨⟨by decide +kernel, by decide +kernel⟩, List.mem_of_getElem? (i := 177) (by decide +kernel), List.mem_of_getElem? (i := 490) (by decide +kernel), List.mem_of_getElem? (i := 491) (by decide +kernel)⟩
theorem lw_p11 : lw_okq (⟨"LeafTrees$Census", "linkEntries", "(LLeafTrees$World;LLeafTrees$Row;II)V"⟩, 6) := ⟨⟨by decide +kernel, by decide +kernel⟩, List.mem_of_getElem? (i := 177) (by decide +kernel), List.mem_of_getElem? (i := 494) (by decide +kernel), List.mem_of_getElem? (i := 495) (by decide +kernel)⟩
theorem lw_p12 : lw_okq (⟨"LeafTrees$Census", "startTallies", "()V"⟩, 6) := ⟨⟨by decide +kernel, by decide +kernel⟩, List.mem_of_getElem? (i := 177) (by decide +kernel), List.mem_of_getElem? (i := 507) (by decide +kernel), List.mem_of_getElem? (i := 508) (by decide +kernel)⟩
theorem lw_p13 : lw_okq (⟨"LeafTrees$Census", "treesUnder", "(III)J"⟩, 6) := ⟨⟨by decide +kernel, by decide +kernel⟩, List.mem_of_getElem? (i := 177) (by decide +kernel), List.mem_of_getElem? (i := 531) (by decide +kernel), List.mem_of_getElem? (i := 532) (by decide +kernel)⟩
theorem lw_p14 : lw_okq (⟨"LeafTrees$Census", "join", "(IILLeafTrees$Tally;LLeafTrees$Tally;LLeafTrees$Tally;)J"⟩, 6) := ⟨⟨by decide +kernel, by decide +kernel⟩, List.mem_of_getElem? (i := 177) (by decide +kernel), List.mem_of_getElem? (i := 535) (by decide +kernel), List.mem_of_getElem? (i := 536) (by decide +kernel)⟩
theorem lw_p15 : lw_okq (⟨"LeafTrees$Census", "kindOf", "(IJJJ)J"⟩, 6) := ⟨⟨by decide +kernel, by decide +kernel⟩, List.mem_of_getElem? (i := 177) (by decide +kernel), List.mem_of_getElem? (i := 539) (by decide +kernel), List.mem_of_getElem? (i := 540) (by decide +kernel)⟩
def lw_privs_1 : List (MethodName × Nat) := [(⟨"LeafTrees", "forget", "()V"⟩, 14), (⟨"LeafTrees$Shape", "actsOver", "(LLeafTrees$Row;I)I"⟩, 1), (⟨"LeafTrees", "isTreeRow", "(I)Z"⟩, 14), (⟨"LeafTrees", "bring", "(LLeafTrees$Row;I)I"⟩, 14), (⟨"LeafTrees", "isLeft", "(I)Z"⟩, 14), (⟨"LeafTrees$Rewriter", "fits", "(LLeafTrees$Row;LLeafTrees$Row;I)Z"⟩, 5), (⟨"LeafTrees$Rewriter", "replace", "(LLeafTrees$Rule;LLeafTrees$Row;I)I"⟩, 5), (⟨"LeafTrees", "learnMany", "()V"⟩, 14), (⟨"LeafTrees$Census", "clear", "()V"⟩, 6), (⟨"LeafTrees$Census", "forbid", "(LLeafTrees$World;LLeafTrees$Row;)V"⟩, 6), (⟨"LeafTrees$Census", "addNode", "(IZ)I"⟩, 6), (⟨"LeafTrees$Census", "linkEntries", "(LLeafTrees$World;LLeafTrees$Row;II)V"⟩, 6), (⟨"LeafTrees$Census", "startTallies", "()V"⟩, 6), (⟨"LeafTrees$Census", "treesUnder", "(III)J"⟩, 6), (⟨"LeafTrees$Census", "join", "(IILLeafTrees$Tally;LLeafTrees$Tally;LLeafTrees$Tally;)J"⟩, 6), (⟨"LeafTrees$Census", "kindOf", "(IJJJ)J"⟩, 6)]
theorem lw_r1 : ∀ q ∈ lw_privs_1, lw_okq q := List.forall_mem_cons.mpr ⟨lw_p0, List.forall_mem_cons.mpr ⟨lw_p1, List.forall_mem_cons.mpr ⟨lw_p2, List.forall_mem_cons.mpr ⟨lw_p3, List.forall_mem_cons.mpr ⟨lw_p4, List.forall_mem_cons.mpr ⟨lw_p5, List.forall_mem_cons.mpr ⟨lw_p6, List.forall_mem_cons.mpr ⟨lw_p7, List.forall_mem_cons.mpr ⟨lw_p8, List.forall_mem_cons.mpr ⟨lw_p9, List.forall_mem_cons.mpr ⟨lw_p10, List.forall_mem_cons.mpr ⟨lw_p11, List.forall_mem_cons.mpr ⟨lw_p12, List.forall_mem_cons.mpr ⟨lw_p13, List.forall_mem_cons.mpr ⟨lw_p14, List.forall_mem_cons.mpr ⟨lw_p15, fun _ h => absurd h List.not_mem_nil⟩⟩⟩⟩⟩⟩⟩⟩⟩⟩⟩⟩⟩⟩⟩⟩
theorem lw_p16 : lw_okq (⟨"LeafTrees$Census", "keep", "(IJJ)V"⟩, 6) := ⟨⟨by decide +kernel, by decide +kernel⟩, List.mem_of_getElem? (i := 177) (by decide +kernel), List.mem_of_getElem? (i := 544) (by decide +kernel), List.mem_of_getElem? (i := 545) (by decide +kernel)⟩
theorem lw_p17 : lw_okq (⟨"LeafTrees$Peaks", "mayOverlap", "(LLeafTrees$World;)Z"⟩, 5) := ⟨⟨by decide +kernel, by decide +kernel⟩, List.mem_of_getElem? (i := 145) (by decide +kernel), List.mem_of_getElem? (i := 560) (by decide +kernel), List.mem_of_getElem? (i := 561) (by decide +kernel)⟩
theorem lw_p18 : lw_okq (⟨"LeafTrees$Peaks", "merge", "(LLeafTrees$World;LLeafTrees$Row;LLeafTrees$Row;)Z"⟩, 5) := ⟨⟨by decide +kernel, by decide +kernel⟩, List.mem_of_getElem? (i := 145) (by decide +kernel), List.mem_of_getElem? (i := 565) (by decide +kernel), List.mem_of_getElem? (i := 566) (by decide +kernel)⟩
theorem lw_p19 : lw_okq (⟨"LeafTrees$Rewriter", "goDown", "(LLeafTrees$World;ILLeafTrees$Row;I)I"⟩, 5) := ⟨⟨by decide +kernel, by decide +kernel⟩, List.mem_of_getElem? (i := 119) (by decide +kernel), List.mem_of_getElem? (i := 585) (by decide +kernel), List.mem_of_getElem? (i := 586) (by decide +kernel)⟩
theorem lw_p20 : lw_okq (⟨"LeafTrees$Series", "rowsOf", "(II)J"⟩, 2) := ⟨⟨by decide +kernel, by decide +kernel⟩, List.mem_of_getElem? (i := 225) (by decide +kernel), List.mem_of_getElem? (i := 600) (by decide +kernel), List.mem_of_getElem? (i := 601) (by decide +kernel)⟩
theorem lw_p21 : lw_okq (⟨"LeafTrees", "learnDual", "()V"⟩, 14) := ⟨⟨by decide +kernel, by decide +kernel⟩, List.mem_of_getElem? (i := 16) (by decide +kernel), List.mem_of_getElem? (i := 614) (by decide +kernel), List.mem_of_getElem? (i := 615) (by decide +kernel)⟩
theorem lw_p22 : lw_okq (⟨"LeafTrees$Census", "forbidUnlessLeft", "(LLeafTrees$World;III)V"⟩, 6) := ⟨⟨by decide +kernel, by decide +kernel⟩, List.mem_of_getElem? (i := 177) (by decide +kernel), List.mem_of_getElem? (i := 622) (by decide +kernel), List.mem_of_getElem? (i := 623) (by decide +kernel)⟩
theorem lw_p23 : lw_okq (⟨"LeafTrees", "treeRows", "()I"⟩, 14) := ⟨⟨by decide +kernel, by decide +kernel⟩, List.mem_of_getElem? (i := 16) (by decide +kernel), List.mem_of_getElem? (i := 634) (by decide +kernel), List.mem_of_getElem? (i := 635) (by decide +kernel)⟩
theorem lw_p24 : lw_okq (⟨"LeafTreesModel", "comes", "(II)V"⟩, 22) := ⟨⟨by decide +kernel, by decide +kernel⟩, List.mem_of_getElem? (i := 654) (by decide +kernel), List.mem_of_getElem? (i := 742) (by decide +kernel), List.mem_of_getElem? (i := 743) (by decide +kernel)⟩
theorem lw_p25 : lw_okq (⟨"LeafTreesModel", "isTree", "(I)Z"⟩, 22) := ⟨⟨by decide +kernel, by decide +kernel⟩, List.mem_of_getElem? (i := 654) (by decide +kernel), List.mem_of_getElem? (i := 758) (by decide +kernel), List.mem_of_getElem? (i := 759) (by decide +kernel)⟩
theorem lw_p26 : lw_okq (⟨"LeafTreesModel", "end", "(II)I"⟩, 22) := ⟨⟨by decide +kernel, by decide +kernel⟩, List.mem_of_getElem? (i := 654) (by decide +kernel), List.mem_of_getElem? (i := 762) (by decide +kernel), List.mem_of_getElem? (i := 763) (by decide +kernel)⟩
theorem lw_p27 : lw_okq (⟨"LeafTreesModel", "wants", "(I)I"⟩, 22) := ⟨⟨by decide +kernel, by decide +kernel⟩, List.mem_of_getElem? (i := 654) (by decide +kernel), List.mem_of_getElem? (i := 766) (by decide +kernel), List.mem_of_getElem? (i := 767) (by decide +kernel)⟩
theorem lw_p28 : lw_okq (⟨"LeafTreesModel", "leaves", "(I)I"⟩, 22) := ⟨⟨by decide +kernel, by decide +kernel⟩, List.mem_of_getElem? (i := 654) (by decide +kernel), List.mem_of_getElem? (i := 770) (by decide +kernel), List.mem_of_getElem? (i := 771) (by decide +kernel)⟩
theorem lw_p29 : lw_okq (⟨"LeafTreesModel", "height", "(I)I"⟩, 22) := ⟨⟨by decide +kernel, by decide +kernel⟩, List.mem_of_getElem? (i := 654) (by decide +kernel), List.mem_of_getElem? (i := 774) (by decide +kernel), List.mem_of_getElem? (i := 775) (by decide +kernel)⟩
theorem lw_p30 : lw_okq (⟨"LeafTreesModel", "isTreeRow", "(I)Z"⟩, 22) := ⟨⟨by decide +kernel, by decide +kernel⟩, List.mem_of_getElem? (i := 654) (by decide +kernel), List.mem_of_getElem? (i := 782) (by decide +kernel), List.mem_of_getElem? (i := 783) (by decide +kernel)⟩
theorem lw_p31 : lw_okq (⟨"LeafTreesModel", "adds", "(IIII)Z"⟩, 22) := ⟨⟨by decide +kernel, by decide +kernel⟩, List.mem_of_getElem? (i := 654) (by decide +kernel), List.mem_of_getElem? (i := 786) (by decide +kernel), List.mem_of_getElem? (i := 787) (by decide +kernel)⟩
def lw_privs_2 : List (MethodName × Nat) := [(⟨"LeafTrees$Census", "keep", "(IJJ)V"⟩, 6), (⟨"LeafTrees$Peaks", "mayOverlap", "(LLeafTrees$World;)Z"⟩, 5), (⟨"LeafTrees$Peaks", "merge", "(LLeafTrees$World;LLeafTrees$Row;LLeafTrees$Row;)Z"⟩, 5), (⟨"LeafTrees$Rewriter", "goDown", "(LLeafTrees$World;ILLeafTrees$Row;I)I"⟩, 5), (⟨"LeafTrees$Series", "rowsOf", "(II)J"⟩, 2), (⟨"LeafTrees", "learnDual", "()V"⟩, 14), (⟨"LeafTrees$Census", "forbidUnlessLeft", "(LLeafTrees$World;III)V"⟩, 6), (⟨"LeafTrees", "treeRows", "()I"⟩, 14), (⟨"LeafTreesModel", "comes", "(II)V"⟩, 22), (⟨"LeafTreesModel", "isTree", "(I)Z"⟩, 22), (⟨"LeafTreesModel", "end", "(II)I"⟩, 22), (⟨"LeafTreesModel", "wants", "(I)I"⟩, 22), (⟨"LeafTreesModel", "leaves", "(I)I"⟩, 22), (⟨"LeafTreesModel", "height", "(I)I"⟩, 22), (⟨"LeafTreesModel", "isTreeRow", "(I)Z"⟩, 22), (⟨"LeafTreesModel", "adds", "(IIII)Z"⟩, 22)]
theorem lw_r2 : ∀ q ∈ lw_privs_2, lw_okq q := List.forall_mem_cons.mpr ⟨lw_p16, List.forall_mem_cons.mpr ⟨lw_p17, List.forall_mem_cons.mpr ⟨lw_p18, List.forall_mem_cons.mpr ⟨lw_p19, List.forall_mem_cons.mpr ⟨lw_p20, List.forall_mem_cons.mpr ⟨lw_p21, List.forall_mem_cons.mpr ⟨lw_p22, List.forall_mem_cons.mpr ⟨lw_p23, List.forall_mem_cons.mpr ⟨lw_p24, List.forall_mem_cons.mpr ⟨lw_p25, List.forall_mem_cons.mpr ⟨lw_p26, List.forall_mem_cons.mpr ⟨lw_p27, List.forall_mem_cons.mpr ⟨lw_p28, List.forall_mem_cons.mpr ⟨lw_p29, List.forall_mem_cons.mpr ⟨lw_p30, List.forall_mem_cons.mpr ⟨lw_p31, fun _ h => absurd h List.not_mem_nil⟩⟩⟩⟩⟩⟩⟩⟩⟩⟩⟩⟩⟩⟩⟩⟩
theorem lw_p32 : lw_okq (⟨"LeafTreesModel", "copy", "(II)V"⟩, 22) := ⟨⟨by decide +kernel, by decide +kernel⟩, List.mem_of_getElem? (i := 654) (by decide +kernel), List.mem_of_getElem? (i := 790) (by decide +kernel), List.mem_of_getElem? (i := 791) (by decide +kernel)⟩
theorem lw_p33 : lw_okq (⟨"LeafTreesModel", "isSame", "(II)Z"⟩, 22) := ⟨⟨by decide +kernel, by decide +kernel⟩, List.mem_of_getElem? (i := 654) (by decide +kernel), List.mem_of_getElem? (i := 798) (by decide +kernel), List.mem_of_getElem? (i := 799) (by decide +kernel)⟩
theorem lw_p34 : lw_okq (⟨"LeafTreesModel", "isLeft", "(I)Z"⟩, 22) := ⟨⟨by decide +kernel, by decide +kernel⟩, List.mem_of_getElem? (i := 654) (by decide +kernel), List.mem_of_getElem? (i := 806) (by decide +kernel), List.mem_of_getElem? (i := 807) (by decide +kernel)⟩
theorem lw_p35 : lw_okq (⟨"LeafTreesModel", "comesRule", "(II)I"⟩, 22) := ⟨⟨by decide +kernel, by decide +kernel⟩, List.mem_of_getElem? (i := 654) (by decide +kernel), List.mem_of_getElem? (i := 810) (by decide +kernel), List.mem_of_getElem? (i := 811) (by decide +kernel)⟩
theorem lw_p36 : lw_okq (⟨"LeafTreesModel", "isRule", "(I)Z"⟩, 22) := ⟨⟨by decide +kernel, by decide +kernel⟩, List.mem_of_getElem? (i := 654) (by decide +kernel), List.mem_of_getElem? (i := 826) (by decide +kernel), List.mem_of_getElem? (i := 827) (by decide +kernel)⟩
theorem lw_p37 : lw_okq (⟨"LeafTreesModel", "firstPlace", "(II)I"⟩, 22) := ⟨⟨by decide +kernel, by decide +kernel⟩, List.mem_of_getElem? (i := 654) (by decide +kernel), List.mem_of_getElem? (i := 834) (by decide +kernel), List.mem_of_getElem? (i := 835) (by decide +kernel)⟩
theorem lw_p38 : lw_okq (⟨"LeafTreesModel", "lies", "(III)Z"⟩, 22) := ⟨⟨by decide +kernel, by decide +kernel⟩, List.mem_of_getElem? (i := 654) (by decide +kernel), List.mem_of_getElem? (i := 838) (by decide +kernel), List.mem_of_getElem? (i := 839) (by decide +kernel)⟩
theorem lw_p39 : lw_okq (⟨"LeafTreesModel", "steps", "(I)I"⟩, 22) := ⟨⟨by decide +kernel, by decide +kernel⟩, List.mem_of_getElem? (i := 654) (by decide +kernel), List.mem_of_getElem? (i := 846) (by decide +kernel), List.mem_of_getElem? (i := 847) (by decide +kernel)⟩
theorem lw_p40 : lw_okq (⟨"LeafTreesModel", "uses", "(III)I"⟩, 22) := ⟨⟨by decide +kernel, by decide +kernel⟩, List.mem_of_getElem? (i := 654) (by decide +kernel), List.mem_of_getElem? (i := 850) (by decide +kernel), List.mem_of_getElem? (i := 851) (by decide +kernel)⟩
theorem lw_p41 : lw_okq (⟨"LeafTreesModel", "normals", "(I)I"⟩, 22) := ⟨⟨by decide +kernel, by decide +kernel⟩, List.mem_of_getElem? (i := 654) (by decide +kernel), List.mem_of_getElem? (i := 858) (by decide +kernel), List.mem_of_getElem? (i := 859) (by decide +kernel)⟩
theorem lw_p42 : lw_okq (⟨"LeafTreesModel", "counts", "()V"⟩, 22) := ⟨⟨by decide +kernel, by decide +kernel⟩, List.mem_of_getElem? (i := 654) (by decide +kernel), List.mem_of_getElem? (i := 867) (by decide +kernel), List.mem_of_getElem? (i := 868) (by decide +kernel)⟩
theorem lw_p43 : lw_okq (⟨"LeafTreesModel", "countOf", "(I)J"⟩, 22) := ⟨⟨by decide +kernel, by decide +kernel⟩, List.mem_of_getElem? (i := 654) (by decide +kernel), List.mem_of_getElem? (i := 871) (by decide +kernel), List.mem_of_getElem? (i := 872) (by decide +kernel)⟩
theorem lw_p44 : lw_okq (⟨"LeafTreesModel", "wantedYet", "()I"⟩, 22) := ⟨⟨by decide +kernel, by decide +kernel⟩, List.mem_of_getElem? (i := 654) (by decide +kernel), List.mem_of_getElem? (i := 875) (by decide +kernel), List.mem_of_getElem? (i := 876) (by decide +kernel)⟩
theorem lw_p45 : lw_okq (⟨"LeafTreesModel", "isBarred", "()Z"⟩, 22) := ⟨⟨by decide +kernel, by decide +kernel⟩, List.mem_of_getElem? (i := 654) (by decide +kernel), List.mem_of_getElem? (i := 879) (by decide +kernel), List.mem_of_getElem? (i := 880) (by decide +kernel)⟩
theorem lw_p46 : lw_okq (⟨"LeafTreesModel", "goesOn", "()Z"⟩, 22) := ⟨⟨by decide +kernel, by decide +kernel⟩, List.mem_of_getElem? (i := 654) (by decide +kernel), List.mem_of_getElem? (i := 883) (by decide +kernel), List.mem_of_getElem? (i := 884) (by decide +kernel)⟩
theorem lw_p47 : lw_okq (⟨"LeafTreesModel", "goesTo", "(I)I"⟩, 22) := ⟨⟨by decide +kernel, by decide +kernel⟩, List.mem_of_getElem? (i := 654) (by decide +kernel), List.mem_of_getElem? (i := 892) (by decide +kernel), List.mem_of_getElem? (i := 893) (by decide +kernel)⟩
def lw_privs_3 : List (MethodName × Nat) := [(⟨"LeafTreesModel", "copy", "(II)V"⟩, 22), (⟨"LeafTreesModel", "isSame", "(II)Z"⟩, 22), (⟨"LeafTreesModel", "isLeft", "(I)Z"⟩, 22), (⟨"LeafTreesModel", "comesRule", "(II)I"⟩, 22), (⟨"LeafTreesModel", "isRule", "(I)Z"⟩, 22), (⟨"LeafTreesModel", "firstPlace", "(II)I"⟩, 22), (⟨"LeafTreesModel", "lies", "(III)Z"⟩, 22), (⟨"LeafTreesModel", "steps", "(I)I"⟩, 22), (⟨"LeafTreesModel", "uses", "(III)I"⟩, 22), (⟨"LeafTreesModel", "normals", "(I)I"⟩, 22), (⟨"LeafTreesModel", "counts", "()V"⟩, 22), (⟨"LeafTreesModel", "countOf", "(I)J"⟩, 22), (⟨"LeafTreesModel", "wantedYet", "()I"⟩, 22), (⟨"LeafTreesModel", "isBarred", "()Z"⟩, 22), (⟨"LeafTreesModel", "goesOn", "()Z"⟩, 22), (⟨"LeafTreesModel", "goesTo", "(I)I"⟩, 22)]
theorem lw_r3 : ∀ q ∈ lw_privs_3, lw_okq q := List.forall_mem_cons.mpr ⟨lw_p32, List.forall_mem_cons.mpr ⟨lw_p33, List.forall_mem_cons.mpr ⟨lw_p34, List.forall_mem_cons.mpr ⟨lw_p35, List.forall_mem_cons.mpr ⟨lw_p36, List.forall_mem_cons.mpr ⟨lw_p37, List.forall_mem_cons.mpr ⟨lw_p38, List.forall_mem_cons.mpr ⟨lw_p39, List.forall_mem_cons.mpr ⟨lw_p40, List.forall_mem_cons.mpr ⟨lw_p41, List.forall_mem_cons.mpr ⟨lw_p42, List.forall_mem_cons.mpr ⟨lw_p43, List.forall_mem_cons.mpr ⟨lw_p44, List.forall_mem_cons.mpr ⟨lw_p45, List.forall_mem_cons.mpr ⟨lw_p46, List.forall_mem_cons.mpr ⟨lw_p47, fun _ h => absurd h List.not_mem_nil⟩⟩⟩⟩⟩⟩⟩⟩⟩⟩⟩⟩⟩⟩⟩⟩
theorem lw_p48 : lw_okq (⟨"LeafTreesModel", "meetsAt", "(III)Z"⟩, 22) := ⟨⟨by decide +kernel, by decide +kernel⟩, List.mem_of_getElem? (i := 654) (by decide +kernel), List.mem_of_getElem? (i := 896) (by decide +kernel), List.mem_of_getElem? (i := 897) (by decide +kernel)⟩
theorem lw_p49 : lw_okq (⟨"LeafTreesModel", "hasOverlap", "(I)Z"⟩, 22) := ⟨⟨by decide +kernel, by decide +kernel⟩, List.mem_of_getElem? (i := 654) (by decide +kernel), List.mem_of_getElem? (i := 904) (by decide +kernel), List.mem_of_getElem? (i := 905) (by decide +kernel)⟩
theorem lw_p50 : lw_okq (⟨"LeafTreesModel", "comesOf", "(III)I"⟩, 22) := ⟨⟨by decide +kernel, by decide +kernel⟩, List.mem_of_getElem? (i := 654) (by decide +kernel), List.mem_of_getElem? (i := 912) (by decide +kernel), List.mem_of_getElem? (i := 913) (by decide +kernel)⟩
theorem lw_p51 : lw_okq (⟨"LeafTreesModel", "turns", "()V"⟩, 22) := ⟨⟨by decide +kernel, by decide +kernel⟩, List.mem_of_getElem? (i := 654) (by decide +kernel), List.mem_of_getElem? (i := 920) (by decide +kernel), List.mem_of_getElem? (i := 921) (by decide +kernel)⟩
theorem lw_p52 : lw_okq (⟨"LeafTreesModel", "isDual", "()Z"⟩, 22) := ⟨⟨by decide +kernel, by decide +kernel⟩, List.mem_of_getElem? (i := 654) (by decide +kernel), List.mem_of_getElem? (i := 928) (by decide +kernel), List.mem_of_getElem? (i := 929) (by decide +kernel)⟩
theorem lw_p53 : lw_okq (⟨"LeafTreesModel", "findMay", "()V"⟩, 22) := ⟨⟨by decide +kernel, by decide +kernel⟩, List.mem_of_getElem? (i := 654) (by decide +kernel), List.mem_of_getElem? (i := 933) (by decide +kernel), List.mem_of_getElem? (i := 934) (by decide +kernel)⟩
theorem lw_p54 : lw_okq (⟨"LeafTreesModel", "below", "(III)J"⟩, 22) := ⟨⟨by decide +kernel, by decide +kernel⟩, List.mem_of_getElem? (i := 654) (by decide +kernel), List.mem_of_getElem? (i := 937) (by decide +kernel), List.mem_of_getElem? (i := 938) (by decide +kernel)⟩
theorem lw_p55 : lw_okq (⟨"LeafTreesModel", "digestRow", "(JI)J"⟩, 22) := ⟨⟨by decide +kernel, by decide +kernel⟩, List.mem_of_getElem? (i := 654) (by decide +kernel), List.mem_of_getElem? (i := 952) (by decide +kernel), List.mem_of_getElem? (i := 953) (by decide +kernel)⟩
def lw_privs_4 : List (MethodName × Nat) := [(⟨"LeafTreesModel", "meetsAt", "(III)Z"⟩, 22), (⟨"LeafTreesModel", "hasOverlap", "(I)Z"⟩, 22), (⟨"LeafTreesModel", "comesOf", "(III)I"⟩, 22), (⟨"LeafTreesModel", "turns", "()V"⟩, 22), (⟨"LeafTreesModel", "isDual", "()Z"⟩, 22), (⟨"LeafTreesModel", "findMay", "()V"⟩, 22), (⟨"LeafTreesModel", "below", "(III)J"⟩, 22), (⟨"LeafTreesModel", "digestRow", "(JI)J"⟩, 22)]
theorem lw_r4 : ∀ q ∈ lw_privs_4, lw_okq q := List.forall_mem_cons.mpr ⟨lw_p48, List.forall_mem_cons.mpr ⟨lw_p49, List.forall_mem_cons.mpr ⟨lw_p50, List.forall_mem_cons.mpr ⟨lw_p51, List.forall_mem_cons.mpr ⟨lw_p52, List.forall_mem_cons.mpr ⟨lw_p53, List.forall_mem_cons.mpr ⟨lw_p54, List.forall_mem_cons.mpr ⟨lw_p55, fun _ h => absurd h List.not_mem_nil⟩⟩⟩⟩⟩⟩⟩⟩
def lw_privs : List (MethodName × Nat) := lw_privs_1 ++ (lw_privs_2 ++ (lw_privs_3 ++ (lw_privs_4)))
def lw_tbl : List Cond := k2_sels lw_privs ++ tables_1
theorem lw_privs_ok : ∀ q ∈ lw_privs, lw_okq q := by
  show ∀ q ∈ lw_privs_1 ++ (lw_privs_2 ++ (lw_privs_3 ++ (lw_privs_4))), lw_okq q
  exact List.forall_mem_append.mpr ⟨lw_r1, List.forall_mem_append.mpr ⟨lw_r2, List.forall_mem_append.mpr ⟨lw_r3, lw_r4⟩⟩⟩
-- ===== end of PART A; then your names; then what follows =====
end
section
/-! ===== BEGIN words of one list among another's, by their places ===== -/
theorem goodIn_r {big : List Cond} (ws : List Cond) (ps : List Nat) (hp : ws = ps.filterMap (fun i => big[i]?)) (h : ws.all goodWord = true) : GoodIn big ws := by
  intro w hw
  have h1 := List.all_eq_true.mp h w hw
  rw [hp] at hw
  obtain ⟨i, -, hi⟩ := List.mem_filterMap.mp hw
  have hm : w ∈ big := by first | exact List.mem_of_getElem? hi | exact List.getElem?_mem hi
  exact ⟨hm, good_of_word h1⟩
theorem goodIn_app {big a b : List Cond} (ha : GoodIn big a) (hb : GoodIn big b) : GoodIn big (a ++ b) := fun w h => (List.mem_append.mp h).elim (ha w) (hb w)
theorem goodIn_ca {big a b : List Cond} {c : Cond} (ha : GoodIn big (c :: a)) (hb : GoodIn big b) : GoodIn big (c :: (a ++ b)) := fun w h => (List.mem_cons.mp h).elim (fun e => ha w (List.mem_cons.mpr (Or.inl e))) (fun h => (List.mem_append.mp h).elim (fun h => ha w (List.mem_cons.mpr (Or.inr h))) (hb w))
theorem goodIn_sub {big ws : List Cond} (hm : ∀ w ∈ ws, w ∈ big) (h : ws.all goodWord = true) : GoodIn big ws := fun w hw => ⟨hm w hw, good_of_word (List.all_eq_true.mp h w hw)⟩
/-! ===== END ===== -/
end
section

/-! ===== BEGIN printed: names, fields, word lists, decode rows ===== -/
def RX0 : String := "LeafTrees$Census"
def TX0 : u_T := fun k => match k with
  | 0 => ("LeafTrees$Census", "actOf", "[I", true)
  | 1 => ("LeafTrees$Census", "needs", "[[J", true)
  | 2 => ("LeafTrees$Census", "nodes", "I", false)
  | 3 => ("LeafTrees$Census", "forbidden", "J", false)
  | 4 => ("LeafTrees$Census", "bitAt", "[J", true)
  | _ => ("LeafTrees$Census", "tallies", "[LLeafTrees$Tally;", true)
def tyX0 : Nat → FieldType := fun k => match k with
  | 0 => .array .int
  | 1 => .array (.array .long)
  | 2 => .int
  | 3 => .long
  | 4 => .array .long
  | _ => .array (.object "LeafTrees$Tally")
abbrev wsX00 : List Cond := u_ws RX0 TX0 6
theorem nmX0 : ∀ a, a < 6 → ∀ b, b < 6 → a ≠ b → (TX0 a).2.1 ≠ (TX0 b).2.1 := by decide +kernel
theorem tyX0_ok : ∀ k, k < 6 → parseFieldDescriptor (TX0 k).2.2.1 = some (tyX0 k) := by decide +kernel
abbrev cX0_init : ByteArray := prog_2_method_1_code
def yX0_init : MethodName := ⟨RX0, "<init>", "()V"⟩
abbrev cX0_forbidLefts : ByteArray := prog_2_method_2_code
def yX0_forbidLefts : MethodName := ⟨RX0, "forbidLefts", "(LLeafTrees$World;)V"⟩
abbrev cX0_forbidAllButLefts : ByteArray := prog_2_method_3_code
def yX0_forbidAllButLefts : MethodName := ⟨RX0, "forbidAllButLefts", "(LLeafTrees$World;)V"⟩
abbrev cX0_run : ByteArray := prog_2_method_4_code
def yX0_run : MethodName := ⟨RX0, "run", "(LLeafTrees$World;[J)V"⟩
abbrev cX0_clear : ByteArray := prog_2_method_5_code
def yX0_clear : MethodName := ⟨RX0, "clear", "()V"⟩
abbrev cX0_addNode : ByteArray := prog_2_method_6_code
def yX0_addNode : MethodName := ⟨RX0, "addNode", "(IZ)I"⟩
abbrev cX0_forbid : ByteArray := prog_2_method_7_code
def yX0_forbid : MethodName := ⟨RX0, "forbid", "(LLeafTrees$World;LLeafTrees$Row;)V"⟩
abbrev cX0_linkEntries : ByteArray := prog_2_method_8_code
def yX0_linkEntries : MethodName := ⟨RX0, "linkEntries", "(LLeafTrees$World;LLeafTrees$Row;II)V"⟩
abbrev cX0_forbidUnlessLeft : ByteArray := prog_2_method_9_code
def yX0_forbidUnlessLeft : MethodName := ⟨RX0, "forbidUnlessLeft", "(LLeafTrees$World;III)V"⟩
abbrev cX0_startTallies : ByteArray := prog_2_method_10_code
def yX0_startTallies : MethodName := ⟨RX0, "startTallies", "()V"⟩
abbrev cX0_treesUnder : ByteArray := prog_2_method_11_code
def yX0_treesUnder : MethodName := ⟨RX0, "treesUnder", "(III)J"⟩
abbrev cX0_join : ByteArray := prog_2_method_12_code
def yX0_join : MethodName := ⟨RX0, "join", "(IILLeafTrees$Tally;LLeafTrees$Tally;LLeafTrees$Tally;)J"⟩
abbrev cX0_keep : ByteArray := prog_2_method_13_code
def yX0_keep : MethodName := ⟨RX0, "keep", "(IJJ)V"⟩
abbrev cX0_kindOf : ByteArray := prog_2_method_14_code
def yX0_kindOf : MethodName := ⟨RX0, "kindOf", "(IJJJ)J"⟩
def RX1 : String := "LeafTrees$Peaks"
def TX1 : u_T := fun k => match k with
  | 0 => ("LeafTrees$Peaks", "top", "LLeafTrees$Row;", true)
  | 1 => ("LeafTrees$Peaks", "outer", "I", false)
  | 2 => ("LeafTrees$Peaks", "inner", "I", false)
  | 3 => ("LeafTrees$Peaks", "place", "I", false)
  | _ => ("LeafTrees$Peaks", "spot", "I", false)
def tyX1 : Nat → FieldType := fun k => match k with
  | 0 => .object "LeafTrees$Row"
  | 1 => .int
  | 2 => .int
  | 3 => .int
  | _ => .int
abbrev wsX10 : List Cond := u_ws RX1 TX1 5
theorem nmX1 : ∀ a, a < 5 → ∀ b, b < 5 → a ≠ b → (TX1 a).2.1 ≠ (TX1 b).2.1 := by decide +kernel
theorem tyX1_ok : ∀ k, k < 5 → parseFieldDescriptor (TX1 k).2.2.1 = some (tyX1 k) := by decide +kernel
abbrev cX1_init : ByteArray := prog_3_method_1_code
def yX1_init : MethodName := ⟨RX1, "<init>", "()V"⟩
abbrev cX1_restart : ByteArray := prog_3_method_2_code
def yX1_restart : MethodName := ⟨RX1, "restart", "()V"⟩
abbrev cX1_next : ByteArray := prog_3_method_3_code
def yX1_next : MethodName := ⟨RX1, "next", "(LLeafTrees$World;)Z"⟩
abbrev cX1_mayOverlap : ByteArray := prog_3_method_4_code
def yX1_mayOverlap : MethodName := ⟨RX1, "mayOverlap", "(LLeafTrees$World;)Z"⟩
abbrev cX1_merge : ByteArray := prog_3_method_5_code
def yX1_merge : MethodName := ⟨RX1, "merge", "(LLeafTrees$World;LLeafTrees$Row;LLeafTrees$Row;)Z"⟩
def RX2 : String := "LeafTrees$Rewriter"
def TX2 : u_T := fun k => match k with
  | 0 => ("LeafTrees$Rewriter", "shape", "LLeafTrees$Shape;", true)
  | 1 => ("LeafTrees$Rewriter", "caught", "[I", true)
  | 2 => ("LeafTrees$Rewriter", "made", "LLeafTrees$Row;", true)
  | 3 => ("LeafTrees$Rewriter", "one", "LLeafTrees$Row;", true)
  | _ => ("LeafTrees$Rewriter", "other", "LLeafTrees$Row;", true)
def tyX2 : Nat → FieldType := fun k => match k with
  | 0 => .object "LeafTrees$Shape"
  | 1 => .array .int
  | 2 => .object "LeafTrees$Row"
  | 3 => .object "LeafTrees$Row"
  | _ => .object "LeafTrees$Row"
abbrev wsX20 : List Cond := u_ws RX2 TX2 5
theorem nmX2 : ∀ a, a < 5 → ∀ b, b < 5 → a ≠ b → (TX2 a).2.1 ≠ (TX2 b).2.1 := by decide +kernel
theorem tyX2_ok : ∀ k, k < 5 → parseFieldDescriptor (TX2 k).2.2.1 = some (tyX2 k) := by decide +kernel
abbrev cX2_init : ByteArray := prog_4_method_1_code
def yX2_init : MethodName := ⟨RX2, "<init>", "()V"⟩
abbrev cX2_firstPlace : ByteArray := prog_4_method_2_code
def yX2_firstPlace : MethodName := ⟨RX2, "firstPlace", "(LLeafTrees$World;LLeafTrees$Rule;LLeafTrees$Row;)I"⟩
abbrev cX2_advance : ByteArray := prog_4_method_3_code
def yX2_advance : MethodName := ⟨RX2, "advance", "(LLeafTrees$World;LLeafTrees$Row;)I"⟩
abbrev cX2_normalForm : ByteArray := prog_4_method_4_code
def yX2_normalForm : MethodName := ⟨RX2, "normalForm", "(LLeafTrees$World;LLeafTrees$Row;)I"⟩
abbrev cX2_meet : ByteArray := prog_4_method_5_code
def yX2_meet : MethodName := ⟨RX2, "meet", "(LLeafTrees$World;LLeafTrees$Peaks;)I"⟩
abbrev cX2_goDown : ByteArray := prog_4_method_6_code
def yX2_goDown : MethodName := ⟨RX2, "goDown", "(LLeafTrees$World;ILLeafTrees$Row;I)I"⟩
abbrev cX2_fits : ByteArray := prog_4_method_7_code
def yX2_fits : MethodName := ⟨RX2, "fits", "(LLeafTrees$Row;LLeafTrees$Row;I)Z"⟩
abbrev cX2_replace : ByteArray := prog_4_method_8_code
def yX2_replace : MethodName := ⟨RX2, "replace", "(LLeafTrees$Rule;LLeafTrees$Row;I)I"⟩
def RX3 : String := "LeafTrees$Row"
def TX3 : u_T := fun k => match k with
  | 0 => ("LeafTrees$Row", "symbols", "[I", true)
  | _ => ("LeafTrees$Row", "length", "I", false)
def tyX3 : Nat → FieldType := fun k => match k with
  | 0 => .array .int
  | _ => .int
abbrev wsX30 : List Cond := u_ws RX3 TX3 2
theorem nmX3 : ∀ a, a < 2 → ∀ b, b < 2 → a ≠ b → (TX3 a).2.1 ≠ (TX3 b).2.1 := by decide +kernel
theorem tyX3_ok : ∀ k, k < 2 → parseFieldDescriptor (TX3 k).2.2.1 = some (tyX3 k) := by decide +kernel
abbrev cX3_init : ByteArray := prog_5_method_1_code
def yX3_init : MethodName := ⟨RX3, "<init>", "()V"⟩
abbrev cX3_clear : ByteArray := prog_5_method_2_code
def yX3_clear : MethodName := ⟨RX3, "clear", "()V"⟩
abbrev cX3_add : ByteArray := prog_5_method_3_code
def yX3_add : MethodName := ⟨RX3, "add", "(I)Z"⟩
abbrev cX3_addPart : ByteArray := prog_5_method_4_code
def yX3_addPart : MethodName := ⟨RX3, "addPart", "(LLeafTrees$Row;II)Z"⟩
abbrev cX3_become : ByteArray := prog_5_method_5_code
def yX3_become : MethodName := ⟨RX3, "become", "(LLeafTrees$Row;)V"⟩
abbrev cX3_isLike : ByteArray := prog_5_method_6_code
def yX3_isLike : MethodName := ⟨RX3, "isLike", "(LLeafTrees$Row;)Z"⟩
abbrev cX3_leaves : ByteArray := prog_5_method_7_code
def yX3_leaves : MethodName := ⟨RX3, "leaves", "()I"⟩
abbrev cX3_size : ByteArray := prog_5_method_8_code
def yX3_size : MethodName := ⟨RX3, "size", "()I"⟩
abbrev cX3_placeOfLeaf : ByteArray := prog_5_method_9_code
def yX3_placeOfLeaf : MethodName := ⟨RX3, "placeOfLeaf", "(I)I"⟩
abbrev cX3_digestedAfter : ByteArray := prog_5_method_10_code
def yX3_digestedAfter : MethodName := ⟨RX3, "digestedAfter", "(J)J"⟩
def RX4 : String := "LeafTrees$Rule"
def TX4 : u_T := fun k => match k with
  | 0 => ("LeafTrees$Rule", "left", "LLeafTrees$Row;", true)
  | 1 => ("LeafTrees$Rule", "right", "LLeafTrees$Row;", true)
  | _ => ("LeafTrees$Rule", "toNothing", "Z", false)
def tyX4 : Nat → FieldType := fun k => match k with
  | 0 => .object "LeafTrees$Row"
  | 1 => .object "LeafTrees$Row"
  | _ => .boolean
abbrev wsX40 : List Cond := u_ws RX4 TX4 3
theorem nmX4 : ∀ a, a < 3 → ∀ b, b < 3 → a ≠ b → (TX4 a).2.1 ≠ (TX4 b).2.1 := by decide +kernel
theorem tyX4_ok : ∀ k, k < 3 → parseFieldDescriptor (TX4 k).2.2.1 = some (tyX4 k) := by decide +kernel
abbrev cX4_init : ByteArray := prog_6_method_1_code
def yX4_init : MethodName := ⟨RX4, "<init>", "()V"⟩
def RX5 : String := "LeafTrees$Series"
def TX5 : u_T := fun k => match k with
  | 0 => ("LeafTrees$Series", "turnedAbout", "[J", true)
  | _ => ("LeafTrees$Series", "powers", "[[J", true)
def tyX5 : Nat → FieldType := fun k => match k with
  | 0 => .array .long
  | _ => .array (.array .long)
abbrev wsX50 : List Cond := u_ws RX5 TX5 2
theorem nmX5 : ∀ a, a < 2 → ∀ b, b < 2 → a ≠ b → (TX5 a).2.1 ≠ (TX5 b).2.1 := by decide +kernel
theorem tyX5_ok : ∀ k, k < 2 → parseFieldDescriptor (TX5 k).2.2.1 = some (tyX5 k) := by decide +kernel
abbrev cX5_init : ByteArray := prog_7_method_1_code
def yX5_init : MethodName := ⟨RX5, "<init>", "()V"⟩
abbrev cX5_turn : ByteArray := prog_7_method_2_code
def yX5_turn : MethodName := ⟨RX5, "turn", "([J)V"⟩
abbrev cX5_rowsOf : ByteArray := prog_7_method_3_code
def yX5_rowsOf : MethodName := ⟨RX5, "rowsOf", "(II)J"⟩
def RX6 : String := "LeafTrees$Shape"
def TX6 : u_T := fun k => match k with
  | _ => ("LeafTrees$Shape", "ends", "[I", true)
def tyX6 : Nat → FieldType := fun k => match k with
  | _ => .array .int
abbrev wsX60 : List Cond := u_ws RX6 TX6 1
theorem nmX6 : ∀ a, a < 1 → ∀ b, b < 1 → a ≠ b → (TX6 a).2.1 ≠ (TX6 b).2.1 := by decide +kernel
theorem tyX6_ok : ∀ k, k < 1 → parseFieldDescriptor (TX6 k).2.2.1 = some (tyX6 k) := by decide +kernel
abbrev cX6_init : ByteArray := prog_8_method_1_code
def yX6_init : MethodName := ⟨RX6, "<init>", "()V"⟩
abbrev cX6_measure : ByteArray := prog_8_method_2_code
def yX6_measure : MethodName := ⟨RX6, "measure", "(LLeafTrees$World;LLeafTrees$Row;)V"⟩
abbrev cX6_heightOf : ByteArray := prog_8_method_3_code
def yX6_heightOf : MethodName := ⟨RX6, "heightOf", "(LLeafTrees$World;LLeafTrees$Row;)I"⟩
abbrev cX6_actsOver : ByteArray := prog_8_method_4_code
def yX6_actsOver : MethodName := ⟨RX6, "actsOver", "(LLeafTrees$Row;I)I"⟩
def RX7 : String := "LeafTrees$Tally"
def TX7 : u_T := fun k => match k with
  | 0 => ("LeafTrees$Tally", "kinds", "[J", false)
  | 1 => ("LeafTrees$Tally", "trees", "[J", false)
  | _ => ("LeafTrees$Tally", "size", "I", false)
def tyX7 : Nat → FieldType := fun k => match k with
  | 0 => .array .long
  | 1 => .array .long
  | _ => .int
abbrev wsX70 : List Cond := u_ws RX7 TX7 3
theorem nmX7 : ∀ a, a < 3 → ∀ b, b < 3 → a ≠ b → (TX7 a).2.1 ≠ (TX7 b).2.1 := by decide +kernel
theorem tyX7_ok : ∀ k, k < 3 → parseFieldDescriptor (TX7 k).2.2.1 = some (tyX7 k) := by decide +kernel
abbrev cX7_init : ByteArray := prog_9_method_1_code
def yX7_init : MethodName := ⟨RX7, "<init>", "()V"⟩
abbrev cX7_clear : ByteArray := prog_9_method_2_code
def yX7_clear : MethodName := ⟨RX7, "clear", "()V"⟩
abbrev cX7_add : ByteArray := prog_9_method_3_code
def yX7_add : MethodName := ⟨RX7, "add", "(JJ)V"⟩
def RX8 : String := "LeafTrees$World"
def TX8 : u_T := fun k => match k with
  | 0 => ("LeafTrees$World", "entries", "[I", true)
  | 1 => ("LeafTrees$World", "acts", "I", false)
  | 2 => ("LeafTrees$World", "rules", "[LLeafTrees$Rule;", true)
  | _ => ("LeafTrees$World", "ruleCount", "I", false)
def tyX8 : Nat → FieldType := fun k => match k with
  | 0 => .array .int
  | 1 => .int
  | 2 => .array (.object "LeafTrees$Rule")
  | _ => .int
abbrev wsX80 : List Cond := u_ws RX8 TX8 4
theorem nmX8 : ∀ a, a < 4 → ∀ b, b < 4 → a ≠ b → (TX8 a).2.1 ≠ (TX8 b).2.1 := by decide +kernel
theorem tyX8_ok : ∀ k, k < 4 → parseFieldDescriptor (TX8 k).2.2.1 = some (tyX8 k) := by decide +kernel
abbrev cX8_init : ByteArray := prog_10_method_1_code
def yX8_init : MethodName := ⟨RX8, "<init>", "()V"⟩
abbrev cX8_addAct : ByteArray := prog_10_method_2_code
def yX8_addAct : MethodName := ⟨RX8, "addAct", "(I)I"⟩
abbrev cX8_addRule : ByteArray := prog_10_method_3_code
def yX8_addRule : MethodName := ⟨RX8, "addRule", "(LLeafTrees$Row;LLeafTrees$Row;Z)I"⟩
abbrev cX8_isSymbol : ByteArray := prog_10_method_4_code
def yX8_isSymbol : MethodName := ⟨RX8, "isSymbol", "(I)Z"⟩
abbrev cX8_isRule : ByteArray := prog_10_method_5_code
def yX8_isRule : MethodName := ⟨RX8, "isRule", "(I)Z"⟩
abbrev cX8_entriesOf : ByteArray := prog_10_method_6_code
def yX8_entriesOf : MethodName := ⟨RX8, "entriesOf", "(I)I"⟩
abbrev cX8_endOf : ByteArray := prog_10_method_7_code
def yX8_endOf : MethodName := ⟨RX8, "endOf", "(LLeafTrees$Row;I)I"⟩
abbrev cX8_isTree : ByteArray := prog_10_method_8_code
def yX8_isTree : MethodName := ⟨RX8, "isTree", "(LLeafTrees$Row;)Z"⟩
abbrev cX8_rulesToNothing : ByteArray := prog_10_method_9_code
def yX8_rulesToNothing : MethodName := ⟨RX8, "rulesToNothing", "()I"⟩
abbrev cX8_hasDual : ByteArray := prog_10_method_10_code
def yX8_hasDual : MethodName := ⟨RX8, "hasDual", "()Z"⟩
abbrev cX8_hasLeft : ByteArray := prog_10_method_11_code
def yX8_hasLeft : MethodName := ⟨RX8, "hasLeft", "(III)Z"⟩
def RX9 : String := "LeafTrees"
def TX9 : u_T := fun k => match k with
  | 0 => ("LeafTrees", "world", "LLeafTrees$World;", true)
  | 1 => ("LeafTrees", "rows", "[LLeafTrees$Row;", true)
  | 2 => ("LeafTrees", "work", "LLeafTrees$Row;", true)
  | 3 => ("LeafTrees", "shape", "LLeafTrees$Shape;", true)
  | 4 => ("LeafTrees", "rewriter", "LLeafTrees$Rewriter;", true)
  | 5 => ("LeafTrees", "peaks", "LLeafTrees$Peaks;", true)
  | 6 => ("LeafTrees", "census", "LLeafTrees$Census;", true)
  | 7 => ("LeafTrees", "series", "LLeafTrees$Series;", true)
  | 8 => ("LeafTrees", "many", "[J", true)
  | 9 => ("LeafTrees", "manyKnown", "Z", false)
  | 10 => ("LeafTrees", "dualMany", "[J", true)
  | 11 => ("LeafTrees", "dualKnown", "Z", false)
  | 12 => ("LeafTrees", "firstOpen", "I", false)
  | _ => ("LeafTrees", "firstOpenKnown", "Z", false)
def tyX9 : Nat → FieldType := fun k => match k with
  | 0 => .object "LeafTrees$World"
  | 1 => .array (.object "LeafTrees$Row")
  | 2 => .object "LeafTrees$Row"
  | 3 => .object "LeafTrees$Shape"
  | 4 => .object "LeafTrees$Rewriter"
  | 5 => .object "LeafTrees$Peaks"
  | 6 => .object "LeafTrees$Census"
  | 7 => .object "LeafTrees$Series"
  | 8 => .array .long
  | 9 => .boolean
  | 10 => .array .long
  | 11 => .boolean
  | 12 => .int
  | _ => .boolean
abbrev wsX90 : List Cond := u_ws RX9 TX9 14
theorem nmX9 : ∀ a, a < 14 → ∀ b, b < 14 → a ≠ b → (TX9 a).2.1 ≠ (TX9 b).2.1 := by decide +kernel
theorem tyX9_ok : ∀ k, k < 14 → parseFieldDescriptor (TX9 k).2.2.1 = some (tyX9 k) := by decide +kernel
abbrev cX9_init : ByteArray := prog_1_method_1_code
def yX9_init : MethodName := ⟨RX9, "<init>", "()V"⟩
abbrev cX9_act : ByteArray := prog_1_method_2_code
def yX9_act : MethodName := ⟨RX9, "act", "(I)I"⟩
abbrev cX9_put : ByteArray := prog_1_method_3_code
def yX9_put : MethodName := ⟨RX9, "put", "(II)I"⟩
abbrev cX9_empty : ByteArray := prog_1_method_4_code
def yX9_empty : MethodName := ⟨RX9, "empty", "(I)I"⟩
abbrev cX9_at : ByteArray := prog_1_method_5_code
def yX9_at : MethodName := ⟨RX9, "at", "(II)I"⟩
abbrev cX9_about : ByteArray := prog_1_method_6_code
def yX9_about : MethodName := ⟨RX9, "about", "(II)I"⟩
abbrev cX9_graft : ByteArray := prog_1_method_7_code
def yX9_graft : MethodName := ⟨RX9, "graft", "(IIII)I"⟩
abbrev cX9_same : ByteArray := prog_1_method_8_code
def yX9_same : MethodName := ⟨RX9, "same", "(II)I"⟩
abbrev cX9_rule : ByteArray := prog_1_method_9_code
def yX9_rule : MethodName := ⟨RX9, "rule", "(II)I"⟩
abbrev cX9_nought : ByteArray := prog_1_method_10_code
def yX9_nought : MethodName := ⟨RX9, "nought", "(I)I"⟩
abbrev cX9_unrule : ByteArray := prog_1_method_11_code
def yX9_unrule : MethodName := ⟨RX9, "unrule", "()I"⟩
abbrev cX9_side : ByteArray := prog_1_method_12_code
def yX9_side : MethodName := ⟨RX9, "side", "(III)I"⟩
abbrev cX9_matches : ByteArray := prog_1_method_13_code
def yX9_matches : MethodName := ⟨RX9, "matches", "(II)I"⟩
abbrev cX9_step : ByteArray := prog_1_method_14_code
def yX9_step : MethodName := ⟨RX9, "step", "(I)I"⟩
abbrev cX9_normal : ByteArray := prog_1_method_15_code
def yX9_normal : MethodName := ⟨RX9, "normal", "(I)I"⟩
abbrev cX9_howMany : ByteArray := prog_1_method_16_code
def yX9_howMany : MethodName := ⟨RX9, "howMany", "(I)J"⟩
abbrev cX9_overlaps : ByteArray := prog_1_method_17_code
def yX9_overlaps : MethodName := ⟨RX9, "overlaps", "()I"⟩
abbrev cX9_overlap : ByteArray := prog_1_method_18_code
def yX9_overlap : MethodName := ⟨RX9, "overlap", "(II)I"⟩
abbrev cX9_closes : ByteArray := prog_1_method_19_code
def yX9_closes : MethodName := ⟨RX9, "closes", "()I"⟩
abbrev cX9_turned : ByteArray := prog_1_method_20_code
def yX9_turned : MethodName := ⟨RX9, "turned", "(I)J"⟩
abbrev cX9_dual : ByteArray := prog_1_method_21_code
def yX9_dual : MethodName := ⟨RX9, "dual", "(I)J"⟩
abbrev cX9_count : ByteArray := prog_1_method_22_code
def yX9_count : MethodName := ⟨RX9, "count", "(I)I"⟩
abbrev cX9_digest : ByteArray := prog_1_method_23_code
def yX9_digest : MethodName := ⟨RX9, "digest", "()J"⟩
abbrev cX9_isRow : ByteArray := prog_1_method_24_code
def yX9_isRow : MethodName := ⟨RX9, "isRow", "(I)Z"⟩
abbrev cX9_isLeafNumber : ByteArray := prog_1_method_25_code
def yX9_isLeafNumber : MethodName := ⟨RX9, "isLeafNumber", "(I)Z"⟩
abbrev cX9_isTreeRow : ByteArray := prog_1_method_26_code
def yX9_isTreeRow : MethodName := ⟨RX9, "isTreeRow", "(I)Z"⟩
abbrev cX9_isLeft : ByteArray := prog_1_method_27_code
def yX9_isLeft : MethodName := ⟨RX9, "isLeft", "(I)Z"⟩
abbrev cX9_bring : ByteArray := prog_1_method_28_code
def yX9_bring : MethodName := ⟨RX9, "bring", "(LLeafTrees$Row;I)I"⟩
abbrev cX9_treeRows : ByteArray := prog_1_method_29_code
def yX9_treeRows : MethodName := ⟨RX9, "treeRows", "()I"⟩
abbrev cX9_forget : ByteArray := prog_1_method_30_code
def yX9_forget : MethodName := ⟨RX9, "forget", "()V"⟩
abbrev cX9_learnMany : ByteArray := prog_1_method_31_code
def yX9_learnMany : MethodName := ⟨RX9, "learnMany", "()V"⟩
abbrev cX9_learnDual : ByteArray := prog_1_method_32_code
def yX9_learnDual : MethodName := ⟨RX9, "learnDual", "()V"⟩
def RX10 : String := "LeafTreesModel"
def TX10 : u_T := fun k => match k with
  | 0 => ("LeafTreesModel", "acts", "I", false)
  | 1 => ("LeafTreesModel", "entries", "[I", true)
  | 2 => ("LeafTreesModel", "symbol", "[I", true)
  | 3 => ("LeafTreesModel", "size", "[I", true)
  | 4 => ("LeafTreesModel", "rules", "I", false)
  | 5 => ("LeafTreesModel", "isNought", "[Z", true)
  | 6 => ("LeafTreesModel", "isCounted", "Z", false)
  | 7 => ("LeafTreesModel", "counted", "[J", true)
  | 8 => ("LeafTreesModel", "open", "[I", true)
  | 9 => ("LeafTreesModel", "matchFrom", "[I", true)
  | 10 => ("LeafTreesModel", "matchTo", "[I", true)
  | 11 => ("LeafTreesModel", "matched", "I", false)
  | 12 => ("LeafTreesModel", "matchEnd", "I", false)
  | 13 => ("LeafTreesModel", "overlapP", "I", false)
  | 14 => ("LeafTreesModel", "overlapQ", "I", false)
  | 15 => ("LeafTreesModel", "overlapU", "I", false)
  | 16 => ("LeafTreesModel", "keptRow", "[I", true)
  | 17 => ("LeafTreesModel", "keptSize", "I", false)
  | 18 => ("LeafTreesModel", "parts", "[J", true)
  | 19 => ("LeafTreesModel", "turnedOf", "[J", true)
  | 20 => ("LeafTreesModel", "may", "[Z", true)
  | _ => ("LeafTreesModel", "byTop", "[J", true)
def tyX10 : Nat → FieldType := fun k => match k with
  | 0 => .int
  | 1 => .array .int
  | 2 => .array .int
  | 3 => .array .int
  | 4 => .int
  | 5 => .array .boolean
  | 6 => .boolean
  | 7 => .array .long
  | 8 => .array .int
  | 9 => .array .int
  | 10 => .array .int
  | 11 => .int
  | 12 => .int
  | 13 => .int
  | 14 => .int
  | 15 => .int
  | 16 => .array .int
  | 17 => .int
  | 18 => .array .long
  | 19 => .array .long
  | 20 => .array .boolean
  | _ => .array .long
abbrev wsX100 : List Cond := u_ws RX10 TX10 22
theorem nmX10 : ∀ a, a < 22 → ∀ b, b < 22 → a ≠ b → (TX10 a).2.1 ≠ (TX10 b).2.1 := by decide +kernel
theorem tyX10_ok : ∀ k, k < 22 → parseFieldDescriptor (TX10 k).2.2.1 = some (tyX10 k) := by decide +kernel
abbrev cX10_init : ByteArray := prog_12_method_1_code
def yX10_init : MethodName := ⟨RX10, "<init>", "()V"⟩
abbrev cX10_in : ByteArray := prog_12_method_3_code
def yX10_in : MethodName := ⟨RX10, "in", "(III)Z"⟩
abbrev cX10_act : ByteArray := prog_12_method_4_code
def yX10_act : MethodName := ⟨RX10, "act", "(I)I"⟩
abbrev cX10_isRow : ByteArray := prog_12_method_5_code
def yX10_isRow : MethodName := ⟨RX10, "isRow", "(I)Z"⟩
abbrev cX10_put : ByteArray := prog_12_method_6_code
def yX10_put : MethodName := ⟨RX10, "put", "(II)I"⟩
abbrev cX10_comes : ByteArray := prog_12_method_7_code
def yX10_comes : MethodName := ⟨RX10, "comes", "(II)V"⟩
abbrev cX10_empty : ByteArray := prog_12_method_8_code
def yX10_empty : MethodName := ⟨RX10, "empty", "(I)I"⟩
abbrev cX10_at : ByteArray := prog_12_method_9_code
def yX10_at : MethodName := ⟨RX10, "at", "(II)I"⟩
abbrev cX10_wants : ByteArray := prog_12_method_10_code
def yX10_wants : MethodName := ⟨RX10, "wants", "(I)I"⟩
abbrev cX10_end : ByteArray := prog_12_method_11_code
def yX10_end : MethodName := ⟨RX10, "end", "(II)I"⟩
abbrev cX10_isTree : ByteArray := prog_12_method_12_code
def yX10_isTree : MethodName := ⟨RX10, "isTree", "(I)Z"⟩
abbrev cX10_isTreeRow : ByteArray := prog_12_method_13_code
def yX10_isTreeRow : MethodName := ⟨RX10, "isTreeRow", "(I)Z"⟩
abbrev cX10_leaves : ByteArray := prog_12_method_14_code
def yX10_leaves : MethodName := ⟨RX10, "leaves", "(I)I"⟩
abbrev cX10_height : ByteArray := prog_12_method_15_code
def yX10_height : MethodName := ⟨RX10, "height", "(I)I"⟩
abbrev cX10_about : ByteArray := prog_12_method_16_code
def yX10_about : MethodName := ⟨RX10, "about", "(II)I"⟩
abbrev cX10_copy : ByteArray := prog_12_method_17_code
def yX10_copy : MethodName := ⟨RX10, "copy", "(II)V"⟩
abbrev cX10_adds : ByteArray := prog_12_method_18_code
def yX10_adds : MethodName := ⟨RX10, "adds", "(IIII)Z"⟩
abbrev cX10_graft : ByteArray := prog_12_method_19_code
def yX10_graft : MethodName := ⟨RX10, "graft", "(IIII)I"⟩
abbrev cX10_isSame : ByteArray := prog_12_method_20_code
def yX10_isSame : MethodName := ⟨RX10, "isSame", "(II)Z"⟩
abbrev cX10_same : ByteArray := prog_12_method_21_code
def yX10_same : MethodName := ⟨RX10, "same", "(II)I"⟩
abbrev cX10_isLeft : ByteArray := prog_12_method_22_code
def yX10_isLeft : MethodName := ⟨RX10, "isLeft", "(I)Z"⟩
abbrev cX10_comesRule : ByteArray := prog_12_method_23_code
def yX10_comesRule : MethodName := ⟨RX10, "comesRule", "(II)I"⟩
abbrev cX10_rule : ByteArray := prog_12_method_24_code
def yX10_rule : MethodName := ⟨RX10, "rule", "(II)I"⟩
abbrev cX10_nought : ByteArray := prog_12_method_25_code
def yX10_nought : MethodName := ⟨RX10, "nought", "(I)I"⟩
abbrev cX10_unrule : ByteArray := prog_12_method_26_code
def yX10_unrule : MethodName := ⟨RX10, "unrule", "()I"⟩
abbrev cX10_isRule : ByteArray := prog_12_method_27_code
def yX10_isRule : MethodName := ⟨RX10, "isRule", "(I)Z"⟩
abbrev cX10_side : ByteArray := prog_12_method_28_code
def yX10_side : MethodName := ⟨RX10, "side", "(III)I"⟩
abbrev cX10_lies : ByteArray := prog_12_method_29_code
def yX10_lies : MethodName := ⟨RX10, "lies", "(III)Z"⟩
abbrev cX10_firstPlace : ByteArray := prog_12_method_30_code
def yX10_firstPlace : MethodName := ⟨RX10, "firstPlace", "(II)I"⟩
abbrev cX10_matches : ByteArray := prog_12_method_31_code
def yX10_matches : MethodName := ⟨RX10, "matches", "(II)I"⟩
abbrev cX10_uses : ByteArray := prog_12_method_32_code
def yX10_uses : MethodName := ⟨RX10, "uses", "(III)I"⟩
abbrev cX10_steps : ByteArray := prog_12_method_33_code
def yX10_steps : MethodName := ⟨RX10, "steps", "(I)I"⟩
abbrev cX10_step : ByteArray := prog_12_method_34_code
def yX10_step : MethodName := ⟨RX10, "step", "(I)I"⟩
abbrev cX10_normals : ByteArray := prog_12_method_35_code
def yX10_normals : MethodName := ⟨RX10, "normals", "(I)I"⟩
abbrev cX10_normal : ByteArray := prog_12_method_36_code
def yX10_normal : MethodName := ⟨RX10, "normal", "(I)I"⟩
abbrev cX10_isBarred : ByteArray := prog_12_method_37_code
def yX10_isBarred : MethodName := ⟨RX10, "isBarred", "()Z"⟩
abbrev cX10_goesOn : ByteArray := prog_12_method_38_code
def yX10_goesOn : MethodName := ⟨RX10, "goesOn", "()Z"⟩
abbrev cX10_wantedYet : ByteArray := prog_12_method_39_code
def yX10_wantedYet : MethodName := ⟨RX10, "wantedYet", "()I"⟩
abbrev cX10_countOf : ByteArray := prog_12_method_40_code
def yX10_countOf : MethodName := ⟨RX10, "countOf", "(I)J"⟩
abbrev cX10_counts : ByteArray := prog_12_method_41_code
def yX10_counts : MethodName := ⟨RX10, "counts", "()V"⟩
abbrev cX10_howMany : ByteArray := prog_12_method_42_code
def yX10_howMany : MethodName := ⟨RX10, "howMany", "(I)J"⟩
abbrev cX10_meetsAt : ByteArray := prog_12_method_43_code
def yX10_meetsAt : MethodName := ⟨RX10, "meetsAt", "(III)Z"⟩
abbrev cX10_goesTo : ByteArray := prog_12_method_44_code
def yX10_goesTo : MethodName := ⟨RX10, "goesTo", "(I)I"⟩
abbrev cX10_overlaps : ByteArray := prog_12_method_45_code
def yX10_overlaps : MethodName := ⟨RX10, "overlaps", "()I"⟩
abbrev cX10_hasOverlap : ByteArray := prog_12_method_46_code
def yX10_hasOverlap : MethodName := ⟨RX10, "hasOverlap", "(I)Z"⟩
abbrev cX10_overlap : ByteArray := prog_12_method_47_code
def yX10_overlap : MethodName := ⟨RX10, "overlap", "(II)I"⟩
abbrev cX10_comesOf : ByteArray := prog_12_method_48_code
def yX10_comesOf : MethodName := ⟨RX10, "comesOf", "(III)I"⟩
abbrev cX10_closes : ByteArray := prog_12_method_49_code
def yX10_closes : MethodName := ⟨RX10, "closes", "()I"⟩
abbrev cX10_turns : ByteArray := prog_12_method_50_code
def yX10_turns : MethodName := ⟨RX10, "turns", "()V"⟩
abbrev cX10_turned : ByteArray := prog_12_method_51_code
def yX10_turned : MethodName := ⟨RX10, "turned", "(I)J"⟩
abbrev cX10_isDual : ByteArray := prog_12_method_52_code
def yX10_isDual : MethodName := ⟨RX10, "isDual", "()Z"⟩
abbrev cX10_findMay : ByteArray := prog_12_method_53_code
def yX10_findMay : MethodName := ⟨RX10, "findMay", "()V"⟩
abbrev cX10_below : ByteArray := prog_12_method_54_code
def yX10_below : MethodName := ⟨RX10, "below", "(III)J"⟩
abbrev cX10_dual : ByteArray := prog_12_method_55_code
def yX10_dual : MethodName := ⟨RX10, "dual", "(I)J"⟩
abbrev cX10_count : ByteArray := prog_12_method_56_code
def yX10_count : MethodName := ⟨RX10, "count", "(I)I"⟩
abbrev cX10_digestRow : ByteArray := prog_12_method_57_code
def yX10_digestRow : MethodName := ⟨RX10, "digestRow", "(JI)J"⟩
abbrev cX10_digest : ByteArray := prog_12_method_58_code
def yX10_digest : MethodName := ⟨RX10, "digest", "()J"⟩
def RJx8e188 : String := "java/lang/Cloneable"
def TJx8e188 : u_T := fun k => match k with
  | _ => ("", "", "", false)
def tyJx8e188 : Nat → FieldType := fun k => match k with
  | _ => .int
abbrev wsJx8e1880 : List Cond := u_ws RJx8e188 TJx8e188 0
theorem nmJx8e188 : ∀ a, a < 0 → ∀ b, b < 0 → a ≠ b → (TJx8e188 a).2.1 ≠ (TJx8e188 b).2.1 := by decide +kernel
theorem tyJx8e188_ok : ∀ k, k < 0 → parseFieldDescriptor (TJx8e188 k).2.2.1 = some (tyJx8e188 k) := by decide +kernel
def RJ9 : String := "java/lang/Math"
def TJ9 : u_T := fun k => match k with
  | _ => ("", "", "", false)
def tyJ9 : Nat → FieldType := fun k => match k with
  | _ => .int
abbrev wsJ90 : List Cond := u_ws RJ9 TJ9 0
theorem nmJ9 : ∀ a, a < 0 → ∀ b, b < 0 → a ≠ b → (TJ9 a).2.1 ≠ (TJ9 b).2.1 := by decide +kernel
theorem tyJ9_ok : ∀ k, k < 0 → parseFieldDescriptor (TJ9 k).2.2.1 = some (tyJ9 k) := by decide +kernel
abbrev cJ9_max_7cf53 : ByteArray := prog_14_method_65_code
def yJ9_max_7cf53 : MethodName := ⟨RJ9, "max", "(II)I"⟩
abbrev cJ9_min_7cf53 : ByteArray := prog_14_method_69_code
def yJ9_min_7cf53 : MethodName := ⟨RJ9, "min", "(II)I"⟩
def RJ10 : String := "java/lang/System"
def TJ10 : u_T := fun k => match k with
  | _ => ("", "", "", false)
def tyJ10 : Nat → FieldType := fun k => match k with
  | _ => .int
abbrev wsJ100 : List Cond := u_ws RJ10 TJ10 0
theorem nmJ10 : ∀ a, a < 0 → ∀ b, b < 0 → a ≠ b → (TJ10 a).2.1 ≠ (TJ10 b).2.1 := by decide +kernel
theorem tyJ10_ok : ∀ k, k < 0 → parseFieldDescriptor (TJ10 k).2.2.1 = some (tyJ10 k) := by decide +kernel
def RJ7 : String := "java/util/Arrays"
def TJ7 : u_T := fun k => match k with
  | _ => ("", "", "", false)
def tyJ7 : Nat → FieldType := fun k => match k with
  | _ => .int
abbrev wsJ70 : List Cond := u_ws RJ7 TJ7 0
theorem nmJ7 : ∀ a, a < 0 → ∀ b, b < 0 → a ≠ b → (TJ7 a).2.1 ≠ (TJ7 b).2.1 := by decide +kernel
theorem tyJ7_ok : ∀ k, k < 0 → parseFieldDescriptor (TJ7 k).2.2.1 = some (tyJ7 k) := by decide +kernel
abbrev cJ7_copyOf_c38d5 : ByteArray := prog_16_method_124_code
def yJ7_copyOf_c38d5 : MethodName := ⟨RJ7, "copyOf", "([JI)[J"⟩
def RL : String := "LeafTreesLaw"
abbrev cL_law : ByteArray := code
def yL_law : MethodName := ⟨RL, "law", "([I)Z"⟩
def wsX7_init : List Cond := .code yX7_init cX7_init 1 none :: ([.methodLink RX7 1 objectInit, .instanceMethod objectInit, .code objectInit ⟨#[0xb1]⟩ 1 none, .arrayClass .long, .fieldLink RX7 7 "LeafTrees$Tally" "kinds" "[J", .fieldLink RX7 13 "LeafTrees$Tally" "trees" "[J"] ++ wsX70)
def wsX0_init : List Cond := .code yX0_init cX0_init 2 none :: ([.methodLink RX0 3 objectInit, .instanceMethod objectInit, .code objectInit ⟨#[0xb1]⟩ 1 none, .arrayClass .int, .fieldLink RX0 9 "LeafTrees$Census" "actOf" "[I", .classLink RX0 15 "[[J", .arrayClass .long, .fieldLink RX0 17 "LeafTrees$Census" "needs" "[[J", .fieldLink RX0 20 "LeafTrees$Census" "bitAt" "[J", .classLink RX0 24 RX7, .fieldLink RX0 26 "LeafTrees$Census" "tallies" "[LLeafTrees$Tally;", .instantiable RX7 3, .initialized RX7, .instanceMethod yX7_init, .code yX7_init cX7_init 1 none, .methodLink RX7 1 objectInit, .fieldLink RX7 7 "LeafTrees$Tally" "kinds" "[J", .fieldLink RX7 13 "LeafTrees$Tally" "trees" "[J"] ++ wsX00 ++ wsX70)
def wsX0_clear : List Cond := .code yX0_clear cX0_clear 1 none :: ([.fieldLink RX0 76 "LeafTrees$Census" "nodes" "I", .fieldLink RX0 79 "LeafTrees$Census" "forbidden" "J"] ++ wsX00)
def wsX0_addNode : List Cond := .code yX0_addNode cX0_addNode 4 (some .int) :: ([.fieldLink RX0 76 "LeafTrees$Census" "nodes" "I", .fieldLink RX0 9 "LeafTrees$Census" "actOf" "[I", .fieldLink RX0 17 "LeafTrees$Census" "needs" "[[J", .fieldLink RX0 79 "LeafTrees$Census" "forbidden" "J"] ++ wsX00)
def wsX8_entriesOf : List Cond := .code yX8_entriesOf cX8_entriesOf 2 (some .int) :: ([.fieldLink RX8 22 "LeafTrees$World" "acts" "I", .fieldLink RX8 9 "LeafTrees$World" "entries" "[I"] ++ wsX80)
def wsX8_endOf : List Cond := .code yX8_endOf cX8_endOf 5 (some .int) :: ([.methodLink RX8 46 Lib.Math.max.name, .static Lib.Math.max.name, .initialized "java/lang/Math", .code Lib.Math.max.name Lib.Math.max.code 2 (some .int), .fieldLink RX8 52 "LeafTrees$Row" "length" "I", .fieldLink RX8 55 "LeafTrees$Row" "symbols" "[I", .methodLink RX8 58 yX8_entriesOf, .instanceMethod yX8_entriesOf, .selects RX8 yX8_entriesOf yX8_entriesOf, .initialized RX8, .code yX8_entriesOf cX8_entriesOf 2 (some .int), .fieldLink RX8 22 "LeafTrees$World" "acts" "I", .fieldLink RX8 9 "LeafTrees$World" "entries" "[I"] ++ wsX30 ++ wsX80)
def wsX0_linkEntries_r1 : List Cond := [Cond.fieldLink RX0 88 "LeafTrees$Row" "symbols" "[I", Cond.methodLink RX0 95 Lib.Math.min.name, Cond.static Lib.Math.min.name, Cond.initialized "java/lang/Math", Cond.code Lib.Math.min.name Lib.Math.min.code 2 (some .int), Cond.fieldLink RX0 83 "LeafTrees$Row" "length" "I", Cond.fieldLink RX0 17 "LeafTrees$Census" "needs" "[[J", Cond.fieldLink RX0 20 "LeafTrees$Census" "bitAt" "[J", Cond.methodLink RX0 68 yX8_entriesOf, Cond.instanceMethod yX8_entriesOf, Cond.selects RX8 yX8_entriesOf yX8_entriesOf, Cond.initialized RX8, Cond.code yX8_entriesOf cX8_entriesOf 2 (some .int), Cond.fieldLink RX8 22 "LeafTrees$World" "acts" "I", Cond.fieldLink RX8 9 "LeafTrees$World" "entries" "[I", Cond.methodLink RX0 101 yX8_endOf, Cond.instanceMethod yX8_endOf, Cond.selects RX8 yX8_endOf yX8_endOf, Cond.code yX8_endOf cX8_endOf 5 (some .int), Cond.methodLink RX8 46 Lib.Math.max.name, Cond.static Lib.Math.max.name, Cond.code Lib.Math.max.name Lib.Math.max.code 2 (some .int), Cond.fieldLink RX8 52 "LeafTrees$Row" "length" "I", Cond.fieldLink RX8 55 "LeafTrees$Row" "symbols" "[I"]
def wsX0_linkEntries_r2 : List Cond := [Cond.methodLink RX8 58 yX8_entriesOf]
def wsX0_linkEntries : List Cond := .code yX0_linkEntries cX0_linkEntries 8 none :: ((wsX0_linkEntries_r1 ++ wsX0_linkEntries_r2) ++ wsX30 ++ wsX00 ++ wsX80)
def wsX0_forbid_r1 : List Cond := [Cond.fieldLink RX0 83 "LeafTrees$Row" "length" "I", Cond.fieldLink RX0 20 "LeafTrees$Census" "bitAt" "[J", Cond.fieldLink RX0 88 "LeafTrees$Row" "symbols" "[I", Cond.methodLink RX0 57 yX0_addNode, Cond.instanceMethod yX0_addNode, Cond.selects RX0 yX0_addNode yX0_addNode, Cond.initialized RX0, Cond.code yX0_addNode cX0_addNode 4 (some .int), Cond.fieldLink RX0 76 "LeafTrees$Census" "nodes" "I", Cond.fieldLink RX0 9 "LeafTrees$Census" "actOf" "[I", Cond.fieldLink RX0 17 "LeafTrees$Census" "needs" "[[J", Cond.fieldLink RX0 79 "LeafTrees$Census" "forbidden" "J", Cond.methodLink RX0 91 yX0_linkEntries, Cond.instanceMethod yX0_linkEntries, Cond.selects RX0 yX0_linkEntries yX0_linkEntries, Cond.code yX0_linkEntries cX0_linkEntries 8 none, Cond.methodLink RX0 95 Lib.Math.min.name, Cond.static Lib.Math.min.name, Cond.initialized "java/lang/Math", Cond.code Lib.Math.min.name Lib.Math.min.code 2 (some .int), Cond.methodLink RX0 68 yX8_entriesOf, Cond.instanceMethod yX8_entriesOf, Cond.selects RX8 yX8_entriesOf yX8_entriesOf, Cond.initialized RX8]
def wsX0_forbid_r2 : List Cond := [Cond.code yX8_entriesOf cX8_entriesOf 2 (some .int), Cond.fieldLink RX8 22 "LeafTrees$World" "acts" "I", Cond.fieldLink RX8 9 "LeafTrees$World" "entries" "[I", Cond.methodLink RX0 101 yX8_endOf, Cond.instanceMethod yX8_endOf, Cond.selects RX8 yX8_endOf yX8_endOf, Cond.code yX8_endOf cX8_endOf 5 (some .int), Cond.methodLink RX8 46 Lib.Math.max.name, Cond.static Lib.Math.max.name, Cond.code Lib.Math.max.name Lib.Math.max.code 2 (some .int), Cond.fieldLink RX8 52 "LeafTrees$Row" "length" "I", Cond.fieldLink RX8 55 "LeafTrees$Row" "symbols" "[I", Cond.methodLink RX8 58 yX8_entriesOf]
def wsX0_forbid : List Cond := .code yX0_forbid cX0_forbid 6 none :: ((wsX0_forbid_r1 ++ wsX0_forbid_r2) ++ wsX30 ++ wsX00 ++ wsX80)
def wsX0_forbidLefts_r1 : List Cond := [Cond.fieldLink RX0 34 "LeafTrees$World" "ruleCount" "I", Cond.fieldLink RX0 40 "LeafTrees$World" "rules" "[LLeafTrees$Rule;", Cond.fieldLink RX0 44 "LeafTrees$Rule" "left" "LLeafTrees$Row;", Cond.methodLink RX0 31 yX0_clear, Cond.instanceMethod yX0_clear, Cond.selects RX0 yX0_clear yX0_clear, Cond.initialized RX0, Cond.code yX0_clear cX0_clear 1 none, Cond.fieldLink RX0 76 "LeafTrees$Census" "nodes" "I", Cond.fieldLink RX0 79 "LeafTrees$Census" "forbidden" "J", Cond.methodLink RX0 50 yX0_forbid, Cond.instanceMethod yX0_forbid, Cond.selects RX0 yX0_forbid yX0_forbid, Cond.code yX0_forbid cX0_forbid 6 none, Cond.fieldLink RX0 83 "LeafTrees$Row" "length" "I", Cond.fieldLink RX0 20 "LeafTrees$Census" "bitAt" "[J", Cond.fieldLink RX0 88 "LeafTrees$Row" "symbols" "[I", Cond.methodLink RX0 57 yX0_addNode, Cond.instanceMethod yX0_addNode, Cond.selects RX0 yX0_addNode yX0_addNode, Cond.code yX0_addNode cX0_addNode 4 (some .int), Cond.fieldLink RX0 9 "LeafTrees$Census" "actOf" "[I", Cond.fieldLink RX0 17 "LeafTrees$Census" "needs" "[[J", Cond.methodLink RX0 91 yX0_linkEntries]
def wsX0_forbidLefts_r2 : List Cond := [Cond.instanceMethod yX0_linkEntries, Cond.selects RX0 yX0_linkEntries yX0_linkEntries, Cond.code yX0_linkEntries cX0_linkEntries 8 none, Cond.methodLink RX0 95 Lib.Math.min.name, Cond.static Lib.Math.min.name, Cond.initialized "java/lang/Math", Cond.code Lib.Math.min.name Lib.Math.min.code 2 (some .int), Cond.methodLink RX0 68 yX8_entriesOf, Cond.instanceMethod yX8_entriesOf, Cond.selects RX8 yX8_entriesOf yX8_entriesOf, Cond.initialized RX8, Cond.code yX8_entriesOf cX8_entriesOf 2 (some .int), Cond.fieldLink RX8 22 "LeafTrees$World" "acts" "I", Cond.fieldLink RX8 9 "LeafTrees$World" "entries" "[I", Cond.methodLink RX0 101 yX8_endOf, Cond.instanceMethod yX8_endOf, Cond.selects RX8 yX8_endOf yX8_endOf, Cond.code yX8_endOf cX8_endOf 5 (some .int), Cond.methodLink RX8 46 Lib.Math.max.name, Cond.static Lib.Math.max.name, Cond.code Lib.Math.max.name Lib.Math.max.code 2 (some .int), Cond.fieldLink RX8 52 "LeafTrees$Row" "length" "I", Cond.fieldLink RX8 55 "LeafTrees$Row" "symbols" "[I", Cond.methodLink RX8 58 yX8_entriesOf]
def wsX0_forbidLefts : List Cond := .code yX0_forbidLefts cX0_forbidLefts 3 none :: ((wsX0_forbidLefts_r1 ++ wsX0_forbidLefts_r2) ++ wsX80 ++ wsX40 ++ wsX00 ++ wsX30)
def wsX8_hasLeft : List Cond := .code yX8_hasLeft cX8_hasLeft 6 (some .boolean) :: ([.fieldLink RX8 26 "LeafTrees$World" "ruleCount" "I", .fieldLink RX8 17 "LeafTrees$World" "rules" "[LLeafTrees$Rule;", .fieldLink RX8 29 "LeafTrees$Rule" "left" "LLeafTrees$Row;", .fieldLink RX8 55 "LeafTrees$Row" "symbols" "[I"] ++ wsX80 ++ wsX40 ++ wsX30)
def wsX0_forbidUnlessLeft : List Cond := .code yX0_forbidUnlessLeft cX0_forbidUnlessLeft 6 none :: ([.fieldLink RX0 17 "LeafTrees$Census" "needs" "[[J", .methodLink RX0 105 yX8_hasLeft, .instanceMethod yX8_hasLeft, .selects RX8 yX8_hasLeft yX8_hasLeft, .initialized RX8, .code yX8_hasLeft cX8_hasLeft 6 (some .boolean), .fieldLink RX8 26 "LeafTrees$World" "ruleCount" "I", .fieldLink RX8 17 "LeafTrees$World" "rules" "[LLeafTrees$Rule;", .fieldLink RX8 29 "LeafTrees$Rule" "left" "LLeafTrees$Row;", .fieldLink RX8 55 "LeafTrees$Row" "symbols" "[I", .methodLink RX0 57 yX0_addNode, .instanceMethod yX0_addNode, .selects RX0 yX0_addNode yX0_addNode, .initialized RX0, .code yX0_addNode cX0_addNode 4 (some .int), .fieldLink RX0 76 "LeafTrees$Census" "nodes" "I", .fieldLink RX0 9 "LeafTrees$Census" "actOf" "[I", .fieldLink RX0 79 "LeafTrees$Census" "forbidden" "J"] ++ wsX00 ++ wsX80 ++ wsX40 ++ wsX30)
def wsX0_forbidAllButLefts_r1 : List Cond := [Cond.fieldLink RX0 54 "LeafTrees$World" "acts" "I", Cond.methodLink RX0 31 yX0_clear, Cond.instanceMethod yX0_clear, Cond.selects RX0 yX0_clear yX0_clear, Cond.initialized RX0, Cond.code yX0_clear cX0_clear 1 none, Cond.fieldLink RX0 76 "LeafTrees$Census" "nodes" "I", Cond.fieldLink RX0 79 "LeafTrees$Census" "forbidden" "J", Cond.methodLink RX0 57 yX0_addNode, Cond.instanceMethod yX0_addNode, Cond.selects RX0 yX0_addNode yX0_addNode, Cond.code yX0_addNode cX0_addNode 4 (some .int), Cond.fieldLink RX0 9 "LeafTrees$Census" "actOf" "[I", Cond.fieldLink RX0 17 "LeafTrees$Census" "needs" "[[J", Cond.methodLink RX0 61 yX0_forbidUnlessLeft, Cond.instanceMethod yX0_forbidUnlessLeft, Cond.selects RX0 yX0_forbidUnlessLeft yX0_forbidUnlessLeft, Cond.code yX0_forbidUnlessLeft cX0_forbidUnlessLeft 6 none, Cond.methodLink RX0 105 yX8_hasLeft, Cond.instanceMethod yX8_hasLeft, Cond.selects RX8 yX8_hasLeft yX8_hasLeft, Cond.initialized RX8, Cond.code yX8_hasLeft cX8_hasLeft 6 (some .boolean), Cond.fieldLink RX8 26 "LeafTrees$World" "ruleCount" "I"]
def wsX0_forbidAllButLefts_r2 : List Cond := [Cond.fieldLink RX8 17 "LeafTrees$World" "rules" "[LLeafTrees$Rule;", Cond.fieldLink RX8 29 "LeafTrees$Rule" "left" "LLeafTrees$Row;", Cond.fieldLink RX8 55 "LeafTrees$Row" "symbols" "[I"]
def wsX0_forbidAllButLefts : List Cond := .code yX0_forbidAllButLefts cX0_forbidAllButLefts 4 none :: ((wsX0_forbidAllButLefts_r1 ++ wsX0_forbidAllButLefts_r2) ++ wsX80 ++ wsX00 ++ wsX40 ++ wsX30)
def wsX7_clear : List Cond := .code yX7_clear cX7_clear 1 none :: ([.fieldLink RX7 16 "LeafTrees$Tally" "size" "I"] ++ wsX70)
def wsJ7_copyOf_c38d5 : List Cond := .code yJ7_copyOf_c38d5 cJ7_copyOf_c38d5 3 (some (.array .long)) :: ([.methodLink RJ7 319 ⟨"[J", "clone", "()Ljava/lang/Object;"⟩, .sameMethod "[J" "java/lang/Object" "clone" "()Ljava/lang/Object;", .native ⟨"java/lang/Object", "clone", "()Ljava/lang/Object;"⟩, .instanceMethod ⟨"java/lang/Object", "clone", "()Ljava/lang/Object;"⟩, .selects "[J" ⟨"[J", "clone", "()Ljava/lang/Object;"⟩ ⟨"java/lang/Object", "clone", "()Ljava/lang/Object;"⟩, .classLink RJ7 320 "[J", .arrayClass .long, .methodLink RJ7 304 Lib.Math.min.name, .static Lib.Math.min.name, .initialized "java/lang/Math", .code Lib.Math.min.name Lib.Math.min.code 2 (some .int), .methodLink RJ7 150 arraycopyName, .native arraycopyName, .static arraycopyName, .initialized "java/lang/System"])
def wsX7_add : List Cond := .code yX7_add cX7_add 6 none :: ([.fieldLink RX7 16 "LeafTrees$Tally" "size" "I", .fieldLink RX7 7 "LeafTrees$Tally" "kinds" "[J", .fieldLink RX7 13 "LeafTrees$Tally" "trees" "[J", .methodLink RX7 20 yJ7_copyOf_c38d5, .static yJ7_copyOf_c38d5, .initialized RJ7, .code yJ7_copyOf_c38d5 cJ7_copyOf_c38d5 3 (some (.array .long)), .methodLink RJ7 319 ⟨"[J", "clone", "()Ljava/lang/Object;"⟩, .sameMethod "[J" "java/lang/Object" "clone" "()Ljava/lang/Object;", .native ⟨"java/lang/Object", "clone", "()Ljava/lang/Object;"⟩, .instanceMethod ⟨"java/lang/Object", "clone", "()Ljava/lang/Object;"⟩, .selects "[J" ⟨"[J", "clone", "()Ljava/lang/Object;"⟩ ⟨"java/lang/Object", "clone", "()Ljava/lang/Object;"⟩, .classLink RJ7 320 "[J", .arrayClass .long, .methodLink RJ7 304 Lib.Math.min.name, .static Lib.Math.min.name, .initialized "java/lang/Math", .code Lib.Math.min.name Lib.Math.min.code 2 (some .int), .methodLink RJ7 150 arraycopyName, .native arraycopyName, .static arraycopyName, .initialized "java/lang/System"] ++ wsX70)
def wsX0_startTallies_r1 : List Cond := [Cond.fieldLink RX0 26 "LeafTrees$Census" "tallies" "[LLeafTrees$Tally;", Cond.methodLink RX0 109 yX7_clear, Cond.instanceMethod yX7_clear, Cond.selects RX7 yX7_clear yX7_clear, Cond.initialized RX7, Cond.code yX7_clear cX7_clear 1 none, Cond.fieldLink RX7 16 "LeafTrees$Tally" "size" "I", Cond.methodLink RX0 110 yX7_add, Cond.instanceMethod yX7_add, Cond.selects RX7 yX7_add yX7_add, Cond.code yX7_add cX7_add 6 none, Cond.fieldLink RX7 7 "LeafTrees$Tally" "kinds" "[J", Cond.fieldLink RX7 13 "LeafTrees$Tally" "trees" "[J", Cond.methodLink RX7 20 yJ7_copyOf_c38d5, Cond.static yJ7_copyOf_c38d5, Cond.initialized RJ7, Cond.code yJ7_copyOf_c38d5 cJ7_copyOf_c38d5 3 (some (.array .long)), Cond.methodLink RJ7 319 ⟨"[J", "clone", "()Ljava/lang/Object;"⟩, Cond.sameMethod "[J" "java/lang/Object" "clone" "()Ljava/lang/Object;", Cond.native ⟨"java/lang/Object", "clone", "()Ljava/lang/Object;"⟩, Cond.instanceMethod ⟨"java/lang/Object", "clone", "()Ljava/lang/Object;"⟩, Cond.selects "[J" ⟨"[J", "clone", "()Ljava/lang/Object;"⟩ ⟨"java/lang/Object", "clone", "()Ljava/lang/Object;"⟩, Cond.classLink RJ7 320 "[J", Cond.arrayClass .long]
def wsX0_startTallies_r2 : List Cond := [Cond.methodLink RJ7 304 Lib.Math.min.name, Cond.static Lib.Math.min.name, Cond.initialized "java/lang/Math", Cond.code Lib.Math.min.name Lib.Math.min.code 2 (some .int), Cond.methodLink RJ7 150 arraycopyName, Cond.native arraycopyName, Cond.static arraycopyName, Cond.initialized "java/lang/System"]
def wsX0_startTallies : List Cond := .code yX0_startTallies cX0_startTallies 2 none :: ((wsX0_startTallies_r1 ++ wsX0_startTallies_r2) ++ wsX00 ++ wsX70)
def wsX0_kindOf : List Cond := .code yX0_kindOf cX0_kindOf 11 (some .long) :: ([.fieldLink RX0 76 "LeafTrees$Census" "nodes" "I", .fieldLink RX0 9 "LeafTrees$Census" "actOf" "[I", .fieldLink RX0 17 "LeafTrees$Census" "needs" "[[J", .constantLong RX0 135 (-1)] ++ wsX00)
def wsX0_keep_r1 : List Cond := [Cond.fieldLink RX0 26 "LeafTrees$Census" "tallies" "[LLeafTrees$Tally;", Cond.methodLink RX0 110 yX7_add, Cond.instanceMethod yX7_add, Cond.selects RX7 yX7_add yX7_add, Cond.initialized RX7, Cond.code yX7_add cX7_add 6 none, Cond.fieldLink RX7 16 "LeafTrees$Tally" "size" "I", Cond.fieldLink RX7 7 "LeafTrees$Tally" "kinds" "[J", Cond.fieldLink RX7 13 "LeafTrees$Tally" "trees" "[J", Cond.methodLink RX7 20 yJ7_copyOf_c38d5, Cond.static yJ7_copyOf_c38d5, Cond.initialized RJ7, Cond.code yJ7_copyOf_c38d5 cJ7_copyOf_c38d5 3 (some (.array .long)), Cond.methodLink RJ7 319 ⟨"[J", "clone", "()Ljava/lang/Object;"⟩, Cond.sameMethod "[J" "java/lang/Object" "clone" "()Ljava/lang/Object;", Cond.native ⟨"java/lang/Object", "clone", "()Ljava/lang/Object;"⟩, Cond.instanceMethod ⟨"java/lang/Object", "clone", "()Ljava/lang/Object;"⟩, Cond.selects "[J" ⟨"[J", "clone", "()Ljava/lang/Object;"⟩ ⟨"java/lang/Object", "clone", "()Ljava/lang/Object;"⟩, Cond.classLink RJ7 320 "[J", Cond.arrayClass .long, Cond.methodLink RJ7 304 Lib.Math.min.name, Cond.static Lib.Math.min.name, Cond.initialized "java/lang/Math", Cond.code Lib.Math.min.name Lib.Math.min.code 2 (some .int)]
def wsX0_keep_r2 : List Cond := [Cond.methodLink RJ7 150 arraycopyName, Cond.native arraycopyName, Cond.static arraycopyName, Cond.initialized "java/lang/System"]
def wsX0_keep : List Cond := .code yX0_keep cX0_keep 6 none :: ((wsX0_keep_r1 ++ wsX0_keep_r2) ++ wsX00 ++ wsX70)
def wsX0_join_r1 : List Cond := [Cond.fieldLink RX0 118 "LeafTrees$Tally" "size" "I", Cond.fieldLink RX0 121 "LeafTrees$Tally" "kinds" "[J", Cond.fieldLink RX0 79 "LeafTrees$Census" "forbidden" "J", Cond.fieldLink RX0 128 "LeafTrees$Tally" "trees" "[J", Cond.methodLink RX0 124 yX0_kindOf, Cond.instanceMethod yX0_kindOf, Cond.selects RX0 yX0_kindOf yX0_kindOf, Cond.initialized RX0, Cond.code yX0_kindOf cX0_kindOf 11 (some .long), Cond.fieldLink RX0 76 "LeafTrees$Census" "nodes" "I", Cond.fieldLink RX0 9 "LeafTrees$Census" "actOf" "[I", Cond.fieldLink RX0 17 "LeafTrees$Census" "needs" "[[J", Cond.constantLong RX0 135 (-1), Cond.methodLink RX0 131 yX0_keep, Cond.instanceMethod yX0_keep, Cond.selects RX0 yX0_keep yX0_keep, Cond.code yX0_keep cX0_keep 6 none, Cond.fieldLink RX0 26 "LeafTrees$Census" "tallies" "[LLeafTrees$Tally;", Cond.methodLink RX0 110 yX7_add, Cond.instanceMethod yX7_add, Cond.selects RX7 yX7_add yX7_add, Cond.initialized RX7, Cond.code yX7_add cX7_add 6 none, Cond.fieldLink RX7 16 "LeafTrees$Tally" "size" "I"]
def wsX0_join_r2 : List Cond := [Cond.fieldLink RX7 7 "LeafTrees$Tally" "kinds" "[J", Cond.fieldLink RX7 13 "LeafTrees$Tally" "trees" "[J", Cond.methodLink RX7 20 yJ7_copyOf_c38d5, Cond.static yJ7_copyOf_c38d5, Cond.initialized RJ7, Cond.code yJ7_copyOf_c38d5 cJ7_copyOf_c38d5 3 (some (.array .long)), Cond.methodLink RJ7 319 ⟨"[J", "clone", "()Ljava/lang/Object;"⟩, Cond.sameMethod "[J" "java/lang/Object" "clone" "()Ljava/lang/Object;", Cond.native ⟨"java/lang/Object", "clone", "()Ljava/lang/Object;"⟩, Cond.instanceMethod ⟨"java/lang/Object", "clone", "()Ljava/lang/Object;"⟩, Cond.selects "[J" ⟨"[J", "clone", "()Ljava/lang/Object;"⟩ ⟨"java/lang/Object", "clone", "()Ljava/lang/Object;"⟩, Cond.classLink RJ7 320 "[J", Cond.arrayClass .long, Cond.methodLink RJ7 304 Lib.Math.min.name, Cond.static Lib.Math.min.name, Cond.initialized "java/lang/Math", Cond.code Lib.Math.min.name Lib.Math.min.code 2 (some .int), Cond.methodLink RJ7 150 arraycopyName, Cond.native arraycopyName, Cond.static arraycopyName, Cond.initialized "java/lang/System"]
def wsX0_join : List Cond := .code yX0_join cX0_join 15 (some .long) :: ((wsX0_join_r1 ++ wsX0_join_r2) ++ wsX70 ++ wsX00)
def wsX0_treesUnder_r1 : List Cond := [Cond.fieldLink RX0 26 "LeafTrees$Census" "tallies" "[LLeafTrees$Tally;", Cond.methodLink RX0 114 yX0_join, Cond.instanceMethod yX0_join, Cond.selects RX0 yX0_join yX0_join, Cond.initialized RX0, Cond.code yX0_join cX0_join 15 (some .long), Cond.fieldLink RX0 118 "LeafTrees$Tally" "size" "I", Cond.fieldLink RX0 121 "LeafTrees$Tally" "kinds" "[J", Cond.fieldLink RX0 79 "LeafTrees$Census" "forbidden" "J", Cond.fieldLink RX0 128 "LeafTrees$Tally" "trees" "[J", Cond.methodLink RX0 124 yX0_kindOf, Cond.instanceMethod yX0_kindOf, Cond.selects RX0 yX0_kindOf yX0_kindOf, Cond.code yX0_kindOf cX0_kindOf 11 (some .long), Cond.fieldLink RX0 76 "LeafTrees$Census" "nodes" "I", Cond.fieldLink RX0 9 "LeafTrees$Census" "actOf" "[I", Cond.fieldLink RX0 17 "LeafTrees$Census" "needs" "[[J", Cond.constantLong RX0 135 (-1), Cond.methodLink RX0 131 yX0_keep, Cond.instanceMethod yX0_keep, Cond.selects RX0 yX0_keep yX0_keep, Cond.code yX0_keep cX0_keep 6 none, Cond.methodLink RX0 110 yX7_add, Cond.instanceMethod yX7_add]
def wsX0_treesUnder_r2 : List Cond := [Cond.selects RX7 yX7_add yX7_add, Cond.initialized RX7, Cond.code yX7_add cX7_add 6 none, Cond.fieldLink RX7 16 "LeafTrees$Tally" "size" "I", Cond.fieldLink RX7 7 "LeafTrees$Tally" "kinds" "[J", Cond.fieldLink RX7 13 "LeafTrees$Tally" "trees" "[J", Cond.methodLink RX7 20 yJ7_copyOf_c38d5, Cond.static yJ7_copyOf_c38d5, Cond.initialized RJ7, Cond.code yJ7_copyOf_c38d5 cJ7_copyOf_c38d5 3 (some (.array .long)), Cond.methodLink RJ7 319 ⟨"[J", "clone", "()Ljava/lang/Object;"⟩, Cond.sameMethod "[J" "java/lang/Object" "clone" "()Ljava/lang/Object;", Cond.native ⟨"java/lang/Object", "clone", "()Ljava/lang/Object;"⟩, Cond.instanceMethod ⟨"java/lang/Object", "clone", "()Ljava/lang/Object;"⟩, Cond.selects "[J" ⟨"[J", "clone", "()Ljava/lang/Object;"⟩ ⟨"java/lang/Object", "clone", "()Ljava/lang/Object;"⟩, Cond.classLink RJ7 320 "[J", Cond.arrayClass .long, Cond.methodLink RJ7 304 Lib.Math.min.name, Cond.static Lib.Math.min.name, Cond.initialized "java/lang/Math", Cond.code Lib.Math.min.name Lib.Math.min.code 2 (some .int), Cond.methodLink RJ7 150 arraycopyName, Cond.native arraycopyName, Cond.static arraycopyName]
def wsX0_treesUnder_r3 : List Cond := [Cond.initialized "java/lang/System"]
def wsX0_treesUnder : List Cond := .code yX0_treesUnder cX0_treesUnder 9 (some .long) :: ((wsX0_treesUnder_r1 ++ (wsX0_treesUnder_r2 ++ wsX0_treesUnder_r3)) ++ wsX00 ++ wsX70)
def wsX0_run_r1 : List Cond := [Cond.fieldLink RX0 54 "LeafTrees$World" "acts" "I", Cond.methodLink RX0 65 yX0_startTallies, Cond.instanceMethod yX0_startTallies, Cond.selects RX0 yX0_startTallies yX0_startTallies, Cond.initialized RX0, Cond.code yX0_startTallies cX0_startTallies 2 none, Cond.fieldLink RX0 26 "LeafTrees$Census" "tallies" "[LLeafTrees$Tally;", Cond.methodLink RX0 109 yX7_clear, Cond.instanceMethod yX7_clear, Cond.selects RX7 yX7_clear yX7_clear, Cond.initialized RX7, Cond.code yX7_clear cX7_clear 1 none, Cond.fieldLink RX7 16 "LeafTrees$Tally" "size" "I", Cond.methodLink RX0 110 yX7_add, Cond.instanceMethod yX7_add, Cond.selects RX7 yX7_add yX7_add, Cond.code yX7_add cX7_add 6 none, Cond.fieldLink RX7 7 "LeafTrees$Tally" "kinds" "[J", Cond.fieldLink RX7 13 "LeafTrees$Tally" "trees" "[J", Cond.methodLink RX7 20 yJ7_copyOf_c38d5, Cond.static yJ7_copyOf_c38d5, Cond.initialized RJ7, Cond.code yJ7_copyOf_c38d5 cJ7_copyOf_c38d5 3 (some (.array .long)), Cond.methodLink RJ7 319 ⟨"[J", "clone", "()Ljava/lang/Object;"⟩]
def wsX0_run_r2 : List Cond := [Cond.sameMethod "[J" "java/lang/Object" "clone" "()Ljava/lang/Object;", Cond.native ⟨"java/lang/Object", "clone", "()Ljava/lang/Object;"⟩, Cond.instanceMethod ⟨"java/lang/Object", "clone", "()Ljava/lang/Object;"⟩, Cond.selects "[J" ⟨"[J", "clone", "()Ljava/lang/Object;"⟩ ⟨"java/lang/Object", "clone", "()Ljava/lang/Object;"⟩, Cond.classLink RJ7 320 "[J", Cond.arrayClass .long, Cond.methodLink RJ7 304 Lib.Math.min.name, Cond.static Lib.Math.min.name, Cond.initialized "java/lang/Math", Cond.code Lib.Math.min.name Lib.Math.min.code 2 (some .int), Cond.methodLink RJ7 150 arraycopyName, Cond.native arraycopyName, Cond.static arraycopyName, Cond.initialized "java/lang/System", Cond.methodLink RX0 68 yX8_entriesOf, Cond.instanceMethod yX8_entriesOf, Cond.selects RX8 yX8_entriesOf yX8_entriesOf, Cond.initialized RX8, Cond.code yX8_entriesOf cX8_entriesOf 2 (some .int), Cond.fieldLink RX8 22 "LeafTrees$World" "acts" "I", Cond.fieldLink RX8 9 "LeafTrees$World" "entries" "[I", Cond.methodLink RX0 72 yX0_treesUnder, Cond.instanceMethod yX0_treesUnder, Cond.selects RX0 yX0_treesUnder yX0_treesUnder]
def wsX0_run_r3 : List Cond := [Cond.code yX0_treesUnder cX0_treesUnder 9 (some .long), Cond.methodLink RX0 114 yX0_join, Cond.instanceMethod yX0_join, Cond.selects RX0 yX0_join yX0_join, Cond.code yX0_join cX0_join 15 (some .long), Cond.fieldLink RX0 118 "LeafTrees$Tally" "size" "I", Cond.fieldLink RX0 121 "LeafTrees$Tally" "kinds" "[J", Cond.fieldLink RX0 79 "LeafTrees$Census" "forbidden" "J", Cond.fieldLink RX0 128 "LeafTrees$Tally" "trees" "[J", Cond.methodLink RX0 124 yX0_kindOf, Cond.instanceMethod yX0_kindOf, Cond.selects RX0 yX0_kindOf yX0_kindOf, Cond.code yX0_kindOf cX0_kindOf 11 (some .long), Cond.fieldLink RX0 76 "LeafTrees$Census" "nodes" "I", Cond.fieldLink RX0 9 "LeafTrees$Census" "actOf" "[I", Cond.fieldLink RX0 17 "LeafTrees$Census" "needs" "[[J", Cond.constantLong RX0 135 (-1), Cond.methodLink RX0 131 yX0_keep, Cond.instanceMethod yX0_keep, Cond.selects RX0 yX0_keep yX0_keep, Cond.code yX0_keep cX0_keep 6 none]
def wsX0_run : List Cond := .code yX0_run cX0_run 5 none :: ((wsX0_run_r1 ++ (wsX0_run_r2 ++ wsX0_run_r3)) ++ wsX80 ++ wsX00 ++ wsX70)
def wsX3_init : List Cond := .code yX3_init cX3_init 1 none :: ([.methodLink RX3 3 objectInit, .instanceMethod objectInit, .code objectInit ⟨#[0xb1]⟩ 1 none, .arrayClass .int, .fieldLink RX3 9 "LeafTrees$Row" "symbols" "[I"] ++ wsX30)
def wsX1_init : List Cond := .code yX1_init cX1_init 1 none :: ([.methodLink RX1 3 objectInit, .instanceMethod objectInit, .code objectInit ⟨#[0xb1]⟩ 1 none, .classLink RX1 9 RX3, .instantiable RX3 2, .initialized RX3, .fieldLink RX1 12 "LeafTrees$Peaks" "top" "LLeafTrees$Row;", .instanceMethod yX3_init, .code yX3_init cX3_init 1 none, .methodLink RX3 3 objectInit, .arrayClass .int, .fieldLink RX3 9 "LeafTrees$Row" "symbols" "[I"] ++ wsX30 ++ wsX10)
def wsX1_restart : List Cond := .code yX1_restart cX1_restart 1 none :: ([.fieldLink RX1 18 "LeafTrees$Peaks" "spot" "I"] ++ wsX10)
def wsX8_isRule : List Cond := .code yX8_isRule cX8_isRule 2 (some .boolean) :: ([.fieldLink RX8 26 "LeafTrees$World" "ruleCount" "I"] ++ wsX80)
def wsX1_mayOverlap : List Cond := .code yX1_mayOverlap cX1_mayOverlap 3 (some .boolean) :: ([.fieldLink RX1 22 "LeafTrees$Peaks" "outer" "I", .fieldLink RX1 25 "LeafTrees$Peaks" "inner" "I", .fieldLink RX1 28 "LeafTrees$Peaks" "place" "I", .fieldLink RX1 35 "LeafTrees$World" "rules" "[LLeafTrees$Rule;", .fieldLink RX1 41 "LeafTrees$Rule" "left" "LLeafTrees$Row;", .fieldLink RX1 54 "LeafTrees$Row" "length" "I", .fieldLink RX1 57 "LeafTrees$Row" "symbols" "[I", .methodLink RX1 50 yX8_isRule, .instanceMethod yX8_isRule, .selects RX8 yX8_isRule yX8_isRule, .initialized RX8, .code yX8_isRule cX8_isRule 2 (some .boolean), .fieldLink RX8 26 "LeafTrees$World" "ruleCount" "I"] ++ wsX10 ++ wsX80 ++ wsX40 ++ wsX30)
def wsX3_clear : List Cond := .code yX3_clear cX3_clear 1 none :: ([.fieldLink RX3 15 "LeafTrees$Row" "length" "I"] ++ wsX30)
def wsX3_addPart : List Cond := .code yX3_addPart cX3_addPart 4 (some .boolean) :: ([.fieldLink RX3 15 "LeafTrees$Row" "length" "I", .fieldLink RX3 9 "LeafTrees$Row" "symbols" "[I", .methodLink RX3 19 arraycopyName, .native arraycopyName, .static arraycopyName, .initialized "java/lang/System"] ++ wsX30)
def wsX3_add : List Cond := .code yX3_add cX3_add 2 (some .boolean) :: ([.fieldLink RX3 15 "LeafTrees$Row" "length" "I", .fieldLink RX3 9 "LeafTrees$Row" "symbols" "[I"] ++ wsX30)
def wsX1_merge_r1 : List Cond := [Cond.fieldLink RX1 12 "LeafTrees$Peaks" "top" "LLeafTrees$Row;", Cond.fieldLink RX1 28 "LeafTrees$Peaks" "place" "I", Cond.fieldLink RX1 54 "LeafTrees$Row" "length" "I", Cond.fieldLink RX1 57 "LeafTrees$Row" "symbols" "[I", Cond.methodLink RX1 61 yX3_clear, Cond.instanceMethod yX3_clear, Cond.selects RX3 yX3_clear yX3_clear, Cond.initialized RX3, Cond.code yX3_clear cX3_clear 1 none, Cond.fieldLink RX3 15 "LeafTrees$Row" "length" "I", Cond.methodLink RX1 64 yX3_addPart, Cond.instanceMethod yX3_addPart, Cond.selects RX3 yX3_addPart yX3_addPart, Cond.code yX3_addPart cX3_addPart 4 (some .boolean), Cond.fieldLink RX3 9 "LeafTrees$Row" "symbols" "[I", Cond.methodLink RX3 19 arraycopyName, Cond.native arraycopyName, Cond.static arraycopyName, Cond.initialized "java/lang/System", Cond.methodLink RX1 68 yX3_add, Cond.instanceMethod yX3_add, Cond.selects RX3 yX3_add yX3_add, Cond.code yX3_add cX3_add 2 (some .boolean), Cond.methodLink RX1 71 yX8_endOf]
def wsX1_merge_r2 : List Cond := [Cond.instanceMethod yX8_endOf, Cond.selects RX8 yX8_endOf yX8_endOf, Cond.initialized RX8, Cond.code yX8_endOf cX8_endOf 5 (some .int), Cond.methodLink RX8 46 Lib.Math.max.name, Cond.static Lib.Math.max.name, Cond.initialized "java/lang/Math", Cond.code Lib.Math.max.name Lib.Math.max.code 2 (some .int), Cond.fieldLink RX8 52 "LeafTrees$Row" "length" "I", Cond.fieldLink RX8 55 "LeafTrees$Row" "symbols" "[I", Cond.methodLink RX8 58 yX8_entriesOf, Cond.instanceMethod yX8_entriesOf, Cond.selects RX8 yX8_entriesOf yX8_entriesOf, Cond.code yX8_entriesOf cX8_entriesOf 2 (some .int), Cond.fieldLink RX8 22 "LeafTrees$World" "acts" "I", Cond.fieldLink RX8 9 "LeafTrees$World" "entries" "[I"]
def wsX1_merge : List Cond := .code yX1_merge cX1_merge 8 (some .boolean) :: ((wsX1_merge_r1 ++ wsX1_merge_r2) ++ wsX10 ++ wsX30 ++ wsX80)
def wsX1_next_r1 : List Cond := [Cond.fieldLink RX1 18 "LeafTrees$Peaks" "spot" "I", Cond.fieldLink RX1 22 "LeafTrees$Peaks" "outer" "I", Cond.fieldLink RX1 25 "LeafTrees$Peaks" "inner" "I", Cond.fieldLink RX1 28 "LeafTrees$Peaks" "place" "I", Cond.fieldLink RX1 35 "LeafTrees$World" "rules" "[LLeafTrees$Rule;", Cond.fieldLink RX1 41 "LeafTrees$Rule" "left" "LLeafTrees$Row;", Cond.methodLink RX1 31 yX1_mayOverlap, Cond.instanceMethod yX1_mayOverlap, Cond.selects RX1 yX1_mayOverlap yX1_mayOverlap, Cond.initialized RX1, Cond.code yX1_mayOverlap cX1_mayOverlap 3 (some .boolean), Cond.fieldLink RX1 54 "LeafTrees$Row" "length" "I", Cond.fieldLink RX1 57 "LeafTrees$Row" "symbols" "[I", Cond.methodLink RX1 50 yX8_isRule, Cond.instanceMethod yX8_isRule, Cond.selects RX8 yX8_isRule yX8_isRule, Cond.initialized RX8, Cond.code yX8_isRule cX8_isRule 2 (some .boolean), Cond.fieldLink RX8 26 "LeafTrees$World" "ruleCount" "I", Cond.methodLink RX1 46 yX1_merge, Cond.instanceMethod yX1_merge, Cond.selects RX1 yX1_merge yX1_merge, Cond.code yX1_merge cX1_merge 8 (some .boolean), Cond.fieldLink RX1 12 "LeafTrees$Peaks" "top" "LLeafTrees$Row;"]
def wsX1_next_r2 : List Cond := [Cond.methodLink RX1 61 yX3_clear, Cond.instanceMethod yX3_clear, Cond.selects RX3 yX3_clear yX3_clear, Cond.initialized RX3, Cond.code yX3_clear cX3_clear 1 none, Cond.fieldLink RX3 15 "LeafTrees$Row" "length" "I", Cond.methodLink RX1 64 yX3_addPart, Cond.instanceMethod yX3_addPart, Cond.selects RX3 yX3_addPart yX3_addPart, Cond.code yX3_addPart cX3_addPart 4 (some .boolean), Cond.fieldLink RX3 9 "LeafTrees$Row" "symbols" "[I", Cond.methodLink RX3 19 arraycopyName, Cond.native arraycopyName, Cond.static arraycopyName, Cond.initialized "java/lang/System", Cond.methodLink RX1 68 yX3_add, Cond.instanceMethod yX3_add, Cond.selects RX3 yX3_add yX3_add, Cond.code yX3_add cX3_add 2 (some .boolean), Cond.methodLink RX1 71 yX8_endOf, Cond.instanceMethod yX8_endOf, Cond.selects RX8 yX8_endOf yX8_endOf, Cond.code yX8_endOf cX8_endOf 5 (some .int), Cond.methodLink RX8 46 Lib.Math.max.name]
def wsX1_next_r3 : List Cond := [Cond.static Lib.Math.max.name, Cond.initialized "java/lang/Math", Cond.code Lib.Math.max.name Lib.Math.max.code 2 (some .int), Cond.fieldLink RX8 52 "LeafTrees$Row" "length" "I", Cond.fieldLink RX8 55 "LeafTrees$Row" "symbols" "[I", Cond.methodLink RX8 58 yX8_entriesOf, Cond.instanceMethod yX8_entriesOf, Cond.selects RX8 yX8_entriesOf yX8_entriesOf, Cond.code yX8_entriesOf cX8_entriesOf 2 (some .int), Cond.fieldLink RX8 22 "LeafTrees$World" "acts" "I", Cond.fieldLink RX8 9 "LeafTrees$World" "entries" "[I"]
def wsX1_next : List Cond := .code yX1_next cX1_next 2 (some .boolean) :: ((wsX1_next_r1 ++ (wsX1_next_r2 ++ wsX1_next_r3)) ++ wsX10 ++ wsX80 ++ wsX40 ++ wsX30)
def wsX6_init : List Cond := .code yX6_init cX6_init 1 none :: ([.methodLink RX6 3 objectInit, .instanceMethod objectInit, .code objectInit ⟨#[0xb1]⟩ 1 none, .arrayClass .int, .fieldLink RX6 9 "LeafTrees$Shape" "ends" "[I"] ++ wsX60)
def wsX2_init : List Cond := .code yX2_init cX2_init 1 none :: ([.methodLink RX2 3 objectInit, .instanceMethod objectInit, .code objectInit ⟨#[0xb1]⟩ 1 none, .classLink RX2 9 RX6, .instantiable RX6 1, .initialized RX6, .fieldLink RX2 12 "LeafTrees$Rewriter" "shape" "LLeafTrees$Shape;", .arrayClass .int, .fieldLink RX2 18 "LeafTrees$Rewriter" "caught" "[I", .classLink RX2 22 RX3, .instantiable RX3 2, .initialized RX3, .fieldLink RX2 25 "LeafTrees$Rewriter" "made" "LLeafTrees$Row;", .fieldLink RX2 29 "LeafTrees$Rewriter" "one" "LLeafTrees$Row;", .fieldLink RX2 32 "LeafTrees$Rewriter" "other" "LLeafTrees$Row;", .instanceMethod yX6_init, .code yX6_init cX6_init 1 none, .methodLink RX6 3 objectInit, .fieldLink RX6 9 "LeafTrees$Shape" "ends" "[I", .instanceMethod yX3_init, .code yX3_init cX3_init 1 none, .methodLink RX3 3 objectInit, .fieldLink RX3 9 "LeafTrees$Row" "symbols" "[I"] ++ wsX60 ++ wsX20 ++ wsX30)
def wsX6_measure : List Cond := .code yX6_measure cX6_measure 7 none :: ([.fieldLink RX6 15 "LeafTrees$Row" "length" "I", .fieldLink RX6 21 "LeafTrees$Row" "symbols" "[I", .fieldLink RX6 9 "LeafTrees$Shape" "ends" "[I", .methodLink RX6 24 yX8_entriesOf, .instanceMethod yX8_entriesOf, .selects RX8 yX8_entriesOf yX8_entriesOf, .initialized RX8, .code yX8_entriesOf cX8_entriesOf 2 (some .int), .fieldLink RX8 22 "LeafTrees$World" "acts" "I", .fieldLink RX8 9 "LeafTrees$World" "entries" "[I"] ++ wsX30 ++ wsX60 ++ wsX80)
def wsX2_fits : List Cond := .code yX2_fits cX2_fits 7 (some .boolean) :: ([.fieldLink RX2 39 "LeafTrees$Row" "length" "I", .fieldLink RX2 57 "LeafTrees$Row" "symbols" "[I", .fieldLink RX2 18 "LeafTrees$Rewriter" "caught" "[I", .fieldLink RX2 12 "LeafTrees$Rewriter" "shape" "LLeafTrees$Shape;", .fieldLink RX2 105 "LeafTrees$Shape" "ends" "[I"] ++ wsX30 ++ wsX20 ++ wsX60)
def wsX2_firstPlace_r1 : List Cond := [Cond.fieldLink RX2 12 "LeafTrees$Rewriter" "shape" "LLeafTrees$Shape;", Cond.fieldLink RX2 39 "LeafTrees$Row" "length" "I", Cond.fieldLink RX2 43 "LeafTrees$Rule" "left" "LLeafTrees$Row;", Cond.methodLink RX2 35 yX6_measure, Cond.instanceMethod yX6_measure, Cond.selects RX6 yX6_measure yX6_measure, Cond.initialized RX6, Cond.code yX6_measure cX6_measure 7 none, Cond.fieldLink RX6 15 "LeafTrees$Row" "length" "I", Cond.fieldLink RX6 21 "LeafTrees$Row" "symbols" "[I", Cond.fieldLink RX6 9 "LeafTrees$Shape" "ends" "[I", Cond.methodLink RX6 24 yX8_entriesOf, Cond.instanceMethod yX8_entriesOf, Cond.selects RX8 yX8_entriesOf yX8_entriesOf, Cond.initialized RX8, Cond.code yX8_entriesOf cX8_entriesOf 2 (some .int), Cond.fieldLink RX8 22 "LeafTrees$World" "acts" "I", Cond.fieldLink RX8 9 "LeafTrees$World" "entries" "[I", Cond.methodLink RX2 48 yX2_fits, Cond.instanceMethod yX2_fits, Cond.selects RX2 yX2_fits yX2_fits, Cond.initialized RX2, Cond.code yX2_fits cX2_fits 7 (some .boolean), Cond.fieldLink RX2 57 "LeafTrees$Row" "symbols" "[I"]
def wsX2_firstPlace_r2 : List Cond := [Cond.fieldLink RX2 18 "LeafTrees$Rewriter" "caught" "[I", Cond.fieldLink RX2 105 "LeafTrees$Shape" "ends" "[I"]
def wsX2_firstPlace : List Cond := .code yX2_firstPlace cX2_firstPlace 5 (some .int) :: ((wsX2_firstPlace_r1 ++ wsX2_firstPlace_r2) ++ wsX20 ++ wsX30 ++ wsX40 ++ wsX60 ++ wsX80)
def wsX3_become : List Cond := .code yX3_become cX3_become 2 none :: ([.fieldLink RX3 9 "LeafTrees$Row" "symbols" "[I", .fieldLink RX3 15 "LeafTrees$Row" "length" "I", .methodLink RX3 19 arraycopyName, .native arraycopyName, .static arraycopyName, .initialized "java/lang/System"] ++ wsX30)
def wsX2_replace_r1 : List Cond := [Cond.fieldLink RX2 108 "LeafTrees$Rule" "toNothing" "Z", Cond.fieldLink RX2 25 "LeafTrees$Rewriter" "made" "LLeafTrees$Row;", Cond.fieldLink RX2 119 "LeafTrees$Rule" "right" "LLeafTrees$Row;", Cond.fieldLink RX2 39 "LeafTrees$Row" "length" "I", Cond.fieldLink RX2 57 "LeafTrees$Row" "symbols" "[I", Cond.fieldLink RX2 18 "LeafTrees$Rewriter" "caught" "[I", Cond.fieldLink RX2 12 "LeafTrees$Rewriter" "shape" "LLeafTrees$Shape;", Cond.fieldLink RX2 105 "LeafTrees$Shape" "ends" "[I", Cond.methodLink RX2 112 yX3_clear, Cond.instanceMethod yX3_clear, Cond.selects RX3 yX3_clear yX3_clear, Cond.initialized RX3, Cond.code yX3_clear cX3_clear 1 none, Cond.fieldLink RX3 15 "LeafTrees$Row" "length" "I", Cond.methodLink RX2 115 yX3_addPart, Cond.instanceMethod yX3_addPart, Cond.selects RX3 yX3_addPart yX3_addPart, Cond.code yX3_addPart cX3_addPart 4 (some .boolean), Cond.fieldLink RX3 9 "LeafTrees$Row" "symbols" "[I", Cond.methodLink RX3 19 arraycopyName, Cond.native arraycopyName, Cond.static arraycopyName, Cond.initialized "java/lang/System", Cond.methodLink RX2 122 yX3_add]
def wsX2_replace_r2 : List Cond := [Cond.instanceMethod yX3_add, Cond.selects RX3 yX3_add yX3_add, Cond.code yX3_add cX3_add 2 (some .boolean), Cond.methodLink RX2 77 yX3_become, Cond.instanceMethod yX3_become, Cond.selects RX3 yX3_become yX3_become, Cond.code yX3_become cX3_become 2 none]
def wsX2_replace : List Cond := .code yX2_replace cX2_replace 8 (some .int) :: ((wsX2_replace_r1 ++ wsX2_replace_r2) ++ wsX40 ++ wsX20 ++ wsX30 ++ wsX60)
def wsX2_advance_r1 : List Cond := [Cond.fieldLink RX2 12 "LeafTrees$Rewriter" "shape" "LLeafTrees$Shape;", Cond.fieldLink RX2 39 "LeafTrees$Row" "length" "I", Cond.fieldLink RX2 52 "LeafTrees$World" "ruleCount" "I", Cond.fieldLink RX2 57 "LeafTrees$Row" "symbols" "[I", Cond.fieldLink RX2 60 "LeafTrees$World" "rules" "[LLeafTrees$Rule;", Cond.fieldLink RX2 43 "LeafTrees$Rule" "left" "LLeafTrees$Row;", Cond.methodLink RX2 35 yX6_measure, Cond.instanceMethod yX6_measure, Cond.selects RX6 yX6_measure yX6_measure, Cond.initialized RX6, Cond.code yX6_measure cX6_measure 7 none, Cond.fieldLink RX6 15 "LeafTrees$Row" "length" "I", Cond.fieldLink RX6 21 "LeafTrees$Row" "symbols" "[I", Cond.fieldLink RX6 9 "LeafTrees$Shape" "ends" "[I", Cond.methodLink RX6 24 yX8_entriesOf, Cond.instanceMethod yX8_entriesOf, Cond.selects RX8 yX8_entriesOf yX8_entriesOf, Cond.initialized RX8, Cond.code yX8_entriesOf cX8_entriesOf 2 (some .int), Cond.fieldLink RX8 22 "LeafTrees$World" "acts" "I", Cond.fieldLink RX8 9 "LeafTrees$World" "entries" "[I", Cond.methodLink RX2 48 yX2_fits, Cond.instanceMethod yX2_fits, Cond.selects RX2 yX2_fits yX2_fits]
def wsX2_advance_r2 : List Cond := [Cond.initialized RX2, Cond.code yX2_fits cX2_fits 7 (some .boolean), Cond.fieldLink RX2 18 "LeafTrees$Rewriter" "caught" "[I", Cond.fieldLink RX2 105 "LeafTrees$Shape" "ends" "[I", Cond.methodLink RX2 64 yX2_replace, Cond.instanceMethod yX2_replace, Cond.selects RX2 yX2_replace yX2_replace, Cond.code yX2_replace cX2_replace 8 (some .int), Cond.fieldLink RX2 108 "LeafTrees$Rule" "toNothing" "Z", Cond.fieldLink RX2 25 "LeafTrees$Rewriter" "made" "LLeafTrees$Row;", Cond.fieldLink RX2 119 "LeafTrees$Rule" "right" "LLeafTrees$Row;", Cond.methodLink RX2 112 yX3_clear, Cond.instanceMethod yX3_clear, Cond.selects RX3 yX3_clear yX3_clear, Cond.initialized RX3, Cond.code yX3_clear cX3_clear 1 none, Cond.fieldLink RX3 15 "LeafTrees$Row" "length" "I", Cond.methodLink RX2 115 yX3_addPart, Cond.instanceMethod yX3_addPart, Cond.selects RX3 yX3_addPart yX3_addPart, Cond.code yX3_addPart cX3_addPart 4 (some .boolean), Cond.fieldLink RX3 9 "LeafTrees$Row" "symbols" "[I", Cond.methodLink RX3 19 arraycopyName, Cond.native arraycopyName]
def wsX2_advance_r3 : List Cond := [Cond.static arraycopyName, Cond.initialized "java/lang/System", Cond.methodLink RX2 122 yX3_add, Cond.instanceMethod yX3_add, Cond.selects RX3 yX3_add yX3_add, Cond.code yX3_add cX3_add 2 (some .boolean), Cond.methodLink RX2 77 yX3_become, Cond.instanceMethod yX3_become, Cond.selects RX3 yX3_become yX3_become, Cond.code yX3_become cX3_become 2 none]
def wsX2_advance : List Cond := .code yX2_advance cX2_advance 5 (some .int) :: ((wsX2_advance_r1 ++ (wsX2_advance_r2 ++ wsX2_advance_r3)) ++ wsX20 ++ wsX30 ++ wsX80 ++ wsX40 ++ wsX60)
def wsX2_normalForm_r1 : List Cond := [Cond.methodLink RX2 68 yX2_advance, Cond.instanceMethod yX2_advance, Cond.selects RX2 yX2_advance yX2_advance, Cond.initialized RX2, Cond.code yX2_advance cX2_advance 5 (some .int), Cond.fieldLink RX2 12 "LeafTrees$Rewriter" "shape" "LLeafTrees$Shape;", Cond.fieldLink RX2 39 "LeafTrees$Row" "length" "I", Cond.fieldLink RX2 52 "LeafTrees$World" "ruleCount" "I", Cond.fieldLink RX2 57 "LeafTrees$Row" "symbols" "[I", Cond.fieldLink RX2 60 "LeafTrees$World" "rules" "[LLeafTrees$Rule;", Cond.fieldLink RX2 43 "LeafTrees$Rule" "left" "LLeafTrees$Row;", Cond.methodLink RX2 35 yX6_measure, Cond.instanceMethod yX6_measure, Cond.selects RX6 yX6_measure yX6_measure, Cond.initialized RX6, Cond.code yX6_measure cX6_measure 7 none, Cond.fieldLink RX6 15 "LeafTrees$Row" "length" "I", Cond.fieldLink RX6 21 "LeafTrees$Row" "symbols" "[I", Cond.fieldLink RX6 9 "LeafTrees$Shape" "ends" "[I", Cond.methodLink RX6 24 yX8_entriesOf, Cond.instanceMethod yX8_entriesOf, Cond.selects RX8 yX8_entriesOf yX8_entriesOf, Cond.initialized RX8, Cond.code yX8_entriesOf cX8_entriesOf 2 (some .int)]
def wsX2_normalForm_r2 : List Cond := [Cond.fieldLink RX8 22 "LeafTrees$World" "acts" "I", Cond.fieldLink RX8 9 "LeafTrees$World" "entries" "[I", Cond.methodLink RX2 48 yX2_fits, Cond.instanceMethod yX2_fits, Cond.selects RX2 yX2_fits yX2_fits, Cond.code yX2_fits cX2_fits 7 (some .boolean), Cond.fieldLink RX2 18 "LeafTrees$Rewriter" "caught" "[I", Cond.fieldLink RX2 105 "LeafTrees$Shape" "ends" "[I", Cond.methodLink RX2 64 yX2_replace, Cond.instanceMethod yX2_replace, Cond.selects RX2 yX2_replace yX2_replace, Cond.code yX2_replace cX2_replace 8 (some .int), Cond.fieldLink RX2 108 "LeafTrees$Rule" "toNothing" "Z", Cond.fieldLink RX2 25 "LeafTrees$Rewriter" "made" "LLeafTrees$Row;", Cond.fieldLink RX2 119 "LeafTrees$Rule" "right" "LLeafTrees$Row;", Cond.methodLink RX2 112 yX3_clear, Cond.instanceMethod yX3_clear, Cond.selects RX3 yX3_clear yX3_clear, Cond.initialized RX3, Cond.code yX3_clear cX3_clear 1 none, Cond.fieldLink RX3 15 "LeafTrees$Row" "length" "I", Cond.methodLink RX2 115 yX3_addPart, Cond.instanceMethod yX3_addPart, Cond.selects RX3 yX3_addPart yX3_addPart]
def wsX2_normalForm_r3 : List Cond := [Cond.code yX3_addPart cX3_addPart 4 (some .boolean), Cond.fieldLink RX3 9 "LeafTrees$Row" "symbols" "[I", Cond.methodLink RX3 19 arraycopyName, Cond.native arraycopyName, Cond.static arraycopyName, Cond.initialized "java/lang/System", Cond.methodLink RX2 122 yX3_add, Cond.instanceMethod yX3_add, Cond.selects RX3 yX3_add yX3_add, Cond.code yX3_add cX3_add 2 (some .boolean), Cond.methodLink RX2 77 yX3_become, Cond.instanceMethod yX3_become, Cond.selects RX3 yX3_become yX3_become, Cond.code yX3_become cX3_become 2 none]
def wsX2_normalForm : List Cond := .code yX2_normalForm cX2_normalForm 5 (some .int) :: ((wsX2_normalForm_r1 ++ (wsX2_normalForm_r2 ++ wsX2_normalForm_r3)) ++ wsX20 ++ wsX30 ++ wsX80 ++ wsX40 ++ wsX60)
def wsX2_goDown_r1 : List Cond := [Cond.fieldLink RX2 12 "LeafTrees$Rewriter" "shape" "LLeafTrees$Shape;", Cond.fieldLink RX2 60 "LeafTrees$World" "rules" "[LLeafTrees$Rule;", Cond.fieldLink RX2 43 "LeafTrees$Rule" "left" "LLeafTrees$Row;", Cond.methodLink RX2 35 yX6_measure, Cond.instanceMethod yX6_measure, Cond.selects RX6 yX6_measure yX6_measure, Cond.initialized RX6, Cond.code yX6_measure cX6_measure 7 none, Cond.fieldLink RX6 15 "LeafTrees$Row" "length" "I", Cond.fieldLink RX6 21 "LeafTrees$Row" "symbols" "[I", Cond.fieldLink RX6 9 "LeafTrees$Shape" "ends" "[I", Cond.methodLink RX6 24 yX8_entriesOf, Cond.instanceMethod yX8_entriesOf, Cond.selects RX8 yX8_entriesOf yX8_entriesOf, Cond.initialized RX8, Cond.code yX8_entriesOf cX8_entriesOf 2 (some .int), Cond.fieldLink RX8 22 "LeafTrees$World" "acts" "I", Cond.fieldLink RX8 9 "LeafTrees$World" "entries" "[I", Cond.methodLink RX2 98 yX8_isRule, Cond.instanceMethod yX8_isRule, Cond.selects RX8 yX8_isRule yX8_isRule, Cond.code yX8_isRule cX8_isRule 2 (some .boolean), Cond.fieldLink RX8 26 "LeafTrees$World" "ruleCount" "I", Cond.methodLink RX2 48 yX2_fits]
def wsX2_goDown_r2 : List Cond := [Cond.instanceMethod yX2_fits, Cond.selects RX2 yX2_fits yX2_fits, Cond.initialized RX2, Cond.code yX2_fits cX2_fits 7 (some .boolean), Cond.fieldLink RX2 39 "LeafTrees$Row" "length" "I", Cond.fieldLink RX2 57 "LeafTrees$Row" "symbols" "[I", Cond.fieldLink RX2 18 "LeafTrees$Rewriter" "caught" "[I", Cond.fieldLink RX2 105 "LeafTrees$Shape" "ends" "[I", Cond.methodLink RX2 64 yX2_replace, Cond.instanceMethod yX2_replace, Cond.selects RX2 yX2_replace yX2_replace, Cond.code yX2_replace cX2_replace 8 (some .int), Cond.fieldLink RX2 108 "LeafTrees$Rule" "toNothing" "Z", Cond.fieldLink RX2 25 "LeafTrees$Rewriter" "made" "LLeafTrees$Row;", Cond.fieldLink RX2 119 "LeafTrees$Rule" "right" "LLeafTrees$Row;", Cond.methodLink RX2 112 yX3_clear, Cond.instanceMethod yX3_clear, Cond.selects RX3 yX3_clear yX3_clear, Cond.initialized RX3, Cond.code yX3_clear cX3_clear 1 none, Cond.fieldLink RX3 15 "LeafTrees$Row" "length" "I", Cond.methodLink RX2 115 yX3_addPart, Cond.instanceMethod yX3_addPart, Cond.selects RX3 yX3_addPart yX3_addPart]
def wsX2_goDown_r3 : List Cond := [Cond.code yX3_addPart cX3_addPart 4 (some .boolean), Cond.fieldLink RX3 9 "LeafTrees$Row" "symbols" "[I", Cond.methodLink RX3 19 arraycopyName, Cond.native arraycopyName, Cond.static arraycopyName, Cond.initialized "java/lang/System", Cond.methodLink RX2 122 yX3_add, Cond.instanceMethod yX3_add, Cond.selects RX3 yX3_add yX3_add, Cond.code yX3_add cX3_add 2 (some .boolean), Cond.methodLink RX2 77 yX3_become, Cond.instanceMethod yX3_become, Cond.selects RX3 yX3_become yX3_become, Cond.code yX3_become cX3_become 2 none, Cond.methodLink RX2 102 yX2_normalForm, Cond.instanceMethod yX2_normalForm, Cond.selects RX2 yX2_normalForm yX2_normalForm, Cond.code yX2_normalForm cX2_normalForm 5 (some .int), Cond.methodLink RX2 68 yX2_advance, Cond.instanceMethod yX2_advance, Cond.selects RX2 yX2_advance yX2_advance, Cond.code yX2_advance cX2_advance 5 (some .int), Cond.fieldLink RX2 52 "LeafTrees$World" "ruleCount" "I"]
def wsX2_goDown : List Cond := .code yX2_goDown cX2_goDown 6 (some .int) :: ((wsX2_goDown_r1 ++ (wsX2_goDown_r2 ++ wsX2_goDown_r3)) ++ wsX20 ++ wsX80 ++ wsX40 ++ wsX30 ++ wsX60)
def wsX3_isLike : List Cond := .code yX3_isLike cX3_isLike 3 (some .boolean) :: ([.fieldLink RX3 15 "LeafTrees$Row" "length" "I", .fieldLink RX3 9 "LeafTrees$Row" "symbols" "[I"] ++ wsX30)
def wsX2_meet_r1 : List Cond := [Cond.fieldLink RX2 29 "LeafTrees$Rewriter" "one" "LLeafTrees$Row;", Cond.fieldLink RX2 72 "LeafTrees$Peaks" "top" "LLeafTrees$Row;", Cond.fieldLink RX2 32 "LeafTrees$Rewriter" "other" "LLeafTrees$Row;", Cond.fieldLink RX2 81 "LeafTrees$Peaks" "outer" "I", Cond.fieldLink RX2 88 "LeafTrees$Peaks" "inner" "I", Cond.fieldLink RX2 91 "LeafTrees$Peaks" "place" "I", Cond.methodLink RX2 77 yX3_become, Cond.instanceMethod yX3_become, Cond.selects RX3 yX3_become yX3_become, Cond.initialized RX3, Cond.code yX3_become cX3_become 2 none, Cond.fieldLink RX3 9 "LeafTrees$Row" "symbols" "[I", Cond.fieldLink RX3 15 "LeafTrees$Row" "length" "I", Cond.methodLink RX3 19 arraycopyName, Cond.native arraycopyName, Cond.static arraycopyName, Cond.initialized "java/lang/System", Cond.methodLink RX2 84 yX2_goDown, Cond.instanceMethod yX2_goDown, Cond.selects RX2 yX2_goDown yX2_goDown, Cond.initialized RX2, Cond.code yX2_goDown cX2_goDown 6 (some .int), Cond.fieldLink RX2 12 "LeafTrees$Rewriter" "shape" "LLeafTrees$Shape;", Cond.fieldLink RX2 60 "LeafTrees$World" "rules" "[LLeafTrees$Rule;"]
def wsX2_meet_r2 : List Cond := [Cond.fieldLink RX2 43 "LeafTrees$Rule" "left" "LLeafTrees$Row;", Cond.methodLink RX2 35 yX6_measure, Cond.instanceMethod yX6_measure, Cond.selects RX6 yX6_measure yX6_measure, Cond.initialized RX6, Cond.code yX6_measure cX6_measure 7 none, Cond.fieldLink RX6 15 "LeafTrees$Row" "length" "I", Cond.fieldLink RX6 21 "LeafTrees$Row" "symbols" "[I", Cond.fieldLink RX6 9 "LeafTrees$Shape" "ends" "[I", Cond.methodLink RX6 24 yX8_entriesOf, Cond.instanceMethod yX8_entriesOf, Cond.selects RX8 yX8_entriesOf yX8_entriesOf, Cond.initialized RX8, Cond.code yX8_entriesOf cX8_entriesOf 2 (some .int), Cond.fieldLink RX8 22 "LeafTrees$World" "acts" "I", Cond.fieldLink RX8 9 "LeafTrees$World" "entries" "[I", Cond.methodLink RX2 98 yX8_isRule, Cond.instanceMethod yX8_isRule, Cond.selects RX8 yX8_isRule yX8_isRule, Cond.code yX8_isRule cX8_isRule 2 (some .boolean), Cond.fieldLink RX8 26 "LeafTrees$World" "ruleCount" "I", Cond.methodLink RX2 48 yX2_fits, Cond.instanceMethod yX2_fits, Cond.selects RX2 yX2_fits yX2_fits]
def wsX2_meet_r3 : List Cond := [Cond.code yX2_fits cX2_fits 7 (some .boolean), Cond.fieldLink RX2 39 "LeafTrees$Row" "length" "I", Cond.fieldLink RX2 57 "LeafTrees$Row" "symbols" "[I", Cond.fieldLink RX2 18 "LeafTrees$Rewriter" "caught" "[I", Cond.fieldLink RX2 105 "LeafTrees$Shape" "ends" "[I", Cond.methodLink RX2 64 yX2_replace, Cond.instanceMethod yX2_replace, Cond.selects RX2 yX2_replace yX2_replace, Cond.code yX2_replace cX2_replace 8 (some .int), Cond.fieldLink RX2 108 "LeafTrees$Rule" "toNothing" "Z", Cond.fieldLink RX2 25 "LeafTrees$Rewriter" "made" "LLeafTrees$Row;", Cond.fieldLink RX2 119 "LeafTrees$Rule" "right" "LLeafTrees$Row;", Cond.methodLink RX2 112 yX3_clear, Cond.instanceMethod yX3_clear, Cond.selects RX3 yX3_clear yX3_clear, Cond.code yX3_clear cX3_clear 1 none, Cond.methodLink RX2 115 yX3_addPart, Cond.instanceMethod yX3_addPart, Cond.selects RX3 yX3_addPart yX3_addPart, Cond.code yX3_addPart cX3_addPart 4 (some .boolean), Cond.methodLink RX2 122 yX3_add, Cond.instanceMethod yX3_add, Cond.selects RX3 yX3_add yX3_add, Cond.code yX3_add cX3_add 2 (some .boolean)]
def wsX2_meet_r4 : List Cond := [Cond.methodLink RX2 102 yX2_normalForm, Cond.instanceMethod yX2_normalForm, Cond.selects RX2 yX2_normalForm yX2_normalForm, Cond.code yX2_normalForm cX2_normalForm 5 (some .int), Cond.methodLink RX2 68 yX2_advance, Cond.instanceMethod yX2_advance, Cond.selects RX2 yX2_advance yX2_advance, Cond.code yX2_advance cX2_advance 5 (some .int), Cond.fieldLink RX2 52 "LeafTrees$World" "ruleCount" "I", Cond.methodLink RX2 94 yX3_isLike, Cond.instanceMethod yX3_isLike, Cond.selects RX3 yX3_isLike yX3_isLike, Cond.code yX3_isLike cX3_isLike 3 (some .boolean)]
def wsX2_meet : List Cond := .code yX2_meet cX2_meet 5 (some .int) :: ((wsX2_meet_r1 ++ (wsX2_meet_r2 ++ (wsX2_meet_r3 ++ wsX2_meet_r4))) ++ wsX20 ++ wsX10 ++ wsX30 ++ wsX80 ++ wsX40 ++ wsX60)
def wsX3_leaves : List Cond := .code yX3_leaves cX3_leaves 3 (some .int) :: ([.fieldLink RX3 15 "LeafTrees$Row" "length" "I", .fieldLink RX3 9 "LeafTrees$Row" "symbols" "[I"] ++ wsX30)
def wsX3_size : List Cond := .code yX3_size cX3_size 1 (some .int) :: ([.fieldLink RX3 15 "LeafTrees$Row" "length" "I", .methodLink RX3 25 yX3_leaves, .instanceMethod yX3_leaves, .selects RX3 yX3_leaves yX3_leaves, .initialized RX3, .code yX3_leaves cX3_leaves 3 (some .int), .fieldLink RX3 9 "LeafTrees$Row" "symbols" "[I"] ++ wsX30)
def wsX3_placeOfLeaf : List Cond := .code yX3_placeOfLeaf cX3_placeOfLeaf 4 (some .int) :: ([.fieldLink RX3 15 "LeafTrees$Row" "length" "I", .fieldLink RX3 9 "LeafTrees$Row" "symbols" "[I"] ++ wsX30)
def wsX3_digestedAfter : List Cond := .code yX3_digestedAfter cX3_digestedAfter 6 (some .long) :: ([.fieldLink RX3 15 "LeafTrees$Row" "length" "I", .constantLong RX3 29 (31), .fieldLink RX3 9 "LeafTrees$Row" "symbols" "[I", .constantLong RX3 31 (9)] ++ wsX30)
def wsX4_init : List Cond := .code yX4_init cX4_init 1 none :: ([.methodLink RX4 1 objectInit, .instanceMethod objectInit, .code objectInit ⟨#[0xb1]⟩ 1 none, .classLink RX4 7 RX3, .instantiable RX3 2, .initialized RX3, .fieldLink RX4 10 "LeafTrees$Rule" "left" "LLeafTrees$Row;", .fieldLink RX4 16 "LeafTrees$Rule" "right" "LLeafTrees$Row;", .instanceMethod yX3_init, .code yX3_init cX3_init 1 none, .methodLink RX3 3 objectInit, .arrayClass .int, .fieldLink RX3 9 "LeafTrees$Row" "symbols" "[I"] ++ wsX30 ++ wsX40)
def wsX5_init : List Cond := .code yX5_init cX5_init 1 none :: ([.methodLink RX5 3 objectInit, .instanceMethod objectInit, .code objectInit ⟨#[0xb1]⟩ 1 none, .arrayClass .long, .fieldLink RX5 9 "LeafTrees$Series" "turnedAbout" "[J", .classLink RX5 15 "[[J", .fieldLink RX5 17 "LeafTrees$Series" "powers" "[[J"] ++ wsX50)
def wsX5_rowsOf : List Cond := .code yX5_rowsOf cX5_rowsOf 6 (some .long) :: ([.fieldLink RX5 9 "LeafTrees$Series" "turnedAbout" "[J", .fieldLink RX5 17 "LeafTrees$Series" "powers" "[[J"] ++ wsX50)
def wsX5_turn : List Cond := .code yX5_turn cX5_turn 6 none :: ([.fieldLink RX5 9 "LeafTrees$Series" "turnedAbout" "[J", .fieldLink RX5 17 "LeafTrees$Series" "powers" "[[J", .methodLink RX5 20 yX5_rowsOf, .instanceMethod yX5_rowsOf, .selects RX5 yX5_rowsOf yX5_rowsOf, .initialized RX5, .code yX5_rowsOf cX5_rowsOf 6 (some .long)] ++ wsX50)
def wsX6_actsOver : List Cond := .code yX6_actsOver cX6_actsOver 5 (some .int) :: ([.fieldLink RX6 21 "LeafTrees$Row" "symbols" "[I", .fieldLink RX6 9 "LeafTrees$Shape" "ends" "[I"] ++ wsX30 ++ wsX60)
def wsX6_heightOf : List Cond := .code yX6_heightOf cX6_heightOf 5 (some .int) :: ([.fieldLink RX6 15 "LeafTrees$Row" "length" "I", .methodLink RX6 38 Lib.Math.max.name, .static Lib.Math.max.name, .initialized "java/lang/Math", .code Lib.Math.max.name Lib.Math.max.code 2 (some .int), .methodLink RX6 30 yX6_measure, .instanceMethod yX6_measure, .selects RX6 yX6_measure yX6_measure, .initialized RX6, .code yX6_measure cX6_measure 7 none, .fieldLink RX6 21 "LeafTrees$Row" "symbols" "[I", .fieldLink RX6 9 "LeafTrees$Shape" "ends" "[I", .methodLink RX6 24 yX8_entriesOf, .instanceMethod yX8_entriesOf, .selects RX8 yX8_entriesOf yX8_entriesOf, .initialized RX8, .code yX8_entriesOf cX8_entriesOf 2 (some .int), .fieldLink RX8 22 "LeafTrees$World" "acts" "I", .fieldLink RX8 9 "LeafTrees$World" "entries" "[I", .methodLink RX6 34 yX6_actsOver, .instanceMethod yX6_actsOver, .selects RX6 yX6_actsOver yX6_actsOver, .code yX6_actsOver cX6_actsOver 5 (some .int)] ++ wsX30 ++ wsX60 ++ wsX80)
def wsX8_init : List Cond := .code yX8_init cX8_init 2 none :: ([.methodLink RX8 3 objectInit, .instanceMethod objectInit, .code objectInit ⟨#[0xb1]⟩ 1 none, .arrayClass .int, .fieldLink RX8 9 "LeafTrees$World" "entries" "[I", .classLink RX8 15 RX4, .fieldLink RX8 17 "LeafTrees$World" "rules" "[LLeafTrees$Rule;", .instantiable RX4 3, .initialized RX4, .instanceMethod yX4_init, .code yX4_init cX4_init 1 none, .methodLink RX4 1 objectInit, .classLink RX4 7 RX3, .instantiable RX3 2, .initialized RX3, .fieldLink RX4 10 "LeafTrees$Rule" "left" "LLeafTrees$Row;", .fieldLink RX4 16 "LeafTrees$Rule" "right" "LLeafTrees$Row;", .instanceMethod yX3_init, .code yX3_init cX3_init 1 none, .methodLink RX3 3 objectInit, .fieldLink RX3 9 "LeafTrees$Row" "symbols" "[I"] ++ wsX80 ++ wsX40 ++ wsX30)
def wsX8_addAct : List Cond := .code yX8_addAct cX8_addAct 2 (some .int) :: ([.fieldLink RX8 22 "LeafTrees$World" "acts" "I", .fieldLink RX8 9 "LeafTrees$World" "entries" "[I"] ++ wsX80)
def wsX8_addRule : List Cond := .code yX8_addRule cX8_addRule 5 (some .int) :: ([.fieldLink RX8 26 "LeafTrees$World" "ruleCount" "I", .fieldLink RX8 17 "LeafTrees$World" "rules" "[LLeafTrees$Rule;", .fieldLink RX8 29 "LeafTrees$Rule" "left" "LLeafTrees$Row;", .fieldLink RX8 39 "LeafTrees$Rule" "right" "LLeafTrees$Row;", .fieldLink RX8 42 "LeafTrees$Rule" "toNothing" "Z", .methodLink RX8 33 yX3_become, .instanceMethod yX3_become, .selects RX3 yX3_become yX3_become, .initialized RX3, .code yX3_become cX3_become 2 none, .fieldLink RX3 9 "LeafTrees$Row" "symbols" "[I", .fieldLink RX3 15 "LeafTrees$Row" "length" "I", .methodLink RX3 19 arraycopyName, .native arraycopyName, .static arraycopyName, .initialized "java/lang/System"] ++ wsX80 ++ wsX40 ++ wsX30)
def wsX8_isSymbol : List Cond := .code yX8_isSymbol cX8_isSymbol 2 (some .boolean) :: ([.fieldLink RX8 22 "LeafTrees$World" "acts" "I"] ++ wsX80)
def wsX8_isTree : List Cond := .code yX8_isTree cX8_isTree 2 (some .boolean) :: ([.fieldLink RX8 52 "LeafTrees$Row" "length" "I", .methodLink RX8 62 yX8_endOf, .instanceMethod yX8_endOf, .selects RX8 yX8_endOf yX8_endOf, .initialized RX8, .code yX8_endOf cX8_endOf 5 (some .int), .methodLink RX8 46 Lib.Math.max.name, .static Lib.Math.max.name, .initialized "java/lang/Math", .code Lib.Math.max.name Lib.Math.max.code 2 (some .int), .fieldLink RX8 55 "LeafTrees$Row" "symbols" "[I", .methodLink RX8 58 yX8_entriesOf, .instanceMethod yX8_entriesOf, .selects RX8 yX8_entriesOf yX8_entriesOf, .code yX8_entriesOf cX8_entriesOf 2 (some .int), .fieldLink RX8 22 "LeafTrees$World" "acts" "I", .fieldLink RX8 9 "LeafTrees$World" "entries" "[I"] ++ wsX30 ++ wsX80)
def wsX8_rulesToNothing : List Cond := .code yX8_rulesToNothing cX8_rulesToNothing 3 (some .int) :: ([.fieldLink RX8 26 "LeafTrees$World" "ruleCount" "I", .fieldLink RX8 17 "LeafTrees$World" "rules" "[LLeafTrees$Rule;", .fieldLink RX8 42 "LeafTrees$Rule" "toNothing" "Z"] ++ wsX80 ++ wsX40)
def wsX8_hasDual : List Cond := .code yX8_hasDual cX8_hasDual 2 (some .boolean) :: ([.fieldLink RX8 22 "LeafTrees$World" "acts" "I", .fieldLink RX8 9 "LeafTrees$World" "entries" "[I", .fieldLink RX8 26 "LeafTrees$World" "ruleCount" "I", .fieldLink RX8 17 "LeafTrees$World" "rules" "[LLeafTrees$Rule;", .fieldLink RX8 42 "LeafTrees$Rule" "toNothing" "Z", .fieldLink RX8 29 "LeafTrees$Rule" "left" "LLeafTrees$Row;", .methodLink RX8 66 yX3_size, .instanceMethod yX3_size, .selects RX3 yX3_size yX3_size, .initialized RX3, .code yX3_size cX3_size 1 (some .int), .fieldLink RX3 15 "LeafTrees$Row" "length" "I", .methodLink RX3 25 yX3_leaves, .instanceMethod yX3_leaves, .selects RX3 yX3_leaves yX3_leaves, .code yX3_leaves cX3_leaves 3 (some .int), .fieldLink RX3 9 "LeafTrees$Row" "symbols" "[I"] ++ wsX80 ++ wsX40 ++ wsX30)
def wsX9_init_r1 : List Cond := [Cond.methodLink RX9 1 objectInit, Cond.instanceMethod objectInit, Cond.code objectInit ⟨#[0xb1]⟩ 1 none, Cond.classLink RX9 7 RX8, Cond.instantiable RX8 4, Cond.initialized RX8, Cond.fieldLink RX9 10 "LeafTrees" "world" "LLeafTrees$World;", Cond.classLink RX9 16 RX3, Cond.fieldLink RX9 18 "LeafTrees" "rows" "[LLeafTrees$Row;", Cond.instantiable RX3 2, Cond.initialized RX3, Cond.fieldLink RX9 23 "LeafTrees" "work" "LLeafTrees$Row;", Cond.classLink RX9 27 RX6, Cond.instantiable RX6 1, Cond.initialized RX6, Cond.fieldLink RX9 30 "LeafTrees" "shape" "LLeafTrees$Shape;", Cond.classLink RX9 34 RX2, Cond.instantiable RX2 5, Cond.initialized RX2, Cond.fieldLink RX9 37 "LeafTrees" "rewriter" "LLeafTrees$Rewriter;", Cond.classLink RX9 41 RX1, Cond.instantiable RX1 5, Cond.initialized RX1, Cond.fieldLink RX9 44 "LeafTrees" "peaks" "LLeafTrees$Peaks;"]
def wsX9_init_r2 : List Cond := [Cond.classLink RX9 48 RX0, Cond.instantiable RX0 6, Cond.initialized RX0, Cond.fieldLink RX9 51 "LeafTrees" "census" "LLeafTrees$Census;", Cond.classLink RX9 55 RX5, Cond.instantiable RX5 2, Cond.initialized RX5, Cond.fieldLink RX9 58 "LeafTrees" "series" "LLeafTrees$Series;", Cond.arrayClass .long, Cond.fieldLink RX9 62 "LeafTrees" "many" "[J", Cond.fieldLink RX9 66 "LeafTrees" "dualMany" "[J", Cond.fieldLink RX9 69 "LeafTrees" "firstOpen" "I", Cond.methodLink RX9 9 yX8_init, Cond.instanceMethod yX8_init, Cond.code yX8_init cX8_init 2 none, Cond.methodLink RX8 3 objectInit, Cond.arrayClass .int, Cond.fieldLink RX8 9 "LeafTrees$World" "entries" "[I", Cond.classLink RX8 15 RX4, Cond.fieldLink RX8 17 "LeafTrees$World" "rules" "[LLeafTrees$Rule;", Cond.instantiable RX4 3, Cond.initialized RX4, Cond.instanceMethod yX4_init, Cond.code yX4_init cX4_init 1 none]
def wsX9_init_r3 : List Cond := [Cond.methodLink RX4 1 objectInit, Cond.classLink RX4 7 RX3, Cond.fieldLink RX4 10 "LeafTrees$Rule" "left" "LLeafTrees$Row;", Cond.fieldLink RX4 16 "LeafTrees$Rule" "right" "LLeafTrees$Row;", Cond.instanceMethod yX3_init, Cond.code yX3_init cX3_init 1 none, Cond.methodLink RX3 3 objectInit, Cond.fieldLink RX3 9 "LeafTrees$Row" "symbols" "[I", Cond.instanceMethod yX6_init, Cond.code yX6_init cX6_init 1 none, Cond.methodLink RX6 3 objectInit, Cond.fieldLink RX6 9 "LeafTrees$Shape" "ends" "[I", Cond.instanceMethod yX2_init, Cond.code yX2_init cX2_init 1 none, Cond.methodLink RX2 3 objectInit, Cond.classLink RX2 9 RX6, Cond.fieldLink RX2 12 "LeafTrees$Rewriter" "shape" "LLeafTrees$Shape;", Cond.fieldLink RX2 18 "LeafTrees$Rewriter" "caught" "[I", Cond.classLink RX2 22 RX3, Cond.fieldLink RX2 25 "LeafTrees$Rewriter" "made" "LLeafTrees$Row;", Cond.fieldLink RX2 29 "LeafTrees$Rewriter" "one" "LLeafTrees$Row;", Cond.fieldLink RX2 32 "LeafTrees$Rewriter" "other" "LLeafTrees$Row;", Cond.instanceMethod yX1_init, Cond.code yX1_init cX1_init 1 none]
def wsX9_init_r4 : List Cond := [Cond.methodLink RX1 3 objectInit, Cond.classLink RX1 9 RX3, Cond.fieldLink RX1 12 "LeafTrees$Peaks" "top" "LLeafTrees$Row;", Cond.methodLink RX9 50 yX0_init, Cond.instanceMethod yX0_init, Cond.code yX0_init cX0_init 2 none, Cond.methodLink RX0 3 objectInit, Cond.fieldLink RX0 9 "LeafTrees$Census" "actOf" "[I", Cond.classLink RX0 15 "[[J", Cond.fieldLink RX0 17 "LeafTrees$Census" "needs" "[[J", Cond.fieldLink RX0 20 "LeafTrees$Census" "bitAt" "[J", Cond.classLink RX0 24 RX7, Cond.fieldLink RX0 26 "LeafTrees$Census" "tallies" "[LLeafTrees$Tally;", Cond.instantiable RX7 3, Cond.initialized RX7, Cond.instanceMethod yX7_init, Cond.code yX7_init cX7_init 1 none, Cond.methodLink RX7 1 objectInit, Cond.fieldLink RX7 7 "LeafTrees$Tally" "kinds" "[J", Cond.fieldLink RX7 13 "LeafTrees$Tally" "trees" "[J", Cond.instanceMethod yX5_init, Cond.code yX5_init cX5_init 1 none, Cond.methodLink RX5 3 objectInit, Cond.fieldLink RX5 9 "LeafTrees$Series" "turnedAbout" "[J"]
def wsX9_init_r5 : List Cond := [Cond.classLink RX5 15 "[[J", Cond.fieldLink RX5 17 "LeafTrees$Series" "powers" "[[J"]
def wsX9_init : List Cond := .code yX9_init cX9_init 2 none :: ((wsX9_init_r1 ++ (wsX9_init_r2 ++ (wsX9_init_r3 ++ (wsX9_init_r4 ++ wsX9_init_r5)))) ++ wsX80 ++ wsX90 ++ wsX30 ++ wsX60 ++ wsX20 ++ wsX10 ++ wsX00 ++ wsX50 ++ wsX40 ++ wsX70)
def wsX9_forget : List Cond := .code yX9_forget cX9_forget 1 none :: ([.fieldLink RX9 242 "LeafTrees" "manyKnown" "Z", .fieldLink RX9 245 "LeafTrees" "dualKnown" "Z", .fieldLink RX9 201 "LeafTrees" "firstOpenKnown" "Z"] ++ wsX90)
def wsX9_act : List Cond := .code yX9_act cX9_act 2 (some .int) :: ([.fieldLink RX9 10 "LeafTrees" "world" "LLeafTrees$World;", .fieldLink RX9 73 "LeafTrees$World" "acts" "I", .methodLink RX9 76 yX9_forget, .instanceMethod yX9_forget, .selects RX9 yX9_forget yX9_forget, .initialized RX9, .code yX9_forget cX9_forget 1 none, .fieldLink RX9 242 "LeafTrees" "manyKnown" "Z", .fieldLink RX9 245 "LeafTrees" "dualKnown" "Z", .fieldLink RX9 201 "LeafTrees" "firstOpenKnown" "Z", .methodLink RX9 79 yX8_addAct, .instanceMethod yX8_addAct, .selects RX8 yX8_addAct yX8_addAct, .initialized RX8, .code yX8_addAct cX8_addAct 2 (some .int), .fieldLink RX8 22 "LeafTrees$World" "acts" "I", .fieldLink RX8 9 "LeafTrees$World" "entries" "[I"] ++ wsX90 ++ wsX80)
def wsX9_isRow : List Cond := .code yX9_isRow cX9_isRow 1 (some .boolean) :: ([])
def wsX9_put : List Cond := .code yX9_put cX9_put 3 (some .int) :: ([.fieldLink RX9 10 "LeafTrees" "world" "LLeafTrees$World;", .fieldLink RX9 18 "LeafTrees" "rows" "[LLeafTrees$Row;", .fieldLink RX9 93 "LeafTrees$Row" "length" "I", .methodLink RX9 83 yX9_isRow, .static yX9_isRow, .initialized RX9, .code yX9_isRow cX9_isRow 1 (some .boolean), .methodLink RX9 87 yX8_isSymbol, .instanceMethod yX8_isSymbol, .selects RX8 yX8_isSymbol yX8_isSymbol, .initialized RX8, .code yX8_isSymbol cX8_isSymbol 2 (some .boolean), .fieldLink RX8 22 "LeafTrees$World" "acts" "I", .methodLink RX9 90 yX3_add, .instanceMethod yX3_add, .selects RX3 yX3_add yX3_add, .initialized RX3, .code yX3_add cX3_add 2 (some .boolean), .fieldLink RX3 15 "LeafTrees$Row" "length" "I", .fieldLink RX3 9 "LeafTrees$Row" "symbols" "[I"] ++ wsX90 ++ wsX30 ++ wsX80)
def wsX9_empty : List Cond := .code yX9_empty cX9_empty 3 (some .int) :: ([.fieldLink RX9 18 "LeafTrees" "rows" "[LLeafTrees$Row;", .fieldLink RX9 93 "LeafTrees$Row" "length" "I", .methodLink RX9 83 yX9_isRow, .static yX9_isRow, .initialized RX9, .code yX9_isRow cX9_isRow 1 (some .boolean), .methodLink RX9 96 yX3_clear, .instanceMethod yX3_clear, .selects RX3 yX3_clear yX3_clear, .initialized RX3, .code yX3_clear cX3_clear 1 none, .fieldLink RX3 15 "LeafTrees$Row" "length" "I"] ++ wsX90 ++ wsX30)
def wsX9_at : List Cond := .code yX9_at cX9_at 4 (some .int) :: ([.fieldLink RX9 18 "LeafTrees" "rows" "[LLeafTrees$Row;", .fieldLink RX9 93 "LeafTrees$Row" "length" "I", .fieldLink RX9 99 "LeafTrees$Row" "symbols" "[I", .methodLink RX9 83 yX9_isRow, .static yX9_isRow, .initialized RX9, .code yX9_isRow cX9_isRow 1 (some .boolean)] ++ wsX90 ++ wsX30)
def wsX9_about_r1 : List Cond := [Cond.fieldLink RX9 18 "LeafTrees" "rows" "[LLeafTrees$Row;", Cond.fieldLink RX9 10 "LeafTrees" "world" "LLeafTrees$World;", Cond.fieldLink RX9 93 "LeafTrees$Row" "length" "I", Cond.fieldLink RX9 30 "LeafTrees" "shape" "LLeafTrees$Shape;", Cond.methodLink RX9 83 yX9_isRow, Cond.static yX9_isRow, Cond.initialized RX9, Cond.code yX9_isRow cX9_isRow 1 (some .boolean), Cond.methodLink RX9 103 yX8_isTree, Cond.instanceMethod yX8_isTree, Cond.selects RX8 yX8_isTree yX8_isTree, Cond.initialized RX8, Cond.code yX8_isTree cX8_isTree 2 (some .boolean), Cond.fieldLink RX8 52 "LeafTrees$Row" "length" "I", Cond.methodLink RX8 62 yX8_endOf, Cond.instanceMethod yX8_endOf, Cond.selects RX8 yX8_endOf yX8_endOf, Cond.code yX8_endOf cX8_endOf 5 (some .int), Cond.methodLink RX8 46 Lib.Math.max.name, Cond.static Lib.Math.max.name, Cond.initialized "java/lang/Math", Cond.code Lib.Math.max.name Lib.Math.max.code 2 (some .int), Cond.fieldLink RX8 55 "LeafTrees$Row" "symbols" "[I", Cond.methodLink RX8 58 yX8_entriesOf]
def wsX9_about_r2 : List Cond := [Cond.instanceMethod yX8_entriesOf, Cond.selects RX8 yX8_entriesOf yX8_entriesOf, Cond.code yX8_entriesOf cX8_entriesOf 2 (some .int), Cond.fieldLink RX8 22 "LeafTrees$World" "acts" "I", Cond.fieldLink RX8 9 "LeafTrees$World" "entries" "[I", Cond.methodLink RX9 107 yX3_leaves, Cond.instanceMethod yX3_leaves, Cond.selects RX3 yX3_leaves yX3_leaves, Cond.initialized RX3, Cond.code yX3_leaves cX3_leaves 3 (some .int), Cond.fieldLink RX3 15 "LeafTrees$Row" "length" "I", Cond.fieldLink RX3 9 "LeafTrees$Row" "symbols" "[I", Cond.methodLink RX9 111 yX3_size, Cond.instanceMethod yX3_size, Cond.selects RX3 yX3_size yX3_size, Cond.code yX3_size cX3_size 1 (some .int), Cond.methodLink RX3 25 yX3_leaves, Cond.methodLink RX9 114 yX6_heightOf, Cond.instanceMethod yX6_heightOf, Cond.selects RX6 yX6_heightOf yX6_heightOf, Cond.initialized RX6, Cond.code yX6_heightOf cX6_heightOf 5 (some .int), Cond.fieldLink RX6 15 "LeafTrees$Row" "length" "I", Cond.methodLink RX6 38 Lib.Math.max.name]
def wsX9_about_r3 : List Cond := [Cond.methodLink RX6 30 yX6_measure, Cond.instanceMethod yX6_measure, Cond.selects RX6 yX6_measure yX6_measure, Cond.code yX6_measure cX6_measure 7 none, Cond.fieldLink RX6 21 "LeafTrees$Row" "symbols" "[I", Cond.fieldLink RX6 9 "LeafTrees$Shape" "ends" "[I", Cond.methodLink RX6 24 yX8_entriesOf, Cond.methodLink RX6 34 yX6_actsOver, Cond.instanceMethod yX6_actsOver, Cond.selects RX6 yX6_actsOver yX6_actsOver, Cond.code yX6_actsOver cX6_actsOver 5 (some .int)]
def wsX9_about : List Cond := .code yX9_about cX9_about 5 (some .int) :: ((wsX9_about_r1 ++ (wsX9_about_r2 ++ wsX9_about_r3)) ++ wsX90 ++ wsX30 ++ wsX80 ++ wsX60)
def wsX9_isTreeRow_r1 : List Cond := [Cond.fieldLink RX9 10 "LeafTrees" "world" "LLeafTrees$World;", Cond.fieldLink RX9 18 "LeafTrees" "rows" "[LLeafTrees$Row;", Cond.methodLink RX9 83 yX9_isRow, Cond.static yX9_isRow, Cond.initialized RX9, Cond.code yX9_isRow cX9_isRow 1 (some .boolean), Cond.methodLink RX9 103 yX8_isTree, Cond.instanceMethod yX8_isTree, Cond.selects RX8 yX8_isTree yX8_isTree, Cond.initialized RX8, Cond.code yX8_isTree cX8_isTree 2 (some .boolean), Cond.fieldLink RX8 52 "LeafTrees$Row" "length" "I", Cond.methodLink RX8 62 yX8_endOf, Cond.instanceMethod yX8_endOf, Cond.selects RX8 yX8_endOf yX8_endOf, Cond.code yX8_endOf cX8_endOf 5 (some .int), Cond.methodLink RX8 46 Lib.Math.max.name, Cond.static Lib.Math.max.name, Cond.initialized "java/lang/Math", Cond.code Lib.Math.max.name Lib.Math.max.code 2 (some .int), Cond.fieldLink RX8 55 "LeafTrees$Row" "symbols" "[I", Cond.methodLink RX8 58 yX8_entriesOf, Cond.instanceMethod yX8_entriesOf, Cond.selects RX8 yX8_entriesOf yX8_entriesOf]
def wsX9_isTreeRow_r2 : List Cond := [Cond.code yX8_entriesOf cX8_entriesOf 2 (some .int), Cond.fieldLink RX8 22 "LeafTrees$World" "acts" "I", Cond.fieldLink RX8 9 "LeafTrees$World" "entries" "[I"]
def wsX9_isTreeRow : List Cond := .code yX9_isTreeRow cX9_isTreeRow 2 (some .boolean) :: ((wsX9_isTreeRow_r1 ++ wsX9_isTreeRow_r2) ++ wsX90 ++ wsX30 ++ wsX80)
def wsX9_bring : List Cond := .code yX9_bring cX9_bring 3 (some .int) :: ([.fieldLink RX9 18 "LeafTrees" "rows" "[LLeafTrees$Row;", .fieldLink RX9 93 "LeafTrees$Row" "length" "I", .methodLink RX9 167 yX3_become, .instanceMethod yX3_become, .selects RX3 yX3_become yX3_become, .initialized RX3, .code yX3_become cX3_become 2 none, .fieldLink RX3 9 "LeafTrees$Row" "symbols" "[I", .fieldLink RX3 15 "LeafTrees$Row" "length" "I", .methodLink RX3 19 arraycopyName, .native arraycopyName, .static arraycopyName, .initialized "java/lang/System"] ++ wsX90 ++ wsX30)
def wsX9_graft_r1 : List Cond := [Cond.fieldLink RX9 18 "LeafTrees" "rows" "[LLeafTrees$Row;", Cond.fieldLink RX9 93 "LeafTrees$Row" "length" "I", Cond.fieldLink RX9 23 "LeafTrees" "work" "LLeafTrees$Row;", Cond.methodLink RX9 118 yX9_isTreeRow, Cond.instanceMethod yX9_isTreeRow, Cond.selects RX9 yX9_isTreeRow yX9_isTreeRow, Cond.initialized RX9, Cond.code yX9_isTreeRow cX9_isTreeRow 2 (some .boolean), Cond.fieldLink RX9 10 "LeafTrees" "world" "LLeafTrees$World;", Cond.methodLink RX9 83 yX9_isRow, Cond.static yX9_isRow, Cond.code yX9_isRow cX9_isRow 1 (some .boolean), Cond.methodLink RX9 103 yX8_isTree, Cond.instanceMethod yX8_isTree, Cond.selects RX8 yX8_isTree yX8_isTree, Cond.initialized RX8, Cond.code yX8_isTree cX8_isTree 2 (some .boolean), Cond.fieldLink RX8 52 "LeafTrees$Row" "length" "I", Cond.methodLink RX8 62 yX8_endOf, Cond.instanceMethod yX8_endOf, Cond.selects RX8 yX8_endOf yX8_endOf, Cond.code yX8_endOf cX8_endOf 5 (some .int), Cond.methodLink RX8 46 Lib.Math.max.name, Cond.static Lib.Math.max.name]
def wsX9_graft_r2 : List Cond := [Cond.initialized "java/lang/Math", Cond.code Lib.Math.max.name Lib.Math.max.code 2 (some .int), Cond.fieldLink RX8 55 "LeafTrees$Row" "symbols" "[I", Cond.methodLink RX8 58 yX8_entriesOf, Cond.instanceMethod yX8_entriesOf, Cond.selects RX8 yX8_entriesOf yX8_entriesOf, Cond.code yX8_entriesOf cX8_entriesOf 2 (some .int), Cond.fieldLink RX8 22 "LeafTrees$World" "acts" "I", Cond.fieldLink RX8 9 "LeafTrees$World" "entries" "[I", Cond.methodLink RX9 121 yX3_placeOfLeaf, Cond.instanceMethod yX3_placeOfLeaf, Cond.selects RX3 yX3_placeOfLeaf yX3_placeOfLeaf, Cond.initialized RX3, Cond.code yX3_placeOfLeaf cX3_placeOfLeaf 4 (some .int), Cond.fieldLink RX3 15 "LeafTrees$Row" "length" "I", Cond.fieldLink RX3 9 "LeafTrees$Row" "symbols" "[I", Cond.methodLink RX9 96 yX3_clear, Cond.instanceMethod yX3_clear, Cond.selects RX3 yX3_clear yX3_clear, Cond.code yX3_clear cX3_clear 1 none, Cond.methodLink RX9 124 yX3_addPart, Cond.instanceMethod yX3_addPart, Cond.selects RX3 yX3_addPart yX3_addPart, Cond.code yX3_addPart cX3_addPart 4 (some .boolean)]
def wsX9_graft_r3 : List Cond := [Cond.methodLink RX3 19 arraycopyName, Cond.native arraycopyName, Cond.static arraycopyName, Cond.initialized "java/lang/System", Cond.methodLink RX9 128 yX9_bring, Cond.instanceMethod yX9_bring, Cond.selects RX9 yX9_bring yX9_bring, Cond.code yX9_bring cX9_bring 3 (some .int), Cond.methodLink RX9 167 yX3_become, Cond.instanceMethod yX3_become, Cond.selects RX3 yX3_become yX3_become, Cond.code yX3_become cX3_become 2 none]
def wsX9_graft : List Cond := .code yX9_graft cX9_graft 6 (some .int) :: ((wsX9_graft_r1 ++ (wsX9_graft_r2 ++ wsX9_graft_r3)) ++ wsX90 ++ wsX30 ++ wsX80)
def wsX9_same_r1 : List Cond := [Cond.fieldLink RX9 18 "LeafTrees" "rows" "[LLeafTrees$Row;", Cond.methodLink RX9 118 yX9_isTreeRow, Cond.instanceMethod yX9_isTreeRow, Cond.selects RX9 yX9_isTreeRow yX9_isTreeRow, Cond.initialized RX9, Cond.code yX9_isTreeRow cX9_isTreeRow 2 (some .boolean), Cond.fieldLink RX9 10 "LeafTrees" "world" "LLeafTrees$World;", Cond.methodLink RX9 83 yX9_isRow, Cond.static yX9_isRow, Cond.code yX9_isRow cX9_isRow 1 (some .boolean), Cond.methodLink RX9 103 yX8_isTree, Cond.instanceMethod yX8_isTree, Cond.selects RX8 yX8_isTree yX8_isTree, Cond.initialized RX8, Cond.code yX8_isTree cX8_isTree 2 (some .boolean), Cond.fieldLink RX8 52 "LeafTrees$Row" "length" "I", Cond.methodLink RX8 62 yX8_endOf, Cond.instanceMethod yX8_endOf, Cond.selects RX8 yX8_endOf yX8_endOf, Cond.code yX8_endOf cX8_endOf 5 (some .int), Cond.methodLink RX8 46 Lib.Math.max.name, Cond.static Lib.Math.max.name, Cond.initialized "java/lang/Math", Cond.code Lib.Math.max.name Lib.Math.max.code 2 (some .int)]
def wsX9_same_r2 : List Cond := [Cond.fieldLink RX8 55 "LeafTrees$Row" "symbols" "[I", Cond.methodLink RX8 58 yX8_entriesOf, Cond.instanceMethod yX8_entriesOf, Cond.selects RX8 yX8_entriesOf yX8_entriesOf, Cond.code yX8_entriesOf cX8_entriesOf 2 (some .int), Cond.fieldLink RX8 22 "LeafTrees$World" "acts" "I", Cond.fieldLink RX8 9 "LeafTrees$World" "entries" "[I", Cond.methodLink RX9 132 yX3_isLike, Cond.instanceMethod yX3_isLike, Cond.selects RX3 yX3_isLike yX3_isLike, Cond.initialized RX3, Cond.code yX3_isLike cX3_isLike 3 (some .boolean), Cond.fieldLink RX3 15 "LeafTrees$Row" "length" "I", Cond.fieldLink RX3 9 "LeafTrees$Row" "symbols" "[I"]
def wsX9_same : List Cond := .code yX9_same cX9_same 3 (some .int) :: ((wsX9_same_r1 ++ wsX9_same_r2) ++ wsX90 ++ wsX30 ++ wsX80)
def wsX9_isLeft_r1 : List Cond := [Cond.fieldLink RX9 18 "LeafTrees" "rows" "[LLeafTrees$Row;", Cond.methodLink RX9 118 yX9_isTreeRow, Cond.instanceMethod yX9_isTreeRow, Cond.selects RX9 yX9_isTreeRow yX9_isTreeRow, Cond.initialized RX9, Cond.code yX9_isTreeRow cX9_isTreeRow 2 (some .boolean), Cond.fieldLink RX9 10 "LeafTrees" "world" "LLeafTrees$World;", Cond.methodLink RX9 83 yX9_isRow, Cond.static yX9_isRow, Cond.code yX9_isRow cX9_isRow 1 (some .boolean), Cond.methodLink RX9 103 yX8_isTree, Cond.instanceMethod yX8_isTree, Cond.selects RX8 yX8_isTree yX8_isTree, Cond.initialized RX8, Cond.code yX8_isTree cX8_isTree 2 (some .boolean), Cond.fieldLink RX8 52 "LeafTrees$Row" "length" "I", Cond.methodLink RX8 62 yX8_endOf, Cond.instanceMethod yX8_endOf, Cond.selects RX8 yX8_endOf yX8_endOf, Cond.code yX8_endOf cX8_endOf 5 (some .int), Cond.methodLink RX8 46 Lib.Math.max.name, Cond.static Lib.Math.max.name, Cond.initialized "java/lang/Math", Cond.code Lib.Math.max.name Lib.Math.max.code 2 (some .int)]
def wsX9_isLeft_r2 : List Cond := [Cond.fieldLink RX8 55 "LeafTrees$Row" "symbols" "[I", Cond.methodLink RX8 58 yX8_entriesOf, Cond.instanceMethod yX8_entriesOf, Cond.selects RX8 yX8_entriesOf yX8_entriesOf, Cond.code yX8_entriesOf cX8_entriesOf 2 (some .int), Cond.fieldLink RX8 22 "LeafTrees$World" "acts" "I", Cond.fieldLink RX8 9 "LeafTrees$World" "entries" "[I", Cond.methodLink RX9 111 yX3_size, Cond.instanceMethod yX3_size, Cond.selects RX3 yX3_size yX3_size, Cond.initialized RX3, Cond.code yX3_size cX3_size 1 (some .int), Cond.fieldLink RX3 15 "LeafTrees$Row" "length" "I", Cond.methodLink RX3 25 yX3_leaves, Cond.instanceMethod yX3_leaves, Cond.selects RX3 yX3_leaves yX3_leaves, Cond.code yX3_leaves cX3_leaves 3 (some .int), Cond.fieldLink RX3 9 "LeafTrees$Row" "symbols" "[I"]
def wsX9_isLeft : List Cond := .code yX9_isLeft cX9_isLeft 2 (some .boolean) :: ((wsX9_isLeft_r1 ++ wsX9_isLeft_r2) ++ wsX90 ++ wsX30 ++ wsX80)
def wsX9_rule_r1 : List Cond := [Cond.fieldLink RX9 18 "LeafTrees" "rows" "[LLeafTrees$Row;", Cond.fieldLink RX9 10 "LeafTrees" "world" "LLeafTrees$World;", Cond.fieldLink RX9 138 "LeafTrees$World" "ruleCount" "I", Cond.methodLink RX9 135 yX9_isLeft, Cond.instanceMethod yX9_isLeft, Cond.selects RX9 yX9_isLeft yX9_isLeft, Cond.initialized RX9, Cond.code yX9_isLeft cX9_isLeft 2 (some .boolean), Cond.methodLink RX9 118 yX9_isTreeRow, Cond.instanceMethod yX9_isTreeRow, Cond.selects RX9 yX9_isTreeRow yX9_isTreeRow, Cond.code yX9_isTreeRow cX9_isTreeRow 2 (some .boolean), Cond.methodLink RX9 83 yX9_isRow, Cond.static yX9_isRow, Cond.code yX9_isRow cX9_isRow 1 (some .boolean), Cond.methodLink RX9 103 yX8_isTree, Cond.instanceMethod yX8_isTree, Cond.selects RX8 yX8_isTree yX8_isTree, Cond.initialized RX8, Cond.code yX8_isTree cX8_isTree 2 (some .boolean), Cond.fieldLink RX8 52 "LeafTrees$Row" "length" "I", Cond.methodLink RX8 62 yX8_endOf, Cond.instanceMethod yX8_endOf, Cond.selects RX8 yX8_endOf yX8_endOf]
def wsX9_rule_r2 : List Cond := [Cond.code yX8_endOf cX8_endOf 5 (some .int), Cond.methodLink RX8 46 Lib.Math.max.name, Cond.static Lib.Math.max.name, Cond.initialized "java/lang/Math", Cond.code Lib.Math.max.name Lib.Math.max.code 2 (some .int), Cond.fieldLink RX8 55 "LeafTrees$Row" "symbols" "[I", Cond.methodLink RX8 58 yX8_entriesOf, Cond.instanceMethod yX8_entriesOf, Cond.selects RX8 yX8_entriesOf yX8_entriesOf, Cond.code yX8_entriesOf cX8_entriesOf 2 (some .int), Cond.fieldLink RX8 22 "LeafTrees$World" "acts" "I", Cond.fieldLink RX8 9 "LeafTrees$World" "entries" "[I", Cond.methodLink RX9 111 yX3_size, Cond.instanceMethod yX3_size, Cond.selects RX3 yX3_size yX3_size, Cond.initialized RX3, Cond.code yX3_size cX3_size 1 (some .int), Cond.fieldLink RX3 15 "LeafTrees$Row" "length" "I", Cond.methodLink RX3 25 yX3_leaves, Cond.instanceMethod yX3_leaves, Cond.selects RX3 yX3_leaves yX3_leaves, Cond.code yX3_leaves cX3_leaves 3 (some .int), Cond.fieldLink RX3 9 "LeafTrees$Row" "symbols" "[I", Cond.methodLink RX9 107 yX3_leaves]
def wsX9_rule_r3 : List Cond := [Cond.methodLink RX9 76 yX9_forget, Cond.instanceMethod yX9_forget, Cond.selects RX9 yX9_forget yX9_forget, Cond.code yX9_forget cX9_forget 1 none, Cond.fieldLink RX9 242 "LeafTrees" "manyKnown" "Z", Cond.fieldLink RX9 245 "LeafTrees" "dualKnown" "Z", Cond.fieldLink RX9 201 "LeafTrees" "firstOpenKnown" "Z", Cond.methodLink RX9 141 yX8_addRule, Cond.instanceMethod yX8_addRule, Cond.selects RX8 yX8_addRule yX8_addRule, Cond.code yX8_addRule cX8_addRule 5 (some .int), Cond.fieldLink RX8 26 "LeafTrees$World" "ruleCount" "I", Cond.fieldLink RX8 17 "LeafTrees$World" "rules" "[LLeafTrees$Rule;", Cond.fieldLink RX8 29 "LeafTrees$Rule" "left" "LLeafTrees$Row;", Cond.fieldLink RX8 39 "LeafTrees$Rule" "right" "LLeafTrees$Row;", Cond.fieldLink RX8 42 "LeafTrees$Rule" "toNothing" "Z", Cond.methodLink RX8 33 yX3_become, Cond.instanceMethod yX3_become, Cond.selects RX3 yX3_become yX3_become, Cond.code yX3_become cX3_become 2 none, Cond.methodLink RX3 19 arraycopyName, Cond.native arraycopyName, Cond.static arraycopyName, Cond.initialized "java/lang/System"]
def wsX9_rule : List Cond := .code yX9_rule cX9_rule 3 (some .int) :: ((wsX9_rule_r1 ++ (wsX9_rule_r2 ++ wsX9_rule_r3)) ++ wsX90 ++ wsX80 ++ wsX30 ++ wsX40)
def wsX9_nought_r1 : List Cond := [Cond.fieldLink RX9 10 "LeafTrees" "world" "LLeafTrees$World;", Cond.fieldLink RX9 138 "LeafTrees$World" "ruleCount" "I", Cond.fieldLink RX9 23 "LeafTrees" "work" "LLeafTrees$Row;", Cond.fieldLink RX9 18 "LeafTrees" "rows" "[LLeafTrees$Row;", Cond.methodLink RX9 135 yX9_isLeft, Cond.instanceMethod yX9_isLeft, Cond.selects RX9 yX9_isLeft yX9_isLeft, Cond.initialized RX9, Cond.code yX9_isLeft cX9_isLeft 2 (some .boolean), Cond.methodLink RX9 118 yX9_isTreeRow, Cond.instanceMethod yX9_isTreeRow, Cond.selects RX9 yX9_isTreeRow yX9_isTreeRow, Cond.code yX9_isTreeRow cX9_isTreeRow 2 (some .boolean), Cond.methodLink RX9 83 yX9_isRow, Cond.static yX9_isRow, Cond.code yX9_isRow cX9_isRow 1 (some .boolean), Cond.methodLink RX9 103 yX8_isTree, Cond.instanceMethod yX8_isTree, Cond.selects RX8 yX8_isTree yX8_isTree, Cond.initialized RX8, Cond.code yX8_isTree cX8_isTree 2 (some .boolean), Cond.fieldLink RX8 52 "LeafTrees$Row" "length" "I", Cond.methodLink RX8 62 yX8_endOf, Cond.instanceMethod yX8_endOf]
def wsX9_nought_r2 : List Cond := [Cond.selects RX8 yX8_endOf yX8_endOf, Cond.code yX8_endOf cX8_endOf 5 (some .int), Cond.methodLink RX8 46 Lib.Math.max.name, Cond.static Lib.Math.max.name, Cond.initialized "java/lang/Math", Cond.code Lib.Math.max.name Lib.Math.max.code 2 (some .int), Cond.fieldLink RX8 55 "LeafTrees$Row" "symbols" "[I", Cond.methodLink RX8 58 yX8_entriesOf, Cond.instanceMethod yX8_entriesOf, Cond.selects RX8 yX8_entriesOf yX8_entriesOf, Cond.code yX8_entriesOf cX8_entriesOf 2 (some .int), Cond.fieldLink RX8 22 "LeafTrees$World" "acts" "I", Cond.fieldLink RX8 9 "LeafTrees$World" "entries" "[I", Cond.methodLink RX9 111 yX3_size, Cond.instanceMethod yX3_size, Cond.selects RX3 yX3_size yX3_size, Cond.initialized RX3, Cond.code yX3_size cX3_size 1 (some .int), Cond.fieldLink RX3 15 "LeafTrees$Row" "length" "I", Cond.methodLink RX3 25 yX3_leaves, Cond.instanceMethod yX3_leaves, Cond.selects RX3 yX3_leaves yX3_leaves, Cond.code yX3_leaves cX3_leaves 3 (some .int), Cond.fieldLink RX3 9 "LeafTrees$Row" "symbols" "[I"]
def wsX9_nought_r3 : List Cond := [Cond.methodLink RX9 76 yX9_forget, Cond.instanceMethod yX9_forget, Cond.selects RX9 yX9_forget yX9_forget, Cond.code yX9_forget cX9_forget 1 none, Cond.fieldLink RX9 242 "LeafTrees" "manyKnown" "Z", Cond.fieldLink RX9 245 "LeafTrees" "dualKnown" "Z", Cond.fieldLink RX9 201 "LeafTrees" "firstOpenKnown" "Z", Cond.methodLink RX9 96 yX3_clear, Cond.instanceMethod yX3_clear, Cond.selects RX3 yX3_clear yX3_clear, Cond.code yX3_clear cX3_clear 1 none, Cond.methodLink RX9 141 yX8_addRule, Cond.instanceMethod yX8_addRule, Cond.selects RX8 yX8_addRule yX8_addRule, Cond.code yX8_addRule cX8_addRule 5 (some .int), Cond.fieldLink RX8 26 "LeafTrees$World" "ruleCount" "I", Cond.fieldLink RX8 17 "LeafTrees$World" "rules" "[LLeafTrees$Rule;", Cond.fieldLink RX8 29 "LeafTrees$Rule" "left" "LLeafTrees$Row;", Cond.fieldLink RX8 39 "LeafTrees$Rule" "right" "LLeafTrees$Row;", Cond.fieldLink RX8 42 "LeafTrees$Rule" "toNothing" "Z", Cond.methodLink RX8 33 yX3_become, Cond.instanceMethod yX3_become, Cond.selects RX3 yX3_become yX3_become, Cond.code yX3_become cX3_become 2 none]
def wsX9_nought_r4 : List Cond := [Cond.methodLink RX3 19 arraycopyName, Cond.native arraycopyName, Cond.static arraycopyName, Cond.initialized "java/lang/System"]
def wsX9_nought : List Cond := .code yX9_nought cX9_nought 2 (some .int) :: ((wsX9_nought_r1 ++ (wsX9_nought_r2 ++ (wsX9_nought_r3 ++ wsX9_nought_r4))) ++ wsX90 ++ wsX80 ++ wsX30 ++ wsX40)
def wsX9_unrule : List Cond := .code yX9_unrule cX9_unrule 2 (some .int) :: ([.fieldLink RX9 10 "LeafTrees" "world" "LLeafTrees$World;", .fieldLink RX9 138 "LeafTrees$World" "ruleCount" "I", .methodLink RX9 76 yX9_forget, .instanceMethod yX9_forget, .selects RX9 yX9_forget yX9_forget, .initialized RX9, .code yX9_forget cX9_forget 1 none, .fieldLink RX9 242 "LeafTrees" "manyKnown" "Z", .fieldLink RX9 245 "LeafTrees" "dualKnown" "Z", .fieldLink RX9 201 "LeafTrees" "firstOpenKnown" "Z"] ++ wsX90 ++ wsX80)
def wsX9_side_r1 : List Cond := [Cond.fieldLink RX9 10 "LeafTrees" "world" "LLeafTrees$World;", Cond.fieldLink RX9 148 "LeafTrees$World" "rules" "[LLeafTrees$Rule;", Cond.fieldLink RX9 152 "LeafTrees$Rule" "left" "LLeafTrees$Row;", Cond.fieldLink RX9 157 "LeafTrees$Rule" "right" "LLeafTrees$Row;", Cond.methodLink RX9 145 yX8_isRule, Cond.instanceMethod yX8_isRule, Cond.selects RX8 yX8_isRule yX8_isRule, Cond.initialized RX8, Cond.code yX8_isRule cX8_isRule 2 (some .boolean), Cond.fieldLink RX8 26 "LeafTrees$World" "ruleCount" "I", Cond.methodLink RX9 83 yX9_isRow, Cond.static yX9_isRow, Cond.initialized RX9, Cond.code yX9_isRow cX9_isRow 1 (some .boolean), Cond.methodLink RX9 128 yX9_bring, Cond.instanceMethod yX9_bring, Cond.selects RX9 yX9_bring yX9_bring, Cond.code yX9_bring cX9_bring 3 (some .int), Cond.fieldLink RX9 18 "LeafTrees" "rows" "[LLeafTrees$Row;", Cond.fieldLink RX9 93 "LeafTrees$Row" "length" "I", Cond.methodLink RX9 167 yX3_become, Cond.instanceMethod yX3_become, Cond.selects RX3 yX3_become yX3_become, Cond.initialized RX3]
def wsX9_side_r2 : List Cond := [Cond.code yX3_become cX3_become 2 none, Cond.fieldLink RX3 9 "LeafTrees$Row" "symbols" "[I", Cond.fieldLink RX3 15 "LeafTrees$Row" "length" "I", Cond.methodLink RX3 19 arraycopyName, Cond.native arraycopyName, Cond.static arraycopyName, Cond.initialized "java/lang/System"]
def wsX9_side : List Cond := .code yX9_side cX9_side 5 (some .int) :: ((wsX9_side_r1 ++ wsX9_side_r2) ++ wsX90 ++ wsX80 ++ wsX40 ++ wsX30)
def wsX9_matches_r1 : List Cond := [Cond.fieldLink RX9 10 "LeafTrees" "world" "LLeafTrees$World;", Cond.fieldLink RX9 37 "LeafTrees" "rewriter" "LLeafTrees$Rewriter;", Cond.fieldLink RX9 148 "LeafTrees$World" "rules" "[LLeafTrees$Rule;", Cond.fieldLink RX9 18 "LeafTrees" "rows" "[LLeafTrees$Row;", Cond.methodLink RX9 145 yX8_isRule, Cond.instanceMethod yX8_isRule, Cond.selects RX8 yX8_isRule yX8_isRule, Cond.initialized RX8, Cond.code yX8_isRule cX8_isRule 2 (some .boolean), Cond.fieldLink RX8 26 "LeafTrees$World" "ruleCount" "I", Cond.methodLink RX9 118 yX9_isTreeRow, Cond.instanceMethod yX9_isTreeRow, Cond.selects RX9 yX9_isTreeRow yX9_isTreeRow, Cond.initialized RX9, Cond.code yX9_isTreeRow cX9_isTreeRow 2 (some .boolean), Cond.methodLink RX9 83 yX9_isRow, Cond.static yX9_isRow, Cond.code yX9_isRow cX9_isRow 1 (some .boolean), Cond.methodLink RX9 103 yX8_isTree, Cond.instanceMethod yX8_isTree, Cond.selects RX8 yX8_isTree yX8_isTree, Cond.code yX8_isTree cX8_isTree 2 (some .boolean), Cond.fieldLink RX8 52 "LeafTrees$Row" "length" "I", Cond.methodLink RX8 62 yX8_endOf]
def wsX9_matches_r2 : List Cond := [Cond.instanceMethod yX8_endOf, Cond.selects RX8 yX8_endOf yX8_endOf, Cond.code yX8_endOf cX8_endOf 5 (some .int), Cond.methodLink RX8 46 Lib.Math.max.name, Cond.static Lib.Math.max.name, Cond.initialized "java/lang/Math", Cond.code Lib.Math.max.name Lib.Math.max.code 2 (some .int), Cond.fieldLink RX8 55 "LeafTrees$Row" "symbols" "[I", Cond.methodLink RX8 58 yX8_entriesOf, Cond.instanceMethod yX8_entriesOf, Cond.selects RX8 yX8_entriesOf yX8_entriesOf, Cond.code yX8_entriesOf cX8_entriesOf 2 (some .int), Cond.fieldLink RX8 22 "LeafTrees$World" "acts" "I", Cond.fieldLink RX8 9 "LeafTrees$World" "entries" "[I", Cond.methodLink RX9 160 yX2_firstPlace, Cond.instanceMethod yX2_firstPlace, Cond.selects RX2 yX2_firstPlace yX2_firstPlace, Cond.initialized RX2, Cond.code yX2_firstPlace cX2_firstPlace 5 (some .int), Cond.fieldLink RX2 12 "LeafTrees$Rewriter" "shape" "LLeafTrees$Shape;", Cond.fieldLink RX2 39 "LeafTrees$Row" "length" "I", Cond.fieldLink RX2 43 "LeafTrees$Rule" "left" "LLeafTrees$Row;", Cond.methodLink RX2 35 yX6_measure, Cond.instanceMethod yX6_measure]
def wsX9_matches_r3 : List Cond := [Cond.selects RX6 yX6_measure yX6_measure, Cond.initialized RX6, Cond.code yX6_measure cX6_measure 7 none, Cond.fieldLink RX6 15 "LeafTrees$Row" "length" "I", Cond.fieldLink RX6 21 "LeafTrees$Row" "symbols" "[I", Cond.fieldLink RX6 9 "LeafTrees$Shape" "ends" "[I", Cond.methodLink RX6 24 yX8_entriesOf, Cond.methodLink RX2 48 yX2_fits, Cond.instanceMethod yX2_fits, Cond.selects RX2 yX2_fits yX2_fits, Cond.code yX2_fits cX2_fits 7 (some .boolean), Cond.fieldLink RX2 57 "LeafTrees$Row" "symbols" "[I", Cond.fieldLink RX2 18 "LeafTrees$Rewriter" "caught" "[I", Cond.fieldLink RX2 105 "LeafTrees$Shape" "ends" "[I"]
def wsX9_matches : List Cond := .code yX9_matches cX9_matches 3 (some .int) :: ((wsX9_matches_r1 ++ (wsX9_matches_r2 ++ wsX9_matches_r3)) ++ wsX90 ++ wsX80 ++ wsX30 ++ wsX20 ++ wsX40 ++ wsX60)
def wsX9_step_r1 : List Cond := [Cond.fieldLink RX9 37 "LeafTrees" "rewriter" "LLeafTrees$Rewriter;", Cond.fieldLink RX9 10 "LeafTrees" "world" "LLeafTrees$World;", Cond.fieldLink RX9 18 "LeafTrees" "rows" "[LLeafTrees$Row;", Cond.methodLink RX9 118 yX9_isTreeRow, Cond.instanceMethod yX9_isTreeRow, Cond.selects RX9 yX9_isTreeRow yX9_isTreeRow, Cond.initialized RX9, Cond.code yX9_isTreeRow cX9_isTreeRow 2 (some .boolean), Cond.methodLink RX9 83 yX9_isRow, Cond.static yX9_isRow, Cond.code yX9_isRow cX9_isRow 1 (some .boolean), Cond.methodLink RX9 103 yX8_isTree, Cond.instanceMethod yX8_isTree, Cond.selects RX8 yX8_isTree yX8_isTree, Cond.initialized RX8, Cond.code yX8_isTree cX8_isTree 2 (some .boolean), Cond.fieldLink RX8 52 "LeafTrees$Row" "length" "I", Cond.methodLink RX8 62 yX8_endOf, Cond.instanceMethod yX8_endOf, Cond.selects RX8 yX8_endOf yX8_endOf, Cond.code yX8_endOf cX8_endOf 5 (some .int), Cond.methodLink RX8 46 Lib.Math.max.name, Cond.static Lib.Math.max.name, Cond.initialized "java/lang/Math"]
def wsX9_step_r2 : List Cond := [Cond.code Lib.Math.max.name Lib.Math.max.code 2 (some .int), Cond.fieldLink RX8 55 "LeafTrees$Row" "symbols" "[I", Cond.methodLink RX8 58 yX8_entriesOf, Cond.instanceMethod yX8_entriesOf, Cond.selects RX8 yX8_entriesOf yX8_entriesOf, Cond.code yX8_entriesOf cX8_entriesOf 2 (some .int), Cond.fieldLink RX8 22 "LeafTrees$World" "acts" "I", Cond.fieldLink RX8 9 "LeafTrees$World" "entries" "[I", Cond.methodLink RX9 164 yX2_advance, Cond.instanceMethod yX2_advance, Cond.selects RX2 yX2_advance yX2_advance, Cond.initialized RX2, Cond.code yX2_advance cX2_advance 5 (some .int), Cond.fieldLink RX2 12 "LeafTrees$Rewriter" "shape" "LLeafTrees$Shape;", Cond.fieldLink RX2 39 "LeafTrees$Row" "length" "I", Cond.fieldLink RX2 52 "LeafTrees$World" "ruleCount" "I", Cond.fieldLink RX2 57 "LeafTrees$Row" "symbols" "[I", Cond.fieldLink RX2 60 "LeafTrees$World" "rules" "[LLeafTrees$Rule;", Cond.fieldLink RX2 43 "LeafTrees$Rule" "left" "LLeafTrees$Row;", Cond.methodLink RX2 35 yX6_measure, Cond.instanceMethod yX6_measure, Cond.selects RX6 yX6_measure yX6_measure, Cond.initialized RX6, Cond.code yX6_measure cX6_measure 7 none]
def wsX9_step_r3 : List Cond := [Cond.fieldLink RX6 15 "LeafTrees$Row" "length" "I", Cond.fieldLink RX6 21 "LeafTrees$Row" "symbols" "[I", Cond.fieldLink RX6 9 "LeafTrees$Shape" "ends" "[I", Cond.methodLink RX6 24 yX8_entriesOf, Cond.methodLink RX2 48 yX2_fits, Cond.instanceMethod yX2_fits, Cond.selects RX2 yX2_fits yX2_fits, Cond.code yX2_fits cX2_fits 7 (some .boolean), Cond.fieldLink RX2 18 "LeafTrees$Rewriter" "caught" "[I", Cond.fieldLink RX2 105 "LeafTrees$Shape" "ends" "[I", Cond.methodLink RX2 64 yX2_replace, Cond.instanceMethod yX2_replace, Cond.selects RX2 yX2_replace yX2_replace, Cond.code yX2_replace cX2_replace 8 (some .int), Cond.fieldLink RX2 108 "LeafTrees$Rule" "toNothing" "Z", Cond.fieldLink RX2 25 "LeafTrees$Rewriter" "made" "LLeafTrees$Row;", Cond.fieldLink RX2 119 "LeafTrees$Rule" "right" "LLeafTrees$Row;", Cond.methodLink RX2 112 yX3_clear, Cond.instanceMethod yX3_clear, Cond.selects RX3 yX3_clear yX3_clear, Cond.initialized RX3, Cond.code yX3_clear cX3_clear 1 none, Cond.fieldLink RX3 15 "LeafTrees$Row" "length" "I", Cond.methodLink RX2 115 yX3_addPart]
def wsX9_step_r4 : List Cond := [Cond.instanceMethod yX3_addPart, Cond.selects RX3 yX3_addPart yX3_addPart, Cond.code yX3_addPart cX3_addPart 4 (some .boolean), Cond.fieldLink RX3 9 "LeafTrees$Row" "symbols" "[I", Cond.methodLink RX3 19 arraycopyName, Cond.native arraycopyName, Cond.static arraycopyName, Cond.initialized "java/lang/System", Cond.methodLink RX2 122 yX3_add, Cond.instanceMethod yX3_add, Cond.selects RX3 yX3_add yX3_add, Cond.code yX3_add cX3_add 2 (some .boolean), Cond.methodLink RX2 77 yX3_become, Cond.instanceMethod yX3_become, Cond.selects RX3 yX3_become yX3_become, Cond.code yX3_become cX3_become 2 none]
def wsX9_step : List Cond := .code yX9_step cX9_step 2 (some .int) :: ((wsX9_step_r1 ++ (wsX9_step_r2 ++ (wsX9_step_r3 ++ wsX9_step_r4))) ++ wsX90 ++ wsX30 ++ wsX80 ++ wsX20 ++ wsX40 ++ wsX60)
def wsX9_normal_r1 : List Cond := [Cond.fieldLink RX9 23 "LeafTrees" "work" "LLeafTrees$Row;", Cond.fieldLink RX9 18 "LeafTrees" "rows" "[LLeafTrees$Row;", Cond.fieldLink RX9 37 "LeafTrees" "rewriter" "LLeafTrees$Rewriter;", Cond.fieldLink RX9 10 "LeafTrees" "world" "LLeafTrees$World;", Cond.methodLink RX9 118 yX9_isTreeRow, Cond.instanceMethod yX9_isTreeRow, Cond.selects RX9 yX9_isTreeRow yX9_isTreeRow, Cond.initialized RX9, Cond.code yX9_isTreeRow cX9_isTreeRow 2 (some .boolean), Cond.methodLink RX9 83 yX9_isRow, Cond.static yX9_isRow, Cond.code yX9_isRow cX9_isRow 1 (some .boolean), Cond.methodLink RX9 103 yX8_isTree, Cond.instanceMethod yX8_isTree, Cond.selects RX8 yX8_isTree yX8_isTree, Cond.initialized RX8, Cond.code yX8_isTree cX8_isTree 2 (some .boolean), Cond.fieldLink RX8 52 "LeafTrees$Row" "length" "I", Cond.methodLink RX8 62 yX8_endOf, Cond.instanceMethod yX8_endOf, Cond.selects RX8 yX8_endOf yX8_endOf, Cond.code yX8_endOf cX8_endOf 5 (some .int), Cond.methodLink RX8 46 Lib.Math.max.name, Cond.static Lib.Math.max.name]
def wsX9_normal_r2 : List Cond := [Cond.initialized "java/lang/Math", Cond.code Lib.Math.max.name Lib.Math.max.code 2 (some .int), Cond.fieldLink RX8 55 "LeafTrees$Row" "symbols" "[I", Cond.methodLink RX8 58 yX8_entriesOf, Cond.instanceMethod yX8_entriesOf, Cond.selects RX8 yX8_entriesOf yX8_entriesOf, Cond.code yX8_entriesOf cX8_entriesOf 2 (some .int), Cond.fieldLink RX8 22 "LeafTrees$World" "acts" "I", Cond.fieldLink RX8 9 "LeafTrees$World" "entries" "[I", Cond.methodLink RX9 167 yX3_become, Cond.instanceMethod yX3_become, Cond.selects RX3 yX3_become yX3_become, Cond.initialized RX3, Cond.code yX3_become cX3_become 2 none, Cond.fieldLink RX3 9 "LeafTrees$Row" "symbols" "[I", Cond.fieldLink RX3 15 "LeafTrees$Row" "length" "I", Cond.methodLink RX3 19 arraycopyName, Cond.native arraycopyName, Cond.static arraycopyName, Cond.initialized "java/lang/System", Cond.methodLink RX9 171 yX2_normalForm, Cond.instanceMethod yX2_normalForm, Cond.selects RX2 yX2_normalForm yX2_normalForm, Cond.initialized RX2]
def wsX9_normal_r3 : List Cond := [Cond.code yX2_normalForm cX2_normalForm 5 (some .int), Cond.methodLink RX2 68 yX2_advance, Cond.instanceMethod yX2_advance, Cond.selects RX2 yX2_advance yX2_advance, Cond.code yX2_advance cX2_advance 5 (some .int), Cond.fieldLink RX2 12 "LeafTrees$Rewriter" "shape" "LLeafTrees$Shape;", Cond.fieldLink RX2 39 "LeafTrees$Row" "length" "I", Cond.fieldLink RX2 52 "LeafTrees$World" "ruleCount" "I", Cond.fieldLink RX2 57 "LeafTrees$Row" "symbols" "[I", Cond.fieldLink RX2 60 "LeafTrees$World" "rules" "[LLeafTrees$Rule;", Cond.fieldLink RX2 43 "LeafTrees$Rule" "left" "LLeafTrees$Row;", Cond.methodLink RX2 35 yX6_measure, Cond.instanceMethod yX6_measure, Cond.selects RX6 yX6_measure yX6_measure, Cond.initialized RX6, Cond.code yX6_measure cX6_measure 7 none, Cond.fieldLink RX6 15 "LeafTrees$Row" "length" "I", Cond.fieldLink RX6 21 "LeafTrees$Row" "symbols" "[I", Cond.fieldLink RX6 9 "LeafTrees$Shape" "ends" "[I", Cond.methodLink RX6 24 yX8_entriesOf, Cond.methodLink RX2 48 yX2_fits, Cond.instanceMethod yX2_fits, Cond.selects RX2 yX2_fits yX2_fits, Cond.code yX2_fits cX2_fits 7 (some .boolean)]
def wsX9_normal_r4 : List Cond := [Cond.fieldLink RX2 18 "LeafTrees$Rewriter" "caught" "[I", Cond.fieldLink RX2 105 "LeafTrees$Shape" "ends" "[I", Cond.methodLink RX2 64 yX2_replace, Cond.instanceMethod yX2_replace, Cond.selects RX2 yX2_replace yX2_replace, Cond.code yX2_replace cX2_replace 8 (some .int), Cond.fieldLink RX2 108 "LeafTrees$Rule" "toNothing" "Z", Cond.fieldLink RX2 25 "LeafTrees$Rewriter" "made" "LLeafTrees$Row;", Cond.fieldLink RX2 119 "LeafTrees$Rule" "right" "LLeafTrees$Row;", Cond.methodLink RX2 112 yX3_clear, Cond.instanceMethod yX3_clear, Cond.selects RX3 yX3_clear yX3_clear, Cond.code yX3_clear cX3_clear 1 none, Cond.methodLink RX2 115 yX3_addPart, Cond.instanceMethod yX3_addPart, Cond.selects RX3 yX3_addPart yX3_addPart, Cond.code yX3_addPart cX3_addPart 4 (some .boolean), Cond.methodLink RX2 122 yX3_add, Cond.instanceMethod yX3_add, Cond.selects RX3 yX3_add yX3_add, Cond.code yX3_add cX3_add 2 (some .boolean), Cond.methodLink RX2 77 yX3_become]
def wsX9_normal : List Cond := .code yX9_normal cX9_normal 3 (some .int) :: ((wsX9_normal_r1 ++ (wsX9_normal_r2 ++ (wsX9_normal_r3 ++ wsX9_normal_r4))) ++ wsX90 ++ wsX30 ++ wsX80 ++ wsX20 ++ wsX40 ++ wsX60)
def wsX9_isLeafNumber : List Cond := .code yX9_isLeafNumber cX9_isLeafNumber 1 (some .boolean) :: ([])
def wsX9_learnMany_r1 : List Cond := [Cond.fieldLink RX9 242 "LeafTrees" "manyKnown" "Z", Cond.fieldLink RX9 51 "LeafTrees" "census" "LLeafTrees$Census;", Cond.fieldLink RX9 10 "LeafTrees" "world" "LLeafTrees$World;", Cond.fieldLink RX9 62 "LeafTrees" "many" "[J", Cond.methodLink RX9 248 yX0_forbidLefts, Cond.instanceMethod yX0_forbidLefts, Cond.selects RX0 yX0_forbidLefts yX0_forbidLefts, Cond.initialized RX0, Cond.code yX0_forbidLefts cX0_forbidLefts 3 none, Cond.fieldLink RX0 34 "LeafTrees$World" "ruleCount" "I", Cond.fieldLink RX0 40 "LeafTrees$World" "rules" "[LLeafTrees$Rule;", Cond.fieldLink RX0 44 "LeafTrees$Rule" "left" "LLeafTrees$Row;", Cond.methodLink RX0 31 yX0_clear, Cond.instanceMethod yX0_clear, Cond.selects RX0 yX0_clear yX0_clear, Cond.code yX0_clear cX0_clear 1 none, Cond.fieldLink RX0 76 "LeafTrees$Census" "nodes" "I", Cond.fieldLink RX0 79 "LeafTrees$Census" "forbidden" "J", Cond.methodLink RX0 50 yX0_forbid, Cond.instanceMethod yX0_forbid, Cond.selects RX0 yX0_forbid yX0_forbid, Cond.code yX0_forbid cX0_forbid 6 none, Cond.fieldLink RX0 83 "LeafTrees$Row" "length" "I", Cond.fieldLink RX0 20 "LeafTrees$Census" "bitAt" "[J"]
def wsX9_learnMany_r2 : List Cond := [Cond.fieldLink RX0 88 "LeafTrees$Row" "symbols" "[I", Cond.methodLink RX0 57 yX0_addNode, Cond.instanceMethod yX0_addNode, Cond.selects RX0 yX0_addNode yX0_addNode, Cond.code yX0_addNode cX0_addNode 4 (some .int), Cond.fieldLink RX0 9 "LeafTrees$Census" "actOf" "[I", Cond.fieldLink RX0 17 "LeafTrees$Census" "needs" "[[J", Cond.methodLink RX0 91 yX0_linkEntries, Cond.instanceMethod yX0_linkEntries, Cond.selects RX0 yX0_linkEntries yX0_linkEntries, Cond.code yX0_linkEntries cX0_linkEntries 8 none, Cond.methodLink RX0 95 Lib.Math.min.name, Cond.static Lib.Math.min.name, Cond.initialized "java/lang/Math", Cond.code Lib.Math.min.name Lib.Math.min.code 2 (some .int), Cond.methodLink RX0 68 yX8_entriesOf, Cond.instanceMethod yX8_entriesOf, Cond.selects RX8 yX8_entriesOf yX8_entriesOf, Cond.initialized RX8, Cond.code yX8_entriesOf cX8_entriesOf 2 (some .int), Cond.fieldLink RX8 22 "LeafTrees$World" "acts" "I", Cond.fieldLink RX8 9 "LeafTrees$World" "entries" "[I", Cond.methodLink RX0 101 yX8_endOf, Cond.instanceMethod yX8_endOf]
def wsX9_learnMany_r3 : List Cond := [Cond.selects RX8 yX8_endOf yX8_endOf, Cond.code yX8_endOf cX8_endOf 5 (some .int), Cond.methodLink RX8 46 Lib.Math.max.name, Cond.static Lib.Math.max.name, Cond.code Lib.Math.max.name Lib.Math.max.code 2 (some .int), Cond.fieldLink RX8 52 "LeafTrees$Row" "length" "I", Cond.fieldLink RX8 55 "LeafTrees$Row" "symbols" "[I", Cond.methodLink RX8 58 yX8_entriesOf, Cond.methodLink RX9 252 yX0_run, Cond.instanceMethod yX0_run, Cond.selects RX0 yX0_run yX0_run, Cond.code yX0_run cX0_run 5 none, Cond.fieldLink RX0 54 "LeafTrees$World" "acts" "I", Cond.methodLink RX0 65 yX0_startTallies, Cond.instanceMethod yX0_startTallies, Cond.selects RX0 yX0_startTallies yX0_startTallies, Cond.code yX0_startTallies cX0_startTallies 2 none, Cond.fieldLink RX0 26 "LeafTrees$Census" "tallies" "[LLeafTrees$Tally;", Cond.methodLink RX0 109 yX7_clear, Cond.instanceMethod yX7_clear, Cond.selects RX7 yX7_clear yX7_clear, Cond.initialized RX7, Cond.code yX7_clear cX7_clear 1 none, Cond.fieldLink RX7 16 "LeafTrees$Tally" "size" "I"]
def wsX9_learnMany_r4 : List Cond := [Cond.methodLink RX0 110 yX7_add, Cond.instanceMethod yX7_add, Cond.selects RX7 yX7_add yX7_add, Cond.code yX7_add cX7_add 6 none, Cond.fieldLink RX7 7 "LeafTrees$Tally" "kinds" "[J", Cond.fieldLink RX7 13 "LeafTrees$Tally" "trees" "[J", Cond.methodLink RX7 20 yJ7_copyOf_c38d5, Cond.static yJ7_copyOf_c38d5, Cond.initialized RJ7, Cond.code yJ7_copyOf_c38d5 cJ7_copyOf_c38d5 3 (some (.array .long)), Cond.methodLink RJ7 319 ⟨"[J", "clone", "()Ljava/lang/Object;"⟩, Cond.sameMethod "[J" "java/lang/Object" "clone" "()Ljava/lang/Object;", Cond.native ⟨"java/lang/Object", "clone", "()Ljava/lang/Object;"⟩, Cond.instanceMethod ⟨"java/lang/Object", "clone", "()Ljava/lang/Object;"⟩, Cond.selects "[J" ⟨"[J", "clone", "()Ljava/lang/Object;"⟩ ⟨"java/lang/Object", "clone", "()Ljava/lang/Object;"⟩, Cond.classLink RJ7 320 "[J", Cond.arrayClass .long, Cond.methodLink RJ7 304 Lib.Math.min.name, Cond.methodLink RJ7 150 arraycopyName, Cond.native arraycopyName, Cond.static arraycopyName, Cond.initialized "java/lang/System", Cond.methodLink RX0 72 yX0_treesUnder, Cond.instanceMethod yX0_treesUnder]
def wsX9_learnMany_r5 : List Cond := [Cond.selects RX0 yX0_treesUnder yX0_treesUnder, Cond.code yX0_treesUnder cX0_treesUnder 9 (some .long), Cond.methodLink RX0 114 yX0_join, Cond.instanceMethod yX0_join, Cond.selects RX0 yX0_join yX0_join, Cond.code yX0_join cX0_join 15 (some .long), Cond.fieldLink RX0 118 "LeafTrees$Tally" "size" "I", Cond.fieldLink RX0 121 "LeafTrees$Tally" "kinds" "[J", Cond.fieldLink RX0 128 "LeafTrees$Tally" "trees" "[J", Cond.methodLink RX0 124 yX0_kindOf, Cond.instanceMethod yX0_kindOf, Cond.selects RX0 yX0_kindOf yX0_kindOf, Cond.code yX0_kindOf cX0_kindOf 11 (some .long), Cond.constantLong RX0 135 (-1), Cond.methodLink RX0 131 yX0_keep, Cond.instanceMethod yX0_keep, Cond.selects RX0 yX0_keep yX0_keep, Cond.code yX0_keep cX0_keep 6 none]
def wsX9_learnMany : List Cond := .code yX9_learnMany cX9_learnMany 1 none :: ((wsX9_learnMany_r1 ++ (wsX9_learnMany_r2 ++ (wsX9_learnMany_r3 ++ (wsX9_learnMany_r4 ++ wsX9_learnMany_r5)))) ++ wsX90 ++ wsX80 ++ wsX40 ++ wsX00 ++ wsX30 ++ wsX70)
def wsX9_howMany_r1 : List Cond := [Cond.constantLong RX9 177 (-2), Cond.fieldLink RX9 62 "LeafTrees" "many" "[J", Cond.methodLink RX9 174 yX9_isLeafNumber, Cond.static yX9_isLeafNumber, Cond.initialized RX9, Cond.code yX9_isLeafNumber cX9_isLeafNumber 1 (some .boolean), Cond.methodLink RX9 179 yX9_learnMany, Cond.instanceMethod yX9_learnMany, Cond.selects RX9 yX9_learnMany yX9_learnMany, Cond.code yX9_learnMany cX9_learnMany 1 none, Cond.fieldLink RX9 242 "LeafTrees" "manyKnown" "Z", Cond.fieldLink RX9 51 "LeafTrees" "census" "LLeafTrees$Census;", Cond.fieldLink RX9 10 "LeafTrees" "world" "LLeafTrees$World;", Cond.methodLink RX9 248 yX0_forbidLefts, Cond.instanceMethod yX0_forbidLefts, Cond.selects RX0 yX0_forbidLefts yX0_forbidLefts, Cond.initialized RX0, Cond.code yX0_forbidLefts cX0_forbidLefts 3 none, Cond.fieldLink RX0 34 "LeafTrees$World" "ruleCount" "I", Cond.fieldLink RX0 40 "LeafTrees$World" "rules" "[LLeafTrees$Rule;", Cond.fieldLink RX0 44 "LeafTrees$Rule" "left" "LLeafTrees$Row;", Cond.methodLink RX0 31 yX0_clear, Cond.instanceMethod yX0_clear, Cond.selects RX0 yX0_clear yX0_clear]
def wsX9_howMany_r2 : List Cond := [Cond.code yX0_clear cX0_clear 1 none, Cond.fieldLink RX0 76 "LeafTrees$Census" "nodes" "I", Cond.fieldLink RX0 79 "LeafTrees$Census" "forbidden" "J", Cond.methodLink RX0 50 yX0_forbid, Cond.instanceMethod yX0_forbid, Cond.selects RX0 yX0_forbid yX0_forbid, Cond.code yX0_forbid cX0_forbid 6 none, Cond.fieldLink RX0 83 "LeafTrees$Row" "length" "I", Cond.fieldLink RX0 20 "LeafTrees$Census" "bitAt" "[J", Cond.fieldLink RX0 88 "LeafTrees$Row" "symbols" "[I", Cond.methodLink RX0 57 yX0_addNode, Cond.instanceMethod yX0_addNode, Cond.selects RX0 yX0_addNode yX0_addNode, Cond.code yX0_addNode cX0_addNode 4 (some .int), Cond.fieldLink RX0 9 "LeafTrees$Census" "actOf" "[I", Cond.fieldLink RX0 17 "LeafTrees$Census" "needs" "[[J", Cond.methodLink RX0 91 yX0_linkEntries, Cond.instanceMethod yX0_linkEntries, Cond.selects RX0 yX0_linkEntries yX0_linkEntries, Cond.code yX0_linkEntries cX0_linkEntries 8 none, Cond.methodLink RX0 95 Lib.Math.min.name, Cond.static Lib.Math.min.name, Cond.initialized "java/lang/Math", Cond.code Lib.Math.min.name Lib.Math.min.code 2 (some .int)]
def wsX9_howMany_r3 : List Cond := [Cond.methodLink RX0 68 yX8_entriesOf, Cond.instanceMethod yX8_entriesOf, Cond.selects RX8 yX8_entriesOf yX8_entriesOf, Cond.initialized RX8, Cond.code yX8_entriesOf cX8_entriesOf 2 (some .int), Cond.fieldLink RX8 22 "LeafTrees$World" "acts" "I", Cond.fieldLink RX8 9 "LeafTrees$World" "entries" "[I", Cond.methodLink RX0 101 yX8_endOf, Cond.instanceMethod yX8_endOf, Cond.selects RX8 yX8_endOf yX8_endOf, Cond.code yX8_endOf cX8_endOf 5 (some .int), Cond.methodLink RX8 46 Lib.Math.max.name, Cond.static Lib.Math.max.name, Cond.code Lib.Math.max.name Lib.Math.max.code 2 (some .int), Cond.fieldLink RX8 52 "LeafTrees$Row" "length" "I", Cond.fieldLink RX8 55 "LeafTrees$Row" "symbols" "[I", Cond.methodLink RX8 58 yX8_entriesOf, Cond.methodLink RX9 252 yX0_run, Cond.instanceMethod yX0_run, Cond.selects RX0 yX0_run yX0_run, Cond.code yX0_run cX0_run 5 none, Cond.fieldLink RX0 54 "LeafTrees$World" "acts" "I", Cond.methodLink RX0 65 yX0_startTallies, Cond.instanceMethod yX0_startTallies]
def wsX9_howMany_r4 : List Cond := [Cond.selects RX0 yX0_startTallies yX0_startTallies, Cond.code yX0_startTallies cX0_startTallies 2 none, Cond.fieldLink RX0 26 "LeafTrees$Census" "tallies" "[LLeafTrees$Tally;", Cond.methodLink RX0 109 yX7_clear, Cond.instanceMethod yX7_clear, Cond.selects RX7 yX7_clear yX7_clear, Cond.initialized RX7, Cond.code yX7_clear cX7_clear 1 none, Cond.fieldLink RX7 16 "LeafTrees$Tally" "size" "I", Cond.methodLink RX0 110 yX7_add, Cond.instanceMethod yX7_add, Cond.selects RX7 yX7_add yX7_add, Cond.code yX7_add cX7_add 6 none, Cond.fieldLink RX7 7 "LeafTrees$Tally" "kinds" "[J", Cond.fieldLink RX7 13 "LeafTrees$Tally" "trees" "[J", Cond.methodLink RX7 20 yJ7_copyOf_c38d5, Cond.static yJ7_copyOf_c38d5, Cond.initialized RJ7, Cond.code yJ7_copyOf_c38d5 cJ7_copyOf_c38d5 3 (some (.array .long)), Cond.methodLink RJ7 319 ⟨"[J", "clone", "()Ljava/lang/Object;"⟩, Cond.sameMethod "[J" "java/lang/Object" "clone" "()Ljava/lang/Object;", Cond.native ⟨"java/lang/Object", "clone", "()Ljava/lang/Object;"⟩, Cond.instanceMethod ⟨"java/lang/Object", "clone", "()Ljava/lang/Object;"⟩, Cond.selects "[J" ⟨"[J", "clone", "()Ljava/lang/Object;"⟩ ⟨"java/lang/Object", "clone", "()Ljava/lang/Object;"⟩]
def wsX9_howMany_r5 : List Cond := [Cond.classLink RJ7 320 "[J", Cond.arrayClass .long, Cond.methodLink RJ7 304 Lib.Math.min.name, Cond.methodLink RJ7 150 arraycopyName, Cond.native arraycopyName, Cond.static arraycopyName, Cond.initialized "java/lang/System", Cond.methodLink RX0 72 yX0_treesUnder, Cond.instanceMethod yX0_treesUnder, Cond.selects RX0 yX0_treesUnder yX0_treesUnder, Cond.code yX0_treesUnder cX0_treesUnder 9 (some .long), Cond.methodLink RX0 114 yX0_join, Cond.instanceMethod yX0_join, Cond.selects RX0 yX0_join yX0_join, Cond.code yX0_join cX0_join 15 (some .long), Cond.fieldLink RX0 118 "LeafTrees$Tally" "size" "I", Cond.fieldLink RX0 121 "LeafTrees$Tally" "kinds" "[J", Cond.fieldLink RX0 128 "LeafTrees$Tally" "trees" "[J", Cond.methodLink RX0 124 yX0_kindOf, Cond.instanceMethod yX0_kindOf, Cond.selects RX0 yX0_kindOf yX0_kindOf, Cond.code yX0_kindOf cX0_kindOf 11 (some .long), Cond.constantLong RX0 135 (-1), Cond.methodLink RX0 131 yX0_keep]
def wsX9_howMany_r6 : List Cond := [Cond.instanceMethod yX0_keep, Cond.selects RX0 yX0_keep yX0_keep, Cond.code yX0_keep cX0_keep 6 none]
def wsX9_howMany : List Cond := .code yX9_howMany cX9_howMany 2 (some .long) :: ((wsX9_howMany_r1 ++ (wsX9_howMany_r2 ++ (wsX9_howMany_r3 ++ (wsX9_howMany_r4 ++ (wsX9_howMany_r5 ++ wsX9_howMany_r6))))) ++ wsX90 ++ wsX80 ++ wsX40 ++ wsX00 ++ wsX30 ++ wsX70)
def wsX9_overlaps_r1 : List Cond := [Cond.fieldLink RX9 44 "LeafTrees" "peaks" "LLeafTrees$Peaks;", Cond.fieldLink RX9 10 "LeafTrees" "world" "LLeafTrees$World;", Cond.methodLink RX9 182 yX1_restart, Cond.instanceMethod yX1_restart, Cond.selects RX1 yX1_restart yX1_restart, Cond.initialized RX1, Cond.code yX1_restart cX1_restart 1 none, Cond.fieldLink RX1 18 "LeafTrees$Peaks" "spot" "I", Cond.methodLink RX9 185 yX1_next, Cond.instanceMethod yX1_next, Cond.selects RX1 yX1_next yX1_next, Cond.code yX1_next cX1_next 2 (some .boolean), Cond.fieldLink RX1 22 "LeafTrees$Peaks" "outer" "I", Cond.fieldLink RX1 25 "LeafTrees$Peaks" "inner" "I", Cond.fieldLink RX1 28 "LeafTrees$Peaks" "place" "I", Cond.fieldLink RX1 35 "LeafTrees$World" "rules" "[LLeafTrees$Rule;", Cond.fieldLink RX1 41 "LeafTrees$Rule" "left" "LLeafTrees$Row;", Cond.methodLink RX1 31 yX1_mayOverlap, Cond.instanceMethod yX1_mayOverlap, Cond.selects RX1 yX1_mayOverlap yX1_mayOverlap, Cond.code yX1_mayOverlap cX1_mayOverlap 3 (some .boolean), Cond.fieldLink RX1 54 "LeafTrees$Row" "length" "I", Cond.fieldLink RX1 57 "LeafTrees$Row" "symbols" "[I", Cond.methodLink RX1 50 yX8_isRule]
def wsX9_overlaps_r2 : List Cond := [Cond.instanceMethod yX8_isRule, Cond.selects RX8 yX8_isRule yX8_isRule, Cond.initialized RX8, Cond.code yX8_isRule cX8_isRule 2 (some .boolean), Cond.fieldLink RX8 26 "LeafTrees$World" "ruleCount" "I", Cond.methodLink RX1 46 yX1_merge, Cond.instanceMethod yX1_merge, Cond.selects RX1 yX1_merge yX1_merge, Cond.code yX1_merge cX1_merge 8 (some .boolean), Cond.fieldLink RX1 12 "LeafTrees$Peaks" "top" "LLeafTrees$Row;", Cond.methodLink RX1 61 yX3_clear, Cond.instanceMethod yX3_clear, Cond.selects RX3 yX3_clear yX3_clear, Cond.initialized RX3, Cond.code yX3_clear cX3_clear 1 none, Cond.fieldLink RX3 15 "LeafTrees$Row" "length" "I", Cond.methodLink RX1 64 yX3_addPart, Cond.instanceMethod yX3_addPart, Cond.selects RX3 yX3_addPart yX3_addPart, Cond.code yX3_addPart cX3_addPart 4 (some .boolean), Cond.fieldLink RX3 9 "LeafTrees$Row" "symbols" "[I", Cond.methodLink RX3 19 arraycopyName, Cond.native arraycopyName, Cond.static arraycopyName]
def wsX9_overlaps_r3 : List Cond := [Cond.initialized "java/lang/System", Cond.methodLink RX1 68 yX3_add, Cond.instanceMethod yX3_add, Cond.selects RX3 yX3_add yX3_add, Cond.code yX3_add cX3_add 2 (some .boolean), Cond.methodLink RX1 71 yX8_endOf, Cond.instanceMethod yX8_endOf, Cond.selects RX8 yX8_endOf yX8_endOf, Cond.code yX8_endOf cX8_endOf 5 (some .int), Cond.methodLink RX8 46 Lib.Math.max.name, Cond.static Lib.Math.max.name, Cond.initialized "java/lang/Math", Cond.code Lib.Math.max.name Lib.Math.max.code 2 (some .int), Cond.fieldLink RX8 52 "LeafTrees$Row" "length" "I", Cond.fieldLink RX8 55 "LeafTrees$Row" "symbols" "[I", Cond.methodLink RX8 58 yX8_entriesOf, Cond.instanceMethod yX8_entriesOf, Cond.selects RX8 yX8_entriesOf yX8_entriesOf, Cond.code yX8_entriesOf cX8_entriesOf 2 (some .int), Cond.fieldLink RX8 22 "LeafTrees$World" "acts" "I", Cond.fieldLink RX8 9 "LeafTrees$World" "entries" "[I"]
def wsX9_overlaps : List Cond := .code yX9_overlaps cX9_overlaps 3 (some .int) :: ((wsX9_overlaps_r1 ++ (wsX9_overlaps_r2 ++ wsX9_overlaps_r3)) ++ wsX90 ++ wsX10 ++ wsX80 ++ wsX40 ++ wsX30)
def wsX9_overlap_r1 : List Cond := [Cond.fieldLink RX9 44 "LeafTrees" "peaks" "LLeafTrees$Peaks;", Cond.fieldLink RX9 10 "LeafTrees" "world" "LLeafTrees$World;", Cond.fieldLink RX9 189 "LeafTrees$Peaks" "top" "LLeafTrees$Row;", Cond.fieldLink RX9 192 "LeafTrees$Peaks" "outer" "I", Cond.fieldLink RX9 195 "LeafTrees$Peaks" "inner" "I", Cond.fieldLink RX9 198 "LeafTrees$Peaks" "place" "I", Cond.methodLink RX9 83 yX9_isRow, Cond.static yX9_isRow, Cond.initialized RX9, Cond.code yX9_isRow cX9_isRow 1 (some .boolean), Cond.methodLink RX9 182 yX1_restart, Cond.instanceMethod yX1_restart, Cond.selects RX1 yX1_restart yX1_restart, Cond.initialized RX1, Cond.code yX1_restart cX1_restart 1 none, Cond.fieldLink RX1 18 "LeafTrees$Peaks" "spot" "I", Cond.methodLink RX9 185 yX1_next, Cond.instanceMethod yX1_next, Cond.selects RX1 yX1_next yX1_next, Cond.code yX1_next cX1_next 2 (some .boolean), Cond.fieldLink RX1 22 "LeafTrees$Peaks" "outer" "I", Cond.fieldLink RX1 25 "LeafTrees$Peaks" "inner" "I", Cond.fieldLink RX1 28 "LeafTrees$Peaks" "place" "I", Cond.fieldLink RX1 35 "LeafTrees$World" "rules" "[LLeafTrees$Rule;"]
def wsX9_overlap_r2 : List Cond := [Cond.fieldLink RX1 41 "LeafTrees$Rule" "left" "LLeafTrees$Row;", Cond.methodLink RX1 31 yX1_mayOverlap, Cond.instanceMethod yX1_mayOverlap, Cond.selects RX1 yX1_mayOverlap yX1_mayOverlap, Cond.code yX1_mayOverlap cX1_mayOverlap 3 (some .boolean), Cond.fieldLink RX1 54 "LeafTrees$Row" "length" "I", Cond.fieldLink RX1 57 "LeafTrees$Row" "symbols" "[I", Cond.methodLink RX1 50 yX8_isRule, Cond.instanceMethod yX8_isRule, Cond.selects RX8 yX8_isRule yX8_isRule, Cond.initialized RX8, Cond.code yX8_isRule cX8_isRule 2 (some .boolean), Cond.fieldLink RX8 26 "LeafTrees$World" "ruleCount" "I", Cond.methodLink RX1 46 yX1_merge, Cond.instanceMethod yX1_merge, Cond.selects RX1 yX1_merge yX1_merge, Cond.code yX1_merge cX1_merge 8 (some .boolean), Cond.fieldLink RX1 12 "LeafTrees$Peaks" "top" "LLeafTrees$Row;", Cond.methodLink RX1 61 yX3_clear, Cond.instanceMethod yX3_clear, Cond.selects RX3 yX3_clear yX3_clear, Cond.initialized RX3, Cond.code yX3_clear cX3_clear 1 none, Cond.fieldLink RX3 15 "LeafTrees$Row" "length" "I"]
def wsX9_overlap_r3 : List Cond := [Cond.methodLink RX1 64 yX3_addPart, Cond.instanceMethod yX3_addPart, Cond.selects RX3 yX3_addPart yX3_addPart, Cond.code yX3_addPart cX3_addPart 4 (some .boolean), Cond.fieldLink RX3 9 "LeafTrees$Row" "symbols" "[I", Cond.methodLink RX3 19 arraycopyName, Cond.native arraycopyName, Cond.static arraycopyName, Cond.initialized "java/lang/System", Cond.methodLink RX1 68 yX3_add, Cond.instanceMethod yX3_add, Cond.selects RX3 yX3_add yX3_add, Cond.code yX3_add cX3_add 2 (some .boolean), Cond.methodLink RX1 71 yX8_endOf, Cond.instanceMethod yX8_endOf, Cond.selects RX8 yX8_endOf yX8_endOf, Cond.code yX8_endOf cX8_endOf 5 (some .int), Cond.methodLink RX8 46 Lib.Math.max.name, Cond.static Lib.Math.max.name, Cond.initialized "java/lang/Math", Cond.code Lib.Math.max.name Lib.Math.max.code 2 (some .int), Cond.fieldLink RX8 52 "LeafTrees$Row" "length" "I", Cond.fieldLink RX8 55 "LeafTrees$Row" "symbols" "[I", Cond.methodLink RX8 58 yX8_entriesOf]
def wsX9_overlap_r4 : List Cond := [Cond.instanceMethod yX8_entriesOf, Cond.selects RX8 yX8_entriesOf yX8_entriesOf, Cond.code yX8_entriesOf cX8_entriesOf 2 (some .int), Cond.fieldLink RX8 22 "LeafTrees$World" "acts" "I", Cond.fieldLink RX8 9 "LeafTrees$World" "entries" "[I", Cond.methodLink RX9 128 yX9_bring, Cond.instanceMethod yX9_bring, Cond.selects RX9 yX9_bring yX9_bring, Cond.code yX9_bring cX9_bring 3 (some .int), Cond.fieldLink RX9 18 "LeafTrees" "rows" "[LLeafTrees$Row;", Cond.fieldLink RX9 93 "LeafTrees$Row" "length" "I", Cond.methodLink RX9 167 yX3_become, Cond.instanceMethod yX3_become, Cond.selects RX3 yX3_become yX3_become, Cond.code yX3_become cX3_become 2 none]
def wsX9_overlap : List Cond := .code yX9_overlap cX9_overlap 4 (some .int) :: ((wsX9_overlap_r1 ++ (wsX9_overlap_r2 ++ (wsX9_overlap_r3 ++ wsX9_overlap_r4))) ++ wsX90 ++ wsX10 ++ wsX80 ++ wsX40 ++ wsX30)
def wsX9_closes_r1 : List Cond := [Cond.fieldLink RX9 201 "LeafTrees" "firstOpenKnown" "Z", Cond.fieldLink RX9 69 "LeafTrees" "firstOpen" "I", Cond.fieldLink RX9 44 "LeafTrees" "peaks" "LLeafTrees$Peaks;", Cond.fieldLink RX9 10 "LeafTrees" "world" "LLeafTrees$World;", Cond.fieldLink RX9 37 "LeafTrees" "rewriter" "LLeafTrees$Rewriter;", Cond.methodLink RX9 182 yX1_restart, Cond.instanceMethod yX1_restart, Cond.selects RX1 yX1_restart yX1_restart, Cond.initialized RX1, Cond.code yX1_restart cX1_restart 1 none, Cond.fieldLink RX1 18 "LeafTrees$Peaks" "spot" "I", Cond.methodLink RX9 185 yX1_next, Cond.instanceMethod yX1_next, Cond.selects RX1 yX1_next yX1_next, Cond.code yX1_next cX1_next 2 (some .boolean), Cond.fieldLink RX1 22 "LeafTrees$Peaks" "outer" "I", Cond.fieldLink RX1 25 "LeafTrees$Peaks" "inner" "I", Cond.fieldLink RX1 28 "LeafTrees$Peaks" "place" "I", Cond.fieldLink RX1 35 "LeafTrees$World" "rules" "[LLeafTrees$Rule;", Cond.fieldLink RX1 41 "LeafTrees$Rule" "left" "LLeafTrees$Row;", Cond.methodLink RX1 31 yX1_mayOverlap, Cond.instanceMethod yX1_mayOverlap, Cond.selects RX1 yX1_mayOverlap yX1_mayOverlap, Cond.code yX1_mayOverlap cX1_mayOverlap 3 (some .boolean)]
def wsX9_closes_r2 : List Cond := [Cond.fieldLink RX1 54 "LeafTrees$Row" "length" "I", Cond.fieldLink RX1 57 "LeafTrees$Row" "symbols" "[I", Cond.methodLink RX1 50 yX8_isRule, Cond.instanceMethod yX8_isRule, Cond.selects RX8 yX8_isRule yX8_isRule, Cond.initialized RX8, Cond.code yX8_isRule cX8_isRule 2 (some .boolean), Cond.fieldLink RX8 26 "LeafTrees$World" "ruleCount" "I", Cond.methodLink RX1 46 yX1_merge, Cond.instanceMethod yX1_merge, Cond.selects RX1 yX1_merge yX1_merge, Cond.code yX1_merge cX1_merge 8 (some .boolean), Cond.fieldLink RX1 12 "LeafTrees$Peaks" "top" "LLeafTrees$Row;", Cond.methodLink RX1 61 yX3_clear, Cond.instanceMethod yX3_clear, Cond.selects RX3 yX3_clear yX3_clear, Cond.initialized RX3, Cond.code yX3_clear cX3_clear 1 none, Cond.fieldLink RX3 15 "LeafTrees$Row" "length" "I", Cond.methodLink RX1 64 yX3_addPart, Cond.instanceMethod yX3_addPart, Cond.selects RX3 yX3_addPart yX3_addPart, Cond.code yX3_addPart cX3_addPart 4 (some .boolean), Cond.fieldLink RX3 9 "LeafTrees$Row" "symbols" "[I"]
def wsX9_closes_r3 : List Cond := [Cond.methodLink RX3 19 arraycopyName, Cond.native arraycopyName, Cond.static arraycopyName, Cond.initialized "java/lang/System", Cond.methodLink RX1 68 yX3_add, Cond.instanceMethod yX3_add, Cond.selects RX3 yX3_add yX3_add, Cond.code yX3_add cX3_add 2 (some .boolean), Cond.methodLink RX1 71 yX8_endOf, Cond.instanceMethod yX8_endOf, Cond.selects RX8 yX8_endOf yX8_endOf, Cond.code yX8_endOf cX8_endOf 5 (some .int), Cond.methodLink RX8 46 Lib.Math.max.name, Cond.static Lib.Math.max.name, Cond.initialized "java/lang/Math", Cond.code Lib.Math.max.name Lib.Math.max.code 2 (some .int), Cond.fieldLink RX8 52 "LeafTrees$Row" "length" "I", Cond.fieldLink RX8 55 "LeafTrees$Row" "symbols" "[I", Cond.methodLink RX8 58 yX8_entriesOf, Cond.instanceMethod yX8_entriesOf, Cond.selects RX8 yX8_entriesOf yX8_entriesOf, Cond.code yX8_entriesOf cX8_entriesOf 2 (some .int), Cond.fieldLink RX8 22 "LeafTrees$World" "acts" "I", Cond.fieldLink RX8 9 "LeafTrees$World" "entries" "[I"]
def wsX9_closes_r4 : List Cond := [Cond.methodLink RX9 205 yX2_meet, Cond.instanceMethod yX2_meet, Cond.selects RX2 yX2_meet yX2_meet, Cond.initialized RX2, Cond.code yX2_meet cX2_meet 5 (some .int), Cond.fieldLink RX2 29 "LeafTrees$Rewriter" "one" "LLeafTrees$Row;", Cond.fieldLink RX2 72 "LeafTrees$Peaks" "top" "LLeafTrees$Row;", Cond.fieldLink RX2 32 "LeafTrees$Rewriter" "other" "LLeafTrees$Row;", Cond.fieldLink RX2 81 "LeafTrees$Peaks" "outer" "I", Cond.fieldLink RX2 88 "LeafTrees$Peaks" "inner" "I", Cond.fieldLink RX2 91 "LeafTrees$Peaks" "place" "I", Cond.methodLink RX2 77 yX3_become, Cond.instanceMethod yX3_become, Cond.selects RX3 yX3_become yX3_become, Cond.code yX3_become cX3_become 2 none, Cond.methodLink RX2 84 yX2_goDown, Cond.instanceMethod yX2_goDown, Cond.selects RX2 yX2_goDown yX2_goDown, Cond.code yX2_goDown cX2_goDown 6 (some .int), Cond.fieldLink RX2 12 "LeafTrees$Rewriter" "shape" "LLeafTrees$Shape;", Cond.fieldLink RX2 60 "LeafTrees$World" "rules" "[LLeafTrees$Rule;", Cond.fieldLink RX2 43 "LeafTrees$Rule" "left" "LLeafTrees$Row;", Cond.methodLink RX2 35 yX6_measure, Cond.instanceMethod yX6_measure]
def wsX9_closes_r5 : List Cond := [Cond.selects RX6 yX6_measure yX6_measure, Cond.initialized RX6, Cond.code yX6_measure cX6_measure 7 none, Cond.fieldLink RX6 15 "LeafTrees$Row" "length" "I", Cond.fieldLink RX6 21 "LeafTrees$Row" "symbols" "[I", Cond.fieldLink RX6 9 "LeafTrees$Shape" "ends" "[I", Cond.methodLink RX6 24 yX8_entriesOf, Cond.methodLink RX2 98 yX8_isRule, Cond.methodLink RX2 48 yX2_fits, Cond.instanceMethod yX2_fits, Cond.selects RX2 yX2_fits yX2_fits, Cond.code yX2_fits cX2_fits 7 (some .boolean), Cond.fieldLink RX2 39 "LeafTrees$Row" "length" "I", Cond.fieldLink RX2 57 "LeafTrees$Row" "symbols" "[I", Cond.fieldLink RX2 18 "LeafTrees$Rewriter" "caught" "[I", Cond.fieldLink RX2 105 "LeafTrees$Shape" "ends" "[I", Cond.methodLink RX2 64 yX2_replace, Cond.instanceMethod yX2_replace, Cond.selects RX2 yX2_replace yX2_replace, Cond.code yX2_replace cX2_replace 8 (some .int), Cond.fieldLink RX2 108 "LeafTrees$Rule" "toNothing" "Z", Cond.fieldLink RX2 25 "LeafTrees$Rewriter" "made" "LLeafTrees$Row;", Cond.fieldLink RX2 119 "LeafTrees$Rule" "right" "LLeafTrees$Row;", Cond.methodLink RX2 112 yX3_clear]
def wsX9_closes_r6 : List Cond := [Cond.methodLink RX2 115 yX3_addPart, Cond.methodLink RX2 122 yX3_add, Cond.methodLink RX2 102 yX2_normalForm, Cond.instanceMethod yX2_normalForm, Cond.selects RX2 yX2_normalForm yX2_normalForm, Cond.code yX2_normalForm cX2_normalForm 5 (some .int), Cond.methodLink RX2 68 yX2_advance, Cond.instanceMethod yX2_advance, Cond.selects RX2 yX2_advance yX2_advance, Cond.code yX2_advance cX2_advance 5 (some .int), Cond.fieldLink RX2 52 "LeafTrees$World" "ruleCount" "I", Cond.methodLink RX2 94 yX3_isLike, Cond.instanceMethod yX3_isLike, Cond.selects RX3 yX3_isLike yX3_isLike, Cond.code yX3_isLike cX3_isLike 3 (some .boolean)]
def wsX9_closes : List Cond := .code yX9_closes cX9_closes 3 (some .int) :: ((wsX9_closes_r1 ++ (wsX9_closes_r2 ++ (wsX9_closes_r3 ++ (wsX9_closes_r4 ++ (wsX9_closes_r5 ++ wsX9_closes_r6))))) ++ wsX90 ++ wsX10 ++ wsX80 ++ wsX40 ++ wsX30 ++ wsX20 ++ wsX60)
def wsX9_turned_r1 : List Cond := [Cond.constantLong RX9 177 (-2), Cond.fieldLink RX9 58 "LeafTrees" "series" "LLeafTrees$Series;", Cond.fieldLink RX9 62 "LeafTrees" "many" "[J", Cond.fieldLink RX9 213 "LeafTrees$Series" "turnedAbout" "[J", Cond.methodLink RX9 174 yX9_isLeafNumber, Cond.static yX9_isLeafNumber, Cond.initialized RX9, Cond.code yX9_isLeafNumber cX9_isLeafNumber 1 (some .boolean), Cond.methodLink RX9 179 yX9_learnMany, Cond.instanceMethod yX9_learnMany, Cond.selects RX9 yX9_learnMany yX9_learnMany, Cond.code yX9_learnMany cX9_learnMany 1 none, Cond.fieldLink RX9 242 "LeafTrees" "manyKnown" "Z", Cond.fieldLink RX9 51 "LeafTrees" "census" "LLeafTrees$Census;", Cond.fieldLink RX9 10 "LeafTrees" "world" "LLeafTrees$World;", Cond.methodLink RX9 248 yX0_forbidLefts, Cond.instanceMethod yX0_forbidLefts, Cond.selects RX0 yX0_forbidLefts yX0_forbidLefts, Cond.initialized RX0, Cond.code yX0_forbidLefts cX0_forbidLefts 3 none, Cond.fieldLink RX0 34 "LeafTrees$World" "ruleCount" "I", Cond.fieldLink RX0 40 "LeafTrees$World" "rules" "[LLeafTrees$Rule;", Cond.fieldLink RX0 44 "LeafTrees$Rule" "left" "LLeafTrees$Row;", Cond.methodLink RX0 31 yX0_clear]
def wsX9_turned_r2 : List Cond := [Cond.instanceMethod yX0_clear, Cond.selects RX0 yX0_clear yX0_clear, Cond.code yX0_clear cX0_clear 1 none, Cond.fieldLink RX0 76 "LeafTrees$Census" "nodes" "I", Cond.fieldLink RX0 79 "LeafTrees$Census" "forbidden" "J", Cond.methodLink RX0 50 yX0_forbid, Cond.instanceMethod yX0_forbid, Cond.selects RX0 yX0_forbid yX0_forbid, Cond.code yX0_forbid cX0_forbid 6 none, Cond.fieldLink RX0 83 "LeafTrees$Row" "length" "I", Cond.fieldLink RX0 20 "LeafTrees$Census" "bitAt" "[J", Cond.fieldLink RX0 88 "LeafTrees$Row" "symbols" "[I", Cond.methodLink RX0 57 yX0_addNode, Cond.instanceMethod yX0_addNode, Cond.selects RX0 yX0_addNode yX0_addNode, Cond.code yX0_addNode cX0_addNode 4 (some .int), Cond.fieldLink RX0 9 "LeafTrees$Census" "actOf" "[I", Cond.fieldLink RX0 17 "LeafTrees$Census" "needs" "[[J", Cond.methodLink RX0 91 yX0_linkEntries, Cond.instanceMethod yX0_linkEntries, Cond.selects RX0 yX0_linkEntries yX0_linkEntries, Cond.code yX0_linkEntries cX0_linkEntries 8 none, Cond.methodLink RX0 95 Lib.Math.min.name, Cond.static Lib.Math.min.name]
def wsX9_turned_r3 : List Cond := [Cond.initialized "java/lang/Math", Cond.code Lib.Math.min.name Lib.Math.min.code 2 (some .int), Cond.methodLink RX0 68 yX8_entriesOf, Cond.instanceMethod yX8_entriesOf, Cond.selects RX8 yX8_entriesOf yX8_entriesOf, Cond.initialized RX8, Cond.code yX8_entriesOf cX8_entriesOf 2 (some .int), Cond.fieldLink RX8 22 "LeafTrees$World" "acts" "I", Cond.fieldLink RX8 9 "LeafTrees$World" "entries" "[I", Cond.methodLink RX0 101 yX8_endOf, Cond.instanceMethod yX8_endOf, Cond.selects RX8 yX8_endOf yX8_endOf, Cond.code yX8_endOf cX8_endOf 5 (some .int), Cond.methodLink RX8 46 Lib.Math.max.name, Cond.static Lib.Math.max.name, Cond.code Lib.Math.max.name Lib.Math.max.code 2 (some .int), Cond.fieldLink RX8 52 "LeafTrees$Row" "length" "I", Cond.fieldLink RX8 55 "LeafTrees$Row" "symbols" "[I", Cond.methodLink RX8 58 yX8_entriesOf, Cond.methodLink RX9 252 yX0_run, Cond.instanceMethod yX0_run, Cond.selects RX0 yX0_run yX0_run, Cond.code yX0_run cX0_run 5 none, Cond.fieldLink RX0 54 "LeafTrees$World" "acts" "I"]
def wsX9_turned_r4 : List Cond := [Cond.methodLink RX0 65 yX0_startTallies, Cond.instanceMethod yX0_startTallies, Cond.selects RX0 yX0_startTallies yX0_startTallies, Cond.code yX0_startTallies cX0_startTallies 2 none, Cond.fieldLink RX0 26 "LeafTrees$Census" "tallies" "[LLeafTrees$Tally;", Cond.methodLink RX0 109 yX7_clear, Cond.instanceMethod yX7_clear, Cond.selects RX7 yX7_clear yX7_clear, Cond.initialized RX7, Cond.code yX7_clear cX7_clear 1 none, Cond.fieldLink RX7 16 "LeafTrees$Tally" "size" "I", Cond.methodLink RX0 110 yX7_add, Cond.instanceMethod yX7_add, Cond.selects RX7 yX7_add yX7_add, Cond.code yX7_add cX7_add 6 none, Cond.fieldLink RX7 7 "LeafTrees$Tally" "kinds" "[J", Cond.fieldLink RX7 13 "LeafTrees$Tally" "trees" "[J", Cond.methodLink RX7 20 yJ7_copyOf_c38d5, Cond.static yJ7_copyOf_c38d5, Cond.initialized RJ7, Cond.code yJ7_copyOf_c38d5 cJ7_copyOf_c38d5 3 (some (.array .long)), Cond.methodLink RJ7 319 ⟨"[J", "clone", "()Ljava/lang/Object;"⟩, Cond.sameMethod "[J" "java/lang/Object" "clone" "()Ljava/lang/Object;", Cond.native ⟨"java/lang/Object", "clone", "()Ljava/lang/Object;"⟩]
def wsX9_turned_r5 : List Cond := [Cond.instanceMethod ⟨"java/lang/Object", "clone", "()Ljava/lang/Object;"⟩, Cond.selects "[J" ⟨"[J", "clone", "()Ljava/lang/Object;"⟩ ⟨"java/lang/Object", "clone", "()Ljava/lang/Object;"⟩, Cond.classLink RJ7 320 "[J", Cond.arrayClass .long, Cond.methodLink RJ7 304 Lib.Math.min.name, Cond.methodLink RJ7 150 arraycopyName, Cond.native arraycopyName, Cond.static arraycopyName, Cond.initialized "java/lang/System", Cond.methodLink RX0 72 yX0_treesUnder, Cond.instanceMethod yX0_treesUnder, Cond.selects RX0 yX0_treesUnder yX0_treesUnder, Cond.code yX0_treesUnder cX0_treesUnder 9 (some .long), Cond.methodLink RX0 114 yX0_join, Cond.instanceMethod yX0_join, Cond.selects RX0 yX0_join yX0_join, Cond.code yX0_join cX0_join 15 (some .long), Cond.fieldLink RX0 118 "LeafTrees$Tally" "size" "I", Cond.fieldLink RX0 121 "LeafTrees$Tally" "kinds" "[J", Cond.fieldLink RX0 128 "LeafTrees$Tally" "trees" "[J", Cond.methodLink RX0 124 yX0_kindOf, Cond.instanceMethod yX0_kindOf, Cond.selects RX0 yX0_kindOf yX0_kindOf, Cond.code yX0_kindOf cX0_kindOf 11 (some .long)]
def wsX9_turned_r6 : List Cond := [Cond.constantLong RX0 135 (-1), Cond.methodLink RX0 131 yX0_keep, Cond.instanceMethod yX0_keep, Cond.selects RX0 yX0_keep yX0_keep, Cond.code yX0_keep cX0_keep 6 none, Cond.methodLink RX9 209 yX5_turn, Cond.instanceMethod yX5_turn, Cond.selects RX5 yX5_turn yX5_turn, Cond.initialized RX5, Cond.code yX5_turn cX5_turn 6 none, Cond.fieldLink RX5 9 "LeafTrees$Series" "turnedAbout" "[J", Cond.fieldLink RX5 17 "LeafTrees$Series" "powers" "[[J", Cond.methodLink RX5 20 yX5_rowsOf, Cond.instanceMethod yX5_rowsOf, Cond.selects RX5 yX5_rowsOf yX5_rowsOf, Cond.code yX5_rowsOf cX5_rowsOf 6 (some .long)]
def wsX9_turned : List Cond := .code yX9_turned cX9_turned 2 (some .long) :: ((wsX9_turned_r1 ++ (wsX9_turned_r2 ++ (wsX9_turned_r3 ++ (wsX9_turned_r4 ++ (wsX9_turned_r5 ++ wsX9_turned_r6))))) ++ wsX90 ++ wsX50 ++ wsX80 ++ wsX40 ++ wsX00 ++ wsX30 ++ wsX70)
def wsX9_learnDual_r1 : List Cond := [Cond.fieldLink RX9 245 "LeafTrees" "dualKnown" "Z", Cond.fieldLink RX9 51 "LeafTrees" "census" "LLeafTrees$Census;", Cond.fieldLink RX9 10 "LeafTrees" "world" "LLeafTrees$World;", Cond.fieldLink RX9 66 "LeafTrees" "dualMany" "[J", Cond.methodLink RX9 256 yX0_forbidAllButLefts, Cond.instanceMethod yX0_forbidAllButLefts, Cond.selects RX0 yX0_forbidAllButLefts yX0_forbidAllButLefts, Cond.initialized RX0, Cond.code yX0_forbidAllButLefts cX0_forbidAllButLefts 4 none, Cond.fieldLink RX0 54 "LeafTrees$World" "acts" "I", Cond.methodLink RX0 31 yX0_clear, Cond.instanceMethod yX0_clear, Cond.selects RX0 yX0_clear yX0_clear, Cond.code yX0_clear cX0_clear 1 none, Cond.fieldLink RX0 76 "LeafTrees$Census" "nodes" "I", Cond.fieldLink RX0 79 "LeafTrees$Census" "forbidden" "J", Cond.methodLink RX0 57 yX0_addNode, Cond.instanceMethod yX0_addNode, Cond.selects RX0 yX0_addNode yX0_addNode, Cond.code yX0_addNode cX0_addNode 4 (some .int), Cond.fieldLink RX0 9 "LeafTrees$Census" "actOf" "[I", Cond.fieldLink RX0 17 "LeafTrees$Census" "needs" "[[J", Cond.methodLink RX0 61 yX0_forbidUnlessLeft, Cond.instanceMethod yX0_forbidUnlessLeft]
def wsX9_learnDual_r2 : List Cond := [Cond.selects RX0 yX0_forbidUnlessLeft yX0_forbidUnlessLeft, Cond.code yX0_forbidUnlessLeft cX0_forbidUnlessLeft 6 none, Cond.methodLink RX0 105 yX8_hasLeft, Cond.instanceMethod yX8_hasLeft, Cond.selects RX8 yX8_hasLeft yX8_hasLeft, Cond.initialized RX8, Cond.code yX8_hasLeft cX8_hasLeft 6 (some .boolean), Cond.fieldLink RX8 26 "LeafTrees$World" "ruleCount" "I", Cond.fieldLink RX8 17 "LeafTrees$World" "rules" "[LLeafTrees$Rule;", Cond.fieldLink RX8 29 "LeafTrees$Rule" "left" "LLeafTrees$Row;", Cond.fieldLink RX8 55 "LeafTrees$Row" "symbols" "[I", Cond.methodLink RX9 252 yX0_run, Cond.instanceMethod yX0_run, Cond.selects RX0 yX0_run yX0_run, Cond.code yX0_run cX0_run 5 none, Cond.methodLink RX0 65 yX0_startTallies, Cond.instanceMethod yX0_startTallies, Cond.selects RX0 yX0_startTallies yX0_startTallies, Cond.code yX0_startTallies cX0_startTallies 2 none, Cond.fieldLink RX0 26 "LeafTrees$Census" "tallies" "[LLeafTrees$Tally;", Cond.methodLink RX0 109 yX7_clear, Cond.instanceMethod yX7_clear, Cond.selects RX7 yX7_clear yX7_clear, Cond.initialized RX7]
def wsX9_learnDual_r3 : List Cond := [Cond.code yX7_clear cX7_clear 1 none, Cond.fieldLink RX7 16 "LeafTrees$Tally" "size" "I", Cond.methodLink RX0 110 yX7_add, Cond.instanceMethod yX7_add, Cond.selects RX7 yX7_add yX7_add, Cond.code yX7_add cX7_add 6 none, Cond.fieldLink RX7 7 "LeafTrees$Tally" "kinds" "[J", Cond.fieldLink RX7 13 "LeafTrees$Tally" "trees" "[J", Cond.methodLink RX7 20 yJ7_copyOf_c38d5, Cond.static yJ7_copyOf_c38d5, Cond.initialized RJ7, Cond.code yJ7_copyOf_c38d5 cJ7_copyOf_c38d5 3 (some (.array .long)), Cond.methodLink RJ7 319 ⟨"[J", "clone", "()Ljava/lang/Object;"⟩, Cond.sameMethod "[J" "java/lang/Object" "clone" "()Ljava/lang/Object;", Cond.native ⟨"java/lang/Object", "clone", "()Ljava/lang/Object;"⟩, Cond.instanceMethod ⟨"java/lang/Object", "clone", "()Ljava/lang/Object;"⟩, Cond.selects "[J" ⟨"[J", "clone", "()Ljava/lang/Object;"⟩ ⟨"java/lang/Object", "clone", "()Ljava/lang/Object;"⟩, Cond.classLink RJ7 320 "[J", Cond.arrayClass .long, Cond.methodLink RJ7 304 Lib.Math.min.name, Cond.static Lib.Math.min.name, Cond.initialized "java/lang/Math", Cond.code Lib.Math.min.name Lib.Math.min.code 2 (some .int), Cond.methodLink RJ7 150 arraycopyName]
def wsX9_learnDual_r4 : List Cond := [Cond.native arraycopyName, Cond.static arraycopyName, Cond.initialized "java/lang/System", Cond.methodLink RX0 68 yX8_entriesOf, Cond.instanceMethod yX8_entriesOf, Cond.selects RX8 yX8_entriesOf yX8_entriesOf, Cond.code yX8_entriesOf cX8_entriesOf 2 (some .int), Cond.fieldLink RX8 22 "LeafTrees$World" "acts" "I", Cond.fieldLink RX8 9 "LeafTrees$World" "entries" "[I", Cond.methodLink RX0 72 yX0_treesUnder, Cond.instanceMethod yX0_treesUnder, Cond.selects RX0 yX0_treesUnder yX0_treesUnder, Cond.code yX0_treesUnder cX0_treesUnder 9 (some .long), Cond.methodLink RX0 114 yX0_join, Cond.instanceMethod yX0_join, Cond.selects RX0 yX0_join yX0_join, Cond.code yX0_join cX0_join 15 (some .long), Cond.fieldLink RX0 118 "LeafTrees$Tally" "size" "I", Cond.fieldLink RX0 121 "LeafTrees$Tally" "kinds" "[J", Cond.fieldLink RX0 128 "LeafTrees$Tally" "trees" "[J", Cond.methodLink RX0 124 yX0_kindOf, Cond.instanceMethod yX0_kindOf, Cond.selects RX0 yX0_kindOf yX0_kindOf, Cond.code yX0_kindOf cX0_kindOf 11 (some .long)]
def wsX9_learnDual_r5 : List Cond := [Cond.constantLong RX0 135 (-1), Cond.methodLink RX0 131 yX0_keep, Cond.instanceMethod yX0_keep, Cond.selects RX0 yX0_keep yX0_keep, Cond.code yX0_keep cX0_keep 6 none]
def wsX9_learnDual : List Cond := .code yX9_learnDual cX9_learnDual 1 none :: ((wsX9_learnDual_r1 ++ (wsX9_learnDual_r2 ++ (wsX9_learnDual_r3 ++ (wsX9_learnDual_r4 ++ wsX9_learnDual_r5)))) ++ wsX90 ++ wsX80 ++ wsX00 ++ wsX40 ++ wsX30 ++ wsX70)
def wsX9_dual_r1 : List Cond := [Cond.constantLong RX9 177 (-2), Cond.fieldLink RX9 10 "LeafTrees" "world" "LLeafTrees$World;", Cond.constantLong RX9 220 (-3), Cond.fieldLink RX9 66 "LeafTrees" "dualMany" "[J", Cond.methodLink RX9 174 yX9_isLeafNumber, Cond.static yX9_isLeafNumber, Cond.initialized RX9, Cond.code yX9_isLeafNumber cX9_isLeafNumber 1 (some .boolean), Cond.methodLink RX9 216 yX8_hasDual, Cond.instanceMethod yX8_hasDual, Cond.selects RX8 yX8_hasDual yX8_hasDual, Cond.initialized RX8, Cond.code yX8_hasDual cX8_hasDual 2 (some .boolean), Cond.fieldLink RX8 22 "LeafTrees$World" "acts" "I", Cond.fieldLink RX8 9 "LeafTrees$World" "entries" "[I", Cond.fieldLink RX8 26 "LeafTrees$World" "ruleCount" "I", Cond.fieldLink RX8 17 "LeafTrees$World" "rules" "[LLeafTrees$Rule;", Cond.fieldLink RX8 42 "LeafTrees$Rule" "toNothing" "Z", Cond.fieldLink RX8 29 "LeafTrees$Rule" "left" "LLeafTrees$Row;", Cond.methodLink RX8 66 yX3_size, Cond.instanceMethod yX3_size, Cond.selects RX3 yX3_size yX3_size, Cond.initialized RX3, Cond.code yX3_size cX3_size 1 (some .int)]
def wsX9_dual_r2 : List Cond := [Cond.fieldLink RX3 15 "LeafTrees$Row" "length" "I", Cond.methodLink RX3 25 yX3_leaves, Cond.instanceMethod yX3_leaves, Cond.selects RX3 yX3_leaves yX3_leaves, Cond.code yX3_leaves cX3_leaves 3 (some .int), Cond.fieldLink RX3 9 "LeafTrees$Row" "symbols" "[I", Cond.methodLink RX9 222 yX9_learnDual, Cond.instanceMethod yX9_learnDual, Cond.selects RX9 yX9_learnDual yX9_learnDual, Cond.code yX9_learnDual cX9_learnDual 1 none, Cond.fieldLink RX9 245 "LeafTrees" "dualKnown" "Z", Cond.fieldLink RX9 51 "LeafTrees" "census" "LLeafTrees$Census;", Cond.methodLink RX9 256 yX0_forbidAllButLefts, Cond.instanceMethod yX0_forbidAllButLefts, Cond.selects RX0 yX0_forbidAllButLefts yX0_forbidAllButLefts, Cond.initialized RX0, Cond.code yX0_forbidAllButLefts cX0_forbidAllButLefts 4 none, Cond.fieldLink RX0 54 "LeafTrees$World" "acts" "I", Cond.methodLink RX0 31 yX0_clear, Cond.instanceMethod yX0_clear, Cond.selects RX0 yX0_clear yX0_clear, Cond.code yX0_clear cX0_clear 1 none, Cond.fieldLink RX0 76 "LeafTrees$Census" "nodes" "I", Cond.fieldLink RX0 79 "LeafTrees$Census" "forbidden" "J"]
def wsX9_dual_r3 : List Cond := [Cond.methodLink RX0 57 yX0_addNode, Cond.instanceMethod yX0_addNode, Cond.selects RX0 yX0_addNode yX0_addNode, Cond.code yX0_addNode cX0_addNode 4 (some .int), Cond.fieldLink RX0 9 "LeafTrees$Census" "actOf" "[I", Cond.fieldLink RX0 17 "LeafTrees$Census" "needs" "[[J", Cond.methodLink RX0 61 yX0_forbidUnlessLeft, Cond.instanceMethod yX0_forbidUnlessLeft, Cond.selects RX0 yX0_forbidUnlessLeft yX0_forbidUnlessLeft, Cond.code yX0_forbidUnlessLeft cX0_forbidUnlessLeft 6 none, Cond.methodLink RX0 105 yX8_hasLeft, Cond.instanceMethod yX8_hasLeft, Cond.selects RX8 yX8_hasLeft yX8_hasLeft, Cond.code yX8_hasLeft cX8_hasLeft 6 (some .boolean), Cond.fieldLink RX8 55 "LeafTrees$Row" "symbols" "[I", Cond.methodLink RX9 252 yX0_run, Cond.instanceMethod yX0_run, Cond.selects RX0 yX0_run yX0_run, Cond.code yX0_run cX0_run 5 none, Cond.methodLink RX0 65 yX0_startTallies, Cond.instanceMethod yX0_startTallies, Cond.selects RX0 yX0_startTallies yX0_startTallies, Cond.code yX0_startTallies cX0_startTallies 2 none, Cond.fieldLink RX0 26 "LeafTrees$Census" "tallies" "[LLeafTrees$Tally;"]
def wsX9_dual_r4 : List Cond := [Cond.methodLink RX0 109 yX7_clear, Cond.instanceMethod yX7_clear, Cond.selects RX7 yX7_clear yX7_clear, Cond.initialized RX7, Cond.code yX7_clear cX7_clear 1 none, Cond.fieldLink RX7 16 "LeafTrees$Tally" "size" "I", Cond.methodLink RX0 110 yX7_add, Cond.instanceMethod yX7_add, Cond.selects RX7 yX7_add yX7_add, Cond.code yX7_add cX7_add 6 none, Cond.fieldLink RX7 7 "LeafTrees$Tally" "kinds" "[J", Cond.fieldLink RX7 13 "LeafTrees$Tally" "trees" "[J", Cond.methodLink RX7 20 yJ7_copyOf_c38d5, Cond.static yJ7_copyOf_c38d5, Cond.initialized RJ7, Cond.code yJ7_copyOf_c38d5 cJ7_copyOf_c38d5 3 (some (.array .long)), Cond.methodLink RJ7 319 ⟨"[J", "clone", "()Ljava/lang/Object;"⟩, Cond.sameMethod "[J" "java/lang/Object" "clone" "()Ljava/lang/Object;", Cond.native ⟨"java/lang/Object", "clone", "()Ljava/lang/Object;"⟩, Cond.instanceMethod ⟨"java/lang/Object", "clone", "()Ljava/lang/Object;"⟩, Cond.selects "[J" ⟨"[J", "clone", "()Ljava/lang/Object;"⟩ ⟨"java/lang/Object", "clone", "()Ljava/lang/Object;"⟩, Cond.classLink RJ7 320 "[J", Cond.arrayClass .long, Cond.methodLink RJ7 304 Lib.Math.min.name]
def wsX9_dual_r5 : List Cond := [Cond.static Lib.Math.min.name, Cond.initialized "java/lang/Math", Cond.code Lib.Math.min.name Lib.Math.min.code 2 (some .int), Cond.methodLink RJ7 150 arraycopyName, Cond.native arraycopyName, Cond.static arraycopyName, Cond.initialized "java/lang/System", Cond.methodLink RX0 68 yX8_entriesOf, Cond.instanceMethod yX8_entriesOf, Cond.selects RX8 yX8_entriesOf yX8_entriesOf, Cond.code yX8_entriesOf cX8_entriesOf 2 (some .int), Cond.methodLink RX0 72 yX0_treesUnder, Cond.instanceMethod yX0_treesUnder, Cond.selects RX0 yX0_treesUnder yX0_treesUnder, Cond.code yX0_treesUnder cX0_treesUnder 9 (some .long), Cond.methodLink RX0 114 yX0_join, Cond.instanceMethod yX0_join, Cond.selects RX0 yX0_join yX0_join, Cond.code yX0_join cX0_join 15 (some .long), Cond.fieldLink RX0 118 "LeafTrees$Tally" "size" "I", Cond.fieldLink RX0 121 "LeafTrees$Tally" "kinds" "[J", Cond.fieldLink RX0 128 "LeafTrees$Tally" "trees" "[J", Cond.methodLink RX0 124 yX0_kindOf, Cond.instanceMethod yX0_kindOf]
def wsX9_dual_r6 : List Cond := [Cond.selects RX0 yX0_kindOf yX0_kindOf, Cond.code yX0_kindOf cX0_kindOf 11 (some .long), Cond.constantLong RX0 135 (-1), Cond.methodLink RX0 131 yX0_keep, Cond.instanceMethod yX0_keep, Cond.selects RX0 yX0_keep yX0_keep, Cond.code yX0_keep cX0_keep 6 none]
def wsX9_dual : List Cond := .code yX9_dual cX9_dual 2 (some .long) :: ((wsX9_dual_r1 ++ (wsX9_dual_r2 ++ (wsX9_dual_r3 ++ (wsX9_dual_r4 ++ (wsX9_dual_r5 ++ wsX9_dual_r6))))) ++ wsX90 ++ wsX80 ++ wsX40 ++ wsX30 ++ wsX00 ++ wsX70)
def wsX9_treeRows : List Cond := .code yX9_treeRows cX9_treeRows 3 (some .int) :: ([.fieldLink RX9 10 "LeafTrees" "world" "LLeafTrees$World;", .fieldLink RX9 18 "LeafTrees" "rows" "[LLeafTrees$Row;", .methodLink RX9 103 yX8_isTree, .instanceMethod yX8_isTree, .selects RX8 yX8_isTree yX8_isTree, .initialized RX8, .code yX8_isTree cX8_isTree 2 (some .boolean), .fieldLink RX8 52 "LeafTrees$Row" "length" "I", .methodLink RX8 62 yX8_endOf, .instanceMethod yX8_endOf, .selects RX8 yX8_endOf yX8_endOf, .code yX8_endOf cX8_endOf 5 (some .int), .methodLink RX8 46 Lib.Math.max.name, .static Lib.Math.max.name, .initialized "java/lang/Math", .code Lib.Math.max.name Lib.Math.max.code 2 (some .int), .fieldLink RX8 55 "LeafTrees$Row" "symbols" "[I", .methodLink RX8 58 yX8_entriesOf, .instanceMethod yX8_entriesOf, .selects RX8 yX8_entriesOf yX8_entriesOf, .code yX8_entriesOf cX8_entriesOf 2 (some .int), .fieldLink RX8 22 "LeafTrees$World" "acts" "I", .fieldLink RX8 9 "LeafTrees$World" "entries" "[I"] ++ wsX90 ++ wsX30 ++ wsX80)
def wsX9_count_r1 : List Cond := [Cond.fieldLink RX9 10 "LeafTrees" "world" "LLeafTrees$World;", Cond.fieldLink RX9 73 "LeafTrees$World" "acts" "I", Cond.fieldLink RX9 138 "LeafTrees$World" "ruleCount" "I", Cond.methodLink RX9 225 yX9_treeRows, Cond.instanceMethod yX9_treeRows, Cond.selects RX9 yX9_treeRows yX9_treeRows, Cond.initialized RX9, Cond.code yX9_treeRows cX9_treeRows 3 (some .int), Cond.fieldLink RX9 18 "LeafTrees" "rows" "[LLeafTrees$Row;", Cond.methodLink RX9 103 yX8_isTree, Cond.instanceMethod yX8_isTree, Cond.selects RX8 yX8_isTree yX8_isTree, Cond.initialized RX8, Cond.code yX8_isTree cX8_isTree 2 (some .boolean), Cond.fieldLink RX8 52 "LeafTrees$Row" "length" "I", Cond.methodLink RX8 62 yX8_endOf, Cond.instanceMethod yX8_endOf, Cond.selects RX8 yX8_endOf yX8_endOf, Cond.code yX8_endOf cX8_endOf 5 (some .int), Cond.methodLink RX8 46 Lib.Math.max.name, Cond.static Lib.Math.max.name, Cond.initialized "java/lang/Math", Cond.code Lib.Math.max.name Lib.Math.max.code 2 (some .int), Cond.fieldLink RX8 55 "LeafTrees$Row" "symbols" "[I"]
def wsX9_count_r2 : List Cond := [Cond.methodLink RX8 58 yX8_entriesOf, Cond.instanceMethod yX8_entriesOf, Cond.selects RX8 yX8_entriesOf yX8_entriesOf, Cond.code yX8_entriesOf cX8_entriesOf 2 (some .int), Cond.fieldLink RX8 22 "LeafTrees$World" "acts" "I", Cond.fieldLink RX8 9 "LeafTrees$World" "entries" "[I", Cond.methodLink RX9 228 yX8_rulesToNothing, Cond.instanceMethod yX8_rulesToNothing, Cond.selects RX8 yX8_rulesToNothing yX8_rulesToNothing, Cond.code yX8_rulesToNothing cX8_rulesToNothing 3 (some .int), Cond.fieldLink RX8 26 "LeafTrees$World" "ruleCount" "I", Cond.fieldLink RX8 17 "LeafTrees$World" "rules" "[LLeafTrees$Rule;", Cond.fieldLink RX8 42 "LeafTrees$Rule" "toNothing" "Z"]
def wsX9_count : List Cond := .code yX9_count cX9_count 2 (some .int) :: ((wsX9_count_r1 ++ wsX9_count_r2) ++ wsX90 ++ wsX80 ++ wsX30 ++ wsX40)
def wsX9_digest_r1 : List Cond := [Cond.constantLong RX9 231 (227), Cond.constantLong RX9 233 (31), Cond.fieldLink RX9 10 "LeafTrees" "world" "LLeafTrees$World;", Cond.fieldLink RX9 73 "LeafTrees$World" "acts" "I", Cond.fieldLink RX9 138 "LeafTrees$World" "ruleCount" "I", Cond.fieldLink RX9 235 "LeafTrees$World" "entries" "[I", Cond.fieldLink RX9 18 "LeafTrees" "rows" "[LLeafTrees$Row;", Cond.fieldLink RX9 148 "LeafTrees$World" "rules" "[LLeafTrees$Rule;", Cond.fieldLink RX9 152 "LeafTrees$Rule" "left" "LLeafTrees$Row;", Cond.fieldLink RX9 157 "LeafTrees$Rule" "right" "LLeafTrees$Row;", Cond.methodLink RX9 225 yX9_treeRows, Cond.instanceMethod yX9_treeRows, Cond.selects RX9 yX9_treeRows yX9_treeRows, Cond.initialized RX9, Cond.code yX9_treeRows cX9_treeRows 3 (some .int), Cond.methodLink RX9 103 yX8_isTree, Cond.instanceMethod yX8_isTree, Cond.selects RX8 yX8_isTree yX8_isTree, Cond.initialized RX8, Cond.code yX8_isTree cX8_isTree 2 (some .boolean), Cond.fieldLink RX8 52 "LeafTrees$Row" "length" "I", Cond.methodLink RX8 62 yX8_endOf, Cond.instanceMethod yX8_endOf, Cond.selects RX8 yX8_endOf yX8_endOf]
def wsX9_digest_r2 : List Cond := [Cond.code yX8_endOf cX8_endOf 5 (some .int), Cond.methodLink RX8 46 Lib.Math.max.name, Cond.static Lib.Math.max.name, Cond.initialized "java/lang/Math", Cond.code Lib.Math.max.name Lib.Math.max.code 2 (some .int), Cond.fieldLink RX8 55 "LeafTrees$Row" "symbols" "[I", Cond.methodLink RX8 58 yX8_entriesOf, Cond.instanceMethod yX8_entriesOf, Cond.selects RX8 yX8_entriesOf yX8_entriesOf, Cond.code yX8_entriesOf cX8_entriesOf 2 (some .int), Cond.fieldLink RX8 22 "LeafTrees$World" "acts" "I", Cond.fieldLink RX8 9 "LeafTrees$World" "entries" "[I", Cond.methodLink RX9 228 yX8_rulesToNothing, Cond.instanceMethod yX8_rulesToNothing, Cond.selects RX8 yX8_rulesToNothing yX8_rulesToNothing, Cond.code yX8_rulesToNothing cX8_rulesToNothing 3 (some .int), Cond.fieldLink RX8 26 "LeafTrees$World" "ruleCount" "I", Cond.fieldLink RX8 17 "LeafTrees$World" "rules" "[LLeafTrees$Rule;", Cond.fieldLink RX8 42 "LeafTrees$Rule" "toNothing" "Z", Cond.methodLink RX9 238 yX3_digestedAfter, Cond.instanceMethod yX3_digestedAfter, Cond.selects RX3 yX3_digestedAfter yX3_digestedAfter, Cond.initialized RX3, Cond.code yX3_digestedAfter cX3_digestedAfter 6 (some .long)]
def wsX9_digest_r3 : List Cond := [Cond.fieldLink RX3 15 "LeafTrees$Row" "length" "I", Cond.constantLong RX3 29 (31), Cond.fieldLink RX3 9 "LeafTrees$Row" "symbols" "[I", Cond.constantLong RX3 31 (9)]
def wsX9_digest : List Cond := .code yX9_digest cX9_digest 4 (some .long) :: ((wsX9_digest_r1 ++ (wsX9_digest_r2 ++ wsX9_digest_r3)) ++ wsX90 ++ wsX80 ++ wsX40 ++ wsX30)
def wsX10_init : List Cond := .code yX10_init cX10_init 1 none :: ([.methodLink RX10 1 objectInit, .instanceMethod objectInit, .code objectInit ⟨#[0xb1]⟩ 1 none, .arrayClass .int, .fieldLink RX10 7 "LeafTreesModel" "entries" "[I", .fieldLink RX10 13 "LeafTreesModel" "symbol" "[I", .fieldLink RX10 16 "LeafTreesModel" "size" "[I", .arrayClass .boolean, .fieldLink RX10 19 "LeafTreesModel" "isNought" "[Z", .arrayClass .long, .fieldLink RX10 23 "LeafTreesModel" "counted" "[J", .fieldLink RX10 27 "LeafTreesModel" "open" "[I", .fieldLink RX10 30 "LeafTreesModel" "matchFrom" "[I", .fieldLink RX10 33 "LeafTreesModel" "matchTo" "[I", .fieldLink RX10 36 "LeafTreesModel" "keptRow" "[I", .fieldLink RX10 39 "LeafTreesModel" "parts" "[J", .fieldLink RX10 42 "LeafTreesModel" "turnedOf" "[J", .fieldLink RX10 45 "LeafTreesModel" "may" "[Z", .fieldLink RX10 48 "LeafTreesModel" "byTop" "[J"] ++ wsX100)
def wsX10_in : List Cond := .code yX10_in cX10_in 3 (some .boolean) :: ([])
def wsX10_act : List Cond := .code yX10_act cX10_act 2 (some .int) :: ([.fieldLink RX10 55 "LeafTreesModel" "acts" "I", .fieldLink RX10 7 "LeafTreesModel" "entries" "[I", .fieldLink RX10 59 "LeafTreesModel" "isCounted" "Z", .methodLink RX10 51 yX10_in, .static yX10_in, .initialized RX10, .code yX10_in cX10_in 3 (some .boolean)] ++ wsX100)
def wsX10_isRow : List Cond := .code yX10_isRow cX10_isRow 1 (some .boolean) :: ([.methodLink RX10 51 yX10_in, .static yX10_in, .initialized RX10, .code yX10_in cX10_in 3 (some .boolean)])
def wsX10_comes : List Cond := .code yX10_comes cX10_comes 3 none :: ([.fieldLink RX10 13 "LeafTreesModel" "symbol" "[I", .fieldLink RX10 16 "LeafTreesModel" "size" "[I"] ++ wsX100)
def wsX10_put : List Cond := .code yX10_put cX10_put 3 (some .int) :: ([.fieldLink RX10 55 "LeafTreesModel" "acts" "I", .fieldLink RX10 16 "LeafTreesModel" "size" "[I", .methodLink RX10 63 yX10_isRow, .static yX10_isRow, .initialized RX10, .code yX10_isRow cX10_isRow 1 (some .boolean), .methodLink RX10 51 yX10_in, .static yX10_in, .code yX10_in cX10_in 3 (some .boolean), .methodLink RX10 67 yX10_comes, .instanceMethod yX10_comes, .selects RX10 yX10_comes yX10_comes, .code yX10_comes cX10_comes 3 none, .fieldLink RX10 13 "LeafTreesModel" "symbol" "[I"] ++ wsX100)
def wsX10_empty : List Cond := .code yX10_empty cX10_empty 3 (some .int) :: ([.fieldLink RX10 16 "LeafTreesModel" "size" "[I", .methodLink RX10 63 yX10_isRow, .static yX10_isRow, .initialized RX10, .code yX10_isRow cX10_isRow 1 (some .boolean), .methodLink RX10 51 yX10_in, .static yX10_in, .code yX10_in cX10_in 3 (some .boolean)] ++ wsX100)
def wsX10_at : List Cond := .code yX10_at cX10_at 3 (some .int) :: ([.fieldLink RX10 16 "LeafTreesModel" "size" "[I", .fieldLink RX10 13 "LeafTreesModel" "symbol" "[I", .methodLink RX10 63 yX10_isRow, .static yX10_isRow, .initialized RX10, .code yX10_isRow cX10_isRow 1 (some .boolean), .methodLink RX10 51 yX10_in, .static yX10_in, .code yX10_in cX10_in 3 (some .boolean)] ++ wsX100)
def wsX10_wants : List Cond := .code yX10_wants cX10_wants 2 (some .int) :: ([.fieldLink RX10 7 "LeafTreesModel" "entries" "[I"] ++ wsX100)
def wsX10_end : List Cond := .code yX10_end cX10_end 5 (some .int) :: ([.fieldLink RX10 16 "LeafTreesModel" "size" "[I", .fieldLink RX10 13 "LeafTreesModel" "symbol" "[I", .methodLink RX10 71 yX10_wants, .instanceMethod yX10_wants, .selects RX10 yX10_wants yX10_wants, .initialized RX10, .code yX10_wants cX10_wants 2 (some .int), .fieldLink RX10 7 "LeafTreesModel" "entries" "[I"] ++ wsX100)
def wsX10_isTree : List Cond := .code yX10_isTree cX10_isTree 2 (some .boolean) :: ([.fieldLink RX10 16 "LeafTreesModel" "size" "[I", .methodLink RX10 75 yX10_end, .instanceMethod yX10_end, .selects RX10 yX10_end yX10_end, .initialized RX10, .code yX10_end cX10_end 5 (some .int), .fieldLink RX10 13 "LeafTreesModel" "symbol" "[I", .methodLink RX10 71 yX10_wants, .instanceMethod yX10_wants, .selects RX10 yX10_wants yX10_wants, .code yX10_wants cX10_wants 2 (some .int), .fieldLink RX10 7 "LeafTreesModel" "entries" "[I"] ++ wsX100)
def wsX10_isTreeRow : List Cond := .code yX10_isTreeRow cX10_isTreeRow 2 (some .boolean) :: ([.methodLink RX10 63 yX10_isRow, .static yX10_isRow, .initialized RX10, .code yX10_isRow cX10_isRow 1 (some .boolean), .methodLink RX10 51 yX10_in, .static yX10_in, .code yX10_in cX10_in 3 (some .boolean), .methodLink RX10 79 yX10_isTree, .instanceMethod yX10_isTree, .selects RX10 yX10_isTree yX10_isTree, .code yX10_isTree cX10_isTree 2 (some .boolean), .fieldLink RX10 16 "LeafTreesModel" "size" "[I", .methodLink RX10 75 yX10_end, .instanceMethod yX10_end, .selects RX10 yX10_end yX10_end, .code yX10_end cX10_end 5 (some .int), .fieldLink RX10 13 "LeafTreesModel" "symbol" "[I", .methodLink RX10 71 yX10_wants, .instanceMethod yX10_wants, .selects RX10 yX10_wants yX10_wants, .code yX10_wants cX10_wants 2 (some .int), .fieldLink RX10 7 "LeafTreesModel" "entries" "[I"] ++ wsX100)
def wsX10_leaves : List Cond := .code yX10_leaves cX10_leaves 4 (some .int) :: ([.fieldLink RX10 16 "LeafTreesModel" "size" "[I", .fieldLink RX10 13 "LeafTreesModel" "symbol" "[I"] ++ wsX100)
def wsX10_height : List Cond := .code yX10_height cX10_height 7 (some .int) :: ([.fieldLink RX10 16 "LeafTreesModel" "size" "[I", .fieldLink RX10 13 "LeafTreesModel" "symbol" "[I", .fieldLink RX10 27 "LeafTreesModel" "open" "[I", .fieldLink RX10 7 "LeafTreesModel" "entries" "[I"] ++ wsX100)
def wsX10_about_r1 : List Cond := [Cond.fieldLink RX10 16 "LeafTreesModel" "size" "[I", Cond.methodLink RX10 63 yX10_isRow, Cond.static yX10_isRow, Cond.initialized RX10, Cond.code yX10_isRow cX10_isRow 1 (some .boolean), Cond.methodLink RX10 51 yX10_in, Cond.static yX10_in, Cond.code yX10_in cX10_in 3 (some .boolean), Cond.methodLink RX10 79 yX10_isTree, Cond.instanceMethod yX10_isTree, Cond.selects RX10 yX10_isTree yX10_isTree, Cond.code yX10_isTree cX10_isTree 2 (some .boolean), Cond.methodLink RX10 75 yX10_end, Cond.instanceMethod yX10_end, Cond.selects RX10 yX10_end yX10_end, Cond.code yX10_end cX10_end 5 (some .int), Cond.fieldLink RX10 13 "LeafTreesModel" "symbol" "[I", Cond.methodLink RX10 71 yX10_wants, Cond.instanceMethod yX10_wants, Cond.selects RX10 yX10_wants yX10_wants, Cond.code yX10_wants cX10_wants 2 (some .int), Cond.fieldLink RX10 7 "LeafTreesModel" "entries" "[I", Cond.methodLink RX10 82 yX10_leaves, Cond.instanceMethod yX10_leaves]
def wsX10_about_r2 : List Cond := [Cond.selects RX10 yX10_leaves yX10_leaves, Cond.code yX10_leaves cX10_leaves 4 (some .int), Cond.methodLink RX10 85 yX10_height, Cond.instanceMethod yX10_height, Cond.selects RX10 yX10_height yX10_height, Cond.code yX10_height cX10_height 7 (some .int), Cond.fieldLink RX10 27 "LeafTreesModel" "open" "[I"]
def wsX10_about : List Cond := .code yX10_about cX10_about 3 (some .int) :: ((wsX10_about_r1 ++ wsX10_about_r2) ++ wsX100)
def wsX10_copy : List Cond := .code yX10_copy cX10_copy 4 none :: ([.fieldLink RX10 16 "LeafTreesModel" "size" "[I", .fieldLink RX10 13 "LeafTreesModel" "symbol" "[I"] ++ wsX100)
def wsX10_adds : List Cond := .code yX10_adds cX10_adds 6 (some .boolean) :: ([.fieldLink RX10 16 "LeafTreesModel" "size" "[I", .fieldLink RX10 13 "LeafTreesModel" "symbol" "[I", .methodLink RX10 67 yX10_comes, .instanceMethod yX10_comes, .selects RX10 yX10_comes yX10_comes, .initialized RX10, .code yX10_comes cX10_comes 3 none] ++ wsX100)
def wsX10_graft_r1 : List Cond := [Cond.fieldLink RX10 13 "LeafTreesModel" "symbol" "[I", Cond.fieldLink RX10 16 "LeafTreesModel" "size" "[I", Cond.methodLink RX10 88 yX10_isTreeRow, Cond.instanceMethod yX10_isTreeRow, Cond.selects RX10 yX10_isTreeRow yX10_isTreeRow, Cond.initialized RX10, Cond.code yX10_isTreeRow cX10_isTreeRow 2 (some .boolean), Cond.methodLink RX10 63 yX10_isRow, Cond.static yX10_isRow, Cond.code yX10_isRow cX10_isRow 1 (some .boolean), Cond.methodLink RX10 51 yX10_in, Cond.static yX10_in, Cond.code yX10_in cX10_in 3 (some .boolean), Cond.methodLink RX10 79 yX10_isTree, Cond.instanceMethod yX10_isTree, Cond.selects RX10 yX10_isTree yX10_isTree, Cond.code yX10_isTree cX10_isTree 2 (some .boolean), Cond.methodLink RX10 75 yX10_end, Cond.instanceMethod yX10_end, Cond.selects RX10 yX10_end yX10_end, Cond.code yX10_end cX10_end 5 (some .int), Cond.methodLink RX10 71 yX10_wants, Cond.instanceMethod yX10_wants, Cond.selects RX10 yX10_wants yX10_wants]
def wsX10_graft_r2 : List Cond := [Cond.code yX10_wants cX10_wants 2 (some .int), Cond.fieldLink RX10 7 "LeafTreesModel" "entries" "[I", Cond.methodLink RX10 82 yX10_leaves, Cond.instanceMethod yX10_leaves, Cond.selects RX10 yX10_leaves yX10_leaves, Cond.code yX10_leaves cX10_leaves 4 (some .int), Cond.methodLink RX10 91 yX10_adds, Cond.instanceMethod yX10_adds, Cond.selects RX10 yX10_adds yX10_adds, Cond.code yX10_adds cX10_adds 6 (some .boolean), Cond.methodLink RX10 67 yX10_comes, Cond.instanceMethod yX10_comes, Cond.selects RX10 yX10_comes yX10_comes, Cond.code yX10_comes cX10_comes 3 none, Cond.methodLink RX10 95 yX10_copy, Cond.instanceMethod yX10_copy, Cond.selects RX10 yX10_copy yX10_copy, Cond.code yX10_copy cX10_copy 4 none]
def wsX10_graft : List Cond := .code yX10_graft cX10_graft 8 (some .int) :: ((wsX10_graft_r1 ++ wsX10_graft_r2) ++ wsX100)
def wsX10_isSame : List Cond := .code yX10_isSame cX10_isSame 5 (some .boolean) :: ([.fieldLink RX10 16 "LeafTreesModel" "size" "[I", .fieldLink RX10 13 "LeafTreesModel" "symbol" "[I"] ++ wsX100)
def wsX10_same_r1 : List Cond := [Cond.methodLink RX10 88 yX10_isTreeRow, Cond.instanceMethod yX10_isTreeRow, Cond.selects RX10 yX10_isTreeRow yX10_isTreeRow, Cond.initialized RX10, Cond.code yX10_isTreeRow cX10_isTreeRow 2 (some .boolean), Cond.methodLink RX10 63 yX10_isRow, Cond.static yX10_isRow, Cond.code yX10_isRow cX10_isRow 1 (some .boolean), Cond.methodLink RX10 51 yX10_in, Cond.static yX10_in, Cond.code yX10_in cX10_in 3 (some .boolean), Cond.methodLink RX10 79 yX10_isTree, Cond.instanceMethod yX10_isTree, Cond.selects RX10 yX10_isTree yX10_isTree, Cond.code yX10_isTree cX10_isTree 2 (some .boolean), Cond.fieldLink RX10 16 "LeafTreesModel" "size" "[I", Cond.methodLink RX10 75 yX10_end, Cond.instanceMethod yX10_end, Cond.selects RX10 yX10_end yX10_end, Cond.code yX10_end cX10_end 5 (some .int), Cond.fieldLink RX10 13 "LeafTreesModel" "symbol" "[I", Cond.methodLink RX10 71 yX10_wants, Cond.instanceMethod yX10_wants, Cond.selects RX10 yX10_wants yX10_wants]
def wsX10_same_r2 : List Cond := [Cond.code yX10_wants cX10_wants 2 (some .int), Cond.fieldLink RX10 7 "LeafTreesModel" "entries" "[I", Cond.methodLink RX10 98 yX10_isSame, Cond.instanceMethod yX10_isSame, Cond.selects RX10 yX10_isSame yX10_isSame, Cond.code yX10_isSame cX10_isSame 5 (some .boolean)]
def wsX10_same : List Cond := .code yX10_same cX10_same 3 (some .int) :: ((wsX10_same_r1 ++ wsX10_same_r2) ++ wsX100)
def wsX10_isLeft_r1 : List Cond := [Cond.fieldLink RX10 16 "LeafTreesModel" "size" "[I", Cond.methodLink RX10 88 yX10_isTreeRow, Cond.instanceMethod yX10_isTreeRow, Cond.selects RX10 yX10_isTreeRow yX10_isTreeRow, Cond.initialized RX10, Cond.code yX10_isTreeRow cX10_isTreeRow 2 (some .boolean), Cond.methodLink RX10 63 yX10_isRow, Cond.static yX10_isRow, Cond.code yX10_isRow cX10_isRow 1 (some .boolean), Cond.methodLink RX10 51 yX10_in, Cond.static yX10_in, Cond.code yX10_in cX10_in 3 (some .boolean), Cond.methodLink RX10 79 yX10_isTree, Cond.instanceMethod yX10_isTree, Cond.selects RX10 yX10_isTree yX10_isTree, Cond.code yX10_isTree cX10_isTree 2 (some .boolean), Cond.methodLink RX10 75 yX10_end, Cond.instanceMethod yX10_end, Cond.selects RX10 yX10_end yX10_end, Cond.code yX10_end cX10_end 5 (some .int), Cond.fieldLink RX10 13 "LeafTreesModel" "symbol" "[I", Cond.methodLink RX10 71 yX10_wants, Cond.instanceMethod yX10_wants, Cond.selects RX10 yX10_wants yX10_wants]
def wsX10_isLeft_r2 : List Cond := [Cond.code yX10_wants cX10_wants 2 (some .int), Cond.fieldLink RX10 7 "LeafTreesModel" "entries" "[I", Cond.methodLink RX10 82 yX10_leaves, Cond.instanceMethod yX10_leaves, Cond.selects RX10 yX10_leaves yX10_leaves, Cond.code yX10_leaves cX10_leaves 4 (some .int)]
def wsX10_isLeft : List Cond := .code yX10_isLeft cX10_isLeft 2 (some .boolean) :: ((wsX10_isLeft_r1 ++ wsX10_isLeft_r2) ++ wsX100)
def wsX10_comesRule : List Cond := .code yX10_comesRule cX10_comesRule 3 (some .int) :: ([.fieldLink RX10 102 "LeafTreesModel" "rules" "I", .fieldLink RX10 19 "LeafTreesModel" "isNought" "[Z", .fieldLink RX10 16 "LeafTreesModel" "size" "[I", .fieldLink RX10 59 "LeafTreesModel" "isCounted" "Z", .methodLink RX10 95 yX10_copy, .instanceMethod yX10_copy, .selects RX10 yX10_copy yX10_copy, .initialized RX10, .code yX10_copy cX10_copy 4 none, .fieldLink RX10 13 "LeafTreesModel" "symbol" "[I"] ++ wsX100)
def wsX10_rule_r1 : List Cond := [Cond.methodLink RX10 105 yX10_isLeft, Cond.instanceMethod yX10_isLeft, Cond.selects RX10 yX10_isLeft yX10_isLeft, Cond.initialized RX10, Cond.code yX10_isLeft cX10_isLeft 2 (some .boolean), Cond.fieldLink RX10 16 "LeafTreesModel" "size" "[I", Cond.methodLink RX10 88 yX10_isTreeRow, Cond.instanceMethod yX10_isTreeRow, Cond.selects RX10 yX10_isTreeRow yX10_isTreeRow, Cond.code yX10_isTreeRow cX10_isTreeRow 2 (some .boolean), Cond.methodLink RX10 63 yX10_isRow, Cond.static yX10_isRow, Cond.code yX10_isRow cX10_isRow 1 (some .boolean), Cond.methodLink RX10 51 yX10_in, Cond.static yX10_in, Cond.code yX10_in cX10_in 3 (some .boolean), Cond.methodLink RX10 79 yX10_isTree, Cond.instanceMethod yX10_isTree, Cond.selects RX10 yX10_isTree yX10_isTree, Cond.code yX10_isTree cX10_isTree 2 (some .boolean), Cond.methodLink RX10 75 yX10_end, Cond.instanceMethod yX10_end, Cond.selects RX10 yX10_end yX10_end, Cond.code yX10_end cX10_end 5 (some .int)]
def wsX10_rule_r2 : List Cond := [Cond.fieldLink RX10 13 "LeafTreesModel" "symbol" "[I", Cond.methodLink RX10 71 yX10_wants, Cond.instanceMethod yX10_wants, Cond.selects RX10 yX10_wants yX10_wants, Cond.code yX10_wants cX10_wants 2 (some .int), Cond.fieldLink RX10 7 "LeafTreesModel" "entries" "[I", Cond.methodLink RX10 82 yX10_leaves, Cond.instanceMethod yX10_leaves, Cond.selects RX10 yX10_leaves yX10_leaves, Cond.code yX10_leaves cX10_leaves 4 (some .int), Cond.methodLink RX10 108 yX10_comesRule, Cond.instanceMethod yX10_comesRule, Cond.selects RX10 yX10_comesRule yX10_comesRule, Cond.code yX10_comesRule cX10_comesRule 3 (some .int), Cond.fieldLink RX10 102 "LeafTreesModel" "rules" "I", Cond.fieldLink RX10 19 "LeafTreesModel" "isNought" "[Z", Cond.fieldLink RX10 59 "LeafTreesModel" "isCounted" "Z", Cond.methodLink RX10 95 yX10_copy, Cond.instanceMethod yX10_copy, Cond.selects RX10 yX10_copy yX10_copy, Cond.code yX10_copy cX10_copy 4 none]
def wsX10_rule : List Cond := .code yX10_rule cX10_rule 3 (some .int) :: ((wsX10_rule_r1 ++ wsX10_rule_r2) ++ wsX100)
def wsX10_nought_r1 : List Cond := [Cond.methodLink RX10 105 yX10_isLeft, Cond.instanceMethod yX10_isLeft, Cond.selects RX10 yX10_isLeft yX10_isLeft, Cond.initialized RX10, Cond.code yX10_isLeft cX10_isLeft 2 (some .boolean), Cond.fieldLink RX10 16 "LeafTreesModel" "size" "[I", Cond.methodLink RX10 88 yX10_isTreeRow, Cond.instanceMethod yX10_isTreeRow, Cond.selects RX10 yX10_isTreeRow yX10_isTreeRow, Cond.code yX10_isTreeRow cX10_isTreeRow 2 (some .boolean), Cond.methodLink RX10 63 yX10_isRow, Cond.static yX10_isRow, Cond.code yX10_isRow cX10_isRow 1 (some .boolean), Cond.methodLink RX10 51 yX10_in, Cond.static yX10_in, Cond.code yX10_in cX10_in 3 (some .boolean), Cond.methodLink RX10 79 yX10_isTree, Cond.instanceMethod yX10_isTree, Cond.selects RX10 yX10_isTree yX10_isTree, Cond.code yX10_isTree cX10_isTree 2 (some .boolean), Cond.methodLink RX10 75 yX10_end, Cond.instanceMethod yX10_end, Cond.selects RX10 yX10_end yX10_end, Cond.code yX10_end cX10_end 5 (some .int)]
def wsX10_nought_r2 : List Cond := [Cond.fieldLink RX10 13 "LeafTreesModel" "symbol" "[I", Cond.methodLink RX10 71 yX10_wants, Cond.instanceMethod yX10_wants, Cond.selects RX10 yX10_wants yX10_wants, Cond.code yX10_wants cX10_wants 2 (some .int), Cond.fieldLink RX10 7 "LeafTreesModel" "entries" "[I", Cond.methodLink RX10 82 yX10_leaves, Cond.instanceMethod yX10_leaves, Cond.selects RX10 yX10_leaves yX10_leaves, Cond.code yX10_leaves cX10_leaves 4 (some .int), Cond.methodLink RX10 108 yX10_comesRule, Cond.instanceMethod yX10_comesRule, Cond.selects RX10 yX10_comesRule yX10_comesRule, Cond.code yX10_comesRule cX10_comesRule 3 (some .int), Cond.fieldLink RX10 102 "LeafTreesModel" "rules" "I", Cond.fieldLink RX10 19 "LeafTreesModel" "isNought" "[Z", Cond.fieldLink RX10 59 "LeafTreesModel" "isCounted" "Z", Cond.methodLink RX10 95 yX10_copy, Cond.instanceMethod yX10_copy, Cond.selects RX10 yX10_copy yX10_copy, Cond.code yX10_copy cX10_copy 4 none]
def wsX10_nought : List Cond := .code yX10_nought cX10_nought 2 (some .int) :: ((wsX10_nought_r1 ++ wsX10_nought_r2) ++ wsX100)
def wsX10_unrule : List Cond := .code yX10_unrule cX10_unrule 2 (some .int) :: ([.fieldLink RX10 102 "LeafTreesModel" "rules" "I", .fieldLink RX10 59 "LeafTreesModel" "isCounted" "Z"] ++ wsX100)
def wsX10_isRule : List Cond := .code yX10_isRule cX10_isRule 2 (some .boolean) :: ([.fieldLink RX10 102 "LeafTreesModel" "rules" "I", .methodLink RX10 51 yX10_in, .static yX10_in, .initialized RX10, .code yX10_in cX10_in 3 (some .boolean)] ++ wsX100)
def wsX10_side : List Cond := .code yX10_side cX10_side 4 (some .int) :: ([.fieldLink RX10 16 "LeafTreesModel" "size" "[I", .methodLink RX10 111 yX10_isRule, .instanceMethod yX10_isRule, .selects RX10 yX10_isRule yX10_isRule, .initialized RX10, .code yX10_isRule cX10_isRule 2 (some .boolean), .fieldLink RX10 102 "LeafTreesModel" "rules" "I", .methodLink RX10 51 yX10_in, .static yX10_in, .code yX10_in cX10_in 3 (some .boolean), .methodLink RX10 63 yX10_isRow, .static yX10_isRow, .code yX10_isRow cX10_isRow 1 (some .boolean), .methodLink RX10 95 yX10_copy, .instanceMethod yX10_copy, .selects RX10 yX10_copy yX10_copy, .code yX10_copy cX10_copy 4 none, .fieldLink RX10 13 "LeafTreesModel" "symbol" "[I"] ++ wsX100)
def wsX10_lies : List Cond := .code yX10_lies cX10_lies 9 (some .boolean) :: ([.fieldLink RX10 114 "LeafTreesModel" "matched" "I", .fieldLink RX10 16 "LeafTreesModel" "size" "[I", .fieldLink RX10 13 "LeafTreesModel" "symbol" "[I", .fieldLink RX10 30 "LeafTreesModel" "matchFrom" "[I", .fieldLink RX10 33 "LeafTreesModel" "matchTo" "[I", .fieldLink RX10 117 "LeafTreesModel" "matchEnd" "I", .methodLink RX10 75 yX10_end, .instanceMethod yX10_end, .selects RX10 yX10_end yX10_end, .initialized RX10, .code yX10_end cX10_end 5 (some .int), .methodLink RX10 71 yX10_wants, .instanceMethod yX10_wants, .selects RX10 yX10_wants yX10_wants, .code yX10_wants cX10_wants 2 (some .int), .fieldLink RX10 7 "LeafTreesModel" "entries" "[I"] ++ wsX100)
def wsX10_firstPlace : List Cond := .code yX10_firstPlace cX10_firstPlace 4 (some .int) :: ([.fieldLink RX10 16 "LeafTreesModel" "size" "[I", .methodLink RX10 120 yX10_lies, .instanceMethod yX10_lies, .selects RX10 yX10_lies yX10_lies, .initialized RX10, .code yX10_lies cX10_lies 9 (some .boolean), .fieldLink RX10 114 "LeafTreesModel" "matched" "I", .fieldLink RX10 13 "LeafTreesModel" "symbol" "[I", .fieldLink RX10 30 "LeafTreesModel" "matchFrom" "[I", .fieldLink RX10 33 "LeafTreesModel" "matchTo" "[I", .fieldLink RX10 117 "LeafTreesModel" "matchEnd" "I", .methodLink RX10 75 yX10_end, .instanceMethod yX10_end, .selects RX10 yX10_end yX10_end, .code yX10_end cX10_end 5 (some .int), .methodLink RX10 71 yX10_wants, .instanceMethod yX10_wants, .selects RX10 yX10_wants yX10_wants, .code yX10_wants cX10_wants 2 (some .int), .fieldLink RX10 7 "LeafTreesModel" "entries" "[I"] ++ wsX100)
def wsX10_matches_r1 : List Cond := [Cond.methodLink RX10 111 yX10_isRule, Cond.instanceMethod yX10_isRule, Cond.selects RX10 yX10_isRule yX10_isRule, Cond.initialized RX10, Cond.code yX10_isRule cX10_isRule 2 (some .boolean), Cond.fieldLink RX10 102 "LeafTreesModel" "rules" "I", Cond.methodLink RX10 51 yX10_in, Cond.static yX10_in, Cond.code yX10_in cX10_in 3 (some .boolean), Cond.methodLink RX10 88 yX10_isTreeRow, Cond.instanceMethod yX10_isTreeRow, Cond.selects RX10 yX10_isTreeRow yX10_isTreeRow, Cond.code yX10_isTreeRow cX10_isTreeRow 2 (some .boolean), Cond.methodLink RX10 63 yX10_isRow, Cond.static yX10_isRow, Cond.code yX10_isRow cX10_isRow 1 (some .boolean), Cond.methodLink RX10 79 yX10_isTree, Cond.instanceMethod yX10_isTree, Cond.selects RX10 yX10_isTree yX10_isTree, Cond.code yX10_isTree cX10_isTree 2 (some .boolean), Cond.fieldLink RX10 16 "LeafTreesModel" "size" "[I", Cond.methodLink RX10 75 yX10_end, Cond.instanceMethod yX10_end, Cond.selects RX10 yX10_end yX10_end]
def wsX10_matches_r2 : List Cond := [Cond.code yX10_end cX10_end 5 (some .int), Cond.fieldLink RX10 13 "LeafTreesModel" "symbol" "[I", Cond.methodLink RX10 71 yX10_wants, Cond.instanceMethod yX10_wants, Cond.selects RX10 yX10_wants yX10_wants, Cond.code yX10_wants cX10_wants 2 (some .int), Cond.fieldLink RX10 7 "LeafTreesModel" "entries" "[I", Cond.methodLink RX10 123 yX10_firstPlace, Cond.instanceMethod yX10_firstPlace, Cond.selects RX10 yX10_firstPlace yX10_firstPlace, Cond.code yX10_firstPlace cX10_firstPlace 4 (some .int), Cond.methodLink RX10 120 yX10_lies, Cond.instanceMethod yX10_lies, Cond.selects RX10 yX10_lies yX10_lies, Cond.code yX10_lies cX10_lies 9 (some .boolean), Cond.fieldLink RX10 114 "LeafTreesModel" "matched" "I", Cond.fieldLink RX10 30 "LeafTreesModel" "matchFrom" "[I", Cond.fieldLink RX10 33 "LeafTreesModel" "matchTo" "[I", Cond.fieldLink RX10 117 "LeafTreesModel" "matchEnd" "I"]
def wsX10_matches : List Cond := .code yX10_matches cX10_matches 3 (some .int) :: ((wsX10_matches_r1 ++ wsX10_matches_r2) ++ wsX100)
def wsX10_uses : List Cond := .code yX10_uses cX10_uses 8 (some .int) :: ([.fieldLink RX10 19 "LeafTreesModel" "isNought" "[Z", .fieldLink RX10 16 "LeafTreesModel" "size" "[I", .fieldLink RX10 13 "LeafTreesModel" "symbol" "[I", .fieldLink RX10 30 "LeafTreesModel" "matchFrom" "[I", .fieldLink RX10 33 "LeafTreesModel" "matchTo" "[I", .fieldLink RX10 117 "LeafTreesModel" "matchEnd" "I", .methodLink RX10 91 yX10_adds, .instanceMethod yX10_adds, .selects RX10 yX10_adds yX10_adds, .initialized RX10, .code yX10_adds cX10_adds 6 (some .boolean), .methodLink RX10 67 yX10_comes, .instanceMethod yX10_comes, .selects RX10 yX10_comes yX10_comes, .code yX10_comes cX10_comes 3 none, .methodLink RX10 95 yX10_copy, .instanceMethod yX10_copy, .selects RX10 yX10_copy yX10_copy, .code yX10_copy cX10_copy 4 none] ++ wsX100)
def wsX10_steps_r1 : List Cond := [Cond.fieldLink RX10 16 "LeafTreesModel" "size" "[I", Cond.fieldLink RX10 102 "LeafTreesModel" "rules" "I", Cond.methodLink RX10 120 yX10_lies, Cond.instanceMethod yX10_lies, Cond.selects RX10 yX10_lies yX10_lies, Cond.initialized RX10, Cond.code yX10_lies cX10_lies 9 (some .boolean), Cond.fieldLink RX10 114 "LeafTreesModel" "matched" "I", Cond.fieldLink RX10 13 "LeafTreesModel" "symbol" "[I", Cond.fieldLink RX10 30 "LeafTreesModel" "matchFrom" "[I", Cond.fieldLink RX10 33 "LeafTreesModel" "matchTo" "[I", Cond.fieldLink RX10 117 "LeafTreesModel" "matchEnd" "I", Cond.methodLink RX10 75 yX10_end, Cond.instanceMethod yX10_end, Cond.selects RX10 yX10_end yX10_end, Cond.code yX10_end cX10_end 5 (some .int), Cond.methodLink RX10 71 yX10_wants, Cond.instanceMethod yX10_wants, Cond.selects RX10 yX10_wants yX10_wants, Cond.code yX10_wants cX10_wants 2 (some .int), Cond.fieldLink RX10 7 "LeafTreesModel" "entries" "[I", Cond.methodLink RX10 126 yX10_uses, Cond.instanceMethod yX10_uses, Cond.selects RX10 yX10_uses yX10_uses]
def wsX10_steps_r2 : List Cond := [Cond.code yX10_uses cX10_uses 8 (some .int), Cond.fieldLink RX10 19 "LeafTreesModel" "isNought" "[Z", Cond.methodLink RX10 91 yX10_adds, Cond.instanceMethod yX10_adds, Cond.selects RX10 yX10_adds yX10_adds, Cond.code yX10_adds cX10_adds 6 (some .boolean), Cond.methodLink RX10 67 yX10_comes, Cond.instanceMethod yX10_comes, Cond.selects RX10 yX10_comes yX10_comes, Cond.code yX10_comes cX10_comes 3 none, Cond.methodLink RX10 95 yX10_copy, Cond.instanceMethod yX10_copy, Cond.selects RX10 yX10_copy yX10_copy, Cond.code yX10_copy cX10_copy 4 none]
def wsX10_steps : List Cond := .code yX10_steps cX10_steps 4 (some .int) :: ((wsX10_steps_r1 ++ wsX10_steps_r2) ++ wsX100)
def wsX10_step_r1 : List Cond := [Cond.methodLink RX10 88 yX10_isTreeRow, Cond.instanceMethod yX10_isTreeRow, Cond.selects RX10 yX10_isTreeRow yX10_isTreeRow, Cond.initialized RX10, Cond.code yX10_isTreeRow cX10_isTreeRow 2 (some .boolean), Cond.methodLink RX10 63 yX10_isRow, Cond.static yX10_isRow, Cond.code yX10_isRow cX10_isRow 1 (some .boolean), Cond.methodLink RX10 51 yX10_in, Cond.static yX10_in, Cond.code yX10_in cX10_in 3 (some .boolean), Cond.methodLink RX10 79 yX10_isTree, Cond.instanceMethod yX10_isTree, Cond.selects RX10 yX10_isTree yX10_isTree, Cond.code yX10_isTree cX10_isTree 2 (some .boolean), Cond.fieldLink RX10 16 "LeafTreesModel" "size" "[I", Cond.methodLink RX10 75 yX10_end, Cond.instanceMethod yX10_end, Cond.selects RX10 yX10_end yX10_end, Cond.code yX10_end cX10_end 5 (some .int), Cond.fieldLink RX10 13 "LeafTreesModel" "symbol" "[I", Cond.methodLink RX10 71 yX10_wants, Cond.instanceMethod yX10_wants, Cond.selects RX10 yX10_wants yX10_wants]
def wsX10_step_r2 : List Cond := [Cond.code yX10_wants cX10_wants 2 (some .int), Cond.fieldLink RX10 7 "LeafTreesModel" "entries" "[I", Cond.methodLink RX10 130 yX10_steps, Cond.instanceMethod yX10_steps, Cond.selects RX10 yX10_steps yX10_steps, Cond.code yX10_steps cX10_steps 4 (some .int), Cond.fieldLink RX10 102 "LeafTreesModel" "rules" "I", Cond.methodLink RX10 120 yX10_lies, Cond.instanceMethod yX10_lies, Cond.selects RX10 yX10_lies yX10_lies, Cond.code yX10_lies cX10_lies 9 (some .boolean), Cond.fieldLink RX10 114 "LeafTreesModel" "matched" "I", Cond.fieldLink RX10 30 "LeafTreesModel" "matchFrom" "[I", Cond.fieldLink RX10 33 "LeafTreesModel" "matchTo" "[I", Cond.fieldLink RX10 117 "LeafTreesModel" "matchEnd" "I", Cond.methodLink RX10 126 yX10_uses, Cond.instanceMethod yX10_uses, Cond.selects RX10 yX10_uses yX10_uses, Cond.code yX10_uses cX10_uses 8 (some .int), Cond.fieldLink RX10 19 "LeafTreesModel" "isNought" "[Z", Cond.methodLink RX10 91 yX10_adds, Cond.instanceMethod yX10_adds, Cond.selects RX10 yX10_adds yX10_adds, Cond.code yX10_adds cX10_adds 6 (some .boolean)]
def wsX10_step_r3 : List Cond := [Cond.methodLink RX10 67 yX10_comes, Cond.instanceMethod yX10_comes, Cond.selects RX10 yX10_comes yX10_comes, Cond.code yX10_comes cX10_comes 3 none, Cond.methodLink RX10 95 yX10_copy, Cond.instanceMethod yX10_copy, Cond.selects RX10 yX10_copy yX10_copy, Cond.code yX10_copy cX10_copy 4 none]
def wsX10_step : List Cond := .code yX10_step cX10_step 2 (some .int) :: ((wsX10_step_r1 ++ (wsX10_step_r2 ++ wsX10_step_r3)) ++ wsX100)
def wsX10_normals_r1 : List Cond := [Cond.methodLink RX10 130 yX10_steps, Cond.instanceMethod yX10_steps, Cond.selects RX10 yX10_steps yX10_steps, Cond.initialized RX10, Cond.code yX10_steps cX10_steps 4 (some .int), Cond.fieldLink RX10 16 "LeafTreesModel" "size" "[I", Cond.fieldLink RX10 102 "LeafTreesModel" "rules" "I", Cond.methodLink RX10 120 yX10_lies, Cond.instanceMethod yX10_lies, Cond.selects RX10 yX10_lies yX10_lies, Cond.code yX10_lies cX10_lies 9 (some .boolean), Cond.fieldLink RX10 114 "LeafTreesModel" "matched" "I", Cond.fieldLink RX10 13 "LeafTreesModel" "symbol" "[I", Cond.fieldLink RX10 30 "LeafTreesModel" "matchFrom" "[I", Cond.fieldLink RX10 33 "LeafTreesModel" "matchTo" "[I", Cond.fieldLink RX10 117 "LeafTreesModel" "matchEnd" "I", Cond.methodLink RX10 75 yX10_end, Cond.instanceMethod yX10_end, Cond.selects RX10 yX10_end yX10_end, Cond.code yX10_end cX10_end 5 (some .int), Cond.methodLink RX10 71 yX10_wants, Cond.instanceMethod yX10_wants, Cond.selects RX10 yX10_wants yX10_wants, Cond.code yX10_wants cX10_wants 2 (some .int)]
def wsX10_normals_r2 : List Cond := [Cond.fieldLink RX10 7 "LeafTreesModel" "entries" "[I", Cond.methodLink RX10 126 yX10_uses, Cond.instanceMethod yX10_uses, Cond.selects RX10 yX10_uses yX10_uses, Cond.code yX10_uses cX10_uses 8 (some .int), Cond.fieldLink RX10 19 "LeafTreesModel" "isNought" "[Z", Cond.methodLink RX10 91 yX10_adds, Cond.instanceMethod yX10_adds, Cond.selects RX10 yX10_adds yX10_adds, Cond.code yX10_adds cX10_adds 6 (some .boolean), Cond.methodLink RX10 67 yX10_comes, Cond.instanceMethod yX10_comes, Cond.selects RX10 yX10_comes yX10_comes, Cond.code yX10_comes cX10_comes 3 none, Cond.methodLink RX10 95 yX10_copy, Cond.instanceMethod yX10_copy, Cond.selects RX10 yX10_copy yX10_copy, Cond.code yX10_copy cX10_copy 4 none]
def wsX10_normals : List Cond := .code yX10_normals cX10_normals 4 (some .int) :: ((wsX10_normals_r1 ++ wsX10_normals_r2) ++ wsX100)
def wsX10_normal_r1 : List Cond := [Cond.methodLink RX10 88 yX10_isTreeRow, Cond.instanceMethod yX10_isTreeRow, Cond.selects RX10 yX10_isTreeRow yX10_isTreeRow, Cond.initialized RX10, Cond.code yX10_isTreeRow cX10_isTreeRow 2 (some .boolean), Cond.methodLink RX10 63 yX10_isRow, Cond.static yX10_isRow, Cond.code yX10_isRow cX10_isRow 1 (some .boolean), Cond.methodLink RX10 51 yX10_in, Cond.static yX10_in, Cond.code yX10_in cX10_in 3 (some .boolean), Cond.methodLink RX10 79 yX10_isTree, Cond.instanceMethod yX10_isTree, Cond.selects RX10 yX10_isTree yX10_isTree, Cond.code yX10_isTree cX10_isTree 2 (some .boolean), Cond.fieldLink RX10 16 "LeafTreesModel" "size" "[I", Cond.methodLink RX10 75 yX10_end, Cond.instanceMethod yX10_end, Cond.selects RX10 yX10_end yX10_end, Cond.code yX10_end cX10_end 5 (some .int), Cond.fieldLink RX10 13 "LeafTreesModel" "symbol" "[I", Cond.methodLink RX10 71 yX10_wants, Cond.instanceMethod yX10_wants, Cond.selects RX10 yX10_wants yX10_wants]
def wsX10_normal_r2 : List Cond := [Cond.code yX10_wants cX10_wants 2 (some .int), Cond.fieldLink RX10 7 "LeafTreesModel" "entries" "[I", Cond.methodLink RX10 95 yX10_copy, Cond.instanceMethod yX10_copy, Cond.selects RX10 yX10_copy yX10_copy, Cond.code yX10_copy cX10_copy 4 none, Cond.methodLink RX10 133 yX10_normals, Cond.instanceMethod yX10_normals, Cond.selects RX10 yX10_normals yX10_normals, Cond.code yX10_normals cX10_normals 4 (some .int), Cond.methodLink RX10 130 yX10_steps, Cond.instanceMethod yX10_steps, Cond.selects RX10 yX10_steps yX10_steps, Cond.code yX10_steps cX10_steps 4 (some .int), Cond.fieldLink RX10 102 "LeafTreesModel" "rules" "I", Cond.methodLink RX10 120 yX10_lies, Cond.instanceMethod yX10_lies, Cond.selects RX10 yX10_lies yX10_lies, Cond.code yX10_lies cX10_lies 9 (some .boolean), Cond.fieldLink RX10 114 "LeafTreesModel" "matched" "I", Cond.fieldLink RX10 30 "LeafTreesModel" "matchFrom" "[I", Cond.fieldLink RX10 33 "LeafTreesModel" "matchTo" "[I", Cond.fieldLink RX10 117 "LeafTreesModel" "matchEnd" "I", Cond.methodLink RX10 126 yX10_uses]
def wsX10_normal_r3 : List Cond := [Cond.instanceMethod yX10_uses, Cond.selects RX10 yX10_uses yX10_uses, Cond.code yX10_uses cX10_uses 8 (some .int), Cond.fieldLink RX10 19 "LeafTreesModel" "isNought" "[Z", Cond.methodLink RX10 91 yX10_adds, Cond.instanceMethod yX10_adds, Cond.selects RX10 yX10_adds yX10_adds, Cond.code yX10_adds cX10_adds 6 (some .boolean), Cond.methodLink RX10 67 yX10_comes, Cond.instanceMethod yX10_comes, Cond.selects RX10 yX10_comes yX10_comes, Cond.code yX10_comes cX10_comes 3 none]
def wsX10_normal : List Cond := .code yX10_normal cX10_normal 3 (some .int) :: ((wsX10_normal_r1 ++ (wsX10_normal_r2 ++ wsX10_normal_r3)) ++ wsX100)
def wsX10_isBarred : List Cond := .code yX10_isBarred cX10_isBarred 3 (some .boolean) :: ([.fieldLink RX10 16 "LeafTreesModel" "size" "[I", .fieldLink RX10 102 "LeafTreesModel" "rules" "I", .methodLink RX10 120 yX10_lies, .instanceMethod yX10_lies, .selects RX10 yX10_lies yX10_lies, .initialized RX10, .code yX10_lies cX10_lies 9 (some .boolean), .fieldLink RX10 114 "LeafTreesModel" "matched" "I", .fieldLink RX10 13 "LeafTreesModel" "symbol" "[I", .fieldLink RX10 30 "LeafTreesModel" "matchFrom" "[I", .fieldLink RX10 33 "LeafTreesModel" "matchTo" "[I", .fieldLink RX10 117 "LeafTreesModel" "matchEnd" "I", .methodLink RX10 75 yX10_end, .instanceMethod yX10_end, .selects RX10 yX10_end yX10_end, .code yX10_end cX10_end 5 (some .int), .methodLink RX10 71 yX10_wants, .instanceMethod yX10_wants, .selects RX10 yX10_wants yX10_wants, .code yX10_wants cX10_wants 2 (some .int), .fieldLink RX10 7 "LeafTreesModel" "entries" "[I"] ++ wsX100)
def wsX10_goesOn : List Cond := .code yX10_goesOn cX10_goesOn 2 (some .boolean) :: ([.fieldLink RX10 16 "LeafTreesModel" "size" "[I", .fieldLink RX10 13 "LeafTreesModel" "symbol" "[I", .fieldLink RX10 55 "LeafTreesModel" "acts" "I"] ++ wsX100)
def wsX10_wantedYet : List Cond := .code yX10_wantedYet cX10_wantedYet 3 (some .int) :: ([.fieldLink RX10 16 "LeafTreesModel" "size" "[I", .fieldLink RX10 13 "LeafTreesModel" "symbol" "[I", .methodLink RX10 71 yX10_wants, .instanceMethod yX10_wants, .selects RX10 yX10_wants yX10_wants, .initialized RX10, .code yX10_wants cX10_wants 2 (some .int), .fieldLink RX10 7 "LeafTreesModel" "entries" "[I"] ++ wsX100)
def wsX10_countOf_r1 : List Cond := [Cond.fieldLink RX10 16 "LeafTreesModel" "size" "[I", Cond.methodLink RX10 67 yX10_comes, Cond.instanceMethod yX10_comes, Cond.selects RX10 yX10_comes yX10_comes, Cond.initialized RX10, Cond.code yX10_comes cX10_comes 3 none, Cond.fieldLink RX10 13 "LeafTreesModel" "symbol" "[I", Cond.methodLink RX10 136 yX10_wantedYet, Cond.instanceMethod yX10_wantedYet, Cond.selects RX10 yX10_wantedYet yX10_wantedYet, Cond.code yX10_wantedYet cX10_wantedYet 3 (some .int), Cond.methodLink RX10 71 yX10_wants, Cond.instanceMethod yX10_wants, Cond.selects RX10 yX10_wants yX10_wants, Cond.code yX10_wants cX10_wants 2 (some .int), Cond.fieldLink RX10 7 "LeafTreesModel" "entries" "[I", Cond.methodLink RX10 82 yX10_leaves, Cond.instanceMethod yX10_leaves, Cond.selects RX10 yX10_leaves yX10_leaves, Cond.code yX10_leaves cX10_leaves 4 (some .int), Cond.methodLink RX10 140 yX10_isBarred, Cond.instanceMethod yX10_isBarred, Cond.selects RX10 yX10_isBarred yX10_isBarred, Cond.code yX10_isBarred cX10_isBarred 3 (some .boolean)]
def wsX10_countOf_r2 : List Cond := [Cond.fieldLink RX10 102 "LeafTreesModel" "rules" "I", Cond.methodLink RX10 120 yX10_lies, Cond.instanceMethod yX10_lies, Cond.selects RX10 yX10_lies yX10_lies, Cond.code yX10_lies cX10_lies 9 (some .boolean), Cond.fieldLink RX10 114 "LeafTreesModel" "matched" "I", Cond.fieldLink RX10 30 "LeafTreesModel" "matchFrom" "[I", Cond.fieldLink RX10 33 "LeafTreesModel" "matchTo" "[I", Cond.fieldLink RX10 117 "LeafTreesModel" "matchEnd" "I", Cond.methodLink RX10 75 yX10_end, Cond.instanceMethod yX10_end, Cond.selects RX10 yX10_end yX10_end, Cond.code yX10_end cX10_end 5 (some .int), Cond.methodLink RX10 144 yX10_goesOn, Cond.instanceMethod yX10_goesOn, Cond.selects RX10 yX10_goesOn yX10_goesOn, Cond.code yX10_goesOn cX10_goesOn 2 (some .boolean), Cond.fieldLink RX10 55 "LeafTreesModel" "acts" "I"]
def wsX10_countOf : List Cond := .code yX10_countOf cX10_countOf 7 (some .long) :: ((wsX10_countOf_r1 ++ wsX10_countOf_r2) ++ wsX100)
def wsX10_counts_r1 : List Cond := [Cond.fieldLink RX10 59 "LeafTreesModel" "isCounted" "Z", Cond.fieldLink RX10 23 "LeafTreesModel" "counted" "[J", Cond.methodLink RX10 147 yX10_countOf, Cond.instanceMethod yX10_countOf, Cond.selects RX10 yX10_countOf yX10_countOf, Cond.initialized RX10, Cond.code yX10_countOf cX10_countOf 7 (some .long), Cond.fieldLink RX10 16 "LeafTreesModel" "size" "[I", Cond.methodLink RX10 67 yX10_comes, Cond.instanceMethod yX10_comes, Cond.selects RX10 yX10_comes yX10_comes, Cond.code yX10_comes cX10_comes 3 none, Cond.fieldLink RX10 13 "LeafTreesModel" "symbol" "[I", Cond.methodLink RX10 136 yX10_wantedYet, Cond.instanceMethod yX10_wantedYet, Cond.selects RX10 yX10_wantedYet yX10_wantedYet, Cond.code yX10_wantedYet cX10_wantedYet 3 (some .int), Cond.methodLink RX10 71 yX10_wants, Cond.instanceMethod yX10_wants, Cond.selects RX10 yX10_wants yX10_wants, Cond.code yX10_wants cX10_wants 2 (some .int), Cond.fieldLink RX10 7 "LeafTreesModel" "entries" "[I", Cond.methodLink RX10 82 yX10_leaves, Cond.instanceMethod yX10_leaves]
def wsX10_counts_r2 : List Cond := [Cond.selects RX10 yX10_leaves yX10_leaves, Cond.code yX10_leaves cX10_leaves 4 (some .int), Cond.methodLink RX10 140 yX10_isBarred, Cond.instanceMethod yX10_isBarred, Cond.selects RX10 yX10_isBarred yX10_isBarred, Cond.code yX10_isBarred cX10_isBarred 3 (some .boolean), Cond.fieldLink RX10 102 "LeafTreesModel" "rules" "I", Cond.methodLink RX10 120 yX10_lies, Cond.instanceMethod yX10_lies, Cond.selects RX10 yX10_lies yX10_lies, Cond.code yX10_lies cX10_lies 9 (some .boolean), Cond.fieldLink RX10 114 "LeafTreesModel" "matched" "I", Cond.fieldLink RX10 30 "LeafTreesModel" "matchFrom" "[I", Cond.fieldLink RX10 33 "LeafTreesModel" "matchTo" "[I", Cond.fieldLink RX10 117 "LeafTreesModel" "matchEnd" "I", Cond.methodLink RX10 75 yX10_end, Cond.instanceMethod yX10_end, Cond.selects RX10 yX10_end yX10_end, Cond.code yX10_end cX10_end 5 (some .int), Cond.methodLink RX10 144 yX10_goesOn, Cond.instanceMethod yX10_goesOn, Cond.selects RX10 yX10_goesOn yX10_goesOn, Cond.code yX10_goesOn cX10_goesOn 2 (some .boolean), Cond.fieldLink RX10 55 "LeafTreesModel" "acts" "I"]
def wsX10_counts : List Cond := .code yX10_counts cX10_counts 2 none :: ((wsX10_counts_r1 ++ wsX10_counts_r2) ++ wsX100)
def wsX10_howMany_r1 : List Cond := [Cond.constantLong RX10 151 (-2), Cond.fieldLink RX10 23 "LeafTreesModel" "counted" "[J", Cond.methodLink RX10 51 yX10_in, Cond.static yX10_in, Cond.initialized RX10, Cond.code yX10_in cX10_in 3 (some .boolean), Cond.methodLink RX10 153 yX10_counts, Cond.instanceMethod yX10_counts, Cond.selects RX10 yX10_counts yX10_counts, Cond.code yX10_counts cX10_counts 2 none, Cond.fieldLink RX10 59 "LeafTreesModel" "isCounted" "Z", Cond.methodLink RX10 147 yX10_countOf, Cond.instanceMethod yX10_countOf, Cond.selects RX10 yX10_countOf yX10_countOf, Cond.code yX10_countOf cX10_countOf 7 (some .long), Cond.fieldLink RX10 16 "LeafTreesModel" "size" "[I", Cond.methodLink RX10 67 yX10_comes, Cond.instanceMethod yX10_comes, Cond.selects RX10 yX10_comes yX10_comes, Cond.code yX10_comes cX10_comes 3 none, Cond.fieldLink RX10 13 "LeafTreesModel" "symbol" "[I", Cond.methodLink RX10 136 yX10_wantedYet, Cond.instanceMethod yX10_wantedYet, Cond.selects RX10 yX10_wantedYet yX10_wantedYet]
def wsX10_howMany_r2 : List Cond := [Cond.code yX10_wantedYet cX10_wantedYet 3 (some .int), Cond.methodLink RX10 71 yX10_wants, Cond.instanceMethod yX10_wants, Cond.selects RX10 yX10_wants yX10_wants, Cond.code yX10_wants cX10_wants 2 (some .int), Cond.fieldLink RX10 7 "LeafTreesModel" "entries" "[I", Cond.methodLink RX10 82 yX10_leaves, Cond.instanceMethod yX10_leaves, Cond.selects RX10 yX10_leaves yX10_leaves, Cond.code yX10_leaves cX10_leaves 4 (some .int), Cond.methodLink RX10 140 yX10_isBarred, Cond.instanceMethod yX10_isBarred, Cond.selects RX10 yX10_isBarred yX10_isBarred, Cond.code yX10_isBarred cX10_isBarred 3 (some .boolean), Cond.fieldLink RX10 102 "LeafTreesModel" "rules" "I", Cond.methodLink RX10 120 yX10_lies, Cond.instanceMethod yX10_lies, Cond.selects RX10 yX10_lies yX10_lies, Cond.code yX10_lies cX10_lies 9 (some .boolean), Cond.fieldLink RX10 114 "LeafTreesModel" "matched" "I", Cond.fieldLink RX10 30 "LeafTreesModel" "matchFrom" "[I", Cond.fieldLink RX10 33 "LeafTreesModel" "matchTo" "[I", Cond.fieldLink RX10 117 "LeafTreesModel" "matchEnd" "I", Cond.methodLink RX10 75 yX10_end]
def wsX10_howMany_r3 : List Cond := [Cond.instanceMethod yX10_end, Cond.selects RX10 yX10_end yX10_end, Cond.code yX10_end cX10_end 5 (some .int), Cond.methodLink RX10 144 yX10_goesOn, Cond.instanceMethod yX10_goesOn, Cond.selects RX10 yX10_goesOn yX10_goesOn, Cond.code yX10_goesOn cX10_goesOn 2 (some .boolean), Cond.fieldLink RX10 55 "LeafTreesModel" "acts" "I"]
def wsX10_howMany : List Cond := .code yX10_howMany cX10_howMany 2 (some .long) :: ((wsX10_howMany_r1 ++ (wsX10_howMany_r2 ++ wsX10_howMany_r3)) ++ wsX100)
def wsX10_meetsAt : List Cond := .code yX10_meetsAt cX10_meetsAt 12 (some .boolean) :: ([.fieldLink RX10 16 "LeafTreesModel" "size" "[I", .fieldLink RX10 13 "LeafTreesModel" "symbol" "[I", .methodLink RX10 91 yX10_adds, .instanceMethod yX10_adds, .selects RX10 yX10_adds yX10_adds, .initialized RX10, .code yX10_adds cX10_adds 6 (some .boolean), .methodLink RX10 67 yX10_comes, .instanceMethod yX10_comes, .selects RX10 yX10_comes yX10_comes, .code yX10_comes cX10_comes 3 none, .methodLink RX10 75 yX10_end, .instanceMethod yX10_end, .selects RX10 yX10_end yX10_end, .code yX10_end cX10_end 5 (some .int), .methodLink RX10 71 yX10_wants, .instanceMethod yX10_wants, .selects RX10 yX10_wants yX10_wants, .code yX10_wants cX10_wants 2 (some .int), .fieldLink RX10 7 "LeafTreesModel" "entries" "[I"] ++ wsX100)
def wsX10_goesTo_r1 : List Cond := [Cond.fieldLink RX10 102 "LeafTreesModel" "rules" "I", Cond.fieldLink RX10 16 "LeafTreesModel" "size" "[I", Cond.fieldLink RX10 13 "LeafTreesModel" "symbol" "[I", Cond.fieldLink RX10 159 "LeafTreesModel" "overlapP" "I", Cond.fieldLink RX10 162 "LeafTreesModel" "overlapQ" "I", Cond.fieldLink RX10 165 "LeafTreesModel" "overlapU" "I", Cond.methodLink RX10 156 yX10_meetsAt, Cond.instanceMethod yX10_meetsAt, Cond.selects RX10 yX10_meetsAt yX10_meetsAt, Cond.initialized RX10, Cond.code yX10_meetsAt cX10_meetsAt 12 (some .boolean), Cond.methodLink RX10 91 yX10_adds, Cond.instanceMethod yX10_adds, Cond.selects RX10 yX10_adds yX10_adds, Cond.code yX10_adds cX10_adds 6 (some .boolean), Cond.methodLink RX10 67 yX10_comes, Cond.instanceMethod yX10_comes, Cond.selects RX10 yX10_comes yX10_comes, Cond.code yX10_comes cX10_comes 3 none, Cond.methodLink RX10 75 yX10_end, Cond.instanceMethod yX10_end, Cond.selects RX10 yX10_end yX10_end, Cond.code yX10_end cX10_end 5 (some .int), Cond.methodLink RX10 71 yX10_wants]
def wsX10_goesTo_r2 : List Cond := [Cond.instanceMethod yX10_wants, Cond.selects RX10 yX10_wants yX10_wants, Cond.code yX10_wants cX10_wants 2 (some .int), Cond.fieldLink RX10 7 "LeafTreesModel" "entries" "[I"]
def wsX10_goesTo : List Cond := .code yX10_goesTo cX10_goesTo 6 (some .int) :: ((wsX10_goesTo_r1 ++ wsX10_goesTo_r2) ++ wsX100)
def wsX10_overlaps_r1 : List Cond := [Cond.constant RX10 168 (100000), Cond.methodLink RX10 169 yX10_goesTo, Cond.instanceMethod yX10_goesTo, Cond.selects RX10 yX10_goesTo yX10_goesTo, Cond.initialized RX10, Cond.code yX10_goesTo cX10_goesTo 6 (some .int), Cond.fieldLink RX10 102 "LeafTreesModel" "rules" "I", Cond.fieldLink RX10 16 "LeafTreesModel" "size" "[I", Cond.fieldLink RX10 13 "LeafTreesModel" "symbol" "[I", Cond.fieldLink RX10 159 "LeafTreesModel" "overlapP" "I", Cond.fieldLink RX10 162 "LeafTreesModel" "overlapQ" "I", Cond.fieldLink RX10 165 "LeafTreesModel" "overlapU" "I", Cond.methodLink RX10 156 yX10_meetsAt, Cond.instanceMethod yX10_meetsAt, Cond.selects RX10 yX10_meetsAt yX10_meetsAt, Cond.code yX10_meetsAt cX10_meetsAt 12 (some .boolean), Cond.methodLink RX10 91 yX10_adds, Cond.instanceMethod yX10_adds, Cond.selects RX10 yX10_adds yX10_adds, Cond.code yX10_adds cX10_adds 6 (some .boolean), Cond.methodLink RX10 67 yX10_comes, Cond.instanceMethod yX10_comes, Cond.selects RX10 yX10_comes yX10_comes, Cond.code yX10_comes cX10_comes 3 none]
def wsX10_overlaps_r2 : List Cond := [Cond.methodLink RX10 75 yX10_end, Cond.instanceMethod yX10_end, Cond.selects RX10 yX10_end yX10_end, Cond.code yX10_end cX10_end 5 (some .int), Cond.methodLink RX10 71 yX10_wants, Cond.instanceMethod yX10_wants, Cond.selects RX10 yX10_wants yX10_wants, Cond.code yX10_wants cX10_wants 2 (some .int), Cond.fieldLink RX10 7 "LeafTreesModel" "entries" "[I"]
def wsX10_overlaps : List Cond := .code yX10_overlaps cX10_overlaps 1 (some .int) :: ((wsX10_overlaps_r1 ++ wsX10_overlaps_r2) ++ wsX100)
def wsX10_hasOverlap_r1 : List Cond := [Cond.fieldLink RX10 159 "LeafTreesModel" "overlapP" "I", Cond.methodLink RX10 169 yX10_goesTo, Cond.instanceMethod yX10_goesTo, Cond.selects RX10 yX10_goesTo yX10_goesTo, Cond.initialized RX10, Cond.code yX10_goesTo cX10_goesTo 6 (some .int), Cond.fieldLink RX10 102 "LeafTreesModel" "rules" "I", Cond.fieldLink RX10 16 "LeafTreesModel" "size" "[I", Cond.fieldLink RX10 13 "LeafTreesModel" "symbol" "[I", Cond.fieldLink RX10 162 "LeafTreesModel" "overlapQ" "I", Cond.fieldLink RX10 165 "LeafTreesModel" "overlapU" "I", Cond.methodLink RX10 156 yX10_meetsAt, Cond.instanceMethod yX10_meetsAt, Cond.selects RX10 yX10_meetsAt yX10_meetsAt, Cond.code yX10_meetsAt cX10_meetsAt 12 (some .boolean), Cond.methodLink RX10 91 yX10_adds, Cond.instanceMethod yX10_adds, Cond.selects RX10 yX10_adds yX10_adds, Cond.code yX10_adds cX10_adds 6 (some .boolean), Cond.methodLink RX10 67 yX10_comes, Cond.instanceMethod yX10_comes, Cond.selects RX10 yX10_comes yX10_comes, Cond.code yX10_comes cX10_comes 3 none, Cond.methodLink RX10 75 yX10_end]
def wsX10_hasOverlap_r2 : List Cond := [Cond.instanceMethod yX10_end, Cond.selects RX10 yX10_end yX10_end, Cond.code yX10_end cX10_end 5 (some .int), Cond.methodLink RX10 71 yX10_wants, Cond.instanceMethod yX10_wants, Cond.selects RX10 yX10_wants yX10_wants, Cond.code yX10_wants cX10_wants 2 (some .int), Cond.fieldLink RX10 7 "LeafTreesModel" "entries" "[I"]
def wsX10_hasOverlap : List Cond := .code yX10_hasOverlap cX10_hasOverlap 2 (some .boolean) :: ((wsX10_hasOverlap_r1 ++ wsX10_hasOverlap_r2) ++ wsX100)
def wsX10_overlap_r1 : List Cond := [Cond.fieldLink RX10 159 "LeafTreesModel" "overlapP" "I", Cond.fieldLink RX10 162 "LeafTreesModel" "overlapQ" "I", Cond.fieldLink RX10 165 "LeafTreesModel" "overlapU" "I", Cond.methodLink RX10 63 yX10_isRow, Cond.static yX10_isRow, Cond.initialized RX10, Cond.code yX10_isRow cX10_isRow 1 (some .boolean), Cond.methodLink RX10 51 yX10_in, Cond.static yX10_in, Cond.code yX10_in cX10_in 3 (some .boolean), Cond.methodLink RX10 172 yX10_hasOverlap, Cond.instanceMethod yX10_hasOverlap, Cond.selects RX10 yX10_hasOverlap yX10_hasOverlap, Cond.code yX10_hasOverlap cX10_hasOverlap 2 (some .boolean), Cond.methodLink RX10 169 yX10_goesTo, Cond.instanceMethod yX10_goesTo, Cond.selects RX10 yX10_goesTo yX10_goesTo, Cond.code yX10_goesTo cX10_goesTo 6 (some .int), Cond.fieldLink RX10 102 "LeafTreesModel" "rules" "I", Cond.fieldLink RX10 16 "LeafTreesModel" "size" "[I", Cond.fieldLink RX10 13 "LeafTreesModel" "symbol" "[I", Cond.methodLink RX10 156 yX10_meetsAt, Cond.instanceMethod yX10_meetsAt, Cond.selects RX10 yX10_meetsAt yX10_meetsAt]
def wsX10_overlap_r2 : List Cond := [Cond.code yX10_meetsAt cX10_meetsAt 12 (some .boolean), Cond.methodLink RX10 91 yX10_adds, Cond.instanceMethod yX10_adds, Cond.selects RX10 yX10_adds yX10_adds, Cond.code yX10_adds cX10_adds 6 (some .boolean), Cond.methodLink RX10 67 yX10_comes, Cond.instanceMethod yX10_comes, Cond.selects RX10 yX10_comes yX10_comes, Cond.code yX10_comes cX10_comes 3 none, Cond.methodLink RX10 75 yX10_end, Cond.instanceMethod yX10_end, Cond.selects RX10 yX10_end yX10_end, Cond.code yX10_end cX10_end 5 (some .int), Cond.methodLink RX10 71 yX10_wants, Cond.instanceMethod yX10_wants, Cond.selects RX10 yX10_wants yX10_wants, Cond.code yX10_wants cX10_wants 2 (some .int), Cond.fieldLink RX10 7 "LeafTreesModel" "entries" "[I", Cond.methodLink RX10 95 yX10_copy, Cond.instanceMethod yX10_copy, Cond.selects RX10 yX10_copy yX10_copy, Cond.code yX10_copy cX10_copy 4 none]
def wsX10_overlap : List Cond := .code yX10_overlap cX10_overlap 3 (some .int) :: ((wsX10_overlap_r1 ++ wsX10_overlap_r2) ++ wsX100)
def wsX10_comesOf_r1 : List Cond := [Cond.methodLink RX10 95 yX10_copy, Cond.instanceMethod yX10_copy, Cond.selects RX10 yX10_copy yX10_copy, Cond.initialized RX10, Cond.code yX10_copy cX10_copy 4 none, Cond.fieldLink RX10 16 "LeafTreesModel" "size" "[I", Cond.fieldLink RX10 13 "LeafTreesModel" "symbol" "[I", Cond.methodLink RX10 120 yX10_lies, Cond.instanceMethod yX10_lies, Cond.selects RX10 yX10_lies yX10_lies, Cond.code yX10_lies cX10_lies 9 (some .boolean), Cond.fieldLink RX10 114 "LeafTreesModel" "matched" "I", Cond.fieldLink RX10 30 "LeafTreesModel" "matchFrom" "[I", Cond.fieldLink RX10 33 "LeafTreesModel" "matchTo" "[I", Cond.fieldLink RX10 117 "LeafTreesModel" "matchEnd" "I", Cond.methodLink RX10 75 yX10_end, Cond.instanceMethod yX10_end, Cond.selects RX10 yX10_end yX10_end, Cond.code yX10_end cX10_end 5 (some .int), Cond.methodLink RX10 71 yX10_wants, Cond.instanceMethod yX10_wants, Cond.selects RX10 yX10_wants yX10_wants, Cond.code yX10_wants cX10_wants 2 (some .int), Cond.fieldLink RX10 7 "LeafTreesModel" "entries" "[I"]
def wsX10_comesOf_r2 : List Cond := [Cond.methodLink RX10 126 yX10_uses, Cond.instanceMethod yX10_uses, Cond.selects RX10 yX10_uses yX10_uses, Cond.code yX10_uses cX10_uses 8 (some .int), Cond.fieldLink RX10 19 "LeafTreesModel" "isNought" "[Z", Cond.methodLink RX10 91 yX10_adds, Cond.instanceMethod yX10_adds, Cond.selects RX10 yX10_adds yX10_adds, Cond.code yX10_adds cX10_adds 6 (some .boolean), Cond.methodLink RX10 67 yX10_comes, Cond.instanceMethod yX10_comes, Cond.selects RX10 yX10_comes yX10_comes, Cond.code yX10_comes cX10_comes 3 none, Cond.methodLink RX10 133 yX10_normals, Cond.instanceMethod yX10_normals, Cond.selects RX10 yX10_normals yX10_normals, Cond.code yX10_normals cX10_normals 4 (some .int), Cond.methodLink RX10 130 yX10_steps, Cond.instanceMethod yX10_steps, Cond.selects RX10 yX10_steps yX10_steps, Cond.code yX10_steps cX10_steps 4 (some .int), Cond.fieldLink RX10 102 "LeafTreesModel" "rules" "I"]
def wsX10_comesOf : List Cond := .code yX10_comesOf cX10_comesOf 6 (some .int) :: ((wsX10_comesOf_r1 ++ wsX10_comesOf_r2) ++ wsX100)
def wsX10_closes_r1 : List Cond := [Cond.fieldLink RX10 159 "LeafTreesModel" "overlapP" "I", Cond.fieldLink RX10 16 "LeafTreesModel" "size" "[I", Cond.fieldLink RX10 178 "LeafTreesModel" "keptSize" "I", Cond.fieldLink RX10 36 "LeafTreesModel" "keptRow" "[I", Cond.fieldLink RX10 13 "LeafTreesModel" "symbol" "[I", Cond.fieldLink RX10 162 "LeafTreesModel" "overlapQ" "I", Cond.fieldLink RX10 165 "LeafTreesModel" "overlapU" "I", Cond.methodLink RX10 172 yX10_hasOverlap, Cond.instanceMethod yX10_hasOverlap, Cond.selects RX10 yX10_hasOverlap yX10_hasOverlap, Cond.initialized RX10, Cond.code yX10_hasOverlap cX10_hasOverlap 2 (some .boolean), Cond.methodLink RX10 169 yX10_goesTo, Cond.instanceMethod yX10_goesTo, Cond.selects RX10 yX10_goesTo yX10_goesTo, Cond.code yX10_goesTo cX10_goesTo 6 (some .int), Cond.fieldLink RX10 102 "LeafTreesModel" "rules" "I", Cond.methodLink RX10 156 yX10_meetsAt, Cond.instanceMethod yX10_meetsAt, Cond.selects RX10 yX10_meetsAt yX10_meetsAt, Cond.code yX10_meetsAt cX10_meetsAt 12 (some .boolean), Cond.methodLink RX10 91 yX10_adds, Cond.instanceMethod yX10_adds, Cond.selects RX10 yX10_adds yX10_adds]
def wsX10_closes_r2 : List Cond := [Cond.code yX10_adds cX10_adds 6 (some .boolean), Cond.methodLink RX10 67 yX10_comes, Cond.instanceMethod yX10_comes, Cond.selects RX10 yX10_comes yX10_comes, Cond.code yX10_comes cX10_comes 3 none, Cond.methodLink RX10 75 yX10_end, Cond.instanceMethod yX10_end, Cond.selects RX10 yX10_end yX10_end, Cond.code yX10_end cX10_end 5 (some .int), Cond.methodLink RX10 71 yX10_wants, Cond.instanceMethod yX10_wants, Cond.selects RX10 yX10_wants yX10_wants, Cond.code yX10_wants cX10_wants 2 (some .int), Cond.fieldLink RX10 7 "LeafTreesModel" "entries" "[I", Cond.methodLink RX10 175 yX10_comesOf, Cond.instanceMethod yX10_comesOf, Cond.selects RX10 yX10_comesOf yX10_comesOf, Cond.code yX10_comesOf cX10_comesOf 6 (some .int), Cond.methodLink RX10 95 yX10_copy, Cond.instanceMethod yX10_copy, Cond.selects RX10 yX10_copy yX10_copy, Cond.code yX10_copy cX10_copy 4 none, Cond.methodLink RX10 120 yX10_lies, Cond.instanceMethod yX10_lies]
def wsX10_closes_r3 : List Cond := [Cond.selects RX10 yX10_lies yX10_lies, Cond.code yX10_lies cX10_lies 9 (some .boolean), Cond.fieldLink RX10 114 "LeafTreesModel" "matched" "I", Cond.fieldLink RX10 30 "LeafTreesModel" "matchFrom" "[I", Cond.fieldLink RX10 33 "LeafTreesModel" "matchTo" "[I", Cond.fieldLink RX10 117 "LeafTreesModel" "matchEnd" "I", Cond.methodLink RX10 126 yX10_uses, Cond.instanceMethod yX10_uses, Cond.selects RX10 yX10_uses yX10_uses, Cond.code yX10_uses cX10_uses 8 (some .int), Cond.fieldLink RX10 19 "LeafTreesModel" "isNought" "[Z", Cond.methodLink RX10 133 yX10_normals, Cond.instanceMethod yX10_normals, Cond.selects RX10 yX10_normals yX10_normals, Cond.code yX10_normals cX10_normals 4 (some .int), Cond.methodLink RX10 130 yX10_steps, Cond.instanceMethod yX10_steps, Cond.selects RX10 yX10_steps yX10_steps, Cond.code yX10_steps cX10_steps 4 (some .int)]
def wsX10_closes : List Cond := .code yX10_closes cX10_closes 6 (some .int) :: ((wsX10_closes_r1 ++ (wsX10_closes_r2 ++ wsX10_closes_r3)) ++ wsX100)
def wsX10_turns_r1 : List Cond := [Cond.fieldLink RX10 39 "LeafTreesModel" "parts" "[J", Cond.fieldLink RX10 42 "LeafTreesModel" "turnedOf" "[J", Cond.fieldLink RX10 23 "LeafTreesModel" "counted" "[J", Cond.methodLink RX10 153 yX10_counts, Cond.instanceMethod yX10_counts, Cond.selects RX10 yX10_counts yX10_counts, Cond.initialized RX10, Cond.code yX10_counts cX10_counts 2 none, Cond.fieldLink RX10 59 "LeafTreesModel" "isCounted" "Z", Cond.methodLink RX10 147 yX10_countOf, Cond.instanceMethod yX10_countOf, Cond.selects RX10 yX10_countOf yX10_countOf, Cond.code yX10_countOf cX10_countOf 7 (some .long), Cond.fieldLink RX10 16 "LeafTreesModel" "size" "[I", Cond.methodLink RX10 67 yX10_comes, Cond.instanceMethod yX10_comes, Cond.selects RX10 yX10_comes yX10_comes, Cond.code yX10_comes cX10_comes 3 none, Cond.fieldLink RX10 13 "LeafTreesModel" "symbol" "[I", Cond.methodLink RX10 136 yX10_wantedYet, Cond.instanceMethod yX10_wantedYet, Cond.selects RX10 yX10_wantedYet yX10_wantedYet, Cond.code yX10_wantedYet cX10_wantedYet 3 (some .int), Cond.methodLink RX10 71 yX10_wants]
def wsX10_turns_r2 : List Cond := [Cond.instanceMethod yX10_wants, Cond.selects RX10 yX10_wants yX10_wants, Cond.code yX10_wants cX10_wants 2 (some .int), Cond.fieldLink RX10 7 "LeafTreesModel" "entries" "[I", Cond.methodLink RX10 82 yX10_leaves, Cond.instanceMethod yX10_leaves, Cond.selects RX10 yX10_leaves yX10_leaves, Cond.code yX10_leaves cX10_leaves 4 (some .int), Cond.methodLink RX10 140 yX10_isBarred, Cond.instanceMethod yX10_isBarred, Cond.selects RX10 yX10_isBarred yX10_isBarred, Cond.code yX10_isBarred cX10_isBarred 3 (some .boolean), Cond.fieldLink RX10 102 "LeafTreesModel" "rules" "I", Cond.methodLink RX10 120 yX10_lies, Cond.instanceMethod yX10_lies, Cond.selects RX10 yX10_lies yX10_lies, Cond.code yX10_lies cX10_lies 9 (some .boolean), Cond.fieldLink RX10 114 "LeafTreesModel" "matched" "I", Cond.fieldLink RX10 30 "LeafTreesModel" "matchFrom" "[I", Cond.fieldLink RX10 33 "LeafTreesModel" "matchTo" "[I", Cond.fieldLink RX10 117 "LeafTreesModel" "matchEnd" "I", Cond.methodLink RX10 75 yX10_end, Cond.instanceMethod yX10_end, Cond.selects RX10 yX10_end yX10_end]
def wsX10_turns_r3 : List Cond := [Cond.code yX10_end cX10_end 5 (some .int), Cond.methodLink RX10 144 yX10_goesOn, Cond.instanceMethod yX10_goesOn, Cond.selects RX10 yX10_goesOn yX10_goesOn, Cond.code yX10_goesOn cX10_goesOn 2 (some .boolean), Cond.fieldLink RX10 55 "LeafTreesModel" "acts" "I"]
def wsX10_turns : List Cond := .code yX10_turns cX10_turns 8 none :: ((wsX10_turns_r1 ++ (wsX10_turns_r2 ++ wsX10_turns_r3)) ++ wsX100)
def wsX10_turned_r1 : List Cond := [Cond.constantLong RX10 151 (-2), Cond.fieldLink RX10 42 "LeafTreesModel" "turnedOf" "[J", Cond.methodLink RX10 51 yX10_in, Cond.static yX10_in, Cond.initialized RX10, Cond.code yX10_in cX10_in 3 (some .boolean), Cond.methodLink RX10 181 yX10_turns, Cond.instanceMethod yX10_turns, Cond.selects RX10 yX10_turns yX10_turns, Cond.code yX10_turns cX10_turns 8 none, Cond.fieldLink RX10 39 "LeafTreesModel" "parts" "[J", Cond.fieldLink RX10 23 "LeafTreesModel" "counted" "[J", Cond.methodLink RX10 153 yX10_counts, Cond.instanceMethod yX10_counts, Cond.selects RX10 yX10_counts yX10_counts, Cond.code yX10_counts cX10_counts 2 none, Cond.fieldLink RX10 59 "LeafTreesModel" "isCounted" "Z", Cond.methodLink RX10 147 yX10_countOf, Cond.instanceMethod yX10_countOf, Cond.selects RX10 yX10_countOf yX10_countOf, Cond.code yX10_countOf cX10_countOf 7 (some .long), Cond.fieldLink RX10 16 "LeafTreesModel" "size" "[I", Cond.methodLink RX10 67 yX10_comes, Cond.instanceMethod yX10_comes]
def wsX10_turned_r2 : List Cond := [Cond.selects RX10 yX10_comes yX10_comes, Cond.code yX10_comes cX10_comes 3 none, Cond.fieldLink RX10 13 "LeafTreesModel" "symbol" "[I", Cond.methodLink RX10 136 yX10_wantedYet, Cond.instanceMethod yX10_wantedYet, Cond.selects RX10 yX10_wantedYet yX10_wantedYet, Cond.code yX10_wantedYet cX10_wantedYet 3 (some .int), Cond.methodLink RX10 71 yX10_wants, Cond.instanceMethod yX10_wants, Cond.selects RX10 yX10_wants yX10_wants, Cond.code yX10_wants cX10_wants 2 (some .int), Cond.fieldLink RX10 7 "LeafTreesModel" "entries" "[I", Cond.methodLink RX10 82 yX10_leaves, Cond.instanceMethod yX10_leaves, Cond.selects RX10 yX10_leaves yX10_leaves, Cond.code yX10_leaves cX10_leaves 4 (some .int), Cond.methodLink RX10 140 yX10_isBarred, Cond.instanceMethod yX10_isBarred, Cond.selects RX10 yX10_isBarred yX10_isBarred, Cond.code yX10_isBarred cX10_isBarred 3 (some .boolean), Cond.fieldLink RX10 102 "LeafTreesModel" "rules" "I", Cond.methodLink RX10 120 yX10_lies, Cond.instanceMethod yX10_lies, Cond.selects RX10 yX10_lies yX10_lies]
def wsX10_turned_r3 : List Cond := [Cond.code yX10_lies cX10_lies 9 (some .boolean), Cond.fieldLink RX10 114 "LeafTreesModel" "matched" "I", Cond.fieldLink RX10 30 "LeafTreesModel" "matchFrom" "[I", Cond.fieldLink RX10 33 "LeafTreesModel" "matchTo" "[I", Cond.fieldLink RX10 117 "LeafTreesModel" "matchEnd" "I", Cond.methodLink RX10 75 yX10_end, Cond.instanceMethod yX10_end, Cond.selects RX10 yX10_end yX10_end, Cond.code yX10_end cX10_end 5 (some .int), Cond.methodLink RX10 144 yX10_goesOn, Cond.instanceMethod yX10_goesOn, Cond.selects RX10 yX10_goesOn yX10_goesOn, Cond.code yX10_goesOn cX10_goesOn 2 (some .boolean), Cond.fieldLink RX10 55 "LeafTreesModel" "acts" "I"]
def wsX10_turned : List Cond := .code yX10_turned cX10_turned 2 (some .long) :: ((wsX10_turned_r1 ++ (wsX10_turned_r2 ++ wsX10_turned_r3)) ++ wsX100)
def wsX10_isDual : List Cond := .code yX10_isDual cX10_isDual 3 (some .boolean) :: ([.fieldLink RX10 55 "LeafTreesModel" "acts" "I", .fieldLink RX10 7 "LeafTreesModel" "entries" "[I", .fieldLink RX10 102 "LeafTreesModel" "rules" "I", .fieldLink RX10 19 "LeafTreesModel" "isNought" "[Z", .fieldLink RX10 16 "LeafTreesModel" "size" "[I"] ++ wsX100)
def wsX10_findMay : List Cond := .code yX10_findMay cX10_findMay 5 none :: ([.fieldLink RX10 45 "LeafTreesModel" "may" "[Z", .fieldLink RX10 102 "LeafTreesModel" "rules" "I", .fieldLink RX10 13 "LeafTreesModel" "symbol" "[I"] ++ wsX100)
def wsX10_below : List Cond := .code yX10_below cX10_below 7 (some .long) :: ([.fieldLink RX10 55 "LeafTreesModel" "acts" "I", .fieldLink RX10 45 "LeafTreesModel" "may" "[Z", .fieldLink RX10 48 "LeafTreesModel" "byTop" "[J"] ++ wsX100)
def wsX10_dual_r1 : List Cond := [Cond.constantLong RX10 151 (-2), Cond.constantLong RX10 187 (-3), Cond.fieldLink RX10 55 "LeafTreesModel" "acts" "I", Cond.fieldLink RX10 48 "LeafTreesModel" "byTop" "[J", Cond.methodLink RX10 51 yX10_in, Cond.static yX10_in, Cond.initialized RX10, Cond.code yX10_in cX10_in 3 (some .boolean), Cond.methodLink RX10 184 yX10_isDual, Cond.instanceMethod yX10_isDual, Cond.selects RX10 yX10_isDual yX10_isDual, Cond.code yX10_isDual cX10_isDual 3 (some .boolean), Cond.fieldLink RX10 7 "LeafTreesModel" "entries" "[I", Cond.fieldLink RX10 102 "LeafTreesModel" "rules" "I", Cond.fieldLink RX10 19 "LeafTreesModel" "isNought" "[Z", Cond.fieldLink RX10 16 "LeafTreesModel" "size" "[I", Cond.methodLink RX10 189 yX10_findMay, Cond.instanceMethod yX10_findMay, Cond.selects RX10 yX10_findMay yX10_findMay, Cond.code yX10_findMay cX10_findMay 5 none, Cond.fieldLink RX10 45 "LeafTreesModel" "may" "[Z", Cond.fieldLink RX10 13 "LeafTreesModel" "symbol" "[I", Cond.methodLink RX10 192 yX10_below, Cond.instanceMethod yX10_below]
def wsX10_dual_r2 : List Cond := [Cond.selects RX10 yX10_below yX10_below, Cond.code yX10_below cX10_below 7 (some .long)]
def wsX10_dual : List Cond := .code yX10_dual cX10_dual 9 (some .long) :: ((wsX10_dual_r1 ++ wsX10_dual_r2) ++ wsX100)
def wsX10_count : List Cond := .code yX10_count cX10_count 4 (some .int) :: ([.fieldLink RX10 55 "LeafTreesModel" "acts" "I", .fieldLink RX10 102 "LeafTreesModel" "rules" "I", .fieldLink RX10 19 "LeafTreesModel" "isNought" "[Z", .methodLink RX10 79 yX10_isTree, .instanceMethod yX10_isTree, .selects RX10 yX10_isTree yX10_isTree, .initialized RX10, .code yX10_isTree cX10_isTree 2 (some .boolean), .fieldLink RX10 16 "LeafTreesModel" "size" "[I", .methodLink RX10 75 yX10_end, .instanceMethod yX10_end, .selects RX10 yX10_end yX10_end, .code yX10_end cX10_end 5 (some .int), .fieldLink RX10 13 "LeafTreesModel" "symbol" "[I", .methodLink RX10 71 yX10_wants, .instanceMethod yX10_wants, .selects RX10 yX10_wants yX10_wants, .code yX10_wants cX10_wants 2 (some .int), .fieldLink RX10 7 "LeafTreesModel" "entries" "[I"] ++ wsX100)
def wsX10_digestRow : List Cond := .code yX10_digestRow cX10_digestRow 7 (some .long) :: ([.fieldLink RX10 16 "LeafTreesModel" "size" "[I", .constantLong RX10 196 (31), .fieldLink RX10 13 "LeafTreesModel" "symbol" "[I", .constantLong RX10 198 (9)] ++ wsX100)
def wsX10_digest_r1 : List Cond := [Cond.constantLong RX10 200 (227), Cond.constantLong RX10 196 (31), Cond.fieldLink RX10 55 "LeafTreesModel" "acts" "I", Cond.fieldLink RX10 7 "LeafTreesModel" "entries" "[I", Cond.fieldLink RX10 102 "LeafTreesModel" "rules" "I", Cond.methodLink RX10 202 yX10_count, Cond.instanceMethod yX10_count, Cond.selects RX10 yX10_count yX10_count, Cond.initialized RX10, Cond.code yX10_count cX10_count 4 (some .int), Cond.fieldLink RX10 19 "LeafTreesModel" "isNought" "[Z", Cond.methodLink RX10 79 yX10_isTree, Cond.instanceMethod yX10_isTree, Cond.selects RX10 yX10_isTree yX10_isTree, Cond.code yX10_isTree cX10_isTree 2 (some .boolean), Cond.fieldLink RX10 16 "LeafTreesModel" "size" "[I", Cond.methodLink RX10 75 yX10_end, Cond.instanceMethod yX10_end, Cond.selects RX10 yX10_end yX10_end, Cond.code yX10_end cX10_end 5 (some .int), Cond.fieldLink RX10 13 "LeafTreesModel" "symbol" "[I", Cond.methodLink RX10 71 yX10_wants, Cond.instanceMethod yX10_wants, Cond.selects RX10 yX10_wants yX10_wants]
def wsX10_digest_r2 : List Cond := [Cond.code yX10_wants cX10_wants 2 (some .int), Cond.methodLink RX10 205 yX10_digestRow, Cond.instanceMethod yX10_digestRow, Cond.selects RX10 yX10_digestRow yX10_digestRow, Cond.code yX10_digestRow cX10_digestRow 7 (some .long), Cond.constantLong RX10 198 (9)]
def wsX10_digest : List Cond := .code yX10_digest cX10_digest 4 (some .long) :: ((wsX10_digest_r1 ++ wsX10_digest_r2) ++ wsX100)
def wsJ9_max_7cf53 : List Cond := .code yJ9_max_7cf53 cJ9_max_7cf53 2 (some .int) :: ([])
def wsJ9_min_7cf53 : List Cond := .code yJ9_min_7cf53 cJ9_min_7cf53 2 (some .int) :: ([])
def wsL_law_r1 : List Cond := [Cond.classLink RL 7 RX9, Cond.instantiable RX9 14, Cond.initialized RX9, Cond.classLink RL 10 RX10, Cond.instantiable RX10 22, Cond.initialized RX10, Cond.methodLink RL 9 yX9_init, Cond.instanceMethod yX9_init, Cond.code yX9_init cX9_init 2 none, Cond.methodLink RX9 1 objectInit, Cond.instanceMethod objectInit, Cond.code objectInit ⟨#[0xb1]⟩ 1 none, Cond.classLink RX9 7 RX8, Cond.instantiable RX8 4, Cond.initialized RX8, Cond.fieldLink RX9 10 "LeafTrees" "world" "LLeafTrees$World;", Cond.classLink RX9 16 RX3, Cond.fieldLink RX9 18 "LeafTrees" "rows" "[LLeafTrees$Row;", Cond.instantiable RX3 2, Cond.initialized RX3, Cond.fieldLink RX9 23 "LeafTrees" "work" "LLeafTrees$Row;", Cond.classLink RX9 27 RX6, Cond.instantiable RX6 1, Cond.initialized RX6]
def wsL_law_r2 : List Cond := [Cond.fieldLink RX9 30 "LeafTrees" "shape" "LLeafTrees$Shape;", Cond.classLink RX9 34 RX2, Cond.instantiable RX2 5, Cond.initialized RX2, Cond.fieldLink RX9 37 "LeafTrees" "rewriter" "LLeafTrees$Rewriter;", Cond.classLink RX9 41 RX1, Cond.instantiable RX1 5, Cond.initialized RX1, Cond.fieldLink RX9 44 "LeafTrees" "peaks" "LLeafTrees$Peaks;", Cond.classLink RX9 48 RX0, Cond.instantiable RX0 6, Cond.initialized RX0, Cond.fieldLink RX9 51 "LeafTrees" "census" "LLeafTrees$Census;", Cond.classLink RX9 55 RX5, Cond.instantiable RX5 2, Cond.initialized RX5, Cond.fieldLink RX9 58 "LeafTrees" "series" "LLeafTrees$Series;", Cond.arrayClass .long, Cond.fieldLink RX9 62 "LeafTrees" "many" "[J", Cond.fieldLink RX9 66 "LeafTrees" "dualMany" "[J", Cond.fieldLink RX9 69 "LeafTrees" "firstOpen" "I", Cond.methodLink RX9 9 yX8_init, Cond.instanceMethod yX8_init, Cond.code yX8_init cX8_init 2 none]
def wsL_law_r3 : List Cond := [Cond.methodLink RX8 3 objectInit, Cond.arrayClass .int, Cond.fieldLink RX8 9 "LeafTrees$World" "entries" "[I", Cond.classLink RX8 15 RX4, Cond.fieldLink RX8 17 "LeafTrees$World" "rules" "[LLeafTrees$Rule;", Cond.instantiable RX4 3, Cond.initialized RX4, Cond.instanceMethod yX4_init, Cond.code yX4_init cX4_init 1 none, Cond.methodLink RX4 1 objectInit, Cond.classLink RX4 7 RX3, Cond.fieldLink RX4 10 "LeafTrees$Rule" "left" "LLeafTrees$Row;", Cond.fieldLink RX4 16 "LeafTrees$Rule" "right" "LLeafTrees$Row;", Cond.instanceMethod yX3_init, Cond.code yX3_init cX3_init 1 none, Cond.methodLink RX3 3 objectInit, Cond.fieldLink RX3 9 "LeafTrees$Row" "symbols" "[I", Cond.instanceMethod yX6_init, Cond.code yX6_init cX6_init 1 none, Cond.methodLink RX6 3 objectInit, Cond.fieldLink RX6 9 "LeafTrees$Shape" "ends" "[I", Cond.instanceMethod yX2_init, Cond.code yX2_init cX2_init 1 none, Cond.methodLink RX2 3 objectInit]
def wsL_law_r4 : List Cond := [Cond.classLink RX2 9 RX6, Cond.fieldLink RX2 12 "LeafTrees$Rewriter" "shape" "LLeafTrees$Shape;", Cond.fieldLink RX2 18 "LeafTrees$Rewriter" "caught" "[I", Cond.classLink RX2 22 RX3, Cond.fieldLink RX2 25 "LeafTrees$Rewriter" "made" "LLeafTrees$Row;", Cond.fieldLink RX2 29 "LeafTrees$Rewriter" "one" "LLeafTrees$Row;", Cond.fieldLink RX2 32 "LeafTrees$Rewriter" "other" "LLeafTrees$Row;", Cond.instanceMethod yX1_init, Cond.code yX1_init cX1_init 1 none, Cond.methodLink RX1 3 objectInit, Cond.classLink RX1 9 RX3, Cond.fieldLink RX1 12 "LeafTrees$Peaks" "top" "LLeafTrees$Row;", Cond.methodLink RX9 50 yX0_init, Cond.instanceMethod yX0_init, Cond.code yX0_init cX0_init 2 none, Cond.methodLink RX0 3 objectInit, Cond.fieldLink RX0 9 "LeafTrees$Census" "actOf" "[I", Cond.classLink RX0 15 "[[J", Cond.fieldLink RX0 17 "LeafTrees$Census" "needs" "[[J", Cond.fieldLink RX0 20 "LeafTrees$Census" "bitAt" "[J", Cond.classLink RX0 24 RX7, Cond.fieldLink RX0 26 "LeafTrees$Census" "tallies" "[LLeafTrees$Tally;", Cond.instantiable RX7 3, Cond.initialized RX7]
def wsL_law_r5 : List Cond := [Cond.instanceMethod yX7_init, Cond.code yX7_init cX7_init 1 none, Cond.methodLink RX7 1 objectInit, Cond.fieldLink RX7 7 "LeafTrees$Tally" "kinds" "[J", Cond.fieldLink RX7 13 "LeafTrees$Tally" "trees" "[J", Cond.instanceMethod yX5_init, Cond.code yX5_init cX5_init 1 none, Cond.methodLink RX5 3 objectInit, Cond.fieldLink RX5 9 "LeafTrees$Series" "turnedAbout" "[J", Cond.classLink RX5 15 "[[J", Cond.fieldLink RX5 17 "LeafTrees$Series" "powers" "[[J", Cond.methodLink RL 12 yX10_init, Cond.instanceMethod yX10_init, Cond.code yX10_init cX10_init 1 none, Cond.methodLink RX10 1 objectInit, Cond.fieldLink RX10 7 "LeafTreesModel" "entries" "[I", Cond.fieldLink RX10 13 "LeafTreesModel" "symbol" "[I", Cond.fieldLink RX10 16 "LeafTreesModel" "size" "[I", Cond.arrayClass .boolean, Cond.fieldLink RX10 19 "LeafTreesModel" "isNought" "[Z", Cond.fieldLink RX10 23 "LeafTreesModel" "counted" "[J", Cond.fieldLink RX10 27 "LeafTreesModel" "open" "[I", Cond.fieldLink RX10 30 "LeafTreesModel" "matchFrom" "[I", Cond.fieldLink RX10 33 "LeafTreesModel" "matchTo" "[I"]
def wsL_law_r6 : List Cond := [Cond.fieldLink RX10 36 "LeafTreesModel" "keptRow" "[I", Cond.fieldLink RX10 39 "LeafTreesModel" "parts" "[J", Cond.fieldLink RX10 42 "LeafTreesModel" "turnedOf" "[J", Cond.fieldLink RX10 45 "LeafTreesModel" "may" "[Z", Cond.fieldLink RX10 48 "LeafTreesModel" "byTop" "[J", Cond.methodLink RL 13 yX9_act, Cond.instanceMethod yX9_act, Cond.selects RX9 yX9_act yX9_act, Cond.code yX9_act cX9_act 2 (some .int), Cond.fieldLink RX9 73 "LeafTrees$World" "acts" "I", Cond.methodLink RX9 76 yX9_forget, Cond.instanceMethod yX9_forget, Cond.selects RX9 yX9_forget yX9_forget, Cond.code yX9_forget cX9_forget 1 none, Cond.fieldLink RX9 242 "LeafTrees" "manyKnown" "Z", Cond.fieldLink RX9 245 "LeafTrees" "dualKnown" "Z", Cond.fieldLink RX9 201 "LeafTrees" "firstOpenKnown" "Z", Cond.methodLink RX9 79 yX8_addAct, Cond.instanceMethod yX8_addAct, Cond.selects RX8 yX8_addAct yX8_addAct, Cond.code yX8_addAct cX8_addAct 2 (some .int), Cond.fieldLink RX8 22 "LeafTrees$World" "acts" "I", Cond.methodLink RL 17 yX10_act, Cond.instanceMethod yX10_act]
def wsL_law_r7 : List Cond := [Cond.selects RX10 yX10_act yX10_act, Cond.code yX10_act cX10_act 2 (some .int), Cond.fieldLink RX10 55 "LeafTreesModel" "acts" "I", Cond.fieldLink RX10 59 "LeafTreesModel" "isCounted" "Z", Cond.methodLink RX10 51 yX10_in, Cond.static yX10_in, Cond.code yX10_in cX10_in 3 (some .boolean), Cond.methodLink RL 18 yX9_put, Cond.instanceMethod yX9_put, Cond.selects RX9 yX9_put yX9_put, Cond.code yX9_put cX9_put 3 (some .int), Cond.fieldLink RX9 93 "LeafTrees$Row" "length" "I", Cond.methodLink RX9 83 yX9_isRow, Cond.static yX9_isRow, Cond.code yX9_isRow cX9_isRow 1 (some .boolean), Cond.methodLink RX9 87 yX8_isSymbol, Cond.instanceMethod yX8_isSymbol, Cond.selects RX8 yX8_isSymbol yX8_isSymbol, Cond.code yX8_isSymbol cX8_isSymbol 2 (some .boolean), Cond.methodLink RX9 90 yX3_add, Cond.instanceMethod yX3_add, Cond.selects RX3 yX3_add yX3_add, Cond.code yX3_add cX3_add 2 (some .boolean), Cond.fieldLink RX3 15 "LeafTrees$Row" "length" "I"]
def wsL_law_r8 : List Cond := [Cond.methodLink RL 22 yX10_put, Cond.instanceMethod yX10_put, Cond.selects RX10 yX10_put yX10_put, Cond.code yX10_put cX10_put 3 (some .int), Cond.methodLink RX10 63 yX10_isRow, Cond.static yX10_isRow, Cond.code yX10_isRow cX10_isRow 1 (some .boolean), Cond.methodLink RX10 67 yX10_comes, Cond.instanceMethod yX10_comes, Cond.selects RX10 yX10_comes yX10_comes, Cond.code yX10_comes cX10_comes 3 none, Cond.methodLink RL 23 yX9_empty, Cond.instanceMethod yX9_empty, Cond.selects RX9 yX9_empty yX9_empty, Cond.code yX9_empty cX9_empty 3 (some .int), Cond.methodLink RX9 96 yX3_clear, Cond.instanceMethod yX3_clear, Cond.selects RX3 yX3_clear yX3_clear, Cond.code yX3_clear cX3_clear 1 none, Cond.methodLink RL 26 yX10_empty, Cond.instanceMethod yX10_empty, Cond.selects RX10 yX10_empty yX10_empty, Cond.code yX10_empty cX10_empty 3 (some .int), Cond.methodLink RL 27 yX9_at]
def wsL_law_r9 : List Cond := [Cond.instanceMethod yX9_at, Cond.selects RX9 yX9_at yX9_at, Cond.code yX9_at cX9_at 4 (some .int), Cond.fieldLink RX9 99 "LeafTrees$Row" "symbols" "[I", Cond.methodLink RL 30 yX10_at, Cond.instanceMethod yX10_at, Cond.selects RX10 yX10_at yX10_at, Cond.code yX10_at cX10_at 3 (some .int), Cond.methodLink RL 31 yX9_about, Cond.instanceMethod yX9_about, Cond.selects RX9 yX9_about yX9_about, Cond.code yX9_about cX9_about 5 (some .int), Cond.methodLink RX9 103 yX8_isTree, Cond.instanceMethod yX8_isTree, Cond.selects RX8 yX8_isTree yX8_isTree, Cond.code yX8_isTree cX8_isTree 2 (some .boolean), Cond.fieldLink RX8 52 "LeafTrees$Row" "length" "I", Cond.methodLink RX8 62 yX8_endOf, Cond.instanceMethod yX8_endOf, Cond.selects RX8 yX8_endOf yX8_endOf, Cond.code yX8_endOf cX8_endOf 5 (some .int), Cond.methodLink RX8 46 Lib.Math.max.name, Cond.static Lib.Math.max.name, Cond.initialized "java/lang/Math"]
def wsL_law_r10 : List Cond := [Cond.code Lib.Math.max.name Lib.Math.max.code 2 (some .int), Cond.fieldLink RX8 55 "LeafTrees$Row" "symbols" "[I", Cond.methodLink RX8 58 yX8_entriesOf, Cond.instanceMethod yX8_entriesOf, Cond.selects RX8 yX8_entriesOf yX8_entriesOf, Cond.code yX8_entriesOf cX8_entriesOf 2 (some .int), Cond.methodLink RX9 107 yX3_leaves, Cond.instanceMethod yX3_leaves, Cond.selects RX3 yX3_leaves yX3_leaves, Cond.code yX3_leaves cX3_leaves 3 (some .int), Cond.methodLink RX9 111 yX3_size, Cond.instanceMethod yX3_size, Cond.selects RX3 yX3_size yX3_size, Cond.code yX3_size cX3_size 1 (some .int), Cond.methodLink RX3 25 yX3_leaves, Cond.methodLink RX9 114 yX6_heightOf, Cond.instanceMethod yX6_heightOf, Cond.selects RX6 yX6_heightOf yX6_heightOf, Cond.code yX6_heightOf cX6_heightOf 5 (some .int), Cond.fieldLink RX6 15 "LeafTrees$Row" "length" "I", Cond.methodLink RX6 38 Lib.Math.max.name, Cond.methodLink RX6 30 yX6_measure, Cond.instanceMethod yX6_measure, Cond.selects RX6 yX6_measure yX6_measure]
def wsL_law_r11 : List Cond := [Cond.code yX6_measure cX6_measure 7 none, Cond.fieldLink RX6 21 "LeafTrees$Row" "symbols" "[I", Cond.methodLink RX6 24 yX8_entriesOf, Cond.methodLink RX6 34 yX6_actsOver, Cond.instanceMethod yX6_actsOver, Cond.selects RX6 yX6_actsOver yX6_actsOver, Cond.code yX6_actsOver cX6_actsOver 5 (some .int), Cond.methodLink RL 34 yX10_about, Cond.instanceMethod yX10_about, Cond.selects RX10 yX10_about yX10_about, Cond.code yX10_about cX10_about 3 (some .int), Cond.methodLink RX10 79 yX10_isTree, Cond.instanceMethod yX10_isTree, Cond.selects RX10 yX10_isTree yX10_isTree, Cond.code yX10_isTree cX10_isTree 2 (some .boolean), Cond.methodLink RX10 75 yX10_end, Cond.instanceMethod yX10_end, Cond.selects RX10 yX10_end yX10_end, Cond.code yX10_end cX10_end 5 (some .int), Cond.methodLink RX10 71 yX10_wants, Cond.instanceMethod yX10_wants, Cond.selects RX10 yX10_wants yX10_wants, Cond.code yX10_wants cX10_wants 2 (some .int), Cond.methodLink RX10 82 yX10_leaves]
def wsL_law_r12 : List Cond := [Cond.instanceMethod yX10_leaves, Cond.selects RX10 yX10_leaves yX10_leaves, Cond.code yX10_leaves cX10_leaves 4 (some .int), Cond.methodLink RX10 85 yX10_height, Cond.instanceMethod yX10_height, Cond.selects RX10 yX10_height yX10_height, Cond.code yX10_height cX10_height 7 (some .int), Cond.methodLink RL 35 yX9_graft, Cond.instanceMethod yX9_graft, Cond.selects RX9 yX9_graft yX9_graft, Cond.code yX9_graft cX9_graft 6 (some .int), Cond.methodLink RX9 118 yX9_isTreeRow, Cond.instanceMethod yX9_isTreeRow, Cond.selects RX9 yX9_isTreeRow yX9_isTreeRow, Cond.code yX9_isTreeRow cX9_isTreeRow 2 (some .boolean), Cond.methodLink RX9 121 yX3_placeOfLeaf, Cond.instanceMethod yX3_placeOfLeaf, Cond.selects RX3 yX3_placeOfLeaf yX3_placeOfLeaf, Cond.code yX3_placeOfLeaf cX3_placeOfLeaf 4 (some .int), Cond.methodLink RX9 124 yX3_addPart, Cond.instanceMethod yX3_addPart, Cond.selects RX3 yX3_addPart yX3_addPart, Cond.code yX3_addPart cX3_addPart 4 (some .boolean), Cond.methodLink RX3 19 arraycopyName]
def wsL_law_r13 : List Cond := [Cond.native arraycopyName, Cond.static arraycopyName, Cond.initialized "java/lang/System", Cond.methodLink RX9 128 yX9_bring, Cond.instanceMethod yX9_bring, Cond.selects RX9 yX9_bring yX9_bring, Cond.code yX9_bring cX9_bring 3 (some .int), Cond.methodLink RX9 167 yX3_become, Cond.instanceMethod yX3_become, Cond.selects RX3 yX3_become yX3_become, Cond.code yX3_become cX3_become 2 none, Cond.methodLink RL 39 yX10_graft, Cond.instanceMethod yX10_graft, Cond.selects RX10 yX10_graft yX10_graft, Cond.code yX10_graft cX10_graft 8 (some .int), Cond.methodLink RX10 88 yX10_isTreeRow, Cond.instanceMethod yX10_isTreeRow, Cond.selects RX10 yX10_isTreeRow yX10_isTreeRow, Cond.code yX10_isTreeRow cX10_isTreeRow 2 (some .boolean), Cond.methodLink RX10 91 yX10_adds, Cond.instanceMethod yX10_adds, Cond.selects RX10 yX10_adds yX10_adds, Cond.code yX10_adds cX10_adds 6 (some .boolean), Cond.methodLink RX10 95 yX10_copy]
def wsL_law_r14 : List Cond := [Cond.instanceMethod yX10_copy, Cond.selects RX10 yX10_copy yX10_copy, Cond.code yX10_copy cX10_copy 4 none, Cond.methodLink RL 40 yX9_same, Cond.instanceMethod yX9_same, Cond.selects RX9 yX9_same yX9_same, Cond.code yX9_same cX9_same 3 (some .int), Cond.methodLink RX9 132 yX3_isLike, Cond.instanceMethod yX3_isLike, Cond.selects RX3 yX3_isLike yX3_isLike, Cond.code yX3_isLike cX3_isLike 3 (some .boolean), Cond.methodLink RL 43 yX10_same, Cond.instanceMethod yX10_same, Cond.selects RX10 yX10_same yX10_same, Cond.code yX10_same cX10_same 3 (some .int), Cond.methodLink RX10 98 yX10_isSame, Cond.instanceMethod yX10_isSame, Cond.selects RX10 yX10_isSame yX10_isSame, Cond.code yX10_isSame cX10_isSame 5 (some .boolean), Cond.methodLink RL 44 yX9_rule, Cond.instanceMethod yX9_rule, Cond.selects RX9 yX9_rule yX9_rule, Cond.code yX9_rule cX9_rule 3 (some .int), Cond.fieldLink RX9 138 "LeafTrees$World" "ruleCount" "I"]
def wsL_law_r15 : List Cond := [Cond.methodLink RX9 135 yX9_isLeft, Cond.instanceMethod yX9_isLeft, Cond.selects RX9 yX9_isLeft yX9_isLeft, Cond.code yX9_isLeft cX9_isLeft 2 (some .boolean), Cond.methodLink RX9 141 yX8_addRule, Cond.instanceMethod yX8_addRule, Cond.selects RX8 yX8_addRule yX8_addRule, Cond.code yX8_addRule cX8_addRule 5 (some .int), Cond.fieldLink RX8 26 "LeafTrees$World" "ruleCount" "I", Cond.fieldLink RX8 29 "LeafTrees$Rule" "left" "LLeafTrees$Row;", Cond.fieldLink RX8 39 "LeafTrees$Rule" "right" "LLeafTrees$Row;", Cond.fieldLink RX8 42 "LeafTrees$Rule" "toNothing" "Z", Cond.methodLink RX8 33 yX3_become, Cond.methodLink RL 47 yX10_rule, Cond.instanceMethod yX10_rule, Cond.selects RX10 yX10_rule yX10_rule, Cond.code yX10_rule cX10_rule 3 (some .int), Cond.methodLink RX10 105 yX10_isLeft, Cond.instanceMethod yX10_isLeft, Cond.selects RX10 yX10_isLeft yX10_isLeft, Cond.code yX10_isLeft cX10_isLeft 2 (some .boolean), Cond.methodLink RX10 108 yX10_comesRule, Cond.instanceMethod yX10_comesRule, Cond.selects RX10 yX10_comesRule yX10_comesRule]
def wsL_law_r16 : List Cond := [Cond.code yX10_comesRule cX10_comesRule 3 (some .int), Cond.fieldLink RX10 102 "LeafTreesModel" "rules" "I", Cond.methodLink RL 48 yX9_nought, Cond.instanceMethod yX9_nought, Cond.selects RX9 yX9_nought yX9_nought, Cond.code yX9_nought cX9_nought 2 (some .int), Cond.methodLink RL 51 yX10_nought, Cond.instanceMethod yX10_nought, Cond.selects RX10 yX10_nought yX10_nought, Cond.code yX10_nought cX10_nought 2 (some .int), Cond.methodLink RL 52 yX9_unrule, Cond.instanceMethod yX9_unrule, Cond.selects RX9 yX9_unrule yX9_unrule, Cond.code yX9_unrule cX9_unrule 2 (some .int), Cond.methodLink RL 56 yX10_unrule, Cond.instanceMethod yX10_unrule, Cond.selects RX10 yX10_unrule yX10_unrule, Cond.code yX10_unrule cX10_unrule 2 (some .int), Cond.methodLink RL 57 yX9_side, Cond.instanceMethod yX9_side, Cond.selects RX9 yX9_side yX9_side, Cond.code yX9_side cX9_side 5 (some .int), Cond.fieldLink RX9 148 "LeafTrees$World" "rules" "[LLeafTrees$Rule;", Cond.fieldLink RX9 152 "LeafTrees$Rule" "left" "LLeafTrees$Row;"]
def wsL_law_r17 : List Cond := [Cond.fieldLink RX9 157 "LeafTrees$Rule" "right" "LLeafTrees$Row;", Cond.methodLink RX9 145 yX8_isRule, Cond.instanceMethod yX8_isRule, Cond.selects RX8 yX8_isRule yX8_isRule, Cond.code yX8_isRule cX8_isRule 2 (some .boolean), Cond.methodLink RL 61 yX10_side, Cond.instanceMethod yX10_side, Cond.selects RX10 yX10_side yX10_side, Cond.code yX10_side cX10_side 4 (some .int), Cond.methodLink RX10 111 yX10_isRule, Cond.instanceMethod yX10_isRule, Cond.selects RX10 yX10_isRule yX10_isRule, Cond.code yX10_isRule cX10_isRule 2 (some .boolean), Cond.methodLink RL 62 yX9_matches, Cond.instanceMethod yX9_matches, Cond.selects RX9 yX9_matches yX9_matches, Cond.code yX9_matches cX9_matches 3 (some .int), Cond.methodLink RX9 160 yX2_firstPlace, Cond.instanceMethod yX2_firstPlace, Cond.selects RX2 yX2_firstPlace yX2_firstPlace, Cond.code yX2_firstPlace cX2_firstPlace 5 (some .int), Cond.fieldLink RX2 39 "LeafTrees$Row" "length" "I", Cond.fieldLink RX2 43 "LeafTrees$Rule" "left" "LLeafTrees$Row;", Cond.methodLink RX2 35 yX6_measure]
def wsL_law_r18 : List Cond := [Cond.methodLink RX2 48 yX2_fits, Cond.instanceMethod yX2_fits, Cond.selects RX2 yX2_fits yX2_fits, Cond.code yX2_fits cX2_fits 7 (some .boolean), Cond.fieldLink RX2 57 "LeafTrees$Row" "symbols" "[I", Cond.fieldLink RX2 105 "LeafTrees$Shape" "ends" "[I", Cond.methodLink RL 65 yX10_matches, Cond.instanceMethod yX10_matches, Cond.selects RX10 yX10_matches yX10_matches, Cond.code yX10_matches cX10_matches 3 (some .int), Cond.methodLink RX10 123 yX10_firstPlace, Cond.instanceMethod yX10_firstPlace, Cond.selects RX10 yX10_firstPlace yX10_firstPlace, Cond.code yX10_firstPlace cX10_firstPlace 4 (some .int), Cond.methodLink RX10 120 yX10_lies, Cond.instanceMethod yX10_lies, Cond.selects RX10 yX10_lies yX10_lies, Cond.code yX10_lies cX10_lies 9 (some .boolean), Cond.fieldLink RX10 114 "LeafTreesModel" "matched" "I", Cond.fieldLink RX10 117 "LeafTreesModel" "matchEnd" "I", Cond.methodLink RL 66 yX9_step, Cond.instanceMethod yX9_step, Cond.selects RX9 yX9_step yX9_step, Cond.code yX9_step cX9_step 2 (some .int)]
def wsL_law_r19 : List Cond := [Cond.methodLink RX9 164 yX2_advance, Cond.instanceMethod yX2_advance, Cond.selects RX2 yX2_advance yX2_advance, Cond.code yX2_advance cX2_advance 5 (some .int), Cond.fieldLink RX2 52 "LeafTrees$World" "ruleCount" "I", Cond.fieldLink RX2 60 "LeafTrees$World" "rules" "[LLeafTrees$Rule;", Cond.methodLink RX2 64 yX2_replace, Cond.instanceMethod yX2_replace, Cond.selects RX2 yX2_replace yX2_replace, Cond.code yX2_replace cX2_replace 8 (some .int), Cond.fieldLink RX2 108 "LeafTrees$Rule" "toNothing" "Z", Cond.fieldLink RX2 119 "LeafTrees$Rule" "right" "LLeafTrees$Row;", Cond.methodLink RX2 112 yX3_clear, Cond.methodLink RX2 115 yX3_addPart, Cond.methodLink RX2 122 yX3_add, Cond.methodLink RX2 77 yX3_become, Cond.methodLink RL 69 yX10_step, Cond.instanceMethod yX10_step, Cond.selects RX10 yX10_step yX10_step, Cond.code yX10_step cX10_step 2 (some .int), Cond.methodLink RX10 130 yX10_steps, Cond.instanceMethod yX10_steps, Cond.selects RX10 yX10_steps yX10_steps, Cond.code yX10_steps cX10_steps 4 (some .int)]
def wsL_law_r20 : List Cond := [Cond.methodLink RX10 126 yX10_uses, Cond.instanceMethod yX10_uses, Cond.selects RX10 yX10_uses yX10_uses, Cond.code yX10_uses cX10_uses 8 (some .int), Cond.methodLink RL 70 yX9_normal, Cond.instanceMethod yX9_normal, Cond.selects RX9 yX9_normal yX9_normal, Cond.code yX9_normal cX9_normal 3 (some .int), Cond.methodLink RX9 171 yX2_normalForm, Cond.instanceMethod yX2_normalForm, Cond.selects RX2 yX2_normalForm yX2_normalForm, Cond.code yX2_normalForm cX2_normalForm 5 (some .int), Cond.methodLink RX2 68 yX2_advance, Cond.methodLink RL 73 yX10_normal, Cond.instanceMethod yX10_normal, Cond.selects RX10 yX10_normal yX10_normal, Cond.code yX10_normal cX10_normal 3 (some .int), Cond.methodLink RX10 133 yX10_normals, Cond.instanceMethod yX10_normals, Cond.selects RX10 yX10_normals yX10_normals, Cond.code yX10_normals cX10_normals 4 (some .int), Cond.methodLink RL 74 yX9_howMany, Cond.instanceMethod yX9_howMany, Cond.selects RX9 yX9_howMany yX9_howMany]
def wsL_law_r21 : List Cond := [Cond.code yX9_howMany cX9_howMany 2 (some .long), Cond.constantLong RX9 177 (-2), Cond.methodLink RX9 174 yX9_isLeafNumber, Cond.static yX9_isLeafNumber, Cond.code yX9_isLeafNumber cX9_isLeafNumber 1 (some .boolean), Cond.methodLink RX9 179 yX9_learnMany, Cond.instanceMethod yX9_learnMany, Cond.selects RX9 yX9_learnMany yX9_learnMany, Cond.code yX9_learnMany cX9_learnMany 1 none, Cond.methodLink RX9 248 yX0_forbidLefts, Cond.instanceMethod yX0_forbidLefts, Cond.selects RX0 yX0_forbidLefts yX0_forbidLefts, Cond.code yX0_forbidLefts cX0_forbidLefts 3 none, Cond.fieldLink RX0 34 "LeafTrees$World" "ruleCount" "I", Cond.fieldLink RX0 40 "LeafTrees$World" "rules" "[LLeafTrees$Rule;", Cond.fieldLink RX0 44 "LeafTrees$Rule" "left" "LLeafTrees$Row;", Cond.methodLink RX0 31 yX0_clear, Cond.instanceMethod yX0_clear, Cond.selects RX0 yX0_clear yX0_clear, Cond.code yX0_clear cX0_clear 1 none, Cond.fieldLink RX0 76 "LeafTrees$Census" "nodes" "I", Cond.fieldLink RX0 79 "LeafTrees$Census" "forbidden" "J", Cond.methodLink RX0 50 yX0_forbid, Cond.instanceMethod yX0_forbid]
def wsL_law_r22 : List Cond := [Cond.selects RX0 yX0_forbid yX0_forbid, Cond.code yX0_forbid cX0_forbid 6 none, Cond.fieldLink RX0 83 "LeafTrees$Row" "length" "I", Cond.fieldLink RX0 88 "LeafTrees$Row" "symbols" "[I", Cond.methodLink RX0 57 yX0_addNode, Cond.instanceMethod yX0_addNode, Cond.selects RX0 yX0_addNode yX0_addNode, Cond.code yX0_addNode cX0_addNode 4 (some .int), Cond.methodLink RX0 91 yX0_linkEntries, Cond.instanceMethod yX0_linkEntries, Cond.selects RX0 yX0_linkEntries yX0_linkEntries, Cond.code yX0_linkEntries cX0_linkEntries 8 none, Cond.methodLink RX0 95 Lib.Math.min.name, Cond.static Lib.Math.min.name, Cond.code Lib.Math.min.name Lib.Math.min.code 2 (some .int), Cond.methodLink RX0 68 yX8_entriesOf, Cond.methodLink RX0 101 yX8_endOf, Cond.methodLink RX9 252 yX0_run, Cond.instanceMethod yX0_run, Cond.selects RX0 yX0_run yX0_run, Cond.code yX0_run cX0_run 5 none, Cond.fieldLink RX0 54 "LeafTrees$World" "acts" "I", Cond.methodLink RX0 65 yX0_startTallies, Cond.instanceMethod yX0_startTallies]
def wsL_law_r23 : List Cond := [Cond.selects RX0 yX0_startTallies yX0_startTallies, Cond.code yX0_startTallies cX0_startTallies 2 none, Cond.methodLink RX0 109 yX7_clear, Cond.instanceMethod yX7_clear, Cond.selects RX7 yX7_clear yX7_clear, Cond.code yX7_clear cX7_clear 1 none, Cond.fieldLink RX7 16 "LeafTrees$Tally" "size" "I", Cond.methodLink RX0 110 yX7_add, Cond.instanceMethod yX7_add, Cond.selects RX7 yX7_add yX7_add, Cond.code yX7_add cX7_add 6 none, Cond.methodLink RX7 20 yJ7_copyOf_c38d5, Cond.static yJ7_copyOf_c38d5, Cond.initialized RJ7, Cond.code yJ7_copyOf_c38d5 cJ7_copyOf_c38d5 3 (some (.array .long)), Cond.methodLink RJ7 319 ⟨"[J", "clone", "()Ljava/lang/Object;"⟩, Cond.sameMethod "[J" "java/lang/Object" "clone" "()Ljava/lang/Object;", Cond.native ⟨"java/lang/Object", "clone", "()Ljava/lang/Object;"⟩, Cond.instanceMethod ⟨"java/lang/Object", "clone", "()Ljava/lang/Object;"⟩, Cond.selects "[J" ⟨"[J", "clone", "()Ljava/lang/Object;"⟩ ⟨"java/lang/Object", "clone", "()Ljava/lang/Object;"⟩, Cond.classLink RJ7 320 "[J", Cond.methodLink RJ7 304 Lib.Math.min.name, Cond.methodLink RJ7 150 arraycopyName, Cond.methodLink RX0 72 yX0_treesUnder]
def wsL_law_r24 : List Cond := [Cond.instanceMethod yX0_treesUnder, Cond.selects RX0 yX0_treesUnder yX0_treesUnder, Cond.code yX0_treesUnder cX0_treesUnder 9 (some .long), Cond.methodLink RX0 114 yX0_join, Cond.instanceMethod yX0_join, Cond.selects RX0 yX0_join yX0_join, Cond.code yX0_join cX0_join 15 (some .long), Cond.fieldLink RX0 118 "LeafTrees$Tally" "size" "I", Cond.fieldLink RX0 121 "LeafTrees$Tally" "kinds" "[J", Cond.fieldLink RX0 128 "LeafTrees$Tally" "trees" "[J", Cond.methodLink RX0 124 yX0_kindOf, Cond.instanceMethod yX0_kindOf, Cond.selects RX0 yX0_kindOf yX0_kindOf, Cond.code yX0_kindOf cX0_kindOf 11 (some .long), Cond.constantLong RX0 135 (-1), Cond.methodLink RX0 131 yX0_keep, Cond.instanceMethod yX0_keep, Cond.selects RX0 yX0_keep yX0_keep, Cond.code yX0_keep cX0_keep 6 none, Cond.methodLink RL 78 yX10_howMany, Cond.instanceMethod yX10_howMany, Cond.selects RX10 yX10_howMany yX10_howMany, Cond.code yX10_howMany cX10_howMany 2 (some .long), Cond.constantLong RX10 151 (-2)]
def wsL_law_r25 : List Cond := [Cond.methodLink RX10 153 yX10_counts, Cond.instanceMethod yX10_counts, Cond.selects RX10 yX10_counts yX10_counts, Cond.code yX10_counts cX10_counts 2 none, Cond.methodLink RX10 147 yX10_countOf, Cond.instanceMethod yX10_countOf, Cond.selects RX10 yX10_countOf yX10_countOf, Cond.code yX10_countOf cX10_countOf 7 (some .long), Cond.methodLink RX10 136 yX10_wantedYet, Cond.instanceMethod yX10_wantedYet, Cond.selects RX10 yX10_wantedYet yX10_wantedYet, Cond.code yX10_wantedYet cX10_wantedYet 3 (some .int), Cond.methodLink RX10 140 yX10_isBarred, Cond.instanceMethod yX10_isBarred, Cond.selects RX10 yX10_isBarred yX10_isBarred, Cond.code yX10_isBarred cX10_isBarred 3 (some .boolean), Cond.methodLink RX10 144 yX10_goesOn, Cond.instanceMethod yX10_goesOn, Cond.selects RX10 yX10_goesOn yX10_goesOn, Cond.code yX10_goesOn cX10_goesOn 2 (some .boolean), Cond.methodLink RL 79 yX9_overlaps, Cond.instanceMethod yX9_overlaps, Cond.selects RX9 yX9_overlaps yX9_overlaps, Cond.code yX9_overlaps cX9_overlaps 3 (some .int)]
def wsL_law_r26 : List Cond := [Cond.methodLink RX9 182 yX1_restart, Cond.instanceMethod yX1_restart, Cond.selects RX1 yX1_restart yX1_restart, Cond.code yX1_restart cX1_restart 1 none, Cond.fieldLink RX1 18 "LeafTrees$Peaks" "spot" "I", Cond.methodLink RX9 185 yX1_next, Cond.instanceMethod yX1_next, Cond.selects RX1 yX1_next yX1_next, Cond.code yX1_next cX1_next 2 (some .boolean), Cond.fieldLink RX1 22 "LeafTrees$Peaks" "outer" "I", Cond.fieldLink RX1 25 "LeafTrees$Peaks" "inner" "I", Cond.fieldLink RX1 28 "LeafTrees$Peaks" "place" "I", Cond.fieldLink RX1 35 "LeafTrees$World" "rules" "[LLeafTrees$Rule;", Cond.fieldLink RX1 41 "LeafTrees$Rule" "left" "LLeafTrees$Row;", Cond.methodLink RX1 31 yX1_mayOverlap, Cond.instanceMethod yX1_mayOverlap, Cond.selects RX1 yX1_mayOverlap yX1_mayOverlap, Cond.code yX1_mayOverlap cX1_mayOverlap 3 (some .boolean), Cond.fieldLink RX1 54 "LeafTrees$Row" "length" "I", Cond.fieldLink RX1 57 "LeafTrees$Row" "symbols" "[I", Cond.methodLink RX1 50 yX8_isRule, Cond.methodLink RX1 46 yX1_merge, Cond.instanceMethod yX1_merge, Cond.selects RX1 yX1_merge yX1_merge]
def wsL_law_r27 : List Cond := [Cond.code yX1_merge cX1_merge 8 (some .boolean), Cond.methodLink RX1 61 yX3_clear, Cond.methodLink RX1 64 yX3_addPart, Cond.methodLink RX1 68 yX3_add, Cond.methodLink RX1 71 yX8_endOf, Cond.methodLink RL 82 yX10_overlaps, Cond.instanceMethod yX10_overlaps, Cond.selects RX10 yX10_overlaps yX10_overlaps, Cond.code yX10_overlaps cX10_overlaps 1 (some .int), Cond.constant RX10 168 (100000), Cond.methodLink RX10 169 yX10_goesTo, Cond.instanceMethod yX10_goesTo, Cond.selects RX10 yX10_goesTo yX10_goesTo, Cond.code yX10_goesTo cX10_goesTo 6 (some .int), Cond.fieldLink RX10 159 "LeafTreesModel" "overlapP" "I", Cond.fieldLink RX10 162 "LeafTreesModel" "overlapQ" "I", Cond.fieldLink RX10 165 "LeafTreesModel" "overlapU" "I", Cond.methodLink RX10 156 yX10_meetsAt, Cond.instanceMethod yX10_meetsAt, Cond.selects RX10 yX10_meetsAt yX10_meetsAt, Cond.code yX10_meetsAt cX10_meetsAt 12 (some .boolean), Cond.methodLink RL 83 yX9_overlap, Cond.instanceMethod yX9_overlap, Cond.selects RX9 yX9_overlap yX9_overlap]
def wsL_law_r28 : List Cond := [Cond.code yX9_overlap cX9_overlap 4 (some .int), Cond.fieldLink RX9 189 "LeafTrees$Peaks" "top" "LLeafTrees$Row;", Cond.fieldLink RX9 192 "LeafTrees$Peaks" "outer" "I", Cond.fieldLink RX9 195 "LeafTrees$Peaks" "inner" "I", Cond.fieldLink RX9 198 "LeafTrees$Peaks" "place" "I", Cond.methodLink RL 86 yX10_overlap, Cond.instanceMethod yX10_overlap, Cond.selects RX10 yX10_overlap yX10_overlap, Cond.code yX10_overlap cX10_overlap 3 (some .int), Cond.methodLink RX10 172 yX10_hasOverlap, Cond.instanceMethod yX10_hasOverlap, Cond.selects RX10 yX10_hasOverlap yX10_hasOverlap, Cond.code yX10_hasOverlap cX10_hasOverlap 2 (some .boolean), Cond.methodLink RL 87 yX9_closes, Cond.instanceMethod yX9_closes, Cond.selects RX9 yX9_closes yX9_closes, Cond.code yX9_closes cX9_closes 3 (some .int), Cond.methodLink RX9 205 yX2_meet, Cond.instanceMethod yX2_meet, Cond.selects RX2 yX2_meet yX2_meet, Cond.code yX2_meet cX2_meet 5 (some .int), Cond.fieldLink RX2 72 "LeafTrees$Peaks" "top" "LLeafTrees$Row;", Cond.fieldLink RX2 81 "LeafTrees$Peaks" "outer" "I", Cond.fieldLink RX2 88 "LeafTrees$Peaks" "inner" "I"]
def wsL_law_r29 : List Cond := [Cond.fieldLink RX2 91 "LeafTrees$Peaks" "place" "I", Cond.methodLink RX2 84 yX2_goDown, Cond.instanceMethod yX2_goDown, Cond.selects RX2 yX2_goDown yX2_goDown, Cond.code yX2_goDown cX2_goDown 6 (some .int), Cond.methodLink RX2 98 yX8_isRule, Cond.methodLink RX2 102 yX2_normalForm, Cond.methodLink RX2 94 yX3_isLike, Cond.methodLink RL 90 yX10_closes, Cond.instanceMethod yX10_closes, Cond.selects RX10 yX10_closes yX10_closes, Cond.code yX10_closes cX10_closes 6 (some .int), Cond.fieldLink RX10 178 "LeafTreesModel" "keptSize" "I", Cond.methodLink RX10 175 yX10_comesOf, Cond.instanceMethod yX10_comesOf, Cond.selects RX10 yX10_comesOf yX10_comesOf, Cond.code yX10_comesOf cX10_comesOf 6 (some .int), Cond.methodLink RL 91 yX9_turned, Cond.instanceMethod yX9_turned, Cond.selects RX9 yX9_turned yX9_turned, Cond.code yX9_turned cX9_turned 2 (some .long), Cond.fieldLink RX9 213 "LeafTrees$Series" "turnedAbout" "[J", Cond.methodLink RX9 209 yX5_turn, Cond.instanceMethod yX5_turn]
def wsL_law_r30 : List Cond := [Cond.selects RX5 yX5_turn yX5_turn, Cond.code yX5_turn cX5_turn 6 none, Cond.methodLink RX5 20 yX5_rowsOf, Cond.instanceMethod yX5_rowsOf, Cond.selects RX5 yX5_rowsOf yX5_rowsOf, Cond.code yX5_rowsOf cX5_rowsOf 6 (some .long), Cond.methodLink RL 94 yX10_turned, Cond.instanceMethod yX10_turned, Cond.selects RX10 yX10_turned yX10_turned, Cond.code yX10_turned cX10_turned 2 (some .long), Cond.methodLink RX10 181 yX10_turns, Cond.instanceMethod yX10_turns, Cond.selects RX10 yX10_turns yX10_turns, Cond.code yX10_turns cX10_turns 8 none, Cond.methodLink RL 95 yX9_dual, Cond.instanceMethod yX9_dual, Cond.selects RX9 yX9_dual yX9_dual, Cond.code yX9_dual cX9_dual 2 (some .long), Cond.constantLong RX9 220 (-3), Cond.methodLink RX9 216 yX8_hasDual, Cond.instanceMethod yX8_hasDual, Cond.selects RX8 yX8_hasDual yX8_hasDual, Cond.code yX8_hasDual cX8_hasDual 2 (some .boolean), Cond.methodLink RX8 66 yX3_size]
def wsL_law_r31 : List Cond := [Cond.methodLink RX9 222 yX9_learnDual, Cond.instanceMethod yX9_learnDual, Cond.selects RX9 yX9_learnDual yX9_learnDual, Cond.code yX9_learnDual cX9_learnDual 1 none, Cond.methodLink RX9 256 yX0_forbidAllButLefts, Cond.instanceMethod yX0_forbidAllButLefts, Cond.selects RX0 yX0_forbidAllButLefts yX0_forbidAllButLefts, Cond.code yX0_forbidAllButLefts cX0_forbidAllButLefts 4 none, Cond.methodLink RX0 61 yX0_forbidUnlessLeft, Cond.instanceMethod yX0_forbidUnlessLeft, Cond.selects RX0 yX0_forbidUnlessLeft yX0_forbidUnlessLeft, Cond.code yX0_forbidUnlessLeft cX0_forbidUnlessLeft 6 none, Cond.methodLink RX0 105 yX8_hasLeft, Cond.instanceMethod yX8_hasLeft, Cond.selects RX8 yX8_hasLeft yX8_hasLeft, Cond.code yX8_hasLeft cX8_hasLeft 6 (some .boolean), Cond.methodLink RL 98 yX10_dual, Cond.instanceMethod yX10_dual, Cond.selects RX10 yX10_dual yX10_dual, Cond.code yX10_dual cX10_dual 9 (some .long), Cond.constantLong RX10 187 (-3), Cond.methodLink RX10 184 yX10_isDual, Cond.instanceMethod yX10_isDual, Cond.selects RX10 yX10_isDual yX10_isDual]
def wsL_law_r32 : List Cond := [Cond.code yX10_isDual cX10_isDual 3 (some .boolean), Cond.methodLink RX10 189 yX10_findMay, Cond.instanceMethod yX10_findMay, Cond.selects RX10 yX10_findMay yX10_findMay, Cond.code yX10_findMay cX10_findMay 5 none, Cond.methodLink RX10 192 yX10_below, Cond.instanceMethod yX10_below, Cond.selects RX10 yX10_below yX10_below, Cond.code yX10_below cX10_below 7 (some .long), Cond.methodLink RL 99 yX9_count, Cond.instanceMethod yX9_count, Cond.selects RX9 yX9_count yX9_count, Cond.code yX9_count cX9_count 2 (some .int), Cond.methodLink RX9 225 yX9_treeRows, Cond.instanceMethod yX9_treeRows, Cond.selects RX9 yX9_treeRows yX9_treeRows, Cond.code yX9_treeRows cX9_treeRows 3 (some .int), Cond.methodLink RX9 228 yX8_rulesToNothing, Cond.instanceMethod yX8_rulesToNothing, Cond.selects RX8 yX8_rulesToNothing yX8_rulesToNothing, Cond.code yX8_rulesToNothing cX8_rulesToNothing 3 (some .int), Cond.methodLink RL 102 yX10_count, Cond.instanceMethod yX10_count, Cond.selects RX10 yX10_count yX10_count]
def wsL_law_r33 : List Cond := [Cond.code yX10_count cX10_count 4 (some .int), Cond.methodLink RL 103 yX9_digest, Cond.instanceMethod yX9_digest, Cond.selects RX9 yX9_digest yX9_digest, Cond.code yX9_digest cX9_digest 4 (some .long), Cond.constantLong RX9 231 (227), Cond.constantLong RX9 233 (31), Cond.fieldLink RX9 235 "LeafTrees$World" "entries" "[I", Cond.methodLink RX9 238 yX3_digestedAfter, Cond.instanceMethod yX3_digestedAfter, Cond.selects RX3 yX3_digestedAfter yX3_digestedAfter, Cond.code yX3_digestedAfter cX3_digestedAfter 6 (some .long), Cond.constantLong RX3 29 (31), Cond.constantLong RX3 31 (9), Cond.methodLink RL 107 yX10_digest, Cond.instanceMethod yX10_digest, Cond.selects RX10 yX10_digest yX10_digest, Cond.code yX10_digest cX10_digest 4 (some .long), Cond.constantLong RX10 200 (227), Cond.constantLong RX10 196 (31), Cond.methodLink RX10 202 yX10_count, Cond.methodLink RX10 205 yX10_digestRow, Cond.instanceMethod yX10_digestRow, Cond.selects RX10 yX10_digestRow yX10_digestRow]
def wsL_law_r34 : List Cond := [Cond.code yX10_digestRow cX10_digestRow 7 (some .long), Cond.constantLong RX10 198 (9)]
def wsL_law : List Cond := (wsL_law_r1 ++ (wsL_law_r2 ++ (wsL_law_r3 ++ (wsL_law_r4 ++ (wsL_law_r5 ++ (wsL_law_r6 ++ (wsL_law_r7 ++ (wsL_law_r8 ++ (wsL_law_r9 ++ (wsL_law_r10 ++ (wsL_law_r11 ++ (wsL_law_r12 ++ (wsL_law_r13 ++ (wsL_law_r14 ++ (wsL_law_r15 ++ (wsL_law_r16 ++ (wsL_law_r17 ++ (wsL_law_r18 ++ (wsL_law_r19 ++ (wsL_law_r20 ++ (wsL_law_r21 ++ (wsL_law_r22 ++ (wsL_law_r23 ++ (wsL_law_r24 ++ (wsL_law_r25 ++ (wsL_law_r26 ++ (wsL_law_r27 ++ (wsL_law_r28 ++ (wsL_law_r29 ++ (wsL_law_r30 ++ (wsL_law_r31 ++ (wsL_law_r32 ++ (wsL_law_r33 ++ wsL_law_r34))))))))))))))))))))))))))))))))) ++ wsX90 ++ wsX100 ++ wsX80 ++ wsX30 ++ wsX60 ++ wsX20 ++ wsX10 ++ wsX00 ++ wsX50 ++ wsX40 ++ wsX70 ++ ([] : List Cond)
end
section
theorem inlX0 : ∀ w ∈ wsX00, w ∈ wsL_law := fun _ h => List.mem_append_left _ (List.mem_append_left _ (List.mem_append_left _ (List.mem_append_left _ (List.mem_append_right _ h))))
theorem inlX1 : ∀ w ∈ wsX10, w ∈ wsL_law := fun _ h => List.mem_append_left _ (List.mem_append_left _ (List.mem_append_left _ (List.mem_append_left _ (List.mem_append_left _ (List.mem_append_right _ h)))))
theorem inlX2 : ∀ w ∈ wsX20, w ∈ wsL_law := fun _ h => List.mem_append_left _ (List.mem_append_left _ (List.mem_append_left _ (List.mem_append_left _ (List.mem_append_left _ (List.mem_append_left _ (List.mem_append_right _ h))))))
theorem inlX3 : ∀ w ∈ wsX30, w ∈ wsL_law := fun _ h => List.mem_append_left _ (List.mem_append_left _ (List.mem_append_left _ (List.mem_append_left _ (List.mem_append_left _ (List.mem_append_left _ (List.mem_append_left _ (List.mem_append_left _ (List.mem_append_right _ h))))))))
theorem inlX4 : ∀ w ∈ wsX40, w ∈ wsL_law := fun _ h => List.mem_append_left _ (List.mem_append_left _ (List.mem_append_right _ h))
theorem inlX5 : ∀ w ∈ wsX50, w ∈ wsL_law := fun _ h => List.mem_append_left _ (List.mem_append_left _ (List.mem_append_left _ (List.mem_append_right _ h)))
theorem inlX6 : ∀ w ∈ wsX60, w ∈ wsL_law := fun _ h => List.mem_append_left _ (List.mem_append_left _ (List.mem_append_left _ (List.mem_append_left _ (List.mem_append_left _ (List.mem_append_left _ (List.mem_append_left _ (List.mem_append_right _ h)))))))
theorem inlX7 : ∀ w ∈ wsX70, w ∈ wsL_law := fun _ h => List.mem_append_left _ (List.mem_append_right _ h)
theorem inlX8 : ∀ w ∈ wsX80, w ∈ wsL_law := fun _ h => List.mem_append_left _ (List.mem_append_left _ (List.mem_append_left _ (List.mem_append_left _ (List.mem_append_left _ (List.mem_append_left _ (List.mem_append_left _ (List.mem_append_left _ (List.mem_append_left _ (List.mem_append_right _ h)))))))))
theorem inlX9 : ∀ w ∈ wsX90, w ∈ wsL_law := fun _ h => List.mem_append_left _ (List.mem_append_left _ (List.mem_append_left _ (List.mem_append_left _ (List.mem_append_left _ (List.mem_append_left _ (List.mem_append_left _ (List.mem_append_left _ (List.mem_append_left _ (List.mem_append_left _ (List.mem_append_left _ (List.mem_append_right _ h)))))))))))
theorem inlX10 : ∀ w ∈ wsX100, w ∈ wsL_law := fun _ h => List.mem_append_left _ (List.mem_append_left _ (List.mem_append_left _ (List.mem_append_left _ (List.mem_append_left _ (List.mem_append_left _ (List.mem_append_left _ (List.mem_append_left _ (List.mem_append_left _ (List.mem_append_left _ (List.mem_append_right _ h))))))))))
theorem inJx8e188 : ∀ w ∈ wsJx8e1880, w ∈ lw_tbl := by decide +kernel
theorem inJ9 : ∀ w ∈ wsJ90, w ∈ lw_tbl := by decide +kernel
theorem inJ10 : ∀ w ∈ wsJ100, w ∈ lw_tbl := by decide +kernel
theorem inJ7 : ∀ w ∈ wsJ70, w ∈ lw_tbl := by decide +kernel
set_option maxRecDepth 20000 in
theorem ggX0_init_X7_init : GoodIn wsX0_init wsX7_init := goodIn_r _ [15, 16, 2, 3, 7, 17, 18, 25, 26, 27] (by decide +kernel) (by decide +kernel)
set_option maxRecDepth 20000 in
theorem gX0_init_X7_init_n30 : GoodIn wsX0_init (wsX7_init) := ggX0_init_X7_init
theorem dX0_init_0 : decode cX0_init 0 = .ok (.aload_n 0, 1) := by decide +kernel
theorem dX0_init_1 : decode cX0_init 1 = .ok (.invokespecial 3, 3) := by decide +kernel
theorem dX0_init_4 : decode cX0_init 4 = .ok (.aload_n 0, 1) := by decide +kernel
theorem dX0_init_5 : decode cX0_init 5 = .ok (.bipush 36, 2) := by decide +kernel
theorem dX0_init_7 : decode cX0_init 7 = .ok (.newarray .int, 2) := by decide +kernel
theorem dX0_init_9 : decode cX0_init 9 = .ok (.putfield 9, 3) := by decide +kernel
theorem dX0_init_12 : decode cX0_init 12 = .ok (.aload_n 0, 1) := by decide +kernel
theorem dX0_init_13 : decode cX0_init 13 = .ok (.iconst 3, 1) := by decide +kernel
theorem dX0_init_14 : decode cX0_init 14 = .ok (.bipush 36, 2) := by decide +kernel
theorem dX0_init_16 : decode cX0_init 16 = .ok (.multianewarray 15 2, 4) := by decide +kernel
theorem dX0_init_20 : decode cX0_init 20 = .ok (.putfield 17, 3) := by decide +kernel
theorem dX0_init_23 : decode cX0_init 23 = .ok (.aload_n 0, 1) := by decide +kernel
theorem dX0_init_24 : decode cX0_init 24 = .ok (.bipush 60, 2) := by decide +kernel
theorem dX0_init_26 : decode cX0_init 26 = .ok (.newarray .long, 2) := by decide +kernel
theorem dX0_init_28 : decode cX0_init 28 = .ok (.putfield 20, 3) := by decide +kernel
theorem dX0_init_31 : decode cX0_init 31 = .ok (.aload_n 0, 1) := by decide +kernel
theorem dX0_init_32 : decode cX0_init 32 = .ok (.bipush 6, 2) := by decide +kernel
theorem dX0_init_34 : decode cX0_init 34 = .ok (.anewarray 24, 3) := by decide +kernel
theorem dX0_init_37 : decode cX0_init 37 = .ok (.putfield 26, 3) := by decide +kernel
theorem dX0_init_40 : decode cX0_init 40 = .ok (.iconst 0, 1) := by decide +kernel
theorem dX0_init_41 : decode cX0_init 41 = .ok (.istore_n 1, 1) := by decide +kernel
theorem dX0_init_42 : decode cX0_init 42 = .ok (.iload_n 1, 1) := by decide +kernel
theorem dX0_init_43 : decode cX0_init 43 = .ok (.bipush 6, 2) := by decide +kernel
theorem dX0_init_45 : decode cX0_init 45 = .ok (.if_icmp .ge 22, 3) := by decide +kernel
theorem dX0_init_48 : decode cX0_init 48 = .ok (.aload_n 0, 1) := by decide +kernel
theorem dX0_init_49 : decode cX0_init 49 = .ok (.getfield 26, 3) := by decide +kernel
theorem dX0_init_52 : decode cX0_init 52 = .ok (.iload_n 1, 1) := by decide +kernel
theorem dX0_init_53 : decode cX0_init 53 = .ok (.new 24, 3) := by decide +kernel
theorem dX0_init_56 : decode cX0_init 56 = .ok (.dup, 1) := by decide +kernel
theorem dX0_init_57 : decode cX0_init 57 = .ok (.invokespecial 30, 3) := by decide +kernel
theorem dX0_init_60 : decode cX0_init 60 = .ok (.aastore, 1) := by decide +kernel
theorem dX0_init_61 : decode cX0_init 61 = .ok (.iinc 1 1, 3) := by decide +kernel
theorem dX0_init_64 : decode cX0_init 64 = .ok (.goto (-22), 3) := by decide +kernel
theorem dX0_init_67 : decode cX0_init 67 = .ok (.return_, 1) := by decide +kernel
set_option maxRecDepth 20000 in
theorem ggX0_forbidLefts_X0_clear : GoodIn wsX0_forbidLefts wsX0_clear := goodIn_r _ [8, 9, 10, 56, 57, 58, 59, 60, 61] (by decide +kernel) (by decide +kernel)
set_option maxRecDepth 20000 in
theorem gX0_forbidLefts_X0_clear : GoodIn wsX0_forbidLefts (wsV RX0 31 RX0 yX0_clear wsX0_clear) := goodIn_app (goodIn_of _ (by decide +kernel)) ggX0_forbidLefts_X0_clear
set_option maxRecDepth 20000 in
theorem ggX0_forbidLefts_X0_forbid : GoodIn wsX0_forbidLefts wsX0_forbid := goodIn_r _ [14, 15, 16, 17, 18, 19, 20, 7, 21, 9, 22, 23, 10, 24, 25, 26, 27, 28, 29, 30, 31, 32, 33, 34, 35, 36, 37, 38, 39, 40, 41, 42, 43, 44, 45, 46, 47, 48, 62, 63, 56, 57, 58, 59, 60, 61, 49, 50, 51, 52] (by decide +kernel) (by decide +kernel)
set_option maxRecDepth 20000 in
theorem gX0_forbidLefts_X0_forbid : GoodIn wsX0_forbidLefts (wsV RX0 50 RX0 yX0_forbid wsX0_forbid) := goodIn_app (goodIn_of _ (by decide +kernel)) ggX0_forbidLefts_X0_forbid
theorem dX0_forbidLefts_0 : decode cX0_forbidLefts 0 = .ok (.aload_n 0, 1) := by decide +kernel
theorem dX0_forbidLefts_1 : decode cX0_forbidLefts 1 = .ok (.invokevirtual 31, 3) := by decide +kernel
theorem dX0_forbidLefts_4 : decode cX0_forbidLefts 4 = .ok (.iconst 0, 1) := by decide +kernel
theorem dX0_forbidLefts_5 : decode cX0_forbidLefts 5 = .ok (.istore_n 2, 1) := by decide +kernel
theorem dX0_forbidLefts_6 : decode cX0_forbidLefts 6 = .ok (.iload_n 2, 1) := by decide +kernel
theorem dX0_forbidLefts_7 : decode cX0_forbidLefts 7 = .ok (.aload_n 1, 1) := by decide +kernel
theorem dX0_forbidLefts_8 : decode cX0_forbidLefts 8 = .ok (.getfield 34, 3) := by decide +kernel
theorem dX0_forbidLefts_11 : decode cX0_forbidLefts 11 = .ok (.if_icmp .ge 23, 3) := by decide +kernel
theorem dX0_forbidLefts_14 : decode cX0_forbidLefts 14 = .ok (.aload_n 0, 1) := by decide +kernel
theorem dX0_forbidLefts_15 : decode cX0_forbidLefts 15 = .ok (.aload_n 1, 1) := by decide +kernel
theorem dX0_forbidLefts_16 : decode cX0_forbidLefts 16 = .ok (.aload_n 1, 1) := by decide +kernel
theorem dX0_forbidLefts_17 : decode cX0_forbidLefts 17 = .ok (.getfield 40, 3) := by decide +kernel
theorem dX0_forbidLefts_20 : decode cX0_forbidLefts 20 = .ok (.iload_n 2, 1) := by decide +kernel
theorem dX0_forbidLefts_21 : decode cX0_forbidLefts 21 = .ok (.aaload, 1) := by decide +kernel
theorem dX0_forbidLefts_22 : decode cX0_forbidLefts 22 = .ok (.getfield 44, 3) := by decide +kernel
theorem dX0_forbidLefts_25 : decode cX0_forbidLefts 25 = .ok (.invokevirtual 50, 3) := by decide +kernel
theorem dX0_forbidLefts_28 : decode cX0_forbidLefts 28 = .ok (.iinc 2 1, 3) := by decide +kernel
theorem dX0_forbidLefts_31 : decode cX0_forbidLefts 31 = .ok (.goto (-25), 3) := by decide +kernel
theorem dX0_forbidLefts_34 : decode cX0_forbidLefts 34 = .ok (.return_, 1) := by decide +kernel
set_option maxRecDepth 20000 in
theorem ggX0_forbidAllButLefts_X0_clear : GoodIn wsX0_forbidAllButLefts wsX0_clear := goodIn_r _ [6, 7, 8, 32, 33, 34, 35, 36, 37] (by decide +kernel) (by decide +kernel)
set_option maxRecDepth 20000 in
theorem gX0_forbidAllButLefts_X0_clear : GoodIn wsX0_forbidAllButLefts (wsV RX0 31 RX0 yX0_clear wsX0_clear) := goodIn_app (goodIn_of _ (by decide +kernel)) ggX0_forbidAllButLefts_X0_clear
set_option maxRecDepth 20000 in
theorem ggX0_forbidAllButLefts_X0_addNode : GoodIn wsX0_forbidAllButLefts wsX0_addNode := goodIn_r _ [12, 7, 13, 14, 8, 32, 33, 34, 35, 36, 37] (by decide +kernel) (by decide +kernel)
set_option maxRecDepth 20000 in
theorem gX0_forbidAllButLefts_X0_addNode : GoodIn wsX0_forbidAllButLefts (wsV RX0 57 RX0 yX0_addNode wsX0_addNode) := goodIn_app (goodIn_of _ (by decide +kernel)) ggX0_forbidAllButLefts_X0_addNode
set_option maxRecDepth 20000 in
theorem ggX0_forbidAllButLefts_X0_forbidUnlessLeft : GoodIn wsX0_forbidAllButLefts wsX0_forbidUnlessLeft := goodIn_r _ [18, 14, 19, 20, 21, 22, 23, 24, 25, 26, 27, 9, 10, 11, 5, 12, 7, 13, 8, 32, 33, 34, 35, 36, 37, 28, 29, 30, 31, 38, 39, 40, 41, 42] (by decide +kernel) (by decide +kernel)
set_option maxRecDepth 20000 in
theorem gX0_forbidAllButLefts_X0_forbidUnlessLeft : GoodIn wsX0_forbidAllButLefts (wsV RX0 61 RX0 yX0_forbidUnlessLeft wsX0_forbidUnlessLeft) := goodIn_app (goodIn_of _ (by decide +kernel)) ggX0_forbidAllButLefts_X0_forbidUnlessLeft
theorem dX0_forbidAllButLefts_0 : decode cX0_forbidAllButLefts 0 = .ok (.aload_n 0, 1) := by decide +kernel
theorem dX0_forbidAllButLefts_1 : decode cX0_forbidAllButLefts 1 = .ok (.invokevirtual 31, 3) := by decide +kernel
theorem dX0_forbidAllButLefts_4 : decode cX0_forbidAllButLefts 4 = .ok (.iconst 0, 1) := by decide +kernel
theorem dX0_forbidAllButLefts_5 : decode cX0_forbidAllButLefts 5 = .ok (.istore_n 2, 1) := by decide +kernel
theorem dX0_forbidAllButLefts_6 : decode cX0_forbidAllButLefts 6 = .ok (.iload_n 2, 1) := by decide +kernel
theorem dX0_forbidAllButLefts_7 : decode cX0_forbidAllButLefts 7 = .ok (.aload_n 1, 1) := by decide +kernel
theorem dX0_forbidAllButLefts_8 : decode cX0_forbidAllButLefts 8 = .ok (.getfield 54, 3) := by decide +kernel
theorem dX0_forbidAllButLefts_11 : decode cX0_forbidAllButLefts 11 = .ok (.if_icmp .ge 16, 3) := by decide +kernel
theorem dX0_forbidAllButLefts_14 : decode cX0_forbidAllButLefts 14 = .ok (.aload_n 0, 1) := by decide +kernel
theorem dX0_forbidAllButLefts_15 : decode cX0_forbidAllButLefts 15 = .ok (.iload_n 2, 1) := by decide +kernel
theorem dX0_forbidAllButLefts_16 : decode cX0_forbidAllButLefts 16 = .ok (.iconst 0, 1) := by decide +kernel
theorem dX0_forbidAllButLefts_17 : decode cX0_forbidAllButLefts 17 = .ok (.invokevirtual 57, 3) := by decide +kernel
theorem dX0_forbidAllButLefts_20 : decode cX0_forbidAllButLefts 20 = .ok (.pop, 1) := by decide +kernel
theorem dX0_forbidAllButLefts_21 : decode cX0_forbidAllButLefts 21 = .ok (.iinc 2 1, 3) := by decide +kernel
theorem dX0_forbidAllButLefts_24 : decode cX0_forbidAllButLefts 24 = .ok (.goto (-18), 3) := by decide +kernel
theorem dX0_forbidAllButLefts_27 : decode cX0_forbidAllButLefts 27 = .ok (.iconst 0, 1) := by decide +kernel
theorem dX0_forbidAllButLefts_28 : decode cX0_forbidAllButLefts 28 = .ok (.istore_n 2, 1) := by decide +kernel
theorem dX0_forbidAllButLefts_29 : decode cX0_forbidAllButLefts 29 = .ok (.iload_n 2, 1) := by decide +kernel
theorem dX0_forbidAllButLefts_30 : decode cX0_forbidAllButLefts 30 = .ok (.aload_n 1, 1) := by decide +kernel
theorem dX0_forbidAllButLefts_31 : decode cX0_forbidAllButLefts 31 = .ok (.getfield 54, 3) := by decide +kernel
theorem dX0_forbidAllButLefts_34 : decode cX0_forbidAllButLefts 34 = .ok (.if_icmp .ge 41, 3) := by decide +kernel
theorem dX0_forbidAllButLefts_37 : decode cX0_forbidAllButLefts 37 = .ok (.iconst 0, 1) := by decide +kernel
theorem dX0_forbidAllButLefts_38 : decode cX0_forbidAllButLefts 38 = .ok (.istore_n 3, 1) := by decide +kernel
theorem dX0_forbidAllButLefts_39 : decode cX0_forbidAllButLefts 39 = .ok (.iload_n 3, 1) := by decide +kernel
theorem dX0_forbidAllButLefts_40 : decode cX0_forbidAllButLefts 40 = .ok (.aload_n 1, 1) := by decide +kernel
theorem dX0_forbidAllButLefts_41 : decode cX0_forbidAllButLefts 41 = .ok (.getfield 54, 3) := by decide +kernel
theorem dX0_forbidAllButLefts_44 : decode cX0_forbidAllButLefts 44 = .ok (.if_icmp .ge 25, 3) := by decide +kernel
theorem dX0_forbidAllButLefts_47 : decode cX0_forbidAllButLefts 47 = .ok (.aload_n 0, 1) := by decide +kernel
theorem dX0_forbidAllButLefts_48 : decode cX0_forbidAllButLefts 48 = .ok (.aload_n 1, 1) := by decide +kernel
theorem dX0_forbidAllButLefts_49 : decode cX0_forbidAllButLefts 49 = .ok (.iload_n 2, 1) := by decide +kernel
theorem dX0_forbidAllButLefts_50 : decode cX0_forbidAllButLefts 50 = .ok (.iconst 0, 1) := by decide +kernel
theorem dX0_forbidAllButLefts_51 : decode cX0_forbidAllButLefts 51 = .ok (.iload_n 3, 1) := by decide +kernel
theorem dX0_forbidAllButLefts_52 : decode cX0_forbidAllButLefts 52 = .ok (.invokevirtual 61, 3) := by decide +kernel
theorem dX0_forbidAllButLefts_55 : decode cX0_forbidAllButLefts 55 = .ok (.aload_n 0, 1) := by decide +kernel
theorem dX0_forbidAllButLefts_56 : decode cX0_forbidAllButLefts 56 = .ok (.aload_n 1, 1) := by decide +kernel
theorem dX0_forbidAllButLefts_57 : decode cX0_forbidAllButLefts 57 = .ok (.iload_n 2, 1) := by decide +kernel
theorem dX0_forbidAllButLefts_58 : decode cX0_forbidAllButLefts 58 = .ok (.iconst 1, 1) := by decide +kernel
theorem dX0_forbidAllButLefts_59 : decode cX0_forbidAllButLefts 59 = .ok (.iload_n 3, 1) := by decide +kernel
theorem dX0_forbidAllButLefts_60 : decode cX0_forbidAllButLefts 60 = .ok (.invokevirtual 61, 3) := by decide +kernel
theorem dX0_forbidAllButLefts_63 : decode cX0_forbidAllButLefts 63 = .ok (.iinc 3 1, 3) := by decide +kernel
theorem dX0_forbidAllButLefts_66 : decode cX0_forbidAllButLefts 66 = .ok (.goto (-27), 3) := by decide +kernel
theorem dX0_forbidAllButLefts_69 : decode cX0_forbidAllButLefts 69 = .ok (.iinc 2 1, 3) := by decide +kernel
theorem dX0_forbidAllButLefts_72 : decode cX0_forbidAllButLefts 72 = .ok (.goto (-43), 3) := by decide +kernel
theorem dX0_forbidAllButLefts_75 : decode cX0_forbidAllButLefts 75 = .ok (.return_, 1) := by decide +kernel
set_option maxRecDepth 20000 in
theorem ggX0_run_X0_startTallies : GoodIn wsX0_run wsX0_startTallies := goodIn_r _ [6, 7, 8, 9, 10, 11, 12, 13, 14, 15, 16, 17, 18, 19, 20, 21, 22, 23, 24, 25, 26, 27, 28, 29, 30, 31, 32, 33, 34, 35, 36, 37, 38, 74, 75, 76, 77, 78, 79, 80, 81, 82] (by decide +kernel) (by decide +kernel)
set_option maxRecDepth 20000 in
theorem gX0_run_X0_startTallies : GoodIn wsX0_run (wsV RX0 65 RX0 yX0_startTallies wsX0_startTallies) := goodIn_app (goodIn_of _ (by decide +kernel)) ggX0_run_X0_startTallies
set_option maxRecDepth 20000 in
theorem ggX0_run_X8_entriesOf : GoodIn wsX0_run wsX8_entriesOf := goodIn_r _ [43, 44, 45, 70, 71, 72, 73] (by decide +kernel) (by decide +kernel)
set_option maxRecDepth 20000 in
theorem gX0_run_X8_entriesOf : GoodIn wsX0_run (wsV RX0 68 RX8 yX8_entriesOf wsX8_entriesOf) := goodIn_app (goodIn_of _ (by decide +kernel)) ggX0_run_X8_entriesOf
set_option maxRecDepth 20000 in
theorem ggX0_run_X0_treesUnder : GoodIn wsX0_run wsX0_treesUnder := goodIn_r _ [49, 7, 50, 51, 52, 5, 53, 54, 55, 56, 57, 58, 59, 60, 61, 62, 63, 64, 65, 66, 67, 68, 69, 14, 15, 16, 11, 17, 13, 18, 19, 20, 21, 22, 23, 24, 25, 26, 27, 28, 29, 30, 31, 32, 33, 34, 35, 36, 37, 38, 74, 75, 76, 77, 78, 79, 80, 81, 82] (by decide +kernel) (by decide +kernel)
set_option maxRecDepth 20000 in
theorem gX0_run_X0_treesUnder : GoodIn wsX0_run (wsV RX0 72 RX0 yX0_treesUnder wsX0_treesUnder) := goodIn_app (goodIn_of _ (by decide +kernel)) ggX0_run_X0_treesUnder
theorem dX0_run_0 : decode cX0_run 0 = .ok (.aload_n 0, 1) := by decide +kernel
theorem dX0_run_1 : decode cX0_run 1 = .ok (.invokevirtual 65, 3) := by decide +kernel
theorem dX0_run_4 : decode cX0_run 4 = .ok (.aload_n 2, 1) := by decide +kernel
theorem dX0_run_5 : decode cX0_run 5 = .ok (.iconst 1, 1) := by decide +kernel
theorem dX0_run_6 : decode cX0_run 6 = .ok (.lconst 1, 1) := by decide +kernel
theorem dX0_run_7 : decode cX0_run 7 = .ok (.lastore, 1) := by decide +kernel
theorem dX0_run_8 : decode cX0_run 8 = .ok (.iconst 2, 1) := by decide +kernel
theorem dX0_run_9 : decode cX0_run 9 = .ok (.istore_n 3, 1) := by decide +kernel
theorem dX0_run_10 : decode cX0_run 10 = .ok (.iload_n 3, 1) := by decide +kernel
theorem dX0_run_11 : decode cX0_run 11 = .ok (.bipush 6, 2) := by decide +kernel
theorem dX0_run_13 : decode cX0_run 13 = .ok (.if_icmp .gt 50, 3) := by decide +kernel
theorem dX0_run_16 : decode cX0_run 16 = .ok (.aload_n 2, 1) := by decide +kernel
theorem dX0_run_17 : decode cX0_run 17 = .ok (.iload_n 3, 1) := by decide +kernel
theorem dX0_run_18 : decode cX0_run 18 = .ok (.lconst 0, 1) := by decide +kernel
theorem dX0_run_19 : decode cX0_run 19 = .ok (.lastore, 1) := by decide +kernel
theorem dX0_run_20 : decode cX0_run 20 = .ok (.iconst 0, 1) := by decide +kernel
theorem dX0_run_21 : decode cX0_run 21 = .ok (.istore 4, 2) := by decide +kernel
theorem dX0_run_23 : decode cX0_run 23 = .ok (.iload 4, 2) := by decide +kernel
theorem dX0_run_25 : decode cX0_run 25 = .ok (.aload_n 1, 1) := by decide +kernel
theorem dX0_run_26 : decode cX0_run 26 = .ok (.getfield 54, 3) := by decide +kernel
theorem dX0_run_29 : decode cX0_run 29 = .ok (.if_icmp .ge 28, 3) := by decide +kernel
theorem dX0_run_32 : decode cX0_run 32 = .ok (.aload_n 2, 1) := by decide +kernel
theorem dX0_run_33 : decode cX0_run 33 = .ok (.iload_n 3, 1) := by decide +kernel
theorem dX0_run_34 : decode cX0_run 34 = .ok (.dup2, 1) := by decide +kernel
theorem dX0_run_35 : decode cX0_run 35 = .ok (.laload, 1) := by decide +kernel
theorem dX0_run_36 : decode cX0_run 36 = .ok (.aload_n 0, 1) := by decide +kernel
theorem dX0_run_37 : decode cX0_run 37 = .ok (.iload 4, 2) := by decide +kernel
theorem dX0_run_39 : decode cX0_run 39 = .ok (.aload_n 1, 1) := by decide +kernel
theorem dX0_run_40 : decode cX0_run 40 = .ok (.iload 4, 2) := by decide +kernel
theorem dX0_run_42 : decode cX0_run 42 = .ok (.invokevirtual 68, 3) := by decide +kernel
theorem dX0_run_45 : decode cX0_run 45 = .ok (.iload_n 3, 1) := by decide +kernel
theorem dX0_run_46 : decode cX0_run 46 = .ok (.invokevirtual 72, 3) := by decide +kernel
theorem dX0_run_49 : decode cX0_run 49 = .ok (.ladd, 1) := by decide +kernel
theorem dX0_run_50 : decode cX0_run 50 = .ok (.lastore, 1) := by decide +kernel
theorem dX0_run_51 : decode cX0_run 51 = .ok (.iinc 4 1, 3) := by decide +kernel
theorem dX0_run_54 : decode cX0_run 54 = .ok (.goto (-31), 3) := by decide +kernel
theorem dX0_run_57 : decode cX0_run 57 = .ok (.iinc 3 1, 3) := by decide +kernel
theorem dX0_run_60 : decode cX0_run 60 = .ok (.goto (-50), 3) := by decide +kernel
theorem dX0_run_63 : decode cX0_run 63 = .ok (.return_, 1) := by decide +kernel
theorem dX0_clear_0 : decode cX0_clear 0 = .ok (.aload_n 0, 1) := by decide +kernel
theorem dX0_clear_1 : decode cX0_clear 1 = .ok (.iconst 0, 1) := by decide +kernel
theorem dX0_clear_2 : decode cX0_clear 2 = .ok (.putfield 76, 3) := by decide +kernel
theorem dX0_clear_5 : decode cX0_clear 5 = .ok (.aload_n 0, 1) := by decide +kernel
theorem dX0_clear_6 : decode cX0_clear 6 = .ok (.lconst 0, 1) := by decide +kernel
theorem dX0_clear_7 : decode cX0_clear 7 = .ok (.putfield 79, 3) := by decide +kernel
theorem dX0_clear_10 : decode cX0_clear 10 = .ok (.return_, 1) := by decide +kernel
theorem dX0_addNode_0 : decode cX0_addNode 0 = .ok (.aload_n 0, 1) := by decide +kernel
theorem dX0_addNode_1 : decode cX0_addNode 1 = .ok (.getfield 76, 3) := by decide +kernel
theorem dX0_addNode_4 : decode cX0_addNode 4 = .ok (.bipush 36, 2) := by decide +kernel
theorem dX0_addNode_6 : decode cX0_addNode 6 = .ok (.if_icmp .lt 5, 3) := by decide +kernel
theorem dX0_addNode_9 : decode cX0_addNode 9 = .ok (.iconst (-1), 1) := by decide +kernel
theorem dX0_addNode_10 : decode cX0_addNode 10 = .ok (.ireturn, 1) := by decide +kernel
theorem dX0_addNode_11 : decode cX0_addNode 11 = .ok (.aload_n 0, 1) := by decide +kernel
theorem dX0_addNode_12 : decode cX0_addNode 12 = .ok (.getfield 9, 3) := by decide +kernel
theorem dX0_addNode_15 : decode cX0_addNode 15 = .ok (.aload_n 0, 1) := by decide +kernel
theorem dX0_addNode_16 : decode cX0_addNode 16 = .ok (.getfield 76, 3) := by decide +kernel
theorem dX0_addNode_19 : decode cX0_addNode 19 = .ok (.iload_n 1, 1) := by decide +kernel
theorem dX0_addNode_20 : decode cX0_addNode 20 = .ok (.iastore, 1) := by decide +kernel
theorem dX0_addNode_21 : decode cX0_addNode 21 = .ok (.iconst 0, 1) := by decide +kernel
theorem dX0_addNode_22 : decode cX0_addNode 22 = .ok (.istore_n 3, 1) := by decide +kernel
theorem dX0_addNode_23 : decode cX0_addNode 23 = .ok (.iload_n 3, 1) := by decide +kernel
theorem dX0_addNode_24 : decode cX0_addNode 24 = .ok (.iconst 3, 1) := by decide +kernel
theorem dX0_addNode_25 : decode cX0_addNode 25 = .ok (.if_icmp .ge 21, 3) := by decide +kernel
theorem dX0_addNode_28 : decode cX0_addNode 28 = .ok (.aload_n 0, 1) := by decide +kernel
theorem dX0_addNode_29 : decode cX0_addNode 29 = .ok (.getfield 17, 3) := by decide +kernel
theorem dX0_addNode_32 : decode cX0_addNode 32 = .ok (.iload_n 3, 1) := by decide +kernel
theorem dX0_addNode_33 : decode cX0_addNode 33 = .ok (.aaload, 1) := by decide +kernel
theorem dX0_addNode_34 : decode cX0_addNode 34 = .ok (.aload_n 0, 1) := by decide +kernel
theorem dX0_addNode_35 : decode cX0_addNode 35 = .ok (.getfield 76, 3) := by decide +kernel
theorem dX0_addNode_38 : decode cX0_addNode 38 = .ok (.lconst 0, 1) := by decide +kernel
theorem dX0_addNode_39 : decode cX0_addNode 39 = .ok (.lastore, 1) := by decide +kernel
theorem dX0_addNode_40 : decode cX0_addNode 40 = .ok (.iinc 3 1, 3) := by decide +kernel
theorem dX0_addNode_43 : decode cX0_addNode 43 = .ok (.goto (-20), 3) := by decide +kernel
theorem dX0_addNode_46 : decode cX0_addNode 46 = .ok (.iload_n 2, 1) := by decide +kernel
theorem dX0_addNode_47 : decode cX0_addNode 47 = .ok (.ifCond .eq 18, 3) := by decide +kernel
theorem dX0_addNode_50 : decode cX0_addNode 50 = .ok (.aload_n 0, 1) := by decide +kernel
theorem dX0_addNode_51 : decode cX0_addNode 51 = .ok (.dup, 1) := by decide +kernel
theorem dX0_addNode_52 : decode cX0_addNode 52 = .ok (.getfield 79, 3) := by decide +kernel
theorem dX0_addNode_55 : decode cX0_addNode 55 = .ok (.lconst 1, 1) := by decide +kernel
theorem dX0_addNode_56 : decode cX0_addNode 56 = .ok (.aload_n 0, 1) := by decide +kernel
theorem dX0_addNode_57 : decode cX0_addNode 57 = .ok (.getfield 76, 3) := by decide +kernel
theorem dX0_addNode_60 : decode cX0_addNode 60 = .ok (.lshl, 1) := by decide +kernel
theorem dX0_addNode_61 : decode cX0_addNode 61 = .ok (.lor, 1) := by decide +kernel
theorem dX0_addNode_62 : decode cX0_addNode 62 = .ok (.putfield 79, 3) := by decide +kernel
theorem dX0_addNode_65 : decode cX0_addNode 65 = .ok (.aload_n 0, 1) := by decide +kernel
theorem dX0_addNode_66 : decode cX0_addNode 66 = .ok (.dup, 1) := by decide +kernel
theorem dX0_addNode_67 : decode cX0_addNode 67 = .ok (.getfield 76, 3) := by decide +kernel
theorem dX0_addNode_70 : decode cX0_addNode 70 = .ok (.iconst 1, 1) := by decide +kernel
theorem dX0_addNode_71 : decode cX0_addNode 71 = .ok (.iadd, 1) := by decide +kernel
theorem dX0_addNode_72 : decode cX0_addNode 72 = .ok (.putfield 76, 3) := by decide +kernel
theorem dX0_addNode_75 : decode cX0_addNode 75 = .ok (.aload_n 0, 1) := by decide +kernel
theorem dX0_addNode_76 : decode cX0_addNode 76 = .ok (.getfield 76, 3) := by decide +kernel
theorem dX0_addNode_79 : decode cX0_addNode 79 = .ok (.iconst 1, 1) := by decide +kernel
theorem dX0_addNode_80 : decode cX0_addNode 80 = .ok (.isub, 1) := by decide +kernel
theorem dX0_addNode_81 : decode cX0_addNode 81 = .ok (.ireturn, 1) := by decide +kernel
set_option maxRecDepth 20000 in
theorem ggX0_forbid_X0_addNode : GoodIn wsX0_forbid wsX0_addNode := goodIn_r _ [8, 9, 10, 11, 12, 40, 41, 42, 43, 44, 45] (by decide +kernel) (by decide +kernel)
set_option maxRecDepth 20000 in
theorem gX0_forbid_X0_addNode : GoodIn wsX0_forbid (wsV RX0 57 RX0 yX0_addNode wsX0_addNode) := goodIn_app (goodIn_of _ (by decide +kernel)) ggX0_forbid_X0_addNode
set_option maxRecDepth 20000 in
theorem ggX0_forbid_X0_linkEntries : GoodIn wsX0_forbid wsX0_linkEntries := goodIn_r _ [16, 3, 17, 18, 19, 20, 1, 11, 2, 21, 22, 23, 24, 25, 26, 27, 28, 29, 30, 31, 32, 33, 34, 35, 36, 37, 38, 39, 40, 41, 42, 43, 44, 45, 46, 47, 48, 49] (by decide +kernel) (by decide +kernel)
set_option maxRecDepth 20000 in
theorem gX0_forbid_X0_linkEntries : GoodIn wsX0_forbid (wsV RX0 91 RX0 yX0_linkEntries wsX0_linkEntries) := goodIn_app (goodIn_of _ (by decide +kernel)) ggX0_forbid_X0_linkEntries
theorem dX0_forbid_0 : decode cX0_forbid 0 = .ok (.aload_n 2, 1) := by decide +kernel
theorem dX0_forbid_1 : decode cX0_forbid 1 = .ok (.getfield 83, 3) := by decide +kernel
theorem dX0_forbid_4 : decode cX0_forbid 4 = .ok (.iconst 1, 1) := by decide +kernel
theorem dX0_forbid_5 : decode cX0_forbid 5 = .ok (.isub, 1) := by decide +kernel
theorem dX0_forbid_6 : decode cX0_forbid 6 = .ok (.istore_n 3, 1) := by decide +kernel
theorem dX0_forbid_7 : decode cX0_forbid 7 = .ok (.iload_n 3, 1) := by decide +kernel
theorem dX0_forbid_8 : decode cX0_forbid 8 = .ok (.ifCond .lt 76, 3) := by decide +kernel
theorem dX0_forbid_11 : decode cX0_forbid 11 = .ok (.aload_n 0, 1) := by decide +kernel
theorem dX0_forbid_12 : decode cX0_forbid 12 = .ok (.getfield 20, 3) := by decide +kernel
theorem dX0_forbid_15 : decode cX0_forbid 15 = .ok (.iload_n 3, 1) := by decide +kernel
theorem dX0_forbid_16 : decode cX0_forbid 16 = .ok (.lconst 0, 1) := by decide +kernel
theorem dX0_forbid_17 : decode cX0_forbid 17 = .ok (.lastore, 1) := by decide +kernel
theorem dX0_forbid_18 : decode cX0_forbid 18 = .ok (.aload_n 2, 1) := by decide +kernel
theorem dX0_forbid_19 : decode cX0_forbid 19 = .ok (.getfield 88, 3) := by decide +kernel
theorem dX0_forbid_22 : decode cX0_forbid 22 = .ok (.iload_n 3, 1) := by decide +kernel
theorem dX0_forbid_23 : decode cX0_forbid 23 = .ok (.iaload, 1) := by decide +kernel
theorem dX0_forbid_24 : decode cX0_forbid 24 = .ok (.istore 4, 2) := by decide +kernel
theorem dX0_forbid_26 : decode cX0_forbid 26 = .ok (.iload 4, 2) := by decide +kernel
theorem dX0_forbid_28 : decode cX0_forbid 28 = .ok (.iconst (-1), 1) := by decide +kernel
theorem dX0_forbid_29 : decode cX0_forbid 29 = .ok (.if_icmp .ne 7, 3) := by decide +kernel
theorem dX0_forbid_32 : decode cX0_forbid 32 = .ok (.iconst (-1), 1) := by decide +kernel
theorem dX0_forbid_33 : decode cX0_forbid 33 = .ok (.goto 18, 3) := by decide +kernel
theorem dX0_forbid_36 : decode cX0_forbid 36 = .ok (.aload_n 0, 1) := by decide +kernel
theorem dX0_forbid_37 : decode cX0_forbid 37 = .ok (.iload 4, 2) := by decide +kernel
theorem dX0_forbid_39 : decode cX0_forbid 39 = .ok (.iload_n 3, 1) := by decide +kernel
theorem dX0_forbid_40 : decode cX0_forbid 40 = .ok (.ifCond .ne 7, 3) := by decide +kernel
theorem dX0_forbid_43 : decode cX0_forbid 43 = .ok (.iconst 1, 1) := by decide +kernel
theorem dX0_forbid_44 : decode cX0_forbid 44 = .ok (.goto 4, 3) := by decide +kernel
theorem dX0_forbid_47 : decode cX0_forbid 47 = .ok (.iconst 0, 1) := by decide +kernel
theorem dX0_forbid_48 : decode cX0_forbid 48 = .ok (.invokevirtual 57, 3) := by decide +kernel
theorem dX0_forbid_51 : decode cX0_forbid 51 = .ok (.istore 5, 2) := by decide +kernel
theorem dX0_forbid_53 : decode cX0_forbid 53 = .ok (.iload 5, 2) := by decide +kernel
theorem dX0_forbid_55 : decode cX0_forbid 55 = .ok (.iconst (-1), 1) := by decide +kernel
theorem dX0_forbid_56 : decode cX0_forbid 56 = .ok (.if_icmp .eq 22, 3) := by decide +kernel
theorem dX0_forbid_59 : decode cX0_forbid 59 = .ok (.aload_n 0, 1) := by decide +kernel
theorem dX0_forbid_60 : decode cX0_forbid 60 = .ok (.getfield 20, 3) := by decide +kernel
theorem dX0_forbid_63 : decode cX0_forbid 63 = .ok (.iload_n 3, 1) := by decide +kernel
theorem dX0_forbid_64 : decode cX0_forbid 64 = .ok (.lconst 1, 1) := by decide +kernel
theorem dX0_forbid_65 : decode cX0_forbid 65 = .ok (.iload 5, 2) := by decide +kernel
theorem dX0_forbid_67 : decode cX0_forbid 67 = .ok (.lshl, 1) := by decide +kernel
theorem dX0_forbid_68 : decode cX0_forbid 68 = .ok (.lastore, 1) := by decide +kernel
theorem dX0_forbid_69 : decode cX0_forbid 69 = .ok (.aload_n 0, 1) := by decide +kernel
theorem dX0_forbid_70 : decode cX0_forbid 70 = .ok (.aload_n 1, 1) := by decide +kernel
theorem dX0_forbid_71 : decode cX0_forbid 71 = .ok (.aload_n 2, 1) := by decide +kernel
theorem dX0_forbid_72 : decode cX0_forbid 72 = .ok (.iload_n 3, 1) := by decide +kernel
theorem dX0_forbid_73 : decode cX0_forbid 73 = .ok (.iload 5, 2) := by decide +kernel
theorem dX0_forbid_75 : decode cX0_forbid 75 = .ok (.invokevirtual 91, 3) := by decide +kernel
theorem dX0_forbid_78 : decode cX0_forbid 78 = .ok (.iinc 3 (-1), 3) := by decide +kernel
theorem dX0_forbid_81 : decode cX0_forbid 81 = .ok (.goto (-74), 3) := by decide +kernel
theorem dX0_forbid_84 : decode cX0_forbid 84 = .ok (.return_, 1) := by decide +kernel
set_option maxRecDepth 20000 in
theorem ggX0_linkEntries_X8_entriesOf : GoodIn wsX0_linkEntries wsX8_entriesOf := goodIn_r _ [13, 14, 15, 34, 35, 36, 37] (by decide +kernel) (by decide +kernel)
set_option maxRecDepth 20000 in
theorem gX0_linkEntries_X8_entriesOf : GoodIn wsX0_linkEntries (wsV RX0 68 RX8 yX8_entriesOf wsX8_entriesOf) := goodIn_app (goodIn_of _ (by decide +kernel)) ggX0_linkEntries_X8_entriesOf
set_option maxRecDepth 20000 in
theorem ggX0_linkEntries_X8_endOf : GoodIn wsX0_linkEntries wsX8_endOf := goodIn_r _ [19, 20, 21, 4, 22, 23, 24, 25, 10, 11, 12, 13, 14, 15, 26, 27, 34, 35, 36, 37] (by decide +kernel) (by decide +kernel)
set_option maxRecDepth 20000 in
theorem gX0_linkEntries_X8_endOf : GoodIn wsX0_linkEntries (wsV RX0 101 RX8 yX8_endOf wsX8_endOf) := goodIn_app (goodIn_of _ (by decide +kernel)) ggX0_linkEntries_X8_endOf
theorem dX0_linkEntries_0 : decode cX0_linkEntries 0 = .ok (.iload_n 3, 1) := by decide +kernel
theorem dX0_linkEntries_1 : decode cX0_linkEntries 1 = .ok (.iconst 1, 1) := by decide +kernel
theorem dX0_linkEntries_2 : decode cX0_linkEntries 2 = .ok (.iadd, 1) := by decide +kernel
theorem dX0_linkEntries_3 : decode cX0_linkEntries 3 = .ok (.istore 5, 2) := by decide +kernel
theorem dX0_linkEntries_5 : decode cX0_linkEntries 5 = .ok (.aload_n 1, 1) := by decide +kernel
theorem dX0_linkEntries_6 : decode cX0_linkEntries 6 = .ok (.aload_n 2, 1) := by decide +kernel
theorem dX0_linkEntries_7 : decode cX0_linkEntries 7 = .ok (.getfield 88, 3) := by decide +kernel
theorem dX0_linkEntries_10 : decode cX0_linkEntries 10 = .ok (.iload_n 3, 1) := by decide +kernel
theorem dX0_linkEntries_11 : decode cX0_linkEntries 11 = .ok (.iaload, 1) := by decide +kernel
theorem dX0_linkEntries_12 : decode cX0_linkEntries 12 = .ok (.invokevirtual 68, 3) := by decide +kernel
theorem dX0_linkEntries_15 : decode cX0_linkEntries 15 = .ok (.iconst 3, 1) := by decide +kernel
theorem dX0_linkEntries_16 : decode cX0_linkEntries 16 = .ok (.invokestatic 95, 3) := by decide +kernel
theorem dX0_linkEntries_19 : decode cX0_linkEntries 19 = .ok (.istore 6, 2) := by decide +kernel
theorem dX0_linkEntries_21 : decode cX0_linkEntries 21 = .ok (.iconst 0, 1) := by decide +kernel
theorem dX0_linkEntries_22 : decode cX0_linkEntries 22 = .ok (.istore 7, 2) := by decide +kernel
theorem dX0_linkEntries_24 : decode cX0_linkEntries 24 = .ok (.iload 7, 2) := by decide +kernel
theorem dX0_linkEntries_26 : decode cX0_linkEntries 26 = .ok (.iload 6, 2) := by decide +kernel
theorem dX0_linkEntries_28 : decode cX0_linkEntries 28 = .ok (.if_icmp .ge 44, 3) := by decide +kernel
theorem dX0_linkEntries_31 : decode cX0_linkEntries 31 = .ok (.iload 5, 2) := by decide +kernel
theorem dX0_linkEntries_33 : decode cX0_linkEntries 33 = .ok (.aload_n 2, 1) := by decide +kernel
theorem dX0_linkEntries_34 : decode cX0_linkEntries 34 = .ok (.getfield 83, 3) := by decide +kernel
theorem dX0_linkEntries_37 : decode cX0_linkEntries 37 = .ok (.if_icmp .ge 35, 3) := by decide +kernel
theorem dX0_linkEntries_40 : decode cX0_linkEntries 40 = .ok (.aload_n 0, 1) := by decide +kernel
theorem dX0_linkEntries_41 : decode cX0_linkEntries 41 = .ok (.getfield 17, 3) := by decide +kernel
theorem dX0_linkEntries_44 : decode cX0_linkEntries 44 = .ok (.iload 7, 2) := by decide +kernel
theorem dX0_linkEntries_46 : decode cX0_linkEntries 46 = .ok (.aaload, 1) := by decide +kernel
theorem dX0_linkEntries_47 : decode cX0_linkEntries 47 = .ok (.iload 4, 2) := by decide +kernel
theorem dX0_linkEntries_49 : decode cX0_linkEntries 49 = .ok (.aload_n 0, 1) := by decide +kernel
theorem dX0_linkEntries_50 : decode cX0_linkEntries 50 = .ok (.getfield 20, 3) := by decide +kernel
theorem dX0_linkEntries_53 : decode cX0_linkEntries 53 = .ok (.iload 5, 2) := by decide +kernel
theorem dX0_linkEntries_55 : decode cX0_linkEntries 55 = .ok (.laload, 1) := by decide +kernel
theorem dX0_linkEntries_56 : decode cX0_linkEntries 56 = .ok (.lastore, 1) := by decide +kernel
theorem dX0_linkEntries_57 : decode cX0_linkEntries 57 = .ok (.aload_n 1, 1) := by decide +kernel
theorem dX0_linkEntries_58 : decode cX0_linkEntries 58 = .ok (.aload_n 2, 1) := by decide +kernel
theorem dX0_linkEntries_59 : decode cX0_linkEntries 59 = .ok (.iload 5, 2) := by decide +kernel
theorem dX0_linkEntries_61 : decode cX0_linkEntries 61 = .ok (.invokevirtual 101, 3) := by decide +kernel
theorem dX0_linkEntries_64 : decode cX0_linkEntries 64 = .ok (.istore 5, 2) := by decide +kernel
theorem dX0_linkEntries_66 : decode cX0_linkEntries 66 = .ok (.iinc 7 1, 3) := by decide +kernel
theorem dX0_linkEntries_69 : decode cX0_linkEntries 69 = .ok (.goto (-45), 3) := by decide +kernel
theorem dX0_linkEntries_72 : decode cX0_linkEntries 72 = .ok (.return_, 1) := by decide +kernel
set_option maxRecDepth 20000 in
theorem ggX0_forbidUnlessLeft_X8_hasLeft : GoodIn wsX0_forbidUnlessLeft wsX8_hasLeft := goodIn_r _ [6, 7, 8, 9, 10, 25, 26, 27, 28, 29, 30, 31, 32, 33] (by decide +kernel) (by decide +kernel)
set_option maxRecDepth 20000 in
theorem gX0_forbidUnlessLeft_X8_hasLeft : GoodIn wsX0_forbidUnlessLeft (wsV RX0 105 RX8 yX8_hasLeft wsX8_hasLeft) := goodIn_app (goodIn_of _ (by decide +kernel)) ggX0_forbidUnlessLeft_X8_hasLeft
set_option maxRecDepth 20000 in
theorem ggX0_forbidUnlessLeft_X0_addNode : GoodIn wsX0_forbidUnlessLeft wsX0_addNode := goodIn_r _ [15, 16, 17, 1, 18, 19, 20, 21, 22, 23, 24] (by decide +kernel) (by decide +kernel)
set_option maxRecDepth 20000 in
theorem gX0_forbidUnlessLeft_X0_addNode : GoodIn wsX0_forbidUnlessLeft (wsV RX0 57 RX0 yX0_addNode wsX0_addNode) := goodIn_app (goodIn_of _ (by decide +kernel)) ggX0_forbidUnlessLeft_X0_addNode
theorem dX0_forbidUnlessLeft_0 : decode cX0_forbidUnlessLeft 0 = .ok (.aload_n 1, 1) := by decide +kernel
theorem dX0_forbidUnlessLeft_1 : decode cX0_forbidUnlessLeft 1 = .ok (.iload_n 2, 1) := by decide +kernel
theorem dX0_forbidUnlessLeft_2 : decode cX0_forbidUnlessLeft 2 = .ok (.iload_n 3, 1) := by decide +kernel
theorem dX0_forbidUnlessLeft_3 : decode cX0_forbidUnlessLeft 3 = .ok (.iload 4, 2) := by decide +kernel
theorem dX0_forbidUnlessLeft_5 : decode cX0_forbidUnlessLeft 5 = .ok (.invokevirtual 105, 3) := by decide +kernel
theorem dX0_forbidUnlessLeft_8 : decode cX0_forbidUnlessLeft 8 = .ok (.ifCond .eq 4, 3) := by decide +kernel
theorem dX0_forbidUnlessLeft_11 : decode cX0_forbidUnlessLeft 11 = .ok (.return_, 1) := by decide +kernel
theorem dX0_forbidUnlessLeft_12 : decode cX0_forbidUnlessLeft 12 = .ok (.aload_n 0, 1) := by decide +kernel
theorem dX0_forbidUnlessLeft_13 : decode cX0_forbidUnlessLeft 13 = .ok (.iload_n 2, 1) := by decide +kernel
theorem dX0_forbidUnlessLeft_14 : decode cX0_forbidUnlessLeft 14 = .ok (.iconst 1, 1) := by decide +kernel
theorem dX0_forbidUnlessLeft_15 : decode cX0_forbidUnlessLeft 15 = .ok (.invokevirtual 57, 3) := by decide +kernel
theorem dX0_forbidUnlessLeft_18 : decode cX0_forbidUnlessLeft 18 = .ok (.istore 5, 2) := by decide +kernel
theorem dX0_forbidUnlessLeft_20 : decode cX0_forbidUnlessLeft 20 = .ok (.iload 5, 2) := by decide +kernel
theorem dX0_forbidUnlessLeft_22 : decode cX0_forbidUnlessLeft 22 = .ok (.iconst (-1), 1) := by decide +kernel
theorem dX0_forbidUnlessLeft_23 : decode cX0_forbidUnlessLeft 23 = .ok (.if_icmp .eq 16, 3) := by decide +kernel
theorem dX0_forbidUnlessLeft_26 : decode cX0_forbidUnlessLeft 26 = .ok (.aload_n 0, 1) := by decide +kernel
theorem dX0_forbidUnlessLeft_27 : decode cX0_forbidUnlessLeft 27 = .ok (.getfield 17, 3) := by decide +kernel
theorem dX0_forbidUnlessLeft_30 : decode cX0_forbidUnlessLeft 30 = .ok (.iload_n 3, 1) := by decide +kernel
theorem dX0_forbidUnlessLeft_31 : decode cX0_forbidUnlessLeft 31 = .ok (.aaload, 1) := by decide +kernel
theorem dX0_forbidUnlessLeft_32 : decode cX0_forbidUnlessLeft 32 = .ok (.iload 5, 2) := by decide +kernel
theorem dX0_forbidUnlessLeft_34 : decode cX0_forbidUnlessLeft 34 = .ok (.lconst 1, 1) := by decide +kernel
theorem dX0_forbidUnlessLeft_35 : decode cX0_forbidUnlessLeft 35 = .ok (.iload 4, 2) := by decide +kernel
theorem dX0_forbidUnlessLeft_37 : decode cX0_forbidUnlessLeft 37 = .ok (.lshl, 1) := by decide +kernel
theorem dX0_forbidUnlessLeft_38 : decode cX0_forbidUnlessLeft 38 = .ok (.lastore, 1) := by decide +kernel
theorem dX0_forbidUnlessLeft_39 : decode cX0_forbidUnlessLeft 39 = .ok (.return_, 1) := by decide +kernel
set_option maxRecDepth 20000 in
theorem ggX0_startTallies_X7_clear : GoodIn wsX0_startTallies wsX7_clear := goodIn_r _ [6, 7, 39, 40, 41] (by decide +kernel) (by decide +kernel)
set_option maxRecDepth 20000 in
theorem gX0_startTallies_X7_clear : GoodIn wsX0_startTallies (wsV RX0 109 RX7 yX7_clear wsX7_clear) := goodIn_app (goodIn_of _ (by decide +kernel)) ggX0_startTallies_X7_clear
set_option maxRecDepth 20000 in
theorem ggX0_startTallies_X7_add : GoodIn wsX0_startTallies wsX7_add := goodIn_r _ [11, 7, 12, 13, 14, 15, 16, 17, 18, 19, 20, 21, 22, 23, 24, 25, 26, 27, 28, 29, 30, 31, 32, 39, 40, 41] (by decide +kernel) (by decide +kernel)
set_option maxRecDepth 20000 in
theorem gX0_startTallies_X7_add : GoodIn wsX0_startTallies (wsV RX0 110 RX7 yX7_add wsX7_add) := goodIn_app (goodIn_of _ (by decide +kernel)) ggX0_startTallies_X7_add
theorem dX0_startTallies_0 : decode cX0_startTallies 0 = .ok (.iconst 0, 1) := by decide +kernel
theorem dX0_startTallies_1 : decode cX0_startTallies 1 = .ok (.istore_n 1, 1) := by decide +kernel
theorem dX0_startTallies_2 : decode cX0_startTallies 2 = .ok (.iload_n 1, 1) := by decide +kernel
theorem dX0_startTallies_3 : decode cX0_startTallies 3 = .ok (.bipush 6, 2) := by decide +kernel
theorem dX0_startTallies_5 : decode cX0_startTallies 5 = .ok (.if_icmp .ge 18, 3) := by decide +kernel
theorem dX0_startTallies_8 : decode cX0_startTallies 8 = .ok (.aload_n 0, 1) := by decide +kernel
theorem dX0_startTallies_9 : decode cX0_startTallies 9 = .ok (.getfield 26, 3) := by decide +kernel
theorem dX0_startTallies_12 : decode cX0_startTallies 12 = .ok (.iload_n 1, 1) := by decide +kernel
theorem dX0_startTallies_13 : decode cX0_startTallies 13 = .ok (.aaload, 1) := by decide +kernel
theorem dX0_startTallies_14 : decode cX0_startTallies 14 = .ok (.invokevirtual 109, 3) := by decide +kernel
theorem dX0_startTallies_17 : decode cX0_startTallies 17 = .ok (.iinc 1 1, 3) := by decide +kernel
theorem dX0_startTallies_20 : decode cX0_startTallies 20 = .ok (.goto (-18), 3) := by decide +kernel
theorem dX0_startTallies_23 : decode cX0_startTallies 23 = .ok (.aload_n 0, 1) := by decide +kernel
theorem dX0_startTallies_24 : decode cX0_startTallies 24 = .ok (.getfield 26, 3) := by decide +kernel
theorem dX0_startTallies_27 : decode cX0_startTallies 27 = .ok (.iconst 0, 1) := by decide +kernel
theorem dX0_startTallies_28 : decode cX0_startTallies 28 = .ok (.aaload, 1) := by decide +kernel
theorem dX0_startTallies_29 : decode cX0_startTallies 29 = .ok (.lconst 0, 1) := by decide +kernel
theorem dX0_startTallies_30 : decode cX0_startTallies 30 = .ok (.lconst 1, 1) := by decide +kernel
theorem dX0_startTallies_31 : decode cX0_startTallies 31 = .ok (.invokevirtual 110, 3) := by decide +kernel
theorem dX0_startTallies_34 : decode cX0_startTallies 34 = .ok (.aload_n 0, 1) := by decide +kernel
theorem dX0_startTallies_35 : decode cX0_startTallies 35 = .ok (.getfield 26, 3) := by decide +kernel
theorem dX0_startTallies_38 : decode cX0_startTallies 38 = .ok (.iconst 1, 1) := by decide +kernel
theorem dX0_startTallies_39 : decode cX0_startTallies 39 = .ok (.aaload, 1) := by decide +kernel
theorem dX0_startTallies_40 : decode cX0_startTallies 40 = .ok (.lconst 0, 1) := by decide +kernel
theorem dX0_startTallies_41 : decode cX0_startTallies 41 = .ok (.lconst 1, 1) := by decide +kernel
theorem dX0_startTallies_42 : decode cX0_startTallies 42 = .ok (.invokevirtual 110, 3) := by decide +kernel
theorem dX0_startTallies_45 : decode cX0_startTallies 45 = .ok (.return_, 1) := by decide +kernel
set_option maxRecDepth 20000 in
theorem ggX0_treesUnder_X0_join : GoodIn wsX0_treesUnder wsX0_join := goodIn_r _ [6, 7, 8, 9, 10, 11, 12, 13, 5, 14, 15, 16, 17, 18, 19, 20, 21, 22, 1, 23, 24, 25, 26, 27, 28, 29, 30, 31, 32, 33, 34, 35, 36, 37, 38, 39, 40, 41, 42, 43, 44, 45, 46, 47, 48, 49, 56, 57, 58, 50, 51, 52, 53, 54, 55] (by decide +kernel) (by decide +kernel)
set_option maxRecDepth 20000 in
theorem gX0_treesUnder_X0_join : GoodIn wsX0_treesUnder (wsV RX0 114 RX0 yX0_join wsX0_join) := goodIn_app (goodIn_of _ (by decide +kernel)) ggX0_treesUnder_X0_join
theorem dX0_treesUnder_0 : decode cX0_treesUnder 0 = .ok (.lconst 0, 1) := by decide +kernel
theorem dX0_treesUnder_1 : decode cX0_treesUnder 1 = .ok (.lstore 4, 2) := by decide +kernel
theorem dX0_treesUnder_3 : decode cX0_treesUnder 3 = .ok (.iconst 1, 1) := by decide +kernel
theorem dX0_treesUnder_4 : decode cX0_treesUnder 4 = .ok (.istore 6, 2) := by decide +kernel
theorem dX0_treesUnder_6 : decode cX0_treesUnder 6 = .ok (.iload 6, 2) := by decide +kernel
theorem dX0_treesUnder_8 : decode cX0_treesUnder 8 = .ok (.iload_n 3, 1) := by decide +kernel
theorem dX0_treesUnder_9 : decode cX0_treesUnder 9 = .ok (.if_icmp .ge 91, 3) := by decide +kernel
theorem dX0_treesUnder_12 : decode cX0_treesUnder 12 = .ok (.iconst 1, 1) := by decide +kernel
theorem dX0_treesUnder_13 : decode cX0_treesUnder 13 = .ok (.istore 7, 2) := by decide +kernel
theorem dX0_treesUnder_15 : decode cX0_treesUnder 15 = .ok (.iload 7, 2) := by decide +kernel
theorem dX0_treesUnder_17 : decode cX0_treesUnder 17 = .ok (.iload_n 3, 1) := by decide +kernel
theorem dX0_treesUnder_18 : decode cX0_treesUnder 18 = .ok (.iload 6, 2) := by decide +kernel
theorem dX0_treesUnder_20 : decode cX0_treesUnder 20 = .ok (.isub, 1) := by decide +kernel
theorem dX0_treesUnder_21 : decode cX0_treesUnder 21 = .ok (.if_icmp .gt 73, 3) := by decide +kernel
theorem dX0_treesUnder_24 : decode cX0_treesUnder 24 = .ok (.iload_n 3, 1) := by decide +kernel
theorem dX0_treesUnder_25 : decode cX0_treesUnder 25 = .ok (.iload 6, 2) := by decide +kernel
theorem dX0_treesUnder_27 : decode cX0_treesUnder 27 = .ok (.isub, 1) := by decide +kernel
theorem dX0_treesUnder_28 : decode cX0_treesUnder 28 = .ok (.iload 7, 2) := by decide +kernel
theorem dX0_treesUnder_30 : decode cX0_treesUnder 30 = .ok (.isub, 1) := by decide +kernel
theorem dX0_treesUnder_31 : decode cX0_treesUnder 31 = .ok (.istore 8, 2) := by decide +kernel
theorem dX0_treesUnder_33 : decode cX0_treesUnder 33 = .ok (.iload 8, 2) := by decide +kernel
theorem dX0_treesUnder_35 : decode cX0_treesUnder 35 = .ok (.ifCond .le 7, 3) := by decide +kernel
theorem dX0_treesUnder_38 : decode cX0_treesUnder 38 = .ok (.iconst 1, 1) := by decide +kernel
theorem dX0_treesUnder_39 : decode cX0_treesUnder 39 = .ok (.goto 4, 3) := by decide +kernel
theorem dX0_treesUnder_42 : decode cX0_treesUnder 42 = .ok (.iconst 0, 1) := by decide +kernel
theorem dX0_treesUnder_43 : decode cX0_treesUnder 43 = .ok (.iload_n 2, 1) := by decide +kernel
theorem dX0_treesUnder_44 : decode cX0_treesUnder 44 = .ok (.iconst 2, 1) := by decide +kernel
theorem dX0_treesUnder_45 : decode cX0_treesUnder 45 = .ok (.if_icmp .le 7, 3) := by decide +kernel
theorem dX0_treesUnder_48 : decode cX0_treesUnder 48 = .ok (.iconst 1, 1) := by decide +kernel
theorem dX0_treesUnder_49 : decode cX0_treesUnder 49 = .ok (.goto 4, 3) := by decide +kernel
theorem dX0_treesUnder_52 : decode cX0_treesUnder 52 = .ok (.iconst 0, 1) := by decide +kernel
theorem dX0_treesUnder_53 : decode cX0_treesUnder 53 = .ok (.if_icmp .ne 35, 3) := by decide +kernel
theorem dX0_treesUnder_56 : decode cX0_treesUnder 56 = .ok (.lload 4, 2) := by decide +kernel
theorem dX0_treesUnder_58 : decode cX0_treesUnder 58 = .ok (.aload_n 0, 1) := by decide +kernel
theorem dX0_treesUnder_59 : decode cX0_treesUnder 59 = .ok (.iload_n 1, 1) := by decide +kernel
theorem dX0_treesUnder_60 : decode cX0_treesUnder 60 = .ok (.iload_n 3, 1) := by decide +kernel
theorem dX0_treesUnder_61 : decode cX0_treesUnder 61 = .ok (.aload_n 0, 1) := by decide +kernel
theorem dX0_treesUnder_62 : decode cX0_treesUnder 62 = .ok (.getfield 26, 3) := by decide +kernel
theorem dX0_treesUnder_65 : decode cX0_treesUnder 65 = .ok (.iload 6, 2) := by decide +kernel
theorem dX0_treesUnder_67 : decode cX0_treesUnder 67 = .ok (.aaload, 1) := by decide +kernel
theorem dX0_treesUnder_68 : decode cX0_treesUnder 68 = .ok (.aload_n 0, 1) := by decide +kernel
theorem dX0_treesUnder_69 : decode cX0_treesUnder 69 = .ok (.getfield 26, 3) := by decide +kernel
theorem dX0_treesUnder_72 : decode cX0_treesUnder 72 = .ok (.iload 7, 2) := by decide +kernel
theorem dX0_treesUnder_74 : decode cX0_treesUnder 74 = .ok (.aaload, 1) := by decide +kernel
theorem dX0_treesUnder_75 : decode cX0_treesUnder 75 = .ok (.aload_n 0, 1) := by decide +kernel
theorem dX0_treesUnder_76 : decode cX0_treesUnder 76 = .ok (.getfield 26, 3) := by decide +kernel
theorem dX0_treesUnder_79 : decode cX0_treesUnder 79 = .ok (.iload 8, 2) := by decide +kernel
theorem dX0_treesUnder_81 : decode cX0_treesUnder 81 = .ok (.aaload, 1) := by decide +kernel
theorem dX0_treesUnder_82 : decode cX0_treesUnder 82 = .ok (.invokevirtual 114, 3) := by decide +kernel
theorem dX0_treesUnder_85 : decode cX0_treesUnder 85 = .ok (.ladd, 1) := by decide +kernel
theorem dX0_treesUnder_86 : decode cX0_treesUnder 86 = .ok (.lstore 4, 2) := by decide +kernel
theorem dX0_treesUnder_88 : decode cX0_treesUnder 88 = .ok (.iinc 7 1, 3) := by decide +kernel
theorem dX0_treesUnder_91 : decode cX0_treesUnder 91 = .ok (.goto (-76), 3) := by decide +kernel
theorem dX0_treesUnder_94 : decode cX0_treesUnder 94 = .ok (.iinc 6 1, 3) := by decide +kernel
theorem dX0_treesUnder_97 : decode cX0_treesUnder 97 = .ok (.goto (-91), 3) := by decide +kernel
theorem dX0_treesUnder_100 : decode cX0_treesUnder 100 = .ok (.lload 4, 2) := by decide +kernel
theorem dX0_treesUnder_102 : decode cX0_treesUnder 102 = .ok (.lreturn, 1) := by decide +kernel
set_option maxRecDepth 20000 in
theorem ggX0_join_X0_kindOf : GoodIn wsX0_join wsX0_kindOf := goodIn_r _ [9, 10, 11, 12, 13, 49, 50, 51, 52, 53, 54] (by decide +kernel) (by decide +kernel)
set_option maxRecDepth 20000 in
theorem gX0_join_X0_kindOf : GoodIn wsX0_join (wsV RX0 124 RX0 yX0_kindOf wsX0_kindOf) := goodIn_app (goodIn_of _ (by decide +kernel)) ggX0_join_X0_kindOf
set_option maxRecDepth 20000 in
theorem ggX0_join_X0_keep : GoodIn wsX0_join wsX0_keep := goodIn_r _ [17, 18, 19, 20, 21, 22, 23, 24, 25, 26, 27, 28, 29, 30, 31, 32, 33, 34, 35, 36, 37, 38, 39, 40, 41, 42, 43, 44, 45, 49, 50, 51, 52, 53, 54, 46, 47, 48] (by decide +kernel) (by decide +kernel)
set_option maxRecDepth 20000 in
theorem gX0_join_X0_keep : GoodIn wsX0_join (wsV RX0 131 RX0 yX0_keep wsX0_keep) := goodIn_app (goodIn_of _ (by decide +kernel)) ggX0_join_X0_keep
theorem dX0_join_0 : decode cX0_join 0 = .ok (.lconst 0, 1) := by decide +kernel
theorem dX0_join_1 : decode cX0_join 1 = .ok (.lstore 6, 2) := by decide +kernel
theorem dX0_join_3 : decode cX0_join 3 = .ok (.iconst 0, 1) := by decide +kernel
theorem dX0_join_4 : decode cX0_join 4 = .ok (.istore 8, 2) := by decide +kernel
theorem dX0_join_6 : decode cX0_join 6 = .ok (.iload 8, 2) := by decide +kernel
theorem dX0_join_8 : decode cX0_join 8 = .ok (.aload_n 3, 1) := by decide +kernel
theorem dX0_join_9 : decode cX0_join 9 = .ok (.getfield 118, 3) := by decide +kernel
theorem dX0_join_12 : decode cX0_join 12 = .ok (.if_icmp .ge 132, 3) := by decide +kernel
theorem dX0_join_15 : decode cX0_join 15 = .ok (.iconst 0, 1) := by decide +kernel
theorem dX0_join_16 : decode cX0_join 16 = .ok (.istore 9, 2) := by decide +kernel
theorem dX0_join_18 : decode cX0_join 18 = .ok (.iload 9, 2) := by decide +kernel
theorem dX0_join_20 : decode cX0_join 20 = .ok (.aload 4, 2) := by decide +kernel
theorem dX0_join_22 : decode cX0_join 22 = .ok (.getfield 118, 3) := by decide +kernel
theorem dX0_join_25 : decode cX0_join 25 = .ok (.if_icmp .ge 113, 3) := by decide +kernel
theorem dX0_join_28 : decode cX0_join 28 = .ok (.iconst 0, 1) := by decide +kernel
theorem dX0_join_29 : decode cX0_join 29 = .ok (.istore 10, 2) := by decide +kernel
theorem dX0_join_31 : decode cX0_join 31 = .ok (.iload 10, 2) := by decide +kernel
theorem dX0_join_33 : decode cX0_join 33 = .ok (.aload 5, 2) := by decide +kernel
theorem dX0_join_35 : decode cX0_join 35 = .ok (.getfield 118, 3) := by decide +kernel
theorem dX0_join_38 : decode cX0_join 38 = .ok (.if_icmp .ge 94, 3) := by decide +kernel
theorem dX0_join_41 : decode cX0_join 41 = .ok (.aload_n 0, 1) := by decide +kernel
theorem dX0_join_42 : decode cX0_join 42 = .ok (.iload_n 1, 1) := by decide +kernel
theorem dX0_join_43 : decode cX0_join 43 = .ok (.aload_n 3, 1) := by decide +kernel
theorem dX0_join_44 : decode cX0_join 44 = .ok (.getfield 121, 3) := by decide +kernel
theorem dX0_join_47 : decode cX0_join 47 = .ok (.iload 8, 2) := by decide +kernel
theorem dX0_join_49 : decode cX0_join 49 = .ok (.laload, 1) := by decide +kernel
theorem dX0_join_50 : decode cX0_join 50 = .ok (.aload 4, 2) := by decide +kernel
theorem dX0_join_52 : decode cX0_join 52 = .ok (.getfield 121, 3) := by decide +kernel
theorem dX0_join_55 : decode cX0_join 55 = .ok (.iload 9, 2) := by decide +kernel
theorem dX0_join_57 : decode cX0_join 57 = .ok (.laload, 1) := by decide +kernel
theorem dX0_join_58 : decode cX0_join 58 = .ok (.aload 5, 2) := by decide +kernel
theorem dX0_join_60 : decode cX0_join 60 = .ok (.getfield 121, 3) := by decide +kernel
theorem dX0_join_63 : decode cX0_join 63 = .ok (.iload 10, 2) := by decide +kernel
theorem dX0_join_65 : decode cX0_join 65 = .ok (.laload, 1) := by decide +kernel
theorem dX0_join_66 : decode cX0_join 66 = .ok (.invokevirtual 124, 3) := by decide +kernel
theorem dX0_join_69 : decode cX0_join 69 = .ok (.lstore 11, 2) := by decide +kernel
theorem dX0_join_71 : decode cX0_join 71 = .ok (.lload 11, 2) := by decide +kernel
theorem dX0_join_73 : decode cX0_join 73 = .ok (.aload_n 0, 1) := by decide +kernel
theorem dX0_join_74 : decode cX0_join 74 = .ok (.getfield 79, 3) := by decide +kernel
theorem dX0_join_77 : decode cX0_join 77 = .ok (.land, 1) := by decide +kernel
theorem dX0_join_78 : decode cX0_join 78 = .ok (.lconst 0, 1) := by decide +kernel
theorem dX0_join_79 : decode cX0_join 79 = .ok (.lcmp, 1) := by decide +kernel
theorem dX0_join_80 : decode cX0_join 80 = .ok (.ifCond .ne 46, 3) := by decide +kernel
theorem dX0_join_83 : decode cX0_join 83 = .ok (.aload_n 3, 1) := by decide +kernel
theorem dX0_join_84 : decode cX0_join 84 = .ok (.getfield 128, 3) := by decide +kernel
theorem dX0_join_87 : decode cX0_join 87 = .ok (.iload 8, 2) := by decide +kernel
theorem dX0_join_89 : decode cX0_join 89 = .ok (.laload, 1) := by decide +kernel
theorem dX0_join_90 : decode cX0_join 90 = .ok (.aload 4, 2) := by decide +kernel
theorem dX0_join_92 : decode cX0_join 92 = .ok (.getfield 128, 3) := by decide +kernel
theorem dX0_join_95 : decode cX0_join 95 = .ok (.iload 9, 2) := by decide +kernel
theorem dX0_join_97 : decode cX0_join 97 = .ok (.laload, 1) := by decide +kernel
theorem dX0_join_98 : decode cX0_join 98 = .ok (.lmul, 1) := by decide +kernel
theorem dX0_join_99 : decode cX0_join 99 = .ok (.aload 5, 2) := by decide +kernel
theorem dX0_join_101 : decode cX0_join 101 = .ok (.getfield 128, 3) := by decide +kernel
theorem dX0_join_104 : decode cX0_join 104 = .ok (.iload 10, 2) := by decide +kernel
theorem dX0_join_106 : decode cX0_join 106 = .ok (.laload, 1) := by decide +kernel
theorem dX0_join_107 : decode cX0_join 107 = .ok (.lmul, 1) := by decide +kernel
theorem dX0_join_108 : decode cX0_join 108 = .ok (.lstore 13, 2) := by decide +kernel
theorem dX0_join_110 : decode cX0_join 110 = .ok (.lload 6, 2) := by decide +kernel
theorem dX0_join_112 : decode cX0_join 112 = .ok (.lload 13, 2) := by decide +kernel
theorem dX0_join_114 : decode cX0_join 114 = .ok (.ladd, 1) := by decide +kernel
theorem dX0_join_115 : decode cX0_join 115 = .ok (.lstore 6, 2) := by decide +kernel
theorem dX0_join_117 : decode cX0_join 117 = .ok (.aload_n 0, 1) := by decide +kernel
theorem dX0_join_118 : decode cX0_join 118 = .ok (.iload_n 2, 1) := by decide +kernel
theorem dX0_join_119 : decode cX0_join 119 = .ok (.lload 11, 2) := by decide +kernel
theorem dX0_join_121 : decode cX0_join 121 = .ok (.lload 13, 2) := by decide +kernel
theorem dX0_join_123 : decode cX0_join 123 = .ok (.invokevirtual 131, 3) := by decide +kernel
theorem dX0_join_126 : decode cX0_join 126 = .ok (.iinc 10 1, 3) := by decide +kernel
theorem dX0_join_129 : decode cX0_join 129 = .ok (.goto (-98), 3) := by decide +kernel
theorem dX0_join_132 : decode cX0_join 132 = .ok (.iinc 9 1, 3) := by decide +kernel
theorem dX0_join_135 : decode cX0_join 135 = .ok (.goto (-117), 3) := by decide +kernel
theorem dX0_join_138 : decode cX0_join 138 = .ok (.iinc 8 1, 3) := by decide +kernel
theorem dX0_join_141 : decode cX0_join 141 = .ok (.goto (-135), 3) := by decide +kernel
theorem dX0_join_144 : decode cX0_join 144 = .ok (.lload 6, 2) := by decide +kernel
theorem dX0_join_146 : decode cX0_join 146 = .ok (.lreturn, 1) := by decide +kernel
set_option maxRecDepth 20000 in
theorem ggX0_keep_X7_add : GoodIn wsX0_keep wsX7_add := goodIn_r _ [6, 7, 8, 9, 10, 11, 12, 13, 14, 15, 16, 17, 18, 19, 20, 21, 22, 23, 24, 25, 26, 27, 28, 35, 36, 37] (by decide +kernel) (by decide +kernel)
set_option maxRecDepth 20000 in
theorem gX0_keep_X7_add : GoodIn wsX0_keep (wsV RX0 110 RX7 yX7_add wsX7_add) := goodIn_app (goodIn_of _ (by decide +kernel)) ggX0_keep_X7_add
theorem dX0_keep_0 : decode cX0_keep 0 = .ok (.iload_n 1, 1) := by decide +kernel
theorem dX0_keep_1 : decode cX0_keep 1 = .ok (.ifCond .lt 21, 3) := by decide +kernel
theorem dX0_keep_4 : decode cX0_keep 4 = .ok (.iload_n 1, 1) := by decide +kernel
theorem dX0_keep_5 : decode cX0_keep 5 = .ok (.bipush 6, 2) := by decide +kernel
theorem dX0_keep_7 : decode cX0_keep 7 = .ok (.if_icmp .ge 15, 3) := by decide +kernel
theorem dX0_keep_10 : decode cX0_keep 10 = .ok (.aload_n 0, 1) := by decide +kernel
theorem dX0_keep_11 : decode cX0_keep 11 = .ok (.getfield 26, 3) := by decide +kernel
theorem dX0_keep_14 : decode cX0_keep 14 = .ok (.iload_n 1, 1) := by decide +kernel
theorem dX0_keep_15 : decode cX0_keep 15 = .ok (.aaload, 1) := by decide +kernel
theorem dX0_keep_16 : decode cX0_keep 16 = .ok (.lload_n 2, 1) := by decide +kernel
theorem dX0_keep_17 : decode cX0_keep 17 = .ok (.lload 4, 2) := by decide +kernel
theorem dX0_keep_19 : decode cX0_keep 19 = .ok (.invokevirtual 110, 3) := by decide +kernel
theorem dX0_keep_22 : decode cX0_keep 22 = .ok (.return_, 1) := by decide +kernel
theorem dX0_kindOf_0 : decode cX0_kindOf 0 = .ok (.lconst 0, 1) := by decide +kernel
theorem dX0_kindOf_1 : decode cX0_kindOf 1 = .ok (.lstore 8, 2) := by decide +kernel
theorem dX0_kindOf_3 : decode cX0_kindOf 3 = .ok (.iconst 0, 1) := by decide +kernel
theorem dX0_kindOf_4 : decode cX0_kindOf 4 = .ok (.istore 10, 2) := by decide +kernel
theorem dX0_kindOf_6 : decode cX0_kindOf 6 = .ok (.iload 10, 2) := by decide +kernel
theorem dX0_kindOf_8 : decode cX0_kindOf 8 = .ok (.aload_n 0, 1) := by decide +kernel
theorem dX0_kindOf_9 : decode cX0_kindOf 9 = .ok (.getfield 76, 3) := by decide +kernel
theorem dX0_kindOf_12 : decode cX0_kindOf 12 = .ok (.if_icmp .ge 91, 3) := by decide +kernel
theorem dX0_kindOf_15 : decode cX0_kindOf 15 = .ok (.aload_n 0, 1) := by decide +kernel
theorem dX0_kindOf_16 : decode cX0_kindOf 16 = .ok (.getfield 9, 3) := by decide +kernel
theorem dX0_kindOf_19 : decode cX0_kindOf 19 = .ok (.iload 10, 2) := by decide +kernel
theorem dX0_kindOf_21 : decode cX0_kindOf 21 = .ok (.iaload, 1) := by decide +kernel
theorem dX0_kindOf_22 : decode cX0_kindOf 22 = .ok (.iload_n 1, 1) := by decide +kernel
theorem dX0_kindOf_23 : decode cX0_kindOf 23 = .ok (.if_icmp .ne 74, 3) := by decide +kernel
theorem dX0_kindOf_26 : decode cX0_kindOf 26 = .ok (.aload_n 0, 1) := by decide +kernel
theorem dX0_kindOf_27 : decode cX0_kindOf 27 = .ok (.getfield 17, 3) := by decide +kernel
theorem dX0_kindOf_30 : decode cX0_kindOf 30 = .ok (.iconst 0, 1) := by decide +kernel
theorem dX0_kindOf_31 : decode cX0_kindOf 31 = .ok (.aaload, 1) := by decide +kernel
theorem dX0_kindOf_32 : decode cX0_kindOf 32 = .ok (.iload 10, 2) := by decide +kernel
theorem dX0_kindOf_34 : decode cX0_kindOf 34 = .ok (.laload, 1) := by decide +kernel
theorem dX0_kindOf_35 : decode cX0_kindOf 35 = .ok (.lload_n 2, 1) := by decide +kernel
theorem dX0_kindOf_36 : decode cX0_kindOf 36 = .ok (.ldc2_w 135, 3) := by decide +kernel
theorem dX0_kindOf_39 : decode cX0_kindOf 39 = .ok (.lxor, 1) := by decide +kernel
theorem dX0_kindOf_40 : decode cX0_kindOf 40 = .ok (.land, 1) := by decide +kernel
theorem dX0_kindOf_41 : decode cX0_kindOf 41 = .ok (.lconst 0, 1) := by decide +kernel
theorem dX0_kindOf_42 : decode cX0_kindOf 42 = .ok (.lcmp, 1) := by decide +kernel
theorem dX0_kindOf_43 : decode cX0_kindOf 43 = .ok (.ifCond .ne 54, 3) := by decide +kernel
theorem dX0_kindOf_46 : decode cX0_kindOf 46 = .ok (.aload_n 0, 1) := by decide +kernel
theorem dX0_kindOf_47 : decode cX0_kindOf 47 = .ok (.getfield 17, 3) := by decide +kernel
theorem dX0_kindOf_50 : decode cX0_kindOf 50 = .ok (.iconst 1, 1) := by decide +kernel
theorem dX0_kindOf_51 : decode cX0_kindOf 51 = .ok (.aaload, 1) := by decide +kernel
theorem dX0_kindOf_52 : decode cX0_kindOf 52 = .ok (.iload 10, 2) := by decide +kernel
theorem dX0_kindOf_54 : decode cX0_kindOf 54 = .ok (.laload, 1) := by decide +kernel
theorem dX0_kindOf_55 : decode cX0_kindOf 55 = .ok (.lload 4, 2) := by decide +kernel
theorem dX0_kindOf_57 : decode cX0_kindOf 57 = .ok (.ldc2_w 135, 3) := by decide +kernel
theorem dX0_kindOf_60 : decode cX0_kindOf 60 = .ok (.lxor, 1) := by decide +kernel
theorem dX0_kindOf_61 : decode cX0_kindOf 61 = .ok (.land, 1) := by decide +kernel
theorem dX0_kindOf_62 : decode cX0_kindOf 62 = .ok (.lconst 0, 1) := by decide +kernel
theorem dX0_kindOf_63 : decode cX0_kindOf 63 = .ok (.lcmp, 1) := by decide +kernel
theorem dX0_kindOf_64 : decode cX0_kindOf 64 = .ok (.ifCond .ne 33, 3) := by decide +kernel
theorem dX0_kindOf_67 : decode cX0_kindOf 67 = .ok (.aload_n 0, 1) := by decide +kernel
theorem dX0_kindOf_68 : decode cX0_kindOf 68 = .ok (.getfield 17, 3) := by decide +kernel
theorem dX0_kindOf_71 : decode cX0_kindOf 71 = .ok (.iconst 2, 1) := by decide +kernel
theorem dX0_kindOf_72 : decode cX0_kindOf 72 = .ok (.aaload, 1) := by decide +kernel
theorem dX0_kindOf_73 : decode cX0_kindOf 73 = .ok (.iload 10, 2) := by decide +kernel
theorem dX0_kindOf_75 : decode cX0_kindOf 75 = .ok (.laload, 1) := by decide +kernel
theorem dX0_kindOf_76 : decode cX0_kindOf 76 = .ok (.lload 6, 2) := by decide +kernel
theorem dX0_kindOf_78 : decode cX0_kindOf 78 = .ok (.ldc2_w 135, 3) := by decide +kernel
theorem dX0_kindOf_81 : decode cX0_kindOf 81 = .ok (.lxor, 1) := by decide +kernel
theorem dX0_kindOf_82 : decode cX0_kindOf 82 = .ok (.land, 1) := by decide +kernel
theorem dX0_kindOf_83 : decode cX0_kindOf 83 = .ok (.lconst 0, 1) := by decide +kernel
theorem dX0_kindOf_84 : decode cX0_kindOf 84 = .ok (.lcmp, 1) := by decide +kernel
theorem dX0_kindOf_85 : decode cX0_kindOf 85 = .ok (.ifCond .ne 12, 3) := by decide +kernel
theorem dX0_kindOf_88 : decode cX0_kindOf 88 = .ok (.lload 8, 2) := by decide +kernel
theorem dX0_kindOf_90 : decode cX0_kindOf 90 = .ok (.lconst 1, 1) := by decide +kernel
theorem dX0_kindOf_91 : decode cX0_kindOf 91 = .ok (.iload 10, 2) := by decide +kernel
theorem dX0_kindOf_93 : decode cX0_kindOf 93 = .ok (.lshl, 1) := by decide +kernel
theorem dX0_kindOf_94 : decode cX0_kindOf 94 = .ok (.lor, 1) := by decide +kernel
theorem dX0_kindOf_95 : decode cX0_kindOf 95 = .ok (.lstore 8, 2) := by decide +kernel
theorem dX0_kindOf_97 : decode cX0_kindOf 97 = .ok (.iinc 10 1, 3) := by decide +kernel
theorem dX0_kindOf_100 : decode cX0_kindOf 100 = .ok (.goto (-94), 3) := by decide +kernel
theorem dX0_kindOf_103 : decode cX0_kindOf 103 = .ok (.lload 8, 2) := by decide +kernel
theorem dX0_kindOf_105 : decode cX0_kindOf 105 = .ok (.lreturn, 1) := by decide +kernel
set_option maxRecDepth 20000 in
theorem ggX1_init_X3_init : GoodIn wsX1_init wsX3_init := goodIn_r _ [9, 10, 2, 3, 11, 12, 13, 14] (by decide +kernel) (by decide +kernel)
set_option maxRecDepth 20000 in
theorem gX1_init_X3_init_n11 : GoodIn wsX1_init (wsX3_init) := ggX1_init_X3_init
theorem dX1_init_0 : decode cX1_init 0 = .ok (.aload_n 0, 1) := by decide +kernel
theorem dX1_init_1 : decode cX1_init 1 = .ok (.invokespecial 3, 3) := by decide +kernel
theorem dX1_init_4 : decode cX1_init 4 = .ok (.aload_n 0, 1) := by decide +kernel
theorem dX1_init_5 : decode cX1_init 5 = .ok (.new 9, 3) := by decide +kernel
theorem dX1_init_8 : decode cX1_init 8 = .ok (.dup, 1) := by decide +kernel
theorem dX1_init_9 : decode cX1_init 9 = .ok (.invokespecial 11, 3) := by decide +kernel
theorem dX1_init_12 : decode cX1_init 12 = .ok (.putfield 12, 3) := by decide +kernel
theorem dX1_init_15 : decode cX1_init 15 = .ok (.return_, 1) := by decide +kernel
theorem dX1_restart_0 : decode cX1_restart 0 = .ok (.aload_n 0, 1) := by decide +kernel
theorem dX1_restart_1 : decode cX1_restart 1 = .ok (.iconst (-1), 1) := by decide +kernel
theorem dX1_restart_2 : decode cX1_restart 2 = .ok (.putfield 18, 3) := by decide +kernel
theorem dX1_restart_5 : decode cX1_restart 5 = .ok (.return_, 1) := by decide +kernel
set_option maxRecDepth 20000 in
theorem ggX1_next_X1_mayOverlap : GoodIn wsX1_next wsX1_mayOverlap := goodIn_r _ [11, 2, 3, 4, 5, 6, 12, 13, 14, 15, 16, 17, 18, 19, 60, 61, 62, 63, 64, 65, 66, 67, 68, 69, 70, 71, 72, 73] (by decide +kernel) (by decide +kernel)
set_option maxRecDepth 20000 in
theorem gX1_next_X1_mayOverlap : GoodIn wsX1_next (wsV RX1 31 RX1 yX1_mayOverlap wsX1_mayOverlap) := goodIn_app (goodIn_of _ (by decide +kernel)) ggX1_next_X1_mayOverlap
set_option maxRecDepth 20000 in
theorem ggX1_next_X1_merge : GoodIn wsX1_next wsX1_merge := goodIn_r _ [23, 24, 4, 12, 13, 25, 26, 27, 28, 29, 30, 31, 32, 33, 34, 35, 36, 37, 38, 39, 40, 41, 42, 43, 44, 45, 46, 17, 47, 48, 49, 50, 51, 52, 53, 54, 55, 56, 57, 58, 59, 60, 61, 62, 63, 64, 72, 73, 65, 66, 67, 68] (by decide +kernel) (by decide +kernel)
set_option maxRecDepth 20000 in
theorem gX1_next_X1_merge : GoodIn wsX1_next (wsV RX1 46 RX1 yX1_merge wsX1_merge) := goodIn_app (goodIn_of _ (by decide +kernel)) ggX1_next_X1_merge
theorem dX1_next_0 : decode cX1_next 0 = .ok (.aload_n 0, 1) := by decide +kernel
theorem dX1_next_1 : decode cX1_next 1 = .ok (.dup, 1) := by decide +kernel
theorem dX1_next_2 : decode cX1_next 2 = .ok (.getfield 18, 3) := by decide +kernel
theorem dX1_next_5 : decode cX1_next 5 = .ok (.iconst 1, 1) := by decide +kernel
theorem dX1_next_6 : decode cX1_next 6 = .ok (.iadd, 1) := by decide +kernel
theorem dX1_next_7 : decode cX1_next 7 = .ok (.putfield 18, 3) := by decide +kernel
theorem dX1_next_10 : decode cX1_next 10 = .ok (.aload_n 0, 1) := by decide +kernel
theorem dX1_next_11 : decode cX1_next 11 = .ok (.getfield 18, 3) := by decide +kernel
theorem dX1_next_14 : decode cX1_next 14 = .ok (.sipush 832, 3) := by decide +kernel
theorem dX1_next_17 : decode cX1_next 17 = .ok (.if_icmp .ge 94, 3) := by decide +kernel
theorem dX1_next_20 : decode cX1_next 20 = .ok (.aload_n 0, 1) := by decide +kernel
theorem dX1_next_21 : decode cX1_next 21 = .ok (.aload_n 0, 1) := by decide +kernel
theorem dX1_next_22 : decode cX1_next 22 = .ok (.getfield 18, 3) := by decide +kernel
theorem dX1_next_25 : decode cX1_next 25 = .ok (.bipush 104, 2) := by decide +kernel
theorem dX1_next_27 : decode cX1_next 27 = .ok (.idiv, 1) := by decide +kernel
theorem dX1_next_28 : decode cX1_next 28 = .ok (.putfield 22, 3) := by decide +kernel
theorem dX1_next_31 : decode cX1_next 31 = .ok (.aload_n 0, 1) := by decide +kernel
theorem dX1_next_32 : decode cX1_next 32 = .ok (.aload_n 0, 1) := by decide +kernel
theorem dX1_next_33 : decode cX1_next 33 = .ok (.getfield 18, 3) := by decide +kernel
theorem dX1_next_36 : decode cX1_next 36 = .ok (.bipush 13, 2) := by decide +kernel
theorem dX1_next_38 : decode cX1_next 38 = .ok (.idiv, 1) := by decide +kernel
theorem dX1_next_39 : decode cX1_next 39 = .ok (.bipush 8, 2) := by decide +kernel
theorem dX1_next_41 : decode cX1_next 41 = .ok (.irem, 1) := by decide +kernel
theorem dX1_next_42 : decode cX1_next 42 = .ok (.putfield 25, 3) := by decide +kernel
theorem dX1_next_45 : decode cX1_next 45 = .ok (.aload_n 0, 1) := by decide +kernel
theorem dX1_next_46 : decode cX1_next 46 = .ok (.aload_n 0, 1) := by decide +kernel
theorem dX1_next_47 : decode cX1_next 47 = .ok (.getfield 18, 3) := by decide +kernel
theorem dX1_next_50 : decode cX1_next 50 = .ok (.bipush 13, 2) := by decide +kernel
theorem dX1_next_52 : decode cX1_next 52 = .ok (.irem, 1) := by decide +kernel
theorem dX1_next_53 : decode cX1_next 53 = .ok (.putfield 28, 3) := by decide +kernel
theorem dX1_next_56 : decode cX1_next 56 = .ok (.aload_n 0, 1) := by decide +kernel
theorem dX1_next_57 : decode cX1_next 57 = .ok (.aload_n 1, 1) := by decide +kernel
theorem dX1_next_58 : decode cX1_next 58 = .ok (.invokevirtual 31, 3) := by decide +kernel
theorem dX1_next_61 : decode cX1_next 61 = .ok (.ifCond .eq 37, 3) := by decide +kernel
theorem dX1_next_64 : decode cX1_next 64 = .ok (.aload_n 0, 1) := by decide +kernel
theorem dX1_next_65 : decode cX1_next 65 = .ok (.aload_n 1, 1) := by decide +kernel
theorem dX1_next_66 : decode cX1_next 66 = .ok (.aload_n 1, 1) := by decide +kernel
theorem dX1_next_67 : decode cX1_next 67 = .ok (.getfield 35, 3) := by decide +kernel
theorem dX1_next_70 : decode cX1_next 70 = .ok (.aload_n 0, 1) := by decide +kernel
theorem dX1_next_71 : decode cX1_next 71 = .ok (.getfield 22, 3) := by decide +kernel
theorem dX1_next_74 : decode cX1_next 74 = .ok (.aaload, 1) := by decide +kernel
theorem dX1_next_75 : decode cX1_next 75 = .ok (.getfield 41, 3) := by decide +kernel
theorem dX1_next_78 : decode cX1_next 78 = .ok (.aload_n 1, 1) := by decide +kernel
theorem dX1_next_79 : decode cX1_next 79 = .ok (.getfield 35, 3) := by decide +kernel
theorem dX1_next_82 : decode cX1_next 82 = .ok (.aload_n 0, 1) := by decide +kernel
theorem dX1_next_83 : decode cX1_next 83 = .ok (.getfield 25, 3) := by decide +kernel
theorem dX1_next_86 : decode cX1_next 86 = .ok (.aaload, 1) := by decide +kernel
theorem dX1_next_87 : decode cX1_next 87 = .ok (.getfield 41, 3) := by decide +kernel
theorem dX1_next_90 : decode cX1_next 90 = .ok (.invokevirtual 46, 3) := by decide +kernel
theorem dX1_next_93 : decode cX1_next 93 = .ok (.ifCond .eq 5, 3) := by decide +kernel
theorem dX1_next_96 : decode cX1_next 96 = .ok (.iconst 1, 1) := by decide +kernel
theorem dX1_next_97 : decode cX1_next 97 = .ok (.ireturn, 1) := by decide +kernel
theorem dX1_next_98 : decode cX1_next 98 = .ok (.aload_n 0, 1) := by decide +kernel
theorem dX1_next_99 : decode cX1_next 99 = .ok (.dup, 1) := by decide +kernel
theorem dX1_next_100 : decode cX1_next 100 = .ok (.getfield 18, 3) := by decide +kernel
theorem dX1_next_103 : decode cX1_next 103 = .ok (.iconst 1, 1) := by decide +kernel
theorem dX1_next_104 : decode cX1_next 104 = .ok (.iadd, 1) := by decide +kernel
theorem dX1_next_105 : decode cX1_next 105 = .ok (.putfield 18, 3) := by decide +kernel
theorem dX1_next_108 : decode cX1_next 108 = .ok (.goto (-98), 3) := by decide +kernel
theorem dX1_next_111 : decode cX1_next 111 = .ok (.iconst 0, 1) := by decide +kernel
theorem dX1_next_112 : decode cX1_next 112 = .ok (.ireturn, 1) := by decide +kernel
set_option maxRecDepth 20000 in
theorem ggX1_mayOverlap_X8_isRule : GoodIn wsX1_mayOverlap wsX8_isRule := goodIn_r _ [12, 13, 19, 20, 21, 22] (by decide +kernel) (by decide +kernel)
set_option maxRecDepth 20000 in
theorem gX1_mayOverlap_X8_isRule : GoodIn wsX1_mayOverlap (wsV RX1 50 RX8 yX8_isRule wsX8_isRule) := goodIn_app (goodIn_of _ (by decide +kernel)) ggX1_mayOverlap_X8_isRule
theorem dX1_mayOverlap_0 : decode cX1_mayOverlap 0 = .ok (.aload_n 1, 1) := by decide +kernel
theorem dX1_mayOverlap_1 : decode cX1_mayOverlap 1 = .ok (.aload_n 0, 1) := by decide +kernel
theorem dX1_mayOverlap_2 : decode cX1_mayOverlap 2 = .ok (.getfield 22, 3) := by decide +kernel
theorem dX1_mayOverlap_5 : decode cX1_mayOverlap 5 = .ok (.invokevirtual 50, 3) := by decide +kernel
theorem dX1_mayOverlap_8 : decode cX1_mayOverlap 8 = .ok (.ifCond .eq 32, 3) := by decide +kernel
theorem dX1_mayOverlap_11 : decode cX1_mayOverlap 11 = .ok (.aload_n 1, 1) := by decide +kernel
theorem dX1_mayOverlap_12 : decode cX1_mayOverlap 12 = .ok (.aload_n 0, 1) := by decide +kernel
theorem dX1_mayOverlap_13 : decode cX1_mayOverlap 13 = .ok (.getfield 25, 3) := by decide +kernel
theorem dX1_mayOverlap_16 : decode cX1_mayOverlap 16 = .ok (.invokevirtual 50, 3) := by decide +kernel
theorem dX1_mayOverlap_19 : decode cX1_mayOverlap 19 = .ok (.ifCond .eq 21, 3) := by decide +kernel
theorem dX1_mayOverlap_22 : decode cX1_mayOverlap 22 = .ok (.aload_n 0, 1) := by decide +kernel
theorem dX1_mayOverlap_23 : decode cX1_mayOverlap 23 = .ok (.getfield 28, 3) := by decide +kernel
theorem dX1_mayOverlap_26 : decode cX1_mayOverlap 26 = .ok (.ifCond .ne 16, 3) := by decide +kernel
theorem dX1_mayOverlap_29 : decode cX1_mayOverlap 29 = .ok (.aload_n 0, 1) := by decide +kernel
theorem dX1_mayOverlap_30 : decode cX1_mayOverlap 30 = .ok (.getfield 22, 3) := by decide +kernel
theorem dX1_mayOverlap_33 : decode cX1_mayOverlap 33 = .ok (.aload_n 0, 1) := by decide +kernel
theorem dX1_mayOverlap_34 : decode cX1_mayOverlap 34 = .ok (.getfield 25, 3) := by decide +kernel
theorem dX1_mayOverlap_37 : decode cX1_mayOverlap 37 = .ok (.if_icmp .lt 5, 3) := by decide +kernel
theorem dX1_mayOverlap_40 : decode cX1_mayOverlap 40 = .ok (.iconst 0, 1) := by decide +kernel
theorem dX1_mayOverlap_41 : decode cX1_mayOverlap 41 = .ok (.ireturn, 1) := by decide +kernel
theorem dX1_mayOverlap_42 : decode cX1_mayOverlap 42 = .ok (.aload_n 1, 1) := by decide +kernel
theorem dX1_mayOverlap_43 : decode cX1_mayOverlap 43 = .ok (.getfield 35, 3) := by decide +kernel
theorem dX1_mayOverlap_46 : decode cX1_mayOverlap 46 = .ok (.aload_n 0, 1) := by decide +kernel
theorem dX1_mayOverlap_47 : decode cX1_mayOverlap 47 = .ok (.getfield 22, 3) := by decide +kernel
theorem dX1_mayOverlap_50 : decode cX1_mayOverlap 50 = .ok (.aaload, 1) := by decide +kernel
theorem dX1_mayOverlap_51 : decode cX1_mayOverlap 51 = .ok (.getfield 41, 3) := by decide +kernel
theorem dX1_mayOverlap_54 : decode cX1_mayOverlap 54 = .ok (.astore_n 2, 1) := by decide +kernel
theorem dX1_mayOverlap_55 : decode cX1_mayOverlap 55 = .ok (.aload_n 0, 1) := by decide +kernel
theorem dX1_mayOverlap_56 : decode cX1_mayOverlap 56 = .ok (.getfield 28, 3) := by decide +kernel
theorem dX1_mayOverlap_59 : decode cX1_mayOverlap 59 = .ok (.aload_n 2, 1) := by decide +kernel
theorem dX1_mayOverlap_60 : decode cX1_mayOverlap 60 = .ok (.getfield 54, 3) := by decide +kernel
theorem dX1_mayOverlap_63 : decode cX1_mayOverlap 63 = .ok (.if_icmp .ge 20, 3) := by decide +kernel
theorem dX1_mayOverlap_66 : decode cX1_mayOverlap 66 = .ok (.aload_n 2, 1) := by decide +kernel
theorem dX1_mayOverlap_67 : decode cX1_mayOverlap 67 = .ok (.getfield 57, 3) := by decide +kernel
theorem dX1_mayOverlap_70 : decode cX1_mayOverlap 70 = .ok (.aload_n 0, 1) := by decide +kernel
theorem dX1_mayOverlap_71 : decode cX1_mayOverlap 71 = .ok (.getfield 28, 3) := by decide +kernel
theorem dX1_mayOverlap_74 : decode cX1_mayOverlap 74 = .ok (.iaload, 1) := by decide +kernel
theorem dX1_mayOverlap_75 : decode cX1_mayOverlap 75 = .ok (.iconst (-1), 1) := by decide +kernel
theorem dX1_mayOverlap_76 : decode cX1_mayOverlap 76 = .ok (.if_icmp .eq 7, 3) := by decide +kernel
theorem dX1_mayOverlap_79 : decode cX1_mayOverlap 79 = .ok (.iconst 1, 1) := by decide +kernel
theorem dX1_mayOverlap_80 : decode cX1_mayOverlap 80 = .ok (.goto 4, 3) := by decide +kernel
theorem dX1_mayOverlap_83 : decode cX1_mayOverlap 83 = .ok (.iconst 0, 1) := by decide +kernel
theorem dX1_mayOverlap_84 : decode cX1_mayOverlap 84 = .ok (.ireturn, 1) := by decide +kernel
set_option maxRecDepth 20000 in
theorem ggX1_merge_X3_clear : GoodIn wsX1_merge wsX3_clear := goodIn_r _ [9, 10, 46, 47] (by decide +kernel) (by decide +kernel)
set_option maxRecDepth 20000 in
theorem gX1_merge_X3_clear : GoodIn wsX1_merge (wsV RX1 61 RX3 yX3_clear wsX3_clear) := goodIn_app (goodIn_of _ (by decide +kernel)) ggX1_merge_X3_clear
set_option maxRecDepth 20000 in
theorem ggX1_merge_X3_addPart : GoodIn wsX1_merge wsX3_addPart := goodIn_r _ [14, 10, 15, 16, 17, 18, 19, 46, 47] (by decide +kernel) (by decide +kernel)
set_option maxRecDepth 20000 in
theorem gX1_merge_X3_addPart : GoodIn wsX1_merge (wsV RX1 64 RX3 yX3_addPart wsX3_addPart) := goodIn_app (goodIn_of _ (by decide +kernel)) ggX1_merge_X3_addPart
set_option maxRecDepth 20000 in
theorem ggX1_merge_X3_add : GoodIn wsX1_merge wsX3_add := goodIn_r _ [23, 10, 15, 46, 47] (by decide +kernel) (by decide +kernel)
set_option maxRecDepth 20000 in
theorem gX1_merge_X3_add : GoodIn wsX1_merge (wsV RX1 68 RX3 yX3_add wsX3_add) := goodIn_app (goodIn_of _ (by decide +kernel)) ggX1_merge_X3_add
set_option maxRecDepth 20000 in
theorem ggX1_merge_X8_endOf : GoodIn wsX1_merge wsX8_endOf := goodIn_r _ [28, 29, 30, 31, 32, 33, 34, 35, 36, 37, 27, 38, 39, 40, 46, 47, 48, 49, 50, 51] (by decide +kernel) (by decide +kernel)
set_option maxRecDepth 20000 in
theorem gX1_merge_X8_endOf : GoodIn wsX1_merge (wsV RX1 71 RX8 yX8_endOf wsX8_endOf) := goodIn_app (goodIn_of _ (by decide +kernel)) ggX1_merge_X8_endOf
theorem dX1_merge_0 : decode cX1_merge 0 = .ok (.aload_n 0, 1) := by decide +kernel
theorem dX1_merge_1 : decode cX1_merge 1 = .ok (.getfield 12, 3) := by decide +kernel
theorem dX1_merge_4 : decode cX1_merge 4 = .ok (.invokevirtual 61, 3) := by decide +kernel
theorem dX1_merge_7 : decode cX1_merge 7 = .ok (.aload_n 0, 1) := by decide +kernel
theorem dX1_merge_8 : decode cX1_merge 8 = .ok (.getfield 12, 3) := by decide +kernel
theorem dX1_merge_11 : decode cX1_merge 11 = .ok (.aload_n 2, 1) := by decide +kernel
theorem dX1_merge_12 : decode cX1_merge 12 = .ok (.iconst 0, 1) := by decide +kernel
theorem dX1_merge_13 : decode cX1_merge 13 = .ok (.aload_n 0, 1) := by decide +kernel
theorem dX1_merge_14 : decode cX1_merge 14 = .ok (.getfield 28, 3) := by decide +kernel
theorem dX1_merge_17 : decode cX1_merge 17 = .ok (.invokevirtual 64, 3) := by decide +kernel
theorem dX1_merge_20 : decode cX1_merge 20 = .ok (.pop, 1) := by decide +kernel
theorem dX1_merge_21 : decode cX1_merge 21 = .ok (.aload_n 0, 1) := by decide +kernel
theorem dX1_merge_22 : decode cX1_merge 22 = .ok (.getfield 28, 3) := by decide +kernel
theorem dX1_merge_25 : decode cX1_merge 25 = .ok (.istore 4, 2) := by decide +kernel
theorem dX1_merge_27 : decode cX1_merge 27 = .ok (.iconst 0, 1) := by decide +kernel
theorem dX1_merge_28 : decode cX1_merge 28 = .ok (.istore 5, 2) := by decide +kernel
theorem dX1_merge_30 : decode cX1_merge 30 = .ok (.iconst 0, 1) := by decide +kernel
theorem dX1_merge_31 : decode cX1_merge 31 = .ok (.istore 6, 2) := by decide +kernel
theorem dX1_merge_33 : decode cX1_merge 33 = .ok (.iload 6, 2) := by decide +kernel
theorem dX1_merge_35 : decode cX1_merge 35 = .ok (.bipush 13, 2) := by decide +kernel
theorem dX1_merge_37 : decode cX1_merge 37 = .ok (.if_icmp .ge 156, 3) := by decide +kernel
theorem dX1_merge_40 : decode cX1_merge 40 = .ok (.iload 4, 2) := by decide +kernel
theorem dX1_merge_42 : decode cX1_merge 42 = .ok (.aload_n 2, 1) := by decide +kernel
theorem dX1_merge_43 : decode cX1_merge 43 = .ok (.getfield 54, 3) := by decide +kernel
theorem dX1_merge_46 : decode cX1_merge 46 = .ok (.if_icmp .ge 147, 3) := by decide +kernel
theorem dX1_merge_49 : decode cX1_merge 49 = .ok (.iload 5, 2) := by decide +kernel
theorem dX1_merge_51 : decode cX1_merge 51 = .ok (.aload_n 3, 1) := by decide +kernel
theorem dX1_merge_52 : decode cX1_merge 52 = .ok (.getfield 54, 3) := by decide +kernel
theorem dX1_merge_55 : decode cX1_merge 55 = .ok (.if_icmp .ge 138, 3) := by decide +kernel
theorem dX1_merge_58 : decode cX1_merge 58 = .ok (.aload_n 2, 1) := by decide +kernel
theorem dX1_merge_59 : decode cX1_merge 59 = .ok (.getfield 57, 3) := by decide +kernel
theorem dX1_merge_62 : decode cX1_merge 62 = .ok (.iload 4, 2) := by decide +kernel
theorem dX1_merge_64 : decode cX1_merge 64 = .ok (.iaload, 1) := by decide +kernel
theorem dX1_merge_65 : decode cX1_merge 65 = .ok (.aload_n 3, 1) := by decide +kernel
theorem dX1_merge_66 : decode cX1_merge 66 = .ok (.getfield 57, 3) := by decide +kernel
theorem dX1_merge_69 : decode cX1_merge 69 = .ok (.iload 5, 2) := by decide +kernel
theorem dX1_merge_71 : decode cX1_merge 71 = .ok (.iaload, 1) := by decide +kernel
theorem dX1_merge_72 : decode cX1_merge 72 = .ok (.if_icmp .ne 27, 3) := by decide +kernel
theorem dX1_merge_75 : decode cX1_merge 75 = .ok (.aload_n 0, 1) := by decide +kernel
theorem dX1_merge_76 : decode cX1_merge 76 = .ok (.getfield 12, 3) := by decide +kernel
theorem dX1_merge_79 : decode cX1_merge 79 = .ok (.aload_n 2, 1) := by decide +kernel
theorem dX1_merge_80 : decode cX1_merge 80 = .ok (.getfield 57, 3) := by decide +kernel
theorem dX1_merge_83 : decode cX1_merge 83 = .ok (.iload 4, 2) := by decide +kernel
theorem dX1_merge_85 : decode cX1_merge 85 = .ok (.iaload, 1) := by decide +kernel
theorem dX1_merge_86 : decode cX1_merge 86 = .ok (.invokevirtual 68, 3) := by decide +kernel
theorem dX1_merge_89 : decode cX1_merge 89 = .ok (.pop, 1) := by decide +kernel
theorem dX1_merge_90 : decode cX1_merge 90 = .ok (.iinc 4 1, 3) := by decide +kernel
theorem dX1_merge_93 : decode cX1_merge 93 = .ok (.iinc 5 1, 3) := by decide +kernel
theorem dX1_merge_96 : decode cX1_merge 96 = .ok (.goto 91, 3) := by decide +kernel
theorem dX1_merge_99 : decode cX1_merge 99 = .ok (.aload_n 2, 1) := by decide +kernel
theorem dX1_merge_100 : decode cX1_merge 100 = .ok (.getfield 57, 3) := by decide +kernel
theorem dX1_merge_103 : decode cX1_merge 103 = .ok (.iload 4, 2) := by decide +kernel
theorem dX1_merge_105 : decode cX1_merge 105 = .ok (.iaload, 1) := by decide +kernel
theorem dX1_merge_106 : decode cX1_merge 106 = .ok (.iconst (-1), 1) := by decide +kernel
theorem dX1_merge_107 : decode cX1_merge 107 = .ok (.if_icmp .ne 35, 3) := by decide +kernel
theorem dX1_merge_110 : decode cX1_merge 110 = .ok (.aload_n 1, 1) := by decide +kernel
theorem dX1_merge_111 : decode cX1_merge 111 = .ok (.aload_n 3, 1) := by decide +kernel
theorem dX1_merge_112 : decode cX1_merge 112 = .ok (.iload 5, 2) := by decide +kernel
theorem dX1_merge_114 : decode cX1_merge 114 = .ok (.invokevirtual 71, 3) := by decide +kernel
theorem dX1_merge_117 : decode cX1_merge 117 = .ok (.istore 7, 2) := by decide +kernel
theorem dX1_merge_119 : decode cX1_merge 119 = .ok (.aload_n 0, 1) := by decide +kernel
theorem dX1_merge_120 : decode cX1_merge 120 = .ok (.getfield 12, 3) := by decide +kernel
theorem dX1_merge_123 : decode cX1_merge 123 = .ok (.aload_n 3, 1) := by decide +kernel
theorem dX1_merge_124 : decode cX1_merge 124 = .ok (.iload 5, 2) := by decide +kernel
theorem dX1_merge_126 : decode cX1_merge 126 = .ok (.iload 7, 2) := by decide +kernel
theorem dX1_merge_128 : decode cX1_merge 128 = .ok (.invokevirtual 64, 3) := by decide +kernel
theorem dX1_merge_131 : decode cX1_merge 131 = .ok (.pop, 1) := by decide +kernel
theorem dX1_merge_132 : decode cX1_merge 132 = .ok (.iinc 4 1, 3) := by decide +kernel
theorem dX1_merge_135 : decode cX1_merge 135 = .ok (.iload 7, 2) := by decide +kernel
theorem dX1_merge_137 : decode cX1_merge 137 = .ok (.istore 5, 2) := by decide +kernel
theorem dX1_merge_139 : decode cX1_merge 139 = .ok (.goto 48, 3) := by decide +kernel
theorem dX1_merge_142 : decode cX1_merge 142 = .ok (.aload_n 3, 1) := by decide +kernel
theorem dX1_merge_143 : decode cX1_merge 143 = .ok (.getfield 57, 3) := by decide +kernel
theorem dX1_merge_146 : decode cX1_merge 146 = .ok (.iload 5, 2) := by decide +kernel
theorem dX1_merge_148 : decode cX1_merge 148 = .ok (.iaload, 1) := by decide +kernel
theorem dX1_merge_149 : decode cX1_merge 149 = .ok (.iconst (-1), 1) := by decide +kernel
theorem dX1_merge_150 : decode cX1_merge 150 = .ok (.if_icmp .ne 35, 3) := by decide +kernel
theorem dX1_merge_153 : decode cX1_merge 153 = .ok (.aload_n 1, 1) := by decide +kernel
theorem dX1_merge_154 : decode cX1_merge 154 = .ok (.aload_n 2, 1) := by decide +kernel
theorem dX1_merge_155 : decode cX1_merge 155 = .ok (.iload 4, 2) := by decide +kernel
theorem dX1_merge_157 : decode cX1_merge 157 = .ok (.invokevirtual 71, 3) := by decide +kernel
theorem dX1_merge_160 : decode cX1_merge 160 = .ok (.istore 7, 2) := by decide +kernel
theorem dX1_merge_162 : decode cX1_merge 162 = .ok (.aload_n 0, 1) := by decide +kernel
theorem dX1_merge_163 : decode cX1_merge 163 = .ok (.getfield 12, 3) := by decide +kernel
theorem dX1_merge_166 : decode cX1_merge 166 = .ok (.aload_n 2, 1) := by decide +kernel
theorem dX1_merge_167 : decode cX1_merge 167 = .ok (.iload 4, 2) := by decide +kernel
theorem dX1_merge_169 : decode cX1_merge 169 = .ok (.iload 7, 2) := by decide +kernel
theorem dX1_merge_171 : decode cX1_merge 171 = .ok (.invokevirtual 64, 3) := by decide +kernel
theorem dX1_merge_174 : decode cX1_merge 174 = .ok (.pop, 1) := by decide +kernel
theorem dX1_merge_175 : decode cX1_merge 175 = .ok (.iload 7, 2) := by decide +kernel
theorem dX1_merge_177 : decode cX1_merge 177 = .ok (.istore 4, 2) := by decide +kernel
theorem dX1_merge_179 : decode cX1_merge 179 = .ok (.iinc 5 1, 3) := by decide +kernel
theorem dX1_merge_182 : decode cX1_merge 182 = .ok (.goto 5, 3) := by decide +kernel
theorem dX1_merge_185 : decode cX1_merge 185 = .ok (.iconst 0, 1) := by decide +kernel
theorem dX1_merge_186 : decode cX1_merge 186 = .ok (.ireturn, 1) := by decide +kernel
theorem dX1_merge_187 : decode cX1_merge 187 = .ok (.iinc 6 1, 3) := by decide +kernel
theorem dX1_merge_190 : decode cX1_merge 190 = .ok (.goto (-157), 3) := by decide +kernel
theorem dX1_merge_193 : decode cX1_merge 193 = .ok (.aload_n 0, 1) := by decide +kernel
theorem dX1_merge_194 : decode cX1_merge 194 = .ok (.getfield 12, 3) := by decide +kernel
theorem dX1_merge_197 : decode cX1_merge 197 = .ok (.aload_n 2, 1) := by decide +kernel
theorem dX1_merge_198 : decode cX1_merge 198 = .ok (.iload 4, 2) := by decide +kernel
theorem dX1_merge_200 : decode cX1_merge 200 = .ok (.aload_n 2, 1) := by decide +kernel
theorem dX1_merge_201 : decode cX1_merge 201 = .ok (.getfield 54, 3) := by decide +kernel
theorem dX1_merge_204 : decode cX1_merge 204 = .ok (.invokevirtual 64, 3) := by decide +kernel
theorem dX1_merge_207 : decode cX1_merge 207 = .ok (.ireturn, 1) := by decide +kernel
set_option maxRecDepth 20000 in
theorem ggX2_init_X6_init : GoodIn wsX2_init wsX6_init := goodIn_r _ [17, 18, 2, 3, 8, 19, 24] (by decide +kernel) (by decide +kernel)
set_option maxRecDepth 20000 in
theorem gX2_init_X6_init_n11 : GoodIn wsX2_init (wsX6_init) := ggX2_init_X6_init
set_option maxRecDepth 20000 in
theorem ggX2_init_X3_init : GoodIn wsX2_init wsX3_init := goodIn_r _ [21, 22, 2, 3, 8, 23, 30, 31] (by decide +kernel) (by decide +kernel)
set_option maxRecDepth 20000 in
theorem gX2_init_X3_init_n24 : GoodIn wsX2_init (wsX3_init) := ggX2_init_X3_init
theorem dX2_init_0 : decode cX2_init 0 = .ok (.aload_n 0, 1) := by decide +kernel
theorem dX2_init_1 : decode cX2_init 1 = .ok (.invokespecial 3, 3) := by decide +kernel
theorem dX2_init_4 : decode cX2_init 4 = .ok (.aload_n 0, 1) := by decide +kernel
theorem dX2_init_5 : decode cX2_init 5 = .ok (.new 9, 3) := by decide +kernel
theorem dX2_init_8 : decode cX2_init 8 = .ok (.dup, 1) := by decide +kernel
theorem dX2_init_9 : decode cX2_init 9 = .ok (.invokespecial 11, 3) := by decide +kernel
theorem dX2_init_12 : decode cX2_init 12 = .ok (.putfield 12, 3) := by decide +kernel
theorem dX2_init_15 : decode cX2_init 15 = .ok (.aload_n 0, 1) := by decide +kernel
theorem dX2_init_16 : decode cX2_init 16 = .ok (.bipush 60, 2) := by decide +kernel
theorem dX2_init_18 : decode cX2_init 18 = .ok (.newarray .int, 2) := by decide +kernel
theorem dX2_init_20 : decode cX2_init 20 = .ok (.putfield 18, 3) := by decide +kernel
theorem dX2_init_23 : decode cX2_init 23 = .ok (.aload_n 0, 1) := by decide +kernel
theorem dX2_init_24 : decode cX2_init 24 = .ok (.new 22, 3) := by decide +kernel
theorem dX2_init_27 : decode cX2_init 27 = .ok (.dup, 1) := by decide +kernel
theorem dX2_init_28 : decode cX2_init 28 = .ok (.invokespecial 24, 3) := by decide +kernel
theorem dX2_init_31 : decode cX2_init 31 = .ok (.putfield 25, 3) := by decide +kernel
theorem dX2_init_34 : decode cX2_init 34 = .ok (.aload_n 0, 1) := by decide +kernel
theorem dX2_init_35 : decode cX2_init 35 = .ok (.new 22, 3) := by decide +kernel
theorem dX2_init_38 : decode cX2_init 38 = .ok (.dup, 1) := by decide +kernel
theorem dX2_init_39 : decode cX2_init 39 = .ok (.invokespecial 24, 3) := by decide +kernel
theorem dX2_init_42 : decode cX2_init 42 = .ok (.putfield 29, 3) := by decide +kernel
theorem dX2_init_45 : decode cX2_init 45 = .ok (.aload_n 0, 1) := by decide +kernel
theorem dX2_init_46 : decode cX2_init 46 = .ok (.new 22, 3) := by decide +kernel
theorem dX2_init_49 : decode cX2_init 49 = .ok (.dup, 1) := by decide +kernel
theorem dX2_init_50 : decode cX2_init 50 = .ok (.invokespecial 24, 3) := by decide +kernel
theorem dX2_init_53 : decode cX2_init 53 = .ok (.putfield 32, 3) := by decide +kernel
theorem dX2_init_56 : decode cX2_init 56 = .ok (.return_, 1) := by decide +kernel
set_option maxRecDepth 20000 in
theorem ggX2_firstPlace_X6_measure : GoodIn wsX2_firstPlace wsX6_measure := goodIn_r _ [8, 9, 10, 11, 12, 13, 14, 15, 16, 17, 18, 32, 33, 37, 38, 39, 40, 41] (by decide +kernel) (by decide +kernel)
set_option maxRecDepth 20000 in
theorem gX2_firstPlace_X6_measure : GoodIn wsX2_firstPlace (wsV RX2 35 RX6 yX6_measure wsX6_measure) := goodIn_app (goodIn_of _ (by decide +kernel)) ggX2_firstPlace_X6_measure
set_option maxRecDepth 20000 in
theorem ggX2_firstPlace_X2_fits : GoodIn wsX2_firstPlace wsX2_fits := goodIn_r _ [23, 2, 24, 25, 1, 26, 32, 33, 27, 28, 29, 30, 31, 37] (by decide +kernel) (by decide +kernel)
set_option maxRecDepth 20000 in
theorem gX2_firstPlace_X2_fits : GoodIn wsX2_firstPlace (wsV RX2 48 RX2 yX2_fits wsX2_fits) := goodIn_app (goodIn_of _ (by decide +kernel)) ggX2_firstPlace_X2_fits
theorem dX2_firstPlace_0 : decode cX2_firstPlace 0 = .ok (.aload_n 0, 1) := by decide +kernel
theorem dX2_firstPlace_1 : decode cX2_firstPlace 1 = .ok (.getfield 12, 3) := by decide +kernel
theorem dX2_firstPlace_4 : decode cX2_firstPlace 4 = .ok (.aload_n 1, 1) := by decide +kernel
theorem dX2_firstPlace_5 : decode cX2_firstPlace 5 = .ok (.aload_n 3, 1) := by decide +kernel
theorem dX2_firstPlace_6 : decode cX2_firstPlace 6 = .ok (.invokevirtual 35, 3) := by decide +kernel
theorem dX2_firstPlace_9 : decode cX2_firstPlace 9 = .ok (.iconst 0, 1) := by decide +kernel
theorem dX2_firstPlace_10 : decode cX2_firstPlace 10 = .ok (.istore 4, 2) := by decide +kernel
theorem dX2_firstPlace_12 : decode cX2_firstPlace 12 = .ok (.iload 4, 2) := by decide +kernel
theorem dX2_firstPlace_14 : decode cX2_firstPlace 14 = .ok (.aload_n 3, 1) := by decide +kernel
theorem dX2_firstPlace_15 : decode cX2_firstPlace 15 = .ok (.getfield 39, 3) := by decide +kernel
theorem dX2_firstPlace_18 : decode cX2_firstPlace 18 = .ok (.if_icmp .ge 26, 3) := by decide +kernel
theorem dX2_firstPlace_21 : decode cX2_firstPlace 21 = .ok (.aload_n 0, 1) := by decide +kernel
theorem dX2_firstPlace_22 : decode cX2_firstPlace 22 = .ok (.aload_n 2, 1) := by decide +kernel
theorem dX2_firstPlace_23 : decode cX2_firstPlace 23 = .ok (.getfield 43, 3) := by decide +kernel
theorem dX2_firstPlace_26 : decode cX2_firstPlace 26 = .ok (.aload_n 3, 1) := by decide +kernel
theorem dX2_firstPlace_27 : decode cX2_firstPlace 27 = .ok (.iload 4, 2) := by decide +kernel
theorem dX2_firstPlace_29 : decode cX2_firstPlace 29 = .ok (.invokevirtual 48, 3) := by decide +kernel
theorem dX2_firstPlace_32 : decode cX2_firstPlace 32 = .ok (.ifCond .eq 6, 3) := by decide +kernel
theorem dX2_firstPlace_35 : decode cX2_firstPlace 35 = .ok (.iload 4, 2) := by decide +kernel
theorem dX2_firstPlace_37 : decode cX2_firstPlace 37 = .ok (.ireturn, 1) := by decide +kernel
theorem dX2_firstPlace_38 : decode cX2_firstPlace 38 = .ok (.iinc 4 1, 3) := by decide +kernel
theorem dX2_firstPlace_41 : decode cX2_firstPlace 41 = .ok (.goto (-29), 3) := by decide +kernel
theorem dX2_firstPlace_44 : decode cX2_firstPlace 44 = .ok (.iconst (-1), 1) := by decide +kernel
theorem dX2_firstPlace_45 : decode cX2_firstPlace 45 = .ok (.ireturn, 1) := by decide +kernel
set_option maxRecDepth 20000 in
theorem ggX2_advance_X6_measure : GoodIn wsX2_advance wsX6_measure := goodIn_r _ [11, 12, 13, 14, 15, 16, 17, 18, 19, 20, 21, 64, 65, 73, 66, 67, 68, 69] (by decide +kernel) (by decide +kernel)
set_option maxRecDepth 20000 in
theorem gX2_advance_X6_measure : GoodIn wsX2_advance (wsV RX2 35 RX6 yX6_measure wsX6_measure) := goodIn_app (goodIn_of _ (by decide +kernel)) ggX2_advance_X6_measure
set_option maxRecDepth 20000 in
theorem ggX2_advance_X2_fits : GoodIn wsX2_advance wsX2_fits := goodIn_r _ [26, 2, 4, 27, 1, 28, 64, 65, 59, 60, 61, 62, 63, 73] (by decide +kernel) (by decide +kernel)
set_option maxRecDepth 20000 in
theorem gX2_advance_X2_fits : GoodIn wsX2_advance (wsV RX2 48 RX2 yX2_fits wsX2_fits) := goodIn_app (goodIn_of _ (by decide +kernel)) ggX2_advance_X2_fits
set_option maxRecDepth 20000 in
theorem ggX2_advance_X2_replace : GoodIn wsX2_advance wsX2_replace := goodIn_r _ [32, 33, 34, 35, 2, 4, 27, 1, 28, 36, 37, 38, 39, 40, 41, 42, 43, 44, 45, 46, 47, 48, 49, 50, 51, 52, 53, 54, 55, 56, 57, 58, 70, 71, 72, 59, 60, 61, 62, 63, 64, 65, 73] (by decide +kernel) (by decide +kernel)
set_option maxRecDepth 20000 in
theorem gX2_advance_X2_replace : GoodIn wsX2_advance (wsV RX2 64 RX2 yX2_replace wsX2_replace) := goodIn_app (goodIn_of _ (by decide +kernel)) ggX2_advance_X2_replace
theorem dX2_advance_0 : decode cX2_advance 0 = .ok (.aload_n 0, 1) := by decide +kernel
theorem dX2_advance_1 : decode cX2_advance 1 = .ok (.getfield 12, 3) := by decide +kernel
theorem dX2_advance_4 : decode cX2_advance 4 = .ok (.aload_n 1, 1) := by decide +kernel
theorem dX2_advance_5 : decode cX2_advance 5 = .ok (.aload_n 2, 1) := by decide +kernel
theorem dX2_advance_6 : decode cX2_advance 6 = .ok (.invokevirtual 35, 3) := by decide +kernel
theorem dX2_advance_9 : decode cX2_advance 9 = .ok (.iconst 0, 1) := by decide +kernel
theorem dX2_advance_10 : decode cX2_advance 10 = .ok (.istore_n 3, 1) := by decide +kernel
theorem dX2_advance_11 : decode cX2_advance 11 = .ok (.iload_n 3, 1) := by decide +kernel
theorem dX2_advance_12 : decode cX2_advance 12 = .ok (.aload_n 2, 1) := by decide +kernel
theorem dX2_advance_13 : decode cX2_advance 13 = .ok (.getfield 39, 3) := by decide +kernel
theorem dX2_advance_16 : decode cX2_advance 16 = .ok (.if_icmp .ge 70, 3) := by decide +kernel
theorem dX2_advance_19 : decode cX2_advance 19 = .ok (.iconst 0, 1) := by decide +kernel
theorem dX2_advance_20 : decode cX2_advance 20 = .ok (.istore 4, 2) := by decide +kernel
theorem dX2_advance_22 : decode cX2_advance 22 = .ok (.iload 4, 2) := by decide +kernel
theorem dX2_advance_24 : decode cX2_advance 24 = .ok (.aload_n 1, 1) := by decide +kernel
theorem dX2_advance_25 : decode cX2_advance 25 = .ok (.getfield 52, 3) := by decide +kernel
theorem dX2_advance_28 : decode cX2_advance 28 = .ok (.if_icmp .ge 52, 3) := by decide +kernel
theorem dX2_advance_31 : decode cX2_advance 31 = .ok (.aload_n 2, 1) := by decide +kernel
theorem dX2_advance_32 : decode cX2_advance 32 = .ok (.getfield 57, 3) := by decide +kernel
theorem dX2_advance_35 : decode cX2_advance 35 = .ok (.iload_n 3, 1) := by decide +kernel
theorem dX2_advance_36 : decode cX2_advance 36 = .ok (.iaload, 1) := by decide +kernel
theorem dX2_advance_37 : decode cX2_advance 37 = .ok (.iconst (-1), 1) := by decide +kernel
theorem dX2_advance_38 : decode cX2_advance 38 = .ok (.if_icmp .eq 42, 3) := by decide +kernel
theorem dX2_advance_41 : decode cX2_advance 41 = .ok (.aload_n 0, 1) := by decide +kernel
theorem dX2_advance_42 : decode cX2_advance 42 = .ok (.aload_n 1, 1) := by decide +kernel
theorem dX2_advance_43 : decode cX2_advance 43 = .ok (.getfield 60, 3) := by decide +kernel
theorem dX2_advance_46 : decode cX2_advance 46 = .ok (.iload 4, 2) := by decide +kernel
theorem dX2_advance_48 : decode cX2_advance 48 = .ok (.aaload, 1) := by decide +kernel
theorem dX2_advance_49 : decode cX2_advance 49 = .ok (.getfield 43, 3) := by decide +kernel
theorem dX2_advance_52 : decode cX2_advance 52 = .ok (.aload_n 2, 1) := by decide +kernel
theorem dX2_advance_53 : decode cX2_advance 53 = .ok (.iload_n 3, 1) := by decide +kernel
theorem dX2_advance_54 : decode cX2_advance 54 = .ok (.invokevirtual 48, 3) := by decide +kernel
theorem dX2_advance_57 : decode cX2_advance 57 = .ok (.ifCond .eq 17, 3) := by decide +kernel
theorem dX2_advance_60 : decode cX2_advance 60 = .ok (.aload_n 0, 1) := by decide +kernel
theorem dX2_advance_61 : decode cX2_advance 61 = .ok (.aload_n 1, 1) := by decide +kernel
theorem dX2_advance_62 : decode cX2_advance 62 = .ok (.getfield 60, 3) := by decide +kernel
theorem dX2_advance_65 : decode cX2_advance 65 = .ok (.iload 4, 2) := by decide +kernel
theorem dX2_advance_67 : decode cX2_advance 67 = .ok (.aaload, 1) := by decide +kernel
theorem dX2_advance_68 : decode cX2_advance 68 = .ok (.aload_n 2, 1) := by decide +kernel
theorem dX2_advance_69 : decode cX2_advance 69 = .ok (.iload_n 3, 1) := by decide +kernel
theorem dX2_advance_70 : decode cX2_advance 70 = .ok (.invokevirtual 64, 3) := by decide +kernel
theorem dX2_advance_73 : decode cX2_advance 73 = .ok (.ireturn, 1) := by decide +kernel
theorem dX2_advance_74 : decode cX2_advance 74 = .ok (.iinc 4 1, 3) := by decide +kernel
theorem dX2_advance_77 : decode cX2_advance 77 = .ok (.goto (-55), 3) := by decide +kernel
theorem dX2_advance_80 : decode cX2_advance 80 = .ok (.iinc 3 1, 3) := by decide +kernel
theorem dX2_advance_83 : decode cX2_advance 83 = .ok (.goto (-72), 3) := by decide +kernel
theorem dX2_advance_86 : decode cX2_advance 86 = .ok (.iconst 0, 1) := by decide +kernel
theorem dX2_advance_87 : decode cX2_advance 87 = .ok (.ireturn, 1) := by decide +kernel
end
section
set_option maxRecDepth 20000 in
theorem ggX2_normalForm_X2_advance : GoodIn wsX2_normalForm wsX2_advance := goodIn_r _ [5, 6, 7, 8, 9, 10, 11, 12, 13, 14, 15, 16, 17, 18, 19, 20, 21, 22, 23, 24, 25, 26, 27, 28, 29, 4, 30, 31, 32, 33, 34, 35, 36, 37, 38, 39, 40, 41, 42, 43, 44, 45, 46, 47, 48, 49, 50, 51, 52, 53, 54, 55, 56, 57, 58, 59, 60, 61, 62, 63, 64, 65, 66, 67, 68, 69, 70, 71, 72, 73, 74, 75, 76, 77] (by decide +kernel) (by decide +kernel)
set_option maxRecDepth 20000 in
theorem gX2_normalForm_X2_advance : GoodIn wsX2_normalForm (wsV RX2 68 RX2 yX2_advance wsX2_advance) := goodIn_app (goodIn_of _ (by decide +kernel)) ggX2_normalForm_X2_advance
theorem dX2_normalForm_0 : decode cX2_normalForm 0 = .ok (.iconst 0, 1) := by decide +kernel
theorem dX2_normalForm_1 : decode cX2_normalForm 1 = .ok (.istore_n 3, 1) := by decide +kernel
theorem dX2_normalForm_2 : decode cX2_normalForm 2 = .ok (.iload_n 3, 1) := by decide +kernel
theorem dX2_normalForm_3 : decode cX2_normalForm 3 = .ok (.sipush 200, 3) := by decide +kernel
theorem dX2_normalForm_6 : decode cX2_normalForm 6 = .ok (.if_icmp .gt 54, 3) := by decide +kernel
theorem dX2_normalForm_9 : decode cX2_normalForm 9 = .ok (.aload_n 0, 1) := by decide +kernel
theorem dX2_normalForm_10 : decode cX2_normalForm 10 = .ok (.aload_n 1, 1) := by decide +kernel
theorem dX2_normalForm_11 : decode cX2_normalForm 11 = .ok (.aload_n 2, 1) := by decide +kernel
theorem dX2_normalForm_12 : decode cX2_normalForm 12 = .ok (.invokevirtual 68, 3) := by decide +kernel
theorem dX2_normalForm_15 : decode cX2_normalForm 15 = .ok (.istore 4, 2) := by decide +kernel
theorem dX2_normalForm_17 : decode cX2_normalForm 17 = .ok (.iload 4, 2) := by decide +kernel
theorem dX2_normalForm_19 : decode cX2_normalForm 19 = .ok (.ifCond .ne 5, 3) := by decide +kernel
theorem dX2_normalForm_22 : decode cX2_normalForm 22 = .ok (.iload_n 3, 1) := by decide +kernel
theorem dX2_normalForm_23 : decode cX2_normalForm 23 = .ok (.ireturn, 1) := by decide +kernel
theorem dX2_normalForm_24 : decode cX2_normalForm 24 = .ok (.iload 4, 2) := by decide +kernel
theorem dX2_normalForm_26 : decode cX2_normalForm 26 = .ok (.bipush (-5), 2) := by decide +kernel
theorem dX2_normalForm_28 : decode cX2_normalForm 28 = .ok (.if_icmp .eq 10, 3) := by decide +kernel
theorem dX2_normalForm_31 : decode cX2_normalForm 31 = .ok (.iload_n 3, 1) := by decide +kernel
theorem dX2_normalForm_32 : decode cX2_normalForm 32 = .ok (.sipush 200, 3) := by decide +kernel
theorem dX2_normalForm_35 : decode cX2_normalForm 35 = .ok (.if_icmp .ne 6, 3) := by decide +kernel
theorem dX2_normalForm_38 : decode cX2_normalForm 38 = .ok (.bipush (-5), 2) := by decide +kernel
theorem dX2_normalForm_40 : decode cX2_normalForm 40 = .ok (.ireturn, 1) := by decide +kernel
theorem dX2_normalForm_41 : decode cX2_normalForm 41 = .ok (.iload 4, 2) := by decide +kernel
theorem dX2_normalForm_43 : decode cX2_normalForm 43 = .ok (.iconst 2, 1) := by decide +kernel
theorem dX2_normalForm_44 : decode cX2_normalForm 44 = .ok (.if_icmp .ne 10, 3) := by decide +kernel
theorem dX2_normalForm_47 : decode cX2_normalForm 47 = .ok (.bipush (-10), 2) := by decide +kernel
theorem dX2_normalForm_49 : decode cX2_normalForm 49 = .ok (.iload_n 3, 1) := by decide +kernel
theorem dX2_normalForm_50 : decode cX2_normalForm 50 = .ok (.isub, 1) := by decide +kernel
theorem dX2_normalForm_51 : decode cX2_normalForm 51 = .ok (.iconst 1, 1) := by decide +kernel
theorem dX2_normalForm_52 : decode cX2_normalForm 52 = .ok (.isub, 1) := by decide +kernel
theorem dX2_normalForm_53 : decode cX2_normalForm 53 = .ok (.ireturn, 1) := by decide +kernel
theorem dX2_normalForm_54 : decode cX2_normalForm 54 = .ok (.iinc 3 1, 3) := by decide +kernel
theorem dX2_normalForm_57 : decode cX2_normalForm 57 = .ok (.goto (-55), 3) := by decide +kernel
theorem dX2_normalForm_60 : decode cX2_normalForm 60 = .ok (.bipush (-5), 2) := by decide +kernel
theorem dX2_normalForm_62 : decode cX2_normalForm 62 = .ok (.ireturn, 1) := by decide +kernel
set_option maxRecDepth 20000 in
theorem ggX2_meet_X3_become : GoodIn wsX2_meet wsX3_become := goodIn_r _ [11, 12, 13, 14, 15, 16, 17, 96, 97] (by decide +kernel) (by decide +kernel)
set_option maxRecDepth 20000 in
theorem gX2_meet_X3_become : GoodIn wsX2_meet (wsV RX2 77 RX3 yX3_become wsX3_become) := goodIn_app (goodIn_of _ (by decide +kernel)) ggX2_meet_X3_become
set_option maxRecDepth 20000 in
theorem ggX2_meet_X2_goDown : GoodIn wsX2_meet wsX2_goDown := goodIn_r _ [22, 23, 24, 25, 26, 27, 28, 29, 30, 31, 32, 33, 34, 35, 36, 37, 38, 39, 40, 41, 42, 43, 44, 45, 46, 47, 48, 21, 49, 50, 51, 52, 53, 54, 55, 56, 57, 58, 59, 60, 61, 62, 63, 10, 64, 13, 65, 66, 67, 68, 12, 14, 15, 16, 17, 69, 70, 71, 72, 7, 8, 9, 11, 73, 74, 75, 76, 77, 78, 79, 80, 81, 86, 87, 88, 89, 90, 98, 99, 100, 101, 102, 103, 104, 96, 97, 105] (by decide +kernel) (by decide +kernel)
set_option maxRecDepth 20000 in
theorem gX2_meet_X2_goDown : GoodIn wsX2_meet (wsV RX2 84 RX2 yX2_goDown wsX2_goDown) := goodIn_app (goodIn_of _ (by decide +kernel)) ggX2_meet_X2_goDown
set_option maxRecDepth 20000 in
theorem ggX2_meet_X3_isLike : GoodIn wsX2_meet wsX3_isLike := goodIn_r _ [85, 13, 12, 96, 97] (by decide +kernel) (by decide +kernel)
set_option maxRecDepth 20000 in
theorem gX2_meet_X3_isLike : GoodIn wsX2_meet (wsV RX2 94 RX3 yX3_isLike wsX3_isLike) := goodIn_app (goodIn_of _ (by decide +kernel)) ggX2_meet_X3_isLike
theorem dX2_meet_0 : decode cX2_meet 0 = .ok (.aload_n 0, 1) := by decide +kernel
theorem dX2_meet_1 : decode cX2_meet 1 = .ok (.getfield 29, 3) := by decide +kernel
theorem dX2_meet_4 : decode cX2_meet 4 = .ok (.aload_n 2, 1) := by decide +kernel
theorem dX2_meet_5 : decode cX2_meet 5 = .ok (.getfield 72, 3) := by decide +kernel
theorem dX2_meet_8 : decode cX2_meet 8 = .ok (.invokevirtual 77, 3) := by decide +kernel
theorem dX2_meet_11 : decode cX2_meet 11 = .ok (.aload_n 0, 1) := by decide +kernel
theorem dX2_meet_12 : decode cX2_meet 12 = .ok (.getfield 32, 3) := by decide +kernel
theorem dX2_meet_15 : decode cX2_meet 15 = .ok (.aload_n 2, 1) := by decide +kernel
theorem dX2_meet_16 : decode cX2_meet 16 = .ok (.getfield 72, 3) := by decide +kernel
theorem dX2_meet_19 : decode cX2_meet 19 = .ok (.invokevirtual 77, 3) := by decide +kernel
theorem dX2_meet_22 : decode cX2_meet 22 = .ok (.aload_n 0, 1) := by decide +kernel
theorem dX2_meet_23 : decode cX2_meet 23 = .ok (.aload_n 1, 1) := by decide +kernel
theorem dX2_meet_24 : decode cX2_meet 24 = .ok (.aload_n 2, 1) := by decide +kernel
theorem dX2_meet_25 : decode cX2_meet 25 = .ok (.getfield 81, 3) := by decide +kernel
theorem dX2_meet_28 : decode cX2_meet 28 = .ok (.aload_n 0, 1) := by decide +kernel
theorem dX2_meet_29 : decode cX2_meet 29 = .ok (.getfield 29, 3) := by decide +kernel
theorem dX2_meet_32 : decode cX2_meet 32 = .ok (.iconst 0, 1) := by decide +kernel
theorem dX2_meet_33 : decode cX2_meet 33 = .ok (.invokevirtual 84, 3) := by decide +kernel
theorem dX2_meet_36 : decode cX2_meet 36 = .ok (.istore_n 3, 1) := by decide +kernel
theorem dX2_meet_37 : decode cX2_meet 37 = .ok (.aload_n 0, 1) := by decide +kernel
theorem dX2_meet_38 : decode cX2_meet 38 = .ok (.aload_n 1, 1) := by decide +kernel
theorem dX2_meet_39 : decode cX2_meet 39 = .ok (.aload_n 2, 1) := by decide +kernel
theorem dX2_meet_40 : decode cX2_meet 40 = .ok (.getfield 88, 3) := by decide +kernel
theorem dX2_meet_43 : decode cX2_meet 43 = .ok (.aload_n 0, 1) := by decide +kernel
theorem dX2_meet_44 : decode cX2_meet 44 = .ok (.getfield 32, 3) := by decide +kernel
theorem dX2_meet_47 : decode cX2_meet 47 = .ok (.aload_n 2, 1) := by decide +kernel
theorem dX2_meet_48 : decode cX2_meet 48 = .ok (.getfield 91, 3) := by decide +kernel
theorem dX2_meet_51 : decode cX2_meet 51 = .ok (.invokevirtual 84, 3) := by decide +kernel
theorem dX2_meet_54 : decode cX2_meet 54 = .ok (.istore 4, 2) := by decide +kernel
theorem dX2_meet_56 : decode cX2_meet 56 = .ok (.iload_n 3, 1) := by decide +kernel
theorem dX2_meet_57 : decode cX2_meet 57 = .ok (.bipush (-5), 2) := by decide +kernel
theorem dX2_meet_59 : decode cX2_meet 59 = .ok (.if_icmp .eq 10, 3) := by decide +kernel
theorem dX2_meet_62 : decode cX2_meet 62 = .ok (.iload 4, 2) := by decide +kernel
theorem dX2_meet_64 : decode cX2_meet 64 = .ok (.bipush (-5), 2) := by decide +kernel
theorem dX2_meet_66 : decode cX2_meet 66 = .ok (.if_icmp .ne 6, 3) := by decide +kernel
theorem dX2_meet_69 : decode cX2_meet 69 = .ok (.bipush (-5), 2) := by decide +kernel
theorem dX2_meet_71 : decode cX2_meet 71 = .ok (.ireturn, 1) := by decide +kernel
theorem dX2_meet_72 : decode cX2_meet 72 = .ok (.aload_n 0, 1) := by decide +kernel
theorem dX2_meet_73 : decode cX2_meet 73 = .ok (.getfield 29, 3) := by decide +kernel
theorem dX2_meet_76 : decode cX2_meet 76 = .ok (.aload_n 0, 1) := by decide +kernel
theorem dX2_meet_77 : decode cX2_meet 77 = .ok (.getfield 32, 3) := by decide +kernel
theorem dX2_meet_80 : decode cX2_meet 80 = .ok (.invokevirtual 94, 3) := by decide +kernel
theorem dX2_meet_83 : decode cX2_meet 83 = .ok (.ifCond .eq 7, 3) := by decide +kernel
theorem dX2_meet_86 : decode cX2_meet 86 = .ok (.iconst 1, 1) := by decide +kernel
theorem dX2_meet_87 : decode cX2_meet 87 = .ok (.goto 4, 3) := by decide +kernel
theorem dX2_meet_90 : decode cX2_meet 90 = .ok (.iconst 0, 1) := by decide +kernel
theorem dX2_meet_91 : decode cX2_meet 91 = .ok (.ireturn, 1) := by decide +kernel
set_option maxRecDepth 20000 in
theorem ggX2_goDown_X6_measure : GoodIn wsX2_goDown wsX6_measure := goodIn_r _ [8, 9, 10, 11, 12, 13, 14, 15, 16, 17, 18, 84, 85, 86, 77, 78, 79, 80] (by decide +kernel) (by decide +kernel)
set_option maxRecDepth 20000 in
theorem gX2_goDown_X6_measure : GoodIn wsX2_goDown (wsV RX2 35 RX6 yX6_measure wsX6_measure) := goodIn_app (goodIn_of _ (by decide +kernel)) ggX2_goDown_X6_measure
set_option maxRecDepth 20000 in
theorem ggX2_goDown_X8_isRule : GoodIn wsX2_goDown wsX8_isRule := goodIn_r _ [22, 23, 77, 78, 79, 80] (by decide +kernel) (by decide +kernel)
set_option maxRecDepth 20000 in
theorem gX2_goDown_X8_isRule : GoodIn wsX2_goDown (wsV RX2 98 RX8 yX8_isRule wsX8_isRule) := goodIn_app (goodIn_of _ (by decide +kernel)) ggX2_goDown_X8_isRule
set_option maxRecDepth 20000 in
theorem ggX2_goDown_X2_fits : GoodIn wsX2_goDown wsX2_fits := goodIn_r _ [28, 29, 30, 31, 1, 32, 84, 85, 72, 73, 74, 75, 76, 86] (by decide +kernel) (by decide +kernel)
set_option maxRecDepth 20000 in
theorem gX2_goDown_X2_fits : GoodIn wsX2_goDown (wsV RX2 48 RX2 yX2_fits wsX2_fits) := goodIn_app (goodIn_of _ (by decide +kernel)) ggX2_goDown_X2_fits
set_option maxRecDepth 20000 in
theorem ggX2_goDown_X2_replace : GoodIn wsX2_goDown wsX2_replace := goodIn_r _ [36, 37, 38, 39, 29, 30, 31, 1, 32, 40, 41, 42, 43, 44, 45, 46, 47, 48, 49, 50, 51, 52, 53, 54, 55, 56, 57, 58, 59, 60, 61, 62, 81, 82, 83, 72, 73, 74, 75, 76, 84, 85, 86] (by decide +kernel) (by decide +kernel)
set_option maxRecDepth 20000 in
theorem gX2_goDown_X2_replace : GoodIn wsX2_goDown (wsV RX2 64 RX2 yX2_replace wsX2_replace) := goodIn_app (goodIn_of _ (by decide +kernel)) ggX2_goDown_X2_replace
set_option maxRecDepth 20000 in
theorem ggX2_goDown_X2_normalForm : GoodIn wsX2_goDown wsX2_normalForm := goodIn_r _ [66, 67, 68, 69, 27, 70, 1, 29, 71, 30, 2, 3, 4, 5, 6, 7, 8, 9, 10, 11, 12, 13, 14, 15, 16, 17, 18, 24, 25, 26, 28, 31, 32, 33, 34, 35, 36, 37, 38, 39, 40, 41, 42, 43, 44, 45, 46, 47, 48, 49, 50, 51, 52, 53, 54, 55, 56, 57, 58, 59, 60, 61, 62, 72, 73, 74, 75, 76, 84, 85, 77, 78, 79, 80, 81, 82, 83, 86] (by decide +kernel) (by decide +kernel)
set_option maxRecDepth 20000 in
theorem gX2_goDown_X2_normalForm : GoodIn wsX2_goDown (wsV RX2 102 RX2 yX2_normalForm wsX2_normalForm) := goodIn_app (goodIn_of _ (by decide +kernel)) ggX2_goDown_X2_normalForm
theorem dX2_goDown_0 : decode cX2_goDown 0 = .ok (.aload_n 0, 1) := by decide +kernel
theorem dX2_goDown_1 : decode cX2_goDown 1 = .ok (.getfield 12, 3) := by decide +kernel
theorem dX2_goDown_4 : decode cX2_goDown 4 = .ok (.aload_n 1, 1) := by decide +kernel
theorem dX2_goDown_5 : decode cX2_goDown 5 = .ok (.aload_n 3, 1) := by decide +kernel
theorem dX2_goDown_6 : decode cX2_goDown 6 = .ok (.invokevirtual 35, 3) := by decide +kernel
theorem dX2_goDown_9 : decode cX2_goDown 9 = .ok (.aload_n 1, 1) := by decide +kernel
theorem dX2_goDown_10 : decode cX2_goDown 10 = .ok (.iload_n 2, 1) := by decide +kernel
theorem dX2_goDown_11 : decode cX2_goDown 11 = .ok (.invokevirtual 98, 3) := by decide +kernel
theorem dX2_goDown_14 : decode cX2_goDown 14 = .ok (.ifCond .eq 22, 3) := by decide +kernel
theorem dX2_goDown_17 : decode cX2_goDown 17 = .ok (.aload_n 0, 1) := by decide +kernel
theorem dX2_goDown_18 : decode cX2_goDown 18 = .ok (.aload_n 1, 1) := by decide +kernel
theorem dX2_goDown_19 : decode cX2_goDown 19 = .ok (.getfield 60, 3) := by decide +kernel
theorem dX2_goDown_22 : decode cX2_goDown 22 = .ok (.iload_n 2, 1) := by decide +kernel
theorem dX2_goDown_23 : decode cX2_goDown 23 = .ok (.aaload, 1) := by decide +kernel
theorem dX2_goDown_24 : decode cX2_goDown 24 = .ok (.getfield 43, 3) := by decide +kernel
theorem dX2_goDown_27 : decode cX2_goDown 27 = .ok (.aload_n 3, 1) := by decide +kernel
theorem dX2_goDown_28 : decode cX2_goDown 28 = .ok (.iload 4, 2) := by decide +kernel
theorem dX2_goDown_30 : decode cX2_goDown 30 = .ok (.invokevirtual 48, 3) := by decide +kernel
theorem dX2_goDown_33 : decode cX2_goDown 33 = .ok (.ifCond .ne 6, 3) := by decide +kernel
theorem dX2_goDown_36 : decode cX2_goDown 36 = .ok (.bipush (-5), 2) := by decide +kernel
theorem dX2_goDown_38 : decode cX2_goDown 38 = .ok (.ireturn, 1) := by decide +kernel
theorem dX2_goDown_39 : decode cX2_goDown 39 = .ok (.aload_n 0, 1) := by decide +kernel
theorem dX2_goDown_40 : decode cX2_goDown 40 = .ok (.aload_n 1, 1) := by decide +kernel
theorem dX2_goDown_41 : decode cX2_goDown 41 = .ok (.getfield 60, 3) := by decide +kernel
theorem dX2_goDown_44 : decode cX2_goDown 44 = .ok (.iload_n 2, 1) := by decide +kernel
theorem dX2_goDown_45 : decode cX2_goDown 45 = .ok (.aaload, 1) := by decide +kernel
theorem dX2_goDown_46 : decode cX2_goDown 46 = .ok (.aload_n 3, 1) := by decide +kernel
theorem dX2_goDown_47 : decode cX2_goDown 47 = .ok (.iload 4, 2) := by decide +kernel
theorem dX2_goDown_49 : decode cX2_goDown 49 = .ok (.invokevirtual 64, 3) := by decide +kernel
theorem dX2_goDown_52 : decode cX2_goDown 52 = .ok (.istore 5, 2) := by decide +kernel
theorem dX2_goDown_54 : decode cX2_goDown 54 = .ok (.iload 5, 2) := by decide +kernel
theorem dX2_goDown_56 : decode cX2_goDown 56 = .ok (.iconst 1, 1) := by decide +kernel
theorem dX2_goDown_57 : decode cX2_goDown 57 = .ok (.if_icmp .ne 12, 3) := by decide +kernel
theorem dX2_goDown_60 : decode cX2_goDown 60 = .ok (.aload_n 0, 1) := by decide +kernel
theorem dX2_goDown_61 : decode cX2_goDown 61 = .ok (.aload_n 1, 1) := by decide +kernel
theorem dX2_goDown_62 : decode cX2_goDown 62 = .ok (.aload_n 3, 1) := by decide +kernel
theorem dX2_goDown_63 : decode cX2_goDown 63 = .ok (.invokevirtual 102, 3) := by decide +kernel
theorem dX2_goDown_66 : decode cX2_goDown 66 = .ok (.goto 5, 3) := by decide +kernel
theorem dX2_goDown_69 : decode cX2_goDown 69 = .ok (.iload 5, 2) := by decide +kernel
theorem dX2_goDown_71 : decode cX2_goDown 71 = .ok (.ireturn, 1) := by decide +kernel
theorem dX2_fits_0 : decode cX2_fits 0 = .ok (.iload_n 3, 1) := by decide +kernel
theorem dX2_fits_1 : decode cX2_fits 1 = .ok (.istore 4, 2) := by decide +kernel
theorem dX2_fits_3 : decode cX2_fits 3 = .ok (.iconst 0, 1) := by decide +kernel
theorem dX2_fits_4 : decode cX2_fits 4 = .ok (.istore 5, 2) := by decide +kernel
theorem dX2_fits_6 : decode cX2_fits 6 = .ok (.iconst 0, 1) := by decide +kernel
theorem dX2_fits_7 : decode cX2_fits 7 = .ok (.istore 6, 2) := by decide +kernel
theorem dX2_fits_9 : decode cX2_fits 9 = .ok (.iload 6, 2) := by decide +kernel
theorem dX2_fits_11 : decode cX2_fits 11 = .ok (.aload_n 1, 1) := by decide +kernel
theorem dX2_fits_12 : decode cX2_fits 12 = .ok (.getfield 39, 3) := by decide +kernel
theorem dX2_fits_15 : decode cX2_fits 15 = .ok (.if_icmp .ge 83, 3) := by decide +kernel
theorem dX2_fits_18 : decode cX2_fits 18 = .ok (.iload 4, 2) := by decide +kernel
theorem dX2_fits_20 : decode cX2_fits 20 = .ok (.aload_n 2, 1) := by decide +kernel
theorem dX2_fits_21 : decode cX2_fits 21 = .ok (.getfield 39, 3) := by decide +kernel
theorem dX2_fits_24 : decode cX2_fits 24 = .ok (.if_icmp .lt 5, 3) := by decide +kernel
theorem dX2_fits_27 : decode cX2_fits 27 = .ok (.iconst 0, 1) := by decide +kernel
theorem dX2_fits_28 : decode cX2_fits 28 = .ok (.ireturn, 1) := by decide +kernel
theorem dX2_fits_29 : decode cX2_fits 29 = .ok (.aload_n 1, 1) := by decide +kernel
theorem dX2_fits_30 : decode cX2_fits 30 = .ok (.getfield 57, 3) := by decide +kernel
theorem dX2_fits_33 : decode cX2_fits 33 = .ok (.iload 6, 2) := by decide +kernel
theorem dX2_fits_35 : decode cX2_fits 35 = .ok (.iaload, 1) := by decide +kernel
theorem dX2_fits_36 : decode cX2_fits 36 = .ok (.iconst (-1), 1) := by decide +kernel
theorem dX2_fits_37 : decode cX2_fits 37 = .ok (.if_icmp .ne 30, 3) := by decide +kernel
theorem dX2_fits_40 : decode cX2_fits 40 = .ok (.aload_n 0, 1) := by decide +kernel
theorem dX2_fits_41 : decode cX2_fits 41 = .ok (.getfield 18, 3) := by decide +kernel
theorem dX2_fits_44 : decode cX2_fits 44 = .ok (.iload 5, 2) := by decide +kernel
theorem dX2_fits_46 : decode cX2_fits 46 = .ok (.iload 4, 2) := by decide +kernel
theorem dX2_fits_48 : decode cX2_fits 48 = .ok (.iastore, 1) := by decide +kernel
theorem dX2_fits_49 : decode cX2_fits 49 = .ok (.iinc 5 1, 3) := by decide +kernel
theorem dX2_fits_52 : decode cX2_fits 52 = .ok (.aload_n 0, 1) := by decide +kernel
theorem dX2_fits_53 : decode cX2_fits 53 = .ok (.getfield 12, 3) := by decide +kernel
theorem dX2_fits_56 : decode cX2_fits 56 = .ok (.getfield 105, 3) := by decide +kernel
theorem dX2_fits_59 : decode cX2_fits 59 = .ok (.iload 4, 2) := by decide +kernel
theorem dX2_fits_61 : decode cX2_fits 61 = .ok (.iaload, 1) := by decide +kernel
theorem dX2_fits_62 : decode cX2_fits 62 = .ok (.istore 4, 2) := by decide +kernel
theorem dX2_fits_64 : decode cX2_fits 64 = .ok (.goto 28, 3) := by decide +kernel
theorem dX2_fits_67 : decode cX2_fits 67 = .ok (.aload_n 1, 1) := by decide +kernel
theorem dX2_fits_68 : decode cX2_fits 68 = .ok (.getfield 57, 3) := by decide +kernel
theorem dX2_fits_71 : decode cX2_fits 71 = .ok (.iload 6, 2) := by decide +kernel
theorem dX2_fits_73 : decode cX2_fits 73 = .ok (.iaload, 1) := by decide +kernel
theorem dX2_fits_74 : decode cX2_fits 74 = .ok (.aload_n 2, 1) := by decide +kernel
theorem dX2_fits_75 : decode cX2_fits 75 = .ok (.getfield 57, 3) := by decide +kernel
theorem dX2_fits_78 : decode cX2_fits 78 = .ok (.iload 4, 2) := by decide +kernel
theorem dX2_fits_80 : decode cX2_fits 80 = .ok (.iaload, 1) := by decide +kernel
theorem dX2_fits_81 : decode cX2_fits 81 = .ok (.if_icmp .ne 9, 3) := by decide +kernel
theorem dX2_fits_84 : decode cX2_fits 84 = .ok (.iinc 4 1, 3) := by decide +kernel
theorem dX2_fits_87 : decode cX2_fits 87 = .ok (.goto 5, 3) := by decide +kernel
theorem dX2_fits_90 : decode cX2_fits 90 = .ok (.iconst 0, 1) := by decide +kernel
theorem dX2_fits_91 : decode cX2_fits 91 = .ok (.ireturn, 1) := by decide +kernel
theorem dX2_fits_92 : decode cX2_fits 92 = .ok (.iinc 6 1, 3) := by decide +kernel
theorem dX2_fits_95 : decode cX2_fits 95 = .ok (.goto (-86), 3) := by decide +kernel
theorem dX2_fits_98 : decode cX2_fits 98 = .ok (.iconst 1, 1) := by decide +kernel
theorem dX2_fits_99 : decode cX2_fits 99 = .ok (.ireturn, 1) := by decide +kernel
set_option maxRecDepth 20000 in
theorem ggX2_replace_X3_clear : GoodIn wsX2_replace wsX3_clear := goodIn_r _ [13, 14, 40, 41] (by decide +kernel) (by decide +kernel)
set_option maxRecDepth 20000 in
theorem gX2_replace_X3_clear : GoodIn wsX2_replace (wsV RX2 112 RX3 yX3_clear wsX3_clear) := goodIn_app (goodIn_of _ (by decide +kernel)) ggX2_replace_X3_clear
set_option maxRecDepth 20000 in
theorem ggX2_replace_X3_addPart : GoodIn wsX2_replace wsX3_addPart := goodIn_r _ [18, 14, 19, 20, 21, 22, 23, 40, 41] (by decide +kernel) (by decide +kernel)
set_option maxRecDepth 20000 in
theorem gX2_replace_X3_addPart : GoodIn wsX2_replace (wsV RX2 115 RX3 yX3_addPart wsX3_addPart) := goodIn_app (goodIn_of _ (by decide +kernel)) ggX2_replace_X3_addPart
set_option maxRecDepth 20000 in
theorem ggX2_replace_X3_add : GoodIn wsX2_replace wsX3_add := goodIn_r _ [27, 14, 19, 40, 41] (by decide +kernel) (by decide +kernel)
set_option maxRecDepth 20000 in
theorem gX2_replace_X3_add : GoodIn wsX2_replace (wsV RX2 122 RX3 yX3_add wsX3_add) := goodIn_app (goodIn_of _ (by decide +kernel)) ggX2_replace_X3_add
set_option maxRecDepth 20000 in
theorem ggX2_replace_X3_become : GoodIn wsX2_replace wsX3_become := goodIn_r _ [31, 19, 14, 20, 21, 22, 23, 40, 41] (by decide +kernel) (by decide +kernel)
set_option maxRecDepth 20000 in
theorem gX2_replace_X3_become : GoodIn wsX2_replace (wsV RX2 77 RX3 yX3_become wsX3_become) := goodIn_app (goodIn_of _ (by decide +kernel)) ggX2_replace_X3_become
theorem dX2_replace_0 : decode cX2_replace 0 = .ok (.aload_n 1, 1) := by decide +kernel
theorem dX2_replace_1 : decode cX2_replace 1 = .ok (.getfield 108, 3) := by decide +kernel
theorem dX2_replace_4 : decode cX2_replace 4 = .ok (.ifCond .eq 9, 3) := by decide +kernel
theorem dX2_replace_7 : decode cX2_replace 7 = .ok (.aload_n 2, 1) := by decide +kernel
theorem dX2_replace_8 : decode cX2_replace 8 = .ok (.invokevirtual 112, 3) := by decide +kernel
theorem dX2_replace_11 : decode cX2_replace 11 = .ok (.iconst 2, 1) := by decide +kernel
theorem dX2_replace_12 : decode cX2_replace 12 = .ok (.ireturn, 1) := by decide +kernel
theorem dX2_replace_13 : decode cX2_replace 13 = .ok (.aload_n 0, 1) := by decide +kernel
theorem dX2_replace_14 : decode cX2_replace 14 = .ok (.getfield 25, 3) := by decide +kernel
theorem dX2_replace_17 : decode cX2_replace 17 = .ok (.invokevirtual 112, 3) := by decide +kernel
theorem dX2_replace_20 : decode cX2_replace 20 = .ok (.aload_n 0, 1) := by decide +kernel
theorem dX2_replace_21 : decode cX2_replace 21 = .ok (.getfield 25, 3) := by decide +kernel
theorem dX2_replace_24 : decode cX2_replace 24 = .ok (.aload_n 2, 1) := by decide +kernel
theorem dX2_replace_25 : decode cX2_replace 25 = .ok (.iconst 0, 1) := by decide +kernel
theorem dX2_replace_26 : decode cX2_replace 26 = .ok (.iload_n 3, 1) := by decide +kernel
theorem dX2_replace_27 : decode cX2_replace 27 = .ok (.invokevirtual 115, 3) := by decide +kernel
theorem dX2_replace_30 : decode cX2_replace 30 = .ok (.istore 4, 2) := by decide +kernel
theorem dX2_replace_32 : decode cX2_replace 32 = .ok (.iconst 0, 1) := by decide +kernel
theorem dX2_replace_33 : decode cX2_replace 33 = .ok (.istore 5, 2) := by decide +kernel
theorem dX2_replace_35 : decode cX2_replace 35 = .ok (.iconst 0, 1) := by decide +kernel
theorem dX2_replace_36 : decode cX2_replace 36 = .ok (.istore 6, 2) := by decide +kernel
theorem dX2_replace_38 : decode cX2_replace 38 = .ok (.iload 6, 2) := by decide +kernel
theorem dX2_replace_40 : decode cX2_replace 40 = .ok (.aload_n 1, 1) := by decide +kernel
theorem dX2_replace_41 : decode cX2_replace 41 = .ok (.getfield 119, 3) := by decide +kernel
theorem dX2_replace_44 : decode cX2_replace 44 = .ok (.getfield 39, 3) := by decide +kernel
theorem dX2_replace_47 : decode cX2_replace 47 = .ok (.if_icmp .ge 81, 3) := by decide +kernel
theorem dX2_replace_50 : decode cX2_replace 50 = .ok (.iload 4, 2) := by decide +kernel
theorem dX2_replace_52 : decode cX2_replace 52 = .ok (.ifCond .eq 76, 3) := by decide +kernel
theorem dX2_replace_55 : decode cX2_replace 55 = .ok (.aload_n 1, 1) := by decide +kernel
theorem dX2_replace_56 : decode cX2_replace 56 = .ok (.getfield 119, 3) := by decide +kernel
theorem dX2_replace_59 : decode cX2_replace 59 = .ok (.getfield 57, 3) := by decide +kernel
theorem dX2_replace_62 : decode cX2_replace 62 = .ok (.iload 6, 2) := by decide +kernel
theorem dX2_replace_64 : decode cX2_replace 64 = .ok (.iaload, 1) := by decide +kernel
theorem dX2_replace_65 : decode cX2_replace 65 = .ok (.istore 7, 2) := by decide +kernel
theorem dX2_replace_67 : decode cX2_replace 67 = .ok (.iload 7, 2) := by decide +kernel
theorem dX2_replace_69 : decode cX2_replace 69 = .ok (.iconst (-1), 1) := by decide +kernel
theorem dX2_replace_70 : decode cX2_replace 70 = .ok (.if_icmp .ne 41, 3) := by decide +kernel
theorem dX2_replace_73 : decode cX2_replace 73 = .ok (.aload_n 0, 1) := by decide +kernel
theorem dX2_replace_74 : decode cX2_replace 74 = .ok (.getfield 25, 3) := by decide +kernel
theorem dX2_replace_77 : decode cX2_replace 77 = .ok (.aload_n 2, 1) := by decide +kernel
theorem dX2_replace_78 : decode cX2_replace 78 = .ok (.aload_n 0, 1) := by decide +kernel
theorem dX2_replace_79 : decode cX2_replace 79 = .ok (.getfield 18, 3) := by decide +kernel
theorem dX2_replace_82 : decode cX2_replace 82 = .ok (.iload 5, 2) := by decide +kernel
theorem dX2_replace_84 : decode cX2_replace 84 = .ok (.iaload, 1) := by decide +kernel
theorem dX2_replace_85 : decode cX2_replace 85 = .ok (.aload_n 0, 1) := by decide +kernel
theorem dX2_replace_86 : decode cX2_replace 86 = .ok (.getfield 12, 3) := by decide +kernel
theorem dX2_replace_89 : decode cX2_replace 89 = .ok (.getfield 105, 3) := by decide +kernel
theorem dX2_replace_92 : decode cX2_replace 92 = .ok (.aload_n 0, 1) := by decide +kernel
theorem dX2_replace_93 : decode cX2_replace 93 = .ok (.getfield 18, 3) := by decide +kernel
theorem dX2_replace_96 : decode cX2_replace 96 = .ok (.iload 5, 2) := by decide +kernel
theorem dX2_replace_98 : decode cX2_replace 98 = .ok (.iaload, 1) := by decide +kernel
theorem dX2_replace_99 : decode cX2_replace 99 = .ok (.iaload, 1) := by decide +kernel
theorem dX2_replace_100 : decode cX2_replace 100 = .ok (.invokevirtual 115, 3) := by decide +kernel
theorem dX2_replace_103 : decode cX2_replace 103 = .ok (.istore 4, 2) := by decide +kernel
theorem dX2_replace_105 : decode cX2_replace 105 = .ok (.iinc 5 1, 3) := by decide +kernel
theorem dX2_replace_108 : decode cX2_replace 108 = .ok (.goto 14, 3) := by decide +kernel
theorem dX2_replace_111 : decode cX2_replace 111 = .ok (.aload_n 0, 1) := by decide +kernel
theorem dX2_replace_112 : decode cX2_replace 112 = .ok (.getfield 25, 3) := by decide +kernel
theorem dX2_replace_115 : decode cX2_replace 115 = .ok (.iload 7, 2) := by decide +kernel
theorem dX2_replace_117 : decode cX2_replace 117 = .ok (.invokevirtual 122, 3) := by decide +kernel
theorem dX2_replace_120 : decode cX2_replace 120 = .ok (.istore 4, 2) := by decide +kernel
theorem dX2_replace_122 : decode cX2_replace 122 = .ok (.iinc 6 1, 3) := by decide +kernel
theorem dX2_replace_125 : decode cX2_replace 125 = .ok (.goto (-87), 3) := by decide +kernel
theorem dX2_replace_128 : decode cX2_replace 128 = .ok (.iload 4, 2) := by decide +kernel
theorem dX2_replace_130 : decode cX2_replace 130 = .ok (.ifCond .eq 27, 3) := by decide +kernel
theorem dX2_replace_133 : decode cX2_replace 133 = .ok (.aload_n 0, 1) := by decide +kernel
theorem dX2_replace_134 : decode cX2_replace 134 = .ok (.getfield 25, 3) := by decide +kernel
theorem dX2_replace_137 : decode cX2_replace 137 = .ok (.aload_n 2, 1) := by decide +kernel
theorem dX2_replace_138 : decode cX2_replace 138 = .ok (.aload_n 0, 1) := by decide +kernel
theorem dX2_replace_139 : decode cX2_replace 139 = .ok (.getfield 12, 3) := by decide +kernel
theorem dX2_replace_142 : decode cX2_replace 142 = .ok (.getfield 105, 3) := by decide +kernel
theorem dX2_replace_145 : decode cX2_replace 145 = .ok (.iload_n 3, 1) := by decide +kernel
theorem dX2_replace_146 : decode cX2_replace 146 = .ok (.iaload, 1) := by decide +kernel
theorem dX2_replace_147 : decode cX2_replace 147 = .ok (.aload_n 2, 1) := by decide +kernel
theorem dX2_replace_148 : decode cX2_replace 148 = .ok (.getfield 39, 3) := by decide +kernel
theorem dX2_replace_151 : decode cX2_replace 151 = .ok (.invokevirtual 115, 3) := by decide +kernel
theorem dX2_replace_154 : decode cX2_replace 154 = .ok (.ifCond .ne 6, 3) := by decide +kernel
theorem dX2_replace_157 : decode cX2_replace 157 = .ok (.bipush (-5), 2) := by decide +kernel
theorem dX2_replace_159 : decode cX2_replace 159 = .ok (.ireturn, 1) := by decide +kernel
theorem dX2_replace_160 : decode cX2_replace 160 = .ok (.aload_n 2, 1) := by decide +kernel
theorem dX2_replace_161 : decode cX2_replace 161 = .ok (.aload_n 0, 1) := by decide +kernel
theorem dX2_replace_162 : decode cX2_replace 162 = .ok (.getfield 25, 3) := by decide +kernel
theorem dX2_replace_165 : decode cX2_replace 165 = .ok (.invokevirtual 77, 3) := by decide +kernel
theorem dX2_replace_168 : decode cX2_replace 168 = .ok (.iconst 1, 1) := by decide +kernel
theorem dX2_replace_169 : decode cX2_replace 169 = .ok (.ireturn, 1) := by decide +kernel
theorem dX3_init_0 : decode cX3_init 0 = .ok (.aload_n 0, 1) := by decide +kernel
theorem dX3_init_1 : decode cX3_init 1 = .ok (.invokespecial 3, 3) := by decide +kernel
theorem dX3_init_4 : decode cX3_init 4 = .ok (.aload_n 0, 1) := by decide +kernel
theorem dX3_init_5 : decode cX3_init 5 = .ok (.bipush 60, 2) := by decide +kernel
theorem dX3_init_7 : decode cX3_init 7 = .ok (.newarray .int, 2) := by decide +kernel
theorem dX3_init_9 : decode cX3_init 9 = .ok (.putfield 9, 3) := by decide +kernel
theorem dX3_init_12 : decode cX3_init 12 = .ok (.return_, 1) := by decide +kernel
theorem dX3_clear_0 : decode cX3_clear 0 = .ok (.aload_n 0, 1) := by decide +kernel
theorem dX3_clear_1 : decode cX3_clear 1 = .ok (.iconst 0, 1) := by decide +kernel
theorem dX3_clear_2 : decode cX3_clear 2 = .ok (.putfield 15, 3) := by decide +kernel
theorem dX3_clear_5 : decode cX3_clear 5 = .ok (.return_, 1) := by decide +kernel
theorem dX3_add_0 : decode cX3_add 0 = .ok (.aload_n 0, 1) := by decide +kernel
theorem dX3_add_1 : decode cX3_add 1 = .ok (.getfield 15, 3) := by decide +kernel
theorem dX3_add_4 : decode cX3_add 4 = .ok (.bipush 60, 2) := by decide +kernel
theorem dX3_add_6 : decode cX3_add 6 = .ok (.if_icmp .lt 5, 3) := by decide +kernel
theorem dX3_add_9 : decode cX3_add 9 = .ok (.iconst 0, 1) := by decide +kernel
theorem dX3_add_10 : decode cX3_add 10 = .ok (.ireturn, 1) := by decide +kernel
theorem dX3_add_11 : decode cX3_add 11 = .ok (.aload_n 0, 1) := by decide +kernel
theorem dX3_add_12 : decode cX3_add 12 = .ok (.getfield 9, 3) := by decide +kernel
theorem dX3_add_15 : decode cX3_add 15 = .ok (.aload_n 0, 1) := by decide +kernel
theorem dX3_add_16 : decode cX3_add 16 = .ok (.getfield 15, 3) := by decide +kernel
theorem dX3_add_19 : decode cX3_add 19 = .ok (.iload_n 1, 1) := by decide +kernel
theorem dX3_add_20 : decode cX3_add 20 = .ok (.iastore, 1) := by decide +kernel
theorem dX3_add_21 : decode cX3_add 21 = .ok (.aload_n 0, 1) := by decide +kernel
theorem dX3_add_22 : decode cX3_add 22 = .ok (.dup, 1) := by decide +kernel
theorem dX3_add_23 : decode cX3_add 23 = .ok (.getfield 15, 3) := by decide +kernel
theorem dX3_add_26 : decode cX3_add 26 = .ok (.iconst 1, 1) := by decide +kernel
theorem dX3_add_27 : decode cX3_add 27 = .ok (.iadd, 1) := by decide +kernel
theorem dX3_add_28 : decode cX3_add 28 = .ok (.putfield 15, 3) := by decide +kernel
theorem dX3_add_31 : decode cX3_add 31 = .ok (.iconst 1, 1) := by decide +kernel
theorem dX3_add_32 : decode cX3_add 32 = .ok (.ireturn, 1) := by decide +kernel
theorem dX3_addPart_0 : decode cX3_addPart 0 = .ok (.iload_n 2, 1) := by decide +kernel
theorem dX3_addPart_1 : decode cX3_addPart 1 = .ok (.ifCond .lt 29, 3) := by decide +kernel
theorem dX3_addPart_4 : decode cX3_addPart 4 = .ok (.iload_n 2, 1) := by decide +kernel
theorem dX3_addPart_5 : decode cX3_addPart 5 = .ok (.iload_n 3, 1) := by decide +kernel
theorem dX3_addPart_6 : decode cX3_addPart 6 = .ok (.if_icmp .gt 24, 3) := by decide +kernel
theorem dX3_addPart_9 : decode cX3_addPart 9 = .ok (.iload_n 3, 1) := by decide +kernel
theorem dX3_addPart_10 : decode cX3_addPart 10 = .ok (.aload_n 1, 1) := by decide +kernel
theorem dX3_addPart_11 : decode cX3_addPart 11 = .ok (.getfield 15, 3) := by decide +kernel
theorem dX3_addPart_14 : decode cX3_addPart 14 = .ok (.if_icmp .gt 16, 3) := by decide +kernel
theorem dX3_addPart_17 : decode cX3_addPart 17 = .ok (.aload_n 0, 1) := by decide +kernel
theorem dX3_addPart_18 : decode cX3_addPart 18 = .ok (.getfield 15, 3) := by decide +kernel
theorem dX3_addPart_21 : decode cX3_addPart 21 = .ok (.iload_n 3, 1) := by decide +kernel
theorem dX3_addPart_22 : decode cX3_addPart 22 = .ok (.iadd, 1) := by decide +kernel
theorem dX3_addPart_23 : decode cX3_addPart 23 = .ok (.iload_n 2, 1) := by decide +kernel
theorem dX3_addPart_24 : decode cX3_addPart 24 = .ok (.isub, 1) := by decide +kernel
theorem dX3_addPart_25 : decode cX3_addPart 25 = .ok (.bipush 60, 2) := by decide +kernel
theorem dX3_addPart_27 : decode cX3_addPart 27 = .ok (.if_icmp .le 5, 3) := by decide +kernel
theorem dX3_addPart_30 : decode cX3_addPart 30 = .ok (.iconst 0, 1) := by decide +kernel
theorem dX3_addPart_31 : decode cX3_addPart 31 = .ok (.ireturn, 1) := by decide +kernel
theorem dX3_addPart_32 : decode cX3_addPart 32 = .ok (.aload_n 1, 1) := by decide +kernel
theorem dX3_addPart_33 : decode cX3_addPart 33 = .ok (.getfield 9, 3) := by decide +kernel
theorem dX3_addPart_36 : decode cX3_addPart 36 = .ok (.iload_n 2, 1) := by decide +kernel
theorem dX3_addPart_37 : decode cX3_addPart 37 = .ok (.aload_n 0, 1) := by decide +kernel
theorem dX3_addPart_38 : decode cX3_addPart 38 = .ok (.getfield 9, 3) := by decide +kernel
theorem dX3_addPart_41 : decode cX3_addPart 41 = .ok (.aload_n 0, 1) := by decide +kernel
theorem dX3_addPart_42 : decode cX3_addPart 42 = .ok (.getfield 15, 3) := by decide +kernel
theorem dX3_addPart_45 : decode cX3_addPart 45 = .ok (.iload_n 3, 1) := by decide +kernel
theorem dX3_addPart_46 : decode cX3_addPart 46 = .ok (.iload_n 2, 1) := by decide +kernel
theorem dX3_addPart_47 : decode cX3_addPart 47 = .ok (.isub, 1) := by decide +kernel
theorem dX3_addPart_48 : decode cX3_addPart 48 = .ok (.invokestatic 19, 3) := by decide +kernel
theorem dX3_addPart_51 : decode cX3_addPart 51 = .ok (.aload_n 0, 1) := by decide +kernel
theorem dX3_addPart_52 : decode cX3_addPart 52 = .ok (.dup, 1) := by decide +kernel
theorem dX3_addPart_53 : decode cX3_addPart 53 = .ok (.getfield 15, 3) := by decide +kernel
theorem dX3_addPart_56 : decode cX3_addPart 56 = .ok (.iload_n 3, 1) := by decide +kernel
theorem dX3_addPart_57 : decode cX3_addPart 57 = .ok (.iload_n 2, 1) := by decide +kernel
theorem dX3_addPart_58 : decode cX3_addPart 58 = .ok (.isub, 1) := by decide +kernel
theorem dX3_addPart_59 : decode cX3_addPart 59 = .ok (.iadd, 1) := by decide +kernel
theorem dX3_addPart_60 : decode cX3_addPart 60 = .ok (.putfield 15, 3) := by decide +kernel
theorem dX3_addPart_63 : decode cX3_addPart 63 = .ok (.iconst 1, 1) := by decide +kernel
theorem dX3_addPart_64 : decode cX3_addPart 64 = .ok (.ireturn, 1) := by decide +kernel
theorem dX3_become_0 : decode cX3_become 0 = .ok (.aload_n 1, 1) := by decide +kernel
theorem dX3_become_1 : decode cX3_become 1 = .ok (.getfield 9, 3) := by decide +kernel
theorem dX3_become_4 : decode cX3_become 4 = .ok (.iconst 0, 1) := by decide +kernel
theorem dX3_become_5 : decode cX3_become 5 = .ok (.aload_n 0, 1) := by decide +kernel
theorem dX3_become_6 : decode cX3_become 6 = .ok (.getfield 9, 3) := by decide +kernel
theorem dX3_become_9 : decode cX3_become 9 = .ok (.iconst 0, 1) := by decide +kernel
theorem dX3_become_10 : decode cX3_become 10 = .ok (.aload_n 1, 1) := by decide +kernel
theorem dX3_become_11 : decode cX3_become 11 = .ok (.getfield 15, 3) := by decide +kernel
theorem dX3_become_14 : decode cX3_become 14 = .ok (.invokestatic 19, 3) := by decide +kernel
theorem dX3_become_17 : decode cX3_become 17 = .ok (.aload_n 0, 1) := by decide +kernel
theorem dX3_become_18 : decode cX3_become 18 = .ok (.aload_n 1, 1) := by decide +kernel
theorem dX3_become_19 : decode cX3_become 19 = .ok (.getfield 15, 3) := by decide +kernel
theorem dX3_become_22 : decode cX3_become 22 = .ok (.putfield 15, 3) := by decide +kernel
theorem dX3_become_25 : decode cX3_become 25 = .ok (.return_, 1) := by decide +kernel
theorem dX3_isLike_0 : decode cX3_isLike 0 = .ok (.aload_n 0, 1) := by decide +kernel
theorem dX3_isLike_1 : decode cX3_isLike 1 = .ok (.getfield 15, 3) := by decide +kernel
theorem dX3_isLike_4 : decode cX3_isLike 4 = .ok (.aload_n 1, 1) := by decide +kernel
theorem dX3_isLike_5 : decode cX3_isLike 5 = .ok (.getfield 15, 3) := by decide +kernel
theorem dX3_isLike_8 : decode cX3_isLike 8 = .ok (.if_icmp .eq 5, 3) := by decide +kernel
theorem dX3_isLike_11 : decode cX3_isLike 11 = .ok (.iconst 0, 1) := by decide +kernel
theorem dX3_isLike_12 : decode cX3_isLike 12 = .ok (.ireturn, 1) := by decide +kernel
theorem dX3_isLike_13 : decode cX3_isLike 13 = .ok (.iconst 0, 1) := by decide +kernel
theorem dX3_isLike_14 : decode cX3_isLike 14 = .ok (.istore_n 2, 1) := by decide +kernel
theorem dX3_isLike_15 : decode cX3_isLike 15 = .ok (.iload_n 2, 1) := by decide +kernel
theorem dX3_isLike_16 : decode cX3_isLike 16 = .ok (.aload_n 0, 1) := by decide +kernel
theorem dX3_isLike_17 : decode cX3_isLike 17 = .ok (.getfield 15, 3) := by decide +kernel
theorem dX3_isLike_20 : decode cX3_isLike 20 = .ok (.if_icmp .ge 26, 3) := by decide +kernel
theorem dX3_isLike_23 : decode cX3_isLike 23 = .ok (.aload_n 0, 1) := by decide +kernel
theorem dX3_isLike_24 : decode cX3_isLike 24 = .ok (.getfield 9, 3) := by decide +kernel
theorem dX3_isLike_27 : decode cX3_isLike 27 = .ok (.iload_n 2, 1) := by decide +kernel
theorem dX3_isLike_28 : decode cX3_isLike 28 = .ok (.iaload, 1) := by decide +kernel
theorem dX3_isLike_29 : decode cX3_isLike 29 = .ok (.aload_n 1, 1) := by decide +kernel
theorem dX3_isLike_30 : decode cX3_isLike 30 = .ok (.getfield 9, 3) := by decide +kernel
theorem dX3_isLike_33 : decode cX3_isLike 33 = .ok (.iload_n 2, 1) := by decide +kernel
theorem dX3_isLike_34 : decode cX3_isLike 34 = .ok (.iaload, 1) := by decide +kernel
theorem dX3_isLike_35 : decode cX3_isLike 35 = .ok (.if_icmp .eq 5, 3) := by decide +kernel
theorem dX3_isLike_38 : decode cX3_isLike 38 = .ok (.iconst 0, 1) := by decide +kernel
theorem dX3_isLike_39 : decode cX3_isLike 39 = .ok (.ireturn, 1) := by decide +kernel
theorem dX3_isLike_40 : decode cX3_isLike 40 = .ok (.iinc 2 1, 3) := by decide +kernel
theorem dX3_isLike_43 : decode cX3_isLike 43 = .ok (.goto (-28), 3) := by decide +kernel
theorem dX3_isLike_46 : decode cX3_isLike 46 = .ok (.iconst 1, 1) := by decide +kernel
theorem dX3_isLike_47 : decode cX3_isLike 47 = .ok (.ireturn, 1) := by decide +kernel
theorem dX3_leaves_0 : decode cX3_leaves 0 = .ok (.iconst 0, 1) := by decide +kernel
theorem dX3_leaves_1 : decode cX3_leaves 1 = .ok (.istore_n 1, 1) := by decide +kernel
theorem dX3_leaves_2 : decode cX3_leaves 2 = .ok (.iconst 0, 1) := by decide +kernel
theorem dX3_leaves_3 : decode cX3_leaves 3 = .ok (.istore_n 2, 1) := by decide +kernel
theorem dX3_leaves_4 : decode cX3_leaves 4 = .ok (.iload_n 2, 1) := by decide +kernel
theorem dX3_leaves_5 : decode cX3_leaves 5 = .ok (.aload_n 0, 1) := by decide +kernel
theorem dX3_leaves_6 : decode cX3_leaves 6 = .ok (.getfield 15, 3) := by decide +kernel
theorem dX3_leaves_9 : decode cX3_leaves 9 = .ok (.if_icmp .ge 22, 3) := by decide +kernel
theorem dX3_leaves_12 : decode cX3_leaves 12 = .ok (.aload_n 0, 1) := by decide +kernel
theorem dX3_leaves_13 : decode cX3_leaves 13 = .ok (.getfield 9, 3) := by decide +kernel
theorem dX3_leaves_16 : decode cX3_leaves 16 = .ok (.iload_n 2, 1) := by decide +kernel
theorem dX3_leaves_17 : decode cX3_leaves 17 = .ok (.iaload, 1) := by decide +kernel
theorem dX3_leaves_18 : decode cX3_leaves 18 = .ok (.iconst (-1), 1) := by decide +kernel
theorem dX3_leaves_19 : decode cX3_leaves 19 = .ok (.if_icmp .ne 6, 3) := by decide +kernel
theorem dX3_leaves_22 : decode cX3_leaves 22 = .ok (.iinc 1 1, 3) := by decide +kernel
theorem dX3_leaves_25 : decode cX3_leaves 25 = .ok (.iinc 2 1, 3) := by decide +kernel
theorem dX3_leaves_28 : decode cX3_leaves 28 = .ok (.goto (-24), 3) := by decide +kernel
theorem dX3_leaves_31 : decode cX3_leaves 31 = .ok (.iload_n 1, 1) := by decide +kernel
theorem dX3_leaves_32 : decode cX3_leaves 32 = .ok (.ireturn, 1) := by decide +kernel
set_option maxRecDepth 20000 in
theorem ggX3_size_X3_leaves : GoodIn wsX3_size wsX3_leaves := goodIn_r _ [6, 1, 7, 8, 9] (by decide +kernel) (by decide +kernel)
set_option maxRecDepth 20000 in
theorem gX3_size_X3_leaves : GoodIn wsX3_size (wsV RX3 25 RX3 yX3_leaves wsX3_leaves) := goodIn_app (goodIn_of _ (by decide +kernel)) ggX3_size_X3_leaves
theorem dX3_size_0 : decode cX3_size 0 = .ok (.aload_n 0, 1) := by decide +kernel
theorem dX3_size_1 : decode cX3_size 1 = .ok (.getfield 15, 3) := by decide +kernel
theorem dX3_size_4 : decode cX3_size 4 = .ok (.aload_n 0, 1) := by decide +kernel
theorem dX3_size_5 : decode cX3_size 5 = .ok (.invokevirtual 25, 3) := by decide +kernel
theorem dX3_size_8 : decode cX3_size 8 = .ok (.isub, 1) := by decide +kernel
theorem dX3_size_9 : decode cX3_size 9 = .ok (.ireturn, 1) := by decide +kernel
theorem dX3_placeOfLeaf_0 : decode cX3_placeOfLeaf 0 = .ok (.iconst 0, 1) := by decide +kernel
theorem dX3_placeOfLeaf_1 : decode cX3_placeOfLeaf 1 = .ok (.istore_n 2, 1) := by decide +kernel
theorem dX3_placeOfLeaf_2 : decode cX3_placeOfLeaf 2 = .ok (.iconst 0, 1) := by decide +kernel
theorem dX3_placeOfLeaf_3 : decode cX3_placeOfLeaf 3 = .ok (.istore_n 3, 1) := by decide +kernel
theorem dX3_placeOfLeaf_4 : decode cX3_placeOfLeaf 4 = .ok (.iload_n 3, 1) := by decide +kernel
theorem dX3_placeOfLeaf_5 : decode cX3_placeOfLeaf 5 = .ok (.aload_n 0, 1) := by decide +kernel
theorem dX3_placeOfLeaf_6 : decode cX3_placeOfLeaf 6 = .ok (.getfield 15, 3) := by decide +kernel
theorem dX3_placeOfLeaf_9 : decode cX3_placeOfLeaf 9 = .ok (.if_icmp .ge 29, 3) := by decide +kernel
theorem dX3_placeOfLeaf_12 : decode cX3_placeOfLeaf 12 = .ok (.aload_n 0, 1) := by decide +kernel
theorem dX3_placeOfLeaf_13 : decode cX3_placeOfLeaf 13 = .ok (.getfield 9, 3) := by decide +kernel
theorem dX3_placeOfLeaf_16 : decode cX3_placeOfLeaf 16 = .ok (.iload_n 3, 1) := by decide +kernel
theorem dX3_placeOfLeaf_17 : decode cX3_placeOfLeaf 17 = .ok (.iaload, 1) := by decide +kernel
theorem dX3_placeOfLeaf_18 : decode cX3_placeOfLeaf 18 = .ok (.iconst (-1), 1) := by decide +kernel
theorem dX3_placeOfLeaf_19 : decode cX3_placeOfLeaf 19 = .ok (.if_icmp .ne 13, 3) := by decide +kernel
theorem dX3_placeOfLeaf_22 : decode cX3_placeOfLeaf 22 = .ok (.iload_n 2, 1) := by decide +kernel
theorem dX3_placeOfLeaf_23 : decode cX3_placeOfLeaf 23 = .ok (.iload_n 1, 1) := by decide +kernel
theorem dX3_placeOfLeaf_24 : decode cX3_placeOfLeaf 24 = .ok (.if_icmp .ne 5, 3) := by decide +kernel
theorem dX3_placeOfLeaf_27 : decode cX3_placeOfLeaf 27 = .ok (.iload_n 3, 1) := by decide +kernel
theorem dX3_placeOfLeaf_28 : decode cX3_placeOfLeaf 28 = .ok (.ireturn, 1) := by decide +kernel
theorem dX3_placeOfLeaf_29 : decode cX3_placeOfLeaf 29 = .ok (.iinc 2 1, 3) := by decide +kernel
theorem dX3_placeOfLeaf_32 : decode cX3_placeOfLeaf 32 = .ok (.iinc 3 1, 3) := by decide +kernel
theorem dX3_placeOfLeaf_35 : decode cX3_placeOfLeaf 35 = .ok (.goto (-31), 3) := by decide +kernel
theorem dX3_placeOfLeaf_38 : decode cX3_placeOfLeaf 38 = .ok (.iconst (-1), 1) := by decide +kernel
theorem dX3_placeOfLeaf_39 : decode cX3_placeOfLeaf 39 = .ok (.ireturn, 1) := by decide +kernel
theorem dX3_digestedAfter_0 : decode cX3_digestedAfter 0 = .ok (.lload_n 1, 1) := by decide +kernel
theorem dX3_digestedAfter_1 : decode cX3_digestedAfter 1 = .ok (.lstore_n 3, 1) := by decide +kernel
theorem dX3_digestedAfter_2 : decode cX3_digestedAfter 2 = .ok (.iconst 0, 1) := by decide +kernel
theorem dX3_digestedAfter_3 : decode cX3_digestedAfter 3 = .ok (.istore 5, 2) := by decide +kernel
theorem dX3_digestedAfter_5 : decode cX3_digestedAfter 5 = .ok (.iload 5, 2) := by decide +kernel
theorem dX3_digestedAfter_7 : decode cX3_digestedAfter 7 = .ok (.aload_n 0, 1) := by decide +kernel
theorem dX3_digestedAfter_8 : decode cX3_digestedAfter 8 = .ok (.getfield 15, 3) := by decide +kernel
theorem dX3_digestedAfter_11 : decode cX3_digestedAfter 11 = .ok (.if_icmp .ge 24, 3) := by decide +kernel
theorem dX3_digestedAfter_14 : decode cX3_digestedAfter 14 = .ok (.ldc2_w 29, 3) := by decide +kernel
theorem dX3_digestedAfter_17 : decode cX3_digestedAfter 17 = .ok (.lload_n 3, 1) := by decide +kernel
theorem dX3_digestedAfter_18 : decode cX3_digestedAfter 18 = .ok (.lmul, 1) := by decide +kernel
theorem dX3_digestedAfter_19 : decode cX3_digestedAfter 19 = .ok (.aload_n 0, 1) := by decide +kernel
theorem dX3_digestedAfter_20 : decode cX3_digestedAfter 20 = .ok (.getfield 9, 3) := by decide +kernel
theorem dX3_digestedAfter_23 : decode cX3_digestedAfter 23 = .ok (.iload 5, 2) := by decide +kernel
theorem dX3_digestedAfter_25 : decode cX3_digestedAfter 25 = .ok (.iaload, 1) := by decide +kernel
theorem dX3_digestedAfter_26 : decode cX3_digestedAfter 26 = .ok (.i2l, 1) := by decide +kernel
theorem dX3_digestedAfter_27 : decode cX3_digestedAfter 27 = .ok (.ladd, 1) := by decide +kernel
theorem dX3_digestedAfter_28 : decode cX3_digestedAfter 28 = .ok (.lstore_n 3, 1) := by decide +kernel
theorem dX3_digestedAfter_29 : decode cX3_digestedAfter 29 = .ok (.iinc 5 1, 3) := by decide +kernel
theorem dX3_digestedAfter_32 : decode cX3_digestedAfter 32 = .ok (.goto (-27), 3) := by decide +kernel
theorem dX3_digestedAfter_35 : decode cX3_digestedAfter 35 = .ok (.ldc2_w 29, 3) := by decide +kernel
theorem dX3_digestedAfter_38 : decode cX3_digestedAfter 38 = .ok (.lload_n 3, 1) := by decide +kernel
theorem dX3_digestedAfter_39 : decode cX3_digestedAfter 39 = .ok (.lmul, 1) := by decide +kernel
theorem dX3_digestedAfter_40 : decode cX3_digestedAfter 40 = .ok (.ldc2_w 31, 3) := by decide +kernel
theorem dX3_digestedAfter_43 : decode cX3_digestedAfter 43 = .ok (.ladd, 1) := by decide +kernel
theorem dX3_digestedAfter_44 : decode cX3_digestedAfter 44 = .ok (.lreturn, 1) := by decide +kernel
set_option maxRecDepth 20000 in
theorem ggX4_init_X3_init : GoodIn wsX4_init wsX3_init := goodIn_r _ [10, 11, 2, 3, 12, 13, 14, 15] (by decide +kernel) (by decide +kernel)
set_option maxRecDepth 20000 in
theorem gX4_init_X3_init_n9 : GoodIn wsX4_init (wsX3_init) := ggX4_init_X3_init
theorem dX4_init_0 : decode cX4_init 0 = .ok (.aload_n 0, 1) := by decide +kernel
theorem dX4_init_1 : decode cX4_init 1 = .ok (.invokespecial 1, 3) := by decide +kernel
theorem dX4_init_4 : decode cX4_init 4 = .ok (.aload_n 0, 1) := by decide +kernel
theorem dX4_init_5 : decode cX4_init 5 = .ok (.new 7, 3) := by decide +kernel
theorem dX4_init_8 : decode cX4_init 8 = .ok (.dup, 1) := by decide +kernel
theorem dX4_init_9 : decode cX4_init 9 = .ok (.invokespecial 9, 3) := by decide +kernel
theorem dX4_init_12 : decode cX4_init 12 = .ok (.putfield 10, 3) := by decide +kernel
theorem dX4_init_15 : decode cX4_init 15 = .ok (.aload_n 0, 1) := by decide +kernel
theorem dX4_init_16 : decode cX4_init 16 = .ok (.new 7, 3) := by decide +kernel
theorem dX4_init_19 : decode cX4_init 19 = .ok (.dup, 1) := by decide +kernel
theorem dX4_init_20 : decode cX4_init 20 = .ok (.invokespecial 9, 3) := by decide +kernel
theorem dX4_init_23 : decode cX4_init 23 = .ok (.putfield 16, 3) := by decide +kernel
theorem dX4_init_26 : decode cX4_init 26 = .ok (.return_, 1) := by decide +kernel
theorem dX5_init_0 : decode cX5_init 0 = .ok (.aload_n 0, 1) := by decide +kernel
theorem dX5_init_1 : decode cX5_init 1 = .ok (.invokespecial 3, 3) := by decide +kernel
theorem dX5_init_4 : decode cX5_init 4 = .ok (.aload_n 0, 1) := by decide +kernel
theorem dX5_init_5 : decode cX5_init 5 = .ok (.bipush 7, 2) := by decide +kernel
theorem dX5_init_7 : decode cX5_init 7 = .ok (.newarray .long, 2) := by decide +kernel
theorem dX5_init_9 : decode cX5_init 9 = .ok (.putfield 9, 3) := by decide +kernel
theorem dX5_init_12 : decode cX5_init 12 = .ok (.aload_n 0, 1) := by decide +kernel
theorem dX5_init_13 : decode cX5_init 13 = .ok (.bipush 7, 2) := by decide +kernel
theorem dX5_init_15 : decode cX5_init 15 = .ok (.bipush 7, 2) := by decide +kernel
theorem dX5_init_17 : decode cX5_init 17 = .ok (.multianewarray 15 2, 4) := by decide +kernel
theorem dX5_init_21 : decode cX5_init 21 = .ok (.putfield 17, 3) := by decide +kernel
theorem dX5_init_24 : decode cX5_init 24 = .ok (.return_, 1) := by decide +kernel
set_option maxRecDepth 20000 in
theorem ggX5_turn_X5_rowsOf : GoodIn wsX5_turn wsX5_rowsOf := goodIn_r _ [7, 1, 2, 8, 9] (by decide +kernel) (by decide +kernel)
set_option maxRecDepth 20000 in
theorem gX5_turn_X5_rowsOf : GoodIn wsX5_turn (wsV RX5 20 RX5 yX5_rowsOf wsX5_rowsOf) := goodIn_app (goodIn_of _ (by decide +kernel)) ggX5_turn_X5_rowsOf
theorem dX5_turn_0 : decode cX5_turn 0 = .ok (.aload_n 0, 1) := by decide +kernel
theorem dX5_turn_1 : decode cX5_turn 1 = .ok (.getfield 9, 3) := by decide +kernel
theorem dX5_turn_4 : decode cX5_turn 4 = .ok (.iconst 1, 1) := by decide +kernel
theorem dX5_turn_5 : decode cX5_turn 5 = .ok (.lconst 1, 1) := by decide +kernel
theorem dX5_turn_6 : decode cX5_turn 6 = .ok (.lastore, 1) := by decide +kernel
theorem dX5_turn_7 : decode cX5_turn 7 = .ok (.aload_n 0, 1) := by decide +kernel
theorem dX5_turn_8 : decode cX5_turn 8 = .ok (.getfield 17, 3) := by decide +kernel
theorem dX5_turn_11 : decode cX5_turn 11 = .ok (.iconst 1, 1) := by decide +kernel
theorem dX5_turn_12 : decode cX5_turn 12 = .ok (.aaload, 1) := by decide +kernel
theorem dX5_turn_13 : decode cX5_turn 13 = .ok (.iconst 1, 1) := by decide +kernel
theorem dX5_turn_14 : decode cX5_turn 14 = .ok (.lconst 1, 1) := by decide +kernel
theorem dX5_turn_15 : decode cX5_turn 15 = .ok (.lastore, 1) := by decide +kernel
theorem dX5_turn_16 : decode cX5_turn 16 = .ok (.iconst 2, 1) := by decide +kernel
theorem dX5_turn_17 : decode cX5_turn 17 = .ok (.istore_n 2, 1) := by decide +kernel
theorem dX5_turn_18 : decode cX5_turn 18 = .ok (.iload_n 2, 1) := by decide +kernel
theorem dX5_turn_19 : decode cX5_turn 19 = .ok (.bipush 6, 2) := by decide +kernel
theorem dX5_turn_21 : decode cX5_turn 21 = .ok (.if_icmp .gt 77, 3) := by decide +kernel
theorem dX5_turn_24 : decode cX5_turn 24 = .ok (.lconst 0, 1) := by decide +kernel
theorem dX5_turn_25 : decode cX5_turn 25 = .ok (.lstore_n 3, 1) := by decide +kernel
theorem dX5_turn_26 : decode cX5_turn 26 = .ok (.iconst 2, 1) := by decide +kernel
theorem dX5_turn_27 : decode cX5_turn 27 = .ok (.istore 5, 2) := by decide +kernel
theorem dX5_turn_29 : decode cX5_turn 29 = .ok (.iload 5, 2) := by decide +kernel
theorem dX5_turn_31 : decode cX5_turn 31 = .ok (.iload_n 2, 1) := by decide +kernel
theorem dX5_turn_32 : decode cX5_turn 32 = .ok (.if_icmp .gt 42, 3) := by decide +kernel
theorem dX5_turn_35 : decode cX5_turn 35 = .ok (.aload_n 0, 1) := by decide +kernel
theorem dX5_turn_36 : decode cX5_turn 36 = .ok (.getfield 17, 3) := by decide +kernel
theorem dX5_turn_39 : decode cX5_turn 39 = .ok (.iload 5, 2) := by decide +kernel
theorem dX5_turn_41 : decode cX5_turn 41 = .ok (.aaload, 1) := by decide +kernel
theorem dX5_turn_42 : decode cX5_turn 42 = .ok (.iload_n 2, 1) := by decide +kernel
theorem dX5_turn_43 : decode cX5_turn 43 = .ok (.aload_n 0, 1) := by decide +kernel
theorem dX5_turn_44 : decode cX5_turn 44 = .ok (.iload 5, 2) := by decide +kernel
theorem dX5_turn_46 : decode cX5_turn 46 = .ok (.iload_n 2, 1) := by decide +kernel
theorem dX5_turn_47 : decode cX5_turn 47 = .ok (.invokevirtual 20, 3) := by decide +kernel
theorem dX5_turn_50 : decode cX5_turn 50 = .ok (.lastore, 1) := by decide +kernel
theorem dX5_turn_51 : decode cX5_turn 51 = .ok (.lload_n 3, 1) := by decide +kernel
theorem dX5_turn_52 : decode cX5_turn 52 = .ok (.aload_n 1, 1) := by decide +kernel
theorem dX5_turn_53 : decode cX5_turn 53 = .ok (.iload 5, 2) := by decide +kernel
theorem dX5_turn_55 : decode cX5_turn 55 = .ok (.laload, 1) := by decide +kernel
theorem dX5_turn_56 : decode cX5_turn 56 = .ok (.aload_n 0, 1) := by decide +kernel
theorem dX5_turn_57 : decode cX5_turn 57 = .ok (.getfield 17, 3) := by decide +kernel
theorem dX5_turn_60 : decode cX5_turn 60 = .ok (.iload 5, 2) := by decide +kernel
theorem dX5_turn_62 : decode cX5_turn 62 = .ok (.aaload, 1) := by decide +kernel
theorem dX5_turn_63 : decode cX5_turn 63 = .ok (.iload_n 2, 1) := by decide +kernel
theorem dX5_turn_64 : decode cX5_turn 64 = .ok (.laload, 1) := by decide +kernel
theorem dX5_turn_65 : decode cX5_turn 65 = .ok (.lmul, 1) := by decide +kernel
theorem dX5_turn_66 : decode cX5_turn 66 = .ok (.ladd, 1) := by decide +kernel
theorem dX5_turn_67 : decode cX5_turn 67 = .ok (.lstore_n 3, 1) := by decide +kernel
theorem dX5_turn_68 : decode cX5_turn 68 = .ok (.iinc 5 1, 3) := by decide +kernel
theorem dX5_turn_71 : decode cX5_turn 71 = .ok (.goto (-42), 3) := by decide +kernel
theorem dX5_turn_74 : decode cX5_turn 74 = .ok (.aload_n 0, 1) := by decide +kernel
theorem dX5_turn_75 : decode cX5_turn 75 = .ok (.getfield 9, 3) := by decide +kernel
theorem dX5_turn_78 : decode cX5_turn 78 = .ok (.iload_n 2, 1) := by decide +kernel
theorem dX5_turn_79 : decode cX5_turn 79 = .ok (.lload_n 3, 1) := by decide +kernel
theorem dX5_turn_80 : decode cX5_turn 80 = .ok (.lneg, 1) := by decide +kernel
theorem dX5_turn_81 : decode cX5_turn 81 = .ok (.lastore, 1) := by decide +kernel
theorem dX5_turn_82 : decode cX5_turn 82 = .ok (.aload_n 0, 1) := by decide +kernel
theorem dX5_turn_83 : decode cX5_turn 83 = .ok (.getfield 17, 3) := by decide +kernel
theorem dX5_turn_86 : decode cX5_turn 86 = .ok (.iconst 1, 1) := by decide +kernel
theorem dX5_turn_87 : decode cX5_turn 87 = .ok (.aaload, 1) := by decide +kernel
theorem dX5_turn_88 : decode cX5_turn 88 = .ok (.iload_n 2, 1) := by decide +kernel
theorem dX5_turn_89 : decode cX5_turn 89 = .ok (.lload_n 3, 1) := by decide +kernel
theorem dX5_turn_90 : decode cX5_turn 90 = .ok (.lneg, 1) := by decide +kernel
theorem dX5_turn_91 : decode cX5_turn 91 = .ok (.lastore, 1) := by decide +kernel
theorem dX5_turn_92 : decode cX5_turn 92 = .ok (.iinc 2 1, 3) := by decide +kernel
theorem dX5_turn_95 : decode cX5_turn 95 = .ok (.goto (-77), 3) := by decide +kernel
theorem dX5_turn_98 : decode cX5_turn 98 = .ok (.return_, 1) := by decide +kernel
theorem dX5_rowsOf_0 : decode cX5_rowsOf 0 = .ok (.lconst 0, 1) := by decide +kernel
theorem dX5_rowsOf_1 : decode cX5_rowsOf 1 = .ok (.lstore_n 3, 1) := by decide +kernel
theorem dX5_rowsOf_2 : decode cX5_rowsOf 2 = .ok (.iconst 1, 1) := by decide +kernel
theorem dX5_rowsOf_3 : decode cX5_rowsOf 3 = .ok (.istore 5, 2) := by decide +kernel
theorem dX5_rowsOf_5 : decode cX5_rowsOf 5 = .ok (.iload 5, 2) := by decide +kernel
theorem dX5_rowsOf_7 : decode cX5_rowsOf 7 = .ok (.iload_n 2, 1) := by decide +kernel
theorem dX5_rowsOf_8 : decode cX5_rowsOf 8 = .ok (.if_icmp .ge 33, 3) := by decide +kernel
theorem dX5_rowsOf_11 : decode cX5_rowsOf 11 = .ok (.lload_n 3, 1) := by decide +kernel
theorem dX5_rowsOf_12 : decode cX5_rowsOf 12 = .ok (.aload_n 0, 1) := by decide +kernel
theorem dX5_rowsOf_13 : decode cX5_rowsOf 13 = .ok (.getfield 9, 3) := by decide +kernel
theorem dX5_rowsOf_16 : decode cX5_rowsOf 16 = .ok (.iload 5, 2) := by decide +kernel
theorem dX5_rowsOf_18 : decode cX5_rowsOf 18 = .ok (.laload, 1) := by decide +kernel
theorem dX5_rowsOf_19 : decode cX5_rowsOf 19 = .ok (.aload_n 0, 1) := by decide +kernel
theorem dX5_rowsOf_20 : decode cX5_rowsOf 20 = .ok (.getfield 17, 3) := by decide +kernel
theorem dX5_rowsOf_23 : decode cX5_rowsOf 23 = .ok (.iload_n 1, 1) := by decide +kernel
theorem dX5_rowsOf_24 : decode cX5_rowsOf 24 = .ok (.iconst 1, 1) := by decide +kernel
theorem dX5_rowsOf_25 : decode cX5_rowsOf 25 = .ok (.isub, 1) := by decide +kernel
theorem dX5_rowsOf_26 : decode cX5_rowsOf 26 = .ok (.aaload, 1) := by decide +kernel
theorem dX5_rowsOf_27 : decode cX5_rowsOf 27 = .ok (.iload_n 2, 1) := by decide +kernel
theorem dX5_rowsOf_28 : decode cX5_rowsOf 28 = .ok (.iload 5, 2) := by decide +kernel
theorem dX5_rowsOf_30 : decode cX5_rowsOf 30 = .ok (.isub, 1) := by decide +kernel
theorem dX5_rowsOf_31 : decode cX5_rowsOf 31 = .ok (.laload, 1) := by decide +kernel
theorem dX5_rowsOf_32 : decode cX5_rowsOf 32 = .ok (.lmul, 1) := by decide +kernel
theorem dX5_rowsOf_33 : decode cX5_rowsOf 33 = .ok (.ladd, 1) := by decide +kernel
theorem dX5_rowsOf_34 : decode cX5_rowsOf 34 = .ok (.lstore_n 3, 1) := by decide +kernel
theorem dX5_rowsOf_35 : decode cX5_rowsOf 35 = .ok (.iinc 5 1, 3) := by decide +kernel
theorem dX5_rowsOf_38 : decode cX5_rowsOf 38 = .ok (.goto (-33), 3) := by decide +kernel
theorem dX5_rowsOf_41 : decode cX5_rowsOf 41 = .ok (.lload_n 3, 1) := by decide +kernel
theorem dX5_rowsOf_42 : decode cX5_rowsOf 42 = .ok (.lreturn, 1) := by decide +kernel
theorem dX6_init_0 : decode cX6_init 0 = .ok (.aload_n 0, 1) := by decide +kernel
theorem dX6_init_1 : decode cX6_init 1 = .ok (.invokespecial 3, 3) := by decide +kernel
theorem dX6_init_4 : decode cX6_init 4 = .ok (.aload_n 0, 1) := by decide +kernel
theorem dX6_init_5 : decode cX6_init 5 = .ok (.bipush 60, 2) := by decide +kernel
theorem dX6_init_7 : decode cX6_init 7 = .ok (.newarray .int, 2) := by decide +kernel
theorem dX6_init_9 : decode cX6_init 9 = .ok (.putfield 9, 3) := by decide +kernel
theorem dX6_init_12 : decode cX6_init 12 = .ok (.return_, 1) := by decide +kernel
set_option maxRecDepth 20000 in
theorem ggX6_measure_X8_entriesOf : GoodIn wsX6_measure wsX8_entriesOf := goodIn_r _ [8, 9, 10, 14, 15, 16, 17] (by decide +kernel) (by decide +kernel)
set_option maxRecDepth 20000 in
theorem gX6_measure_X8_entriesOf : GoodIn wsX6_measure (wsV RX6 24 RX8 yX8_entriesOf wsX8_entriesOf) := goodIn_app (goodIn_of _ (by decide +kernel)) ggX6_measure_X8_entriesOf
theorem dX6_measure_0 : decode cX6_measure 0 = .ok (.aload_n 2, 1) := by decide +kernel
theorem dX6_measure_1 : decode cX6_measure 1 = .ok (.getfield 15, 3) := by decide +kernel
theorem dX6_measure_4 : decode cX6_measure 4 = .ok (.iconst 1, 1) := by decide +kernel
theorem dX6_measure_5 : decode cX6_measure 5 = .ok (.isub, 1) := by decide +kernel
theorem dX6_measure_6 : decode cX6_measure 6 = .ok (.istore_n 3, 1) := by decide +kernel
theorem dX6_measure_7 : decode cX6_measure 7 = .ok (.iload_n 3, 1) := by decide +kernel
theorem dX6_measure_8 : decode cX6_measure 8 = .ok (.ifCond .lt 75, 3) := by decide +kernel
theorem dX6_measure_11 : decode cX6_measure 11 = .ok (.iload_n 3, 1) := by decide +kernel
theorem dX6_measure_12 : decode cX6_measure 12 = .ok (.iconst 1, 1) := by decide +kernel
theorem dX6_measure_13 : decode cX6_measure 13 = .ok (.iadd, 1) := by decide +kernel
theorem dX6_measure_14 : decode cX6_measure 14 = .ok (.istore 4, 2) := by decide +kernel
theorem dX6_measure_16 : decode cX6_measure 16 = .ok (.aload_n 1, 1) := by decide +kernel
theorem dX6_measure_17 : decode cX6_measure 17 = .ok (.aload_n 2, 1) := by decide +kernel
theorem dX6_measure_18 : decode cX6_measure 18 = .ok (.getfield 21, 3) := by decide +kernel
theorem dX6_measure_21 : decode cX6_measure 21 = .ok (.iload_n 3, 1) := by decide +kernel
theorem dX6_measure_22 : decode cX6_measure 22 = .ok (.iaload, 1) := by decide +kernel
theorem dX6_measure_23 : decode cX6_measure 23 = .ok (.invokevirtual 24, 3) := by decide +kernel
theorem dX6_measure_26 : decode cX6_measure 26 = .ok (.istore 5, 2) := by decide +kernel
theorem dX6_measure_28 : decode cX6_measure 28 = .ok (.iconst 0, 1) := by decide +kernel
theorem dX6_measure_29 : decode cX6_measure 29 = .ok (.istore 6, 2) := by decide +kernel
theorem dX6_measure_31 : decode cX6_measure 31 = .ok (.iload 6, 2) := by decide +kernel
theorem dX6_measure_33 : decode cX6_measure 33 = .ok (.iload 5, 2) := by decide +kernel
theorem dX6_measure_35 : decode cX6_measure 35 = .ok (.if_icmp .ge 34, 3) := by decide +kernel
theorem dX6_measure_38 : decode cX6_measure 38 = .ok (.iload 4, 2) := by decide +kernel
theorem dX6_measure_40 : decode cX6_measure 40 = .ok (.aload_n 2, 1) := by decide +kernel
theorem dX6_measure_41 : decode cX6_measure 41 = .ok (.getfield 15, 3) := by decide +kernel
theorem dX6_measure_44 : decode cX6_measure 44 = .ok (.if_icmp .ge 13, 3) := by decide +kernel
theorem dX6_measure_47 : decode cX6_measure 47 = .ok (.aload_n 0, 1) := by decide +kernel
theorem dX6_measure_48 : decode cX6_measure 48 = .ok (.getfield 9, 3) := by decide +kernel
theorem dX6_measure_51 : decode cX6_measure 51 = .ok (.iload 4, 2) := by decide +kernel
theorem dX6_measure_53 : decode cX6_measure 53 = .ok (.iaload, 1) := by decide +kernel
theorem dX6_measure_54 : decode cX6_measure 54 = .ok (.goto 7, 3) := by decide +kernel
theorem dX6_measure_57 : decode cX6_measure 57 = .ok (.aload_n 2, 1) := by decide +kernel
theorem dX6_measure_58 : decode cX6_measure 58 = .ok (.getfield 15, 3) := by decide +kernel
theorem dX6_measure_61 : decode cX6_measure 61 = .ok (.istore 4, 2) := by decide +kernel
theorem dX6_measure_63 : decode cX6_measure 63 = .ok (.iinc 6 1, 3) := by decide +kernel
theorem dX6_measure_66 : decode cX6_measure 66 = .ok (.goto (-35), 3) := by decide +kernel
theorem dX6_measure_69 : decode cX6_measure 69 = .ok (.aload_n 0, 1) := by decide +kernel
theorem dX6_measure_70 : decode cX6_measure 70 = .ok (.getfield 9, 3) := by decide +kernel
theorem dX6_measure_73 : decode cX6_measure 73 = .ok (.iload_n 3, 1) := by decide +kernel
theorem dX6_measure_74 : decode cX6_measure 74 = .ok (.iload 4, 2) := by decide +kernel
theorem dX6_measure_76 : decode cX6_measure 76 = .ok (.iastore, 1) := by decide +kernel
theorem dX6_measure_77 : decode cX6_measure 77 = .ok (.iinc 3 (-1), 3) := by decide +kernel
theorem dX6_measure_80 : decode cX6_measure 80 = .ok (.goto (-73), 3) := by decide +kernel
theorem dX6_measure_83 : decode cX6_measure 83 = .ok (.return_, 1) := by decide +kernel
set_option maxRecDepth 20000 in
theorem ggX6_heightOf_X6_measure : GoodIn wsX6_heightOf wsX6_measure := goodIn_r _ [10, 1, 11, 12, 13, 14, 15, 16, 17, 18, 19, 24, 25, 26, 27, 28, 29, 30] (by decide +kernel) (by decide +kernel)
set_option maxRecDepth 20000 in
theorem gX6_heightOf_X6_measure : GoodIn wsX6_heightOf (wsV RX6 30 RX6 yX6_measure wsX6_measure) := goodIn_app (goodIn_of _ (by decide +kernel)) ggX6_heightOf_X6_measure
set_option maxRecDepth 20000 in
theorem ggX6_heightOf_X6_actsOver : GoodIn wsX6_heightOf wsX6_actsOver := goodIn_r _ [23, 11, 12, 24, 25, 26] (by decide +kernel) (by decide +kernel)
set_option maxRecDepth 20000 in
theorem gX6_heightOf_X6_actsOver : GoodIn wsX6_heightOf (wsV RX6 34 RX6 yX6_actsOver wsX6_actsOver) := goodIn_app (goodIn_of _ (by decide +kernel)) ggX6_heightOf_X6_actsOver
theorem dX6_heightOf_0 : decode cX6_heightOf 0 = .ok (.aload_n 0, 1) := by decide +kernel
theorem dX6_heightOf_1 : decode cX6_heightOf 1 = .ok (.aload_n 1, 1) := by decide +kernel
theorem dX6_heightOf_2 : decode cX6_heightOf 2 = .ok (.aload_n 2, 1) := by decide +kernel
theorem dX6_heightOf_3 : decode cX6_heightOf 3 = .ok (.invokevirtual 30, 3) := by decide +kernel
theorem dX6_heightOf_6 : decode cX6_heightOf 6 = .ok (.iconst 0, 1) := by decide +kernel
theorem dX6_heightOf_7 : decode cX6_heightOf 7 = .ok (.istore_n 3, 1) := by decide +kernel
theorem dX6_heightOf_8 : decode cX6_heightOf 8 = .ok (.iconst 0, 1) := by decide +kernel
theorem dX6_heightOf_9 : decode cX6_heightOf 9 = .ok (.istore 4, 2) := by decide +kernel
theorem dX6_heightOf_11 : decode cX6_heightOf 11 = .ok (.iload 4, 2) := by decide +kernel
theorem dX6_heightOf_13 : decode cX6_heightOf 13 = .ok (.aload_n 2, 1) := by decide +kernel
theorem dX6_heightOf_14 : decode cX6_heightOf 14 = .ok (.getfield 15, 3) := by decide +kernel
theorem dX6_heightOf_17 : decode cX6_heightOf 17 = .ok (.if_icmp .ge 21, 3) := by decide +kernel
theorem dX6_heightOf_20 : decode cX6_heightOf 20 = .ok (.iload_n 3, 1) := by decide +kernel
theorem dX6_heightOf_21 : decode cX6_heightOf 21 = .ok (.aload_n 0, 1) := by decide +kernel
theorem dX6_heightOf_22 : decode cX6_heightOf 22 = .ok (.aload_n 2, 1) := by decide +kernel
theorem dX6_heightOf_23 : decode cX6_heightOf 23 = .ok (.iload 4, 2) := by decide +kernel
theorem dX6_heightOf_25 : decode cX6_heightOf 25 = .ok (.invokevirtual 34, 3) := by decide +kernel
theorem dX6_heightOf_28 : decode cX6_heightOf 28 = .ok (.invokestatic 38, 3) := by decide +kernel
theorem dX6_heightOf_31 : decode cX6_heightOf 31 = .ok (.istore_n 3, 1) := by decide +kernel
theorem dX6_heightOf_32 : decode cX6_heightOf 32 = .ok (.iinc 4 1, 3) := by decide +kernel
theorem dX6_heightOf_35 : decode cX6_heightOf 35 = .ok (.goto (-24), 3) := by decide +kernel
theorem dX6_heightOf_38 : decode cX6_heightOf 38 = .ok (.iload_n 3, 1) := by decide +kernel
theorem dX6_heightOf_39 : decode cX6_heightOf 39 = .ok (.ireturn, 1) := by decide +kernel
theorem dX6_actsOver_0 : decode cX6_actsOver 0 = .ok (.iconst 0, 1) := by decide +kernel
theorem dX6_actsOver_1 : decode cX6_actsOver 1 = .ok (.istore_n 3, 1) := by decide +kernel
theorem dX6_actsOver_2 : decode cX6_actsOver 2 = .ok (.iconst 0, 1) := by decide +kernel
theorem dX6_actsOver_3 : decode cX6_actsOver 3 = .ok (.istore 4, 2) := by decide +kernel
theorem dX6_actsOver_5 : decode cX6_actsOver 5 = .ok (.iload 4, 2) := by decide +kernel
theorem dX6_actsOver_7 : decode cX6_actsOver 7 = .ok (.iload_n 2, 1) := by decide +kernel
theorem dX6_actsOver_8 : decode cX6_actsOver 8 = .ok (.if_icmp .gt 34, 3) := by decide +kernel
theorem dX6_actsOver_11 : decode cX6_actsOver 11 = .ok (.aload_n 1, 1) := by decide +kernel
theorem dX6_actsOver_12 : decode cX6_actsOver 12 = .ok (.getfield 21, 3) := by decide +kernel
theorem dX6_actsOver_15 : decode cX6_actsOver 15 = .ok (.iload 4, 2) := by decide +kernel
theorem dX6_actsOver_17 : decode cX6_actsOver 17 = .ok (.iaload, 1) := by decide +kernel
theorem dX6_actsOver_18 : decode cX6_actsOver 18 = .ok (.iconst (-1), 1) := by decide +kernel
theorem dX6_actsOver_19 : decode cX6_actsOver 19 = .ok (.if_icmp .eq 17, 3) := by decide +kernel
theorem dX6_actsOver_22 : decode cX6_actsOver 22 = .ok (.aload_n 0, 1) := by decide +kernel
theorem dX6_actsOver_23 : decode cX6_actsOver 23 = .ok (.getfield 9, 3) := by decide +kernel
theorem dX6_actsOver_26 : decode cX6_actsOver 26 = .ok (.iload 4, 2) := by decide +kernel
theorem dX6_actsOver_28 : decode cX6_actsOver 28 = .ok (.iaload, 1) := by decide +kernel
theorem dX6_actsOver_29 : decode cX6_actsOver 29 = .ok (.iload_n 2, 1) := by decide +kernel
theorem dX6_actsOver_30 : decode cX6_actsOver 30 = .ok (.if_icmp .le 6, 3) := by decide +kernel
theorem dX6_actsOver_33 : decode cX6_actsOver 33 = .ok (.iinc 3 1, 3) := by decide +kernel
theorem dX6_actsOver_36 : decode cX6_actsOver 36 = .ok (.iinc 4 1, 3) := by decide +kernel
theorem dX6_actsOver_39 : decode cX6_actsOver 39 = .ok (.goto (-34), 3) := by decide +kernel
theorem dX6_actsOver_42 : decode cX6_actsOver 42 = .ok (.iload_n 3, 1) := by decide +kernel
theorem dX6_actsOver_43 : decode cX6_actsOver 43 = .ok (.ireturn, 1) := by decide +kernel
theorem dX7_init_0 : decode cX7_init 0 = .ok (.aload_n 0, 1) := by decide +kernel
theorem dX7_init_1 : decode cX7_init 1 = .ok (.invokespecial 1, 3) := by decide +kernel
theorem dX7_init_4 : decode cX7_init 4 = .ok (.aload_n 0, 1) := by decide +kernel
theorem dX7_init_5 : decode cX7_init 5 = .ok (.bipush 16, 2) := by decide +kernel
theorem dX7_init_7 : decode cX7_init 7 = .ok (.newarray .long, 2) := by decide +kernel
theorem dX7_init_9 : decode cX7_init 9 = .ok (.putfield 7, 3) := by decide +kernel
theorem dX7_init_12 : decode cX7_init 12 = .ok (.aload_n 0, 1) := by decide +kernel
theorem dX7_init_13 : decode cX7_init 13 = .ok (.bipush 16, 2) := by decide +kernel
theorem dX7_init_15 : decode cX7_init 15 = .ok (.newarray .long, 2) := by decide +kernel
theorem dX7_init_17 : decode cX7_init 17 = .ok (.putfield 13, 3) := by decide +kernel
theorem dX7_init_20 : decode cX7_init 20 = .ok (.return_, 1) := by decide +kernel
theorem dX7_clear_0 : decode cX7_clear 0 = .ok (.aload_n 0, 1) := by decide +kernel
theorem dX7_clear_1 : decode cX7_clear 1 = .ok (.iconst 0, 1) := by decide +kernel
theorem dX7_clear_2 : decode cX7_clear 2 = .ok (.putfield 16, 3) := by decide +kernel
theorem dX7_clear_5 : decode cX7_clear 5 = .ok (.return_, 1) := by decide +kernel
set_option maxRecDepth 20000 in
theorem ggX7_add_J7_copyOf_c38d5 : GoodIn wsX7_add wsJ7_copyOf_c38d5 := goodIn_r _ [7, 8, 9, 10, 11, 12, 13, 14, 15, 16, 17, 18, 19, 20, 21, 22] (by decide +kernel) (by decide +kernel)
set_option maxRecDepth 20000 in
theorem gX7_add_J7_copyOf_c38d5 : GoodIn wsX7_add (va_wsS RX7 20 yJ7_copyOf_c38d5 wsJ7_copyOf_c38d5) := goodIn_app (goodIn_of _ (by decide +kernel)) ggX7_add_J7_copyOf_c38d5
theorem dX7_add_0 : decode cX7_add 0 = .ok (.iconst 0, 1) := by decide +kernel
theorem dX7_add_1 : decode cX7_add 1 = .ok (.istore 5, 2) := by decide +kernel
theorem dX7_add_3 : decode cX7_add 3 = .ok (.iload 5, 2) := by decide +kernel
theorem dX7_add_5 : decode cX7_add 5 = .ok (.aload_n 0, 1) := by decide +kernel
theorem dX7_add_6 : decode cX7_add 6 = .ok (.getfield 16, 3) := by decide +kernel
theorem dX7_add_9 : decode cX7_add 9 = .ok (.if_icmp .ge 33, 3) := by decide +kernel
theorem dX7_add_12 : decode cX7_add 12 = .ok (.aload_n 0, 1) := by decide +kernel
theorem dX7_add_13 : decode cX7_add 13 = .ok (.getfield 7, 3) := by decide +kernel
theorem dX7_add_16 : decode cX7_add 16 = .ok (.iload 5, 2) := by decide +kernel
theorem dX7_add_18 : decode cX7_add 18 = .ok (.laload, 1) := by decide +kernel
theorem dX7_add_19 : decode cX7_add 19 = .ok (.lload_n 1, 1) := by decide +kernel
theorem dX7_add_20 : decode cX7_add 20 = .ok (.lcmp, 1) := by decide +kernel
theorem dX7_add_21 : decode cX7_add 21 = .ok (.ifCond .ne 15, 3) := by decide +kernel
theorem dX7_add_24 : decode cX7_add 24 = .ok (.aload_n 0, 1) := by decide +kernel
theorem dX7_add_25 : decode cX7_add 25 = .ok (.getfield 13, 3) := by decide +kernel
theorem dX7_add_28 : decode cX7_add 28 = .ok (.iload 5, 2) := by decide +kernel
theorem dX7_add_30 : decode cX7_add 30 = .ok (.dup2, 1) := by decide +kernel
theorem dX7_add_31 : decode cX7_add 31 = .ok (.laload, 1) := by decide +kernel
theorem dX7_add_32 : decode cX7_add 32 = .ok (.lload_n 3, 1) := by decide +kernel
theorem dX7_add_33 : decode cX7_add 33 = .ok (.ladd, 1) := by decide +kernel
theorem dX7_add_34 : decode cX7_add 34 = .ok (.lastore, 1) := by decide +kernel
theorem dX7_add_35 : decode cX7_add 35 = .ok (.return_, 1) := by decide +kernel
theorem dX7_add_36 : decode cX7_add 36 = .ok (.iinc 5 1, 3) := by decide +kernel
theorem dX7_add_39 : decode cX7_add 39 = .ok (.goto (-36), 3) := by decide +kernel
theorem dX7_add_42 : decode cX7_add 42 = .ok (.aload_n 0, 1) := by decide +kernel
theorem dX7_add_43 : decode cX7_add 43 = .ok (.getfield 16, 3) := by decide +kernel
theorem dX7_add_46 : decode cX7_add 46 = .ok (.aload_n 0, 1) := by decide +kernel
theorem dX7_add_47 : decode cX7_add 47 = .ok (.getfield 7, 3) := by decide +kernel
theorem dX7_add_50 : decode cX7_add 50 = .ok (.arraylength, 1) := by decide +kernel
theorem dX7_add_51 : decode cX7_add 51 = .ok (.if_icmp .ne 37, 3) := by decide +kernel
theorem dX7_add_54 : decode cX7_add 54 = .ok (.aload_n 0, 1) := by decide +kernel
theorem dX7_add_55 : decode cX7_add 55 = .ok (.aload_n 0, 1) := by decide +kernel
theorem dX7_add_56 : decode cX7_add 56 = .ok (.getfield 7, 3) := by decide +kernel
theorem dX7_add_59 : decode cX7_add 59 = .ok (.iconst 2, 1) := by decide +kernel
theorem dX7_add_60 : decode cX7_add 60 = .ok (.aload_n 0, 1) := by decide +kernel
theorem dX7_add_61 : decode cX7_add 61 = .ok (.getfield 16, 3) := by decide +kernel
theorem dX7_add_64 : decode cX7_add 64 = .ok (.imul, 1) := by decide +kernel
theorem dX7_add_65 : decode cX7_add 65 = .ok (.invokestatic 20, 3) := by decide +kernel
theorem dX7_add_68 : decode cX7_add 68 = .ok (.putfield 7, 3) := by decide +kernel
theorem dX7_add_71 : decode cX7_add 71 = .ok (.aload_n 0, 1) := by decide +kernel
theorem dX7_add_72 : decode cX7_add 72 = .ok (.aload_n 0, 1) := by decide +kernel
theorem dX7_add_73 : decode cX7_add 73 = .ok (.getfield 13, 3) := by decide +kernel
theorem dX7_add_76 : decode cX7_add 76 = .ok (.iconst 2, 1) := by decide +kernel
theorem dX7_add_77 : decode cX7_add 77 = .ok (.aload_n 0, 1) := by decide +kernel
theorem dX7_add_78 : decode cX7_add 78 = .ok (.getfield 16, 3) := by decide +kernel
theorem dX7_add_81 : decode cX7_add 81 = .ok (.imul, 1) := by decide +kernel
theorem dX7_add_82 : decode cX7_add 82 = .ok (.invokestatic 20, 3) := by decide +kernel
theorem dX7_add_85 : decode cX7_add 85 = .ok (.putfield 13, 3) := by decide +kernel
theorem dX7_add_88 : decode cX7_add 88 = .ok (.aload_n 0, 1) := by decide +kernel
theorem dX7_add_89 : decode cX7_add 89 = .ok (.getfield 7, 3) := by decide +kernel
theorem dX7_add_92 : decode cX7_add 92 = .ok (.aload_n 0, 1) := by decide +kernel
theorem dX7_add_93 : decode cX7_add 93 = .ok (.getfield 16, 3) := by decide +kernel
theorem dX7_add_96 : decode cX7_add 96 = .ok (.lload_n 1, 1) := by decide +kernel
theorem dX7_add_97 : decode cX7_add 97 = .ok (.lastore, 1) := by decide +kernel
theorem dX7_add_98 : decode cX7_add 98 = .ok (.aload_n 0, 1) := by decide +kernel
theorem dX7_add_99 : decode cX7_add 99 = .ok (.getfield 13, 3) := by decide +kernel
theorem dX7_add_102 : decode cX7_add 102 = .ok (.aload_n 0, 1) := by decide +kernel
theorem dX7_add_103 : decode cX7_add 103 = .ok (.getfield 16, 3) := by decide +kernel
theorem dX7_add_106 : decode cX7_add 106 = .ok (.lload_n 3, 1) := by decide +kernel
theorem dX7_add_107 : decode cX7_add 107 = .ok (.lastore, 1) := by decide +kernel
theorem dX7_add_108 : decode cX7_add 108 = .ok (.aload_n 0, 1) := by decide +kernel
theorem dX7_add_109 : decode cX7_add 109 = .ok (.dup, 1) := by decide +kernel
theorem dX7_add_110 : decode cX7_add 110 = .ok (.getfield 16, 3) := by decide +kernel
theorem dX7_add_113 : decode cX7_add 113 = .ok (.iconst 1, 1) := by decide +kernel
theorem dX7_add_114 : decode cX7_add 114 = .ok (.iadd, 1) := by decide +kernel
theorem dX7_add_115 : decode cX7_add 115 = .ok (.putfield 16, 3) := by decide +kernel
theorem dX7_add_118 : decode cX7_add 118 = .ok (.return_, 1) := by decide +kernel
set_option maxRecDepth 20000 in
theorem ggX8_init_X4_init : GoodIn wsX8_init wsX4_init := goodIn_r _ [11, 12, 2, 3, 13, 14, 15, 16, 17, 18, 19, 20, 4, 21, 29, 30, 26, 27, 28] (by decide +kernel) (by decide +kernel)
set_option maxRecDepth 20000 in
theorem gX8_init_X4_init_n21 : GoodIn wsX8_init (wsX4_init) := ggX8_init_X4_init
theorem dX8_init_0 : decode cX8_init 0 = .ok (.aload_n 0, 1) := by decide +kernel
theorem dX8_init_1 : decode cX8_init 1 = .ok (.invokespecial 3, 3) := by decide +kernel
theorem dX8_init_4 : decode cX8_init 4 = .ok (.aload_n 0, 1) := by decide +kernel
theorem dX8_init_5 : decode cX8_init 5 = .ok (.iconst 4, 1) := by decide +kernel
theorem dX8_init_6 : decode cX8_init 6 = .ok (.newarray .int, 2) := by decide +kernel
theorem dX8_init_8 : decode cX8_init 8 = .ok (.putfield 9, 3) := by decide +kernel
theorem dX8_init_11 : decode cX8_init 11 = .ok (.aload_n 0, 1) := by decide +kernel
theorem dX8_init_12 : decode cX8_init 12 = .ok (.bipush 8, 2) := by decide +kernel
theorem dX8_init_14 : decode cX8_init 14 = .ok (.anewarray 15, 3) := by decide +kernel
theorem dX8_init_17 : decode cX8_init 17 = .ok (.putfield 17, 3) := by decide +kernel
theorem dX8_init_20 : decode cX8_init 20 = .ok (.iconst 0, 1) := by decide +kernel
theorem dX8_init_21 : decode cX8_init 21 = .ok (.istore_n 1, 1) := by decide +kernel
theorem dX8_init_22 : decode cX8_init 22 = .ok (.iload_n 1, 1) := by decide +kernel
theorem dX8_init_23 : decode cX8_init 23 = .ok (.bipush 8, 2) := by decide +kernel
theorem dX8_init_25 : decode cX8_init 25 = .ok (.if_icmp .ge 22, 3) := by decide +kernel
theorem dX8_init_28 : decode cX8_init 28 = .ok (.aload_n 0, 1) := by decide +kernel
theorem dX8_init_29 : decode cX8_init 29 = .ok (.getfield 17, 3) := by decide +kernel
theorem dX8_init_32 : decode cX8_init 32 = .ok (.iload_n 1, 1) := by decide +kernel
theorem dX8_init_33 : decode cX8_init 33 = .ok (.new 15, 3) := by decide +kernel
theorem dX8_init_36 : decode cX8_init 36 = .ok (.dup, 1) := by decide +kernel
theorem dX8_init_37 : decode cX8_init 37 = .ok (.invokespecial 21, 3) := by decide +kernel
theorem dX8_init_40 : decode cX8_init 40 = .ok (.aastore, 1) := by decide +kernel
theorem dX8_init_41 : decode cX8_init 41 = .ok (.iinc 1 1, 3) := by decide +kernel
theorem dX8_init_44 : decode cX8_init 44 = .ok (.goto (-22), 3) := by decide +kernel
theorem dX8_init_47 : decode cX8_init 47 = .ok (.return_, 1) := by decide +kernel
theorem dX8_addAct_0 : decode cX8_addAct 0 = .ok (.aload_n 0, 1) := by decide +kernel
theorem dX8_addAct_1 : decode cX8_addAct 1 = .ok (.getfield 22, 3) := by decide +kernel
theorem dX8_addAct_4 : decode cX8_addAct 4 = .ok (.iconst 4, 1) := by decide +kernel
theorem dX8_addAct_5 : decode cX8_addAct 5 = .ok (.if_icmp .lt 6, 3) := by decide +kernel
theorem dX8_addAct_8 : decode cX8_addAct 8 = .ok (.bipush (-4), 2) := by decide +kernel
theorem dX8_addAct_10 : decode cX8_addAct 10 = .ok (.ireturn, 1) := by decide +kernel
theorem dX8_addAct_11 : decode cX8_addAct 11 = .ok (.aload_n 0, 1) := by decide +kernel
theorem dX8_addAct_12 : decode cX8_addAct 12 = .ok (.getfield 9, 3) := by decide +kernel
theorem dX8_addAct_15 : decode cX8_addAct 15 = .ok (.aload_n 0, 1) := by decide +kernel
theorem dX8_addAct_16 : decode cX8_addAct 16 = .ok (.getfield 22, 3) := by decide +kernel
theorem dX8_addAct_19 : decode cX8_addAct 19 = .ok (.iload_n 1, 1) := by decide +kernel
theorem dX8_addAct_20 : decode cX8_addAct 20 = .ok (.iastore, 1) := by decide +kernel
theorem dX8_addAct_21 : decode cX8_addAct 21 = .ok (.aload_n 0, 1) := by decide +kernel
theorem dX8_addAct_22 : decode cX8_addAct 22 = .ok (.dup, 1) := by decide +kernel
theorem dX8_addAct_23 : decode cX8_addAct 23 = .ok (.getfield 22, 3) := by decide +kernel
theorem dX8_addAct_26 : decode cX8_addAct 26 = .ok (.iconst 1, 1) := by decide +kernel
theorem dX8_addAct_27 : decode cX8_addAct 27 = .ok (.iadd, 1) := by decide +kernel
theorem dX8_addAct_28 : decode cX8_addAct 28 = .ok (.putfield 22, 3) := by decide +kernel
theorem dX8_addAct_31 : decode cX8_addAct 31 = .ok (.aload_n 0, 1) := by decide +kernel
theorem dX8_addAct_32 : decode cX8_addAct 32 = .ok (.getfield 22, 3) := by decide +kernel
theorem dX8_addAct_35 : decode cX8_addAct 35 = .ok (.iconst 1, 1) := by decide +kernel
theorem dX8_addAct_36 : decode cX8_addAct 36 = .ok (.isub, 1) := by decide +kernel
theorem dX8_addAct_37 : decode cX8_addAct 37 = .ok (.ireturn, 1) := by decide +kernel
set_option maxRecDepth 20000 in
theorem ggX8_addRule_X3_become : GoodIn wsX8_addRule wsX3_become := goodIn_r _ [10, 11, 12, 13, 14, 15, 16, 24, 25] (by decide +kernel) (by decide +kernel)
set_option maxRecDepth 20000 in
theorem gX8_addRule_X3_become : GoodIn wsX8_addRule (wsV RX8 33 RX3 yX3_become wsX3_become) := goodIn_app (goodIn_of _ (by decide +kernel)) ggX8_addRule_X3_become
theorem dX8_addRule_0 : decode cX8_addRule 0 = .ok (.aload_n 0, 1) := by decide +kernel
theorem dX8_addRule_1 : decode cX8_addRule 1 = .ok (.getfield 26, 3) := by decide +kernel
theorem dX8_addRule_4 : decode cX8_addRule 4 = .ok (.bipush 8, 2) := by decide +kernel
theorem dX8_addRule_6 : decode cX8_addRule 6 = .ok (.if_icmp .lt 6, 3) := by decide +kernel
theorem dX8_addRule_9 : decode cX8_addRule 9 = .ok (.bipush (-4), 2) := by decide +kernel
theorem dX8_addRule_11 : decode cX8_addRule 11 = .ok (.ireturn, 1) := by decide +kernel
theorem dX8_addRule_12 : decode cX8_addRule 12 = .ok (.aload_n 0, 1) := by decide +kernel
theorem dX8_addRule_13 : decode cX8_addRule 13 = .ok (.getfield 17, 3) := by decide +kernel
theorem dX8_addRule_16 : decode cX8_addRule 16 = .ok (.aload_n 0, 1) := by decide +kernel
theorem dX8_addRule_17 : decode cX8_addRule 17 = .ok (.getfield 26, 3) := by decide +kernel
theorem dX8_addRule_20 : decode cX8_addRule 20 = .ok (.aaload, 1) := by decide +kernel
theorem dX8_addRule_21 : decode cX8_addRule 21 = .ok (.astore 4, 2) := by decide +kernel
theorem dX8_addRule_23 : decode cX8_addRule 23 = .ok (.aload 4, 2) := by decide +kernel
theorem dX8_addRule_25 : decode cX8_addRule 25 = .ok (.getfield 29, 3) := by decide +kernel
theorem dX8_addRule_28 : decode cX8_addRule 28 = .ok (.aload_n 1, 1) := by decide +kernel
theorem dX8_addRule_29 : decode cX8_addRule 29 = .ok (.invokevirtual 33, 3) := by decide +kernel
theorem dX8_addRule_32 : decode cX8_addRule 32 = .ok (.aload 4, 2) := by decide +kernel
theorem dX8_addRule_34 : decode cX8_addRule 34 = .ok (.getfield 39, 3) := by decide +kernel
theorem dX8_addRule_37 : decode cX8_addRule 37 = .ok (.aload_n 2, 1) := by decide +kernel
theorem dX8_addRule_38 : decode cX8_addRule 38 = .ok (.invokevirtual 33, 3) := by decide +kernel
theorem dX8_addRule_41 : decode cX8_addRule 41 = .ok (.aload 4, 2) := by decide +kernel
theorem dX8_addRule_43 : decode cX8_addRule 43 = .ok (.iload_n 3, 1) := by decide +kernel
theorem dX8_addRule_44 : decode cX8_addRule 44 = .ok (.putfield 42, 3) := by decide +kernel
theorem dX8_addRule_47 : decode cX8_addRule 47 = .ok (.aload_n 0, 1) := by decide +kernel
theorem dX8_addRule_48 : decode cX8_addRule 48 = .ok (.dup, 1) := by decide +kernel
theorem dX8_addRule_49 : decode cX8_addRule 49 = .ok (.getfield 26, 3) := by decide +kernel
theorem dX8_addRule_52 : decode cX8_addRule 52 = .ok (.iconst 1, 1) := by decide +kernel
theorem dX8_addRule_53 : decode cX8_addRule 53 = .ok (.iadd, 1) := by decide +kernel
theorem dX8_addRule_54 : decode cX8_addRule 54 = .ok (.putfield 26, 3) := by decide +kernel
theorem dX8_addRule_57 : decode cX8_addRule 57 = .ok (.aload_n 0, 1) := by decide +kernel
theorem dX8_addRule_58 : decode cX8_addRule 58 = .ok (.getfield 26, 3) := by decide +kernel
theorem dX8_addRule_61 : decode cX8_addRule 61 = .ok (.iconst 1, 1) := by decide +kernel
theorem dX8_addRule_62 : decode cX8_addRule 62 = .ok (.isub, 1) := by decide +kernel
theorem dX8_addRule_63 : decode cX8_addRule 63 = .ok (.ireturn, 1) := by decide +kernel
theorem dX8_isSymbol_0 : decode cX8_isSymbol 0 = .ok (.iload_n 1, 1) := by decide +kernel
theorem dX8_isSymbol_1 : decode cX8_isSymbol 1 = .ok (.iconst (-1), 1) := by decide +kernel
theorem dX8_isSymbol_2 : decode cX8_isSymbol 2 = .ok (.if_icmp .lt 15, 3) := by decide +kernel
theorem dX8_isSymbol_5 : decode cX8_isSymbol 5 = .ok (.iload_n 1, 1) := by decide +kernel
theorem dX8_isSymbol_6 : decode cX8_isSymbol 6 = .ok (.aload_n 0, 1) := by decide +kernel
theorem dX8_isSymbol_7 : decode cX8_isSymbol 7 = .ok (.getfield 22, 3) := by decide +kernel
theorem dX8_isSymbol_10 : decode cX8_isSymbol 10 = .ok (.if_icmp .ge 7, 3) := by decide +kernel
theorem dX8_isSymbol_13 : decode cX8_isSymbol 13 = .ok (.iconst 1, 1) := by decide +kernel
theorem dX8_isSymbol_14 : decode cX8_isSymbol 14 = .ok (.goto 4, 3) := by decide +kernel
theorem dX8_isSymbol_17 : decode cX8_isSymbol 17 = .ok (.iconst 0, 1) := by decide +kernel
theorem dX8_isSymbol_18 : decode cX8_isSymbol 18 = .ok (.ireturn, 1) := by decide +kernel
theorem dX8_isRule_0 : decode cX8_isRule 0 = .ok (.iload_n 1, 1) := by decide +kernel
theorem dX8_isRule_1 : decode cX8_isRule 1 = .ok (.ifCond .lt 15, 3) := by decide +kernel
theorem dX8_isRule_4 : decode cX8_isRule 4 = .ok (.iload_n 1, 1) := by decide +kernel
theorem dX8_isRule_5 : decode cX8_isRule 5 = .ok (.aload_n 0, 1) := by decide +kernel
theorem dX8_isRule_6 : decode cX8_isRule 6 = .ok (.getfield 26, 3) := by decide +kernel
theorem dX8_isRule_9 : decode cX8_isRule 9 = .ok (.if_icmp .ge 7, 3) := by decide +kernel
theorem dX8_isRule_12 : decode cX8_isRule 12 = .ok (.iconst 1, 1) := by decide +kernel
theorem dX8_isRule_13 : decode cX8_isRule 13 = .ok (.goto 4, 3) := by decide +kernel
theorem dX8_isRule_16 : decode cX8_isRule 16 = .ok (.iconst 0, 1) := by decide +kernel
theorem dX8_isRule_17 : decode cX8_isRule 17 = .ok (.ireturn, 1) := by decide +kernel
theorem dX8_entriesOf_0 : decode cX8_entriesOf 0 = .ok (.iload_n 1, 1) := by decide +kernel
theorem dX8_entriesOf_1 : decode cX8_entriesOf 1 = .ok (.ifCond .lt 20, 3) := by decide +kernel
theorem dX8_entriesOf_4 : decode cX8_entriesOf 4 = .ok (.iload_n 1, 1) := by decide +kernel
theorem dX8_entriesOf_5 : decode cX8_entriesOf 5 = .ok (.aload_n 0, 1) := by decide +kernel
theorem dX8_entriesOf_6 : decode cX8_entriesOf 6 = .ok (.getfield 22, 3) := by decide +kernel
theorem dX8_entriesOf_9 : decode cX8_entriesOf 9 = .ok (.if_icmp .ge 12, 3) := by decide +kernel
theorem dX8_entriesOf_12 : decode cX8_entriesOf 12 = .ok (.aload_n 0, 1) := by decide +kernel
theorem dX8_entriesOf_13 : decode cX8_entriesOf 13 = .ok (.getfield 9, 3) := by decide +kernel
theorem dX8_entriesOf_16 : decode cX8_entriesOf 16 = .ok (.iload_n 1, 1) := by decide +kernel
theorem dX8_entriesOf_17 : decode cX8_entriesOf 17 = .ok (.iaload, 1) := by decide +kernel
theorem dX8_entriesOf_18 : decode cX8_entriesOf 18 = .ok (.goto 4, 3) := by decide +kernel
theorem dX8_entriesOf_21 : decode cX8_entriesOf 21 = .ok (.iconst 0, 1) := by decide +kernel
theorem dX8_entriesOf_22 : decode cX8_entriesOf 22 = .ok (.ireturn, 1) := by decide +kernel
set_option maxRecDepth 20000 in
theorem ggX8_endOf_X8_entriesOf : GoodIn wsX8_endOf wsX8_entriesOf := goodIn_r _ [11, 12, 13, 16, 17, 18, 19] (by decide +kernel) (by decide +kernel)
set_option maxRecDepth 20000 in
theorem gX8_endOf_X8_entriesOf : GoodIn wsX8_endOf (wsV RX8 58 RX8 yX8_entriesOf wsX8_entriesOf) := goodIn_app (goodIn_of _ (by decide +kernel)) ggX8_endOf_X8_entriesOf
theorem dX8_endOf_0 : decode cX8_endOf 0 = .ok (.iconst 1, 1) := by decide +kernel
theorem dX8_endOf_1 : decode cX8_endOf 1 = .ok (.istore_n 3, 1) := by decide +kernel
theorem dX8_endOf_2 : decode cX8_endOf 2 = .ok (.iload_n 2, 1) := by decide +kernel
theorem dX8_endOf_3 : decode cX8_endOf 3 = .ok (.iconst 0, 1) := by decide +kernel
theorem dX8_endOf_4 : decode cX8_endOf 4 = .ok (.invokestatic 46, 3) := by decide +kernel
theorem dX8_endOf_7 : decode cX8_endOf 7 = .ok (.istore 4, 2) := by decide +kernel
theorem dX8_endOf_9 : decode cX8_endOf 9 = .ok (.iload 4, 2) := by decide +kernel
theorem dX8_endOf_11 : decode cX8_endOf 11 = .ok (.aload_n 1, 1) := by decide +kernel
theorem dX8_endOf_12 : decode cX8_endOf 12 = .ok (.getfield 52, 3) := by decide +kernel
theorem dX8_endOf_15 : decode cX8_endOf 15 = .ok (.if_icmp .ge 34, 3) := by decide +kernel
theorem dX8_endOf_18 : decode cX8_endOf 18 = .ok (.iload_n 3, 1) := by decide +kernel
theorem dX8_endOf_19 : decode cX8_endOf 19 = .ok (.aload_n 0, 1) := by decide +kernel
theorem dX8_endOf_20 : decode cX8_endOf 20 = .ok (.aload_n 1, 1) := by decide +kernel
theorem dX8_endOf_21 : decode cX8_endOf 21 = .ok (.getfield 55, 3) := by decide +kernel
theorem dX8_endOf_24 : decode cX8_endOf 24 = .ok (.iload 4, 2) := by decide +kernel
theorem dX8_endOf_26 : decode cX8_endOf 26 = .ok (.iaload, 1) := by decide +kernel
theorem dX8_endOf_27 : decode cX8_endOf 27 = .ok (.invokevirtual 58, 3) := by decide +kernel
theorem dX8_endOf_30 : decode cX8_endOf 30 = .ok (.iconst 1, 1) := by decide +kernel
theorem dX8_endOf_31 : decode cX8_endOf 31 = .ok (.isub, 1) := by decide +kernel
theorem dX8_endOf_32 : decode cX8_endOf 32 = .ok (.iadd, 1) := by decide +kernel
theorem dX8_endOf_33 : decode cX8_endOf 33 = .ok (.istore_n 3, 1) := by decide +kernel
theorem dX8_endOf_34 : decode cX8_endOf 34 = .ok (.iload_n 3, 1) := by decide +kernel
theorem dX8_endOf_35 : decode cX8_endOf 35 = .ok (.ifCond .ne 8, 3) := by decide +kernel
theorem dX8_endOf_38 : decode cX8_endOf 38 = .ok (.iload 4, 2) := by decide +kernel
theorem dX8_endOf_40 : decode cX8_endOf 40 = .ok (.iconst 1, 1) := by decide +kernel
theorem dX8_endOf_41 : decode cX8_endOf 41 = .ok (.iadd, 1) := by decide +kernel
theorem dX8_endOf_42 : decode cX8_endOf 42 = .ok (.ireturn, 1) := by decide +kernel
theorem dX8_endOf_43 : decode cX8_endOf 43 = .ok (.iinc 4 1, 3) := by decide +kernel
theorem dX8_endOf_46 : decode cX8_endOf 46 = .ok (.goto (-37), 3) := by decide +kernel
theorem dX8_endOf_49 : decode cX8_endOf 49 = .ok (.aload_n 1, 1) := by decide +kernel
theorem dX8_endOf_50 : decode cX8_endOf 50 = .ok (.getfield 52, 3) := by decide +kernel
theorem dX8_endOf_53 : decode cX8_endOf 53 = .ok (.iconst 1, 1) := by decide +kernel
theorem dX8_endOf_54 : decode cX8_endOf 54 = .ok (.iadd, 1) := by decide +kernel
theorem dX8_endOf_55 : decode cX8_endOf 55 = .ok (.ireturn, 1) := by decide +kernel
set_option maxRecDepth 20000 in
theorem ggX8_isTree_X8_endOf : GoodIn wsX8_isTree wsX8_endOf := goodIn_r _ [6, 7, 8, 9, 10, 1, 11, 12, 13, 14, 5, 15, 16, 17, 18, 19, 20, 21, 22, 23] (by decide +kernel) (by decide +kernel)
set_option maxRecDepth 20000 in
theorem gX8_isTree_X8_endOf : GoodIn wsX8_isTree (wsV RX8 62 RX8 yX8_endOf wsX8_endOf) := goodIn_app (goodIn_of _ (by decide +kernel)) ggX8_isTree_X8_endOf
theorem dX8_isTree_0 : decode cX8_isTree 0 = .ok (.aload_n 0, 1) := by decide +kernel
theorem dX8_isTree_1 : decode cX8_isTree 1 = .ok (.aload_n 1, 1) := by decide +kernel
theorem dX8_isTree_2 : decode cX8_isTree 2 = .ok (.iconst 0, 1) := by decide +kernel
theorem dX8_isTree_3 : decode cX8_isTree 3 = .ok (.invokevirtual 62, 3) := by decide +kernel
theorem dX8_isTree_6 : decode cX8_isTree 6 = .ok (.aload_n 1, 1) := by decide +kernel
theorem dX8_isTree_7 : decode cX8_isTree 7 = .ok (.getfield 52, 3) := by decide +kernel
theorem dX8_isTree_10 : decode cX8_isTree 10 = .ok (.if_icmp .ne 7, 3) := by decide +kernel
theorem dX8_isTree_13 : decode cX8_isTree 13 = .ok (.iconst 1, 1) := by decide +kernel
theorem dX8_isTree_14 : decode cX8_isTree 14 = .ok (.goto 4, 3) := by decide +kernel
theorem dX8_isTree_17 : decode cX8_isTree 17 = .ok (.iconst 0, 1) := by decide +kernel
theorem dX8_isTree_18 : decode cX8_isTree 18 = .ok (.ireturn, 1) := by decide +kernel
theorem dX8_rulesToNothing_0 : decode cX8_rulesToNothing 0 = .ok (.iconst 0, 1) := by decide +kernel
theorem dX8_rulesToNothing_1 : decode cX8_rulesToNothing 1 = .ok (.istore_n 1, 1) := by decide +kernel
theorem dX8_rulesToNothing_2 : decode cX8_rulesToNothing 2 = .ok (.iconst 0, 1) := by decide +kernel
theorem dX8_rulesToNothing_3 : decode cX8_rulesToNothing 3 = .ok (.istore_n 2, 1) := by decide +kernel
theorem dX8_rulesToNothing_4 : decode cX8_rulesToNothing 4 = .ok (.iload_n 2, 1) := by decide +kernel
theorem dX8_rulesToNothing_5 : decode cX8_rulesToNothing 5 = .ok (.aload_n 0, 1) := by decide +kernel
theorem dX8_rulesToNothing_6 : decode cX8_rulesToNothing 6 = .ok (.getfield 26, 3) := by decide +kernel
theorem dX8_rulesToNothing_9 : decode cX8_rulesToNothing 9 = .ok (.if_icmp .ge 24, 3) := by decide +kernel
theorem dX8_rulesToNothing_12 : decode cX8_rulesToNothing 12 = .ok (.aload_n 0, 1) := by decide +kernel
theorem dX8_rulesToNothing_13 : decode cX8_rulesToNothing 13 = .ok (.getfield 17, 3) := by decide +kernel
theorem dX8_rulesToNothing_16 : decode cX8_rulesToNothing 16 = .ok (.iload_n 2, 1) := by decide +kernel
theorem dX8_rulesToNothing_17 : decode cX8_rulesToNothing 17 = .ok (.aaload, 1) := by decide +kernel
theorem dX8_rulesToNothing_18 : decode cX8_rulesToNothing 18 = .ok (.getfield 42, 3) := by decide +kernel
theorem dX8_rulesToNothing_21 : decode cX8_rulesToNothing 21 = .ok (.ifCond .eq 6, 3) := by decide +kernel
theorem dX8_rulesToNothing_24 : decode cX8_rulesToNothing 24 = .ok (.iinc 1 1, 3) := by decide +kernel
theorem dX8_rulesToNothing_27 : decode cX8_rulesToNothing 27 = .ok (.iinc 2 1, 3) := by decide +kernel
theorem dX8_rulesToNothing_30 : decode cX8_rulesToNothing 30 = .ok (.goto (-26), 3) := by decide +kernel
theorem dX8_rulesToNothing_33 : decode cX8_rulesToNothing 33 = .ok (.iload_n 1, 1) := by decide +kernel
theorem dX8_rulesToNothing_34 : decode cX8_rulesToNothing 34 = .ok (.ireturn, 1) := by decide +kernel
end
section
set_option maxRecDepth 20000 in
theorem ggX8_hasDual_X3_size : GoodIn wsX8_hasDual wsX3_size := goodIn_r _ [11, 12, 13, 14, 15, 10, 16, 17, 25, 26] (by decide +kernel) (by decide +kernel)
set_option maxRecDepth 20000 in
theorem gX8_hasDual_X3_size : GoodIn wsX8_hasDual (wsV RX8 66 RX3 yX3_size wsX3_size) := goodIn_app (goodIn_of _ (by decide +kernel)) ggX8_hasDual_X3_size
theorem dX8_hasDual_0 : decode cX8_hasDual 0 = .ok (.iconst 0, 1) := by decide +kernel
theorem dX8_hasDual_1 : decode cX8_hasDual 1 = .ok (.istore_n 1, 1) := by decide +kernel
theorem dX8_hasDual_2 : decode cX8_hasDual 2 = .ok (.iload_n 1, 1) := by decide +kernel
theorem dX8_hasDual_3 : decode cX8_hasDual 3 = .ok (.aload_n 0, 1) := by decide +kernel
theorem dX8_hasDual_4 : decode cX8_hasDual 4 = .ok (.getfield 22, 3) := by decide +kernel
theorem dX8_hasDual_7 : decode cX8_hasDual 7 = .ok (.if_icmp .ge 21, 3) := by decide +kernel
theorem dX8_hasDual_10 : decode cX8_hasDual 10 = .ok (.aload_n 0, 1) := by decide +kernel
theorem dX8_hasDual_11 : decode cX8_hasDual 11 = .ok (.getfield 9, 3) := by decide +kernel
theorem dX8_hasDual_14 : decode cX8_hasDual 14 = .ok (.iload_n 1, 1) := by decide +kernel
theorem dX8_hasDual_15 : decode cX8_hasDual 15 = .ok (.iaload, 1) := by decide +kernel
theorem dX8_hasDual_16 : decode cX8_hasDual 16 = .ok (.iconst 2, 1) := by decide +kernel
theorem dX8_hasDual_17 : decode cX8_hasDual 17 = .ok (.if_icmp .eq 5, 3) := by decide +kernel
theorem dX8_hasDual_20 : decode cX8_hasDual 20 = .ok (.iconst 0, 1) := by decide +kernel
theorem dX8_hasDual_21 : decode cX8_hasDual 21 = .ok (.ireturn, 1) := by decide +kernel
theorem dX8_hasDual_22 : decode cX8_hasDual 22 = .ok (.iinc 1 1, 3) := by decide +kernel
theorem dX8_hasDual_25 : decode cX8_hasDual 25 = .ok (.goto (-23), 3) := by decide +kernel
theorem dX8_hasDual_28 : decode cX8_hasDual 28 = .ok (.iconst 0, 1) := by decide +kernel
theorem dX8_hasDual_29 : decode cX8_hasDual 29 = .ok (.istore_n 1, 1) := by decide +kernel
theorem dX8_hasDual_30 : decode cX8_hasDual 30 = .ok (.iload_n 1, 1) := by decide +kernel
theorem dX8_hasDual_31 : decode cX8_hasDual 31 = .ok (.aload_n 0, 1) := by decide +kernel
theorem dX8_hasDual_32 : decode cX8_hasDual 32 = .ok (.getfield 26, 3) := by decide +kernel
theorem dX8_hasDual_35 : decode cX8_hasDual 35 = .ok (.if_icmp .ge 39, 3) := by decide +kernel
theorem dX8_hasDual_38 : decode cX8_hasDual 38 = .ok (.aload_n 0, 1) := by decide +kernel
theorem dX8_hasDual_39 : decode cX8_hasDual 39 = .ok (.getfield 17, 3) := by decide +kernel
theorem dX8_hasDual_42 : decode cX8_hasDual 42 = .ok (.iload_n 1, 1) := by decide +kernel
theorem dX8_hasDual_43 : decode cX8_hasDual 43 = .ok (.aaload, 1) := by decide +kernel
theorem dX8_hasDual_44 : decode cX8_hasDual 44 = .ok (.getfield 42, 3) := by decide +kernel
theorem dX8_hasDual_47 : decode cX8_hasDual 47 = .ok (.ifCond .eq 19, 3) := by decide +kernel
theorem dX8_hasDual_50 : decode cX8_hasDual 50 = .ok (.aload_n 0, 1) := by decide +kernel
theorem dX8_hasDual_51 : decode cX8_hasDual 51 = .ok (.getfield 17, 3) := by decide +kernel
theorem dX8_hasDual_54 : decode cX8_hasDual 54 = .ok (.iload_n 1, 1) := by decide +kernel
theorem dX8_hasDual_55 : decode cX8_hasDual 55 = .ok (.aaload, 1) := by decide +kernel
theorem dX8_hasDual_56 : decode cX8_hasDual 56 = .ok (.getfield 29, 3) := by decide +kernel
theorem dX8_hasDual_59 : decode cX8_hasDual 59 = .ok (.invokevirtual 66, 3) := by decide +kernel
theorem dX8_hasDual_62 : decode cX8_hasDual 62 = .ok (.iconst 2, 1) := by decide +kernel
theorem dX8_hasDual_63 : decode cX8_hasDual 63 = .ok (.if_icmp .eq 5, 3) := by decide +kernel
theorem dX8_hasDual_66 : decode cX8_hasDual 66 = .ok (.iconst 0, 1) := by decide +kernel
theorem dX8_hasDual_67 : decode cX8_hasDual 67 = .ok (.ireturn, 1) := by decide +kernel
theorem dX8_hasDual_68 : decode cX8_hasDual 68 = .ok (.iinc 1 1, 3) := by decide +kernel
theorem dX8_hasDual_71 : decode cX8_hasDual 71 = .ok (.goto (-41), 3) := by decide +kernel
theorem dX8_hasDual_74 : decode cX8_hasDual 74 = .ok (.iconst 1, 1) := by decide +kernel
theorem dX8_hasDual_75 : decode cX8_hasDual 75 = .ok (.ireturn, 1) := by decide +kernel
theorem dX8_hasLeft_0 : decode cX8_hasLeft 0 = .ok (.iconst 0, 1) := by decide +kernel
theorem dX8_hasLeft_1 : decode cX8_hasLeft 1 = .ok (.istore 4, 2) := by decide +kernel
theorem dX8_hasLeft_3 : decode cX8_hasLeft 3 = .ok (.iload 4, 2) := by decide +kernel
theorem dX8_hasLeft_5 : decode cX8_hasLeft 5 = .ok (.aload_n 0, 1) := by decide +kernel
theorem dX8_hasLeft_6 : decode cX8_hasLeft 6 = .ok (.getfield 26, 3) := by decide +kernel
theorem dX8_hasLeft_9 : decode cX8_hasLeft 9 = .ok (.if_icmp .ge 44, 3) := by decide +kernel
theorem dX8_hasLeft_12 : decode cX8_hasLeft 12 = .ok (.aload_n 0, 1) := by decide +kernel
theorem dX8_hasLeft_13 : decode cX8_hasLeft 13 = .ok (.getfield 17, 3) := by decide +kernel
theorem dX8_hasLeft_16 : decode cX8_hasLeft 16 = .ok (.iload 4, 2) := by decide +kernel
theorem dX8_hasLeft_18 : decode cX8_hasLeft 18 = .ok (.aaload, 1) := by decide +kernel
theorem dX8_hasLeft_19 : decode cX8_hasLeft 19 = .ok (.getfield 29, 3) := by decide +kernel
theorem dX8_hasLeft_22 : decode cX8_hasLeft 22 = .ok (.getfield 55, 3) := by decide +kernel
theorem dX8_hasLeft_25 : decode cX8_hasLeft 25 = .ok (.astore 5, 2) := by decide +kernel
theorem dX8_hasLeft_27 : decode cX8_hasLeft 27 = .ok (.aload 5, 2) := by decide +kernel
theorem dX8_hasLeft_29 : decode cX8_hasLeft 29 = .ok (.iconst 0, 1) := by decide +kernel
theorem dX8_hasLeft_30 : decode cX8_hasLeft 30 = .ok (.iaload, 1) := by decide +kernel
theorem dX8_hasLeft_31 : decode cX8_hasLeft 31 = .ok (.iload_n 1, 1) := by decide +kernel
theorem dX8_hasLeft_32 : decode cX8_hasLeft 32 = .ok (.if_icmp .ne 15, 3) := by decide +kernel
theorem dX8_hasLeft_35 : decode cX8_hasLeft 35 = .ok (.aload 5, 2) := by decide +kernel
theorem dX8_hasLeft_37 : decode cX8_hasLeft 37 = .ok (.iconst 1, 1) := by decide +kernel
theorem dX8_hasLeft_38 : decode cX8_hasLeft 38 = .ok (.iload_n 2, 1) := by decide +kernel
theorem dX8_hasLeft_39 : decode cX8_hasLeft 39 = .ok (.iadd, 1) := by decide +kernel
theorem dX8_hasLeft_40 : decode cX8_hasLeft 40 = .ok (.iaload, 1) := by decide +kernel
theorem dX8_hasLeft_41 : decode cX8_hasLeft 41 = .ok (.iload_n 3, 1) := by decide +kernel
theorem dX8_hasLeft_42 : decode cX8_hasLeft 42 = .ok (.if_icmp .ne 5, 3) := by decide +kernel
theorem dX8_hasLeft_45 : decode cX8_hasLeft 45 = .ok (.iconst 1, 1) := by decide +kernel
theorem dX8_hasLeft_46 : decode cX8_hasLeft 46 = .ok (.ireturn, 1) := by decide +kernel
theorem dX8_hasLeft_47 : decode cX8_hasLeft 47 = .ok (.iinc 4 1, 3) := by decide +kernel
theorem dX8_hasLeft_50 : decode cX8_hasLeft 50 = .ok (.goto (-47), 3) := by decide +kernel
theorem dX8_hasLeft_53 : decode cX8_hasLeft 53 = .ok (.iconst 0, 1) := by decide +kernel
theorem dX8_hasLeft_54 : decode cX8_hasLeft 54 = .ok (.ireturn, 1) := by decide +kernel
set_option maxRecDepth 20000 in
theorem ggX9_init_X8_init : GoodIn wsX9_init wsX8_init := goodIn_r _ [39, 40, 2, 3, 41, 42, 43, 44, 45, 46, 47, 48, 49, 50, 10, 11, 51, 52, 53, 54, 55, 56, 99, 100, 101, 102, 138, 139, 140, 117, 118] (by decide +kernel) (by decide +kernel)
set_option maxRecDepth 20000 in
theorem gX9_init_X8_init : GoodIn wsX9_init (wsX8_init) := ggX9_init_X8_init
set_option maxRecDepth 20000 in
theorem ggX9_init_X3_init : GoodIn wsX9_init wsX3_init := goodIn_r _ [54, 55, 2, 3, 41, 56, 117, 118] (by decide +kernel) (by decide +kernel)
set_option maxRecDepth 20000 in
theorem gX9_init_X3_init_n22 : GoodIn wsX9_init (wsX3_init) := ggX9_init_X3_init
set_option maxRecDepth 20000 in
theorem ggX9_init_X6_init : GoodIn wsX9_init wsX6_init := goodIn_r _ [58, 59, 2, 3, 41, 60, 119] (by decide +kernel) (by decide +kernel)
set_option maxRecDepth 20000 in
theorem gX9_init_X6_init_n29 : GoodIn wsX9_init (wsX6_init) := ggX9_init_X6_init
set_option maxRecDepth 20000 in
theorem ggX9_init_X2_init : GoodIn wsX9_init wsX2_init := goodIn_r _ [62, 63, 2, 3, 64, 14, 15, 65, 41, 66, 67, 10, 11, 68, 69, 70, 57, 58, 59, 60, 53, 54, 55, 56, 119, 120, 121, 122, 123, 124, 117, 118] (by decide +kernel) (by decide +kernel)
set_option maxRecDepth 20000 in
theorem gX9_init_X2_init_n36 : GoodIn wsX9_init (wsX2_init) := ggX9_init_X2_init
set_option maxRecDepth 20000 in
theorem ggX9_init_X1_init : GoodIn wsX9_init wsX1_init := goodIn_r _ [72, 73, 2, 3, 74, 10, 11, 75, 53, 54, 55, 41, 56, 117, 118, 125, 126, 127, 128, 129] (by decide +kernel) (by decide +kernel)
set_option maxRecDepth 20000 in
theorem gX9_init_X1_init_n43 : GoodIn wsX9_init (wsX1_init) := ggX9_init_X1_init
set_option maxRecDepth 20000 in
theorem ggX9_init_X0_init : GoodIn wsX9_init wsX0_init := goodIn_r _ [78, 79, 2, 3, 41, 80, 81, 33, 82, 83, 84, 85, 86, 87, 88, 89, 90, 91, 92, 130, 131, 132, 133, 134, 135, 141, 142, 143] (by decide +kernel) (by decide +kernel)
set_option maxRecDepth 20000 in
theorem gX9_init_X0_init : GoodIn wsX9_init (wsX0_init) := ggX9_init_X0_init
set_option maxRecDepth 20000 in
theorem ggX9_init_X5_init : GoodIn wsX9_init wsX5_init := goodIn_r _ [94, 95, 2, 3, 33, 96, 97, 98, 136, 137] (by decide +kernel) (by decide +kernel)
set_option maxRecDepth 20000 in
theorem gX9_init_X5_init_n57 : GoodIn wsX9_init (wsX5_init) := ggX9_init_X5_init
theorem dX9_init_0 : decode cX9_init 0 = .ok (.aload_n 0, 1) := by decide +kernel
theorem dX9_init_1 : decode cX9_init 1 = .ok (.invokespecial 1, 3) := by decide +kernel
theorem dX9_init_4 : decode cX9_init 4 = .ok (.aload_n 0, 1) := by decide +kernel
theorem dX9_init_5 : decode cX9_init 5 = .ok (.new 7, 3) := by decide +kernel
theorem dX9_init_8 : decode cX9_init 8 = .ok (.dup, 1) := by decide +kernel
theorem dX9_init_9 : decode cX9_init 9 = .ok (.invokespecial 9, 3) := by decide +kernel
theorem dX9_init_12 : decode cX9_init 12 = .ok (.putfield 10, 3) := by decide +kernel
theorem dX9_init_15 : decode cX9_init 15 = .ok (.aload_n 0, 1) := by decide +kernel
theorem dX9_init_16 : decode cX9_init 16 = .ok (.bipush 10, 2) := by decide +kernel
theorem dX9_init_18 : decode cX9_init 18 = .ok (.anewarray 16, 3) := by decide +kernel
theorem dX9_init_21 : decode cX9_init 21 = .ok (.putfield 18, 3) := by decide +kernel
theorem dX9_init_24 : decode cX9_init 24 = .ok (.aload_n 0, 1) := by decide +kernel
theorem dX9_init_25 : decode cX9_init 25 = .ok (.new 16, 3) := by decide +kernel
theorem dX9_init_28 : decode cX9_init 28 = .ok (.dup, 1) := by decide +kernel
theorem dX9_init_29 : decode cX9_init 29 = .ok (.invokespecial 22, 3) := by decide +kernel
theorem dX9_init_32 : decode cX9_init 32 = .ok (.putfield 23, 3) := by decide +kernel
theorem dX9_init_35 : decode cX9_init 35 = .ok (.aload_n 0, 1) := by decide +kernel
theorem dX9_init_36 : decode cX9_init 36 = .ok (.new 27, 3) := by decide +kernel
theorem dX9_init_39 : decode cX9_init 39 = .ok (.dup, 1) := by decide +kernel
theorem dX9_init_40 : decode cX9_init 40 = .ok (.invokespecial 29, 3) := by decide +kernel
theorem dX9_init_43 : decode cX9_init 43 = .ok (.putfield 30, 3) := by decide +kernel
theorem dX9_init_46 : decode cX9_init 46 = .ok (.aload_n 0, 1) := by decide +kernel
theorem dX9_init_47 : decode cX9_init 47 = .ok (.new 34, 3) := by decide +kernel
theorem dX9_init_50 : decode cX9_init 50 = .ok (.dup, 1) := by decide +kernel
theorem dX9_init_51 : decode cX9_init 51 = .ok (.invokespecial 36, 3) := by decide +kernel
theorem dX9_init_54 : decode cX9_init 54 = .ok (.putfield 37, 3) := by decide +kernel
theorem dX9_init_57 : decode cX9_init 57 = .ok (.aload_n 0, 1) := by decide +kernel
theorem dX9_init_58 : decode cX9_init 58 = .ok (.new 41, 3) := by decide +kernel
theorem dX9_init_61 : decode cX9_init 61 = .ok (.dup, 1) := by decide +kernel
theorem dX9_init_62 : decode cX9_init 62 = .ok (.invokespecial 43, 3) := by decide +kernel
theorem dX9_init_65 : decode cX9_init 65 = .ok (.putfield 44, 3) := by decide +kernel
theorem dX9_init_68 : decode cX9_init 68 = .ok (.aload_n 0, 1) := by decide +kernel
theorem dX9_init_69 : decode cX9_init 69 = .ok (.new 48, 3) := by decide +kernel
theorem dX9_init_72 : decode cX9_init 72 = .ok (.dup, 1) := by decide +kernel
theorem dX9_init_73 : decode cX9_init 73 = .ok (.invokespecial 50, 3) := by decide +kernel
theorem dX9_init_76 : decode cX9_init 76 = .ok (.putfield 51, 3) := by decide +kernel
theorem dX9_init_79 : decode cX9_init 79 = .ok (.aload_n 0, 1) := by decide +kernel
theorem dX9_init_80 : decode cX9_init 80 = .ok (.new 55, 3) := by decide +kernel
theorem dX9_init_83 : decode cX9_init 83 = .ok (.dup, 1) := by decide +kernel
theorem dX9_init_84 : decode cX9_init 84 = .ok (.invokespecial 57, 3) := by decide +kernel
theorem dX9_init_87 : decode cX9_init 87 = .ok (.putfield 58, 3) := by decide +kernel
theorem dX9_init_90 : decode cX9_init 90 = .ok (.aload_n 0, 1) := by decide +kernel
theorem dX9_init_91 : decode cX9_init 91 = .ok (.bipush 7, 2) := by decide +kernel
theorem dX9_init_93 : decode cX9_init 93 = .ok (.newarray .long, 2) := by decide +kernel
theorem dX9_init_95 : decode cX9_init 95 = .ok (.putfield 62, 3) := by decide +kernel
theorem dX9_init_98 : decode cX9_init 98 = .ok (.aload_n 0, 1) := by decide +kernel
theorem dX9_init_99 : decode cX9_init 99 = .ok (.bipush 7, 2) := by decide +kernel
theorem dX9_init_101 : decode cX9_init 101 = .ok (.newarray .long, 2) := by decide +kernel
theorem dX9_init_103 : decode cX9_init 103 = .ok (.putfield 66, 3) := by decide +kernel
theorem dX9_init_106 : decode cX9_init 106 = .ok (.aload_n 0, 1) := by decide +kernel
theorem dX9_init_107 : decode cX9_init 107 = .ok (.iconst (-1), 1) := by decide +kernel
theorem dX9_init_108 : decode cX9_init 108 = .ok (.putfield 69, 3) := by decide +kernel
theorem dX9_init_111 : decode cX9_init 111 = .ok (.iconst 0, 1) := by decide +kernel
theorem dX9_init_112 : decode cX9_init 112 = .ok (.istore_n 1, 1) := by decide +kernel
theorem dX9_init_113 : decode cX9_init 113 = .ok (.iload_n 1, 1) := by decide +kernel
theorem dX9_init_114 : decode cX9_init 114 = .ok (.bipush 10, 2) := by decide +kernel
theorem dX9_init_116 : decode cX9_init 116 = .ok (.if_icmp .ge 22, 3) := by decide +kernel
theorem dX9_init_119 : decode cX9_init 119 = .ok (.aload_n 0, 1) := by decide +kernel
theorem dX9_init_120 : decode cX9_init 120 = .ok (.getfield 18, 3) := by decide +kernel
theorem dX9_init_123 : decode cX9_init 123 = .ok (.iload_n 1, 1) := by decide +kernel
theorem dX9_init_124 : decode cX9_init 124 = .ok (.new 16, 3) := by decide +kernel
theorem dX9_init_127 : decode cX9_init 127 = .ok (.dup, 1) := by decide +kernel
theorem dX9_init_128 : decode cX9_init 128 = .ok (.invokespecial 22, 3) := by decide +kernel
theorem dX9_init_131 : decode cX9_init 131 = .ok (.aastore, 1) := by decide +kernel
theorem dX9_init_132 : decode cX9_init 132 = .ok (.iinc 1 1, 3) := by decide +kernel
theorem dX9_init_135 : decode cX9_init 135 = .ok (.goto (-22), 3) := by decide +kernel
theorem dX9_init_138 : decode cX9_init 138 = .ok (.return_, 1) := by decide +kernel
set_option maxRecDepth 20000 in
theorem ggX9_act_X9_forget : GoodIn wsX9_act wsX9_forget := goodIn_r _ [7, 8, 9, 10, 18, 19, 20, 21, 22, 23, 24, 25, 26, 27, 28, 29, 30, 31] (by decide +kernel) (by decide +kernel)
set_option maxRecDepth 20000 in
theorem gX9_act_X9_forget : GoodIn wsX9_act (wsV RX9 76 RX9 yX9_forget wsX9_forget) := goodIn_app (goodIn_of _ (by decide +kernel)) ggX9_act_X9_forget
set_option maxRecDepth 20000 in
theorem ggX9_act_X8_addAct : GoodIn wsX9_act wsX8_addAct := goodIn_r _ [15, 16, 17, 32, 33, 34, 35] (by decide +kernel) (by decide +kernel)
set_option maxRecDepth 20000 in
theorem gX9_act_X8_addAct : GoodIn wsX9_act (wsV RX9 79 RX8 yX8_addAct wsX8_addAct) := goodIn_app (goodIn_of _ (by decide +kernel)) ggX9_act_X8_addAct
theorem dX9_act_0 : decode cX9_act 0 = .ok (.iload_n 1, 1) := by decide +kernel
theorem dX9_act_1 : decode cX9_act 1 = .ok (.iconst 2, 1) := by decide +kernel
theorem dX9_act_2 : decode cX9_act 2 = .ok (.if_icmp .eq 11, 3) := by decide +kernel
theorem dX9_act_5 : decode cX9_act 5 = .ok (.iload_n 1, 1) := by decide +kernel
theorem dX9_act_6 : decode cX9_act 6 = .ok (.iconst 3, 1) := by decide +kernel
theorem dX9_act_7 : decode cX9_act 7 = .ok (.if_icmp .eq 6, 3) := by decide +kernel
theorem dX9_act_10 : decode cX9_act 10 = .ok (.bipush (-2), 2) := by decide +kernel
theorem dX9_act_12 : decode cX9_act 12 = .ok (.ireturn, 1) := by decide +kernel
theorem dX9_act_13 : decode cX9_act 13 = .ok (.aload_n 0, 1) := by decide +kernel
theorem dX9_act_14 : decode cX9_act 14 = .ok (.getfield 10, 3) := by decide +kernel
theorem dX9_act_17 : decode cX9_act 17 = .ok (.getfield 73, 3) := by decide +kernel
theorem dX9_act_20 : decode cX9_act 20 = .ok (.iconst 4, 1) := by decide +kernel
theorem dX9_act_21 : decode cX9_act 21 = .ok (.if_icmp .lt 6, 3) := by decide +kernel
theorem dX9_act_24 : decode cX9_act 24 = .ok (.bipush (-4), 2) := by decide +kernel
theorem dX9_act_26 : decode cX9_act 26 = .ok (.ireturn, 1) := by decide +kernel
theorem dX9_act_27 : decode cX9_act 27 = .ok (.aload_n 0, 1) := by decide +kernel
theorem dX9_act_28 : decode cX9_act 28 = .ok (.invokevirtual 76, 3) := by decide +kernel
theorem dX9_act_31 : decode cX9_act 31 = .ok (.aload_n 0, 1) := by decide +kernel
theorem dX9_act_32 : decode cX9_act 32 = .ok (.getfield 10, 3) := by decide +kernel
theorem dX9_act_35 : decode cX9_act 35 = .ok (.iload_n 1, 1) := by decide +kernel
theorem dX9_act_36 : decode cX9_act 36 = .ok (.invokevirtual 79, 3) := by decide +kernel
theorem dX9_act_39 : decode cX9_act 39 = .ok (.ireturn, 1) := by decide +kernel
set_option maxRecDepth 20000 in
theorem ggX9_put_X9_isRow : GoodIn wsX9_put wsX9_isRow := goodIn_r _ [7] (by decide +kernel) (by decide +kernel)
set_option maxRecDepth 20000 in
theorem gX9_put_X9_isRow : GoodIn wsX9_put (va_wsS RX9 83 yX9_isRow wsX9_isRow) := goodIn_app (goodIn_of _ (by decide +kernel)) ggX9_put_X9_isRow
set_option maxRecDepth 20000 in
theorem ggX9_put_X8_isSymbol : GoodIn wsX9_put wsX8_isSymbol := goodIn_r _ [12, 13, 37, 38, 39, 40] (by decide +kernel) (by decide +kernel)
set_option maxRecDepth 20000 in
theorem gX9_put_X8_isSymbol : GoodIn wsX9_put (wsV RX9 87 RX8 yX8_isSymbol wsX8_isSymbol) := goodIn_app (goodIn_of _ (by decide +kernel)) ggX9_put_X8_isSymbol
set_option maxRecDepth 20000 in
theorem ggX9_put_X3_add : GoodIn wsX9_put wsX3_add := goodIn_r _ [18, 19, 20, 35, 36] (by decide +kernel) (by decide +kernel)
set_option maxRecDepth 20000 in
theorem gX9_put_X3_add : GoodIn wsX9_put (wsV RX9 90 RX3 yX3_add wsX3_add) := goodIn_app (goodIn_of _ (by decide +kernel)) ggX9_put_X3_add
theorem dX9_put_0 : decode cX9_put 0 = .ok (.iload_n 1, 1) := by decide +kernel
theorem dX9_put_1 : decode cX9_put 1 = .ok (.invokestatic 83, 3) := by decide +kernel
theorem dX9_put_4 : decode cX9_put 4 = .ok (.ifCond .eq 14, 3) := by decide +kernel
theorem dX9_put_7 : decode cX9_put 7 = .ok (.aload_n 0, 1) := by decide +kernel
theorem dX9_put_8 : decode cX9_put 8 = .ok (.getfield 10, 3) := by decide +kernel
theorem dX9_put_11 : decode cX9_put 11 = .ok (.iload_n 2, 1) := by decide +kernel
theorem dX9_put_12 : decode cX9_put 12 = .ok (.invokevirtual 87, 3) := by decide +kernel
theorem dX9_put_15 : decode cX9_put 15 = .ok (.ifCond .ne 6, 3) := by decide +kernel
theorem dX9_put_18 : decode cX9_put 18 = .ok (.bipush (-2), 2) := by decide +kernel
theorem dX9_put_20 : decode cX9_put 20 = .ok (.ireturn, 1) := by decide +kernel
theorem dX9_put_21 : decode cX9_put 21 = .ok (.aload_n 0, 1) := by decide +kernel
theorem dX9_put_22 : decode cX9_put 22 = .ok (.getfield 18, 3) := by decide +kernel
theorem dX9_put_25 : decode cX9_put 25 = .ok (.iload_n 1, 1) := by decide +kernel
theorem dX9_put_26 : decode cX9_put 26 = .ok (.aaload, 1) := by decide +kernel
theorem dX9_put_27 : decode cX9_put 27 = .ok (.iload_n 2, 1) := by decide +kernel
theorem dX9_put_28 : decode cX9_put 28 = .ok (.invokevirtual 90, 3) := by decide +kernel
theorem dX9_put_31 : decode cX9_put 31 = .ok (.ifCond .eq 15, 3) := by decide +kernel
theorem dX9_put_34 : decode cX9_put 34 = .ok (.aload_n 0, 1) := by decide +kernel
theorem dX9_put_35 : decode cX9_put 35 = .ok (.getfield 18, 3) := by decide +kernel
theorem dX9_put_38 : decode cX9_put 38 = .ok (.iload_n 1, 1) := by decide +kernel
theorem dX9_put_39 : decode cX9_put 39 = .ok (.aaload, 1) := by decide +kernel
theorem dX9_put_40 : decode cX9_put 40 = .ok (.getfield 93, 3) := by decide +kernel
theorem dX9_put_43 : decode cX9_put 43 = .ok (.goto 5, 3) := by decide +kernel
theorem dX9_put_46 : decode cX9_put 46 = .ok (.bipush (-4), 2) := by decide +kernel
theorem dX9_put_48 : decode cX9_put 48 = .ok (.ireturn, 1) := by decide +kernel
set_option maxRecDepth 20000 in
theorem ggX9_empty_X9_isRow : GoodIn wsX9_empty wsX9_isRow := goodIn_r _ [6] (by decide +kernel) (by decide +kernel)
set_option maxRecDepth 20000 in
theorem gX9_empty_X9_isRow : GoodIn wsX9_empty (va_wsS RX9 83 yX9_isRow wsX9_isRow) := goodIn_app (goodIn_of _ (by decide +kernel)) ggX9_empty_X9_isRow
set_option maxRecDepth 20000 in
theorem ggX9_empty_X3_clear : GoodIn wsX9_empty wsX3_clear := goodIn_r _ [11, 12, 27, 28] (by decide +kernel) (by decide +kernel)
set_option maxRecDepth 20000 in
theorem gX9_empty_X3_clear : GoodIn wsX9_empty (wsV RX9 96 RX3 yX3_clear wsX3_clear) := goodIn_app (goodIn_of _ (by decide +kernel)) ggX9_empty_X3_clear
theorem dX9_empty_0 : decode cX9_empty 0 = .ok (.iload_n 1, 1) := by decide +kernel
theorem dX9_empty_1 : decode cX9_empty 1 = .ok (.invokestatic 83, 3) := by decide +kernel
theorem dX9_empty_4 : decode cX9_empty 4 = .ok (.ifCond .ne 6, 3) := by decide +kernel
theorem dX9_empty_7 : decode cX9_empty 7 = .ok (.bipush (-2), 2) := by decide +kernel
theorem dX9_empty_9 : decode cX9_empty 9 = .ok (.ireturn, 1) := by decide +kernel
theorem dX9_empty_10 : decode cX9_empty 10 = .ok (.aload_n 0, 1) := by decide +kernel
theorem dX9_empty_11 : decode cX9_empty 11 = .ok (.getfield 18, 3) := by decide +kernel
theorem dX9_empty_14 : decode cX9_empty 14 = .ok (.iload_n 1, 1) := by decide +kernel
theorem dX9_empty_15 : decode cX9_empty 15 = .ok (.aaload, 1) := by decide +kernel
theorem dX9_empty_16 : decode cX9_empty 16 = .ok (.getfield 93, 3) := by decide +kernel
theorem dX9_empty_19 : decode cX9_empty 19 = .ok (.istore_n 2, 1) := by decide +kernel
theorem dX9_empty_20 : decode cX9_empty 20 = .ok (.aload_n 0, 1) := by decide +kernel
theorem dX9_empty_21 : decode cX9_empty 21 = .ok (.getfield 18, 3) := by decide +kernel
theorem dX9_empty_24 : decode cX9_empty 24 = .ok (.iload_n 1, 1) := by decide +kernel
theorem dX9_empty_25 : decode cX9_empty 25 = .ok (.aaload, 1) := by decide +kernel
theorem dX9_empty_26 : decode cX9_empty 26 = .ok (.invokevirtual 96, 3) := by decide +kernel
theorem dX9_empty_29 : decode cX9_empty 29 = .ok (.iload_n 2, 1) := by decide +kernel
theorem dX9_empty_30 : decode cX9_empty 30 = .ok (.ireturn, 1) := by decide +kernel
set_option maxRecDepth 20000 in
theorem ggX9_at_X9_isRow : GoodIn wsX9_at wsX9_isRow := goodIn_r _ [7] (by decide +kernel) (by decide +kernel)
set_option maxRecDepth 20000 in
theorem gX9_at_X9_isRow : GoodIn wsX9_at (va_wsS RX9 83 yX9_isRow wsX9_isRow) := goodIn_app (goodIn_of _ (by decide +kernel)) ggX9_at_X9_isRow
theorem dX9_at_0 : decode cX9_at 0 = .ok (.iload_n 1, 1) := by decide +kernel
theorem dX9_at_1 : decode cX9_at 1 = .ok (.invokestatic 83, 3) := by decide +kernel
theorem dX9_at_4 : decode cX9_at 4 = .ok (.ifCond .ne 6, 3) := by decide +kernel
theorem dX9_at_7 : decode cX9_at 7 = .ok (.bipush (-2), 2) := by decide +kernel
theorem dX9_at_9 : decode cX9_at 9 = .ok (.ireturn, 1) := by decide +kernel
theorem dX9_at_10 : decode cX9_at 10 = .ok (.aload_n 0, 1) := by decide +kernel
theorem dX9_at_11 : decode cX9_at 11 = .ok (.getfield 18, 3) := by decide +kernel
theorem dX9_at_14 : decode cX9_at 14 = .ok (.iload_n 1, 1) := by decide +kernel
theorem dX9_at_15 : decode cX9_at 15 = .ok (.aaload, 1) := by decide +kernel
theorem dX9_at_16 : decode cX9_at 16 = .ok (.astore_n 3, 1) := by decide +kernel
theorem dX9_at_17 : decode cX9_at 17 = .ok (.iload_n 2, 1) := by decide +kernel
theorem dX9_at_18 : decode cX9_at 18 = .ok (.ifCond .lt 20, 3) := by decide +kernel
theorem dX9_at_21 : decode cX9_at 21 = .ok (.iload_n 2, 1) := by decide +kernel
theorem dX9_at_22 : decode cX9_at 22 = .ok (.aload_n 3, 1) := by decide +kernel
theorem dX9_at_23 : decode cX9_at 23 = .ok (.getfield 93, 3) := by decide +kernel
theorem dX9_at_26 : decode cX9_at 26 = .ok (.if_icmp .ge 12, 3) := by decide +kernel
theorem dX9_at_29 : decode cX9_at 29 = .ok (.aload_n 3, 1) := by decide +kernel
theorem dX9_at_30 : decode cX9_at 30 = .ok (.getfield 99, 3) := by decide +kernel
theorem dX9_at_33 : decode cX9_at 33 = .ok (.iload_n 2, 1) := by decide +kernel
theorem dX9_at_34 : decode cX9_at 34 = .ok (.iaload, 1) := by decide +kernel
theorem dX9_at_35 : decode cX9_at 35 = .ok (.goto 5, 3) := by decide +kernel
theorem dX9_at_38 : decode cX9_at 38 = .ok (.bipush (-100), 2) := by decide +kernel
theorem dX9_at_40 : decode cX9_at 40 = .ok (.ireturn, 1) := by decide +kernel
set_option maxRecDepth 20000 in
theorem ggX9_about_X9_isRow : GoodIn wsX9_about wsX9_isRow := goodIn_r _ [8] (by decide +kernel) (by decide +kernel)
set_option maxRecDepth 20000 in
theorem gX9_about_X9_isRow : GoodIn wsX9_about (va_wsS RX9 83 yX9_isRow wsX9_isRow) := goodIn_app (goodIn_of _ (by decide +kernel)) ggX9_about_X9_isRow
set_option maxRecDepth 20000 in
theorem ggX9_about_X8_isTree : GoodIn wsX9_about wsX8_isTree := goodIn_r _ [13, 14, 15, 16, 17, 12, 18, 19, 20, 21, 22, 23, 24, 25, 26, 27, 28, 29, 74, 75, 76, 77, 78, 79] (by decide +kernel) (by decide +kernel)
set_option maxRecDepth 20000 in
theorem gX9_about_X8_isTree : GoodIn wsX9_about (wsV RX9 103 RX8 yX8_isTree wsX8_isTree) := goodIn_app (goodIn_of _ (by decide +kernel)) ggX9_about_X8_isTree
set_option maxRecDepth 20000 in
theorem ggX9_about_X3_leaves : GoodIn wsX9_about wsX3_leaves := goodIn_r _ [34, 35, 36, 74, 75] (by decide +kernel) (by decide +kernel)
set_option maxRecDepth 20000 in
theorem gX9_about_X3_leaves : GoodIn wsX9_about (wsV RX9 107 RX3 yX3_leaves wsX3_leaves) := goodIn_app (goodIn_of _ (by decide +kernel)) ggX9_about_X3_leaves
set_option maxRecDepth 20000 in
theorem ggX9_about_X3_size : GoodIn wsX9_about wsX3_size := goodIn_r _ [40, 35, 41, 31, 32, 33, 34, 36, 74, 75] (by decide +kernel) (by decide +kernel)
set_option maxRecDepth 20000 in
theorem gX9_about_X3_size : GoodIn wsX9_about (wsV RX9 111 RX3 yX3_size wsX3_size) := goodIn_app (goodIn_of _ (by decide +kernel)) ggX9_about_X3_size
set_option maxRecDepth 20000 in
theorem ggX9_about_X6_heightOf : GoodIn wsX9_about wsX6_heightOf := goodIn_r _ [46, 47, 48, 20, 21, 22, 49, 50, 51, 45, 52, 53, 54, 55, 25, 26, 12, 27, 28, 29, 56, 57, 58, 59, 74, 75, 80, 76, 77, 78, 79] (by decide +kernel) (by decide +kernel)
set_option maxRecDepth 20000 in
theorem gX9_about_X6_heightOf : GoodIn wsX9_about (wsV RX9 114 RX6 yX6_heightOf wsX6_heightOf) := goodIn_app (goodIn_of _ (by decide +kernel)) ggX9_about_X6_heightOf
theorem dX9_about_0 : decode cX9_about 0 = .ok (.iload_n 1, 1) := by decide +kernel
theorem dX9_about_1 : decode cX9_about 1 = .ok (.invokestatic 83, 3) := by decide +kernel
theorem dX9_about_4 : decode cX9_about 4 = .ok (.ifCond .eq 12, 3) := by decide +kernel
theorem dX9_about_7 : decode cX9_about 7 = .ok (.iload_n 2, 1) := by decide +kernel
theorem dX9_about_8 : decode cX9_about 8 = .ok (.ifCond .lt 8, 3) := by decide +kernel
theorem dX9_about_11 : decode cX9_about 11 = .ok (.iload_n 2, 1) := by decide +kernel
theorem dX9_about_12 : decode cX9_about 12 = .ok (.iconst 4, 1) := by decide +kernel
theorem dX9_about_13 : decode cX9_about 13 = .ok (.if_icmp .le 6, 3) := by decide +kernel
theorem dX9_about_16 : decode cX9_about 16 = .ok (.bipush (-2), 2) := by decide +kernel
theorem dX9_about_18 : decode cX9_about 18 = .ok (.ireturn, 1) := by decide +kernel
theorem dX9_about_19 : decode cX9_about 19 = .ok (.aload_n 0, 1) := by decide +kernel
theorem dX9_about_20 : decode cX9_about 20 = .ok (.getfield 18, 3) := by decide +kernel
theorem dX9_about_23 : decode cX9_about 23 = .ok (.iload_n 1, 1) := by decide +kernel
theorem dX9_about_24 : decode cX9_about 24 = .ok (.aaload, 1) := by decide +kernel
theorem dX9_about_25 : decode cX9_about 25 = .ok (.astore_n 3, 1) := by decide +kernel
theorem dX9_about_26 : decode cX9_about 26 = .ok (.aload_n 0, 1) := by decide +kernel
theorem dX9_about_27 : decode cX9_about 27 = .ok (.getfield 10, 3) := by decide +kernel
theorem dX9_about_30 : decode cX9_about 30 = .ok (.aload_n 3, 1) := by decide +kernel
theorem dX9_about_31 : decode cX9_about 31 = .ok (.invokevirtual 103, 3) := by decide +kernel
theorem dX9_about_34 : decode cX9_about 34 = .ok (.istore 4, 2) := by decide +kernel
theorem dX9_about_36 : decode cX9_about 36 = .ok (.iload_n 2, 1) := by decide +kernel
theorem dX9_about_37 : decode cX9_about 37 = .ok (.ifCond .ne 8, 3) := by decide +kernel
theorem dX9_about_40 : decode cX9_about 40 = .ok (.aload_n 3, 1) := by decide +kernel
theorem dX9_about_41 : decode cX9_about 41 = .ok (.getfield 93, 3) := by decide +kernel
theorem dX9_about_44 : decode cX9_about 44 = .ok (.ireturn, 1) := by decide +kernel
theorem dX9_about_45 : decode cX9_about 45 = .ok (.iload_n 2, 1) := by decide +kernel
theorem dX9_about_46 : decode cX9_about 46 = .ok (.iconst 1, 1) := by decide +kernel
theorem dX9_about_47 : decode cX9_about 47 = .ok (.if_icmp .ne 14, 3) := by decide +kernel
theorem dX9_about_50 : decode cX9_about 50 = .ok (.iload 4, 2) := by decide +kernel
theorem dX9_about_52 : decode cX9_about 52 = .ok (.ifCond .eq 7, 3) := by decide +kernel
theorem dX9_about_55 : decode cX9_about 55 = .ok (.iconst 1, 1) := by decide +kernel
theorem dX9_about_56 : decode cX9_about 56 = .ok (.goto 4, 3) := by decide +kernel
theorem dX9_about_59 : decode cX9_about 59 = .ok (.iconst 0, 1) := by decide +kernel
theorem dX9_about_60 : decode cX9_about 60 = .ok (.ireturn, 1) := by decide +kernel
theorem dX9_about_61 : decode cX9_about 61 = .ok (.iload 4, 2) := by decide +kernel
theorem dX9_about_63 : decode cX9_about 63 = .ok (.ifCond .ne 6, 3) := by decide +kernel
theorem dX9_about_66 : decode cX9_about 66 = .ok (.bipush (-3), 2) := by decide +kernel
theorem dX9_about_68 : decode cX9_about 68 = .ok (.ireturn, 1) := by decide +kernel
theorem dX9_about_69 : decode cX9_about 69 = .ok (.iload_n 2, 1) := by decide +kernel
theorem dX9_about_70 : decode cX9_about 70 = .ok (.iconst 2, 1) := by decide +kernel
theorem dX9_about_71 : decode cX9_about 71 = .ok (.if_icmp .ne 8, 3) := by decide +kernel
theorem dX9_about_74 : decode cX9_about 74 = .ok (.aload_n 3, 1) := by decide +kernel
theorem dX9_about_75 : decode cX9_about 75 = .ok (.invokevirtual 107, 3) := by decide +kernel
theorem dX9_about_78 : decode cX9_about 78 = .ok (.ireturn, 1) := by decide +kernel
theorem dX9_about_79 : decode cX9_about 79 = .ok (.iload_n 2, 1) := by decide +kernel
theorem dX9_about_80 : decode cX9_about 80 = .ok (.iconst 3, 1) := by decide +kernel
theorem dX9_about_81 : decode cX9_about 81 = .ok (.if_icmp .ne 10, 3) := by decide +kernel
theorem dX9_about_84 : decode cX9_about 84 = .ok (.aload_n 3, 1) := by decide +kernel
theorem dX9_about_85 : decode cX9_about 85 = .ok (.invokevirtual 111, 3) := by decide +kernel
theorem dX9_about_88 : decode cX9_about 88 = .ok (.goto 15, 3) := by decide +kernel
theorem dX9_about_91 : decode cX9_about 91 = .ok (.aload_n 0, 1) := by decide +kernel
theorem dX9_about_92 : decode cX9_about 92 = .ok (.getfield 30, 3) := by decide +kernel
theorem dX9_about_95 : decode cX9_about 95 = .ok (.aload_n 0, 1) := by decide +kernel
theorem dX9_about_96 : decode cX9_about 96 = .ok (.getfield 10, 3) := by decide +kernel
theorem dX9_about_99 : decode cX9_about 99 = .ok (.aload_n 3, 1) := by decide +kernel
theorem dX9_about_100 : decode cX9_about 100 = .ok (.invokevirtual 114, 3) := by decide +kernel
theorem dX9_about_103 : decode cX9_about 103 = .ok (.ireturn, 1) := by decide +kernel
set_option maxRecDepth 20000 in
theorem ggX9_graft_X9_isTreeRow : GoodIn wsX9_graft wsX9_isTreeRow := goodIn_r _ [8, 9, 1, 10, 11, 7, 12, 13, 14, 15, 16, 17, 18, 19, 20, 21, 22, 23, 24, 25, 26, 27, 28, 29, 30, 31, 32, 33, 61, 62, 63, 64, 65, 66, 67, 68, 69, 70, 71, 72, 73, 74, 75, 76, 77, 78, 79, 80] (by decide +kernel) (by decide +kernel)
set_option maxRecDepth 20000 in
theorem gX9_graft_X9_isTreeRow : GoodIn wsX9_graft (wsV RX9 118 RX9 yX9_isTreeRow wsX9_isTreeRow) := goodIn_app (goodIn_of _ (by decide +kernel)) ggX9_graft_X9_isTreeRow
set_option maxRecDepth 20000 in
theorem ggX9_graft_X9_isRow : GoodIn wsX9_graft wsX9_isRow := goodIn_r _ [12] (by decide +kernel) (by decide +kernel)
set_option maxRecDepth 20000 in
theorem gX9_graft_X9_isRow : GoodIn wsX9_graft (va_wsS RX9 83 yX9_isRow wsX9_isRow) := goodIn_app (goodIn_of _ (by decide +kernel)) ggX9_graft_X9_isRow
set_option maxRecDepth 20000 in
theorem ggX9_graft_X3_placeOfLeaf : GoodIn wsX9_graft wsX3_placeOfLeaf := goodIn_r _ [38, 39, 40, 75, 76] (by decide +kernel) (by decide +kernel)
set_option maxRecDepth 20000 in
theorem gX9_graft_X3_placeOfLeaf : GoodIn wsX9_graft (wsV RX9 121 RX3 yX3_placeOfLeaf wsX3_placeOfLeaf) := goodIn_app (goodIn_of _ (by decide +kernel)) ggX9_graft_X3_placeOfLeaf
set_option maxRecDepth 20000 in
theorem ggX9_graft_X3_clear : GoodIn wsX9_graft wsX3_clear := goodIn_r _ [44, 39, 75, 76] (by decide +kernel) (by decide +kernel)
set_option maxRecDepth 20000 in
theorem gX9_graft_X3_clear : GoodIn wsX9_graft (wsV RX9 96 RX3 yX3_clear wsX3_clear) := goodIn_app (goodIn_of _ (by decide +kernel)) ggX9_graft_X3_clear
set_option maxRecDepth 20000 in
theorem ggX9_graft_X3_addPart : GoodIn wsX9_graft wsX3_addPart := goodIn_r _ [48, 39, 40, 49, 50, 51, 52, 75, 76] (by decide +kernel) (by decide +kernel)
set_option maxRecDepth 20000 in
theorem gX9_graft_X3_addPart : GoodIn wsX9_graft (wsV RX9 124 RX3 yX3_addPart wsX3_addPart) := goodIn_app (goodIn_of _ (by decide +kernel)) ggX9_graft_X3_addPart
set_option maxRecDepth 20000 in
theorem ggX9_graft_X9_bring : GoodIn wsX9_graft wsX9_bring := goodIn_r _ [56, 1, 2, 57, 58, 59, 37, 60, 40, 39, 49, 50, 51, 52, 61, 62, 63, 64, 65, 66, 67, 68, 69, 70, 71, 72, 73, 74, 75, 76] (by decide +kernel) (by decide +kernel)
set_option maxRecDepth 20000 in
theorem gX9_graft_X9_bring : GoodIn wsX9_graft (wsV RX9 128 RX9 yX9_bring wsX9_bring) := goodIn_app (goodIn_of _ (by decide +kernel)) ggX9_graft_X9_bring
theorem dX9_graft_0 : decode cX9_graft 0 = .ok (.aload_n 0, 1) := by decide +kernel
theorem dX9_graft_1 : decode cX9_graft 1 = .ok (.iload_n 1, 1) := by decide +kernel
theorem dX9_graft_2 : decode cX9_graft 2 = .ok (.invokevirtual 118, 3) := by decide +kernel
theorem dX9_graft_5 : decode cX9_graft 5 = .ok (.ifCond .eq 19, 3) := by decide +kernel
theorem dX9_graft_8 : decode cX9_graft 8 = .ok (.aload_n 0, 1) := by decide +kernel
theorem dX9_graft_9 : decode cX9_graft 9 = .ok (.iload_n 3, 1) := by decide +kernel
theorem dX9_graft_10 : decode cX9_graft 10 = .ok (.invokevirtual 118, 3) := by decide +kernel
theorem dX9_graft_13 : decode cX9_graft 13 = .ok (.ifCond .eq 11, 3) := by decide +kernel
theorem dX9_graft_16 : decode cX9_graft 16 = .ok (.iload 4, 2) := by decide +kernel
theorem dX9_graft_18 : decode cX9_graft 18 = .ok (.invokestatic 83, 3) := by decide +kernel
theorem dX9_graft_21 : decode cX9_graft 21 = .ok (.ifCond .ne 6, 3) := by decide +kernel
theorem dX9_graft_24 : decode cX9_graft 24 = .ok (.bipush (-2), 2) := by decide +kernel
theorem dX9_graft_26 : decode cX9_graft 26 = .ok (.ireturn, 1) := by decide +kernel
theorem dX9_graft_27 : decode cX9_graft 27 = .ok (.aload_n 0, 1) := by decide +kernel
theorem dX9_graft_28 : decode cX9_graft 28 = .ok (.getfield 18, 3) := by decide +kernel
theorem dX9_graft_31 : decode cX9_graft 31 = .ok (.iload_n 1, 1) := by decide +kernel
theorem dX9_graft_32 : decode cX9_graft 32 = .ok (.aaload, 1) := by decide +kernel
theorem dX9_graft_33 : decode cX9_graft 33 = .ok (.iload_n 2, 1) := by decide +kernel
theorem dX9_graft_34 : decode cX9_graft 34 = .ok (.invokevirtual 121, 3) := by decide +kernel
theorem dX9_graft_37 : decode cX9_graft 37 = .ok (.istore 5, 2) := by decide +kernel
theorem dX9_graft_39 : decode cX9_graft 39 = .ok (.iload 5, 2) := by decide +kernel
theorem dX9_graft_41 : decode cX9_graft 41 = .ok (.iconst (-1), 1) := by decide +kernel
theorem dX9_graft_42 : decode cX9_graft 42 = .ok (.if_icmp .ne 6, 3) := by decide +kernel
theorem dX9_graft_45 : decode cX9_graft 45 = .ok (.bipush (-2), 2) := by decide +kernel
theorem dX9_graft_47 : decode cX9_graft 47 = .ok (.ireturn, 1) := by decide +kernel
theorem dX9_graft_48 : decode cX9_graft 48 = .ok (.aload_n 0, 1) := by decide +kernel
theorem dX9_graft_49 : decode cX9_graft 49 = .ok (.getfield 18, 3) := by decide +kernel
theorem dX9_graft_52 : decode cX9_graft 52 = .ok (.iload_n 1, 1) := by decide +kernel
theorem dX9_graft_53 : decode cX9_graft 53 = .ok (.aaload, 1) := by decide +kernel
theorem dX9_graft_54 : decode cX9_graft 54 = .ok (.getfield 93, 3) := by decide +kernel
theorem dX9_graft_57 : decode cX9_graft 57 = .ok (.iconst 1, 1) := by decide +kernel
theorem dX9_graft_58 : decode cX9_graft 58 = .ok (.isub, 1) := by decide +kernel
theorem dX9_graft_59 : decode cX9_graft 59 = .ok (.aload_n 0, 1) := by decide +kernel
theorem dX9_graft_60 : decode cX9_graft 60 = .ok (.getfield 18, 3) := by decide +kernel
theorem dX9_graft_63 : decode cX9_graft 63 = .ok (.iload_n 3, 1) := by decide +kernel
theorem dX9_graft_64 : decode cX9_graft 64 = .ok (.aaload, 1) := by decide +kernel
theorem dX9_graft_65 : decode cX9_graft 65 = .ok (.getfield 93, 3) := by decide +kernel
theorem dX9_graft_68 : decode cX9_graft 68 = .ok (.iadd, 1) := by decide +kernel
theorem dX9_graft_69 : decode cX9_graft 69 = .ok (.bipush 60, 2) := by decide +kernel
theorem dX9_graft_71 : decode cX9_graft 71 = .ok (.if_icmp .le 6, 3) := by decide +kernel
theorem dX9_graft_74 : decode cX9_graft 74 = .ok (.bipush (-4), 2) := by decide +kernel
theorem dX9_graft_76 : decode cX9_graft 76 = .ok (.ireturn, 1) := by decide +kernel
theorem dX9_graft_77 : decode cX9_graft 77 = .ok (.aload_n 0, 1) := by decide +kernel
theorem dX9_graft_78 : decode cX9_graft 78 = .ok (.getfield 23, 3) := by decide +kernel
theorem dX9_graft_81 : decode cX9_graft 81 = .ok (.invokevirtual 96, 3) := by decide +kernel
theorem dX9_graft_84 : decode cX9_graft 84 = .ok (.aload_n 0, 1) := by decide +kernel
theorem dX9_graft_85 : decode cX9_graft 85 = .ok (.getfield 23, 3) := by decide +kernel
theorem dX9_graft_88 : decode cX9_graft 88 = .ok (.aload_n 0, 1) := by decide +kernel
theorem dX9_graft_89 : decode cX9_graft 89 = .ok (.getfield 18, 3) := by decide +kernel
theorem dX9_graft_92 : decode cX9_graft 92 = .ok (.iload_n 1, 1) := by decide +kernel
theorem dX9_graft_93 : decode cX9_graft 93 = .ok (.aaload, 1) := by decide +kernel
theorem dX9_graft_94 : decode cX9_graft 94 = .ok (.iconst 0, 1) := by decide +kernel
theorem dX9_graft_95 : decode cX9_graft 95 = .ok (.iload 5, 2) := by decide +kernel
theorem dX9_graft_97 : decode cX9_graft 97 = .ok (.invokevirtual 124, 3) := by decide +kernel
theorem dX9_graft_100 : decode cX9_graft 100 = .ok (.pop, 1) := by decide +kernel
theorem dX9_graft_101 : decode cX9_graft 101 = .ok (.aload_n 0, 1) := by decide +kernel
theorem dX9_graft_102 : decode cX9_graft 102 = .ok (.getfield 23, 3) := by decide +kernel
theorem dX9_graft_105 : decode cX9_graft 105 = .ok (.aload_n 0, 1) := by decide +kernel
theorem dX9_graft_106 : decode cX9_graft 106 = .ok (.getfield 18, 3) := by decide +kernel
theorem dX9_graft_109 : decode cX9_graft 109 = .ok (.iload_n 3, 1) := by decide +kernel
theorem dX9_graft_110 : decode cX9_graft 110 = .ok (.aaload, 1) := by decide +kernel
theorem dX9_graft_111 : decode cX9_graft 111 = .ok (.iconst 0, 1) := by decide +kernel
theorem dX9_graft_112 : decode cX9_graft 112 = .ok (.aload_n 0, 1) := by decide +kernel
theorem dX9_graft_113 : decode cX9_graft 113 = .ok (.getfield 18, 3) := by decide +kernel
theorem dX9_graft_116 : decode cX9_graft 116 = .ok (.iload_n 3, 1) := by decide +kernel
theorem dX9_graft_117 : decode cX9_graft 117 = .ok (.aaload, 1) := by decide +kernel
theorem dX9_graft_118 : decode cX9_graft 118 = .ok (.getfield 93, 3) := by decide +kernel
theorem dX9_graft_121 : decode cX9_graft 121 = .ok (.invokevirtual 124, 3) := by decide +kernel
theorem dX9_graft_124 : decode cX9_graft 124 = .ok (.pop, 1) := by decide +kernel
theorem dX9_graft_125 : decode cX9_graft 125 = .ok (.aload_n 0, 1) := by decide +kernel
theorem dX9_graft_126 : decode cX9_graft 126 = .ok (.getfield 23, 3) := by decide +kernel
theorem dX9_graft_129 : decode cX9_graft 129 = .ok (.aload_n 0, 1) := by decide +kernel
theorem dX9_graft_130 : decode cX9_graft 130 = .ok (.getfield 18, 3) := by decide +kernel
theorem dX9_graft_133 : decode cX9_graft 133 = .ok (.iload_n 1, 1) := by decide +kernel
theorem dX9_graft_134 : decode cX9_graft 134 = .ok (.aaload, 1) := by decide +kernel
theorem dX9_graft_135 : decode cX9_graft 135 = .ok (.iload 5, 2) := by decide +kernel
theorem dX9_graft_137 : decode cX9_graft 137 = .ok (.iconst 1, 1) := by decide +kernel
theorem dX9_graft_138 : decode cX9_graft 138 = .ok (.iadd, 1) := by decide +kernel
theorem dX9_graft_139 : decode cX9_graft 139 = .ok (.aload_n 0, 1) := by decide +kernel
theorem dX9_graft_140 : decode cX9_graft 140 = .ok (.getfield 18, 3) := by decide +kernel
theorem dX9_graft_143 : decode cX9_graft 143 = .ok (.iload_n 1, 1) := by decide +kernel
theorem dX9_graft_144 : decode cX9_graft 144 = .ok (.aaload, 1) := by decide +kernel
theorem dX9_graft_145 : decode cX9_graft 145 = .ok (.getfield 93, 3) := by decide +kernel
theorem dX9_graft_148 : decode cX9_graft 148 = .ok (.invokevirtual 124, 3) := by decide +kernel
theorem dX9_graft_151 : decode cX9_graft 151 = .ok (.pop, 1) := by decide +kernel
theorem dX9_graft_152 : decode cX9_graft 152 = .ok (.aload_n 0, 1) := by decide +kernel
theorem dX9_graft_153 : decode cX9_graft 153 = .ok (.aload_n 0, 1) := by decide +kernel
theorem dX9_graft_154 : decode cX9_graft 154 = .ok (.getfield 23, 3) := by decide +kernel
theorem dX9_graft_157 : decode cX9_graft 157 = .ok (.iload 4, 2) := by decide +kernel
theorem dX9_graft_159 : decode cX9_graft 159 = .ok (.invokevirtual 128, 3) := by decide +kernel
theorem dX9_graft_162 : decode cX9_graft 162 = .ok (.ireturn, 1) := by decide +kernel
set_option maxRecDepth 20000 in
theorem ggX9_same_X9_isTreeRow : GoodIn wsX9_same wsX9_isTreeRow := goodIn_r _ [6, 7, 1, 8, 9, 5, 10, 11, 12, 13, 14, 15, 16, 17, 18, 19, 20, 21, 22, 23, 24, 25, 26, 27, 28, 29, 30, 31, 39, 40, 41, 42, 43, 44, 45, 46, 47, 48, 49, 50, 51, 52, 53, 54, 55, 56, 57, 58] (by decide +kernel) (by decide +kernel)
set_option maxRecDepth 20000 in
theorem gX9_same_X9_isTreeRow : GoodIn wsX9_same (wsV RX9 118 RX9 yX9_isTreeRow wsX9_isTreeRow) := goodIn_app (goodIn_of _ (by decide +kernel)) ggX9_same_X9_isTreeRow
set_option maxRecDepth 20000 in
theorem ggX9_same_X3_isLike : GoodIn wsX9_same wsX3_isLike := goodIn_r _ [36, 37, 38, 53, 54] (by decide +kernel) (by decide +kernel)
set_option maxRecDepth 20000 in
theorem gX9_same_X3_isLike : GoodIn wsX9_same (wsV RX9 132 RX3 yX3_isLike wsX3_isLike) := goodIn_app (goodIn_of _ (by decide +kernel)) ggX9_same_X3_isLike
theorem dX9_same_0 : decode cX9_same 0 = .ok (.aload_n 0, 1) := by decide +kernel
theorem dX9_same_1 : decode cX9_same 1 = .ok (.iload_n 1, 1) := by decide +kernel
theorem dX9_same_2 : decode cX9_same 2 = .ok (.invokevirtual 118, 3) := by decide +kernel
theorem dX9_same_5 : decode cX9_same 5 = .ok (.ifCond .eq 11, 3) := by decide +kernel
theorem dX9_same_8 : decode cX9_same 8 = .ok (.aload_n 0, 1) := by decide +kernel
theorem dX9_same_9 : decode cX9_same 9 = .ok (.iload_n 2, 1) := by decide +kernel
theorem dX9_same_10 : decode cX9_same 10 = .ok (.invokevirtual 118, 3) := by decide +kernel
theorem dX9_same_13 : decode cX9_same 13 = .ok (.ifCond .ne 6, 3) := by decide +kernel
theorem dX9_same_16 : decode cX9_same 16 = .ok (.bipush (-2), 2) := by decide +kernel
theorem dX9_same_18 : decode cX9_same 18 = .ok (.ireturn, 1) := by decide +kernel
theorem dX9_same_19 : decode cX9_same 19 = .ok (.aload_n 0, 1) := by decide +kernel
theorem dX9_same_20 : decode cX9_same 20 = .ok (.getfield 18, 3) := by decide +kernel
theorem dX9_same_23 : decode cX9_same 23 = .ok (.iload_n 1, 1) := by decide +kernel
theorem dX9_same_24 : decode cX9_same 24 = .ok (.aaload, 1) := by decide +kernel
theorem dX9_same_25 : decode cX9_same 25 = .ok (.aload_n 0, 1) := by decide +kernel
theorem dX9_same_26 : decode cX9_same 26 = .ok (.getfield 18, 3) := by decide +kernel
theorem dX9_same_29 : decode cX9_same 29 = .ok (.iload_n 2, 1) := by decide +kernel
theorem dX9_same_30 : decode cX9_same 30 = .ok (.aaload, 1) := by decide +kernel
theorem dX9_same_31 : decode cX9_same 31 = .ok (.invokevirtual 132, 3) := by decide +kernel
theorem dX9_same_34 : decode cX9_same 34 = .ok (.ifCond .eq 7, 3) := by decide +kernel
theorem dX9_same_37 : decode cX9_same 37 = .ok (.iconst 1, 1) := by decide +kernel
theorem dX9_same_38 : decode cX9_same 38 = .ok (.goto 4, 3) := by decide +kernel
theorem dX9_same_41 : decode cX9_same 41 = .ok (.iconst 0, 1) := by decide +kernel
theorem dX9_same_42 : decode cX9_same 42 = .ok (.ireturn, 1) := by decide +kernel
set_option maxRecDepth 20000 in
theorem ggX9_rule_X9_isLeft : GoodIn wsX9_rule wsX9_isLeft := goodIn_r _ [8, 1, 9, 10, 11, 7, 12, 2, 13, 14, 15, 16, 17, 18, 19, 20, 21, 22, 23, 24, 25, 26, 27, 28, 29, 30, 31, 32, 33, 34, 35, 36, 37, 38, 39, 40, 41, 42, 43, 44, 45, 46, 47, 73, 74, 75, 76, 77, 78, 79, 80, 81, 82, 83, 84, 85, 86, 91, 92, 87, 88, 89, 90] (by decide +kernel) (by decide +kernel)
set_option maxRecDepth 20000 in
theorem gX9_rule_X9_isLeft : GoodIn wsX9_rule (wsV RX9 135 RX9 yX9_isLeft wsX9_isLeft) := goodIn_app (goodIn_of _ (by decide +kernel)) ggX9_rule_X9_isLeft
set_option maxRecDepth 20000 in
theorem ggX9_rule_X9_isTreeRow : GoodIn wsX9_rule wsX9_isTreeRow := goodIn_r _ [12, 2, 1, 13, 14, 7, 15, 16, 17, 18, 19, 20, 21, 22, 23, 24, 25, 26, 27, 28, 29, 30, 31, 32, 33, 34, 35, 36, 73, 74, 75, 76, 77, 78, 79, 80, 81, 82, 83, 84, 85, 86, 91, 92, 87, 88, 89, 90] (by decide +kernel) (by decide +kernel)
set_option maxRecDepth 20000 in
theorem gX9_rule_X9_isTreeRow : GoodIn wsX9_rule (wsV RX9 118 RX9 yX9_isTreeRow wsX9_isTreeRow) := goodIn_app (goodIn_of _ (by decide +kernel)) ggX9_rule_X9_isTreeRow
set_option maxRecDepth 20000 in
theorem ggX9_rule_X3_leaves : GoodIn wsX9_rule wsX3_leaves := goodIn_r _ [46, 42, 47, 91, 92] (by decide +kernel) (by decide +kernel)
set_option maxRecDepth 20000 in
theorem gX9_rule_X3_leaves : GoodIn wsX9_rule (wsV RX9 107 RX3 yX3_leaves wsX3_leaves) := goodIn_app (goodIn_of _ (by decide +kernel)) ggX9_rule_X3_leaves
set_option maxRecDepth 20000 in
theorem ggX9_rule_X9_forget : GoodIn wsX9_rule wsX9_forget := goodIn_r _ [52, 53, 54, 55, 73, 74, 75, 76, 77, 78, 79, 80, 81, 82, 83, 84, 85, 86] (by decide +kernel) (by decide +kernel)
set_option maxRecDepth 20000 in
theorem gX9_rule_X9_forget : GoodIn wsX9_rule (wsV RX9 76 RX9 yX9_forget wsX9_forget) := goodIn_app (goodIn_of _ (by decide +kernel)) ggX9_rule_X9_forget
set_option maxRecDepth 20000 in
theorem ggX9_rule_X8_addRule : GoodIn wsX9_rule wsX8_addRule := goodIn_r _ [59, 60, 61, 62, 63, 64, 65, 66, 67, 40, 68, 47, 42, 69, 70, 71, 72, 87, 88, 89, 90, 93, 94, 95, 91, 92] (by decide +kernel) (by decide +kernel)
set_option maxRecDepth 20000 in
theorem gX9_rule_X8_addRule : GoodIn wsX9_rule (wsV RX9 141 RX8 yX8_addRule wsX8_addRule) := goodIn_app (goodIn_of _ (by decide +kernel)) ggX9_rule_X8_addRule
theorem dX9_rule_0 : decode cX9_rule 0 = .ok (.aload_n 0, 1) := by decide +kernel
theorem dX9_rule_1 : decode cX9_rule 1 = .ok (.iload_n 1, 1) := by decide +kernel
theorem dX9_rule_2 : decode cX9_rule 2 = .ok (.invokevirtual 135, 3) := by decide +kernel
theorem dX9_rule_5 : decode cX9_rule 5 = .ok (.ifCond .eq 11, 3) := by decide +kernel
theorem dX9_rule_8 : decode cX9_rule 8 = .ok (.aload_n 0, 1) := by decide +kernel
theorem dX9_rule_9 : decode cX9_rule 9 = .ok (.iload_n 2, 1) := by decide +kernel
theorem dX9_rule_10 : decode cX9_rule 10 = .ok (.invokevirtual 118, 3) := by decide +kernel
theorem dX9_rule_13 : decode cX9_rule 13 = .ok (.ifCond .ne 6, 3) := by decide +kernel
theorem dX9_rule_16 : decode cX9_rule 16 = .ok (.bipush (-2), 2) := by decide +kernel
theorem dX9_rule_18 : decode cX9_rule 18 = .ok (.ireturn, 1) := by decide +kernel
theorem dX9_rule_19 : decode cX9_rule 19 = .ok (.aload_n 0, 1) := by decide +kernel
theorem dX9_rule_20 : decode cX9_rule 20 = .ok (.getfield 18, 3) := by decide +kernel
theorem dX9_rule_23 : decode cX9_rule 23 = .ok (.iload_n 1, 1) := by decide +kernel
theorem dX9_rule_24 : decode cX9_rule 24 = .ok (.aaload, 1) := by decide +kernel
theorem dX9_rule_25 : decode cX9_rule 25 = .ok (.invokevirtual 107, 3) := by decide +kernel
theorem dX9_rule_28 : decode cX9_rule 28 = .ok (.aload_n 0, 1) := by decide +kernel
theorem dX9_rule_29 : decode cX9_rule 29 = .ok (.getfield 18, 3) := by decide +kernel
theorem dX9_rule_32 : decode cX9_rule 32 = .ok (.iload_n 2, 1) := by decide +kernel
theorem dX9_rule_33 : decode cX9_rule 33 = .ok (.aaload, 1) := by decide +kernel
theorem dX9_rule_34 : decode cX9_rule 34 = .ok (.invokevirtual 107, 3) := by decide +kernel
theorem dX9_rule_37 : decode cX9_rule 37 = .ok (.if_icmp .eq 6, 3) := by decide +kernel
theorem dX9_rule_40 : decode cX9_rule 40 = .ok (.bipush (-3), 2) := by decide +kernel
theorem dX9_rule_42 : decode cX9_rule 42 = .ok (.ireturn, 1) := by decide +kernel
theorem dX9_rule_43 : decode cX9_rule 43 = .ok (.aload_n 0, 1) := by decide +kernel
theorem dX9_rule_44 : decode cX9_rule 44 = .ok (.getfield 10, 3) := by decide +kernel
theorem dX9_rule_47 : decode cX9_rule 47 = .ok (.getfield 138, 3) := by decide +kernel
theorem dX9_rule_50 : decode cX9_rule 50 = .ok (.bipush 8, 2) := by decide +kernel
theorem dX9_rule_52 : decode cX9_rule 52 = .ok (.if_icmp .lt 6, 3) := by decide +kernel
theorem dX9_rule_55 : decode cX9_rule 55 = .ok (.bipush (-4), 2) := by decide +kernel
theorem dX9_rule_57 : decode cX9_rule 57 = .ok (.ireturn, 1) := by decide +kernel
theorem dX9_rule_58 : decode cX9_rule 58 = .ok (.aload_n 0, 1) := by decide +kernel
theorem dX9_rule_59 : decode cX9_rule 59 = .ok (.invokevirtual 76, 3) := by decide +kernel
theorem dX9_rule_62 : decode cX9_rule 62 = .ok (.aload_n 0, 1) := by decide +kernel
theorem dX9_rule_63 : decode cX9_rule 63 = .ok (.getfield 10, 3) := by decide +kernel
theorem dX9_rule_66 : decode cX9_rule 66 = .ok (.aload_n 0, 1) := by decide +kernel
theorem dX9_rule_67 : decode cX9_rule 67 = .ok (.getfield 18, 3) := by decide +kernel
theorem dX9_rule_70 : decode cX9_rule 70 = .ok (.iload_n 1, 1) := by decide +kernel
theorem dX9_rule_71 : decode cX9_rule 71 = .ok (.aaload, 1) := by decide +kernel
theorem dX9_rule_72 : decode cX9_rule 72 = .ok (.aload_n 0, 1) := by decide +kernel
theorem dX9_rule_73 : decode cX9_rule 73 = .ok (.getfield 18, 3) := by decide +kernel
theorem dX9_rule_76 : decode cX9_rule 76 = .ok (.iload_n 2, 1) := by decide +kernel
theorem dX9_rule_77 : decode cX9_rule 77 = .ok (.aaload, 1) := by decide +kernel
theorem dX9_rule_78 : decode cX9_rule 78 = .ok (.iconst 0, 1) := by decide +kernel
theorem dX9_rule_79 : decode cX9_rule 79 = .ok (.invokevirtual 141, 3) := by decide +kernel
theorem dX9_rule_82 : decode cX9_rule 82 = .ok (.ireturn, 1) := by decide +kernel
set_option maxRecDepth 20000 in
theorem ggX9_nought_X9_isLeft : GoodIn wsX9_nought wsX9_isLeft := goodIn_r _ [9, 4, 10, 11, 12, 8, 13, 1, 14, 15, 16, 17, 18, 19, 20, 21, 22, 23, 24, 25, 26, 27, 28, 29, 30, 31, 32, 33, 34, 35, 36, 37, 38, 39, 40, 41, 42, 43, 44, 45, 46, 47, 48, 77, 78, 79, 80, 81, 82, 83, 84, 85, 86, 87, 88, 89, 90, 95, 96, 91, 92, 93, 94] (by decide +kernel) (by decide +kernel)
set_option maxRecDepth 20000 in
theorem gX9_nought_X9_isLeft : GoodIn wsX9_nought (wsV RX9 135 RX9 yX9_isLeft wsX9_isLeft) := goodIn_app (goodIn_of _ (by decide +kernel)) ggX9_nought_X9_isLeft
set_option maxRecDepth 20000 in
theorem ggX9_nought_X9_forget : GoodIn wsX9_nought wsX9_forget := goodIn_r _ [52, 53, 54, 55, 77, 78, 79, 80, 81, 82, 83, 84, 85, 86, 87, 88, 89, 90] (by decide +kernel) (by decide +kernel)
set_option maxRecDepth 20000 in
theorem gX9_nought_X9_forget : GoodIn wsX9_nought (wsV RX9 76 RX9 yX9_forget wsX9_forget) := goodIn_app (goodIn_of _ (by decide +kernel)) ggX9_nought_X9_forget
set_option maxRecDepth 20000 in
theorem ggX9_nought_X3_clear : GoodIn wsX9_nought wsX3_clear := goodIn_r _ [59, 43, 95, 96] (by decide +kernel) (by decide +kernel)
set_option maxRecDepth 20000 in
theorem gX9_nought_X3_clear : GoodIn wsX9_nought (wsV RX9 96 RX3 yX3_clear wsX3_clear) := goodIn_app (goodIn_of _ (by decide +kernel)) ggX9_nought_X3_clear
set_option maxRecDepth 20000 in
theorem ggX9_nought_X8_addRule : GoodIn wsX9_nought wsX8_addRule := goodIn_r _ [63, 64, 65, 66, 67, 68, 69, 70, 71, 41, 72, 48, 43, 73, 74, 75, 76, 91, 92, 93, 94, 97, 98, 99, 95, 96] (by decide +kernel) (by decide +kernel)
set_option maxRecDepth 20000 in
theorem gX9_nought_X8_addRule : GoodIn wsX9_nought (wsV RX9 141 RX8 yX8_addRule wsX8_addRule) := goodIn_app (goodIn_of _ (by decide +kernel)) ggX9_nought_X8_addRule
theorem dX9_nought_0 : decode cX9_nought 0 = .ok (.aload_n 0, 1) := by decide +kernel
theorem dX9_nought_1 : decode cX9_nought 1 = .ok (.iload_n 1, 1) := by decide +kernel
theorem dX9_nought_2 : decode cX9_nought 2 = .ok (.invokevirtual 135, 3) := by decide +kernel
theorem dX9_nought_5 : decode cX9_nought 5 = .ok (.ifCond .ne 6, 3) := by decide +kernel
theorem dX9_nought_8 : decode cX9_nought 8 = .ok (.bipush (-2), 2) := by decide +kernel
theorem dX9_nought_10 : decode cX9_nought 10 = .ok (.ireturn, 1) := by decide +kernel
theorem dX9_nought_11 : decode cX9_nought 11 = .ok (.aload_n 0, 1) := by decide +kernel
theorem dX9_nought_12 : decode cX9_nought 12 = .ok (.getfield 10, 3) := by decide +kernel
theorem dX9_nought_15 : decode cX9_nought 15 = .ok (.getfield 138, 3) := by decide +kernel
theorem dX9_nought_18 : decode cX9_nought 18 = .ok (.bipush 8, 2) := by decide +kernel
theorem dX9_nought_20 : decode cX9_nought 20 = .ok (.if_icmp .lt 6, 3) := by decide +kernel
theorem dX9_nought_23 : decode cX9_nought 23 = .ok (.bipush (-4), 2) := by decide +kernel
theorem dX9_nought_25 : decode cX9_nought 25 = .ok (.ireturn, 1) := by decide +kernel
theorem dX9_nought_26 : decode cX9_nought 26 = .ok (.aload_n 0, 1) := by decide +kernel
theorem dX9_nought_27 : decode cX9_nought 27 = .ok (.invokevirtual 76, 3) := by decide +kernel
theorem dX9_nought_30 : decode cX9_nought 30 = .ok (.aload_n 0, 1) := by decide +kernel
theorem dX9_nought_31 : decode cX9_nought 31 = .ok (.getfield 23, 3) := by decide +kernel
theorem dX9_nought_34 : decode cX9_nought 34 = .ok (.invokevirtual 96, 3) := by decide +kernel
theorem dX9_nought_37 : decode cX9_nought 37 = .ok (.aload_n 0, 1) := by decide +kernel
theorem dX9_nought_38 : decode cX9_nought 38 = .ok (.getfield 10, 3) := by decide +kernel
theorem dX9_nought_41 : decode cX9_nought 41 = .ok (.aload_n 0, 1) := by decide +kernel
theorem dX9_nought_42 : decode cX9_nought 42 = .ok (.getfield 18, 3) := by decide +kernel
theorem dX9_nought_45 : decode cX9_nought 45 = .ok (.iload_n 1, 1) := by decide +kernel
theorem dX9_nought_46 : decode cX9_nought 46 = .ok (.aaload, 1) := by decide +kernel
theorem dX9_nought_47 : decode cX9_nought 47 = .ok (.aload_n 0, 1) := by decide +kernel
theorem dX9_nought_48 : decode cX9_nought 48 = .ok (.getfield 23, 3) := by decide +kernel
theorem dX9_nought_51 : decode cX9_nought 51 = .ok (.iconst 1, 1) := by decide +kernel
theorem dX9_nought_52 : decode cX9_nought 52 = .ok (.invokevirtual 141, 3) := by decide +kernel
theorem dX9_nought_55 : decode cX9_nought 55 = .ok (.ireturn, 1) := by decide +kernel
set_option maxRecDepth 20000 in
theorem ggX9_unrule_X9_forget : GoodIn wsX9_unrule wsX9_forget := goodIn_r _ [7, 8, 9, 10, 11, 12, 13, 14, 15, 16, 17, 18, 19, 20, 21, 22, 23, 24] (by decide +kernel) (by decide +kernel)
set_option maxRecDepth 20000 in
theorem gX9_unrule_X9_forget : GoodIn wsX9_unrule (wsV RX9 76 RX9 yX9_forget wsX9_forget) := goodIn_app (goodIn_of _ (by decide +kernel)) ggX9_unrule_X9_forget
theorem dX9_unrule_0 : decode cX9_unrule 0 = .ok (.aload_n 0, 1) := by decide +kernel
theorem dX9_unrule_1 : decode cX9_unrule 1 = .ok (.getfield 10, 3) := by decide +kernel
theorem dX9_unrule_4 : decode cX9_unrule 4 = .ok (.getfield 138, 3) := by decide +kernel
theorem dX9_unrule_7 : decode cX9_unrule 7 = .ok (.istore_n 1, 1) := by decide +kernel
theorem dX9_unrule_8 : decode cX9_unrule 8 = .ok (.aload_n 0, 1) := by decide +kernel
theorem dX9_unrule_9 : decode cX9_unrule 9 = .ok (.getfield 10, 3) := by decide +kernel
theorem dX9_unrule_12 : decode cX9_unrule 12 = .ok (.iconst 0, 1) := by decide +kernel
theorem dX9_unrule_13 : decode cX9_unrule 13 = .ok (.putfield 138, 3) := by decide +kernel
theorem dX9_unrule_16 : decode cX9_unrule 16 = .ok (.aload_n 0, 1) := by decide +kernel
theorem dX9_unrule_17 : decode cX9_unrule 17 = .ok (.invokevirtual 76, 3) := by decide +kernel
theorem dX9_unrule_20 : decode cX9_unrule 20 = .ok (.iload_n 1, 1) := by decide +kernel
theorem dX9_unrule_21 : decode cX9_unrule 21 = .ok (.ireturn, 1) := by decide +kernel
set_option maxRecDepth 20000 in
theorem ggX9_side_X8_isRule : GoodIn wsX9_side wsX8_isRule := goodIn_r _ [9, 10, 46, 47, 48, 49] (by decide +kernel) (by decide +kernel)
set_option maxRecDepth 20000 in
theorem gX9_side_X8_isRule : GoodIn wsX9_side (wsV RX9 145 RX8 yX8_isRule wsX8_isRule) := goodIn_app (goodIn_of _ (by decide +kernel)) ggX9_side_X8_isRule
set_option maxRecDepth 20000 in
theorem ggX9_side_X9_isRow : GoodIn wsX9_side wsX9_isRow := goodIn_r _ [14] (by decide +kernel) (by decide +kernel)
set_option maxRecDepth 20000 in
theorem gX9_side_X9_isRow : GoodIn wsX9_side (va_wsS RX9 83 yX9_isRow wsX9_isRow) := goodIn_app (goodIn_of _ (by decide +kernel)) ggX9_side_X9_isRow
set_option maxRecDepth 20000 in
theorem ggX9_side_X9_bring : GoodIn wsX9_side wsX9_bring := goodIn_r _ [18, 19, 20, 21, 22, 23, 24, 25, 26, 27, 28, 29, 30, 31, 32, 33, 34, 35, 36, 37, 38, 39, 40, 41, 42, 43, 44, 45, 53, 54] (by decide +kernel) (by decide +kernel)
set_option maxRecDepth 20000 in
theorem gX9_side_X9_bring : GoodIn wsX9_side (wsV RX9 128 RX9 yX9_bring wsX9_bring) := goodIn_app (goodIn_of _ (by decide +kernel)) ggX9_side_X9_bring
theorem dX9_side_0 : decode cX9_side 0 = .ok (.aload_n 0, 1) := by decide +kernel
theorem dX9_side_1 : decode cX9_side 1 = .ok (.getfield 10, 3) := by decide +kernel
theorem dX9_side_4 : decode cX9_side 4 = .ok (.iload_n 1, 1) := by decide +kernel
theorem dX9_side_5 : decode cX9_side 5 = .ok (.invokevirtual 145, 3) := by decide +kernel
theorem dX9_side_8 : decode cX9_side 8 = .ok (.ifCond .eq 19, 3) := by decide +kernel
theorem dX9_side_11 : decode cX9_side 11 = .ok (.iload_n 2, 1) := by decide +kernel
theorem dX9_side_12 : decode cX9_side 12 = .ok (.ifCond .lt 15, 3) := by decide +kernel
theorem dX9_side_15 : decode cX9_side 15 = .ok (.iload_n 2, 1) := by decide +kernel
theorem dX9_side_16 : decode cX9_side 16 = .ok (.iconst 1, 1) := by decide +kernel
theorem dX9_side_17 : decode cX9_side 17 = .ok (.if_icmp .gt 10, 3) := by decide +kernel
theorem dX9_side_20 : decode cX9_side 20 = .ok (.iload_n 3, 1) := by decide +kernel
theorem dX9_side_21 : decode cX9_side 21 = .ok (.invokestatic 83, 3) := by decide +kernel
theorem dX9_side_24 : decode cX9_side 24 = .ok (.ifCond .ne 6, 3) := by decide +kernel
theorem dX9_side_27 : decode cX9_side 27 = .ok (.bipush (-2), 2) := by decide +kernel
theorem dX9_side_29 : decode cX9_side 29 = .ok (.ireturn, 1) := by decide +kernel
theorem dX9_side_30 : decode cX9_side 30 = .ok (.aload_n 0, 1) := by decide +kernel
theorem dX9_side_31 : decode cX9_side 31 = .ok (.getfield 10, 3) := by decide +kernel
theorem dX9_side_34 : decode cX9_side 34 = .ok (.getfield 148, 3) := by decide +kernel
theorem dX9_side_37 : decode cX9_side 37 = .ok (.iload_n 1, 1) := by decide +kernel
theorem dX9_side_38 : decode cX9_side 38 = .ok (.aaload, 1) := by decide +kernel
theorem dX9_side_39 : decode cX9_side 39 = .ok (.astore 4, 2) := by decide +kernel
theorem dX9_side_41 : decode cX9_side 41 = .ok (.aload_n 0, 1) := by decide +kernel
theorem dX9_side_42 : decode cX9_side 42 = .ok (.iload_n 2, 1) := by decide +kernel
theorem dX9_side_43 : decode cX9_side 43 = .ok (.ifCond .ne 11, 3) := by decide +kernel
theorem dX9_side_46 : decode cX9_side 46 = .ok (.aload 4, 2) := by decide +kernel
theorem dX9_side_48 : decode cX9_side 48 = .ok (.getfield 152, 3) := by decide +kernel
theorem dX9_side_51 : decode cX9_side 51 = .ok (.goto 8, 3) := by decide +kernel
theorem dX9_side_54 : decode cX9_side 54 = .ok (.aload 4, 2) := by decide +kernel
theorem dX9_side_56 : decode cX9_side 56 = .ok (.getfield 157, 3) := by decide +kernel
theorem dX9_side_59 : decode cX9_side 59 = .ok (.iload_n 3, 1) := by decide +kernel
theorem dX9_side_60 : decode cX9_side 60 = .ok (.invokevirtual 128, 3) := by decide +kernel
theorem dX9_side_63 : decode cX9_side 63 = .ok (.ireturn, 1) := by decide +kernel
set_option maxRecDepth 20000 in
theorem ggX9_matches_X8_isRule : GoodIn wsX9_matches wsX8_isRule := goodIn_r _ [9, 10, 77, 78, 79, 80] (by decide +kernel) (by decide +kernel)
set_option maxRecDepth 20000 in
theorem gX9_matches_X8_isRule : GoodIn wsX9_matches (wsV RX9 145 RX8 yX8_isRule wsX8_isRule) := goodIn_app (goodIn_of _ (by decide +kernel)) ggX9_matches_X8_isRule
set_option maxRecDepth 20000 in
theorem ggX9_matches_X9_isTreeRow : GoodIn wsX9_matches wsX9_isTreeRow := goodIn_r _ [15, 1, 4, 16, 17, 14, 18, 19, 20, 21, 8, 22, 23, 24, 25, 26, 27, 28, 29, 30, 31, 32, 33, 34, 35, 36, 37, 38, 63, 64, 65, 66, 67, 68, 69, 70, 71, 72, 73, 74, 75, 76, 81, 82, 77, 78, 79, 80] (by decide +kernel) (by decide +kernel)
set_option maxRecDepth 20000 in
theorem gX9_matches_X9_isTreeRow : GoodIn wsX9_matches (wsV RX9 118 RX9 yX9_isTreeRow wsX9_isTreeRow) := goodIn_app (goodIn_of _ (by decide +kernel)) ggX9_matches_X9_isTreeRow
set_option maxRecDepth 20000 in
theorem ggX9_matches_X2_firstPlace : GoodIn wsX9_matches wsX2_firstPlace := goodIn_r _ [43, 44, 45, 46, 47, 48, 49, 50, 51, 52, 53, 54, 55, 34, 35, 8, 36, 37, 38, 56, 57, 58, 42, 59, 60, 61, 62, 83, 84, 85, 86, 87, 81, 82, 88, 89, 90, 91, 77, 78, 79, 80] (by decide +kernel) (by decide +kernel)
set_option maxRecDepth 20000 in
theorem gX9_matches_X2_firstPlace : GoodIn wsX9_matches (wsV RX9 160 RX2 yX2_firstPlace wsX2_firstPlace) := goodIn_app (goodIn_of _ (by decide +kernel)) ggX9_matches_X2_firstPlace
theorem dX9_matches_0 : decode cX9_matches 0 = .ok (.aload_n 0, 1) := by decide +kernel
theorem dX9_matches_1 : decode cX9_matches 1 = .ok (.getfield 10, 3) := by decide +kernel
theorem dX9_matches_4 : decode cX9_matches 4 = .ok (.iload_n 1, 1) := by decide +kernel
theorem dX9_matches_5 : decode cX9_matches 5 = .ok (.invokevirtual 145, 3) := by decide +kernel
theorem dX9_matches_8 : decode cX9_matches 8 = .ok (.ifCond .eq 11, 3) := by decide +kernel
theorem dX9_matches_11 : decode cX9_matches 11 = .ok (.aload_n 0, 1) := by decide +kernel
theorem dX9_matches_12 : decode cX9_matches 12 = .ok (.iload_n 2, 1) := by decide +kernel
theorem dX9_matches_13 : decode cX9_matches 13 = .ok (.invokevirtual 118, 3) := by decide +kernel
theorem dX9_matches_16 : decode cX9_matches 16 = .ok (.ifCond .ne 6, 3) := by decide +kernel
theorem dX9_matches_19 : decode cX9_matches 19 = .ok (.bipush (-2), 2) := by decide +kernel
theorem dX9_matches_21 : decode cX9_matches 21 = .ok (.ireturn, 1) := by decide +kernel
theorem dX9_matches_22 : decode cX9_matches 22 = .ok (.aload_n 0, 1) := by decide +kernel
theorem dX9_matches_23 : decode cX9_matches 23 = .ok (.getfield 37, 3) := by decide +kernel
theorem dX9_matches_26 : decode cX9_matches 26 = .ok (.aload_n 0, 1) := by decide +kernel
theorem dX9_matches_27 : decode cX9_matches 27 = .ok (.getfield 10, 3) := by decide +kernel
theorem dX9_matches_30 : decode cX9_matches 30 = .ok (.aload_n 0, 1) := by decide +kernel
theorem dX9_matches_31 : decode cX9_matches 31 = .ok (.getfield 10, 3) := by decide +kernel
theorem dX9_matches_34 : decode cX9_matches 34 = .ok (.getfield 148, 3) := by decide +kernel
theorem dX9_matches_37 : decode cX9_matches 37 = .ok (.iload_n 1, 1) := by decide +kernel
theorem dX9_matches_38 : decode cX9_matches 38 = .ok (.aaload, 1) := by decide +kernel
theorem dX9_matches_39 : decode cX9_matches 39 = .ok (.aload_n 0, 1) := by decide +kernel
theorem dX9_matches_40 : decode cX9_matches 40 = .ok (.getfield 18, 3) := by decide +kernel
theorem dX9_matches_43 : decode cX9_matches 43 = .ok (.iload_n 2, 1) := by decide +kernel
theorem dX9_matches_44 : decode cX9_matches 44 = .ok (.aaload, 1) := by decide +kernel
theorem dX9_matches_45 : decode cX9_matches 45 = .ok (.invokevirtual 160, 3) := by decide +kernel
theorem dX9_matches_48 : decode cX9_matches 48 = .ok (.ireturn, 1) := by decide +kernel
set_option maxRecDepth 20000 in
theorem ggX9_step_X9_isTreeRow : GoodIn wsX9_step wsX9_isTreeRow := goodIn_r _ [8, 2, 3, 9, 10, 7, 11, 12, 13, 14, 15, 16, 17, 18, 19, 20, 21, 22, 23, 24, 25, 26, 27, 28, 29, 30, 31, 32, 89, 90, 91, 92, 93, 94, 95, 96, 97, 98, 99, 100, 101, 102, 103, 104, 105, 106, 107, 108] (by decide +kernel) (by decide +kernel)
set_option maxRecDepth 20000 in
theorem gX9_step_X9_isTreeRow : GoodIn wsX9_step (wsV RX9 118 RX9 yX9_isTreeRow wsX9_isTreeRow) := goodIn_app (goodIn_of _ (by decide +kernel)) ggX9_step_X9_isTreeRow
set_option maxRecDepth 20000 in
theorem ggX9_step_X2_advance : GoodIn wsX9_step wsX2_advance := goodIn_r _ [37, 38, 39, 40, 41, 42, 43, 44, 45, 46, 47, 48, 49, 50, 51, 52, 28, 29, 15, 30, 31, 32, 53, 54, 55, 36, 56, 57, 58, 59, 60, 61, 62, 63, 64, 65, 66, 67, 68, 69, 70, 71, 72, 73, 74, 75, 76, 77, 78, 79, 80, 81, 82, 83, 84, 85, 86, 87, 88, 109, 110, 111, 112, 113, 103, 104, 105, 106, 107, 108, 114, 115, 116, 117] (by decide +kernel) (by decide +kernel)
set_option maxRecDepth 20000 in
theorem gX9_step_X2_advance : GoodIn wsX9_step (wsV RX9 164 RX2 yX2_advance wsX2_advance) := goodIn_app (goodIn_of _ (by decide +kernel)) ggX9_step_X2_advance
theorem dX9_step_0 : decode cX9_step 0 = .ok (.aload_n 0, 1) := by decide +kernel
theorem dX9_step_1 : decode cX9_step 1 = .ok (.iload_n 1, 1) := by decide +kernel
theorem dX9_step_2 : decode cX9_step 2 = .ok (.invokevirtual 118, 3) := by decide +kernel
theorem dX9_step_5 : decode cX9_step 5 = .ok (.ifCond .ne 6, 3) := by decide +kernel
theorem dX9_step_8 : decode cX9_step 8 = .ok (.bipush (-2), 2) := by decide +kernel
theorem dX9_step_10 : decode cX9_step 10 = .ok (.ireturn, 1) := by decide +kernel
theorem dX9_step_11 : decode cX9_step 11 = .ok (.aload_n 0, 1) := by decide +kernel
theorem dX9_step_12 : decode cX9_step 12 = .ok (.getfield 37, 3) := by decide +kernel
theorem dX9_step_15 : decode cX9_step 15 = .ok (.aload_n 0, 1) := by decide +kernel
theorem dX9_step_16 : decode cX9_step 16 = .ok (.getfield 10, 3) := by decide +kernel
theorem dX9_step_19 : decode cX9_step 19 = .ok (.aload_n 0, 1) := by decide +kernel
theorem dX9_step_20 : decode cX9_step 20 = .ok (.getfield 18, 3) := by decide +kernel
theorem dX9_step_23 : decode cX9_step 23 = .ok (.iload_n 1, 1) := by decide +kernel
theorem dX9_step_24 : decode cX9_step 24 = .ok (.aaload, 1) := by decide +kernel
theorem dX9_step_25 : decode cX9_step 25 = .ok (.invokevirtual 164, 3) := by decide +kernel
theorem dX9_step_28 : decode cX9_step 28 = .ok (.ireturn, 1) := by decide +kernel
set_option maxRecDepth 20000 in
theorem ggX9_normal_X9_isTreeRow : GoodIn wsX9_normal wsX9_isTreeRow := goodIn_r _ [9, 4, 2, 10, 11, 8, 12, 13, 14, 15, 16, 17, 18, 19, 20, 21, 22, 23, 24, 25, 26, 27, 28, 29, 30, 31, 32, 33, 95, 96, 97, 98, 99, 100, 101, 102, 103, 104, 105, 106, 107, 108, 109, 110, 111, 112, 113, 114] (by decide +kernel) (by decide +kernel)
set_option maxRecDepth 20000 in
theorem gX9_normal_X9_isTreeRow : GoodIn wsX9_normal (wsV RX9 118 RX9 yX9_isTreeRow wsX9_isTreeRow) := goodIn_app (goodIn_of _ (by decide +kernel)) ggX9_normal_X9_isTreeRow
set_option maxRecDepth 20000 in
theorem ggX9_normal_X3_become : GoodIn wsX9_normal wsX3_become := goodIn_r _ [38, 39, 40, 41, 42, 43, 44, 109, 110] (by decide +kernel) (by decide +kernel)
set_option maxRecDepth 20000 in
theorem gX9_normal_X3_become : GoodIn wsX9_normal (wsV RX9 167 RX3 yX3_become wsX3_become) := goodIn_app (goodIn_of _ (by decide +kernel)) ggX9_normal_X3_become
set_option maxRecDepth 20000 in
theorem ggX9_normal_X2_normalForm : GoodIn wsX9_normal wsX2_normalForm := goodIn_r _ [49, 50, 51, 52, 48, 53, 54, 55, 56, 57, 58, 59, 60, 61, 62, 63, 64, 65, 66, 67, 68, 29, 30, 16, 31, 32, 33, 69, 70, 71, 72, 73, 74, 75, 76, 77, 78, 79, 80, 81, 82, 83, 84, 37, 85, 40, 86, 87, 88, 89, 39, 41, 42, 43, 44, 90, 91, 92, 93, 94, 35, 36, 38, 115, 116, 117, 118, 119, 109, 110, 111, 112, 113, 114, 120, 121, 122, 123] (by decide +kernel) (by decide +kernel)
set_option maxRecDepth 20000 in
theorem gX9_normal_X2_normalForm : GoodIn wsX9_normal (wsV RX9 171 RX2 yX2_normalForm wsX2_normalForm) := goodIn_app (goodIn_of _ (by decide +kernel)) ggX9_normal_X2_normalForm
theorem dX9_normal_0 : decode cX9_normal 0 = .ok (.aload_n 0, 1) := by decide +kernel
theorem dX9_normal_1 : decode cX9_normal 1 = .ok (.iload_n 1, 1) := by decide +kernel
theorem dX9_normal_2 : decode cX9_normal 2 = .ok (.invokevirtual 118, 3) := by decide +kernel
theorem dX9_normal_5 : decode cX9_normal 5 = .ok (.ifCond .ne 6, 3) := by decide +kernel
theorem dX9_normal_8 : decode cX9_normal 8 = .ok (.bipush (-2), 2) := by decide +kernel
theorem dX9_normal_10 : decode cX9_normal 10 = .ok (.ireturn, 1) := by decide +kernel
theorem dX9_normal_11 : decode cX9_normal 11 = .ok (.aload_n 0, 1) := by decide +kernel
theorem dX9_normal_12 : decode cX9_normal 12 = .ok (.getfield 23, 3) := by decide +kernel
theorem dX9_normal_15 : decode cX9_normal 15 = .ok (.aload_n 0, 1) := by decide +kernel
theorem dX9_normal_16 : decode cX9_normal 16 = .ok (.getfield 18, 3) := by decide +kernel
theorem dX9_normal_19 : decode cX9_normal 19 = .ok (.iload_n 1, 1) := by decide +kernel
theorem dX9_normal_20 : decode cX9_normal 20 = .ok (.aaload, 1) := by decide +kernel
theorem dX9_normal_21 : decode cX9_normal 21 = .ok (.invokevirtual 167, 3) := by decide +kernel
theorem dX9_normal_24 : decode cX9_normal 24 = .ok (.aload_n 0, 1) := by decide +kernel
theorem dX9_normal_25 : decode cX9_normal 25 = .ok (.getfield 37, 3) := by decide +kernel
theorem dX9_normal_28 : decode cX9_normal 28 = .ok (.aload_n 0, 1) := by decide +kernel
theorem dX9_normal_29 : decode cX9_normal 29 = .ok (.getfield 10, 3) := by decide +kernel
theorem dX9_normal_32 : decode cX9_normal 32 = .ok (.aload_n 0, 1) := by decide +kernel
theorem dX9_normal_33 : decode cX9_normal 33 = .ok (.getfield 23, 3) := by decide +kernel
theorem dX9_normal_36 : decode cX9_normal 36 = .ok (.invokevirtual 171, 3) := by decide +kernel
theorem dX9_normal_39 : decode cX9_normal 39 = .ok (.istore_n 2, 1) := by decide +kernel
theorem dX9_normal_40 : decode cX9_normal 40 = .ok (.iload_n 2, 1) := by decide +kernel
theorem dX9_normal_41 : decode cX9_normal 41 = .ok (.bipush (-5), 2) := by decide +kernel
theorem dX9_normal_43 : decode cX9_normal 43 = .ok (.if_icmp .eq 16, 3) := by decide +kernel
theorem dX9_normal_46 : decode cX9_normal 46 = .ok (.aload_n 0, 1) := by decide +kernel
theorem dX9_normal_47 : decode cX9_normal 47 = .ok (.getfield 18, 3) := by decide +kernel
theorem dX9_normal_50 : decode cX9_normal 50 = .ok (.iload_n 1, 1) := by decide +kernel
theorem dX9_normal_51 : decode cX9_normal 51 = .ok (.aaload, 1) := by decide +kernel
theorem dX9_normal_52 : decode cX9_normal 52 = .ok (.aload_n 0, 1) := by decide +kernel
theorem dX9_normal_53 : decode cX9_normal 53 = .ok (.getfield 23, 3) := by decide +kernel
theorem dX9_normal_56 : decode cX9_normal 56 = .ok (.invokevirtual 167, 3) := by decide +kernel
theorem dX9_normal_59 : decode cX9_normal 59 = .ok (.iload_n 2, 1) := by decide +kernel
theorem dX9_normal_60 : decode cX9_normal 60 = .ok (.ireturn, 1) := by decide +kernel
set_option maxRecDepth 20000 in
theorem ggX9_howMany_X9_isLeafNumber : GoodIn wsX9_howMany wsX9_isLeafNumber := goodIn_r _ [6] (by decide +kernel) (by decide +kernel)
set_option maxRecDepth 20000 in
theorem gX9_howMany_X9_isLeafNumber : GoodIn wsX9_howMany (va_wsS RX9 174 yX9_isLeafNumber wsX9_isLeafNumber) := goodIn_app (goodIn_of _ (by decide +kernel)) ggX9_howMany_X9_isLeafNumber
set_option maxRecDepth 20000 in
theorem ggX9_howMany_X9_learnMany : GoodIn wsX9_howMany wsX9_learnMany := goodIn_r _ [10, 11, 12, 13, 2, 14, 15, 16, 17, 18, 19, 20, 21, 22, 23, 24, 25, 26, 27, 28, 29, 30, 31, 32, 33, 34, 35, 36, 37, 38, 39, 40, 41, 42, 43, 44, 45, 46, 47, 48, 49, 50, 51, 52, 53, 54, 55, 56, 57, 58, 59, 60, 61, 62, 63, 64, 65, 66, 67, 68, 69, 70, 71, 72, 73, 74, 75, 76, 77, 78, 79, 80, 81, 82, 83, 84, 85, 86, 87, 88, 89, 90, 91, 92, 93, 94, 95, 96, 97, 98, 99, 100, 101, 102, 103, 104, 105, 106, 107, 108, 109, 110, 111, 112, 113, 114, 115, 116, 117, 118, 119, 120, 121, 122, 123, 124, 125, 126, 127, 128, 129, 130, 131, 132, 133, 134, 135, 136, 137, 138, 139, 140, 141, 142, 143, 144, 145, 146, 147, 148, 149, 150, 151, 152, 153, 154, 155] (by decide +kernel) (by decide +kernel)
set_option maxRecDepth 20000 in
theorem gX9_howMany_X9_learnMany : GoodIn wsX9_howMany (wsV RX9 179 RX9 yX9_learnMany wsX9_learnMany) := goodIn_app (goodIn_of _ (by decide +kernel)) ggX9_howMany_X9_learnMany
theorem dX9_howMany_0 : decode cX9_howMany 0 = .ok (.iload_n 1, 1) := by decide +kernel
theorem dX9_howMany_1 : decode cX9_howMany 1 = .ok (.invokestatic 174, 3) := by decide +kernel
theorem dX9_howMany_4 : decode cX9_howMany 4 = .ok (.ifCond .ne 7, 3) := by decide +kernel
theorem dX9_howMany_7 : decode cX9_howMany 7 = .ok (.ldc2_w 177, 3) := by decide +kernel
theorem dX9_howMany_10 : decode cX9_howMany 10 = .ok (.lreturn, 1) := by decide +kernel
theorem dX9_howMany_11 : decode cX9_howMany 11 = .ok (.aload_n 0, 1) := by decide +kernel
theorem dX9_howMany_12 : decode cX9_howMany 12 = .ok (.invokevirtual 179, 3) := by decide +kernel
theorem dX9_howMany_15 : decode cX9_howMany 15 = .ok (.aload_n 0, 1) := by decide +kernel
theorem dX9_howMany_16 : decode cX9_howMany 16 = .ok (.getfield 62, 3) := by decide +kernel
theorem dX9_howMany_19 : decode cX9_howMany 19 = .ok (.iload_n 1, 1) := by decide +kernel
theorem dX9_howMany_20 : decode cX9_howMany 20 = .ok (.laload, 1) := by decide +kernel
theorem dX9_howMany_21 : decode cX9_howMany 21 = .ok (.lreturn, 1) := by decide +kernel
set_option maxRecDepth 20000 in
theorem ggX9_overlaps_X1_restart : GoodIn wsX9_overlaps wsX1_restart := goodIn_r _ [7, 8, 84, 85, 86, 87, 88] (by decide +kernel) (by decide +kernel)
set_option maxRecDepth 20000 in
theorem gX9_overlaps_X1_restart : GoodIn wsX9_overlaps (wsV RX9 182 RX1 yX1_restart wsX1_restart) := goodIn_app (goodIn_of _ (by decide +kernel)) ggX9_overlaps_X1_restart
set_option maxRecDepth 20000 in
theorem ggX9_overlaps_X1_next : GoodIn wsX9_overlaps wsX1_next := goodIn_r _ [12, 8, 13, 14, 15, 16, 17, 18, 19, 20, 6, 21, 22, 23, 24, 25, 26, 27, 28, 29, 30, 31, 32, 33, 34, 35, 36, 37, 38, 39, 40, 41, 42, 43, 44, 45, 46, 47, 48, 49, 50, 51, 52, 53, 54, 55, 56, 57, 58, 59, 60, 61, 62, 63, 64, 65, 66, 67, 68, 69, 84, 85, 86, 87, 88, 89, 90, 91, 92, 93, 94, 95, 96, 97] (by decide +kernel) (by decide +kernel)
set_option maxRecDepth 20000 in
theorem gX9_overlaps_X1_next : GoodIn wsX9_overlaps (wsV RX9 185 RX1 yX1_next wsX1_next) := goodIn_app (goodIn_of _ (by decide +kernel)) ggX9_overlaps_X1_next
theorem dX9_overlaps_0 : decode cX9_overlaps 0 = .ok (.iconst 0, 1) := by decide +kernel
theorem dX9_overlaps_1 : decode cX9_overlaps 1 = .ok (.istore_n 1, 1) := by decide +kernel
theorem dX9_overlaps_2 : decode cX9_overlaps 2 = .ok (.aload_n 0, 1) := by decide +kernel
theorem dX9_overlaps_3 : decode cX9_overlaps 3 = .ok (.getfield 44, 3) := by decide +kernel
theorem dX9_overlaps_6 : decode cX9_overlaps 6 = .ok (.invokevirtual 182, 3) := by decide +kernel
theorem dX9_overlaps_9 : decode cX9_overlaps 9 = .ok (.iconst 0, 1) := by decide +kernel
theorem dX9_overlaps_10 : decode cX9_overlaps 10 = .ok (.istore_n 2, 1) := by decide +kernel
theorem dX9_overlaps_11 : decode cX9_overlaps 11 = .ok (.iload_n 2, 1) := by decide +kernel
theorem dX9_overlaps_12 : decode cX9_overlaps 12 = .ok (.sipush 832, 3) := by decide +kernel
theorem dX9_overlaps_15 : decode cX9_overlaps 15 = .ok (.if_icmp .ge 26, 3) := by decide +kernel
theorem dX9_overlaps_18 : decode cX9_overlaps 18 = .ok (.aload_n 0, 1) := by decide +kernel
theorem dX9_overlaps_19 : decode cX9_overlaps 19 = .ok (.getfield 44, 3) := by decide +kernel
theorem dX9_overlaps_22 : decode cX9_overlaps 22 = .ok (.aload_n 0, 1) := by decide +kernel
theorem dX9_overlaps_23 : decode cX9_overlaps 23 = .ok (.getfield 10, 3) := by decide +kernel
theorem dX9_overlaps_26 : decode cX9_overlaps 26 = .ok (.invokevirtual 185, 3) := by decide +kernel
theorem dX9_overlaps_29 : decode cX9_overlaps 29 = .ok (.ifCond .eq 12, 3) := by decide +kernel
theorem dX9_overlaps_32 : decode cX9_overlaps 32 = .ok (.iinc 1 1, 3) := by decide +kernel
theorem dX9_overlaps_35 : decode cX9_overlaps 35 = .ok (.iinc 2 1, 3) := by decide +kernel
theorem dX9_overlaps_38 : decode cX9_overlaps 38 = .ok (.goto (-27), 3) := by decide +kernel
theorem dX9_overlaps_41 : decode cX9_overlaps 41 = .ok (.iload_n 1, 1) := by decide +kernel
theorem dX9_overlaps_42 : decode cX9_overlaps 42 = .ok (.ireturn, 1) := by decide +kernel
set_option maxRecDepth 20000 in
theorem ggX9_overlap_X9_isRow : GoodIn wsX9_overlap wsX9_isRow := goodIn_r _ [10] (by decide +kernel) (by decide +kernel)
set_option maxRecDepth 20000 in
theorem gX9_overlap_X9_isRow : GoodIn wsX9_overlap (va_wsS RX9 83 yX9_isRow wsX9_isRow) := goodIn_app (goodIn_of _ (by decide +kernel)) ggX9_overlap_X9_isRow
set_option maxRecDepth 20000 in
theorem ggX9_overlap_X1_restart : GoodIn wsX9_overlap wsX1_restart := goodIn_r _ [15, 16, 102, 103, 104, 105, 106] (by decide +kernel) (by decide +kernel)
set_option maxRecDepth 20000 in
theorem gX9_overlap_X1_restart : GoodIn wsX9_overlap (wsV RX9 182 RX1 yX1_restart wsX1_restart) := goodIn_app (goodIn_of _ (by decide +kernel)) ggX9_overlap_X1_restart
set_option maxRecDepth 20000 in
theorem ggX9_overlap_X1_next : GoodIn wsX9_overlap wsX1_next := goodIn_r _ [20, 16, 21, 22, 23, 24, 25, 26, 27, 28, 14, 29, 30, 31, 32, 33, 34, 35, 36, 37, 38, 39, 40, 41, 42, 43, 44, 45, 46, 47, 48, 49, 50, 51, 52, 53, 54, 55, 56, 57, 58, 59, 60, 61, 62, 63, 64, 65, 66, 67, 68, 69, 70, 71, 72, 73, 74, 75, 76, 77, 102, 103, 104, 105, 106, 107, 108, 109, 110, 111, 112, 113, 114, 115] (by decide +kernel) (by decide +kernel)
set_option maxRecDepth 20000 in
theorem gX9_overlap_X1_next : GoodIn wsX9_overlap (wsV RX9 185 RX1 yX1_next wsX1_next) := goodIn_app (goodIn_of _ (by decide +kernel)) ggX9_overlap_X1_next
set_option maxRecDepth 20000 in
theorem ggX9_overlap_X9_bring : GoodIn wsX9_overlap wsX9_bring := goodIn_r _ [81, 82, 83, 84, 85, 86, 46, 87, 53, 48, 54, 55, 56, 57, 88, 89, 90, 91, 92, 93, 94, 95, 96, 97, 98, 99, 100, 101, 114, 115] (by decide +kernel) (by decide +kernel)
set_option maxRecDepth 20000 in
theorem gX9_overlap_X9_bring : GoodIn wsX9_overlap (wsV RX9 128 RX9 yX9_bring wsX9_bring) := goodIn_app (goodIn_of _ (by decide +kernel)) ggX9_overlap_X9_bring
theorem dX9_overlap_0 : decode cX9_overlap 0 = .ok (.iload_n 1, 1) := by decide +kernel
theorem dX9_overlap_1 : decode cX9_overlap 1 = .ok (.ifCond .lt 10, 3) := by decide +kernel
theorem dX9_overlap_4 : decode cX9_overlap 4 = .ok (.iload_n 2, 1) := by decide +kernel
theorem dX9_overlap_5 : decode cX9_overlap 5 = .ok (.invokestatic 83, 3) := by decide +kernel
theorem dX9_overlap_8 : decode cX9_overlap 8 = .ok (.ifCond .ne 6, 3) := by decide +kernel
theorem dX9_overlap_11 : decode cX9_overlap 11 = .ok (.bipush (-2), 2) := by decide +kernel
theorem dX9_overlap_13 : decode cX9_overlap 13 = .ok (.ireturn, 1) := by decide +kernel
theorem dX9_overlap_14 : decode cX9_overlap 14 = .ok (.aload_n 0, 1) := by decide +kernel
theorem dX9_overlap_15 : decode cX9_overlap 15 = .ok (.getfield 44, 3) := by decide +kernel
theorem dX9_overlap_18 : decode cX9_overlap 18 = .ok (.invokevirtual 182, 3) := by decide +kernel
theorem dX9_overlap_21 : decode cX9_overlap 21 = .ok (.iconst 0, 1) := by decide +kernel
theorem dX9_overlap_22 : decode cX9_overlap 22 = .ok (.istore_n 3, 1) := by decide +kernel
theorem dX9_overlap_23 : decode cX9_overlap 23 = .ok (.iload_n 3, 1) := by decide +kernel
theorem dX9_overlap_24 : decode cX9_overlap 24 = .ok (.sipush 832, 3) := by decide +kernel
theorem dX9_overlap_27 : decode cX9_overlap 27 = .ok (.if_icmp .ge 72, 3) := by decide +kernel
theorem dX9_overlap_30 : decode cX9_overlap 30 = .ok (.aload_n 0, 1) := by decide +kernel
theorem dX9_overlap_31 : decode cX9_overlap 31 = .ok (.getfield 44, 3) := by decide +kernel
theorem dX9_overlap_34 : decode cX9_overlap 34 = .ok (.aload_n 0, 1) := by decide +kernel
theorem dX9_overlap_35 : decode cX9_overlap 35 = .ok (.getfield 10, 3) := by decide +kernel
theorem dX9_overlap_38 : decode cX9_overlap 38 = .ok (.invokevirtual 185, 3) := by decide +kernel
theorem dX9_overlap_41 : decode cX9_overlap 41 = .ok (.ifCond .eq 58, 3) := by decide +kernel
theorem dX9_overlap_44 : decode cX9_overlap 44 = .ok (.iload_n 3, 1) := by decide +kernel
theorem dX9_overlap_45 : decode cX9_overlap 45 = .ok (.iload_n 1, 1) := by decide +kernel
theorem dX9_overlap_46 : decode cX9_overlap 46 = .ok (.if_icmp .ne 47, 3) := by decide +kernel
theorem dX9_overlap_49 : decode cX9_overlap 49 = .ok (.aload_n 0, 1) := by decide +kernel
theorem dX9_overlap_50 : decode cX9_overlap 50 = .ok (.aload_n 0, 1) := by decide +kernel
theorem dX9_overlap_51 : decode cX9_overlap 51 = .ok (.getfield 44, 3) := by decide +kernel
theorem dX9_overlap_54 : decode cX9_overlap 54 = .ok (.getfield 189, 3) := by decide +kernel
theorem dX9_overlap_57 : decode cX9_overlap 57 = .ok (.iload_n 2, 1) := by decide +kernel
theorem dX9_overlap_58 : decode cX9_overlap 58 = .ok (.invokevirtual 128, 3) := by decide +kernel
theorem dX9_overlap_61 : decode cX9_overlap 61 = .ok (.pop, 1) := by decide +kernel
theorem dX9_overlap_62 : decode cX9_overlap 62 = .ok (.sipush 1000, 3) := by decide +kernel
theorem dX9_overlap_65 : decode cX9_overlap 65 = .ok (.aload_n 0, 1) := by decide +kernel
theorem dX9_overlap_66 : decode cX9_overlap 66 = .ok (.getfield 44, 3) := by decide +kernel
theorem dX9_overlap_69 : decode cX9_overlap 69 = .ok (.getfield 192, 3) := by decide +kernel
theorem dX9_overlap_72 : decode cX9_overlap 72 = .ok (.imul, 1) := by decide +kernel
theorem dX9_overlap_73 : decode cX9_overlap 73 = .ok (.bipush 100, 2) := by decide +kernel
theorem dX9_overlap_75 : decode cX9_overlap 75 = .ok (.aload_n 0, 1) := by decide +kernel
theorem dX9_overlap_76 : decode cX9_overlap 76 = .ok (.getfield 44, 3) := by decide +kernel
theorem dX9_overlap_79 : decode cX9_overlap 79 = .ok (.getfield 195, 3) := by decide +kernel
theorem dX9_overlap_82 : decode cX9_overlap 82 = .ok (.imul, 1) := by decide +kernel
theorem dX9_overlap_83 : decode cX9_overlap 83 = .ok (.iadd, 1) := by decide +kernel
theorem dX9_overlap_84 : decode cX9_overlap 84 = .ok (.aload_n 0, 1) := by decide +kernel
theorem dX9_overlap_85 : decode cX9_overlap 85 = .ok (.getfield 44, 3) := by decide +kernel
theorem dX9_overlap_88 : decode cX9_overlap 88 = .ok (.getfield 198, 3) := by decide +kernel
theorem dX9_overlap_91 : decode cX9_overlap 91 = .ok (.iadd, 1) := by decide +kernel
theorem dX9_overlap_92 : decode cX9_overlap 92 = .ok (.ireturn, 1) := by decide +kernel
theorem dX9_overlap_93 : decode cX9_overlap 93 = .ok (.iinc 3 1, 3) := by decide +kernel
theorem dX9_overlap_96 : decode cX9_overlap 96 = .ok (.goto (-73), 3) := by decide +kernel
theorem dX9_overlap_99 : decode cX9_overlap 99 = .ok (.iconst (-1), 1) := by decide +kernel
theorem dX9_overlap_100 : decode cX9_overlap 100 = .ok (.ireturn, 1) := by decide +kernel
set_option maxRecDepth 20000 in
theorem ggX9_closes_X1_restart : GoodIn wsX9_closes wsX1_restart := goodIn_r _ [10, 11, 150, 151, 152, 153, 154] (by decide +kernel) (by decide +kernel)
set_option maxRecDepth 20000 in
theorem gX9_closes_X1_restart : GoodIn wsX9_closes (wsV RX9 182 RX1 yX1_restart wsX1_restart) := goodIn_app (goodIn_of _ (by decide +kernel)) ggX9_closes_X1_restart
set_option maxRecDepth 20000 in
theorem ggX9_closes_X1_next : GoodIn wsX9_closes wsX1_next := goodIn_r _ [15, 11, 16, 17, 18, 19, 20, 21, 22, 23, 9, 24, 25, 26, 27, 28, 29, 30, 31, 32, 33, 34, 35, 36, 37, 38, 39, 40, 41, 42, 43, 44, 45, 46, 47, 48, 49, 50, 51, 52, 53, 54, 55, 56, 57, 58, 59, 60, 61, 62, 63, 64, 65, 66, 67, 68, 69, 70, 71, 72, 150, 151, 152, 153, 154, 155, 156, 157, 158, 159, 160, 161, 162, 163] (by decide +kernel) (by decide +kernel)
set_option maxRecDepth 20000 in
theorem gX9_closes_X1_next : GoodIn wsX9_closes (wsV RX9 185 RX1 yX1_next wsX1_next) := goodIn_app (goodIn_of _ (by decide +kernel)) ggX9_closes_X1_next
set_option maxRecDepth 20000 in
theorem ggX9_closes_X2_meet : GoodIn wsX9_closes wsX2_meet := goodIn_r _ [77, 78, 79, 80, 81, 82, 83, 84, 85, 86, 41, 87, 48, 43, 49, 50, 51, 52, 88, 89, 90, 76, 91, 92, 93, 94, 95, 96, 97, 98, 99, 100, 101, 102, 103, 68, 69, 30, 70, 71, 72, 104, 28, 29, 31, 32, 105, 106, 107, 108, 109, 110, 111, 112, 113, 114, 115, 116, 117, 118, 119, 120, 39, 40, 42, 121, 45, 46, 47, 122, 54, 55, 56, 123, 124, 125, 126, 127, 128, 129, 130, 131, 132, 133, 134, 135, 164, 165, 166, 167, 168, 150, 151, 152, 153, 154, 162, 163, 155, 156, 157, 158, 159, 160, 161, 169] (by decide +kernel) (by decide +kernel)
set_option maxRecDepth 20000 in
theorem gX9_closes_X2_meet : GoodIn wsX9_closes (wsV RX9 205 RX2 yX2_meet wsX2_meet) := goodIn_app (goodIn_of _ (by decide +kernel)) ggX9_closes_X2_meet
theorem dX9_closes_0 : decode cX9_closes 0 = .ok (.aload_n 0, 1) := by decide +kernel
theorem dX9_closes_1 : decode cX9_closes 1 = .ok (.getfield 201, 3) := by decide +kernel
theorem dX9_closes_4 : decode cX9_closes 4 = .ok (.ifCond .eq 8, 3) := by decide +kernel
theorem dX9_closes_7 : decode cX9_closes 7 = .ok (.aload_n 0, 1) := by decide +kernel
theorem dX9_closes_8 : decode cX9_closes 8 = .ok (.getfield 69, 3) := by decide +kernel
theorem dX9_closes_11 : decode cX9_closes 11 = .ok (.ireturn, 1) := by decide +kernel
theorem dX9_closes_12 : decode cX9_closes 12 = .ok (.aload_n 0, 1) := by decide +kernel
theorem dX9_closes_13 : decode cX9_closes 13 = .ok (.iconst (-1), 1) := by decide +kernel
theorem dX9_closes_14 : decode cX9_closes 14 = .ok (.putfield 69, 3) := by decide +kernel
theorem dX9_closes_17 : decode cX9_closes 17 = .ok (.aload_n 0, 1) := by decide +kernel
theorem dX9_closes_18 : decode cX9_closes 18 = .ok (.iconst 1, 1) := by decide +kernel
theorem dX9_closes_19 : decode cX9_closes 19 = .ok (.putfield 201, 3) := by decide +kernel
theorem dX9_closes_22 : decode cX9_closes 22 = .ok (.aload_n 0, 1) := by decide +kernel
theorem dX9_closes_23 : decode cX9_closes 23 = .ok (.getfield 44, 3) := by decide +kernel
theorem dX9_closes_26 : decode cX9_closes 26 = .ok (.invokevirtual 182, 3) := by decide +kernel
theorem dX9_closes_29 : decode cX9_closes 29 = .ok (.iconst 0, 1) := by decide +kernel
theorem dX9_closes_30 : decode cX9_closes 30 = .ok (.istore_n 1, 1) := by decide +kernel
theorem dX9_closes_31 : decode cX9_closes 31 = .ok (.iload_n 1, 1) := by decide +kernel
theorem dX9_closes_32 : decode cX9_closes 32 = .ok (.sipush 832, 3) := by decide +kernel
theorem dX9_closes_35 : decode cX9_closes 35 = .ok (.if_icmp .ge 71, 3) := by decide +kernel
theorem dX9_closes_38 : decode cX9_closes 38 = .ok (.aload_n 0, 1) := by decide +kernel
theorem dX9_closes_39 : decode cX9_closes 39 = .ok (.getfield 69, 3) := by decide +kernel
theorem dX9_closes_42 : decode cX9_closes 42 = .ok (.iconst (-1), 1) := by decide +kernel
theorem dX9_closes_43 : decode cX9_closes 43 = .ok (.if_icmp .ne 63, 3) := by decide +kernel
theorem dX9_closes_46 : decode cX9_closes 46 = .ok (.aload_n 0, 1) := by decide +kernel
theorem dX9_closes_47 : decode cX9_closes 47 = .ok (.getfield 44, 3) := by decide +kernel
theorem dX9_closes_50 : decode cX9_closes 50 = .ok (.aload_n 0, 1) := by decide +kernel
theorem dX9_closes_51 : decode cX9_closes 51 = .ok (.getfield 10, 3) := by decide +kernel
theorem dX9_closes_54 : decode cX9_closes 54 = .ok (.invokevirtual 185, 3) := by decide +kernel
theorem dX9_closes_57 : decode cX9_closes 57 = .ok (.ifCond .eq 49, 3) := by decide +kernel
theorem dX9_closes_60 : decode cX9_closes 60 = .ok (.aload_n 0, 1) := by decide +kernel
theorem dX9_closes_61 : decode cX9_closes 61 = .ok (.getfield 37, 3) := by decide +kernel
theorem dX9_closes_64 : decode cX9_closes 64 = .ok (.aload_n 0, 1) := by decide +kernel
theorem dX9_closes_65 : decode cX9_closes 65 = .ok (.getfield 10, 3) := by decide +kernel
theorem dX9_closes_68 : decode cX9_closes 68 = .ok (.aload_n 0, 1) := by decide +kernel
theorem dX9_closes_69 : decode cX9_closes 69 = .ok (.getfield 44, 3) := by decide +kernel
theorem dX9_closes_72 : decode cX9_closes 72 = .ok (.invokevirtual 205, 3) := by decide +kernel
theorem dX9_closes_75 : decode cX9_closes 75 = .ok (.istore_n 2, 1) := by decide +kernel
theorem dX9_closes_76 : decode cX9_closes 76 = .ok (.iload_n 2, 1) := by decide +kernel
theorem dX9_closes_77 : decode cX9_closes 77 = .ok (.bipush (-5), 2) := by decide +kernel
theorem dX9_closes_79 : decode cX9_closes 79 = .ok (.if_icmp .ne 12, 3) := by decide +kernel
theorem dX9_closes_82 : decode cX9_closes 82 = .ok (.aload_n 0, 1) := by decide +kernel
theorem dX9_closes_83 : decode cX9_closes 83 = .ok (.bipush (-5), 2) := by decide +kernel
theorem dX9_closes_85 : decode cX9_closes 85 = .ok (.putfield 69, 3) := by decide +kernel
theorem dX9_closes_88 : decode cX9_closes 88 = .ok (.goto 12, 3) := by decide +kernel
theorem dX9_closes_91 : decode cX9_closes 91 = .ok (.iload_n 2, 1) := by decide +kernel
theorem dX9_closes_92 : decode cX9_closes 92 = .ok (.ifCond .ne 8, 3) := by decide +kernel
theorem dX9_closes_95 : decode cX9_closes 95 = .ok (.aload_n 0, 1) := by decide +kernel
theorem dX9_closes_96 : decode cX9_closes 96 = .ok (.iload_n 1, 1) := by decide +kernel
theorem dX9_closes_97 : decode cX9_closes 97 = .ok (.putfield 69, 3) := by decide +kernel
theorem dX9_closes_100 : decode cX9_closes 100 = .ok (.iinc 1 1, 3) := by decide +kernel
theorem dX9_closes_103 : decode cX9_closes 103 = .ok (.goto (-72), 3) := by decide +kernel
theorem dX9_closes_106 : decode cX9_closes 106 = .ok (.aload_n 0, 1) := by decide +kernel
theorem dX9_closes_107 : decode cX9_closes 107 = .ok (.getfield 69, 3) := by decide +kernel
theorem dX9_closes_110 : decode cX9_closes 110 = .ok (.ireturn, 1) := by decide +kernel
set_option maxRecDepth 20000 in
theorem ggX9_turned_X9_isLeafNumber : GoodIn wsX9_turned wsX9_isLeafNumber := goodIn_r _ [8] (by decide +kernel) (by decide +kernel)
set_option maxRecDepth 20000 in
theorem gX9_turned_X9_isLeafNumber : GoodIn wsX9_turned (va_wsS RX9 174 yX9_isLeafNumber wsX9_isLeafNumber) := goodIn_app (goodIn_of _ (by decide +kernel)) ggX9_turned_X9_isLeafNumber
set_option maxRecDepth 20000 in
theorem ggX9_turned_X9_learnMany : GoodIn wsX9_turned wsX9_learnMany := goodIn_r _ [12, 13, 14, 15, 3, 16, 17, 18, 19, 20, 21, 22, 23, 24, 25, 26, 27, 28, 29, 30, 31, 32, 33, 34, 35, 36, 37, 38, 39, 40, 41, 42, 43, 44, 45, 46, 47, 48, 49, 50, 51, 52, 53, 54, 55, 56, 57, 58, 59, 60, 61, 62, 63, 64, 65, 66, 67, 68, 69, 70, 71, 72, 73, 74, 75, 76, 77, 78, 79, 80, 81, 82, 83, 84, 85, 86, 87, 88, 89, 90, 91, 92, 93, 94, 95, 96, 97, 98, 99, 100, 101, 102, 103, 104, 105, 106, 107, 108, 109, 110, 111, 112, 113, 114, 115, 116, 117, 118, 119, 120, 121, 122, 123, 124, 125, 137, 138, 139, 140, 141, 142, 143, 144, 145, 146, 147, 148, 149, 150, 153, 154, 155, 156, 157, 158, 159, 160, 161, 162, 163, 164, 165, 166, 167, 168, 169, 170] (by decide +kernel) (by decide +kernel)
set_option maxRecDepth 20000 in
theorem gX9_turned_X9_learnMany : GoodIn wsX9_turned (wsV RX9 179 RX9 yX9_learnMany wsX9_learnMany) := goodIn_app (goodIn_of _ (by decide +kernel)) ggX9_turned_X9_learnMany
set_option maxRecDepth 20000 in
theorem ggX9_turned_X5_turn : GoodIn wsX9_turned wsX5_turn := goodIn_r _ [130, 131, 132, 133, 134, 135, 129, 136, 151, 152] (by decide +kernel) (by decide +kernel)
set_option maxRecDepth 20000 in
theorem gX9_turned_X5_turn : GoodIn wsX9_turned (wsV RX9 209 RX5 yX5_turn wsX5_turn) := goodIn_app (goodIn_of _ (by decide +kernel)) ggX9_turned_X5_turn
theorem dX9_turned_0 : decode cX9_turned 0 = .ok (.iload_n 1, 1) := by decide +kernel
theorem dX9_turned_1 : decode cX9_turned 1 = .ok (.invokestatic 174, 3) := by decide +kernel
theorem dX9_turned_4 : decode cX9_turned 4 = .ok (.ifCond .ne 7, 3) := by decide +kernel
theorem dX9_turned_7 : decode cX9_turned 7 = .ok (.ldc2_w 177, 3) := by decide +kernel
theorem dX9_turned_10 : decode cX9_turned 10 = .ok (.lreturn, 1) := by decide +kernel
theorem dX9_turned_11 : decode cX9_turned 11 = .ok (.aload_n 0, 1) := by decide +kernel
theorem dX9_turned_12 : decode cX9_turned 12 = .ok (.invokevirtual 179, 3) := by decide +kernel
theorem dX9_turned_15 : decode cX9_turned 15 = .ok (.aload_n 0, 1) := by decide +kernel
theorem dX9_turned_16 : decode cX9_turned 16 = .ok (.getfield 58, 3) := by decide +kernel
theorem dX9_turned_19 : decode cX9_turned 19 = .ok (.aload_n 0, 1) := by decide +kernel
theorem dX9_turned_20 : decode cX9_turned 20 = .ok (.getfield 62, 3) := by decide +kernel
theorem dX9_turned_23 : decode cX9_turned 23 = .ok (.invokevirtual 209, 3) := by decide +kernel
theorem dX9_turned_26 : decode cX9_turned 26 = .ok (.aload_n 0, 1) := by decide +kernel
theorem dX9_turned_27 : decode cX9_turned 27 = .ok (.getfield 58, 3) := by decide +kernel
theorem dX9_turned_30 : decode cX9_turned 30 = .ok (.getfield 213, 3) := by decide +kernel
theorem dX9_turned_33 : decode cX9_turned 33 = .ok (.iload_n 1, 1) := by decide +kernel
theorem dX9_turned_34 : decode cX9_turned 34 = .ok (.laload, 1) := by decide +kernel
theorem dX9_turned_35 : decode cX9_turned 35 = .ok (.lreturn, 1) := by decide +kernel
end
section
set_option maxRecDepth 20000 in
theorem ggX9_dual_X9_isLeafNumber : GoodIn wsX9_dual wsX9_isLeafNumber := goodIn_r _ [8] (by decide +kernel) (by decide +kernel)
set_option maxRecDepth 20000 in
theorem gX9_dual_X9_isLeafNumber : GoodIn wsX9_dual (va_wsS RX9 174 yX9_isLeafNumber wsX9_isLeafNumber) := goodIn_app (goodIn_of _ (by decide +kernel)) ggX9_dual_X9_isLeafNumber
set_option maxRecDepth 20000 in
theorem ggX9_dual_X8_hasDual : GoodIn wsX9_dual wsX8_hasDual := goodIn_r _ [13, 14, 15, 16, 17, 18, 19, 20, 21, 22, 23, 24, 25, 26, 27, 28, 29, 30, 142, 143, 144, 145, 146, 147, 148, 149, 150] (by decide +kernel) (by decide +kernel)
set_option maxRecDepth 20000 in
theorem gX9_dual_X8_hasDual : GoodIn wsX9_dual (wsV RX9 216 RX8 yX8_hasDual wsX8_hasDual) := goodIn_app (goodIn_of _ (by decide +kernel)) ggX9_dual_X8_hasDual
set_option maxRecDepth 20000 in
theorem ggX9_dual_X9_learnDual : GoodIn wsX9_dual wsX9_learnDual := goodIn_r _ [34, 35, 36, 2, 4, 37, 38, 39, 40, 41, 42, 43, 44, 45, 46, 47, 48, 49, 50, 51, 52, 53, 54, 55, 56, 57, 58, 59, 60, 61, 12, 62, 16, 17, 19, 63, 64, 65, 66, 67, 68, 69, 70, 71, 72, 73, 74, 75, 76, 77, 78, 79, 80, 81, 82, 83, 84, 85, 86, 87, 88, 89, 90, 91, 92, 93, 94, 95, 96, 97, 98, 99, 100, 101, 102, 103, 104, 105, 106, 107, 14, 15, 108, 109, 110, 111, 112, 113, 114, 115, 116, 117, 118, 119, 120, 121, 122, 123, 124, 125, 126, 127, 128, 129, 130, 131, 132, 133, 134, 135, 136, 137, 138, 139, 140, 141, 142, 143, 144, 145, 151, 152, 153, 154, 155, 156, 146, 147, 148, 149, 150, 157, 158, 159] (by decide +kernel) (by decide +kernel)
set_option maxRecDepth 20000 in
theorem gX9_dual_X9_learnDual : GoodIn wsX9_dual (wsV RX9 222 RX9 yX9_learnDual wsX9_learnDual) := goodIn_app (goodIn_of _ (by decide +kernel)) ggX9_dual_X9_learnDual
theorem dX9_dual_0 : decode cX9_dual 0 = .ok (.iload_n 1, 1) := by decide +kernel
theorem dX9_dual_1 : decode cX9_dual 1 = .ok (.invokestatic 174, 3) := by decide +kernel
theorem dX9_dual_4 : decode cX9_dual 4 = .ok (.ifCond .ne 7, 3) := by decide +kernel
theorem dX9_dual_7 : decode cX9_dual 7 = .ok (.ldc2_w 177, 3) := by decide +kernel
theorem dX9_dual_10 : decode cX9_dual 10 = .ok (.lreturn, 1) := by decide +kernel
theorem dX9_dual_11 : decode cX9_dual 11 = .ok (.aload_n 0, 1) := by decide +kernel
theorem dX9_dual_12 : decode cX9_dual 12 = .ok (.getfield 10, 3) := by decide +kernel
theorem dX9_dual_15 : decode cX9_dual 15 = .ok (.invokevirtual 216, 3) := by decide +kernel
theorem dX9_dual_18 : decode cX9_dual 18 = .ok (.ifCond .ne 7, 3) := by decide +kernel
theorem dX9_dual_21 : decode cX9_dual 21 = .ok (.ldc2_w 220, 3) := by decide +kernel
theorem dX9_dual_24 : decode cX9_dual 24 = .ok (.lreturn, 1) := by decide +kernel
theorem dX9_dual_25 : decode cX9_dual 25 = .ok (.aload_n 0, 1) := by decide +kernel
theorem dX9_dual_26 : decode cX9_dual 26 = .ok (.invokevirtual 222, 3) := by decide +kernel
theorem dX9_dual_29 : decode cX9_dual 29 = .ok (.aload_n 0, 1) := by decide +kernel
theorem dX9_dual_30 : decode cX9_dual 30 = .ok (.getfield 66, 3) := by decide +kernel
theorem dX9_dual_33 : decode cX9_dual 33 = .ok (.iload_n 1, 1) := by decide +kernel
theorem dX9_dual_34 : decode cX9_dual 34 = .ok (.laload, 1) := by decide +kernel
theorem dX9_dual_35 : decode cX9_dual 35 = .ok (.lreturn, 1) := by decide +kernel
set_option maxRecDepth 20000 in
theorem ggX9_count_X9_treeRows : GoodIn wsX9_count wsX9_treeRows := goodIn_r _ [8, 1, 9, 10, 11, 12, 13, 14, 15, 16, 17, 18, 19, 20, 21, 22, 23, 24, 25, 26, 27, 28, 29, 30, 38, 39, 40, 41, 42, 43, 44, 45, 46, 47, 48, 49, 50, 51, 56, 57, 52, 53, 54, 55] (by decide +kernel) (by decide +kernel)
set_option maxRecDepth 20000 in
theorem gX9_count_X9_treeRows : GoodIn wsX9_count (wsV RX9 225 RX9 yX9_treeRows wsX9_treeRows) := goodIn_app (goodIn_of _ (by decide +kernel)) ggX9_count_X9_treeRows
set_option maxRecDepth 20000 in
theorem ggX9_count_X8_rulesToNothing : GoodIn wsX9_count wsX8_rulesToNothing := goodIn_r _ [34, 35, 36, 37, 52, 53, 54, 55, 58, 59, 60] (by decide +kernel) (by decide +kernel)
set_option maxRecDepth 20000 in
theorem gX9_count_X8_rulesToNothing : GoodIn wsX9_count (wsV RX9 228 RX8 yX8_rulesToNothing wsX8_rulesToNothing) := goodIn_app (goodIn_of _ (by decide +kernel)) ggX9_count_X8_rulesToNothing
theorem dX9_count_0 : decode cX9_count 0 = .ok (.iload_n 1, 1) := by decide +kernel
theorem dX9_count_1 : decode cX9_count 1 = .ok (.ifCond .lt 8, 3) := by decide +kernel
theorem dX9_count_4 : decode cX9_count 4 = .ok (.iload_n 1, 1) := by decide +kernel
theorem dX9_count_5 : decode cX9_count 5 = .ok (.iconst 3, 1) := by decide +kernel
theorem dX9_count_6 : decode cX9_count 6 = .ok (.if_icmp .le 6, 3) := by decide +kernel
theorem dX9_count_9 : decode cX9_count 9 = .ok (.bipush (-2), 2) := by decide +kernel
theorem dX9_count_11 : decode cX9_count 11 = .ok (.ireturn, 1) := by decide +kernel
theorem dX9_count_12 : decode cX9_count 12 = .ok (.iload_n 1, 1) := by decide +kernel
theorem dX9_count_13 : decode cX9_count 13 = .ok (.ifCond .ne 11, 3) := by decide +kernel
theorem dX9_count_16 : decode cX9_count 16 = .ok (.aload_n 0, 1) := by decide +kernel
theorem dX9_count_17 : decode cX9_count 17 = .ok (.getfield 10, 3) := by decide +kernel
theorem dX9_count_20 : decode cX9_count 20 = .ok (.getfield 73, 3) := by decide +kernel
theorem dX9_count_23 : decode cX9_count 23 = .ok (.ireturn, 1) := by decide +kernel
theorem dX9_count_24 : decode cX9_count 24 = .ok (.iload_n 1, 1) := by decide +kernel
theorem dX9_count_25 : decode cX9_count 25 = .ok (.iconst 1, 1) := by decide +kernel
theorem dX9_count_26 : decode cX9_count 26 = .ok (.if_icmp .ne 11, 3) := by decide +kernel
theorem dX9_count_29 : decode cX9_count 29 = .ok (.aload_n 0, 1) := by decide +kernel
theorem dX9_count_30 : decode cX9_count 30 = .ok (.getfield 10, 3) := by decide +kernel
theorem dX9_count_33 : decode cX9_count 33 = .ok (.getfield 138, 3) := by decide +kernel
theorem dX9_count_36 : decode cX9_count 36 = .ok (.ireturn, 1) := by decide +kernel
theorem dX9_count_37 : decode cX9_count 37 = .ok (.iload_n 1, 1) := by decide +kernel
theorem dX9_count_38 : decode cX9_count 38 = .ok (.iconst 2, 1) := by decide +kernel
theorem dX9_count_39 : decode cX9_count 39 = .ok (.if_icmp .ne 10, 3) := by decide +kernel
theorem dX9_count_42 : decode cX9_count 42 = .ok (.aload_n 0, 1) := by decide +kernel
theorem dX9_count_43 : decode cX9_count 43 = .ok (.invokevirtual 225, 3) := by decide +kernel
theorem dX9_count_46 : decode cX9_count 46 = .ok (.goto 10, 3) := by decide +kernel
theorem dX9_count_49 : decode cX9_count 49 = .ok (.aload_n 0, 1) := by decide +kernel
theorem dX9_count_50 : decode cX9_count 50 = .ok (.getfield 10, 3) := by decide +kernel
theorem dX9_count_53 : decode cX9_count 53 = .ok (.invokevirtual 228, 3) := by decide +kernel
theorem dX9_count_56 : decode cX9_count 56 = .ok (.ireturn, 1) := by decide +kernel
set_option maxRecDepth 20000 in
theorem ggX9_digest_X9_treeRows : GoodIn wsX9_digest wsX9_treeRows := goodIn_r _ [15, 3, 7, 16, 17, 18, 19, 20, 21, 22, 23, 24, 25, 26, 27, 28, 29, 30, 31, 32, 33, 34, 35, 36, 53, 54, 55, 56, 57, 58, 59, 60, 61, 62, 63, 64, 65, 66, 74, 75, 67, 68, 69, 70] (by decide +kernel) (by decide +kernel)
set_option maxRecDepth 20000 in
theorem gX9_digest_X9_treeRows : GoodIn wsX9_digest (wsV RX9 225 RX9 yX9_treeRows wsX9_treeRows) := goodIn_app (goodIn_of _ (by decide +kernel)) ggX9_digest_X9_treeRows
set_option maxRecDepth 20000 in
theorem ggX9_digest_X8_rulesToNothing : GoodIn wsX9_digest wsX8_rulesToNothing := goodIn_r _ [40, 41, 42, 43, 67, 68, 69, 70, 71, 72, 73] (by decide +kernel) (by decide +kernel)
set_option maxRecDepth 20000 in
theorem gX9_digest_X8_rulesToNothing : GoodIn wsX9_digest (wsV RX9 228 RX8 yX8_rulesToNothing wsX8_rulesToNothing) := goodIn_app (goodIn_of _ (by decide +kernel)) ggX9_digest_X8_rulesToNothing
set_option maxRecDepth 20000 in
theorem ggX9_digest_X3_digestedAfter : GoodIn wsX9_digest wsX3_digestedAfter := goodIn_r _ [48, 49, 50, 51, 52, 74, 75] (by decide +kernel) (by decide +kernel)
set_option maxRecDepth 20000 in
theorem gX9_digest_X3_digestedAfter : GoodIn wsX9_digest (wsV RX9 238 RX3 yX3_digestedAfter wsX3_digestedAfter) := goodIn_app (goodIn_of _ (by decide +kernel)) ggX9_digest_X3_digestedAfter
theorem dX9_digest_0 : decode cX9_digest 0 = .ok (.ldc2_w 231, 3) := by decide +kernel
theorem dX9_digest_3 : decode cX9_digest 3 = .ok (.lstore_n 1, 1) := by decide +kernel
theorem dX9_digest_4 : decode cX9_digest 4 = .ok (.ldc2_w 233, 3) := by decide +kernel
theorem dX9_digest_7 : decode cX9_digest 7 = .ok (.lload_n 1, 1) := by decide +kernel
theorem dX9_digest_8 : decode cX9_digest 8 = .ok (.lmul, 1) := by decide +kernel
theorem dX9_digest_9 : decode cX9_digest 9 = .ok (.aload_n 0, 1) := by decide +kernel
theorem dX9_digest_10 : decode cX9_digest 10 = .ok (.getfield 10, 3) := by decide +kernel
theorem dX9_digest_13 : decode cX9_digest 13 = .ok (.getfield 73, 3) := by decide +kernel
theorem dX9_digest_16 : decode cX9_digest 16 = .ok (.i2l, 1) := by decide +kernel
theorem dX9_digest_17 : decode cX9_digest 17 = .ok (.ladd, 1) := by decide +kernel
theorem dX9_digest_18 : decode cX9_digest 18 = .ok (.lstore_n 1, 1) := by decide +kernel
theorem dX9_digest_19 : decode cX9_digest 19 = .ok (.ldc2_w 233, 3) := by decide +kernel
theorem dX9_digest_22 : decode cX9_digest 22 = .ok (.lload_n 1, 1) := by decide +kernel
theorem dX9_digest_23 : decode cX9_digest 23 = .ok (.lmul, 1) := by decide +kernel
theorem dX9_digest_24 : decode cX9_digest 24 = .ok (.aload_n 0, 1) := by decide +kernel
theorem dX9_digest_25 : decode cX9_digest 25 = .ok (.getfield 10, 3) := by decide +kernel
theorem dX9_digest_28 : decode cX9_digest 28 = .ok (.getfield 138, 3) := by decide +kernel
theorem dX9_digest_31 : decode cX9_digest 31 = .ok (.i2l, 1) := by decide +kernel
theorem dX9_digest_32 : decode cX9_digest 32 = .ok (.ladd, 1) := by decide +kernel
theorem dX9_digest_33 : decode cX9_digest 33 = .ok (.lstore_n 1, 1) := by decide +kernel
theorem dX9_digest_34 : decode cX9_digest 34 = .ok (.ldc2_w 233, 3) := by decide +kernel
theorem dX9_digest_37 : decode cX9_digest 37 = .ok (.lload_n 1, 1) := by decide +kernel
theorem dX9_digest_38 : decode cX9_digest 38 = .ok (.lmul, 1) := by decide +kernel
theorem dX9_digest_39 : decode cX9_digest 39 = .ok (.aload_n 0, 1) := by decide +kernel
theorem dX9_digest_40 : decode cX9_digest 40 = .ok (.invokevirtual 225, 3) := by decide +kernel
theorem dX9_digest_43 : decode cX9_digest 43 = .ok (.i2l, 1) := by decide +kernel
theorem dX9_digest_44 : decode cX9_digest 44 = .ok (.ladd, 1) := by decide +kernel
theorem dX9_digest_45 : decode cX9_digest 45 = .ok (.lstore_n 1, 1) := by decide +kernel
theorem dX9_digest_46 : decode cX9_digest 46 = .ok (.ldc2_w 233, 3) := by decide +kernel
theorem dX9_digest_49 : decode cX9_digest 49 = .ok (.lload_n 1, 1) := by decide +kernel
theorem dX9_digest_50 : decode cX9_digest 50 = .ok (.lmul, 1) := by decide +kernel
theorem dX9_digest_51 : decode cX9_digest 51 = .ok (.aload_n 0, 1) := by decide +kernel
theorem dX9_digest_52 : decode cX9_digest 52 = .ok (.getfield 10, 3) := by decide +kernel
theorem dX9_digest_55 : decode cX9_digest 55 = .ok (.invokevirtual 228, 3) := by decide +kernel
theorem dX9_digest_58 : decode cX9_digest 58 = .ok (.i2l, 1) := by decide +kernel
theorem dX9_digest_59 : decode cX9_digest 59 = .ok (.ladd, 1) := by decide +kernel
theorem dX9_digest_60 : decode cX9_digest 60 = .ok (.lstore_n 1, 1) := by decide +kernel
theorem dX9_digest_61 : decode cX9_digest 61 = .ok (.iconst 0, 1) := by decide +kernel
theorem dX9_digest_62 : decode cX9_digest 62 = .ok (.istore_n 3, 1) := by decide +kernel
theorem dX9_digest_63 : decode cX9_digest 63 = .ok (.iload_n 3, 1) := by decide +kernel
theorem dX9_digest_64 : decode cX9_digest 64 = .ok (.aload_n 0, 1) := by decide +kernel
theorem dX9_digest_65 : decode cX9_digest 65 = .ok (.getfield 10, 3) := by decide +kernel
theorem dX9_digest_68 : decode cX9_digest 68 = .ok (.getfield 73, 3) := by decide +kernel
theorem dX9_digest_71 : decode cX9_digest 71 = .ok (.if_icmp .ge 26, 3) := by decide +kernel
theorem dX9_digest_74 : decode cX9_digest 74 = .ok (.ldc2_w 233, 3) := by decide +kernel
theorem dX9_digest_77 : decode cX9_digest 77 = .ok (.lload_n 1, 1) := by decide +kernel
theorem dX9_digest_78 : decode cX9_digest 78 = .ok (.lmul, 1) := by decide +kernel
theorem dX9_digest_79 : decode cX9_digest 79 = .ok (.aload_n 0, 1) := by decide +kernel
theorem dX9_digest_80 : decode cX9_digest 80 = .ok (.getfield 10, 3) := by decide +kernel
theorem dX9_digest_83 : decode cX9_digest 83 = .ok (.getfield 235, 3) := by decide +kernel
theorem dX9_digest_86 : decode cX9_digest 86 = .ok (.iload_n 3, 1) := by decide +kernel
theorem dX9_digest_87 : decode cX9_digest 87 = .ok (.iaload, 1) := by decide +kernel
theorem dX9_digest_88 : decode cX9_digest 88 = .ok (.i2l, 1) := by decide +kernel
theorem dX9_digest_89 : decode cX9_digest 89 = .ok (.ladd, 1) := by decide +kernel
theorem dX9_digest_90 : decode cX9_digest 90 = .ok (.lstore_n 1, 1) := by decide +kernel
theorem dX9_digest_91 : decode cX9_digest 91 = .ok (.iinc 3 1, 3) := by decide +kernel
theorem dX9_digest_94 : decode cX9_digest 94 = .ok (.goto (-31), 3) := by decide +kernel
theorem dX9_digest_97 : decode cX9_digest 97 = .ok (.iconst 0, 1) := by decide +kernel
theorem dX9_digest_98 : decode cX9_digest 98 = .ok (.istore_n 3, 1) := by decide +kernel
theorem dX9_digest_99 : decode cX9_digest 99 = .ok (.iload_n 3, 1) := by decide +kernel
theorem dX9_digest_100 : decode cX9_digest 100 = .ok (.bipush 10, 2) := by decide +kernel
theorem dX9_digest_102 : decode cX9_digest 102 = .ok (.if_icmp .ge 20, 3) := by decide +kernel
theorem dX9_digest_105 : decode cX9_digest 105 = .ok (.aload_n 0, 1) := by decide +kernel
theorem dX9_digest_106 : decode cX9_digest 106 = .ok (.getfield 18, 3) := by decide +kernel
theorem dX9_digest_109 : decode cX9_digest 109 = .ok (.iload_n 3, 1) := by decide +kernel
theorem dX9_digest_110 : decode cX9_digest 110 = .ok (.aaload, 1) := by decide +kernel
theorem dX9_digest_111 : decode cX9_digest 111 = .ok (.lload_n 1, 1) := by decide +kernel
theorem dX9_digest_112 : decode cX9_digest 112 = .ok (.invokevirtual 238, 3) := by decide +kernel
theorem dX9_digest_115 : decode cX9_digest 115 = .ok (.lstore_n 1, 1) := by decide +kernel
theorem dX9_digest_116 : decode cX9_digest 116 = .ok (.iinc 3 1, 3) := by decide +kernel
theorem dX9_digest_119 : decode cX9_digest 119 = .ok (.goto (-20), 3) := by decide +kernel
theorem dX9_digest_122 : decode cX9_digest 122 = .ok (.iconst 0, 1) := by decide +kernel
theorem dX9_digest_123 : decode cX9_digest 123 = .ok (.istore_n 3, 1) := by decide +kernel
theorem dX9_digest_124 : decode cX9_digest 124 = .ok (.iload_n 3, 1) := by decide +kernel
theorem dX9_digest_125 : decode cX9_digest 125 = .ok (.aload_n 0, 1) := by decide +kernel
theorem dX9_digest_126 : decode cX9_digest 126 = .ok (.getfield 10, 3) := by decide +kernel
theorem dX9_digest_129 : decode cX9_digest 129 = .ok (.getfield 138, 3) := by decide +kernel
theorem dX9_digest_132 : decode cX9_digest 132 = .ok (.if_icmp .ge 43, 3) := by decide +kernel
theorem dX9_digest_135 : decode cX9_digest 135 = .ok (.aload_n 0, 1) := by decide +kernel
theorem dX9_digest_136 : decode cX9_digest 136 = .ok (.getfield 10, 3) := by decide +kernel
theorem dX9_digest_139 : decode cX9_digest 139 = .ok (.getfield 148, 3) := by decide +kernel
theorem dX9_digest_142 : decode cX9_digest 142 = .ok (.iload_n 3, 1) := by decide +kernel
theorem dX9_digest_143 : decode cX9_digest 143 = .ok (.aaload, 1) := by decide +kernel
theorem dX9_digest_144 : decode cX9_digest 144 = .ok (.getfield 152, 3) := by decide +kernel
theorem dX9_digest_147 : decode cX9_digest 147 = .ok (.lload_n 1, 1) := by decide +kernel
theorem dX9_digest_148 : decode cX9_digest 148 = .ok (.invokevirtual 238, 3) := by decide +kernel
theorem dX9_digest_151 : decode cX9_digest 151 = .ok (.lstore_n 1, 1) := by decide +kernel
theorem dX9_digest_152 : decode cX9_digest 152 = .ok (.aload_n 0, 1) := by decide +kernel
theorem dX9_digest_153 : decode cX9_digest 153 = .ok (.getfield 10, 3) := by decide +kernel
theorem dX9_digest_156 : decode cX9_digest 156 = .ok (.getfield 148, 3) := by decide +kernel
theorem dX9_digest_159 : decode cX9_digest 159 = .ok (.iload_n 3, 1) := by decide +kernel
theorem dX9_digest_160 : decode cX9_digest 160 = .ok (.aaload, 1) := by decide +kernel
theorem dX9_digest_161 : decode cX9_digest 161 = .ok (.getfield 157, 3) := by decide +kernel
theorem dX9_digest_164 : decode cX9_digest 164 = .ok (.lload_n 1, 1) := by decide +kernel
theorem dX9_digest_165 : decode cX9_digest 165 = .ok (.invokevirtual 238, 3) := by decide +kernel
theorem dX9_digest_168 : decode cX9_digest 168 = .ok (.lstore_n 1, 1) := by decide +kernel
theorem dX9_digest_169 : decode cX9_digest 169 = .ok (.iinc 3 1, 3) := by decide +kernel
theorem dX9_digest_172 : decode cX9_digest 172 = .ok (.goto (-48), 3) := by decide +kernel
theorem dX9_digest_175 : decode cX9_digest 175 = .ok (.lload_n 1, 1) := by decide +kernel
theorem dX9_digest_176 : decode cX9_digest 176 = .ok (.lreturn, 1) := by decide +kernel
theorem dX9_isRow_0 : decode cX9_isRow 0 = .ok (.iload_n 0, 1) := by decide +kernel
theorem dX9_isRow_1 : decode cX9_isRow 1 = .ok (.ifCond .lt 13, 3) := by decide +kernel
theorem dX9_isRow_4 : decode cX9_isRow 4 = .ok (.iload_n 0, 1) := by decide +kernel
theorem dX9_isRow_5 : decode cX9_isRow 5 = .ok (.bipush 10, 2) := by decide +kernel
theorem dX9_isRow_7 : decode cX9_isRow 7 = .ok (.if_icmp .ge 7, 3) := by decide +kernel
theorem dX9_isRow_10 : decode cX9_isRow 10 = .ok (.iconst 1, 1) := by decide +kernel
theorem dX9_isRow_11 : decode cX9_isRow 11 = .ok (.goto 4, 3) := by decide +kernel
theorem dX9_isRow_14 : decode cX9_isRow 14 = .ok (.iconst 0, 1) := by decide +kernel
theorem dX9_isRow_15 : decode cX9_isRow 15 = .ok (.ireturn, 1) := by decide +kernel
theorem dX9_isLeafNumber_0 : decode cX9_isLeafNumber 0 = .ok (.iload_n 0, 1) := by decide +kernel
theorem dX9_isLeafNumber_1 : decode cX9_isLeafNumber 1 = .ok (.iconst 1, 1) := by decide +kernel
theorem dX9_isLeafNumber_2 : decode cX9_isLeafNumber 2 = .ok (.if_icmp .lt 13, 3) := by decide +kernel
theorem dX9_isLeafNumber_5 : decode cX9_isLeafNumber 5 = .ok (.iload_n 0, 1) := by decide +kernel
theorem dX9_isLeafNumber_6 : decode cX9_isLeafNumber 6 = .ok (.bipush 6, 2) := by decide +kernel
theorem dX9_isLeafNumber_8 : decode cX9_isLeafNumber 8 = .ok (.if_icmp .gt 7, 3) := by decide +kernel
theorem dX9_isLeafNumber_11 : decode cX9_isLeafNumber 11 = .ok (.iconst 1, 1) := by decide +kernel
theorem dX9_isLeafNumber_12 : decode cX9_isLeafNumber 12 = .ok (.goto 4, 3) := by decide +kernel
theorem dX9_isLeafNumber_15 : decode cX9_isLeafNumber 15 = .ok (.iconst 0, 1) := by decide +kernel
theorem dX9_isLeafNumber_16 : decode cX9_isLeafNumber 16 = .ok (.ireturn, 1) := by decide +kernel
set_option maxRecDepth 20000 in
theorem ggX9_isTreeRow_X9_isRow : GoodIn wsX9_isTreeRow wsX9_isRow := goodIn_r _ [6] (by decide +kernel) (by decide +kernel)
set_option maxRecDepth 20000 in
theorem gX9_isTreeRow_X9_isRow : GoodIn wsX9_isTreeRow (va_wsS RX9 83 yX9_isRow wsX9_isRow) := goodIn_app (goodIn_of _ (by decide +kernel)) ggX9_isTreeRow_X9_isRow
set_option maxRecDepth 20000 in
theorem ggX9_isTreeRow_X8_isTree : GoodIn wsX9_isTreeRow wsX8_isTree := goodIn_r _ [11, 12, 13, 14, 15, 10, 16, 17, 18, 19, 20, 21, 22, 23, 24, 25, 26, 27, 42, 43, 44, 45, 46, 47] (by decide +kernel) (by decide +kernel)
set_option maxRecDepth 20000 in
theorem gX9_isTreeRow_X8_isTree : GoodIn wsX9_isTreeRow (wsV RX9 103 RX8 yX8_isTree wsX8_isTree) := goodIn_app (goodIn_of _ (by decide +kernel)) ggX9_isTreeRow_X8_isTree
theorem dX9_isTreeRow_0 : decode cX9_isTreeRow 0 = .ok (.iload_n 1, 1) := by decide +kernel
theorem dX9_isTreeRow_1 : decode cX9_isTreeRow 1 = .ok (.invokestatic 83, 3) := by decide +kernel
theorem dX9_isTreeRow_4 : decode cX9_isTreeRow 4 = .ok (.ifCond .eq 23, 3) := by decide +kernel
theorem dX9_isTreeRow_7 : decode cX9_isTreeRow 7 = .ok (.aload_n 0, 1) := by decide +kernel
theorem dX9_isTreeRow_8 : decode cX9_isTreeRow 8 = .ok (.getfield 10, 3) := by decide +kernel
theorem dX9_isTreeRow_11 : decode cX9_isTreeRow 11 = .ok (.aload_n 0, 1) := by decide +kernel
theorem dX9_isTreeRow_12 : decode cX9_isTreeRow 12 = .ok (.getfield 18, 3) := by decide +kernel
theorem dX9_isTreeRow_15 : decode cX9_isTreeRow 15 = .ok (.iload_n 1, 1) := by decide +kernel
theorem dX9_isTreeRow_16 : decode cX9_isTreeRow 16 = .ok (.aaload, 1) := by decide +kernel
theorem dX9_isTreeRow_17 : decode cX9_isTreeRow 17 = .ok (.invokevirtual 103, 3) := by decide +kernel
theorem dX9_isTreeRow_20 : decode cX9_isTreeRow 20 = .ok (.ifCond .eq 7, 3) := by decide +kernel
theorem dX9_isTreeRow_23 : decode cX9_isTreeRow 23 = .ok (.iconst 1, 1) := by decide +kernel
theorem dX9_isTreeRow_24 : decode cX9_isTreeRow 24 = .ok (.goto 4, 3) := by decide +kernel
theorem dX9_isTreeRow_27 : decode cX9_isTreeRow 27 = .ok (.iconst 0, 1) := by decide +kernel
theorem dX9_isTreeRow_28 : decode cX9_isTreeRow 28 = .ok (.ireturn, 1) := by decide +kernel
set_option maxRecDepth 20000 in
theorem ggX9_isLeft_X9_isTreeRow : GoodIn wsX9_isLeft wsX9_isTreeRow := goodIn_r _ [6, 7, 1, 8, 9, 5, 10, 11, 12, 13, 14, 15, 16, 17, 18, 19, 20, 21, 22, 23, 24, 25, 26, 27, 28, 29, 30, 31, 43, 44, 45, 46, 47, 48, 49, 50, 51, 52, 53, 54, 55, 56, 57, 58, 59, 60, 61, 62] (by decide +kernel) (by decide +kernel)
set_option maxRecDepth 20000 in
theorem gX9_isLeft_X9_isTreeRow : GoodIn wsX9_isLeft (wsV RX9 118 RX9 yX9_isTreeRow wsX9_isTreeRow) := goodIn_app (goodIn_of _ (by decide +kernel)) ggX9_isLeft_X9_isTreeRow
set_option maxRecDepth 20000 in
theorem ggX9_isLeft_X3_size : GoodIn wsX9_isLeft wsX3_size := goodIn_r _ [36, 37, 38, 39, 40, 35, 41, 42, 57, 58] (by decide +kernel) (by decide +kernel)
set_option maxRecDepth 20000 in
theorem gX9_isLeft_X3_size : GoodIn wsX9_isLeft (wsV RX9 111 RX3 yX3_size wsX3_size) := goodIn_app (goodIn_of _ (by decide +kernel)) ggX9_isLeft_X3_size
theorem dX9_isLeft_0 : decode cX9_isLeft 0 = .ok (.aload_n 0, 1) := by decide +kernel
theorem dX9_isLeft_1 : decode cX9_isLeft 1 = .ok (.iload_n 1, 1) := by decide +kernel
theorem dX9_isLeft_2 : decode cX9_isLeft 2 = .ok (.invokevirtual 118, 3) := by decide +kernel
theorem dX9_isLeft_5 : decode cX9_isLeft 5 = .ok (.ifCond .eq 33, 3) := by decide +kernel
theorem dX9_isLeft_8 : decode cX9_isLeft 8 = .ok (.aload_n 0, 1) := by decide +kernel
theorem dX9_isLeft_9 : decode cX9_isLeft 9 = .ok (.getfield 18, 3) := by decide +kernel
theorem dX9_isLeft_12 : decode cX9_isLeft 12 = .ok (.iload_n 1, 1) := by decide +kernel
theorem dX9_isLeft_13 : decode cX9_isLeft 13 = .ok (.aaload, 1) := by decide +kernel
theorem dX9_isLeft_14 : decode cX9_isLeft 14 = .ok (.invokevirtual 111, 3) := by decide +kernel
theorem dX9_isLeft_17 : decode cX9_isLeft 17 = .ok (.iconst 1, 1) := by decide +kernel
theorem dX9_isLeft_18 : decode cX9_isLeft 18 = .ok (.if_icmp .lt 20, 3) := by decide +kernel
theorem dX9_isLeft_21 : decode cX9_isLeft 21 = .ok (.aload_n 0, 1) := by decide +kernel
theorem dX9_isLeft_22 : decode cX9_isLeft 22 = .ok (.getfield 18, 3) := by decide +kernel
theorem dX9_isLeft_25 : decode cX9_isLeft 25 = .ok (.iload_n 1, 1) := by decide +kernel
theorem dX9_isLeft_26 : decode cX9_isLeft 26 = .ok (.aaload, 1) := by decide +kernel
theorem dX9_isLeft_27 : decode cX9_isLeft 27 = .ok (.invokevirtual 111, 3) := by decide +kernel
theorem dX9_isLeft_30 : decode cX9_isLeft 30 = .ok (.iconst 4, 1) := by decide +kernel
theorem dX9_isLeft_31 : decode cX9_isLeft 31 = .ok (.if_icmp .gt 7, 3) := by decide +kernel
theorem dX9_isLeft_34 : decode cX9_isLeft 34 = .ok (.iconst 1, 1) := by decide +kernel
theorem dX9_isLeft_35 : decode cX9_isLeft 35 = .ok (.goto 4, 3) := by decide +kernel
theorem dX9_isLeft_38 : decode cX9_isLeft 38 = .ok (.iconst 0, 1) := by decide +kernel
theorem dX9_isLeft_39 : decode cX9_isLeft 39 = .ok (.ireturn, 1) := by decide +kernel
set_option maxRecDepth 20000 in
theorem ggX9_bring_X3_become : GoodIn wsX9_bring wsX3_become := goodIn_r _ [7, 8, 9, 10, 11, 12, 13, 28, 29] (by decide +kernel) (by decide +kernel)
set_option maxRecDepth 20000 in
theorem gX9_bring_X3_become : GoodIn wsX9_bring (wsV RX9 167 RX3 yX3_become wsX3_become) := goodIn_app (goodIn_of _ (by decide +kernel)) ggX9_bring_X3_become
theorem dX9_bring_0 : decode cX9_bring 0 = .ok (.aload_n 0, 1) := by decide +kernel
theorem dX9_bring_1 : decode cX9_bring 1 = .ok (.getfield 18, 3) := by decide +kernel
theorem dX9_bring_4 : decode cX9_bring 4 = .ok (.iload_n 2, 1) := by decide +kernel
theorem dX9_bring_5 : decode cX9_bring 5 = .ok (.aaload, 1) := by decide +kernel
theorem dX9_bring_6 : decode cX9_bring 6 = .ok (.aload_n 1, 1) := by decide +kernel
theorem dX9_bring_7 : decode cX9_bring 7 = .ok (.invokevirtual 167, 3) := by decide +kernel
theorem dX9_bring_10 : decode cX9_bring 10 = .ok (.aload_n 1, 1) := by decide +kernel
theorem dX9_bring_11 : decode cX9_bring 11 = .ok (.getfield 93, 3) := by decide +kernel
theorem dX9_bring_14 : decode cX9_bring 14 = .ok (.ireturn, 1) := by decide +kernel
set_option maxRecDepth 20000 in
theorem ggX9_treeRows_X8_isTree : GoodIn wsX9_treeRows wsX8_isTree := goodIn_r _ [7, 8, 9, 10, 11, 6, 12, 13, 14, 15, 16, 17, 18, 19, 20, 21, 22, 23, 38, 39, 40, 41, 42, 43] (by decide +kernel) (by decide +kernel)
set_option maxRecDepth 20000 in
theorem gX9_treeRows_X8_isTree : GoodIn wsX9_treeRows (wsV RX9 103 RX8 yX8_isTree wsX8_isTree) := goodIn_app (goodIn_of _ (by decide +kernel)) ggX9_treeRows_X8_isTree
theorem dX9_treeRows_0 : decode cX9_treeRows 0 = .ok (.iconst 0, 1) := by decide +kernel
theorem dX9_treeRows_1 : decode cX9_treeRows 1 = .ok (.istore_n 1, 1) := by decide +kernel
theorem dX9_treeRows_2 : decode cX9_treeRows 2 = .ok (.iconst 0, 1) := by decide +kernel
theorem dX9_treeRows_3 : decode cX9_treeRows 3 = .ok (.istore_n 2, 1) := by decide +kernel
theorem dX9_treeRows_4 : decode cX9_treeRows 4 = .ok (.iload_n 2, 1) := by decide +kernel
theorem dX9_treeRows_5 : decode cX9_treeRows 5 = .ok (.bipush 10, 2) := by decide +kernel
theorem dX9_treeRows_7 : decode cX9_treeRows 7 = .ok (.if_icmp .ge 28, 3) := by decide +kernel
theorem dX9_treeRows_10 : decode cX9_treeRows 10 = .ok (.aload_n 0, 1) := by decide +kernel
theorem dX9_treeRows_11 : decode cX9_treeRows 11 = .ok (.getfield 10, 3) := by decide +kernel
theorem dX9_treeRows_14 : decode cX9_treeRows 14 = .ok (.aload_n 0, 1) := by decide +kernel
theorem dX9_treeRows_15 : decode cX9_treeRows 15 = .ok (.getfield 18, 3) := by decide +kernel
theorem dX9_treeRows_18 : decode cX9_treeRows 18 = .ok (.iload_n 2, 1) := by decide +kernel
theorem dX9_treeRows_19 : decode cX9_treeRows 19 = .ok (.aaload, 1) := by decide +kernel
theorem dX9_treeRows_20 : decode cX9_treeRows 20 = .ok (.invokevirtual 103, 3) := by decide +kernel
theorem dX9_treeRows_23 : decode cX9_treeRows 23 = .ok (.ifCond .eq 6, 3) := by decide +kernel
theorem dX9_treeRows_26 : decode cX9_treeRows 26 = .ok (.iinc 1 1, 3) := by decide +kernel
theorem dX9_treeRows_29 : decode cX9_treeRows 29 = .ok (.iinc 2 1, 3) := by decide +kernel
theorem dX9_treeRows_32 : decode cX9_treeRows 32 = .ok (.goto (-28), 3) := by decide +kernel
theorem dX9_treeRows_35 : decode cX9_treeRows 35 = .ok (.iload_n 1, 1) := by decide +kernel
theorem dX9_treeRows_36 : decode cX9_treeRows 36 = .ok (.ireturn, 1) := by decide +kernel
theorem dX9_forget_0 : decode cX9_forget 0 = .ok (.aload_n 0, 1) := by decide +kernel
theorem dX9_forget_1 : decode cX9_forget 1 = .ok (.iconst 0, 1) := by decide +kernel
theorem dX9_forget_2 : decode cX9_forget 2 = .ok (.putfield 242, 3) := by decide +kernel
theorem dX9_forget_5 : decode cX9_forget 5 = .ok (.aload_n 0, 1) := by decide +kernel
theorem dX9_forget_6 : decode cX9_forget 6 = .ok (.iconst 0, 1) := by decide +kernel
theorem dX9_forget_7 : decode cX9_forget 7 = .ok (.putfield 245, 3) := by decide +kernel
theorem dX9_forget_10 : decode cX9_forget 10 = .ok (.aload_n 0, 1) := by decide +kernel
theorem dX9_forget_11 : decode cX9_forget 11 = .ok (.iconst 0, 1) := by decide +kernel
theorem dX9_forget_12 : decode cX9_forget 12 = .ok (.putfield 201, 3) := by decide +kernel
theorem dX9_forget_15 : decode cX9_forget 15 = .ok (.return_, 1) := by decide +kernel
set_option maxRecDepth 20000 in
theorem ggX9_learnMany_X0_forbidLefts : GoodIn wsX9_learnMany wsX0_forbidLefts := goodIn_r _ [9, 10, 11, 12, 13, 14, 15, 8, 16, 17, 18, 19, 20, 21, 22, 23, 24, 25, 26, 27, 28, 29, 30, 31, 32, 33, 34, 35, 36, 37, 38, 39, 40, 41, 42, 43, 44, 45, 46, 47, 48, 49, 50, 51, 52, 53, 54, 55, 56, 129, 130, 131, 132, 133, 134, 135, 136, 137, 138, 139, 140, 141, 142, 143] (by decide +kernel) (by decide +kernel)
set_option maxRecDepth 20000 in
theorem gX9_learnMany_X0_forbidLefts : GoodIn wsX9_learnMany (wsV RX9 248 RX0 yX0_forbidLefts wsX0_forbidLefts) := goodIn_app (goodIn_of _ (by decide +kernel)) ggX9_learnMany_X0_forbidLefts
set_option maxRecDepth 20000 in
theorem ggX9_learnMany_X0_run : GoodIn wsX9_learnMany wsX0_run := goodIn_r _ [60, 61, 62, 63, 64, 8, 65, 66, 67, 68, 69, 70, 71, 72, 73, 74, 75, 76, 77, 78, 79, 80, 81, 82, 83, 84, 85, 86, 87, 88, 89, 90, 37, 38, 39, 91, 92, 93, 94, 40, 41, 42, 43, 44, 45, 46, 95, 96, 97, 98, 99, 100, 101, 102, 103, 104, 18, 105, 106, 107, 108, 109, 17, 30, 31, 110, 111, 112, 113, 114, 129, 130, 131, 132, 136, 137, 138, 139, 140, 141, 144, 145, 146] (by decide +kernel) (by decide +kernel)
set_option maxRecDepth 20000 in
theorem gX9_learnMany_X0_run : GoodIn wsX9_learnMany (wsV RX9 252 RX0 yX0_run wsX0_run) := goodIn_app (goodIn_of _ (by decide +kernel)) ggX9_learnMany_X0_run
theorem dX9_learnMany_0 : decode cX9_learnMany 0 = .ok (.aload_n 0, 1) := by decide +kernel
theorem dX9_learnMany_1 : decode cX9_learnMany 1 = .ok (.getfield 242, 3) := by decide +kernel
theorem dX9_learnMany_4 : decode cX9_learnMany 4 = .ok (.ifCond .ne 34, 3) := by decide +kernel
theorem dX9_learnMany_7 : decode cX9_learnMany 7 = .ok (.aload_n 0, 1) := by decide +kernel
theorem dX9_learnMany_8 : decode cX9_learnMany 8 = .ok (.getfield 51, 3) := by decide +kernel
theorem dX9_learnMany_11 : decode cX9_learnMany 11 = .ok (.aload_n 0, 1) := by decide +kernel
theorem dX9_learnMany_12 : decode cX9_learnMany 12 = .ok (.getfield 10, 3) := by decide +kernel
theorem dX9_learnMany_15 : decode cX9_learnMany 15 = .ok (.invokevirtual 248, 3) := by decide +kernel
theorem dX9_learnMany_18 : decode cX9_learnMany 18 = .ok (.aload_n 0, 1) := by decide +kernel
theorem dX9_learnMany_19 : decode cX9_learnMany 19 = .ok (.getfield 51, 3) := by decide +kernel
theorem dX9_learnMany_22 : decode cX9_learnMany 22 = .ok (.aload_n 0, 1) := by decide +kernel
theorem dX9_learnMany_23 : decode cX9_learnMany 23 = .ok (.getfield 10, 3) := by decide +kernel
theorem dX9_learnMany_26 : decode cX9_learnMany 26 = .ok (.aload_n 0, 1) := by decide +kernel
theorem dX9_learnMany_27 : decode cX9_learnMany 27 = .ok (.getfield 62, 3) := by decide +kernel
theorem dX9_learnMany_30 : decode cX9_learnMany 30 = .ok (.invokevirtual 252, 3) := by decide +kernel
theorem dX9_learnMany_33 : decode cX9_learnMany 33 = .ok (.aload_n 0, 1) := by decide +kernel
theorem dX9_learnMany_34 : decode cX9_learnMany 34 = .ok (.iconst 1, 1) := by decide +kernel
theorem dX9_learnMany_35 : decode cX9_learnMany 35 = .ok (.putfield 242, 3) := by decide +kernel
theorem dX9_learnMany_38 : decode cX9_learnMany 38 = .ok (.return_, 1) := by decide +kernel
set_option maxRecDepth 20000 in
theorem ggX9_learnDual_X0_forbidAllButLefts : GoodIn wsX9_learnDual wsX0_forbidAllButLefts := goodIn_r _ [9, 10, 11, 12, 13, 8, 14, 15, 16, 17, 18, 19, 20, 21, 22, 23, 24, 25, 26, 27, 28, 29, 30, 31, 32, 33, 34, 35, 116, 117, 118, 119, 120, 121, 122, 123, 124, 125, 126, 127, 128, 129, 130] (by decide +kernel) (by decide +kernel)
set_option maxRecDepth 20000 in
theorem gX9_learnDual_X0_forbidAllButLefts : GoodIn wsX9_learnDual (wsV RX9 256 RX0 yX0_forbidAllButLefts wsX0_forbidAllButLefts) := goodIn_app (goodIn_of _ (by decide +kernel)) ggX9_learnDual_X0_forbidAllButLefts
set_option maxRecDepth 20000 in
theorem ggX9_learnDual_X0_run : GoodIn wsX9_learnDual wsX0_run := goodIn_r _ [39, 10, 40, 41, 42, 8, 43, 44, 45, 46, 47, 48, 49, 50, 51, 52, 53, 54, 55, 56, 57, 58, 59, 60, 61, 62, 63, 64, 65, 66, 67, 68, 69, 70, 71, 72, 73, 74, 75, 76, 77, 78, 30, 79, 80, 81, 82, 83, 84, 85, 86, 87, 88, 89, 90, 91, 16, 92, 93, 94, 95, 96, 15, 21, 22, 97, 98, 99, 100, 101, 116, 117, 118, 119, 120, 121, 122, 123, 124, 125, 131, 132, 133] (by decide +kernel) (by decide +kernel)
set_option maxRecDepth 20000 in
theorem gX9_learnDual_X0_run : GoodIn wsX9_learnDual (wsV RX9 252 RX0 yX0_run wsX0_run) := goodIn_app (goodIn_of _ (by decide +kernel)) ggX9_learnDual_X0_run
theorem dX9_learnDual_0 : decode cX9_learnDual 0 = .ok (.aload_n 0, 1) := by decide +kernel
theorem dX9_learnDual_1 : decode cX9_learnDual 1 = .ok (.getfield 245, 3) := by decide +kernel
theorem dX9_learnDual_4 : decode cX9_learnDual 4 = .ok (.ifCond .ne 34, 3) := by decide +kernel
theorem dX9_learnDual_7 : decode cX9_learnDual 7 = .ok (.aload_n 0, 1) := by decide +kernel
theorem dX9_learnDual_8 : decode cX9_learnDual 8 = .ok (.getfield 51, 3) := by decide +kernel
theorem dX9_learnDual_11 : decode cX9_learnDual 11 = .ok (.aload_n 0, 1) := by decide +kernel
theorem dX9_learnDual_12 : decode cX9_learnDual 12 = .ok (.getfield 10, 3) := by decide +kernel
theorem dX9_learnDual_15 : decode cX9_learnDual 15 = .ok (.invokevirtual 256, 3) := by decide +kernel
theorem dX9_learnDual_18 : decode cX9_learnDual 18 = .ok (.aload_n 0, 1) := by decide +kernel
theorem dX9_learnDual_19 : decode cX9_learnDual 19 = .ok (.getfield 51, 3) := by decide +kernel
theorem dX9_learnDual_22 : decode cX9_learnDual 22 = .ok (.aload_n 0, 1) := by decide +kernel
theorem dX9_learnDual_23 : decode cX9_learnDual 23 = .ok (.getfield 10, 3) := by decide +kernel
theorem dX9_learnDual_26 : decode cX9_learnDual 26 = .ok (.aload_n 0, 1) := by decide +kernel
theorem dX9_learnDual_27 : decode cX9_learnDual 27 = .ok (.getfield 66, 3) := by decide +kernel
theorem dX9_learnDual_30 : decode cX9_learnDual 30 = .ok (.invokevirtual 252, 3) := by decide +kernel
theorem dX9_learnDual_33 : decode cX9_learnDual 33 = .ok (.aload_n 0, 1) := by decide +kernel
theorem dX9_learnDual_34 : decode cX9_learnDual 34 = .ok (.iconst 1, 1) := by decide +kernel
theorem dX9_learnDual_35 : decode cX9_learnDual 35 = .ok (.putfield 245, 3) := by decide +kernel
theorem dX9_learnDual_38 : decode cX9_learnDual 38 = .ok (.return_, 1) := by decide +kernel
theorem dX10_init_0 : decode cX10_init 0 = .ok (.aload_n 0, 1) := by decide +kernel
theorem dX10_init_1 : decode cX10_init 1 = .ok (.invokespecial 1, 3) := by decide +kernel
theorem dX10_init_4 : decode cX10_init 4 = .ok (.aload_n 0, 1) := by decide +kernel
theorem dX10_init_5 : decode cX10_init 5 = .ok (.iconst 4, 1) := by decide +kernel
theorem dX10_init_6 : decode cX10_init 6 = .ok (.newarray .int, 2) := by decide +kernel
theorem dX10_init_8 : decode cX10_init 8 = .ok (.putfield 7, 3) := by decide +kernel
theorem dX10_init_11 : decode cX10_init 11 = .ok (.aload_n 0, 1) := by decide +kernel
theorem dX10_init_12 : decode cX10_init 12 = .ok (.sipush 1800, 3) := by decide +kernel
theorem dX10_init_15 : decode cX10_init 15 = .ok (.newarray .int, 2) := by decide +kernel
theorem dX10_init_17 : decode cX10_init 17 = .ok (.putfield 13, 3) := by decide +kernel
theorem dX10_init_20 : decode cX10_init 20 = .ok (.aload_n 0, 1) := by decide +kernel
theorem dX10_init_21 : decode cX10_init 21 = .ok (.bipush 30, 2) := by decide +kernel
theorem dX10_init_23 : decode cX10_init 23 = .ok (.newarray .int, 2) := by decide +kernel
theorem dX10_init_25 : decode cX10_init 25 = .ok (.putfield 16, 3) := by decide +kernel
theorem dX10_init_28 : decode cX10_init 28 = .ok (.aload_n 0, 1) := by decide +kernel
theorem dX10_init_29 : decode cX10_init 29 = .ok (.bipush 8, 2) := by decide +kernel
theorem dX10_init_31 : decode cX10_init 31 = .ok (.newarray .boolean, 2) := by decide +kernel
theorem dX10_init_33 : decode cX10_init 33 = .ok (.putfield 19, 3) := by decide +kernel
theorem dX10_init_36 : decode cX10_init 36 = .ok (.aload_n 0, 1) := by decide +kernel
theorem dX10_init_37 : decode cX10_init 37 = .ok (.bipush 7, 2) := by decide +kernel
theorem dX10_init_39 : decode cX10_init 39 = .ok (.newarray .long, 2) := by decide +kernel
theorem dX10_init_41 : decode cX10_init 41 = .ok (.putfield 23, 3) := by decide +kernel
theorem dX10_init_44 : decode cX10_init 44 = .ok (.aload_n 0, 1) := by decide +kernel
theorem dX10_init_45 : decode cX10_init 45 = .ok (.bipush 61, 2) := by decide +kernel
theorem dX10_init_47 : decode cX10_init 47 = .ok (.newarray .int, 2) := by decide +kernel
theorem dX10_init_49 : decode cX10_init 49 = .ok (.putfield 27, 3) := by decide +kernel
theorem dX10_init_52 : decode cX10_init 52 = .ok (.aload_n 0, 1) := by decide +kernel
theorem dX10_init_53 : decode cX10_init 53 = .ok (.bipush 13, 2) := by decide +kernel
theorem dX10_init_55 : decode cX10_init 55 = .ok (.newarray .int, 2) := by decide +kernel
theorem dX10_init_57 : decode cX10_init 57 = .ok (.putfield 30, 3) := by decide +kernel
theorem dX10_init_60 : decode cX10_init 60 = .ok (.aload_n 0, 1) := by decide +kernel
theorem dX10_init_61 : decode cX10_init 61 = .ok (.bipush 13, 2) := by decide +kernel
theorem dX10_init_63 : decode cX10_init 63 = .ok (.newarray .int, 2) := by decide +kernel
theorem dX10_init_65 : decode cX10_init 65 = .ok (.putfield 33, 3) := by decide +kernel
theorem dX10_init_68 : decode cX10_init 68 = .ok (.aload_n 0, 1) := by decide +kernel
theorem dX10_init_69 : decode cX10_init 69 = .ok (.bipush 60, 2) := by decide +kernel
theorem dX10_init_71 : decode cX10_init 71 = .ok (.newarray .int, 2) := by decide +kernel
theorem dX10_init_73 : decode cX10_init 73 = .ok (.putfield 36, 3) := by decide +kernel
theorem dX10_init_76 : decode cX10_init 76 = .ok (.aload_n 0, 1) := by decide +kernel
theorem dX10_init_77 : decode cX10_init 77 = .ok (.bipush 49, 2) := by decide +kernel
theorem dX10_init_79 : decode cX10_init 79 = .ok (.newarray .long, 2) := by decide +kernel
theorem dX10_init_81 : decode cX10_init 81 = .ok (.putfield 39, 3) := by decide +kernel
theorem dX10_init_84 : decode cX10_init 84 = .ok (.aload_n 0, 1) := by decide +kernel
theorem dX10_init_85 : decode cX10_init 85 = .ok (.bipush 7, 2) := by decide +kernel
theorem dX10_init_87 : decode cX10_init 87 = .ok (.newarray .long, 2) := by decide +kernel
theorem dX10_init_89 : decode cX10_init 89 = .ok (.putfield 42, 3) := by decide +kernel
theorem dX10_init_92 : decode cX10_init 92 = .ok (.aload_n 0, 1) := by decide +kernel
theorem dX10_init_93 : decode cX10_init 93 = .ok (.bipush 32, 2) := by decide +kernel
theorem dX10_init_95 : decode cX10_init 95 = .ok (.newarray .boolean, 2) := by decide +kernel
theorem dX10_init_97 : decode cX10_init 97 = .ok (.putfield 45, 3) := by decide +kernel
theorem dX10_init_100 : decode cX10_init 100 = .ok (.aload_n 0, 1) := by decide +kernel
theorem dX10_init_101 : decode cX10_init 101 = .ok (.bipush 28, 2) := by decide +kernel
theorem dX10_init_103 : decode cX10_init 103 = .ok (.newarray .long, 2) := by decide +kernel
theorem dX10_init_105 : decode cX10_init 105 = .ok (.putfield 48, 3) := by decide +kernel
theorem dX10_init_108 : decode cX10_init 108 = .ok (.return_, 1) := by decide +kernel
theorem dX10_in_0 : decode cX10_in 0 = .ok (.iload_n 0, 1) := by decide +kernel
theorem dX10_in_1 : decode cX10_in 1 = .ok (.iload_n 1, 1) := by decide +kernel
theorem dX10_in_2 : decode cX10_in 2 = .ok (.if_icmp .lt 12, 3) := by decide +kernel
theorem dX10_in_5 : decode cX10_in 5 = .ok (.iload_n 0, 1) := by decide +kernel
theorem dX10_in_6 : decode cX10_in 6 = .ok (.iload_n 2, 1) := by decide +kernel
theorem dX10_in_7 : decode cX10_in 7 = .ok (.if_icmp .gt 7, 3) := by decide +kernel
theorem dX10_in_10 : decode cX10_in 10 = .ok (.iconst 1, 1) := by decide +kernel
theorem dX10_in_11 : decode cX10_in 11 = .ok (.goto 4, 3) := by decide +kernel
theorem dX10_in_14 : decode cX10_in 14 = .ok (.iconst 0, 1) := by decide +kernel
theorem dX10_in_15 : decode cX10_in 15 = .ok (.ireturn, 1) := by decide +kernel
set_option maxRecDepth 20000 in
theorem ggX10_act_X10_in : GoodIn wsX10_act wsX10_in := goodIn_r _ [7] (by decide +kernel) (by decide +kernel)
set_option maxRecDepth 20000 in
theorem gX10_act_X10_in : GoodIn wsX10_act (va_wsS RX10 51 yX10_in wsX10_in) := goodIn_app (goodIn_of _ (by decide +kernel)) ggX10_act_X10_in
theorem dX10_act_0 : decode cX10_act 0 = .ok (.iload_n 1, 1) := by decide +kernel
theorem dX10_act_1 : decode cX10_act 1 = .ok (.iconst 2, 1) := by decide +kernel
theorem dX10_act_2 : decode cX10_act 2 = .ok (.iconst 3, 1) := by decide +kernel
theorem dX10_act_3 : decode cX10_act 3 = .ok (.invokestatic 51, 3) := by decide +kernel
theorem dX10_act_6 : decode cX10_act 6 = .ok (.ifCond .ne 6, 3) := by decide +kernel
theorem dX10_act_9 : decode cX10_act 9 = .ok (.bipush (-2), 2) := by decide +kernel
theorem dX10_act_11 : decode cX10_act 11 = .ok (.ireturn, 1) := by decide +kernel
theorem dX10_act_12 : decode cX10_act 12 = .ok (.aload_n 0, 1) := by decide +kernel
theorem dX10_act_13 : decode cX10_act 13 = .ok (.getfield 55, 3) := by decide +kernel
theorem dX10_act_16 : decode cX10_act 16 = .ok (.iconst 4, 1) := by decide +kernel
theorem dX10_act_17 : decode cX10_act 17 = .ok (.if_icmp .ne 6, 3) := by decide +kernel
theorem dX10_act_20 : decode cX10_act 20 = .ok (.bipush (-4), 2) := by decide +kernel
theorem dX10_act_22 : decode cX10_act 22 = .ok (.ireturn, 1) := by decide +kernel
theorem dX10_act_23 : decode cX10_act 23 = .ok (.aload_n 0, 1) := by decide +kernel
theorem dX10_act_24 : decode cX10_act 24 = .ok (.getfield 7, 3) := by decide +kernel
theorem dX10_act_27 : decode cX10_act 27 = .ok (.aload_n 0, 1) := by decide +kernel
theorem dX10_act_28 : decode cX10_act 28 = .ok (.getfield 55, 3) := by decide +kernel
theorem dX10_act_31 : decode cX10_act 31 = .ok (.iload_n 1, 1) := by decide +kernel
theorem dX10_act_32 : decode cX10_act 32 = .ok (.iastore, 1) := by decide +kernel
theorem dX10_act_33 : decode cX10_act 33 = .ok (.aload_n 0, 1) := by decide +kernel
theorem dX10_act_34 : decode cX10_act 34 = .ok (.dup, 1) := by decide +kernel
theorem dX10_act_35 : decode cX10_act 35 = .ok (.getfield 55, 3) := by decide +kernel
theorem dX10_act_38 : decode cX10_act 38 = .ok (.iconst 1, 1) := by decide +kernel
theorem dX10_act_39 : decode cX10_act 39 = .ok (.iadd, 1) := by decide +kernel
theorem dX10_act_40 : decode cX10_act 40 = .ok (.putfield 55, 3) := by decide +kernel
theorem dX10_act_43 : decode cX10_act 43 = .ok (.aload_n 0, 1) := by decide +kernel
theorem dX10_act_44 : decode cX10_act 44 = .ok (.iconst 0, 1) := by decide +kernel
theorem dX10_act_45 : decode cX10_act 45 = .ok (.putfield 59, 3) := by decide +kernel
theorem dX10_act_48 : decode cX10_act 48 = .ok (.aload_n 0, 1) := by decide +kernel
theorem dX10_act_49 : decode cX10_act 49 = .ok (.getfield 55, 3) := by decide +kernel
theorem dX10_act_52 : decode cX10_act 52 = .ok (.iconst 1, 1) := by decide +kernel
theorem dX10_act_53 : decode cX10_act 53 = .ok (.isub, 1) := by decide +kernel
theorem dX10_act_54 : decode cX10_act 54 = .ok (.ireturn, 1) := by decide +kernel
set_option maxRecDepth 20000 in
theorem ggX10_isRow_X10_in : GoodIn wsX10_isRow wsX10_in := goodIn_r _ [4] (by decide +kernel) (by decide +kernel)
set_option maxRecDepth 20000 in
theorem gX10_isRow_X10_in : GoodIn wsX10_isRow (va_wsS RX10 51 yX10_in wsX10_in) := goodIn_app (goodIn_of _ (by decide +kernel)) ggX10_isRow_X10_in
theorem dX10_isRow_0 : decode cX10_isRow 0 = .ok (.iload_n 0, 1) := by decide +kernel
theorem dX10_isRow_1 : decode cX10_isRow 1 = .ok (.iconst 0, 1) := by decide +kernel
theorem dX10_isRow_2 : decode cX10_isRow 2 = .ok (.bipush 9, 2) := by decide +kernel
theorem dX10_isRow_4 : decode cX10_isRow 4 = .ok (.invokestatic 51, 3) := by decide +kernel
theorem dX10_isRow_7 : decode cX10_isRow 7 = .ok (.ireturn, 1) := by decide +kernel
set_option maxRecDepth 20000 in
theorem ggX10_put_X10_isRow : GoodIn wsX10_put wsX10_isRow := goodIn_r _ [6, 7, 8, 5, 9] (by decide +kernel) (by decide +kernel)
set_option maxRecDepth 20000 in
theorem gX10_put_X10_isRow : GoodIn wsX10_put (va_wsS RX10 63 yX10_isRow wsX10_isRow) := goodIn_app (goodIn_of _ (by decide +kernel)) ggX10_put_X10_isRow
set_option maxRecDepth 20000 in
theorem ggX10_put_X10_in : GoodIn wsX10_put wsX10_in := goodIn_r _ [9] (by decide +kernel) (by decide +kernel)
set_option maxRecDepth 20000 in
theorem gX10_put_X10_in : GoodIn wsX10_put (va_wsS RX10 51 yX10_in wsX10_in) := goodIn_app (goodIn_of _ (by decide +kernel)) ggX10_put_X10_in
set_option maxRecDepth 20000 in
theorem ggX10_put_X10_comes : GoodIn wsX10_put wsX10_comes := goodIn_r _ [13, 14, 2, 15, 16, 17, 18, 19, 20, 21, 22, 23, 24, 25, 26, 27, 28, 29, 30, 31, 32, 33, 34, 35, 36] (by decide +kernel) (by decide +kernel)
set_option maxRecDepth 20000 in
theorem gX10_put_X10_comes : GoodIn wsX10_put (wsV RX10 67 RX10 yX10_comes wsX10_comes) := goodIn_app (goodIn_of _ (by decide +kernel)) ggX10_put_X10_comes
theorem dX10_put_0 : decode cX10_put 0 = .ok (.iload_n 1, 1) := by decide +kernel
theorem dX10_put_1 : decode cX10_put 1 = .ok (.invokestatic 63, 3) := by decide +kernel
theorem dX10_put_4 : decode cX10_put 4 = .ok (.ifCond .eq 17, 3) := by decide +kernel
theorem dX10_put_7 : decode cX10_put 7 = .ok (.iload_n 2, 1) := by decide +kernel
theorem dX10_put_8 : decode cX10_put 8 = .ok (.iconst (-1), 1) := by decide +kernel
theorem dX10_put_9 : decode cX10_put 9 = .ok (.aload_n 0, 1) := by decide +kernel
theorem dX10_put_10 : decode cX10_put 10 = .ok (.getfield 55, 3) := by decide +kernel
theorem dX10_put_13 : decode cX10_put 13 = .ok (.iconst 1, 1) := by decide +kernel
theorem dX10_put_14 : decode cX10_put 14 = .ok (.isub, 1) := by decide +kernel
theorem dX10_put_15 : decode cX10_put 15 = .ok (.invokestatic 51, 3) := by decide +kernel
theorem dX10_put_18 : decode cX10_put 18 = .ok (.ifCond .ne 6, 3) := by decide +kernel
theorem dX10_put_21 : decode cX10_put 21 = .ok (.bipush (-2), 2) := by decide +kernel
theorem dX10_put_23 : decode cX10_put 23 = .ok (.ireturn, 1) := by decide +kernel
theorem dX10_put_24 : decode cX10_put 24 = .ok (.aload_n 0, 1) := by decide +kernel
theorem dX10_put_25 : decode cX10_put 25 = .ok (.getfield 16, 3) := by decide +kernel
theorem dX10_put_28 : decode cX10_put 28 = .ok (.iload_n 1, 1) := by decide +kernel
theorem dX10_put_29 : decode cX10_put 29 = .ok (.iaload, 1) := by decide +kernel
theorem dX10_put_30 : decode cX10_put 30 = .ok (.bipush 60, 2) := by decide +kernel
theorem dX10_put_32 : decode cX10_put 32 = .ok (.if_icmp .ne 6, 3) := by decide +kernel
theorem dX10_put_35 : decode cX10_put 35 = .ok (.bipush (-4), 2) := by decide +kernel
theorem dX10_put_37 : decode cX10_put 37 = .ok (.ireturn, 1) := by decide +kernel
theorem dX10_put_38 : decode cX10_put 38 = .ok (.aload_n 0, 1) := by decide +kernel
theorem dX10_put_39 : decode cX10_put 39 = .ok (.iload_n 1, 1) := by decide +kernel
theorem dX10_put_40 : decode cX10_put 40 = .ok (.iload_n 2, 1) := by decide +kernel
theorem dX10_put_41 : decode cX10_put 41 = .ok (.invokevirtual 67, 3) := by decide +kernel
theorem dX10_put_44 : decode cX10_put 44 = .ok (.aload_n 0, 1) := by decide +kernel
theorem dX10_put_45 : decode cX10_put 45 = .ok (.getfield 16, 3) := by decide +kernel
theorem dX10_put_48 : decode cX10_put 48 = .ok (.iload_n 1, 1) := by decide +kernel
theorem dX10_put_49 : decode cX10_put 49 = .ok (.iaload, 1) := by decide +kernel
theorem dX10_put_50 : decode cX10_put 50 = .ok (.ireturn, 1) := by decide +kernel
theorem dX10_comes_0 : decode cX10_comes 0 = .ok (.aload_n 0, 1) := by decide +kernel
theorem dX10_comes_1 : decode cX10_comes 1 = .ok (.getfield 13, 3) := by decide +kernel
theorem dX10_comes_4 : decode cX10_comes 4 = .ok (.bipush 60, 2) := by decide +kernel
theorem dX10_comes_6 : decode cX10_comes 6 = .ok (.iload_n 1, 1) := by decide +kernel
theorem dX10_comes_7 : decode cX10_comes 7 = .ok (.imul, 1) := by decide +kernel
theorem dX10_comes_8 : decode cX10_comes 8 = .ok (.aload_n 0, 1) := by decide +kernel
theorem dX10_comes_9 : decode cX10_comes 9 = .ok (.getfield 16, 3) := by decide +kernel
theorem dX10_comes_12 : decode cX10_comes 12 = .ok (.iload_n 1, 1) := by decide +kernel
theorem dX10_comes_13 : decode cX10_comes 13 = .ok (.iaload, 1) := by decide +kernel
theorem dX10_comes_14 : decode cX10_comes 14 = .ok (.iadd, 1) := by decide +kernel
theorem dX10_comes_15 : decode cX10_comes 15 = .ok (.iload_n 2, 1) := by decide +kernel
theorem dX10_comes_16 : decode cX10_comes 16 = .ok (.iastore, 1) := by decide +kernel
theorem dX10_comes_17 : decode cX10_comes 17 = .ok (.aload_n 0, 1) := by decide +kernel
theorem dX10_comes_18 : decode cX10_comes 18 = .ok (.getfield 16, 3) := by decide +kernel
theorem dX10_comes_21 : decode cX10_comes 21 = .ok (.iload_n 1, 1) := by decide +kernel
theorem dX10_comes_22 : decode cX10_comes 22 = .ok (.dup2, 1) := by decide +kernel
theorem dX10_comes_23 : decode cX10_comes 23 = .ok (.iaload, 1) := by decide +kernel
theorem dX10_comes_24 : decode cX10_comes 24 = .ok (.iconst 1, 1) := by decide +kernel
theorem dX10_comes_25 : decode cX10_comes 25 = .ok (.iadd, 1) := by decide +kernel
theorem dX10_comes_26 : decode cX10_comes 26 = .ok (.iastore, 1) := by decide +kernel
theorem dX10_comes_27 : decode cX10_comes 27 = .ok (.return_, 1) := by decide +kernel
set_option maxRecDepth 20000 in
theorem ggX10_empty_X10_isRow : GoodIn wsX10_empty wsX10_isRow := goodIn_r _ [5, 6, 7, 4, 8] (by decide +kernel) (by decide +kernel)
set_option maxRecDepth 20000 in
theorem gX10_empty_X10_isRow : GoodIn wsX10_empty (va_wsS RX10 63 yX10_isRow wsX10_isRow) := goodIn_app (goodIn_of _ (by decide +kernel)) ggX10_empty_X10_isRow
theorem dX10_empty_0 : decode cX10_empty 0 = .ok (.iload_n 1, 1) := by decide +kernel
theorem dX10_empty_1 : decode cX10_empty 1 = .ok (.invokestatic 63, 3) := by decide +kernel
theorem dX10_empty_4 : decode cX10_empty 4 = .ok (.ifCond .ne 6, 3) := by decide +kernel
theorem dX10_empty_7 : decode cX10_empty 7 = .ok (.bipush (-2), 2) := by decide +kernel
theorem dX10_empty_9 : decode cX10_empty 9 = .ok (.ireturn, 1) := by decide +kernel
theorem dX10_empty_10 : decode cX10_empty 10 = .ok (.aload_n 0, 1) := by decide +kernel
theorem dX10_empty_11 : decode cX10_empty 11 = .ok (.getfield 16, 3) := by decide +kernel
theorem dX10_empty_14 : decode cX10_empty 14 = .ok (.iload_n 1, 1) := by decide +kernel
theorem dX10_empty_15 : decode cX10_empty 15 = .ok (.iaload, 1) := by decide +kernel
theorem dX10_empty_16 : decode cX10_empty 16 = .ok (.istore_n 2, 1) := by decide +kernel
theorem dX10_empty_17 : decode cX10_empty 17 = .ok (.aload_n 0, 1) := by decide +kernel
theorem dX10_empty_18 : decode cX10_empty 18 = .ok (.getfield 16, 3) := by decide +kernel
theorem dX10_empty_21 : decode cX10_empty 21 = .ok (.iload_n 1, 1) := by decide +kernel
theorem dX10_empty_22 : decode cX10_empty 22 = .ok (.iconst 0, 1) := by decide +kernel
theorem dX10_empty_23 : decode cX10_empty 23 = .ok (.iastore, 1) := by decide +kernel
theorem dX10_empty_24 : decode cX10_empty 24 = .ok (.iload_n 2, 1) := by decide +kernel
theorem dX10_empty_25 : decode cX10_empty 25 = .ok (.ireturn, 1) := by decide +kernel
set_option maxRecDepth 20000 in
theorem ggX10_at_X10_isRow : GoodIn wsX10_at wsX10_isRow := goodIn_r _ [6, 7, 8, 5, 9] (by decide +kernel) (by decide +kernel)
set_option maxRecDepth 20000 in
theorem gX10_at_X10_isRow : GoodIn wsX10_at (va_wsS RX10 63 yX10_isRow wsX10_isRow) := goodIn_app (goodIn_of _ (by decide +kernel)) ggX10_at_X10_isRow
set_option maxRecDepth 20000 in
theorem ggX10_at_X10_in : GoodIn wsX10_at wsX10_in := goodIn_r _ [9] (by decide +kernel) (by decide +kernel)
set_option maxRecDepth 20000 in
theorem gX10_at_X10_in : GoodIn wsX10_at (va_wsS RX10 51 yX10_in wsX10_in) := goodIn_app (goodIn_of _ (by decide +kernel)) ggX10_at_X10_in
theorem dX10_at_0 : decode cX10_at 0 = .ok (.iload_n 1, 1) := by decide +kernel
theorem dX10_at_1 : decode cX10_at 1 = .ok (.invokestatic 63, 3) := by decide +kernel
theorem dX10_at_4 : decode cX10_at 4 = .ok (.ifCond .ne 8, 3) := by decide +kernel
theorem dX10_at_7 : decode cX10_at 7 = .ok (.bipush (-2), 2) := by decide +kernel
theorem dX10_at_9 : decode cX10_at 9 = .ok (.goto 35, 3) := by decide +kernel
theorem dX10_at_12 : decode cX10_at 12 = .ok (.iload_n 2, 1) := by decide +kernel
theorem dX10_at_13 : decode cX10_at 13 = .ok (.iconst 0, 1) := by decide +kernel
theorem dX10_at_14 : decode cX10_at 14 = .ok (.aload_n 0, 1) := by decide +kernel
theorem dX10_at_15 : decode cX10_at 15 = .ok (.getfield 16, 3) := by decide +kernel
theorem dX10_at_18 : decode cX10_at 18 = .ok (.iload_n 1, 1) := by decide +kernel
theorem dX10_at_19 : decode cX10_at 19 = .ok (.iaload, 1) := by decide +kernel
theorem dX10_at_20 : decode cX10_at 20 = .ok (.iconst 1, 1) := by decide +kernel
theorem dX10_at_21 : decode cX10_at 21 = .ok (.isub, 1) := by decide +kernel
theorem dX10_at_22 : decode cX10_at 22 = .ok (.invokestatic 51, 3) := by decide +kernel
theorem dX10_at_25 : decode cX10_at 25 = .ok (.ifCond .eq 17, 3) := by decide +kernel
theorem dX10_at_28 : decode cX10_at 28 = .ok (.aload_n 0, 1) := by decide +kernel
theorem dX10_at_29 : decode cX10_at 29 = .ok (.getfield 13, 3) := by decide +kernel
theorem dX10_at_32 : decode cX10_at 32 = .ok (.bipush 60, 2) := by decide +kernel
theorem dX10_at_34 : decode cX10_at 34 = .ok (.iload_n 1, 1) := by decide +kernel
theorem dX10_at_35 : decode cX10_at 35 = .ok (.imul, 1) := by decide +kernel
theorem dX10_at_36 : decode cX10_at 36 = .ok (.iload_n 2, 1) := by decide +kernel
theorem dX10_at_37 : decode cX10_at 37 = .ok (.iadd, 1) := by decide +kernel
theorem dX10_at_38 : decode cX10_at 38 = .ok (.iaload, 1) := by decide +kernel
theorem dX10_at_39 : decode cX10_at 39 = .ok (.goto 5, 3) := by decide +kernel
theorem dX10_at_42 : decode cX10_at 42 = .ok (.bipush (-100), 2) := by decide +kernel
theorem dX10_at_44 : decode cX10_at 44 = .ok (.ireturn, 1) := by decide +kernel
theorem dX10_wants_0 : decode cX10_wants 0 = .ok (.iload_n 1, 1) := by decide +kernel
theorem dX10_wants_1 : decode cX10_wants 1 = .ok (.iconst (-1), 1) := by decide +kernel
theorem dX10_wants_2 : decode cX10_wants 2 = .ok (.if_icmp .ne 7, 3) := by decide +kernel
theorem dX10_wants_5 : decode cX10_wants 5 = .ok (.iconst 0, 1) := by decide +kernel
theorem dX10_wants_6 : decode cX10_wants 6 = .ok (.goto 9, 3) := by decide +kernel
theorem dX10_wants_9 : decode cX10_wants 9 = .ok (.aload_n 0, 1) := by decide +kernel
theorem dX10_wants_10 : decode cX10_wants 10 = .ok (.getfield 7, 3) := by decide +kernel
theorem dX10_wants_13 : decode cX10_wants 13 = .ok (.iload_n 1, 1) := by decide +kernel
theorem dX10_wants_14 : decode cX10_wants 14 = .ok (.iaload, 1) := by decide +kernel
theorem dX10_wants_15 : decode cX10_wants 15 = .ok (.ireturn, 1) := by decide +kernel
set_option maxRecDepth 20000 in
theorem ggX10_end_X10_wants : GoodIn wsX10_end wsX10_wants := goodIn_r _ [7, 8, 9, 10, 11, 12, 13, 14, 15, 16, 17, 18, 19, 20, 21, 22, 23, 24, 25, 26, 27, 28, 29, 30] (by decide +kernel) (by decide +kernel)
set_option maxRecDepth 20000 in
theorem gX10_end_X10_wants : GoodIn wsX10_end (wsV RX10 71 RX10 yX10_wants wsX10_wants) := goodIn_app (goodIn_of _ (by decide +kernel)) ggX10_end_X10_wants
theorem dX10_end_0 : decode cX10_end 0 = .ok (.iconst 1, 1) := by decide +kernel
theorem dX10_end_1 : decode cX10_end 1 = .ok (.istore_n 3, 1) := by decide +kernel
theorem dX10_end_2 : decode cX10_end 2 = .ok (.iload_n 2, 1) := by decide +kernel
theorem dX10_end_3 : decode cX10_end 3 = .ok (.istore 4, 2) := by decide +kernel
theorem dX10_end_5 : decode cX10_end 5 = .ok (.iload_n 3, 1) := by decide +kernel
theorem dX10_end_6 : decode cX10_end 6 = .ok (.ifCond .le 41, 3) := by decide +kernel
theorem dX10_end_9 : decode cX10_end 9 = .ok (.iload 4, 2) := by decide +kernel
theorem dX10_end_11 : decode cX10_end 11 = .ok (.aload_n 0, 1) := by decide +kernel
theorem dX10_end_12 : decode cX10_end 12 = .ok (.getfield 16, 3) := by decide +kernel
theorem dX10_end_15 : decode cX10_end 15 = .ok (.iload_n 1, 1) := by decide +kernel
theorem dX10_end_16 : decode cX10_end 16 = .ok (.iaload, 1) := by decide +kernel
theorem dX10_end_17 : decode cX10_end 17 = .ok (.if_icmp .ge 30, 3) := by decide +kernel
theorem dX10_end_20 : decode cX10_end 20 = .ok (.iload_n 3, 1) := by decide +kernel
theorem dX10_end_21 : decode cX10_end 21 = .ok (.aload_n 0, 1) := by decide +kernel
theorem dX10_end_22 : decode cX10_end 22 = .ok (.aload_n 0, 1) := by decide +kernel
theorem dX10_end_23 : decode cX10_end 23 = .ok (.getfield 13, 3) := by decide +kernel
theorem dX10_end_26 : decode cX10_end 26 = .ok (.bipush 60, 2) := by decide +kernel
theorem dX10_end_28 : decode cX10_end 28 = .ok (.iload_n 1, 1) := by decide +kernel
theorem dX10_end_29 : decode cX10_end 29 = .ok (.imul, 1) := by decide +kernel
theorem dX10_end_30 : decode cX10_end 30 = .ok (.iload 4, 2) := by decide +kernel
theorem dX10_end_32 : decode cX10_end 32 = .ok (.iadd, 1) := by decide +kernel
theorem dX10_end_33 : decode cX10_end 33 = .ok (.iaload, 1) := by decide +kernel
theorem dX10_end_34 : decode cX10_end 34 = .ok (.invokevirtual 71, 3) := by decide +kernel
theorem dX10_end_37 : decode cX10_end 37 = .ok (.iconst 1, 1) := by decide +kernel
theorem dX10_end_38 : decode cX10_end 38 = .ok (.isub, 1) := by decide +kernel
theorem dX10_end_39 : decode cX10_end 39 = .ok (.iadd, 1) := by decide +kernel
theorem dX10_end_40 : decode cX10_end 40 = .ok (.istore_n 3, 1) := by decide +kernel
theorem dX10_end_41 : decode cX10_end 41 = .ok (.iinc 4 1, 3) := by decide +kernel
theorem dX10_end_44 : decode cX10_end 44 = .ok (.goto (-39), 3) := by decide +kernel
theorem dX10_end_47 : decode cX10_end 47 = .ok (.iload_n 3, 1) := by decide +kernel
theorem dX10_end_48 : decode cX10_end 48 = .ok (.ifCond .ne 8, 3) := by decide +kernel
theorem dX10_end_51 : decode cX10_end 51 = .ok (.iload 4, 2) := by decide +kernel
theorem dX10_end_53 : decode cX10_end 53 = .ok (.goto 4, 3) := by decide +kernel
theorem dX10_end_56 : decode cX10_end 56 = .ok (.iconst (-1), 1) := by decide +kernel
theorem dX10_end_57 : decode cX10_end 57 = .ok (.ireturn, 1) := by decide +kernel
set_option maxRecDepth 20000 in
theorem ggX10_isTree_X10_end : GoodIn wsX10_isTree wsX10_end := goodIn_r _ [6, 1, 7, 8, 9, 10, 5, 11, 12, 13, 14, 15, 16, 17, 18, 19, 20, 21, 22, 23, 24, 25, 26, 27, 28, 29, 30, 31, 32, 33, 34] (by decide +kernel) (by decide +kernel)
set_option maxRecDepth 20000 in
theorem gX10_isTree_X10_end : GoodIn wsX10_isTree (wsV RX10 75 RX10 yX10_end wsX10_end) := goodIn_app (goodIn_of _ (by decide +kernel)) ggX10_isTree_X10_end
theorem dX10_isTree_0 : decode cX10_isTree 0 = .ok (.aload_n 0, 1) := by decide +kernel
theorem dX10_isTree_1 : decode cX10_isTree 1 = .ok (.getfield 16, 3) := by decide +kernel
theorem dX10_isTree_4 : decode cX10_isTree 4 = .ok (.iload_n 1, 1) := by decide +kernel
theorem dX10_isTree_5 : decode cX10_isTree 5 = .ok (.iaload, 1) := by decide +kernel
theorem dX10_isTree_6 : decode cX10_isTree 6 = .ok (.ifCond .le 22, 3) := by decide +kernel
theorem dX10_isTree_9 : decode cX10_isTree 9 = .ok (.aload_n 0, 1) := by decide +kernel
theorem dX10_isTree_10 : decode cX10_isTree 10 = .ok (.iload_n 1, 1) := by decide +kernel
theorem dX10_isTree_11 : decode cX10_isTree 11 = .ok (.iconst 0, 1) := by decide +kernel
theorem dX10_isTree_12 : decode cX10_isTree 12 = .ok (.invokevirtual 75, 3) := by decide +kernel
theorem dX10_isTree_15 : decode cX10_isTree 15 = .ok (.aload_n 0, 1) := by decide +kernel
theorem dX10_isTree_16 : decode cX10_isTree 16 = .ok (.getfield 16, 3) := by decide +kernel
theorem dX10_isTree_19 : decode cX10_isTree 19 = .ok (.iload_n 1, 1) := by decide +kernel
theorem dX10_isTree_20 : decode cX10_isTree 20 = .ok (.iaload, 1) := by decide +kernel
theorem dX10_isTree_21 : decode cX10_isTree 21 = .ok (.if_icmp .ne 7, 3) := by decide +kernel
theorem dX10_isTree_24 : decode cX10_isTree 24 = .ok (.iconst 1, 1) := by decide +kernel
theorem dX10_isTree_25 : decode cX10_isTree 25 = .ok (.goto 4, 3) := by decide +kernel
theorem dX10_isTree_28 : decode cX10_isTree 28 = .ok (.iconst 0, 1) := by decide +kernel
theorem dX10_isTree_29 : decode cX10_isTree 29 = .ok (.ireturn, 1) := by decide +kernel
set_option maxRecDepth 20000 in
theorem ggX10_isTreeRow_X10_isRow : GoodIn wsX10_isTreeRow wsX10_isRow := goodIn_r _ [4, 5, 6, 3, 7] (by decide +kernel) (by decide +kernel)
set_option maxRecDepth 20000 in
theorem gX10_isTreeRow_X10_isRow : GoodIn wsX10_isTreeRow (va_wsS RX10 63 yX10_isRow wsX10_isRow) := goodIn_app (goodIn_of _ (by decide +kernel)) ggX10_isTreeRow_X10_isRow
set_option maxRecDepth 20000 in
theorem ggX10_isTreeRow_X10_isTree : GoodIn wsX10_isTreeRow wsX10_isTree := goodIn_r _ [11, 12, 13, 14, 15, 3, 16, 17, 18, 19, 20, 21, 22, 23, 24, 25, 26, 27, 28, 29, 30, 31, 32, 33, 34, 35, 36, 37, 38, 39, 40, 41, 42, 43, 44] (by decide +kernel) (by decide +kernel)
set_option maxRecDepth 20000 in
theorem gX10_isTreeRow_X10_isTree : GoodIn wsX10_isTreeRow (wsV RX10 79 RX10 yX10_isTree wsX10_isTree) := goodIn_app (goodIn_of _ (by decide +kernel)) ggX10_isTreeRow_X10_isTree
theorem dX10_isTreeRow_0 : decode cX10_isTreeRow 0 = .ok (.iload_n 1, 1) := by decide +kernel
theorem dX10_isTreeRow_1 : decode cX10_isTreeRow 1 = .ok (.invokestatic 63, 3) := by decide +kernel
theorem dX10_isTreeRow_4 : decode cX10_isTreeRow 4 = .ok (.ifCond .eq 15, 3) := by decide +kernel
theorem dX10_isTreeRow_7 : decode cX10_isTreeRow 7 = .ok (.aload_n 0, 1) := by decide +kernel
theorem dX10_isTreeRow_8 : decode cX10_isTreeRow 8 = .ok (.iload_n 1, 1) := by decide +kernel
theorem dX10_isTreeRow_9 : decode cX10_isTreeRow 9 = .ok (.invokevirtual 79, 3) := by decide +kernel
theorem dX10_isTreeRow_12 : decode cX10_isTreeRow 12 = .ok (.ifCond .eq 7, 3) := by decide +kernel
theorem dX10_isTreeRow_15 : decode cX10_isTreeRow 15 = .ok (.iconst 1, 1) := by decide +kernel
theorem dX10_isTreeRow_16 : decode cX10_isTreeRow 16 = .ok (.goto 4, 3) := by decide +kernel
theorem dX10_isTreeRow_19 : decode cX10_isTreeRow 19 = .ok (.iconst 0, 1) := by decide +kernel
theorem dX10_isTreeRow_20 : decode cX10_isTreeRow 20 = .ok (.ireturn, 1) := by decide +kernel
theorem dX10_leaves_0 : decode cX10_leaves 0 = .ok (.iconst 0, 1) := by decide +kernel
theorem dX10_leaves_1 : decode cX10_leaves 1 = .ok (.istore_n 2, 1) := by decide +kernel
theorem dX10_leaves_2 : decode cX10_leaves 2 = .ok (.iconst 0, 1) := by decide +kernel
theorem dX10_leaves_3 : decode cX10_leaves 3 = .ok (.istore_n 3, 1) := by decide +kernel
theorem dX10_leaves_4 : decode cX10_leaves 4 = .ok (.iload_n 3, 1) := by decide +kernel
theorem dX10_leaves_5 : decode cX10_leaves 5 = .ok (.aload_n 0, 1) := by decide +kernel
theorem dX10_leaves_6 : decode cX10_leaves 6 = .ok (.getfield 16, 3) := by decide +kernel
theorem dX10_leaves_9 : decode cX10_leaves 9 = .ok (.iload_n 1, 1) := by decide +kernel
theorem dX10_leaves_10 : decode cX10_leaves 10 = .ok (.iaload, 1) := by decide +kernel
theorem dX10_leaves_11 : decode cX10_leaves 11 = .ok (.if_icmp .ge 32, 3) := by decide +kernel
theorem dX10_leaves_14 : decode cX10_leaves 14 = .ok (.iload_n 2, 1) := by decide +kernel
theorem dX10_leaves_15 : decode cX10_leaves 15 = .ok (.aload_n 0, 1) := by decide +kernel
theorem dX10_leaves_16 : decode cX10_leaves 16 = .ok (.getfield 13, 3) := by decide +kernel
theorem dX10_leaves_19 : decode cX10_leaves 19 = .ok (.bipush 60, 2) := by decide +kernel
theorem dX10_leaves_21 : decode cX10_leaves 21 = .ok (.iload_n 1, 1) := by decide +kernel
theorem dX10_leaves_22 : decode cX10_leaves 22 = .ok (.imul, 1) := by decide +kernel
theorem dX10_leaves_23 : decode cX10_leaves 23 = .ok (.iload_n 3, 1) := by decide +kernel
theorem dX10_leaves_24 : decode cX10_leaves 24 = .ok (.iadd, 1) := by decide +kernel
theorem dX10_leaves_25 : decode cX10_leaves 25 = .ok (.iaload, 1) := by decide +kernel
theorem dX10_leaves_26 : decode cX10_leaves 26 = .ok (.iconst (-1), 1) := by decide +kernel
theorem dX10_leaves_27 : decode cX10_leaves 27 = .ok (.if_icmp .ne 7, 3) := by decide +kernel
theorem dX10_leaves_30 : decode cX10_leaves 30 = .ok (.iconst 1, 1) := by decide +kernel
theorem dX10_leaves_31 : decode cX10_leaves 31 = .ok (.goto 4, 3) := by decide +kernel
theorem dX10_leaves_34 : decode cX10_leaves 34 = .ok (.iconst 0, 1) := by decide +kernel
theorem dX10_leaves_35 : decode cX10_leaves 35 = .ok (.iadd, 1) := by decide +kernel
theorem dX10_leaves_36 : decode cX10_leaves 36 = .ok (.istore_n 2, 1) := by decide +kernel
theorem dX10_leaves_37 : decode cX10_leaves 37 = .ok (.iinc 3 1, 3) := by decide +kernel
theorem dX10_leaves_40 : decode cX10_leaves 40 = .ok (.goto (-36), 3) := by decide +kernel
theorem dX10_leaves_43 : decode cX10_leaves 43 = .ok (.iload_n 2, 1) := by decide +kernel
theorem dX10_leaves_44 : decode cX10_leaves 44 = .ok (.ireturn, 1) := by decide +kernel
theorem dX10_height_0 : decode cX10_height 0 = .ok (.iconst 0, 1) := by decide +kernel
theorem dX10_height_1 : decode cX10_height 1 = .ok (.istore_n 2, 1) := by decide +kernel
theorem dX10_height_2 : decode cX10_height 2 = .ok (.iconst 0, 1) := by decide +kernel
theorem dX10_height_3 : decode cX10_height 3 = .ok (.istore_n 3, 1) := by decide +kernel
theorem dX10_height_4 : decode cX10_height 4 = .ok (.iconst 0, 1) := by decide +kernel
theorem dX10_height_5 : decode cX10_height 5 = .ok (.istore 4, 2) := by decide +kernel
theorem dX10_height_7 : decode cX10_height 7 = .ok (.iload 4, 2) := by decide +kernel
theorem dX10_height_9 : decode cX10_height 9 = .ok (.aload_n 0, 1) := by decide +kernel
theorem dX10_height_10 : decode cX10_height 10 = .ok (.getfield 16, 3) := by decide +kernel
theorem dX10_height_13 : decode cX10_height 13 = .ok (.iload_n 1, 1) := by decide +kernel
theorem dX10_height_14 : decode cX10_height 14 = .ok (.iaload, 1) := by decide +kernel
theorem dX10_height_15 : decode cX10_height 15 = .ok (.if_icmp .ge 117, 3) := by decide +kernel
theorem dX10_height_18 : decode cX10_height 18 = .ok (.aload_n 0, 1) := by decide +kernel
theorem dX10_height_19 : decode cX10_height 19 = .ok (.getfield 13, 3) := by decide +kernel
theorem dX10_height_22 : decode cX10_height 22 = .ok (.bipush 60, 2) := by decide +kernel
theorem dX10_height_24 : decode cX10_height 24 = .ok (.iload_n 1, 1) := by decide +kernel
theorem dX10_height_25 : decode cX10_height 25 = .ok (.imul, 1) := by decide +kernel
theorem dX10_height_26 : decode cX10_height 26 = .ok (.iload 4, 2) := by decide +kernel
theorem dX10_height_28 : decode cX10_height 28 = .ok (.iadd, 1) := by decide +kernel
theorem dX10_height_29 : decode cX10_height 29 = .ok (.iaload, 1) := by decide +kernel
theorem dX10_height_30 : decode cX10_height 30 = .ok (.istore 5, 2) := by decide +kernel
theorem dX10_height_32 : decode cX10_height 32 = .ok (.iload 5, 2) := by decide +kernel
theorem dX10_height_34 : decode cX10_height 34 = .ok (.iconst (-1), 1) := by decide +kernel
theorem dX10_height_35 : decode cX10_height 35 = .ok (.if_icmp .eq 33, 3) := by decide +kernel
theorem dX10_height_38 : decode cX10_height 38 = .ok (.aload_n 0, 1) := by decide +kernel
theorem dX10_height_39 : decode cX10_height 39 = .ok (.getfield 27, 3) := by decide +kernel
theorem dX10_height_42 : decode cX10_height 42 = .ok (.iload_n 2, 1) := by decide +kernel
theorem dX10_height_43 : decode cX10_height 43 = .ok (.aload_n 0, 1) := by decide +kernel
theorem dX10_height_44 : decode cX10_height 44 = .ok (.getfield 7, 3) := by decide +kernel
theorem dX10_height_47 : decode cX10_height 47 = .ok (.iload 5, 2) := by decide +kernel
theorem dX10_height_49 : decode cX10_height 49 = .ok (.iaload, 1) := by decide +kernel
theorem dX10_height_50 : decode cX10_height 50 = .ok (.iastore, 1) := by decide +kernel
theorem dX10_height_51 : decode cX10_height 51 = .ok (.iinc 2 1, 3) := by decide +kernel
theorem dX10_height_54 : decode cX10_height 54 = .ok (.iload_n 2, 1) := by decide +kernel
theorem dX10_height_55 : decode cX10_height 55 = .ok (.iload_n 3, 1) := by decide +kernel
theorem dX10_height_56 : decode cX10_height 56 = .ok (.if_icmp .le 7, 3) := by decide +kernel
theorem dX10_height_59 : decode cX10_height 59 = .ok (.iload_n 2, 1) := by decide +kernel
theorem dX10_height_60 : decode cX10_height 60 = .ok (.goto 4, 3) := by decide +kernel
theorem dX10_height_63 : decode cX10_height 63 = .ok (.iload_n 3, 1) := by decide +kernel
theorem dX10_height_64 : decode cX10_height 64 = .ok (.istore_n 3, 1) := by decide +kernel
theorem dX10_height_65 : decode cX10_height 65 = .ok (.goto 61, 3) := by decide +kernel
theorem dX10_height_68 : decode cX10_height 68 = .ok (.iconst 1, 1) := by decide +kernel
theorem dX10_height_69 : decode cX10_height 69 = .ok (.istore 6, 2) := by decide +kernel
theorem dX10_height_71 : decode cX10_height 71 = .ok (.iload 6, 2) := by decide +kernel
theorem dX10_height_73 : decode cX10_height 73 = .ok (.ifCond .eq 53, 3) := by decide +kernel
theorem dX10_height_76 : decode cX10_height 76 = .ok (.iload_n 2, 1) := by decide +kernel
theorem dX10_height_77 : decode cX10_height 77 = .ok (.ifCond .le 49, 3) := by decide +kernel
theorem dX10_height_80 : decode cX10_height 80 = .ok (.aload_n 0, 1) := by decide +kernel
theorem dX10_height_81 : decode cX10_height 81 = .ok (.getfield 27, 3) := by decide +kernel
theorem dX10_height_84 : decode cX10_height 84 = .ok (.iload_n 2, 1) := by decide +kernel
theorem dX10_height_85 : decode cX10_height 85 = .ok (.iconst 1, 1) := by decide +kernel
theorem dX10_height_86 : decode cX10_height 86 = .ok (.isub, 1) := by decide +kernel
theorem dX10_height_87 : decode cX10_height 87 = .ok (.dup2, 1) := by decide +kernel
theorem dX10_height_88 : decode cX10_height 88 = .ok (.iaload, 1) := by decide +kernel
theorem dX10_height_89 : decode cX10_height 89 = .ok (.iconst 1, 1) := by decide +kernel
theorem dX10_height_90 : decode cX10_height 90 = .ok (.isub, 1) := by decide +kernel
theorem dX10_height_91 : decode cX10_height 91 = .ok (.iastore, 1) := by decide +kernel
theorem dX10_height_92 : decode cX10_height 92 = .ok (.aload_n 0, 1) := by decide +kernel
theorem dX10_height_93 : decode cX10_height 93 = .ok (.getfield 27, 3) := by decide +kernel
theorem dX10_height_96 : decode cX10_height 96 = .ok (.iload_n 2, 1) := by decide +kernel
theorem dX10_height_97 : decode cX10_height 97 = .ok (.iconst 1, 1) := by decide +kernel
theorem dX10_height_98 : decode cX10_height 98 = .ok (.isub, 1) := by decide +kernel
theorem dX10_height_99 : decode cX10_height 99 = .ok (.iaload, 1) := by decide +kernel
theorem dX10_height_100 : decode cX10_height 100 = .ok (.ifCond .ne 7, 3) := by decide +kernel
theorem dX10_height_103 : decode cX10_height 103 = .ok (.iconst 1, 1) := by decide +kernel
theorem dX10_height_104 : decode cX10_height 104 = .ok (.goto 4, 3) := by decide +kernel
theorem dX10_height_107 : decode cX10_height 107 = .ok (.iconst 0, 1) := by decide +kernel
theorem dX10_height_108 : decode cX10_height 108 = .ok (.istore 6, 2) := by decide +kernel
theorem dX10_height_110 : decode cX10_height 110 = .ok (.iload_n 2, 1) := by decide +kernel
theorem dX10_height_111 : decode cX10_height 111 = .ok (.iload 6, 2) := by decide +kernel
theorem dX10_height_113 : decode cX10_height 113 = .ok (.ifCond .eq 7, 3) := by decide +kernel
theorem dX10_height_116 : decode cX10_height 116 = .ok (.iconst 1, 1) := by decide +kernel
theorem dX10_height_117 : decode cX10_height 117 = .ok (.goto 4, 3) := by decide +kernel
theorem dX10_height_120 : decode cX10_height 120 = .ok (.iconst 0, 1) := by decide +kernel
theorem dX10_height_121 : decode cX10_height 121 = .ok (.isub, 1) := by decide +kernel
theorem dX10_height_122 : decode cX10_height 122 = .ok (.istore_n 2, 1) := by decide +kernel
theorem dX10_height_123 : decode cX10_height 123 = .ok (.goto (-52), 3) := by decide +kernel
theorem dX10_height_126 : decode cX10_height 126 = .ok (.iinc 4 1, 3) := by decide +kernel
theorem dX10_height_129 : decode cX10_height 129 = .ok (.goto (-122), 3) := by decide +kernel
theorem dX10_height_132 : decode cX10_height 132 = .ok (.iload_n 3, 1) := by decide +kernel
theorem dX10_height_133 : decode cX10_height 133 = .ok (.ireturn, 1) := by decide +kernel
set_option maxRecDepth 20000 in
theorem ggX10_about_X10_isRow : GoodIn wsX10_about wsX10_isRow := goodIn_r _ [5, 6, 7, 4, 8] (by decide +kernel) (by decide +kernel)
set_option maxRecDepth 20000 in
theorem gX10_about_X10_isRow : GoodIn wsX10_about (va_wsS RX10 63 yX10_isRow wsX10_isRow) := goodIn_app (goodIn_of _ (by decide +kernel)) ggX10_about_X10_isRow
set_option maxRecDepth 20000 in
theorem ggX10_about_X10_in : GoodIn wsX10_about wsX10_in := goodIn_r _ [8] (by decide +kernel) (by decide +kernel)
set_option maxRecDepth 20000 in
theorem gX10_about_X10_in : GoodIn wsX10_about (va_wsS RX10 51 yX10_in wsX10_in) := goodIn_app (goodIn_of _ (by decide +kernel)) ggX10_about_X10_in
set_option maxRecDepth 20000 in
theorem ggX10_about_X10_isTree : GoodIn wsX10_about wsX10_isTree := goodIn_r _ [12, 1, 13, 14, 15, 4, 16, 17, 18, 19, 20, 21, 22, 32, 33, 34, 35, 36, 37, 38, 39, 40, 41, 42, 43, 44, 45, 46, 47, 48, 49, 50, 51, 52, 53] (by decide +kernel) (by decide +kernel)
set_option maxRecDepth 20000 in
theorem gX10_about_X10_isTree : GoodIn wsX10_about (wsV RX10 79 RX10 yX10_isTree wsX10_isTree) := goodIn_app (goodIn_of _ (by decide +kernel)) ggX10_about_X10_isTree
set_option maxRecDepth 20000 in
theorem ggX10_about_X10_leaves : GoodIn wsX10_about wsX10_leaves := goodIn_r _ [26, 1, 17, 32, 33, 34, 35, 36, 37, 38, 39, 40, 41, 42, 43, 44, 45, 46, 47, 48, 49, 50, 51, 52, 53] (by decide +kernel) (by decide +kernel)
set_option maxRecDepth 20000 in
theorem gX10_about_X10_leaves : GoodIn wsX10_about (wsV RX10 82 RX10 yX10_leaves wsX10_leaves) := goodIn_app (goodIn_of _ (by decide +kernel)) ggX10_about_X10_leaves
set_option maxRecDepth 20000 in
theorem ggX10_about_X10_height : GoodIn wsX10_about wsX10_height := goodIn_r _ [30, 1, 17, 31, 22, 32, 33, 34, 35, 36, 37, 38, 39, 40, 41, 42, 43, 44, 45, 46, 47, 48, 49, 50, 51, 52, 53] (by decide +kernel) (by decide +kernel)
set_option maxRecDepth 20000 in
theorem gX10_about_X10_height : GoodIn wsX10_about (wsV RX10 85 RX10 yX10_height wsX10_height) := goodIn_app (goodIn_of _ (by decide +kernel)) ggX10_about_X10_height
theorem dX10_about_0 : decode cX10_about 0 = .ok (.iload_n 1, 1) := by decide +kernel
theorem dX10_about_1 : decode cX10_about 1 = .ok (.invokestatic 63, 3) := by decide +kernel
theorem dX10_about_4 : decode cX10_about 4 = .ok (.ifCond .eq 12, 3) := by decide +kernel
theorem dX10_about_7 : decode cX10_about 7 = .ok (.iload_n 2, 1) := by decide +kernel
theorem dX10_about_8 : decode cX10_about 8 = .ok (.iconst 0, 1) := by decide +kernel
theorem dX10_about_9 : decode cX10_about 9 = .ok (.iconst 4, 1) := by decide +kernel
theorem dX10_about_10 : decode cX10_about 10 = .ok (.invokestatic 51, 3) := by decide +kernel
theorem dX10_about_13 : decode cX10_about 13 = .ok (.ifCond .ne 6, 3) := by decide +kernel
theorem dX10_about_16 : decode cX10_about 16 = .ok (.bipush (-2), 2) := by decide +kernel
theorem dX10_about_18 : decode cX10_about 18 = .ok (.ireturn, 1) := by decide +kernel
theorem dX10_about_19 : decode cX10_about 19 = .ok (.iload_n 2, 1) := by decide +kernel
theorem dX10_about_20 : decode cX10_about 20 = .ok (.iconst 2, 1) := by decide +kernel
theorem dX10_about_21 : decode cX10_about 21 = .ok (.if_icmp .ge 30, 3) := by decide +kernel
theorem dX10_about_24 : decode cX10_about 24 = .ok (.iload_n 2, 1) := by decide +kernel
theorem dX10_about_25 : decode cX10_about 25 = .ok (.ifCond .ne 12, 3) := by decide +kernel
theorem dX10_about_28 : decode cX10_about 28 = .ok (.aload_n 0, 1) := by decide +kernel
theorem dX10_about_29 : decode cX10_about 29 = .ok (.getfield 16, 3) := by decide +kernel
theorem dX10_about_32 : decode cX10_about 32 = .ok (.iload_n 1, 1) := by decide +kernel
theorem dX10_about_33 : decode cX10_about 33 = .ok (.iaload, 1) := by decide +kernel
theorem dX10_about_34 : decode cX10_about 34 = .ok (.goto 16, 3) := by decide +kernel
theorem dX10_about_37 : decode cX10_about 37 = .ok (.aload_n 0, 1) := by decide +kernel
theorem dX10_about_38 : decode cX10_about 38 = .ok (.iload_n 1, 1) := by decide +kernel
theorem dX10_about_39 : decode cX10_about 39 = .ok (.invokevirtual 79, 3) := by decide +kernel
theorem dX10_about_42 : decode cX10_about 42 = .ok (.ifCond .eq 7, 3) := by decide +kernel
theorem dX10_about_45 : decode cX10_about 45 = .ok (.iconst 1, 1) := by decide +kernel
theorem dX10_about_46 : decode cX10_about 46 = .ok (.goto 4, 3) := by decide +kernel
theorem dX10_about_49 : decode cX10_about 49 = .ok (.iconst 0, 1) := by decide +kernel
theorem dX10_about_50 : decode cX10_about 50 = .ok (.ireturn, 1) := by decide +kernel
theorem dX10_about_51 : decode cX10_about 51 = .ok (.aload_n 0, 1) := by decide +kernel
theorem dX10_about_52 : decode cX10_about 52 = .ok (.iload_n 1, 1) := by decide +kernel
theorem dX10_about_53 : decode cX10_about 53 = .ok (.invokevirtual 79, 3) := by decide +kernel
theorem dX10_about_56 : decode cX10_about 56 = .ok (.ifCond .ne 8, 3) := by decide +kernel
theorem dX10_about_59 : decode cX10_about 59 = .ok (.bipush (-3), 2) := by decide +kernel
theorem dX10_about_61 : decode cX10_about 61 = .ok (.goto 41, 3) := by decide +kernel
theorem dX10_about_64 : decode cX10_about 64 = .ok (.iload_n 2, 1) := by decide +kernel
theorem dX10_about_65 : decode cX10_about 65 = .ok (.iconst 2, 1) := by decide +kernel
theorem dX10_about_66 : decode cX10_about 66 = .ok (.if_icmp .ne 11, 3) := by decide +kernel
theorem dX10_about_69 : decode cX10_about 69 = .ok (.aload_n 0, 1) := by decide +kernel
theorem dX10_about_70 : decode cX10_about 70 = .ok (.iload_n 1, 1) := by decide +kernel
theorem dX10_about_71 : decode cX10_about 71 = .ok (.invokevirtual 82, 3) := by decide +kernel
theorem dX10_about_74 : decode cX10_about 74 = .ok (.goto 28, 3) := by decide +kernel
theorem dX10_about_77 : decode cX10_about 77 = .ok (.iload_n 2, 1) := by decide +kernel
theorem dX10_about_78 : decode cX10_about 78 = .ok (.iconst 3, 1) := by decide +kernel
theorem dX10_about_79 : decode cX10_about 79 = .ok (.if_icmp .ne 18, 3) := by decide +kernel
theorem dX10_about_82 : decode cX10_about 82 = .ok (.aload_n 0, 1) := by decide +kernel
theorem dX10_about_83 : decode cX10_about 83 = .ok (.getfield 16, 3) := by decide +kernel
theorem dX10_about_86 : decode cX10_about 86 = .ok (.iload_n 1, 1) := by decide +kernel
theorem dX10_about_87 : decode cX10_about 87 = .ok (.iaload, 1) := by decide +kernel
theorem dX10_about_88 : decode cX10_about 88 = .ok (.aload_n 0, 1) := by decide +kernel
theorem dX10_about_89 : decode cX10_about 89 = .ok (.iload_n 1, 1) := by decide +kernel
theorem dX10_about_90 : decode cX10_about 90 = .ok (.invokevirtual 82, 3) := by decide +kernel
theorem dX10_about_93 : decode cX10_about 93 = .ok (.isub, 1) := by decide +kernel
theorem dX10_about_94 : decode cX10_about 94 = .ok (.goto 8, 3) := by decide +kernel
theorem dX10_about_97 : decode cX10_about 97 = .ok (.aload_n 0, 1) := by decide +kernel
theorem dX10_about_98 : decode cX10_about 98 = .ok (.iload_n 1, 1) := by decide +kernel
theorem dX10_about_99 : decode cX10_about 99 = .ok (.invokevirtual 85, 3) := by decide +kernel
theorem dX10_about_102 : decode cX10_about 102 = .ok (.ireturn, 1) := by decide +kernel
theorem dX10_copy_0 : decode cX10_copy 0 = .ok (.iconst 0, 1) := by decide +kernel
theorem dX10_copy_1 : decode cX10_copy 1 = .ok (.istore_n 3, 1) := by decide +kernel
theorem dX10_copy_2 : decode cX10_copy 2 = .ok (.iload_n 3, 1) := by decide +kernel
theorem dX10_copy_3 : decode cX10_copy 3 = .ok (.aload_n 0, 1) := by decide +kernel
theorem dX10_copy_4 : decode cX10_copy 4 = .ok (.getfield 16, 3) := by decide +kernel
theorem dX10_copy_7 : decode cX10_copy 7 = .ok (.iload_n 1, 1) := by decide +kernel
theorem dX10_copy_8 : decode cX10_copy 8 = .ok (.iaload, 1) := by decide +kernel
theorem dX10_copy_9 : decode cX10_copy 9 = .ok (.if_icmp .ge 31, 3) := by decide +kernel
theorem dX10_copy_12 : decode cX10_copy 12 = .ok (.aload_n 0, 1) := by decide +kernel
theorem dX10_copy_13 : decode cX10_copy 13 = .ok (.getfield 13, 3) := by decide +kernel
theorem dX10_copy_16 : decode cX10_copy 16 = .ok (.bipush 60, 2) := by decide +kernel
theorem dX10_copy_18 : decode cX10_copy 18 = .ok (.iload_n 2, 1) := by decide +kernel
theorem dX10_copy_19 : decode cX10_copy 19 = .ok (.imul, 1) := by decide +kernel
theorem dX10_copy_20 : decode cX10_copy 20 = .ok (.iload_n 3, 1) := by decide +kernel
theorem dX10_copy_21 : decode cX10_copy 21 = .ok (.iadd, 1) := by decide +kernel
theorem dX10_copy_22 : decode cX10_copy 22 = .ok (.aload_n 0, 1) := by decide +kernel
theorem dX10_copy_23 : decode cX10_copy 23 = .ok (.getfield 13, 3) := by decide +kernel
theorem dX10_copy_26 : decode cX10_copy 26 = .ok (.bipush 60, 2) := by decide +kernel
theorem dX10_copy_28 : decode cX10_copy 28 = .ok (.iload_n 1, 1) := by decide +kernel
theorem dX10_copy_29 : decode cX10_copy 29 = .ok (.imul, 1) := by decide +kernel
theorem dX10_copy_30 : decode cX10_copy 30 = .ok (.iload_n 3, 1) := by decide +kernel
theorem dX10_copy_31 : decode cX10_copy 31 = .ok (.iadd, 1) := by decide +kernel
theorem dX10_copy_32 : decode cX10_copy 32 = .ok (.iaload, 1) := by decide +kernel
theorem dX10_copy_33 : decode cX10_copy 33 = .ok (.iastore, 1) := by decide +kernel
theorem dX10_copy_34 : decode cX10_copy 34 = .ok (.iinc 3 1, 3) := by decide +kernel
theorem dX10_copy_37 : decode cX10_copy 37 = .ok (.goto (-35), 3) := by decide +kernel
theorem dX10_copy_40 : decode cX10_copy 40 = .ok (.aload_n 0, 1) := by decide +kernel
theorem dX10_copy_41 : decode cX10_copy 41 = .ok (.getfield 16, 3) := by decide +kernel
theorem dX10_copy_44 : decode cX10_copy 44 = .ok (.iload_n 2, 1) := by decide +kernel
theorem dX10_copy_45 : decode cX10_copy 45 = .ok (.aload_n 0, 1) := by decide +kernel
theorem dX10_copy_46 : decode cX10_copy 46 = .ok (.getfield 16, 3) := by decide +kernel
theorem dX10_copy_49 : decode cX10_copy 49 = .ok (.iload_n 1, 1) := by decide +kernel
theorem dX10_copy_50 : decode cX10_copy 50 = .ok (.iaload, 1) := by decide +kernel
theorem dX10_copy_51 : decode cX10_copy 51 = .ok (.iastore, 1) := by decide +kernel
theorem dX10_copy_52 : decode cX10_copy 52 = .ok (.return_, 1) := by decide +kernel
set_option maxRecDepth 20000 in
theorem ggX10_adds_X10_comes : GoodIn wsX10_adds wsX10_comes := goodIn_r _ [7, 2, 1, 8, 9, 10, 11, 12, 13, 14, 15, 16, 17, 18, 19, 20, 21, 22, 23, 24, 25, 26, 27, 28, 29] (by decide +kernel) (by decide +kernel)
set_option maxRecDepth 20000 in
theorem gX10_adds_X10_comes : GoodIn wsX10_adds (wsV RX10 67 RX10 yX10_comes wsX10_comes) := goodIn_app (goodIn_of _ (by decide +kernel)) ggX10_adds_X10_comes
theorem dX10_adds_0 : decode cX10_adds 0 = .ok (.aload_n 0, 1) := by decide +kernel
theorem dX10_adds_1 : decode cX10_adds 1 = .ok (.getfield 16, 3) := by decide +kernel
theorem dX10_adds_4 : decode cX10_adds 4 = .ok (.iload_n 1, 1) := by decide +kernel
theorem dX10_adds_5 : decode cX10_adds 5 = .ok (.iaload, 1) := by decide +kernel
theorem dX10_adds_6 : decode cX10_adds 6 = .ok (.iload 4, 2) := by decide +kernel
theorem dX10_adds_8 : decode cX10_adds 8 = .ok (.iadd, 1) := by decide +kernel
theorem dX10_adds_9 : decode cX10_adds 9 = .ok (.iload_n 3, 1) := by decide +kernel
theorem dX10_adds_10 : decode cX10_adds 10 = .ok (.isub, 1) := by decide +kernel
theorem dX10_adds_11 : decode cX10_adds 11 = .ok (.bipush 60, 2) := by decide +kernel
theorem dX10_adds_13 : decode cX10_adds 13 = .ok (.if_icmp .le 5, 3) := by decide +kernel
theorem dX10_adds_16 : decode cX10_adds 16 = .ok (.iconst 0, 1) := by decide +kernel
theorem dX10_adds_17 : decode cX10_adds 17 = .ok (.ireturn, 1) := by decide +kernel
theorem dX10_adds_18 : decode cX10_adds 18 = .ok (.iload_n 3, 1) := by decide +kernel
theorem dX10_adds_19 : decode cX10_adds 19 = .ok (.istore 5, 2) := by decide +kernel
theorem dX10_adds_21 : decode cX10_adds 21 = .ok (.iload 5, 2) := by decide +kernel
theorem dX10_adds_23 : decode cX10_adds 23 = .ok (.iload 4, 2) := by decide +kernel
theorem dX10_adds_25 : decode cX10_adds 25 = .ok (.if_icmp .ge 26, 3) := by decide +kernel
theorem dX10_adds_28 : decode cX10_adds 28 = .ok (.aload_n 0, 1) := by decide +kernel
theorem dX10_adds_29 : decode cX10_adds 29 = .ok (.iload_n 1, 1) := by decide +kernel
theorem dX10_adds_30 : decode cX10_adds 30 = .ok (.aload_n 0, 1) := by decide +kernel
theorem dX10_adds_31 : decode cX10_adds 31 = .ok (.getfield 13, 3) := by decide +kernel
theorem dX10_adds_34 : decode cX10_adds 34 = .ok (.bipush 60, 2) := by decide +kernel
theorem dX10_adds_36 : decode cX10_adds 36 = .ok (.iload_n 2, 1) := by decide +kernel
theorem dX10_adds_37 : decode cX10_adds 37 = .ok (.imul, 1) := by decide +kernel
theorem dX10_adds_38 : decode cX10_adds 38 = .ok (.iload 5, 2) := by decide +kernel
theorem dX10_adds_40 : decode cX10_adds 40 = .ok (.iadd, 1) := by decide +kernel
theorem dX10_adds_41 : decode cX10_adds 41 = .ok (.iaload, 1) := by decide +kernel
theorem dX10_adds_42 : decode cX10_adds 42 = .ok (.invokevirtual 67, 3) := by decide +kernel
theorem dX10_adds_45 : decode cX10_adds 45 = .ok (.iinc 5 1, 3) := by decide +kernel
theorem dX10_adds_48 : decode cX10_adds 48 = .ok (.goto (-27), 3) := by decide +kernel
theorem dX10_adds_51 : decode cX10_adds 51 = .ok (.iconst 1, 1) := by decide +kernel
theorem dX10_adds_52 : decode cX10_adds 52 = .ok (.ireturn, 1) := by decide +kernel
set_option maxRecDepth 20000 in
theorem ggX10_graft_X10_isTreeRow : GoodIn wsX10_graft wsX10_isTreeRow := goodIn_r _ [7, 8, 9, 6, 10, 11, 12, 13, 14, 15, 16, 17, 2, 18, 19, 20, 21, 1, 22, 23, 24, 25, 26, 43, 44, 45, 46, 47, 48, 49, 50, 51, 52, 53, 54, 55, 56, 57, 58, 59, 60, 61, 62, 63, 64] (by decide +kernel) (by decide +kernel)
set_option maxRecDepth 20000 in
theorem gX10_graft_X10_isTreeRow : GoodIn wsX10_graft (wsV RX10 88 RX10 yX10_isTreeRow wsX10_isTreeRow) := goodIn_app (goodIn_of _ (by decide +kernel)) ggX10_graft_X10_isTreeRow
set_option maxRecDepth 20000 in
theorem ggX10_graft_X10_isRow : GoodIn wsX10_graft wsX10_isRow := goodIn_r _ [10, 11, 12, 6, 13] (by decide +kernel) (by decide +kernel)
set_option maxRecDepth 20000 in
theorem gX10_graft_X10_isRow : GoodIn wsX10_graft (va_wsS RX10 63 yX10_isRow wsX10_isRow) := goodIn_app (goodIn_of _ (by decide +kernel)) ggX10_graft_X10_isRow
set_option maxRecDepth 20000 in
theorem ggX10_graft_X10_leaves : GoodIn wsX10_graft wsX10_leaves := goodIn_r _ [30, 2, 1, 43, 44, 45, 46, 47, 48, 49, 50, 51, 52, 53, 54, 55, 56, 57, 58, 59, 60, 61, 62, 63, 64] (by decide +kernel) (by decide +kernel)
set_option maxRecDepth 20000 in
theorem gX10_graft_X10_leaves : GoodIn wsX10_graft (wsV RX10 82 RX10 yX10_leaves wsX10_leaves) := goodIn_app (goodIn_of _ (by decide +kernel)) ggX10_graft_X10_leaves
set_option maxRecDepth 20000 in
theorem ggX10_graft_X10_in : GoodIn wsX10_graft wsX10_in := goodIn_r _ [13] (by decide +kernel) (by decide +kernel)
set_option maxRecDepth 20000 in
theorem gX10_graft_X10_in : GoodIn wsX10_graft (va_wsS RX10 51 yX10_in wsX10_in) := goodIn_app (goodIn_of _ (by decide +kernel)) ggX10_graft_X10_in
set_option maxRecDepth 20000 in
theorem ggX10_graft_X10_adds : GoodIn wsX10_graft wsX10_adds := goodIn_r _ [34, 2, 1, 35, 36, 37, 6, 38, 43, 44, 45, 46, 47, 48, 49, 50, 51, 52, 53, 54, 55, 56, 57, 58, 59, 60, 61, 62, 63, 64] (by decide +kernel) (by decide +kernel)
set_option maxRecDepth 20000 in
theorem gX10_graft_X10_adds : GoodIn wsX10_graft (wsV RX10 91 RX10 yX10_adds wsX10_adds) := goodIn_app (goodIn_of _ (by decide +kernel)) ggX10_graft_X10_adds
set_option maxRecDepth 20000 in
theorem ggX10_graft_X10_copy : GoodIn wsX10_graft wsX10_copy := goodIn_r _ [42, 2, 1, 43, 44, 45, 46, 47, 48, 49, 50, 51, 52, 53, 54, 55, 56, 57, 58, 59, 60, 61, 62, 63, 64] (by decide +kernel) (by decide +kernel)
set_option maxRecDepth 20000 in
theorem gX10_graft_X10_copy : GoodIn wsX10_graft (wsV RX10 95 RX10 yX10_copy wsX10_copy) := goodIn_app (goodIn_of _ (by decide +kernel)) ggX10_graft_X10_copy
theorem dX10_graft_0 : decode cX10_graft 0 = .ok (.aload_n 0, 1) := by decide +kernel
theorem dX10_graft_1 : decode cX10_graft 1 = .ok (.iload_n 1, 1) := by decide +kernel
theorem dX10_graft_2 : decode cX10_graft 2 = .ok (.invokevirtual 88, 3) := by decide +kernel
theorem dX10_graft_5 : decode cX10_graft 5 = .ok (.ifCond .eq 34, 3) := by decide +kernel
theorem dX10_graft_8 : decode cX10_graft 8 = .ok (.aload_n 0, 1) := by decide +kernel
theorem dX10_graft_9 : decode cX10_graft 9 = .ok (.iload_n 3, 1) := by decide +kernel
theorem dX10_graft_10 : decode cX10_graft 10 = .ok (.invokevirtual 88, 3) := by decide +kernel
theorem dX10_graft_13 : decode cX10_graft 13 = .ok (.ifCond .eq 26, 3) := by decide +kernel
theorem dX10_graft_16 : decode cX10_graft 16 = .ok (.iload 4, 2) := by decide +kernel
theorem dX10_graft_18 : decode cX10_graft 18 = .ok (.invokestatic 63, 3) := by decide +kernel
theorem dX10_graft_21 : decode cX10_graft 21 = .ok (.ifCond .eq 18, 3) := by decide +kernel
theorem dX10_graft_24 : decode cX10_graft 24 = .ok (.iload_n 2, 1) := by decide +kernel
theorem dX10_graft_25 : decode cX10_graft 25 = .ok (.iconst 0, 1) := by decide +kernel
theorem dX10_graft_26 : decode cX10_graft 26 = .ok (.aload_n 0, 1) := by decide +kernel
theorem dX10_graft_27 : decode cX10_graft 27 = .ok (.iload_n 1, 1) := by decide +kernel
theorem dX10_graft_28 : decode cX10_graft 28 = .ok (.invokevirtual 82, 3) := by decide +kernel
theorem dX10_graft_31 : decode cX10_graft 31 = .ok (.iconst 1, 1) := by decide +kernel
theorem dX10_graft_32 : decode cX10_graft 32 = .ok (.isub, 1) := by decide +kernel
theorem dX10_graft_33 : decode cX10_graft 33 = .ok (.invokestatic 51, 3) := by decide +kernel
theorem dX10_graft_36 : decode cX10_graft 36 = .ok (.ifCond .ne 6, 3) := by decide +kernel
theorem dX10_graft_39 : decode cX10_graft 39 = .ok (.bipush (-2), 2) := by decide +kernel
theorem dX10_graft_41 : decode cX10_graft 41 = .ok (.ireturn, 1) := by decide +kernel
theorem dX10_graft_42 : decode cX10_graft 42 = .ok (.iconst (-1), 1) := by decide +kernel
theorem dX10_graft_43 : decode cX10_graft 43 = .ok (.istore 5, 2) := by decide +kernel
theorem dX10_graft_45 : decode cX10_graft 45 = .ok (.iload_n 2, 1) := by decide +kernel
theorem dX10_graft_46 : decode cX10_graft 46 = .ok (.istore 6, 2) := by decide +kernel
theorem dX10_graft_48 : decode cX10_graft 48 = .ok (.iload 6, 2) := by decide +kernel
theorem dX10_graft_50 : decode cX10_graft 50 = .ok (.ifCond .lt 35, 3) := by decide +kernel
theorem dX10_graft_53 : decode cX10_graft 53 = .ok (.iinc 5 1, 3) := by decide +kernel
theorem dX10_graft_56 : decode cX10_graft 56 = .ok (.iload 6, 2) := by decide +kernel
theorem dX10_graft_58 : decode cX10_graft 58 = .ok (.aload_n 0, 1) := by decide +kernel
theorem dX10_graft_59 : decode cX10_graft 59 = .ok (.getfield 13, 3) := by decide +kernel
theorem dX10_graft_62 : decode cX10_graft 62 = .ok (.bipush 60, 2) := by decide +kernel
theorem dX10_graft_64 : decode cX10_graft 64 = .ok (.iload_n 1, 1) := by decide +kernel
theorem dX10_graft_65 : decode cX10_graft 65 = .ok (.imul, 1) := by decide +kernel
theorem dX10_graft_66 : decode cX10_graft 66 = .ok (.iload 5, 2) := by decide +kernel
theorem dX10_graft_68 : decode cX10_graft 68 = .ok (.iadd, 1) := by decide +kernel
theorem dX10_graft_69 : decode cX10_graft 69 = .ok (.iaload, 1) := by decide +kernel
theorem dX10_graft_70 : decode cX10_graft 70 = .ok (.iconst (-1), 1) := by decide +kernel
theorem dX10_graft_71 : decode cX10_graft 71 = .ok (.if_icmp .ne 7, 3) := by decide +kernel
theorem dX10_graft_74 : decode cX10_graft 74 = .ok (.iconst 1, 1) := by decide +kernel
theorem dX10_graft_75 : decode cX10_graft 75 = .ok (.goto 4, 3) := by decide +kernel
theorem dX10_graft_78 : decode cX10_graft 78 = .ok (.iconst 0, 1) := by decide +kernel
theorem dX10_graft_79 : decode cX10_graft 79 = .ok (.isub, 1) := by decide +kernel
theorem dX10_graft_80 : decode cX10_graft 80 = .ok (.istore 6, 2) := by decide +kernel
theorem dX10_graft_82 : decode cX10_graft 82 = .ok (.goto (-34), 3) := by decide +kernel
theorem dX10_graft_85 : decode cX10_graft 85 = .ok (.aload_n 0, 1) := by decide +kernel
theorem dX10_graft_86 : decode cX10_graft 86 = .ok (.getfield 16, 3) := by decide +kernel
theorem dX10_graft_89 : decode cX10_graft 89 = .ok (.bipush 28, 2) := by decide +kernel
theorem dX10_graft_91 : decode cX10_graft 91 = .ok (.iconst 0, 1) := by decide +kernel
theorem dX10_graft_92 : decode cX10_graft 92 = .ok (.iastore, 1) := by decide +kernel
theorem dX10_graft_93 : decode cX10_graft 93 = .ok (.aload_n 0, 1) := by decide +kernel
theorem dX10_graft_94 : decode cX10_graft 94 = .ok (.bipush 28, 2) := by decide +kernel
theorem dX10_graft_96 : decode cX10_graft 96 = .ok (.iload_n 1, 1) := by decide +kernel
theorem dX10_graft_97 : decode cX10_graft 97 = .ok (.iconst 0, 1) := by decide +kernel
theorem dX10_graft_98 : decode cX10_graft 98 = .ok (.iload 5, 2) := by decide +kernel
theorem dX10_graft_100 : decode cX10_graft 100 = .ok (.invokevirtual 91, 3) := by decide +kernel
theorem dX10_graft_103 : decode cX10_graft 103 = .ok (.ifCond .eq 44, 3) := by decide +kernel
theorem dX10_graft_106 : decode cX10_graft 106 = .ok (.aload_n 0, 1) := by decide +kernel
theorem dX10_graft_107 : decode cX10_graft 107 = .ok (.bipush 28, 2) := by decide +kernel
theorem dX10_graft_109 : decode cX10_graft 109 = .ok (.iload_n 3, 1) := by decide +kernel
theorem dX10_graft_110 : decode cX10_graft 110 = .ok (.iconst 0, 1) := by decide +kernel
theorem dX10_graft_111 : decode cX10_graft 111 = .ok (.aload_n 0, 1) := by decide +kernel
theorem dX10_graft_112 : decode cX10_graft 112 = .ok (.getfield 16, 3) := by decide +kernel
theorem dX10_graft_115 : decode cX10_graft 115 = .ok (.iload_n 3, 1) := by decide +kernel
theorem dX10_graft_116 : decode cX10_graft 116 = .ok (.iaload, 1) := by decide +kernel
theorem dX10_graft_117 : decode cX10_graft 117 = .ok (.invokevirtual 91, 3) := by decide +kernel
theorem dX10_graft_120 : decode cX10_graft 120 = .ok (.ifCond .eq 27, 3) := by decide +kernel
theorem dX10_graft_123 : decode cX10_graft 123 = .ok (.aload_n 0, 1) := by decide +kernel
theorem dX10_graft_124 : decode cX10_graft 124 = .ok (.bipush 28, 2) := by decide +kernel
theorem dX10_graft_126 : decode cX10_graft 126 = .ok (.iload_n 1, 1) := by decide +kernel
theorem dX10_graft_127 : decode cX10_graft 127 = .ok (.iload 5, 2) := by decide +kernel
theorem dX10_graft_129 : decode cX10_graft 129 = .ok (.iconst 1, 1) := by decide +kernel
theorem dX10_graft_130 : decode cX10_graft 130 = .ok (.iadd, 1) := by decide +kernel
theorem dX10_graft_131 : decode cX10_graft 131 = .ok (.aload_n 0, 1) := by decide +kernel
theorem dX10_graft_132 : decode cX10_graft 132 = .ok (.getfield 16, 3) := by decide +kernel
theorem dX10_graft_135 : decode cX10_graft 135 = .ok (.iload_n 1, 1) := by decide +kernel
theorem dX10_graft_136 : decode cX10_graft 136 = .ok (.iaload, 1) := by decide +kernel
theorem dX10_graft_137 : decode cX10_graft 137 = .ok (.invokevirtual 91, 3) := by decide +kernel
theorem dX10_graft_140 : decode cX10_graft 140 = .ok (.ifCond .eq 7, 3) := by decide +kernel
theorem dX10_graft_143 : decode cX10_graft 143 = .ok (.iconst 1, 1) := by decide +kernel
theorem dX10_graft_144 : decode cX10_graft 144 = .ok (.goto 4, 3) := by decide +kernel
theorem dX10_graft_147 : decode cX10_graft 147 = .ok (.iconst 0, 1) := by decide +kernel
theorem dX10_graft_148 : decode cX10_graft 148 = .ok (.istore 7, 2) := by decide +kernel
theorem dX10_graft_150 : decode cX10_graft 150 = .ok (.iload 7, 2) := by decide +kernel
theorem dX10_graft_152 : decode cX10_graft 152 = .ok (.ifCond .ne 6, 3) := by decide +kernel
theorem dX10_graft_155 : decode cX10_graft 155 = .ok (.bipush (-4), 2) := by decide +kernel
theorem dX10_graft_157 : decode cX10_graft 157 = .ok (.ireturn, 1) := by decide +kernel
theorem dX10_graft_158 : decode cX10_graft 158 = .ok (.aload_n 0, 1) := by decide +kernel
theorem dX10_graft_159 : decode cX10_graft 159 = .ok (.bipush 28, 2) := by decide +kernel
theorem dX10_graft_161 : decode cX10_graft 161 = .ok (.iload 4, 2) := by decide +kernel
theorem dX10_graft_163 : decode cX10_graft 163 = .ok (.invokevirtual 95, 3) := by decide +kernel
theorem dX10_graft_166 : decode cX10_graft 166 = .ok (.aload_n 0, 1) := by decide +kernel
theorem dX10_graft_167 : decode cX10_graft 167 = .ok (.getfield 16, 3) := by decide +kernel
theorem dX10_graft_170 : decode cX10_graft 170 = .ok (.iload 4, 2) := by decide +kernel
theorem dX10_graft_172 : decode cX10_graft 172 = .ok (.iaload, 1) := by decide +kernel
theorem dX10_graft_173 : decode cX10_graft 173 = .ok (.ireturn, 1) := by decide +kernel
theorem dX10_isSame_0 : decode cX10_isSame 0 = .ok (.aload_n 0, 1) := by decide +kernel
theorem dX10_isSame_1 : decode cX10_isSame 1 = .ok (.getfield 16, 3) := by decide +kernel
theorem dX10_isSame_4 : decode cX10_isSame 4 = .ok (.iload_n 1, 1) := by decide +kernel
theorem dX10_isSame_5 : decode cX10_isSame 5 = .ok (.iaload, 1) := by decide +kernel
theorem dX10_isSame_6 : decode cX10_isSame 6 = .ok (.aload_n 0, 1) := by decide +kernel
theorem dX10_isSame_7 : decode cX10_isSame 7 = .ok (.getfield 16, 3) := by decide +kernel
theorem dX10_isSame_10 : decode cX10_isSame 10 = .ok (.iload_n 2, 1) := by decide +kernel
theorem dX10_isSame_11 : decode cX10_isSame 11 = .ok (.iaload, 1) := by decide +kernel
theorem dX10_isSame_12 : decode cX10_isSame 12 = .ok (.if_icmp .ne 7, 3) := by decide +kernel
theorem dX10_isSame_15 : decode cX10_isSame 15 = .ok (.iconst 1, 1) := by decide +kernel
theorem dX10_isSame_16 : decode cX10_isSame 16 = .ok (.goto 4, 3) := by decide +kernel
theorem dX10_isSame_19 : decode cX10_isSame 19 = .ok (.iconst 0, 1) := by decide +kernel
theorem dX10_isSame_20 : decode cX10_isSame 20 = .ok (.istore_n 3, 1) := by decide +kernel
theorem dX10_isSame_21 : decode cX10_isSame 21 = .ok (.iconst 0, 1) := by decide +kernel
theorem dX10_isSame_22 : decode cX10_isSame 22 = .ok (.istore 4, 2) := by decide +kernel
theorem dX10_isSame_24 : decode cX10_isSame 24 = .ok (.iload 4, 2) := by decide +kernel
theorem dX10_isSame_26 : decode cX10_isSame 26 = .ok (.aload_n 0, 1) := by decide +kernel
theorem dX10_isSame_27 : decode cX10_isSame 27 = .ok (.getfield 16, 3) := by decide +kernel
theorem dX10_isSame_30 : decode cX10_isSame 30 = .ok (.iload_n 1, 1) := by decide +kernel
theorem dX10_isSame_31 : decode cX10_isSame 31 = .ok (.iaload, 1) := by decide +kernel
theorem dX10_isSame_32 : decode cX10_isSame 32 = .ok (.if_icmp .ge 46, 3) := by decide +kernel
theorem dX10_isSame_35 : decode cX10_isSame 35 = .ok (.iload_n 3, 1) := by decide +kernel
theorem dX10_isSame_36 : decode cX10_isSame 36 = .ok (.ifCond .eq 42, 3) := by decide +kernel
theorem dX10_isSame_39 : decode cX10_isSame 39 = .ok (.aload_n 0, 1) := by decide +kernel
theorem dX10_isSame_40 : decode cX10_isSame 40 = .ok (.getfield 13, 3) := by decide +kernel
theorem dX10_isSame_43 : decode cX10_isSame 43 = .ok (.bipush 60, 2) := by decide +kernel
theorem dX10_isSame_45 : decode cX10_isSame 45 = .ok (.iload_n 1, 1) := by decide +kernel
theorem dX10_isSame_46 : decode cX10_isSame 46 = .ok (.imul, 1) := by decide +kernel
theorem dX10_isSame_47 : decode cX10_isSame 47 = .ok (.iload 4, 2) := by decide +kernel
theorem dX10_isSame_49 : decode cX10_isSame 49 = .ok (.iadd, 1) := by decide +kernel
theorem dX10_isSame_50 : decode cX10_isSame 50 = .ok (.iaload, 1) := by decide +kernel
theorem dX10_isSame_51 : decode cX10_isSame 51 = .ok (.aload_n 0, 1) := by decide +kernel
theorem dX10_isSame_52 : decode cX10_isSame 52 = .ok (.getfield 13, 3) := by decide +kernel
theorem dX10_isSame_55 : decode cX10_isSame 55 = .ok (.bipush 60, 2) := by decide +kernel
theorem dX10_isSame_57 : decode cX10_isSame 57 = .ok (.iload_n 2, 1) := by decide +kernel
theorem dX10_isSame_58 : decode cX10_isSame 58 = .ok (.imul, 1) := by decide +kernel
theorem dX10_isSame_59 : decode cX10_isSame 59 = .ok (.iload 4, 2) := by decide +kernel
theorem dX10_isSame_61 : decode cX10_isSame 61 = .ok (.iadd, 1) := by decide +kernel
theorem dX10_isSame_62 : decode cX10_isSame 62 = .ok (.iaload, 1) := by decide +kernel
theorem dX10_isSame_63 : decode cX10_isSame 63 = .ok (.if_icmp .ne 7, 3) := by decide +kernel
theorem dX10_isSame_66 : decode cX10_isSame 66 = .ok (.iconst 1, 1) := by decide +kernel
theorem dX10_isSame_67 : decode cX10_isSame 67 = .ok (.goto 4, 3) := by decide +kernel
theorem dX10_isSame_70 : decode cX10_isSame 70 = .ok (.iconst 0, 1) := by decide +kernel
theorem dX10_isSame_71 : decode cX10_isSame 71 = .ok (.istore_n 3, 1) := by decide +kernel
theorem dX10_isSame_72 : decode cX10_isSame 72 = .ok (.iinc 4 1, 3) := by decide +kernel
theorem dX10_isSame_75 : decode cX10_isSame 75 = .ok (.goto (-51), 3) := by decide +kernel
theorem dX10_isSame_78 : decode cX10_isSame 78 = .ok (.iload_n 3, 1) := by decide +kernel
theorem dX10_isSame_79 : decode cX10_isSame 79 = .ok (.ireturn, 1) := by decide +kernel
end
section
set_option maxRecDepth 20000 in
theorem ggX10_same_X10_isTreeRow : GoodIn wsX10_same wsX10_isTreeRow := goodIn_r _ [5, 6, 7, 4, 8, 9, 10, 11, 12, 13, 14, 15, 16, 17, 18, 19, 20, 21, 22, 23, 24, 25, 26, 31, 32, 33, 34, 35, 36, 37, 38, 39, 40, 41, 42, 43, 44, 45, 46, 47, 48, 49, 50, 51, 52] (by decide +kernel) (by decide +kernel)
set_option maxRecDepth 20000 in
theorem gX10_same_X10_isTreeRow : GoodIn wsX10_same (wsV RX10 88 RX10 yX10_isTreeRow wsX10_isTreeRow) := goodIn_app (goodIn_of _ (by decide +kernel)) ggX10_same_X10_isTreeRow
set_option maxRecDepth 20000 in
theorem ggX10_same_X10_isSame : GoodIn wsX10_same wsX10_isSame := goodIn_r _ [30, 16, 21, 31, 32, 33, 34, 35, 36, 37, 38, 39, 40, 41, 42, 43, 44, 45, 46, 47, 48, 49, 50, 51, 52] (by decide +kernel) (by decide +kernel)
set_option maxRecDepth 20000 in
theorem gX10_same_X10_isSame : GoodIn wsX10_same (wsV RX10 98 RX10 yX10_isSame wsX10_isSame) := goodIn_app (goodIn_of _ (by decide +kernel)) ggX10_same_X10_isSame
theorem dX10_same_0 : decode cX10_same 0 = .ok (.aload_n 0, 1) := by decide +kernel
theorem dX10_same_1 : decode cX10_same 1 = .ok (.iload_n 1, 1) := by decide +kernel
theorem dX10_same_2 : decode cX10_same 2 = .ok (.invokevirtual 88, 3) := by decide +kernel
theorem dX10_same_5 : decode cX10_same 5 = .ok (.ifCond .eq 11, 3) := by decide +kernel
theorem dX10_same_8 : decode cX10_same 8 = .ok (.aload_n 0, 1) := by decide +kernel
theorem dX10_same_9 : decode cX10_same 9 = .ok (.iload_n 2, 1) := by decide +kernel
theorem dX10_same_10 : decode cX10_same 10 = .ok (.invokevirtual 88, 3) := by decide +kernel
theorem dX10_same_13 : decode cX10_same 13 = .ok (.ifCond .ne 8, 3) := by decide +kernel
theorem dX10_same_16 : decode cX10_same 16 = .ok (.bipush (-2), 2) := by decide +kernel
theorem dX10_same_18 : decode cX10_same 18 = .ok (.goto 17, 3) := by decide +kernel
theorem dX10_same_21 : decode cX10_same 21 = .ok (.aload_n 0, 1) := by decide +kernel
theorem dX10_same_22 : decode cX10_same 22 = .ok (.iload_n 1, 1) := by decide +kernel
theorem dX10_same_23 : decode cX10_same 23 = .ok (.iload_n 2, 1) := by decide +kernel
theorem dX10_same_24 : decode cX10_same 24 = .ok (.invokevirtual 98, 3) := by decide +kernel
theorem dX10_same_27 : decode cX10_same 27 = .ok (.ifCond .eq 7, 3) := by decide +kernel
theorem dX10_same_30 : decode cX10_same 30 = .ok (.iconst 1, 1) := by decide +kernel
theorem dX10_same_31 : decode cX10_same 31 = .ok (.goto 4, 3) := by decide +kernel
theorem dX10_same_34 : decode cX10_same 34 = .ok (.iconst 0, 1) := by decide +kernel
theorem dX10_same_35 : decode cX10_same 35 = .ok (.ireturn, 1) := by decide +kernel
set_option maxRecDepth 20000 in
theorem ggX10_isLeft_X10_isTreeRow : GoodIn wsX10_isLeft wsX10_isTreeRow := goodIn_r _ [6, 7, 8, 5, 9, 10, 11, 12, 13, 14, 15, 16, 1, 17, 18, 19, 20, 21, 22, 23, 24, 25, 26, 31, 32, 33, 34, 35, 36, 37, 38, 39, 40, 41, 42, 43, 44, 45, 46, 47, 48, 49, 50, 51, 52] (by decide +kernel) (by decide +kernel)
set_option maxRecDepth 20000 in
theorem gX10_isLeft_X10_isTreeRow : GoodIn wsX10_isLeft (wsV RX10 88 RX10 yX10_isTreeRow wsX10_isTreeRow) := goodIn_app (goodIn_of _ (by decide +kernel)) ggX10_isLeft_X10_isTreeRow
set_option maxRecDepth 20000 in
theorem ggX10_isLeft_X10_leaves : GoodIn wsX10_isLeft wsX10_leaves := goodIn_r _ [30, 1, 21, 31, 32, 33, 34, 35, 36, 37, 38, 39, 40, 41, 42, 43, 44, 45, 46, 47, 48, 49, 50, 51, 52] (by decide +kernel) (by decide +kernel)
set_option maxRecDepth 20000 in
theorem gX10_isLeft_X10_leaves : GoodIn wsX10_isLeft (wsV RX10 82 RX10 yX10_leaves wsX10_leaves) := goodIn_app (goodIn_of _ (by decide +kernel)) ggX10_isLeft_X10_leaves
set_option maxRecDepth 20000 in
theorem ggX10_isLeft_X10_in : GoodIn wsX10_isLeft wsX10_in := goodIn_r _ [12] (by decide +kernel) (by decide +kernel)
set_option maxRecDepth 20000 in
theorem gX10_isLeft_X10_in : GoodIn wsX10_isLeft (va_wsS RX10 51 yX10_in wsX10_in) := goodIn_app (goodIn_of _ (by decide +kernel)) ggX10_isLeft_X10_in
theorem dX10_isLeft_0 : decode cX10_isLeft 0 = .ok (.aload_n 0, 1) := by decide +kernel
theorem dX10_isLeft_1 : decode cX10_isLeft 1 = .ok (.iload_n 1, 1) := by decide +kernel
theorem dX10_isLeft_2 : decode cX10_isLeft 2 = .ok (.invokevirtual 88, 3) := by decide +kernel
theorem dX10_isLeft_5 : decode cX10_isLeft 5 = .ok (.ifCond .eq 27, 3) := by decide +kernel
theorem dX10_isLeft_8 : decode cX10_isLeft 8 = .ok (.aload_n 0, 1) := by decide +kernel
theorem dX10_isLeft_9 : decode cX10_isLeft 9 = .ok (.getfield 16, 3) := by decide +kernel
theorem dX10_isLeft_12 : decode cX10_isLeft 12 = .ok (.iload_n 1, 1) := by decide +kernel
theorem dX10_isLeft_13 : decode cX10_isLeft 13 = .ok (.iaload, 1) := by decide +kernel
theorem dX10_isLeft_14 : decode cX10_isLeft 14 = .ok (.aload_n 0, 1) := by decide +kernel
theorem dX10_isLeft_15 : decode cX10_isLeft 15 = .ok (.iload_n 1, 1) := by decide +kernel
theorem dX10_isLeft_16 : decode cX10_isLeft 16 = .ok (.invokevirtual 82, 3) := by decide +kernel
theorem dX10_isLeft_19 : decode cX10_isLeft 19 = .ok (.isub, 1) := by decide +kernel
theorem dX10_isLeft_20 : decode cX10_isLeft 20 = .ok (.iconst 1, 1) := by decide +kernel
theorem dX10_isLeft_21 : decode cX10_isLeft 21 = .ok (.iconst 4, 1) := by decide +kernel
theorem dX10_isLeft_22 : decode cX10_isLeft 22 = .ok (.invokestatic 51, 3) := by decide +kernel
theorem dX10_isLeft_25 : decode cX10_isLeft 25 = .ok (.ifCond .eq 7, 3) := by decide +kernel
theorem dX10_isLeft_28 : decode cX10_isLeft 28 = .ok (.iconst 1, 1) := by decide +kernel
theorem dX10_isLeft_29 : decode cX10_isLeft 29 = .ok (.goto 4, 3) := by decide +kernel
theorem dX10_isLeft_32 : decode cX10_isLeft 32 = .ok (.iconst 0, 1) := by decide +kernel
theorem dX10_isLeft_33 : decode cX10_isLeft 33 = .ok (.ireturn, 1) := by decide +kernel
set_option maxRecDepth 20000 in
theorem ggX10_comesRule_X10_copy : GoodIn wsX10_comesRule wsX10_copy := goodIn_r _ [9, 3, 10, 11, 12, 13, 14, 15, 16, 17, 18, 19, 20, 21, 22, 23, 24, 25, 26, 27, 28, 29, 30, 31, 32] (by decide +kernel) (by decide +kernel)
set_option maxRecDepth 20000 in
theorem gX10_comesRule_X10_copy : GoodIn wsX10_comesRule (wsV RX10 95 RX10 yX10_copy wsX10_copy) := goodIn_app (goodIn_of _ (by decide +kernel)) ggX10_comesRule_X10_copy
theorem dX10_comesRule_0 : decode cX10_comesRule 0 = .ok (.aload_n 0, 1) := by decide +kernel
theorem dX10_comesRule_1 : decode cX10_comesRule 1 = .ok (.getfield 102, 3) := by decide +kernel
theorem dX10_comesRule_4 : decode cX10_comesRule 4 = .ok (.bipush 8, 2) := by decide +kernel
theorem dX10_comesRule_6 : decode cX10_comesRule 6 = .ok (.if_icmp .ne 6, 3) := by decide +kernel
theorem dX10_comesRule_9 : decode cX10_comesRule 9 = .ok (.bipush (-4), 2) := by decide +kernel
theorem dX10_comesRule_11 : decode cX10_comesRule 11 = .ok (.ireturn, 1) := by decide +kernel
theorem dX10_comesRule_12 : decode cX10_comesRule 12 = .ok (.aload_n 0, 1) := by decide +kernel
theorem dX10_comesRule_13 : decode cX10_comesRule 13 = .ok (.iload_n 1, 1) := by decide +kernel
theorem dX10_comesRule_14 : decode cX10_comesRule 14 = .ok (.bipush 10, 2) := by decide +kernel
theorem dX10_comesRule_16 : decode cX10_comesRule 16 = .ok (.aload_n 0, 1) := by decide +kernel
theorem dX10_comesRule_17 : decode cX10_comesRule 17 = .ok (.getfield 102, 3) := by decide +kernel
theorem dX10_comesRule_20 : decode cX10_comesRule 20 = .ok (.iadd, 1) := by decide +kernel
theorem dX10_comesRule_21 : decode cX10_comesRule 21 = .ok (.invokevirtual 95, 3) := by decide +kernel
theorem dX10_comesRule_24 : decode cX10_comesRule 24 = .ok (.aload_n 0, 1) := by decide +kernel
theorem dX10_comesRule_25 : decode cX10_comesRule 25 = .ok (.getfield 19, 3) := by decide +kernel
theorem dX10_comesRule_28 : decode cX10_comesRule 28 = .ok (.aload_n 0, 1) := by decide +kernel
theorem dX10_comesRule_29 : decode cX10_comesRule 29 = .ok (.getfield 102, 3) := by decide +kernel
theorem dX10_comesRule_32 : decode cX10_comesRule 32 = .ok (.iload_n 2, 1) := by decide +kernel
theorem dX10_comesRule_33 : decode cX10_comesRule 33 = .ok (.iconst (-1), 1) := by decide +kernel
theorem dX10_comesRule_34 : decode cX10_comesRule 34 = .ok (.if_icmp .ne 7, 3) := by decide +kernel
theorem dX10_comesRule_37 : decode cX10_comesRule 37 = .ok (.iconst 1, 1) := by decide +kernel
theorem dX10_comesRule_38 : decode cX10_comesRule 38 = .ok (.goto 4, 3) := by decide +kernel
theorem dX10_comesRule_41 : decode cX10_comesRule 41 = .ok (.iconst 0, 1) := by decide +kernel
theorem dX10_comesRule_42 : decode cX10_comesRule 42 = .ok (.bastore, 1) := by decide +kernel
theorem dX10_comesRule_43 : decode cX10_comesRule 43 = .ok (.aload_n 0, 1) := by decide +kernel
theorem dX10_comesRule_44 : decode cX10_comesRule 44 = .ok (.getfield 16, 3) := by decide +kernel
theorem dX10_comesRule_47 : decode cX10_comesRule 47 = .ok (.bipush 18, 2) := by decide +kernel
theorem dX10_comesRule_49 : decode cX10_comesRule 49 = .ok (.aload_n 0, 1) := by decide +kernel
theorem dX10_comesRule_50 : decode cX10_comesRule 50 = .ok (.getfield 102, 3) := by decide +kernel
theorem dX10_comesRule_53 : decode cX10_comesRule 53 = .ok (.iadd, 1) := by decide +kernel
theorem dX10_comesRule_54 : decode cX10_comesRule 54 = .ok (.iconst 0, 1) := by decide +kernel
theorem dX10_comesRule_55 : decode cX10_comesRule 55 = .ok (.iastore, 1) := by decide +kernel
theorem dX10_comesRule_56 : decode cX10_comesRule 56 = .ok (.iload_n 2, 1) := by decide +kernel
theorem dX10_comesRule_57 : decode cX10_comesRule 57 = .ok (.iconst (-1), 1) := by decide +kernel
theorem dX10_comesRule_58 : decode cX10_comesRule 58 = .ok (.if_icmp .eq 15, 3) := by decide +kernel
theorem dX10_comesRule_61 : decode cX10_comesRule 61 = .ok (.aload_n 0, 1) := by decide +kernel
theorem dX10_comesRule_62 : decode cX10_comesRule 62 = .ok (.iload_n 2, 1) := by decide +kernel
theorem dX10_comesRule_63 : decode cX10_comesRule 63 = .ok (.bipush 18, 2) := by decide +kernel
theorem dX10_comesRule_65 : decode cX10_comesRule 65 = .ok (.aload_n 0, 1) := by decide +kernel
theorem dX10_comesRule_66 : decode cX10_comesRule 66 = .ok (.getfield 102, 3) := by decide +kernel
theorem dX10_comesRule_69 : decode cX10_comesRule 69 = .ok (.iadd, 1) := by decide +kernel
theorem dX10_comesRule_70 : decode cX10_comesRule 70 = .ok (.invokevirtual 95, 3) := by decide +kernel
theorem dX10_comesRule_73 : decode cX10_comesRule 73 = .ok (.aload_n 0, 1) := by decide +kernel
theorem dX10_comesRule_74 : decode cX10_comesRule 74 = .ok (.dup, 1) := by decide +kernel
theorem dX10_comesRule_75 : decode cX10_comesRule 75 = .ok (.getfield 102, 3) := by decide +kernel
theorem dX10_comesRule_78 : decode cX10_comesRule 78 = .ok (.iconst 1, 1) := by decide +kernel
theorem dX10_comesRule_79 : decode cX10_comesRule 79 = .ok (.iadd, 1) := by decide +kernel
theorem dX10_comesRule_80 : decode cX10_comesRule 80 = .ok (.putfield 102, 3) := by decide +kernel
theorem dX10_comesRule_83 : decode cX10_comesRule 83 = .ok (.aload_n 0, 1) := by decide +kernel
theorem dX10_comesRule_84 : decode cX10_comesRule 84 = .ok (.iconst 0, 1) := by decide +kernel
theorem dX10_comesRule_85 : decode cX10_comesRule 85 = .ok (.putfield 59, 3) := by decide +kernel
theorem dX10_comesRule_88 : decode cX10_comesRule 88 = .ok (.aload_n 0, 1) := by decide +kernel
theorem dX10_comesRule_89 : decode cX10_comesRule 89 = .ok (.getfield 102, 3) := by decide +kernel
theorem dX10_comesRule_92 : decode cX10_comesRule 92 = .ok (.iconst 1, 1) := by decide +kernel
theorem dX10_comesRule_93 : decode cX10_comesRule 93 = .ok (.isub, 1) := by decide +kernel
theorem dX10_comesRule_94 : decode cX10_comesRule 94 = .ok (.ireturn, 1) := by decide +kernel
set_option maxRecDepth 20000 in
theorem ggX10_rule_X10_isLeft : GoodIn wsX10_rule wsX10_isLeft := goodIn_r _ [5, 6, 7, 8, 9, 4, 10, 11, 12, 13, 14, 15, 16, 17, 18, 19, 20, 21, 22, 23, 24, 25, 26, 27, 28, 29, 30, 31, 32, 33, 34, 46, 47, 48, 49, 50, 51, 52, 53, 54, 55, 56, 57, 58, 59, 60, 61, 62, 63, 64, 65, 66, 67] (by decide +kernel) (by decide +kernel)
set_option maxRecDepth 20000 in
theorem gX10_rule_X10_isLeft : GoodIn wsX10_rule (wsV RX10 105 RX10 yX10_isLeft wsX10_isLeft) := goodIn_app (goodIn_of _ (by decide +kernel)) ggX10_rule_X10_isLeft
set_option maxRecDepth 20000 in
theorem ggX10_rule_X10_isTreeRow : GoodIn wsX10_rule wsX10_isTreeRow := goodIn_r _ [10, 11, 12, 4, 13, 14, 15, 16, 17, 18, 19, 20, 6, 21, 22, 23, 24, 25, 26, 27, 28, 29, 30, 46, 47, 48, 49, 50, 51, 52, 53, 54, 55, 56, 57, 58, 59, 60, 61, 62, 63, 64, 65, 66, 67] (by decide +kernel) (by decide +kernel)
set_option maxRecDepth 20000 in
theorem gX10_rule_X10_isTreeRow : GoodIn wsX10_rule (wsV RX10 88 RX10 yX10_isTreeRow wsX10_isTreeRow) := goodIn_app (goodIn_of _ (by decide +kernel)) ggX10_rule_X10_isTreeRow
set_option maxRecDepth 20000 in
theorem ggX10_rule_X10_leaves : GoodIn wsX10_rule wsX10_leaves := goodIn_r _ [34, 6, 25, 46, 47, 48, 49, 50, 51, 52, 53, 54, 55, 56, 57, 58, 59, 60, 61, 62, 63, 64, 65, 66, 67] (by decide +kernel) (by decide +kernel)
set_option maxRecDepth 20000 in
theorem gX10_rule_X10_leaves : GoodIn wsX10_rule (wsV RX10 82 RX10 yX10_leaves wsX10_leaves) := goodIn_app (goodIn_of _ (by decide +kernel)) ggX10_rule_X10_leaves
set_option maxRecDepth 20000 in
theorem ggX10_rule_X10_comesRule : GoodIn wsX10_rule wsX10_comesRule := goodIn_r _ [38, 39, 40, 6, 41, 42, 43, 44, 4, 45, 25, 46, 47, 48, 49, 50, 51, 52, 53, 54, 55, 56, 57, 58, 59, 60, 61, 62, 63, 64, 65, 66, 67] (by decide +kernel) (by decide +kernel)
set_option maxRecDepth 20000 in
theorem gX10_rule_X10_comesRule : GoodIn wsX10_rule (wsV RX10 108 RX10 yX10_comesRule wsX10_comesRule) := goodIn_app (goodIn_of _ (by decide +kernel)) ggX10_rule_X10_comesRule
theorem dX10_rule_0 : decode cX10_rule 0 = .ok (.aload_n 0, 1) := by decide +kernel
theorem dX10_rule_1 : decode cX10_rule 1 = .ok (.iload_n 1, 1) := by decide +kernel
theorem dX10_rule_2 : decode cX10_rule 2 = .ok (.invokevirtual 105, 3) := by decide +kernel
theorem dX10_rule_5 : decode cX10_rule 5 = .ok (.ifCond .eq 11, 3) := by decide +kernel
theorem dX10_rule_8 : decode cX10_rule 8 = .ok (.aload_n 0, 1) := by decide +kernel
theorem dX10_rule_9 : decode cX10_rule 9 = .ok (.iload_n 2, 1) := by decide +kernel
theorem dX10_rule_10 : decode cX10_rule 10 = .ok (.invokevirtual 88, 3) := by decide +kernel
theorem dX10_rule_13 : decode cX10_rule 13 = .ok (.ifCond .ne 6, 3) := by decide +kernel
theorem dX10_rule_16 : decode cX10_rule 16 = .ok (.bipush (-2), 2) := by decide +kernel
theorem dX10_rule_18 : decode cX10_rule 18 = .ok (.ireturn, 1) := by decide +kernel
theorem dX10_rule_19 : decode cX10_rule 19 = .ok (.aload_n 0, 1) := by decide +kernel
theorem dX10_rule_20 : decode cX10_rule 20 = .ok (.iload_n 1, 1) := by decide +kernel
theorem dX10_rule_21 : decode cX10_rule 21 = .ok (.invokevirtual 82, 3) := by decide +kernel
theorem dX10_rule_24 : decode cX10_rule 24 = .ok (.aload_n 0, 1) := by decide +kernel
theorem dX10_rule_25 : decode cX10_rule 25 = .ok (.iload_n 2, 1) := by decide +kernel
theorem dX10_rule_26 : decode cX10_rule 26 = .ok (.invokevirtual 82, 3) := by decide +kernel
theorem dX10_rule_29 : decode cX10_rule 29 = .ok (.if_icmp .eq 8, 3) := by decide +kernel
theorem dX10_rule_32 : decode cX10_rule 32 = .ok (.bipush (-3), 2) := by decide +kernel
theorem dX10_rule_34 : decode cX10_rule 34 = .ok (.goto 9, 3) := by decide +kernel
theorem dX10_rule_37 : decode cX10_rule 37 = .ok (.aload_n 0, 1) := by decide +kernel
theorem dX10_rule_38 : decode cX10_rule 38 = .ok (.iload_n 1, 1) := by decide +kernel
theorem dX10_rule_39 : decode cX10_rule 39 = .ok (.iload_n 2, 1) := by decide +kernel
theorem dX10_rule_40 : decode cX10_rule 40 = .ok (.invokevirtual 108, 3) := by decide +kernel
theorem dX10_rule_43 : decode cX10_rule 43 = .ok (.ireturn, 1) := by decide +kernel
set_option maxRecDepth 20000 in
theorem ggX10_nought_X10_isLeft : GoodIn wsX10_nought wsX10_isLeft := goodIn_r _ [5, 6, 7, 8, 9, 4, 10, 11, 12, 13, 14, 15, 16, 17, 18, 19, 20, 21, 22, 23, 24, 25, 26, 27, 28, 29, 30, 31, 32, 33, 34, 46, 47, 48, 49, 50, 51, 52, 53, 54, 55, 56, 57, 58, 59, 60, 61, 62, 63, 64, 65, 66, 67] (by decide +kernel) (by decide +kernel)
set_option maxRecDepth 20000 in
theorem gX10_nought_X10_isLeft : GoodIn wsX10_nought (wsV RX10 105 RX10 yX10_isLeft wsX10_isLeft) := goodIn_app (goodIn_of _ (by decide +kernel)) ggX10_nought_X10_isLeft
set_option maxRecDepth 20000 in
theorem ggX10_nought_X10_comesRule : GoodIn wsX10_nought wsX10_comesRule := goodIn_r _ [38, 39, 40, 6, 41, 42, 43, 44, 4, 45, 25, 46, 47, 48, 49, 50, 51, 52, 53, 54, 55, 56, 57, 58, 59, 60, 61, 62, 63, 64, 65, 66, 67] (by decide +kernel) (by decide +kernel)
set_option maxRecDepth 20000 in
theorem gX10_nought_X10_comesRule : GoodIn wsX10_nought (wsV RX10 108 RX10 yX10_comesRule wsX10_comesRule) := goodIn_app (goodIn_of _ (by decide +kernel)) ggX10_nought_X10_comesRule
theorem dX10_nought_0 : decode cX10_nought 0 = .ok (.aload_n 0, 1) := by decide +kernel
theorem dX10_nought_1 : decode cX10_nought 1 = .ok (.iload_n 1, 1) := by decide +kernel
theorem dX10_nought_2 : decode cX10_nought 2 = .ok (.invokevirtual 105, 3) := by decide +kernel
theorem dX10_nought_5 : decode cX10_nought 5 = .ok (.ifCond .eq 12, 3) := by decide +kernel
theorem dX10_nought_8 : decode cX10_nought 8 = .ok (.aload_n 0, 1) := by decide +kernel
theorem dX10_nought_9 : decode cX10_nought 9 = .ok (.iload_n 1, 1) := by decide +kernel
theorem dX10_nought_10 : decode cX10_nought 10 = .ok (.iconst (-1), 1) := by decide +kernel
theorem dX10_nought_11 : decode cX10_nought 11 = .ok (.invokevirtual 108, 3) := by decide +kernel
theorem dX10_nought_14 : decode cX10_nought 14 = .ok (.goto 5, 3) := by decide +kernel
theorem dX10_nought_17 : decode cX10_nought 17 = .ok (.bipush (-2), 2) := by decide +kernel
theorem dX10_nought_19 : decode cX10_nought 19 = .ok (.ireturn, 1) := by decide +kernel
theorem dX10_unrule_0 : decode cX10_unrule 0 = .ok (.aload_n 0, 1) := by decide +kernel
theorem dX10_unrule_1 : decode cX10_unrule 1 = .ok (.getfield 102, 3) := by decide +kernel
theorem dX10_unrule_4 : decode cX10_unrule 4 = .ok (.istore_n 1, 1) := by decide +kernel
theorem dX10_unrule_5 : decode cX10_unrule 5 = .ok (.aload_n 0, 1) := by decide +kernel
theorem dX10_unrule_6 : decode cX10_unrule 6 = .ok (.iconst 0, 1) := by decide +kernel
theorem dX10_unrule_7 : decode cX10_unrule 7 = .ok (.putfield 102, 3) := by decide +kernel
theorem dX10_unrule_10 : decode cX10_unrule 10 = .ok (.aload_n 0, 1) := by decide +kernel
theorem dX10_unrule_11 : decode cX10_unrule 11 = .ok (.iconst 0, 1) := by decide +kernel
theorem dX10_unrule_12 : decode cX10_unrule 12 = .ok (.putfield 59, 3) := by decide +kernel
theorem dX10_unrule_15 : decode cX10_unrule 15 = .ok (.iload_n 1, 1) := by decide +kernel
theorem dX10_unrule_16 : decode cX10_unrule 16 = .ok (.ireturn, 1) := by decide +kernel
set_option maxRecDepth 20000 in
theorem ggX10_isRule_X10_in : GoodIn wsX10_isRule wsX10_in := goodIn_r _ [5] (by decide +kernel) (by decide +kernel)
set_option maxRecDepth 20000 in
theorem gX10_isRule_X10_in : GoodIn wsX10_isRule (va_wsS RX10 51 yX10_in wsX10_in) := goodIn_app (goodIn_of _ (by decide +kernel)) ggX10_isRule_X10_in
theorem dX10_isRule_0 : decode cX10_isRule 0 = .ok (.iload_n 1, 1) := by decide +kernel
theorem dX10_isRule_1 : decode cX10_isRule 1 = .ok (.iconst 0, 1) := by decide +kernel
theorem dX10_isRule_2 : decode cX10_isRule 2 = .ok (.aload_n 0, 1) := by decide +kernel
theorem dX10_isRule_3 : decode cX10_isRule 3 = .ok (.getfield 102, 3) := by decide +kernel
theorem dX10_isRule_6 : decode cX10_isRule 6 = .ok (.iconst 1, 1) := by decide +kernel
theorem dX10_isRule_7 : decode cX10_isRule 7 = .ok (.isub, 1) := by decide +kernel
theorem dX10_isRule_8 : decode cX10_isRule 8 = .ok (.invokestatic 51, 3) := by decide +kernel
theorem dX10_isRule_11 : decode cX10_isRule 11 = .ok (.ireturn, 1) := by decide +kernel
set_option maxRecDepth 20000 in
theorem ggX10_side_X10_isRule : GoodIn wsX10_side wsX10_isRule := goodIn_r _ [6, 7, 8, 9, 5, 10, 19, 20, 21, 22, 23, 24, 25, 26, 27, 28, 29, 30, 31, 32, 33, 34, 35, 36, 37, 38, 39, 40] (by decide +kernel) (by decide +kernel)
set_option maxRecDepth 20000 in
theorem gX10_side_X10_isRule : GoodIn wsX10_side (wsV RX10 111 RX10 yX10_isRule wsX10_isRule) := goodIn_app (goodIn_of _ (by decide +kernel)) ggX10_side_X10_isRule
set_option maxRecDepth 20000 in
theorem ggX10_side_X10_in : GoodIn wsX10_side wsX10_in := goodIn_r _ [10] (by decide +kernel) (by decide +kernel)
set_option maxRecDepth 20000 in
theorem gX10_side_X10_in : GoodIn wsX10_side (va_wsS RX10 51 yX10_in wsX10_in) := goodIn_app (goodIn_of _ (by decide +kernel)) ggX10_side_X10_in
set_option maxRecDepth 20000 in
theorem ggX10_side_X10_isRow : GoodIn wsX10_side wsX10_isRow := goodIn_r _ [13, 8, 9, 5, 10] (by decide +kernel) (by decide +kernel)
set_option maxRecDepth 20000 in
theorem gX10_side_X10_isRow : GoodIn wsX10_side (va_wsS RX10 63 yX10_isRow wsX10_isRow) := goodIn_app (goodIn_of _ (by decide +kernel)) ggX10_side_X10_isRow
set_option maxRecDepth 20000 in
theorem ggX10_side_X10_copy : GoodIn wsX10_side wsX10_copy := goodIn_r _ [17, 1, 18, 19, 20, 21, 22, 23, 24, 25, 26, 27, 28, 29, 30, 31, 32, 33, 34, 35, 36, 37, 38, 39, 40] (by decide +kernel) (by decide +kernel)
set_option maxRecDepth 20000 in
theorem gX10_side_X10_copy : GoodIn wsX10_side (wsV RX10 95 RX10 yX10_copy wsX10_copy) := goodIn_app (goodIn_of _ (by decide +kernel)) ggX10_side_X10_copy
theorem dX10_side_0 : decode cX10_side 0 = .ok (.aload_n 0, 1) := by decide +kernel
theorem dX10_side_1 : decode cX10_side 1 = .ok (.iload_n 1, 1) := by decide +kernel
theorem dX10_side_2 : decode cX10_side 2 = .ok (.invokevirtual 111, 3) := by decide +kernel
theorem dX10_side_5 : decode cX10_side 5 = .ok (.ifCond .eq 19, 3) := by decide +kernel
theorem dX10_side_8 : decode cX10_side 8 = .ok (.iload_n 2, 1) := by decide +kernel
theorem dX10_side_9 : decode cX10_side 9 = .ok (.iconst 0, 1) := by decide +kernel
theorem dX10_side_10 : decode cX10_side 10 = .ok (.iconst 1, 1) := by decide +kernel
theorem dX10_side_11 : decode cX10_side 11 = .ok (.invokestatic 51, 3) := by decide +kernel
theorem dX10_side_14 : decode cX10_side 14 = .ok (.ifCond .eq 10, 3) := by decide +kernel
theorem dX10_side_17 : decode cX10_side 17 = .ok (.iload_n 3, 1) := by decide +kernel
theorem dX10_side_18 : decode cX10_side 18 = .ok (.invokestatic 63, 3) := by decide +kernel
theorem dX10_side_21 : decode cX10_side 21 = .ok (.ifCond .ne 6, 3) := by decide +kernel
theorem dX10_side_24 : decode cX10_side 24 = .ok (.bipush (-2), 2) := by decide +kernel
theorem dX10_side_26 : decode cX10_side 26 = .ok (.ireturn, 1) := by decide +kernel
theorem dX10_side_27 : decode cX10_side 27 = .ok (.aload_n 0, 1) := by decide +kernel
theorem dX10_side_28 : decode cX10_side 28 = .ok (.iload_n 2, 1) := by decide +kernel
theorem dX10_side_29 : decode cX10_side 29 = .ok (.ifCond .ne 8, 3) := by decide +kernel
theorem dX10_side_32 : decode cX10_side 32 = .ok (.bipush 10, 2) := by decide +kernel
theorem dX10_side_34 : decode cX10_side 34 = .ok (.goto 5, 3) := by decide +kernel
theorem dX10_side_37 : decode cX10_side 37 = .ok (.bipush 18, 2) := by decide +kernel
theorem dX10_side_39 : decode cX10_side 39 = .ok (.iload_n 1, 1) := by decide +kernel
theorem dX10_side_40 : decode cX10_side 40 = .ok (.iadd, 1) := by decide +kernel
theorem dX10_side_41 : decode cX10_side 41 = .ok (.iload_n 3, 1) := by decide +kernel
theorem dX10_side_42 : decode cX10_side 42 = .ok (.invokevirtual 95, 3) := by decide +kernel
theorem dX10_side_45 : decode cX10_side 45 = .ok (.aload_n 0, 1) := by decide +kernel
theorem dX10_side_46 : decode cX10_side 46 = .ok (.getfield 16, 3) := by decide +kernel
theorem dX10_side_49 : decode cX10_side 49 = .ok (.iload_n 3, 1) := by decide +kernel
theorem dX10_side_50 : decode cX10_side 50 = .ok (.iaload, 1) := by decide +kernel
theorem dX10_side_51 : decode cX10_side 51 = .ok (.ireturn, 1) := by decide +kernel
set_option maxRecDepth 20000 in
theorem ggX10_lies_X10_end : GoodIn wsX10_lies wsX10_end := goodIn_r _ [11, 2, 3, 12, 13, 14, 10, 15, 16, 17, 18, 19, 20, 21, 22, 23, 24, 25, 26, 27, 28, 29, 30, 31, 32, 33, 34, 35, 36, 37, 38] (by decide +kernel) (by decide +kernel)
set_option maxRecDepth 20000 in
theorem gX10_lies_X10_end : GoodIn wsX10_lies (wsV RX10 75 RX10 yX10_end wsX10_end) := goodIn_app (goodIn_of _ (by decide +kernel)) ggX10_lies_X10_end
theorem dX10_lies_0 : decode cX10_lies 0 = .ok (.bipush 10, 2) := by decide +kernel
theorem dX10_lies_2 : decode cX10_lies 2 = .ok (.iload_n 1, 1) := by decide +kernel
theorem dX10_lies_3 : decode cX10_lies 3 = .ok (.iadd, 1) := by decide +kernel
theorem dX10_lies_4 : decode cX10_lies 4 = .ok (.istore 4, 2) := by decide +kernel
theorem dX10_lies_6 : decode cX10_lies 6 = .ok (.iload_n 3, 1) := by decide +kernel
theorem dX10_lies_7 : decode cX10_lies 7 = .ok (.istore 5, 2) := by decide +kernel
theorem dX10_lies_9 : decode cX10_lies 9 = .ok (.aload_n 0, 1) := by decide +kernel
theorem dX10_lies_10 : decode cX10_lies 10 = .ok (.iconst 0, 1) := by decide +kernel
theorem dX10_lies_11 : decode cX10_lies 11 = .ok (.putfield 114, 3) := by decide +kernel
theorem dX10_lies_14 : decode cX10_lies 14 = .ok (.iconst 0, 1) := by decide +kernel
theorem dX10_lies_15 : decode cX10_lies 15 = .ok (.istore 6, 2) := by decide +kernel
theorem dX10_lies_17 : decode cX10_lies 17 = .ok (.iload 6, 2) := by decide +kernel
theorem dX10_lies_19 : decode cX10_lies 19 = .ok (.aload_n 0, 1) := by decide +kernel
theorem dX10_lies_20 : decode cX10_lies 20 = .ok (.getfield 16, 3) := by decide +kernel
theorem dX10_lies_23 : decode cX10_lies 23 = .ok (.iload 4, 2) := by decide +kernel
theorem dX10_lies_25 : decode cX10_lies 25 = .ok (.iaload, 1) := by decide +kernel
theorem dX10_lies_26 : decode cX10_lies 26 = .ok (.if_icmp .ge 121, 3) := by decide +kernel
theorem dX10_lies_29 : decode cX10_lies 29 = .ok (.iload 5, 2) := by decide +kernel
theorem dX10_lies_31 : decode cX10_lies 31 = .ok (.aload_n 0, 1) := by decide +kernel
theorem dX10_lies_32 : decode cX10_lies 32 = .ok (.getfield 16, 3) := by decide +kernel
theorem dX10_lies_35 : decode cX10_lies 35 = .ok (.iload_n 2, 1) := by decide +kernel
theorem dX10_lies_36 : decode cX10_lies 36 = .ok (.iaload, 1) := by decide +kernel
theorem dX10_lies_37 : decode cX10_lies 37 = .ok (.if_icmp .lt 5, 3) := by decide +kernel
theorem dX10_lies_40 : decode cX10_lies 40 = .ok (.iconst 0, 1) := by decide +kernel
theorem dX10_lies_41 : decode cX10_lies 41 = .ok (.ireturn, 1) := by decide +kernel
theorem dX10_lies_42 : decode cX10_lies 42 = .ok (.aload_n 0, 1) := by decide +kernel
theorem dX10_lies_43 : decode cX10_lies 43 = .ok (.getfield 13, 3) := by decide +kernel
theorem dX10_lies_46 : decode cX10_lies 46 = .ok (.bipush 60, 2) := by decide +kernel
theorem dX10_lies_48 : decode cX10_lies 48 = .ok (.iload 4, 2) := by decide +kernel
theorem dX10_lies_50 : decode cX10_lies 50 = .ok (.imul, 1) := by decide +kernel
theorem dX10_lies_51 : decode cX10_lies 51 = .ok (.iload 6, 2) := by decide +kernel
theorem dX10_lies_53 : decode cX10_lies 53 = .ok (.iadd, 1) := by decide +kernel
theorem dX10_lies_54 : decode cX10_lies 54 = .ok (.iaload, 1) := by decide +kernel
theorem dX10_lies_55 : decode cX10_lies 55 = .ok (.istore 7, 2) := by decide +kernel
theorem dX10_lies_57 : decode cX10_lies 57 = .ok (.iload 7, 2) := by decide +kernel
theorem dX10_lies_59 : decode cX10_lies 59 = .ok (.iconst (-1), 1) := by decide +kernel
theorem dX10_lies_60 : decode cX10_lies 60 = .ok (.if_icmp .ne 59, 3) := by decide +kernel
theorem dX10_lies_63 : decode cX10_lies 63 = .ok (.aload_n 0, 1) := by decide +kernel
theorem dX10_lies_64 : decode cX10_lies 64 = .ok (.iload_n 2, 1) := by decide +kernel
theorem dX10_lies_65 : decode cX10_lies 65 = .ok (.iload 5, 2) := by decide +kernel
theorem dX10_lies_67 : decode cX10_lies 67 = .ok (.invokevirtual 75, 3) := by decide +kernel
theorem dX10_lies_70 : decode cX10_lies 70 = .ok (.istore 8, 2) := by decide +kernel
theorem dX10_lies_72 : decode cX10_lies 72 = .ok (.iload 8, 2) := by decide +kernel
theorem dX10_lies_74 : decode cX10_lies 74 = .ok (.iconst (-1), 1) := by decide +kernel
theorem dX10_lies_75 : decode cX10_lies 75 = .ok (.if_icmp .ne 5, 3) := by decide +kernel
theorem dX10_lies_78 : decode cX10_lies 78 = .ok (.iconst 0, 1) := by decide +kernel
theorem dX10_lies_79 : decode cX10_lies 79 = .ok (.ireturn, 1) := by decide +kernel
theorem dX10_lies_80 : decode cX10_lies 80 = .ok (.aload_n 0, 1) := by decide +kernel
theorem dX10_lies_81 : decode cX10_lies 81 = .ok (.getfield 30, 3) := by decide +kernel
theorem dX10_lies_84 : decode cX10_lies 84 = .ok (.aload_n 0, 1) := by decide +kernel
theorem dX10_lies_85 : decode cX10_lies 85 = .ok (.getfield 114, 3) := by decide +kernel
theorem dX10_lies_88 : decode cX10_lies 88 = .ok (.iload 5, 2) := by decide +kernel
theorem dX10_lies_90 : decode cX10_lies 90 = .ok (.iastore, 1) := by decide +kernel
theorem dX10_lies_91 : decode cX10_lies 91 = .ok (.aload_n 0, 1) := by decide +kernel
theorem dX10_lies_92 : decode cX10_lies 92 = .ok (.getfield 33, 3) := by decide +kernel
theorem dX10_lies_95 : decode cX10_lies 95 = .ok (.aload_n 0, 1) := by decide +kernel
theorem dX10_lies_96 : decode cX10_lies 96 = .ok (.getfield 114, 3) := by decide +kernel
theorem dX10_lies_99 : decode cX10_lies 99 = .ok (.iload 8, 2) := by decide +kernel
theorem dX10_lies_101 : decode cX10_lies 101 = .ok (.iastore, 1) := by decide +kernel
theorem dX10_lies_102 : decode cX10_lies 102 = .ok (.aload_n 0, 1) := by decide +kernel
theorem dX10_lies_103 : decode cX10_lies 103 = .ok (.dup, 1) := by decide +kernel
theorem dX10_lies_104 : decode cX10_lies 104 = .ok (.getfield 114, 3) := by decide +kernel
theorem dX10_lies_107 : decode cX10_lies 107 = .ok (.iconst 1, 1) := by decide +kernel
theorem dX10_lies_108 : decode cX10_lies 108 = .ok (.iadd, 1) := by decide +kernel
theorem dX10_lies_109 : decode cX10_lies 109 = .ok (.putfield 114, 3) := by decide +kernel
theorem dX10_lies_112 : decode cX10_lies 112 = .ok (.iload 8, 2) := by decide +kernel
theorem dX10_lies_114 : decode cX10_lies 114 = .ok (.istore 5, 2) := by decide +kernel
theorem dX10_lies_116 : decode cX10_lies 116 = .ok (.goto 25, 3) := by decide +kernel
theorem dX10_lies_119 : decode cX10_lies 119 = .ok (.aload_n 0, 1) := by decide +kernel
theorem dX10_lies_120 : decode cX10_lies 120 = .ok (.getfield 13, 3) := by decide +kernel
theorem dX10_lies_123 : decode cX10_lies 123 = .ok (.bipush 60, 2) := by decide +kernel
theorem dX10_lies_125 : decode cX10_lies 125 = .ok (.iload_n 2, 1) := by decide +kernel
theorem dX10_lies_126 : decode cX10_lies 126 = .ok (.imul, 1) := by decide +kernel
theorem dX10_lies_127 : decode cX10_lies 127 = .ok (.iload 5, 2) := by decide +kernel
theorem dX10_lies_129 : decode cX10_lies 129 = .ok (.iadd, 1) := by decide +kernel
theorem dX10_lies_130 : decode cX10_lies 130 = .ok (.iaload, 1) := by decide +kernel
theorem dX10_lies_131 : decode cX10_lies 131 = .ok (.iload 7, 2) := by decide +kernel
theorem dX10_lies_133 : decode cX10_lies 133 = .ok (.if_icmp .eq 5, 3) := by decide +kernel
theorem dX10_lies_136 : decode cX10_lies 136 = .ok (.iconst 0, 1) := by decide +kernel
theorem dX10_lies_137 : decode cX10_lies 137 = .ok (.ireturn, 1) := by decide +kernel
theorem dX10_lies_138 : decode cX10_lies 138 = .ok (.iinc 5 1, 3) := by decide +kernel
theorem dX10_lies_141 : decode cX10_lies 141 = .ok (.iinc 6 1, 3) := by decide +kernel
theorem dX10_lies_144 : decode cX10_lies 144 = .ok (.goto (-127), 3) := by decide +kernel
theorem dX10_lies_147 : decode cX10_lies 147 = .ok (.aload_n 0, 1) := by decide +kernel
theorem dX10_lies_148 : decode cX10_lies 148 = .ok (.iload 5, 2) := by decide +kernel
theorem dX10_lies_150 : decode cX10_lies 150 = .ok (.putfield 117, 3) := by decide +kernel
theorem dX10_lies_153 : decode cX10_lies 153 = .ok (.iconst 1, 1) := by decide +kernel
theorem dX10_lies_154 : decode cX10_lies 154 = .ok (.ireturn, 1) := by decide +kernel
set_option maxRecDepth 20000 in
theorem ggX10_firstPlace_X10_lies : GoodIn wsX10_firstPlace wsX10_lies := goodIn_r _ [6, 7, 1, 8, 9, 10, 11, 12, 13, 14, 5, 15, 16, 17, 18, 19, 20, 21, 22, 23, 24, 25, 26, 27, 28, 29, 30, 31, 32, 33, 34, 35, 36, 37, 38, 39, 40, 41, 42] (by decide +kernel) (by decide +kernel)
set_option maxRecDepth 20000 in
theorem gX10_firstPlace_X10_lies : GoodIn wsX10_firstPlace (wsV RX10 120 RX10 yX10_lies wsX10_lies) := goodIn_app (goodIn_of _ (by decide +kernel)) ggX10_firstPlace_X10_lies
theorem dX10_firstPlace_0 : decode cX10_firstPlace 0 = .ok (.iconst 0, 1) := by decide +kernel
theorem dX10_firstPlace_1 : decode cX10_firstPlace 1 = .ok (.istore_n 3, 1) := by decide +kernel
theorem dX10_firstPlace_2 : decode cX10_firstPlace 2 = .ok (.iload_n 3, 1) := by decide +kernel
theorem dX10_firstPlace_3 : decode cX10_firstPlace 3 = .ok (.aload_n 0, 1) := by decide +kernel
theorem dX10_firstPlace_4 : decode cX10_firstPlace 4 = .ok (.getfield 16, 3) := by decide +kernel
theorem dX10_firstPlace_7 : decode cX10_firstPlace 7 = .ok (.iload_n 2, 1) := by decide +kernel
theorem dX10_firstPlace_8 : decode cX10_firstPlace 8 = .ok (.iaload, 1) := by decide +kernel
theorem dX10_firstPlace_9 : decode cX10_firstPlace 9 = .ok (.if_icmp .ge 21, 3) := by decide +kernel
theorem dX10_firstPlace_12 : decode cX10_firstPlace 12 = .ok (.aload_n 0, 1) := by decide +kernel
theorem dX10_firstPlace_13 : decode cX10_firstPlace 13 = .ok (.iload_n 1, 1) := by decide +kernel
theorem dX10_firstPlace_14 : decode cX10_firstPlace 14 = .ok (.iload_n 2, 1) := by decide +kernel
theorem dX10_firstPlace_15 : decode cX10_firstPlace 15 = .ok (.iload_n 3, 1) := by decide +kernel
theorem dX10_firstPlace_16 : decode cX10_firstPlace 16 = .ok (.invokevirtual 120, 3) := by decide +kernel
theorem dX10_firstPlace_19 : decode cX10_firstPlace 19 = .ok (.ifCond .eq 5, 3) := by decide +kernel
theorem dX10_firstPlace_22 : decode cX10_firstPlace 22 = .ok (.iload_n 3, 1) := by decide +kernel
theorem dX10_firstPlace_23 : decode cX10_firstPlace 23 = .ok (.ireturn, 1) := by decide +kernel
theorem dX10_firstPlace_24 : decode cX10_firstPlace 24 = .ok (.iinc 3 1, 3) := by decide +kernel
theorem dX10_firstPlace_27 : decode cX10_firstPlace 27 = .ok (.goto (-25), 3) := by decide +kernel
theorem dX10_firstPlace_30 : decode cX10_firstPlace 30 = .ok (.iconst (-1), 1) := by decide +kernel
theorem dX10_firstPlace_31 : decode cX10_firstPlace 31 = .ok (.ireturn, 1) := by decide +kernel
set_option maxRecDepth 20000 in
theorem ggX10_matches_X10_isRule : GoodIn wsX10_matches wsX10_isRule := goodIn_r _ [5, 6, 7, 8, 4, 9, 44, 45, 46, 47, 48, 49, 50, 51, 52, 53, 54, 55, 56, 57, 58, 59, 60, 61, 62, 63, 64, 65] (by decide +kernel) (by decide +kernel)
set_option maxRecDepth 20000 in
theorem gX10_matches_X10_isRule : GoodIn wsX10_matches (wsV RX10 111 RX10 yX10_isRule wsX10_isRule) := goodIn_app (goodIn_of _ (by decide +kernel)) ggX10_matches_X10_isRule
set_option maxRecDepth 20000 in
theorem ggX10_matches_X10_isTreeRow : GoodIn wsX10_matches wsX10_isTreeRow := goodIn_r _ [13, 14, 15, 4, 16, 7, 8, 9, 17, 18, 19, 20, 21, 22, 23, 24, 25, 26, 27, 28, 29, 30, 31, 44, 45, 46, 47, 48, 49, 50, 51, 52, 53, 54, 55, 56, 57, 58, 59, 60, 61, 62, 63, 64, 65] (by decide +kernel) (by decide +kernel)
set_option maxRecDepth 20000 in
theorem gX10_matches_X10_isTreeRow : GoodIn wsX10_matches (wsV RX10 88 RX10 yX10_isTreeRow wsX10_isTreeRow) := goodIn_app (goodIn_of _ (by decide +kernel)) ggX10_matches_X10_isTreeRow
set_option maxRecDepth 20000 in
theorem ggX10_matches_X10_firstPlace : GoodIn wsX10_matches wsX10_firstPlace := goodIn_r _ [35, 21, 36, 37, 38, 4, 39, 40, 26, 41, 42, 43, 22, 23, 24, 25, 27, 28, 29, 30, 31, 44, 45, 46, 47, 48, 49, 50, 51, 52, 53, 54, 55, 56, 57, 58, 59, 60, 61, 62, 63, 64, 65] (by decide +kernel) (by decide +kernel)
set_option maxRecDepth 20000 in
theorem gX10_matches_X10_firstPlace : GoodIn wsX10_matches (wsV RX10 123 RX10 yX10_firstPlace wsX10_firstPlace) := goodIn_app (goodIn_of _ (by decide +kernel)) ggX10_matches_X10_firstPlace
theorem dX10_matches_0 : decode cX10_matches 0 = .ok (.aload_n 0, 1) := by decide +kernel
theorem dX10_matches_1 : decode cX10_matches 1 = .ok (.iload_n 1, 1) := by decide +kernel
theorem dX10_matches_2 : decode cX10_matches 2 = .ok (.invokevirtual 111, 3) := by decide +kernel
theorem dX10_matches_5 : decode cX10_matches 5 = .ok (.ifCond .eq 20, 3) := by decide +kernel
theorem dX10_matches_8 : decode cX10_matches 8 = .ok (.aload_n 0, 1) := by decide +kernel
theorem dX10_matches_9 : decode cX10_matches 9 = .ok (.iload_n 2, 1) := by decide +kernel
theorem dX10_matches_10 : decode cX10_matches 10 = .ok (.invokevirtual 88, 3) := by decide +kernel
theorem dX10_matches_13 : decode cX10_matches 13 = .ok (.ifCond .eq 12, 3) := by decide +kernel
theorem dX10_matches_16 : decode cX10_matches 16 = .ok (.aload_n 0, 1) := by decide +kernel
theorem dX10_matches_17 : decode cX10_matches 17 = .ok (.iload_n 1, 1) := by decide +kernel
theorem dX10_matches_18 : decode cX10_matches 18 = .ok (.iload_n 2, 1) := by decide +kernel
theorem dX10_matches_19 : decode cX10_matches 19 = .ok (.invokevirtual 123, 3) := by decide +kernel
theorem dX10_matches_22 : decode cX10_matches 22 = .ok (.goto 5, 3) := by decide +kernel
theorem dX10_matches_25 : decode cX10_matches 25 = .ok (.bipush (-2), 2) := by decide +kernel
theorem dX10_matches_27 : decode cX10_matches 27 = .ok (.ireturn, 1) := by decide +kernel
set_option maxRecDepth 20000 in
theorem ggX10_uses_X10_adds : GoodIn wsX10_uses wsX10_adds := goodIn_r _ [11, 2, 3, 12, 13, 14, 10, 15, 20, 21, 22, 23, 24, 25, 26, 27, 28, 29, 30, 31, 32, 33, 34, 35, 36, 37, 38, 39, 40, 41] (by decide +kernel) (by decide +kernel)
set_option maxRecDepth 20000 in
theorem gX10_uses_X10_adds : GoodIn wsX10_uses (wsV RX10 91 RX10 yX10_adds wsX10_adds) := goodIn_app (goodIn_of _ (by decide +kernel)) ggX10_uses_X10_adds
set_option maxRecDepth 20000 in
theorem ggX10_uses_X10_copy : GoodIn wsX10_uses wsX10_copy := goodIn_r _ [19, 2, 3, 20, 21, 22, 23, 24, 25, 26, 27, 28, 29, 30, 31, 32, 33, 34, 35, 36, 37, 38, 39, 40, 41] (by decide +kernel) (by decide +kernel)
set_option maxRecDepth 20000 in
theorem gX10_uses_X10_copy : GoodIn wsX10_uses (wsV RX10 95 RX10 yX10_copy wsX10_copy) := goodIn_app (goodIn_of _ (by decide +kernel)) ggX10_uses_X10_copy
theorem dX10_uses_0 : decode cX10_uses 0 = .ok (.aload_n 0, 1) := by decide +kernel
theorem dX10_uses_1 : decode cX10_uses 1 = .ok (.getfield 19, 3) := by decide +kernel
theorem dX10_uses_4 : decode cX10_uses 4 = .ok (.iload_n 1, 1) := by decide +kernel
theorem dX10_uses_5 : decode cX10_uses 5 = .ok (.baload, 1) := by decide +kernel
theorem dX10_uses_6 : decode cX10_uses 6 = .ok (.ifCond .eq 12, 3) := by decide +kernel
theorem dX10_uses_9 : decode cX10_uses 9 = .ok (.aload_n 0, 1) := by decide +kernel
theorem dX10_uses_10 : decode cX10_uses 10 = .ok (.getfield 16, 3) := by decide +kernel
theorem dX10_uses_13 : decode cX10_uses 13 = .ok (.iload_n 2, 1) := by decide +kernel
theorem dX10_uses_14 : decode cX10_uses 14 = .ok (.iconst 0, 1) := by decide +kernel
theorem dX10_uses_15 : decode cX10_uses 15 = .ok (.iastore, 1) := by decide +kernel
theorem dX10_uses_16 : decode cX10_uses 16 = .ok (.iconst 2, 1) := by decide +kernel
theorem dX10_uses_17 : decode cX10_uses 17 = .ok (.ireturn, 1) := by decide +kernel
theorem dX10_uses_18 : decode cX10_uses 18 = .ok (.bipush 18, 2) := by decide +kernel
theorem dX10_uses_20 : decode cX10_uses 20 = .ok (.iload_n 1, 1) := by decide +kernel
theorem dX10_uses_21 : decode cX10_uses 21 = .ok (.iadd, 1) := by decide +kernel
theorem dX10_uses_22 : decode cX10_uses 22 = .ok (.istore 4, 2) := by decide +kernel
theorem dX10_uses_24 : decode cX10_uses 24 = .ok (.aload_n 0, 1) := by decide +kernel
theorem dX10_uses_25 : decode cX10_uses 25 = .ok (.getfield 16, 3) := by decide +kernel
theorem dX10_uses_28 : decode cX10_uses 28 = .ok (.bipush 28, 2) := by decide +kernel
theorem dX10_uses_30 : decode cX10_uses 30 = .ok (.iconst 0, 1) := by decide +kernel
theorem dX10_uses_31 : decode cX10_uses 31 = .ok (.iastore, 1) := by decide +kernel
theorem dX10_uses_32 : decode cX10_uses 32 = .ok (.aload_n 0, 1) := by decide +kernel
theorem dX10_uses_33 : decode cX10_uses 33 = .ok (.bipush 28, 2) := by decide +kernel
theorem dX10_uses_35 : decode cX10_uses 35 = .ok (.iload_n 2, 1) := by decide +kernel
theorem dX10_uses_36 : decode cX10_uses 36 = .ok (.iconst 0, 1) := by decide +kernel
theorem dX10_uses_37 : decode cX10_uses 37 = .ok (.iload_n 3, 1) := by decide +kernel
theorem dX10_uses_38 : decode cX10_uses 38 = .ok (.invokevirtual 91, 3) := by decide +kernel
theorem dX10_uses_41 : decode cX10_uses 41 = .ok (.istore 5, 2) := by decide +kernel
theorem dX10_uses_43 : decode cX10_uses 43 = .ok (.iconst 0, 1) := by decide +kernel
theorem dX10_uses_44 : decode cX10_uses 44 = .ok (.istore 6, 2) := by decide +kernel
theorem dX10_uses_46 : decode cX10_uses 46 = .ok (.iconst 0, 1) := by decide +kernel
theorem dX10_uses_47 : decode cX10_uses 47 = .ok (.istore 7, 2) := by decide +kernel
theorem dX10_uses_49 : decode cX10_uses 49 = .ok (.iload 7, 2) := by decide +kernel
theorem dX10_uses_51 : decode cX10_uses 51 = .ok (.aload_n 0, 1) := by decide +kernel
theorem dX10_uses_52 : decode cX10_uses 52 = .ok (.getfield 16, 3) := by decide +kernel
theorem dX10_uses_55 : decode cX10_uses 55 = .ok (.iload 4, 2) := by decide +kernel
theorem dX10_uses_57 : decode cX10_uses 57 = .ok (.iaload, 1) := by decide +kernel
theorem dX10_uses_58 : decode cX10_uses 58 = .ok (.if_icmp .ge 76, 3) := by decide +kernel
theorem dX10_uses_61 : decode cX10_uses 61 = .ok (.iload 5, 2) := by decide +kernel
theorem dX10_uses_63 : decode cX10_uses 63 = .ok (.ifCond .eq 71, 3) := by decide +kernel
theorem dX10_uses_66 : decode cX10_uses 66 = .ok (.aload_n 0, 1) := by decide +kernel
theorem dX10_uses_67 : decode cX10_uses 67 = .ok (.getfield 13, 3) := by decide +kernel
theorem dX10_uses_70 : decode cX10_uses 70 = .ok (.bipush 60, 2) := by decide +kernel
theorem dX10_uses_72 : decode cX10_uses 72 = .ok (.iload 4, 2) := by decide +kernel
theorem dX10_uses_74 : decode cX10_uses 74 = .ok (.imul, 1) := by decide +kernel
theorem dX10_uses_75 : decode cX10_uses 75 = .ok (.iload 7, 2) := by decide +kernel
theorem dX10_uses_77 : decode cX10_uses 77 = .ok (.iadd, 1) := by decide +kernel
theorem dX10_uses_78 : decode cX10_uses 78 = .ok (.iaload, 1) := by decide +kernel
theorem dX10_uses_79 : decode cX10_uses 79 = .ok (.iconst (-1), 1) := by decide +kernel
theorem dX10_uses_80 : decode cX10_uses 80 = .ok (.if_icmp .ne 32, 3) := by decide +kernel
theorem dX10_uses_83 : decode cX10_uses 83 = .ok (.aload_n 0, 1) := by decide +kernel
theorem dX10_uses_84 : decode cX10_uses 84 = .ok (.bipush 28, 2) := by decide +kernel
theorem dX10_uses_86 : decode cX10_uses 86 = .ok (.iload_n 2, 1) := by decide +kernel
theorem dX10_uses_87 : decode cX10_uses 87 = .ok (.aload_n 0, 1) := by decide +kernel
theorem dX10_uses_88 : decode cX10_uses 88 = .ok (.getfield 30, 3) := by decide +kernel
theorem dX10_uses_91 : decode cX10_uses 91 = .ok (.iload 6, 2) := by decide +kernel
theorem dX10_uses_93 : decode cX10_uses 93 = .ok (.iaload, 1) := by decide +kernel
theorem dX10_uses_94 : decode cX10_uses 94 = .ok (.aload_n 0, 1) := by decide +kernel
theorem dX10_uses_95 : decode cX10_uses 95 = .ok (.getfield 33, 3) := by decide +kernel
theorem dX10_uses_98 : decode cX10_uses 98 = .ok (.iload 6, 2) := by decide +kernel
theorem dX10_uses_100 : decode cX10_uses 100 = .ok (.iaload, 1) := by decide +kernel
theorem dX10_uses_101 : decode cX10_uses 101 = .ok (.invokevirtual 91, 3) := by decide +kernel
theorem dX10_uses_104 : decode cX10_uses 104 = .ok (.istore 5, 2) := by decide +kernel
theorem dX10_uses_106 : decode cX10_uses 106 = .ok (.iinc 6 1, 3) := by decide +kernel
theorem dX10_uses_109 : decode cX10_uses 109 = .ok (.goto 19, 3) := by decide +kernel
theorem dX10_uses_112 : decode cX10_uses 112 = .ok (.aload_n 0, 1) := by decide +kernel
theorem dX10_uses_113 : decode cX10_uses 113 = .ok (.bipush 28, 2) := by decide +kernel
theorem dX10_uses_115 : decode cX10_uses 115 = .ok (.iload 4, 2) := by decide +kernel
theorem dX10_uses_117 : decode cX10_uses 117 = .ok (.iload 7, 2) := by decide +kernel
theorem dX10_uses_119 : decode cX10_uses 119 = .ok (.iload 7, 2) := by decide +kernel
theorem dX10_uses_121 : decode cX10_uses 121 = .ok (.iconst 1, 1) := by decide +kernel
theorem dX10_uses_122 : decode cX10_uses 122 = .ok (.iadd, 1) := by decide +kernel
theorem dX10_uses_123 : decode cX10_uses 123 = .ok (.invokevirtual 91, 3) := by decide +kernel
theorem dX10_uses_126 : decode cX10_uses 126 = .ok (.istore 5, 2) := by decide +kernel
theorem dX10_uses_128 : decode cX10_uses 128 = .ok (.iinc 7 1, 3) := by decide +kernel
theorem dX10_uses_131 : decode cX10_uses 131 = .ok (.goto (-82), 3) := by decide +kernel
theorem dX10_uses_134 : decode cX10_uses 134 = .ok (.iload 5, 2) := by decide +kernel
theorem dX10_uses_136 : decode cX10_uses 136 = .ok (.ifCond .eq 27, 3) := by decide +kernel
theorem dX10_uses_139 : decode cX10_uses 139 = .ok (.aload_n 0, 1) := by decide +kernel
theorem dX10_uses_140 : decode cX10_uses 140 = .ok (.bipush 28, 2) := by decide +kernel
theorem dX10_uses_142 : decode cX10_uses 142 = .ok (.iload_n 2, 1) := by decide +kernel
theorem dX10_uses_143 : decode cX10_uses 143 = .ok (.aload_n 0, 1) := by decide +kernel
theorem dX10_uses_144 : decode cX10_uses 144 = .ok (.getfield 117, 3) := by decide +kernel
theorem dX10_uses_147 : decode cX10_uses 147 = .ok (.aload_n 0, 1) := by decide +kernel
theorem dX10_uses_148 : decode cX10_uses 148 = .ok (.getfield 16, 3) := by decide +kernel
theorem dX10_uses_151 : decode cX10_uses 151 = .ok (.iload_n 2, 1) := by decide +kernel
theorem dX10_uses_152 : decode cX10_uses 152 = .ok (.iaload, 1) := by decide +kernel
theorem dX10_uses_153 : decode cX10_uses 153 = .ok (.invokevirtual 91, 3) := by decide +kernel
theorem dX10_uses_156 : decode cX10_uses 156 = .ok (.ifCond .eq 7, 3) := by decide +kernel
theorem dX10_uses_159 : decode cX10_uses 159 = .ok (.iconst 1, 1) := by decide +kernel
theorem dX10_uses_160 : decode cX10_uses 160 = .ok (.goto 4, 3) := by decide +kernel
theorem dX10_uses_163 : decode cX10_uses 163 = .ok (.iconst 0, 1) := by decide +kernel
theorem dX10_uses_164 : decode cX10_uses 164 = .ok (.istore 5, 2) := by decide +kernel
theorem dX10_uses_166 : decode cX10_uses 166 = .ok (.iload 5, 2) := by decide +kernel
theorem dX10_uses_168 : decode cX10_uses 168 = .ok (.ifCond .ne 6, 3) := by decide +kernel
theorem dX10_uses_171 : decode cX10_uses 171 = .ok (.bipush (-5), 2) := by decide +kernel
theorem dX10_uses_173 : decode cX10_uses 173 = .ok (.ireturn, 1) := by decide +kernel
theorem dX10_uses_174 : decode cX10_uses 174 = .ok (.aload_n 0, 1) := by decide +kernel
theorem dX10_uses_175 : decode cX10_uses 175 = .ok (.bipush 28, 2) := by decide +kernel
theorem dX10_uses_177 : decode cX10_uses 177 = .ok (.iload_n 2, 1) := by decide +kernel
theorem dX10_uses_178 : decode cX10_uses 178 = .ok (.invokevirtual 95, 3) := by decide +kernel
theorem dX10_uses_181 : decode cX10_uses 181 = .ok (.iconst 1, 1) := by decide +kernel
theorem dX10_uses_182 : decode cX10_uses 182 = .ok (.ireturn, 1) := by decide +kernel
set_option maxRecDepth 20000 in
theorem ggX10_steps_X10_lies : GoodIn wsX10_steps wsX10_lies := goodIn_r _ [7, 8, 1, 9, 10, 11, 12, 13, 14, 15, 6, 16, 17, 18, 19, 20, 21, 39, 40, 41, 42, 43, 44, 45, 46, 47, 48, 49, 50, 51, 52, 53, 54, 55, 56, 57, 58, 59, 60] (by decide +kernel) (by decide +kernel)
set_option maxRecDepth 20000 in
theorem gX10_steps_X10_lies : GoodIn wsX10_steps (wsV RX10 120 RX10 yX10_lies wsX10_lies) := goodIn_app (goodIn_of _ (by decide +kernel)) ggX10_steps_X10_lies
set_option maxRecDepth 20000 in
theorem ggX10_steps_X10_uses : GoodIn wsX10_steps wsX10_uses := goodIn_r _ [25, 26, 1, 9, 10, 11, 12, 27, 28, 29, 6, 30, 31, 32, 33, 34, 35, 36, 37, 38, 39, 40, 41, 42, 43, 44, 45, 46, 47, 48, 49, 50, 51, 52, 53, 54, 55, 56, 57, 58, 59, 60] (by decide +kernel) (by decide +kernel)
set_option maxRecDepth 20000 in
theorem gX10_steps_X10_uses : GoodIn wsX10_steps (wsV RX10 126 RX10 yX10_uses wsX10_uses) := goodIn_app (goodIn_of _ (by decide +kernel)) ggX10_steps_X10_uses
theorem dX10_steps_0 : decode cX10_steps 0 = .ok (.iconst 0, 1) := by decide +kernel
theorem dX10_steps_1 : decode cX10_steps 1 = .ok (.istore_n 2, 1) := by decide +kernel
theorem dX10_steps_2 : decode cX10_steps 2 = .ok (.iload_n 2, 1) := by decide +kernel
theorem dX10_steps_3 : decode cX10_steps 3 = .ok (.aload_n 0, 1) := by decide +kernel
theorem dX10_steps_4 : decode cX10_steps 4 = .ok (.getfield 16, 3) := by decide +kernel
theorem dX10_steps_7 : decode cX10_steps 7 = .ok (.iload_n 1, 1) := by decide +kernel
theorem dX10_steps_8 : decode cX10_steps 8 = .ok (.iaload, 1) := by decide +kernel
theorem dX10_steps_9 : decode cX10_steps 9 = .ok (.if_icmp .ge 43, 3) := by decide +kernel
theorem dX10_steps_12 : decode cX10_steps 12 = .ok (.iconst 0, 1) := by decide +kernel
theorem dX10_steps_13 : decode cX10_steps 13 = .ok (.istore_n 3, 1) := by decide +kernel
theorem dX10_steps_14 : decode cX10_steps 14 = .ok (.iload_n 3, 1) := by decide +kernel
theorem dX10_steps_15 : decode cX10_steps 15 = .ok (.aload_n 0, 1) := by decide +kernel
theorem dX10_steps_16 : decode cX10_steps 16 = .ok (.getfield 102, 3) := by decide +kernel
theorem dX10_steps_19 : decode cX10_steps 19 = .ok (.if_icmp .ge 27, 3) := by decide +kernel
theorem dX10_steps_22 : decode cX10_steps 22 = .ok (.aload_n 0, 1) := by decide +kernel
theorem dX10_steps_23 : decode cX10_steps 23 = .ok (.iload_n 3, 1) := by decide +kernel
theorem dX10_steps_24 : decode cX10_steps 24 = .ok (.iload_n 1, 1) := by decide +kernel
theorem dX10_steps_25 : decode cX10_steps 25 = .ok (.iload_n 2, 1) := by decide +kernel
theorem dX10_steps_26 : decode cX10_steps 26 = .ok (.invokevirtual 120, 3) := by decide +kernel
theorem dX10_steps_29 : decode cX10_steps 29 = .ok (.ifCond .eq 11, 3) := by decide +kernel
theorem dX10_steps_32 : decode cX10_steps 32 = .ok (.aload_n 0, 1) := by decide +kernel
theorem dX10_steps_33 : decode cX10_steps 33 = .ok (.iload_n 3, 1) := by decide +kernel
theorem dX10_steps_34 : decode cX10_steps 34 = .ok (.iload_n 1, 1) := by decide +kernel
theorem dX10_steps_35 : decode cX10_steps 35 = .ok (.iload_n 2, 1) := by decide +kernel
theorem dX10_steps_36 : decode cX10_steps 36 = .ok (.invokevirtual 126, 3) := by decide +kernel
theorem dX10_steps_39 : decode cX10_steps 39 = .ok (.ireturn, 1) := by decide +kernel
theorem dX10_steps_40 : decode cX10_steps 40 = .ok (.iinc 3 1, 3) := by decide +kernel
theorem dX10_steps_43 : decode cX10_steps 43 = .ok (.goto (-29), 3) := by decide +kernel
theorem dX10_steps_46 : decode cX10_steps 46 = .ok (.iinc 2 1, 3) := by decide +kernel
theorem dX10_steps_49 : decode cX10_steps 49 = .ok (.goto (-47), 3) := by decide +kernel
theorem dX10_steps_52 : decode cX10_steps 52 = .ok (.iconst 0, 1) := by decide +kernel
theorem dX10_steps_53 : decode cX10_steps 53 = .ok (.ireturn, 1) := by decide +kernel
set_option maxRecDepth 20000 in
theorem ggX10_step_X10_isTreeRow : GoodIn wsX10_step wsX10_isTreeRow := goodIn_r _ [5, 6, 7, 4, 8, 9, 10, 11, 12, 13, 14, 15, 16, 17, 18, 19, 20, 21, 22, 23, 24, 25, 26, 57, 58, 59, 60, 61, 62, 63, 64, 65, 66, 67, 68, 69, 70, 71, 72, 73, 74, 75, 76, 77, 78] (by decide +kernel) (by decide +kernel)
set_option maxRecDepth 20000 in
theorem gX10_step_X10_isTreeRow : GoodIn wsX10_step (wsV RX10 88 RX10 yX10_isTreeRow wsX10_isTreeRow) := goodIn_app (goodIn_of _ (by decide +kernel)) ggX10_step_X10_isTreeRow
set_option maxRecDepth 20000 in
theorem ggX10_step_X10_steps : GoodIn wsX10_step wsX10_steps := goodIn_r _ [30, 16, 31, 32, 33, 34, 4, 35, 36, 21, 37, 38, 39, 17, 18, 19, 20, 22, 23, 24, 25, 26, 40, 41, 42, 43, 44, 45, 46, 47, 48, 49, 50, 51, 52, 53, 54, 55, 56, 57, 58, 59, 60, 61, 62, 63, 64, 65, 66, 67, 68, 69, 70, 71, 72, 73, 74, 75, 76, 77, 78] (by decide +kernel) (by decide +kernel)
set_option maxRecDepth 20000 in
theorem gX10_step_X10_steps : GoodIn wsX10_step (wsV RX10 130 RX10 yX10_steps wsX10_steps) := goodIn_app (goodIn_of _ (by decide +kernel)) ggX10_step_X10_steps
theorem dX10_step_0 : decode cX10_step 0 = .ok (.aload_n 0, 1) := by decide +kernel
theorem dX10_step_1 : decode cX10_step 1 = .ok (.iload_n 1, 1) := by decide +kernel
theorem dX10_step_2 : decode cX10_step 2 = .ok (.invokevirtual 88, 3) := by decide +kernel
theorem dX10_step_5 : decode cX10_step 5 = .ok (.ifCond .eq 11, 3) := by decide +kernel
theorem dX10_step_8 : decode cX10_step 8 = .ok (.aload_n 0, 1) := by decide +kernel
theorem dX10_step_9 : decode cX10_step 9 = .ok (.iload_n 1, 1) := by decide +kernel
theorem dX10_step_10 : decode cX10_step 10 = .ok (.invokevirtual 130, 3) := by decide +kernel
theorem dX10_step_13 : decode cX10_step 13 = .ok (.goto 5, 3) := by decide +kernel
theorem dX10_step_16 : decode cX10_step 16 = .ok (.bipush (-2), 2) := by decide +kernel
theorem dX10_step_18 : decode cX10_step 18 = .ok (.ireturn, 1) := by decide +kernel
set_option maxRecDepth 20000 in
theorem ggX10_normals_X10_steps : GoodIn wsX10_normals wsX10_steps := goodIn_r _ [5, 6, 7, 8, 9, 10, 4, 11, 12, 13, 14, 15, 16, 17, 18, 19, 20, 21, 22, 23, 24, 25, 26, 27, 28, 29, 30, 31, 32, 33, 34, 35, 36, 37, 38, 39, 40, 41, 42, 43, 44, 45, 46, 47, 48, 49, 50, 51, 52, 53, 54, 55, 56, 57, 58, 59, 60, 61, 62, 63, 64] (by decide +kernel) (by decide +kernel)
set_option maxRecDepth 20000 in
theorem gX10_normals_X10_steps : GoodIn wsX10_normals (wsV RX10 130 RX10 yX10_steps wsX10_steps) := goodIn_app (goodIn_of _ (by decide +kernel)) ggX10_normals_X10_steps
theorem dX10_normals_0 : decode cX10_normals 0 = .ok (.iconst 0, 1) := by decide +kernel
theorem dX10_normals_1 : decode cX10_normals 1 = .ok (.istore_n 2, 1) := by decide +kernel
theorem dX10_normals_2 : decode cX10_normals 2 = .ok (.aload_n 0, 1) := by decide +kernel
theorem dX10_normals_3 : decode cX10_normals 3 = .ok (.iload_n 1, 1) := by decide +kernel
theorem dX10_normals_4 : decode cX10_normals 4 = .ok (.invokevirtual 130, 3) := by decide +kernel
theorem dX10_normals_7 : decode cX10_normals 7 = .ok (.istore_n 3, 1) := by decide +kernel
theorem dX10_normals_8 : decode cX10_normals 8 = .ok (.iload_n 3, 1) := by decide +kernel
theorem dX10_normals_9 : decode cX10_normals 9 = .ok (.ifCond .ne 5, 3) := by decide +kernel
theorem dX10_normals_12 : decode cX10_normals 12 = .ok (.iload_n 2, 1) := by decide +kernel
theorem dX10_normals_13 : decode cX10_normals 13 = .ok (.ireturn, 1) := by decide +kernel
theorem dX10_normals_14 : decode cX10_normals 14 = .ok (.iinc 2 1, 3) := by decide +kernel
theorem dX10_normals_17 : decode cX10_normals 17 = .ok (.iload_n 3, 1) := by decide +kernel
theorem dX10_normals_18 : decode cX10_normals 18 = .ok (.bipush (-5), 2) := by decide +kernel
theorem dX10_normals_20 : decode cX10_normals 20 = .ok (.if_icmp .eq 10, 3) := by decide +kernel
theorem dX10_normals_23 : decode cX10_normals 23 = .ok (.iload_n 2, 1) := by decide +kernel
theorem dX10_normals_24 : decode cX10_normals 24 = .ok (.sipush 200, 3) := by decide +kernel
theorem dX10_normals_27 : decode cX10_normals 27 = .ok (.if_icmp .le 6, 3) := by decide +kernel
theorem dX10_normals_30 : decode cX10_normals 30 = .ok (.bipush (-5), 2) := by decide +kernel
theorem dX10_normals_32 : decode cX10_normals 32 = .ok (.ireturn, 1) := by decide +kernel
theorem dX10_normals_33 : decode cX10_normals 33 = .ok (.iload_n 3, 1) := by decide +kernel
theorem dX10_normals_34 : decode cX10_normals 34 = .ok (.iconst 2, 1) := by decide +kernel
theorem dX10_normals_35 : decode cX10_normals 35 = .ok (.if_icmp .ne 8, 3) := by decide +kernel
theorem dX10_normals_38 : decode cX10_normals 38 = .ok (.bipush (-10), 2) := by decide +kernel
theorem dX10_normals_40 : decode cX10_normals 40 = .ok (.iload_n 2, 1) := by decide +kernel
theorem dX10_normals_41 : decode cX10_normals 41 = .ok (.isub, 1) := by decide +kernel
theorem dX10_normals_42 : decode cX10_normals 42 = .ok (.ireturn, 1) := by decide +kernel
theorem dX10_normals_43 : decode cX10_normals 43 = .ok (.goto (-41), 3) := by decide +kernel
set_option maxRecDepth 20000 in
theorem ggX10_normal_X10_isTreeRow : GoodIn wsX10_normal wsX10_isTreeRow := goodIn_r _ [5, 6, 7, 4, 8, 9, 10, 11, 12, 13, 14, 15, 16, 17, 18, 19, 20, 21, 22, 23, 24, 25, 26, 61, 62, 63, 64, 65, 66, 67, 68, 69, 70, 71, 72, 73, 74, 75, 76, 77, 78, 79, 80, 81, 82] (by decide +kernel) (by decide +kernel)
set_option maxRecDepth 20000 in
theorem gX10_normal_X10_isTreeRow : GoodIn wsX10_normal (wsV RX10 88 RX10 yX10_isTreeRow wsX10_isTreeRow) := goodIn_app (goodIn_of _ (by decide +kernel)) ggX10_normal_X10_isTreeRow
set_option maxRecDepth 20000 in
theorem ggX10_normal_X10_copy : GoodIn wsX10_normal wsX10_copy := goodIn_r _ [30, 16, 21, 61, 62, 63, 64, 65, 66, 67, 68, 69, 70, 71, 72, 73, 74, 75, 76, 77, 78, 79, 80, 81, 82] (by decide +kernel) (by decide +kernel)
set_option maxRecDepth 20000 in
theorem gX10_normal_X10_copy : GoodIn wsX10_normal (wsV RX10 95 RX10 yX10_copy wsX10_copy) := goodIn_app (goodIn_of _ (by decide +kernel)) ggX10_normal_X10_copy
set_option maxRecDepth 20000 in
theorem ggX10_normal_X10_normals : GoodIn wsX10_normal wsX10_normals := goodIn_r _ [34, 35, 36, 37, 4, 38, 16, 39, 40, 41, 42, 43, 44, 21, 45, 46, 47, 17, 18, 19, 20, 22, 23, 24, 25, 26, 48, 49, 50, 51, 52, 53, 54, 55, 56, 57, 58, 59, 60, 27, 28, 29, 30, 61, 62, 63, 64, 65, 66, 67, 68, 69, 70, 71, 72, 73, 74, 75, 76, 77, 78, 79, 80, 81, 82] (by decide +kernel) (by decide +kernel)
set_option maxRecDepth 20000 in
theorem gX10_normal_X10_normals : GoodIn wsX10_normal (wsV RX10 133 RX10 yX10_normals wsX10_normals) := goodIn_app (goodIn_of _ (by decide +kernel)) ggX10_normal_X10_normals
theorem dX10_normal_0 : decode cX10_normal 0 = .ok (.aload_n 0, 1) := by decide +kernel
theorem dX10_normal_1 : decode cX10_normal 1 = .ok (.iload_n 1, 1) := by decide +kernel
theorem dX10_normal_2 : decode cX10_normal 2 = .ok (.invokevirtual 88, 3) := by decide +kernel
theorem dX10_normal_5 : decode cX10_normal 5 = .ok (.ifCond .ne 6, 3) := by decide +kernel
theorem dX10_normal_8 : decode cX10_normal 8 = .ok (.bipush (-2), 2) := by decide +kernel
theorem dX10_normal_10 : decode cX10_normal 10 = .ok (.ireturn, 1) := by decide +kernel
theorem dX10_normal_11 : decode cX10_normal 11 = .ok (.aload_n 0, 1) := by decide +kernel
theorem dX10_normal_12 : decode cX10_normal 12 = .ok (.iload_n 1, 1) := by decide +kernel
theorem dX10_normal_13 : decode cX10_normal 13 = .ok (.bipush 26, 2) := by decide +kernel
theorem dX10_normal_15 : decode cX10_normal 15 = .ok (.invokevirtual 95, 3) := by decide +kernel
theorem dX10_normal_18 : decode cX10_normal 18 = .ok (.aload_n 0, 1) := by decide +kernel
theorem dX10_normal_19 : decode cX10_normal 19 = .ok (.bipush 26, 2) := by decide +kernel
theorem dX10_normal_21 : decode cX10_normal 21 = .ok (.invokevirtual 133, 3) := by decide +kernel
theorem dX10_normal_24 : decode cX10_normal 24 = .ok (.istore_n 2, 1) := by decide +kernel
theorem dX10_normal_25 : decode cX10_normal 25 = .ok (.iload_n 2, 1) := by decide +kernel
theorem dX10_normal_26 : decode cX10_normal 26 = .ok (.bipush (-5), 2) := by decide +kernel
theorem dX10_normal_28 : decode cX10_normal 28 = .ok (.if_icmp .eq 10, 3) := by decide +kernel
theorem dX10_normal_31 : decode cX10_normal 31 = .ok (.aload_n 0, 1) := by decide +kernel
theorem dX10_normal_32 : decode cX10_normal 32 = .ok (.bipush 26, 2) := by decide +kernel
theorem dX10_normal_34 : decode cX10_normal 34 = .ok (.iload_n 1, 1) := by decide +kernel
theorem dX10_normal_35 : decode cX10_normal 35 = .ok (.invokevirtual 95, 3) := by decide +kernel
theorem dX10_normal_38 : decode cX10_normal 38 = .ok (.iload_n 2, 1) := by decide +kernel
theorem dX10_normal_39 : decode cX10_normal 39 = .ok (.ireturn, 1) := by decide +kernel
set_option maxRecDepth 20000 in
theorem ggX10_isBarred_X10_lies : GoodIn wsX10_isBarred wsX10_lies := goodIn_r _ [7, 8, 1, 9, 10, 11, 12, 13, 14, 15, 6, 16, 17, 18, 19, 20, 21, 22, 23, 24, 25, 26, 27, 28, 29, 30, 31, 32, 33, 34, 35, 36, 37, 38, 39, 40, 41, 42, 43] (by decide +kernel) (by decide +kernel)
set_option maxRecDepth 20000 in
theorem gX10_isBarred_X10_lies : GoodIn wsX10_isBarred (wsV RX10 120 RX10 yX10_lies wsX10_lies) := goodIn_app (goodIn_of _ (by decide +kernel)) ggX10_isBarred_X10_lies
theorem dX10_isBarred_0 : decode cX10_isBarred 0 = .ok (.iconst 0, 1) := by decide +kernel
theorem dX10_isBarred_1 : decode cX10_isBarred 1 = .ok (.istore_n 1, 1) := by decide +kernel
theorem dX10_isBarred_2 : decode cX10_isBarred 2 = .ok (.iload_n 1, 1) := by decide +kernel
theorem dX10_isBarred_3 : decode cX10_isBarred 3 = .ok (.aload_n 0, 1) := by decide +kernel
theorem dX10_isBarred_4 : decode cX10_isBarred 4 = .ok (.getfield 16, 3) := by decide +kernel
theorem dX10_isBarred_7 : decode cX10_isBarred 7 = .ok (.bipush 29, 2) := by decide +kernel
theorem dX10_isBarred_9 : decode cX10_isBarred 9 = .ok (.iaload, 1) := by decide +kernel
theorem dX10_isBarred_10 : decode cX10_isBarred 10 = .ok (.if_icmp .ge 38, 3) := by decide +kernel
theorem dX10_isBarred_13 : decode cX10_isBarred 13 = .ok (.iconst 0, 1) := by decide +kernel
theorem dX10_isBarred_14 : decode cX10_isBarred 14 = .ok (.istore_n 2, 1) := by decide +kernel
theorem dX10_isBarred_15 : decode cX10_isBarred 15 = .ok (.iload_n 2, 1) := by decide +kernel
theorem dX10_isBarred_16 : decode cX10_isBarred 16 = .ok (.aload_n 0, 1) := by decide +kernel
theorem dX10_isBarred_17 : decode cX10_isBarred 17 = .ok (.getfield 102, 3) := by decide +kernel
theorem dX10_isBarred_20 : decode cX10_isBarred 20 = .ok (.if_icmp .ge 22, 3) := by decide +kernel
theorem dX10_isBarred_23 : decode cX10_isBarred 23 = .ok (.aload_n 0, 1) := by decide +kernel
theorem dX10_isBarred_24 : decode cX10_isBarred 24 = .ok (.iload_n 2, 1) := by decide +kernel
theorem dX10_isBarred_25 : decode cX10_isBarred 25 = .ok (.bipush 29, 2) := by decide +kernel
theorem dX10_isBarred_27 : decode cX10_isBarred 27 = .ok (.iload_n 1, 1) := by decide +kernel
theorem dX10_isBarred_28 : decode cX10_isBarred 28 = .ok (.invokevirtual 120, 3) := by decide +kernel
theorem dX10_isBarred_31 : decode cX10_isBarred 31 = .ok (.ifCond .eq 5, 3) := by decide +kernel
theorem dX10_isBarred_34 : decode cX10_isBarred 34 = .ok (.iconst 1, 1) := by decide +kernel
theorem dX10_isBarred_35 : decode cX10_isBarred 35 = .ok (.ireturn, 1) := by decide +kernel
theorem dX10_isBarred_36 : decode cX10_isBarred 36 = .ok (.iinc 2 1, 3) := by decide +kernel
theorem dX10_isBarred_39 : decode cX10_isBarred 39 = .ok (.goto (-24), 3) := by decide +kernel
theorem dX10_isBarred_42 : decode cX10_isBarred 42 = .ok (.iinc 1 1, 3) := by decide +kernel
theorem dX10_isBarred_45 : decode cX10_isBarred 45 = .ok (.goto (-43), 3) := by decide +kernel
theorem dX10_isBarred_48 : decode cX10_isBarred 48 = .ok (.iconst 0, 1) := by decide +kernel
theorem dX10_isBarred_49 : decode cX10_isBarred 49 = .ok (.ireturn, 1) := by decide +kernel
theorem dX10_goesOn_0 : decode cX10_goesOn 0 = .ok (.aload_n 0, 1) := by decide +kernel
theorem dX10_goesOn_1 : decode cX10_goesOn 1 = .ok (.getfield 16, 3) := by decide +kernel
theorem dX10_goesOn_4 : decode cX10_goesOn 4 = .ok (.bipush 29, 2) := by decide +kernel
theorem dX10_goesOn_6 : decode cX10_goesOn 6 = .ok (.iaload, 1) := by decide +kernel
theorem dX10_goesOn_7 : decode cX10_goesOn 7 = .ok (.ifCond .le 58, 3) := by decide +kernel
theorem dX10_goesOn_10 : decode cX10_goesOn 10 = .ok (.sipush 1740, 3) := by decide +kernel
theorem dX10_goesOn_13 : decode cX10_goesOn 13 = .ok (.aload_n 0, 1) := by decide +kernel
theorem dX10_goesOn_14 : decode cX10_goesOn 14 = .ok (.getfield 16, 3) := by decide +kernel
theorem dX10_goesOn_17 : decode cX10_goesOn 17 = .ok (.bipush 29, 2) := by decide +kernel
theorem dX10_goesOn_19 : decode cX10_goesOn 19 = .ok (.iaload, 1) := by decide +kernel
theorem dX10_goesOn_20 : decode cX10_goesOn 20 = .ok (.iadd, 1) := by decide +kernel
theorem dX10_goesOn_21 : decode cX10_goesOn 21 = .ok (.iconst 1, 1) := by decide +kernel
theorem dX10_goesOn_22 : decode cX10_goesOn 22 = .ok (.isub, 1) := by decide +kernel
theorem dX10_goesOn_23 : decode cX10_goesOn 23 = .ok (.istore_n 1, 1) := by decide +kernel
theorem dX10_goesOn_24 : decode cX10_goesOn 24 = .ok (.aload_n 0, 1) := by decide +kernel
theorem dX10_goesOn_25 : decode cX10_goesOn 25 = .ok (.getfield 13, 3) := by decide +kernel
theorem dX10_goesOn_28 : decode cX10_goesOn 28 = .ok (.iload_n 1, 1) := by decide +kernel
theorem dX10_goesOn_29 : decode cX10_goesOn 29 = .ok (.iaload, 1) := by decide +kernel
theorem dX10_goesOn_30 : decode cX10_goesOn 30 = .ok (.aload_n 0, 1) := by decide +kernel
theorem dX10_goesOn_31 : decode cX10_goesOn 31 = .ok (.getfield 55, 3) := by decide +kernel
theorem dX10_goesOn_34 : decode cX10_goesOn 34 = .ok (.iconst 1, 1) := by decide +kernel
theorem dX10_goesOn_35 : decode cX10_goesOn 35 = .ok (.isub, 1) := by decide +kernel
theorem dX10_goesOn_36 : decode cX10_goesOn 36 = .ok (.if_icmp .ge 15, 3) := by decide +kernel
theorem dX10_goesOn_39 : decode cX10_goesOn 39 = .ok (.aload_n 0, 1) := by decide +kernel
theorem dX10_goesOn_40 : decode cX10_goesOn 40 = .ok (.getfield 13, 3) := by decide +kernel
theorem dX10_goesOn_43 : decode cX10_goesOn 43 = .ok (.iload_n 1, 1) := by decide +kernel
theorem dX10_goesOn_44 : decode cX10_goesOn 44 = .ok (.dup2, 1) := by decide +kernel
theorem dX10_goesOn_45 : decode cX10_goesOn 45 = .ok (.iaload, 1) := by decide +kernel
theorem dX10_goesOn_46 : decode cX10_goesOn 46 = .ok (.iconst 1, 1) := by decide +kernel
theorem dX10_goesOn_47 : decode cX10_goesOn 47 = .ok (.iadd, 1) := by decide +kernel
theorem dX10_goesOn_48 : decode cX10_goesOn 48 = .ok (.iastore, 1) := by decide +kernel
theorem dX10_goesOn_49 : decode cX10_goesOn 49 = .ok (.iconst 1, 1) := by decide +kernel
theorem dX10_goesOn_50 : decode cX10_goesOn 50 = .ok (.ireturn, 1) := by decide +kernel
theorem dX10_goesOn_51 : decode cX10_goesOn 51 = .ok (.aload_n 0, 1) := by decide +kernel
theorem dX10_goesOn_52 : decode cX10_goesOn 52 = .ok (.getfield 16, 3) := by decide +kernel
theorem dX10_goesOn_55 : decode cX10_goesOn 55 = .ok (.bipush 29, 2) := by decide +kernel
theorem dX10_goesOn_57 : decode cX10_goesOn 57 = .ok (.dup2, 1) := by decide +kernel
theorem dX10_goesOn_58 : decode cX10_goesOn 58 = .ok (.iaload, 1) := by decide +kernel
theorem dX10_goesOn_59 : decode cX10_goesOn 59 = .ok (.iconst 1, 1) := by decide +kernel
theorem dX10_goesOn_60 : decode cX10_goesOn 60 = .ok (.isub, 1) := by decide +kernel
theorem dX10_goesOn_61 : decode cX10_goesOn 61 = .ok (.iastore, 1) := by decide +kernel
theorem dX10_goesOn_62 : decode cX10_goesOn 62 = .ok (.goto (-62), 3) := by decide +kernel
theorem dX10_goesOn_65 : decode cX10_goesOn 65 = .ok (.iconst 0, 1) := by decide +kernel
theorem dX10_goesOn_66 : decode cX10_goesOn 66 = .ok (.ireturn, 1) := by decide +kernel
set_option maxRecDepth 20000 in
theorem ggX10_wantedYet_X10_wants : GoodIn wsX10_wantedYet wsX10_wants := goodIn_r _ [7, 8, 9, 10, 11, 12, 13, 14, 15, 16, 17, 18, 19, 20, 21, 22, 23, 24, 25, 26, 27, 28, 29, 30] (by decide +kernel) (by decide +kernel)
set_option maxRecDepth 20000 in
theorem gX10_wantedYet_X10_wants : GoodIn wsX10_wantedYet (wsV RX10 71 RX10 yX10_wants wsX10_wants) := goodIn_app (goodIn_of _ (by decide +kernel)) ggX10_wantedYet_X10_wants
theorem dX10_wantedYet_0 : decode cX10_wantedYet 0 = .ok (.iconst 1, 1) := by decide +kernel
theorem dX10_wantedYet_1 : decode cX10_wantedYet 1 = .ok (.istore_n 1, 1) := by decide +kernel
theorem dX10_wantedYet_2 : decode cX10_wantedYet 2 = .ok (.iconst 0, 1) := by decide +kernel
theorem dX10_wantedYet_3 : decode cX10_wantedYet 3 = .ok (.istore_n 2, 1) := by decide +kernel
theorem dX10_wantedYet_4 : decode cX10_wantedYet 4 = .ok (.iload_n 2, 1) := by decide +kernel
theorem dX10_wantedYet_5 : decode cX10_wantedYet 5 = .ok (.aload_n 0, 1) := by decide +kernel
theorem dX10_wantedYet_6 : decode cX10_wantedYet 6 = .ok (.getfield 16, 3) := by decide +kernel
theorem dX10_wantedYet_9 : decode cX10_wantedYet 9 = .ok (.bipush 29, 2) := by decide +kernel
theorem dX10_wantedYet_11 : decode cX10_wantedYet 11 = .ok (.iaload, 1) := by decide +kernel
theorem dX10_wantedYet_12 : decode cX10_wantedYet 12 = .ok (.if_icmp .ge 28, 3) := by decide +kernel
theorem dX10_wantedYet_15 : decode cX10_wantedYet 15 = .ok (.iload_n 1, 1) := by decide +kernel
theorem dX10_wantedYet_16 : decode cX10_wantedYet 16 = .ok (.aload_n 0, 1) := by decide +kernel
theorem dX10_wantedYet_17 : decode cX10_wantedYet 17 = .ok (.aload_n 0, 1) := by decide +kernel
theorem dX10_wantedYet_18 : decode cX10_wantedYet 18 = .ok (.getfield 13, 3) := by decide +kernel
theorem dX10_wantedYet_21 : decode cX10_wantedYet 21 = .ok (.sipush 1740, 3) := by decide +kernel
theorem dX10_wantedYet_24 : decode cX10_wantedYet 24 = .ok (.iload_n 2, 1) := by decide +kernel
theorem dX10_wantedYet_25 : decode cX10_wantedYet 25 = .ok (.iadd, 1) := by decide +kernel
theorem dX10_wantedYet_26 : decode cX10_wantedYet 26 = .ok (.iaload, 1) := by decide +kernel
theorem dX10_wantedYet_27 : decode cX10_wantedYet 27 = .ok (.invokevirtual 71, 3) := by decide +kernel
theorem dX10_wantedYet_30 : decode cX10_wantedYet 30 = .ok (.iconst 1, 1) := by decide +kernel
theorem dX10_wantedYet_31 : decode cX10_wantedYet 31 = .ok (.isub, 1) := by decide +kernel
theorem dX10_wantedYet_32 : decode cX10_wantedYet 32 = .ok (.iadd, 1) := by decide +kernel
theorem dX10_wantedYet_33 : decode cX10_wantedYet 33 = .ok (.istore_n 1, 1) := by decide +kernel
theorem dX10_wantedYet_34 : decode cX10_wantedYet 34 = .ok (.iinc 2 1, 3) := by decide +kernel
theorem dX10_wantedYet_37 : decode cX10_wantedYet 37 = .ok (.goto (-33), 3) := by decide +kernel
theorem dX10_wantedYet_40 : decode cX10_wantedYet 40 = .ok (.iload_n 1, 1) := by decide +kernel
theorem dX10_wantedYet_41 : decode cX10_wantedYet 41 = .ok (.ireturn, 1) := by decide +kernel
set_option maxRecDepth 20000 in
theorem ggX10_countOf_X10_comes : GoodIn wsX10_countOf wsX10_comes := goodIn_r _ [6, 7, 1, 43, 44, 45, 46, 47, 48, 49, 50, 51, 52, 53, 54, 55, 56, 57, 58, 59, 60, 61, 62, 63, 64] (by decide +kernel) (by decide +kernel)
set_option maxRecDepth 20000 in
theorem gX10_countOf_X10_comes : GoodIn wsX10_countOf (wsV RX10 67 RX10 yX10_comes wsX10_comes) := goodIn_app (goodIn_of _ (by decide +kernel)) ggX10_countOf_X10_comes
set_option maxRecDepth 20000 in
theorem ggX10_countOf_X10_wantedYet : GoodIn wsX10_countOf wsX10_wantedYet := goodIn_r _ [11, 1, 7, 12, 13, 14, 5, 15, 16, 43, 44, 45, 46, 47, 48, 49, 50, 51, 52, 53, 54, 55, 56, 57, 58, 59, 60, 61, 62, 63, 64] (by decide +kernel) (by decide +kernel)
set_option maxRecDepth 20000 in
theorem gX10_countOf_X10_wantedYet : GoodIn wsX10_countOf (wsV RX10 136 RX10 yX10_wantedYet wsX10_wantedYet) := goodIn_app (goodIn_of _ (by decide +kernel)) ggX10_countOf_X10_wantedYet
set_option maxRecDepth 20000 in
theorem ggX10_countOf_X10_leaves : GoodIn wsX10_countOf wsX10_leaves := goodIn_r _ [20, 1, 7, 43, 44, 45, 46, 47, 48, 49, 50, 51, 52, 53, 54, 55, 56, 57, 58, 59, 60, 61, 62, 63, 64] (by decide +kernel) (by decide +kernel)
set_option maxRecDepth 20000 in
theorem gX10_countOf_X10_leaves : GoodIn wsX10_countOf (wsV RX10 82 RX10 yX10_leaves wsX10_leaves) := goodIn_app (goodIn_of _ (by decide +kernel)) ggX10_countOf_X10_leaves
set_option maxRecDepth 20000 in
theorem ggX10_countOf_X10_isBarred : GoodIn wsX10_countOf wsX10_isBarred := goodIn_r _ [24, 1, 25, 26, 27, 28, 5, 29, 30, 7, 31, 32, 33, 34, 35, 36, 37, 12, 13, 14, 15, 16, 43, 44, 45, 46, 47, 48, 49, 50, 51, 52, 53, 54, 55, 56, 57, 58, 59, 60, 61, 62, 63, 64] (by decide +kernel) (by decide +kernel)
set_option maxRecDepth 20000 in
theorem gX10_countOf_X10_isBarred : GoodIn wsX10_countOf (wsV RX10 140 RX10 yX10_isBarred wsX10_isBarred) := goodIn_app (goodIn_of _ (by decide +kernel)) ggX10_countOf_X10_isBarred
set_option maxRecDepth 20000 in
theorem ggX10_countOf_X10_goesOn : GoodIn wsX10_countOf wsX10_goesOn := goodIn_r _ [41, 1, 7, 42, 43, 44, 45, 46, 47, 48, 49, 50, 51, 52, 53, 54, 55, 56, 57, 58, 59, 60, 61, 62, 63, 64] (by decide +kernel) (by decide +kernel)
set_option maxRecDepth 20000 in
theorem gX10_countOf_X10_goesOn : GoodIn wsX10_countOf (wsV RX10 144 RX10 yX10_goesOn wsX10_goesOn) := goodIn_app (goodIn_of _ (by decide +kernel)) ggX10_countOf_X10_goesOn
theorem dX10_countOf_0 : decode cX10_countOf 0 = .ok (.lconst 0, 1) := by decide +kernel
theorem dX10_countOf_1 : decode cX10_countOf 1 = .ok (.lstore_n 2, 1) := by decide +kernel
theorem dX10_countOf_2 : decode cX10_countOf 2 = .ok (.aload_n 0, 1) := by decide +kernel
theorem dX10_countOf_3 : decode cX10_countOf 3 = .ok (.getfield 16, 3) := by decide +kernel
theorem dX10_countOf_6 : decode cX10_countOf 6 = .ok (.bipush 29, 2) := by decide +kernel
theorem dX10_countOf_8 : decode cX10_countOf 8 = .ok (.iconst 0, 1) := by decide +kernel
theorem dX10_countOf_9 : decode cX10_countOf 9 = .ok (.iastore, 1) := by decide +kernel
theorem dX10_countOf_10 : decode cX10_countOf 10 = .ok (.aload_n 0, 1) := by decide +kernel
theorem dX10_countOf_11 : decode cX10_countOf 11 = .ok (.bipush 29, 2) := by decide +kernel
theorem dX10_countOf_13 : decode cX10_countOf 13 = .ok (.iconst (-1), 1) := by decide +kernel
theorem dX10_countOf_14 : decode cX10_countOf 14 = .ok (.invokevirtual 67, 3) := by decide +kernel
theorem dX10_countOf_17 : decode cX10_countOf 17 = .ok (.iconst 1, 1) := by decide +kernel
theorem dX10_countOf_18 : decode cX10_countOf 18 = .ok (.istore 4, 2) := by decide +kernel
theorem dX10_countOf_20 : decode cX10_countOf 20 = .ok (.iload 4, 2) := by decide +kernel
theorem dX10_countOf_22 : decode cX10_countOf 22 = .ok (.ifCond .eq 93, 3) := by decide +kernel
theorem dX10_countOf_25 : decode cX10_countOf 25 = .ok (.aload_n 0, 1) := by decide +kernel
theorem dX10_countOf_26 : decode cX10_countOf 26 = .ok (.invokevirtual 136, 3) := by decide +kernel
theorem dX10_countOf_29 : decode cX10_countOf 29 = .ok (.istore 5, 2) := by decide +kernel
theorem dX10_countOf_31 : decode cX10_countOf 31 = .ok (.aload_n 0, 1) := by decide +kernel
theorem dX10_countOf_32 : decode cX10_countOf 32 = .ok (.bipush 29, 2) := by decide +kernel
theorem dX10_countOf_34 : decode cX10_countOf 34 = .ok (.invokevirtual 82, 3) := by decide +kernel
theorem dX10_countOf_37 : decode cX10_countOf 37 = .ok (.iload 5, 2) := by decide +kernel
theorem dX10_countOf_39 : decode cX10_countOf 39 = .ok (.iadd, 1) := by decide +kernel
theorem dX10_countOf_40 : decode cX10_countOf 40 = .ok (.iload_n 1, 1) := by decide +kernel
theorem dX10_countOf_41 : decode cX10_countOf 41 = .ok (.if_icmp .gt 14, 3) := by decide +kernel
theorem dX10_countOf_44 : decode cX10_countOf 44 = .ok (.aload_n 0, 1) := by decide +kernel
theorem dX10_countOf_45 : decode cX10_countOf 45 = .ok (.invokevirtual 140, 3) := by decide +kernel
theorem dX10_countOf_48 : decode cX10_countOf 48 = .ok (.ifCond .ne 7, 3) := by decide +kernel
theorem dX10_countOf_51 : decode cX10_countOf 51 = .ok (.iconst 1, 1) := by decide +kernel
theorem dX10_countOf_52 : decode cX10_countOf 52 = .ok (.goto 4, 3) := by decide +kernel
theorem dX10_countOf_55 : decode cX10_countOf 55 = .ok (.iconst 0, 1) := by decide +kernel
theorem dX10_countOf_56 : decode cX10_countOf 56 = .ok (.istore 6, 2) := by decide +kernel
theorem dX10_countOf_58 : decode cX10_countOf 58 = .ok (.iload 6, 2) := by decide +kernel
theorem dX10_countOf_60 : decode cX10_countOf 60 = .ok (.ifCond .eq 26, 3) := by decide +kernel
theorem dX10_countOf_63 : decode cX10_countOf 63 = .ok (.iload 5, 2) := by decide +kernel
theorem dX10_countOf_65 : decode cX10_countOf 65 = .ok (.ifCond .ne 21, 3) := by decide +kernel
theorem dX10_countOf_68 : decode cX10_countOf 68 = .ok (.lload_n 2, 1) := by decide +kernel
theorem dX10_countOf_69 : decode cX10_countOf 69 = .ok (.aload_n 0, 1) := by decide +kernel
theorem dX10_countOf_70 : decode cX10_countOf 70 = .ok (.bipush 29, 2) := by decide +kernel
theorem dX10_countOf_72 : decode cX10_countOf 72 = .ok (.invokevirtual 82, 3) := by decide +kernel
theorem dX10_countOf_75 : decode cX10_countOf 75 = .ok (.iload_n 1, 1) := by decide +kernel
theorem dX10_countOf_76 : decode cX10_countOf 76 = .ok (.if_icmp .ne 7, 3) := by decide +kernel
theorem dX10_countOf_79 : decode cX10_countOf 79 = .ok (.lconst 1, 1) := by decide +kernel
theorem dX10_countOf_80 : decode cX10_countOf 80 = .ok (.goto 4, 3) := by decide +kernel
theorem dX10_countOf_83 : decode cX10_countOf 83 = .ok (.lconst 0, 1) := by decide +kernel
theorem dX10_countOf_84 : decode cX10_countOf 84 = .ok (.ladd, 1) := by decide +kernel
theorem dX10_countOf_85 : decode cX10_countOf 85 = .ok (.lstore_n 2, 1) := by decide +kernel
theorem dX10_countOf_86 : decode cX10_countOf 86 = .ok (.iload 6, 2) := by decide +kernel
theorem dX10_countOf_88 : decode cX10_countOf 88 = .ok (.ifCond .eq 18, 3) := by decide +kernel
theorem dX10_countOf_91 : decode cX10_countOf 91 = .ok (.iload 5, 2) := by decide +kernel
theorem dX10_countOf_93 : decode cX10_countOf 93 = .ok (.ifCond .le 13, 3) := by decide +kernel
theorem dX10_countOf_96 : decode cX10_countOf 96 = .ok (.aload_n 0, 1) := by decide +kernel
theorem dX10_countOf_97 : decode cX10_countOf 97 = .ok (.bipush 29, 2) := by decide +kernel
theorem dX10_countOf_99 : decode cX10_countOf 99 = .ok (.iconst (-1), 1) := by decide +kernel
theorem dX10_countOf_100 : decode cX10_countOf 100 = .ok (.invokevirtual 67, 3) := by decide +kernel
theorem dX10_countOf_103 : decode cX10_countOf 103 = .ok (.goto 9, 3) := by decide +kernel
theorem dX10_countOf_106 : decode cX10_countOf 106 = .ok (.aload_n 0, 1) := by decide +kernel
theorem dX10_countOf_107 : decode cX10_countOf 107 = .ok (.invokevirtual 144, 3) := by decide +kernel
theorem dX10_countOf_110 : decode cX10_countOf 110 = .ok (.istore 4, 2) := by decide +kernel
theorem dX10_countOf_112 : decode cX10_countOf 112 = .ok (.goto (-92), 3) := by decide +kernel
theorem dX10_countOf_115 : decode cX10_countOf 115 = .ok (.lload_n 2, 1) := by decide +kernel
theorem dX10_countOf_116 : decode cX10_countOf 116 = .ok (.lreturn, 1) := by decide +kernel
set_option maxRecDepth 20000 in
theorem ggX10_counts_X10_countOf : GoodIn wsX10_counts wsX10_countOf := goodIn_r _ [7, 8, 9, 10, 11, 6, 12, 13, 14, 15, 16, 17, 18, 19, 20, 21, 22, 23, 24, 25, 26, 27, 28, 29, 30, 31, 32, 33, 34, 35, 36, 37, 38, 39, 40, 41, 42, 43, 44, 45, 46, 47, 48, 49, 50, 51, 52, 53, 54, 55, 56, 57, 58, 59, 60, 61, 62, 63, 64, 65, 66, 67, 68, 69, 70] (by decide +kernel) (by decide +kernel)
set_option maxRecDepth 20000 in
theorem gX10_counts_X10_countOf : GoodIn wsX10_counts (wsV RX10 147 RX10 yX10_countOf wsX10_countOf) := goodIn_app (goodIn_of _ (by decide +kernel)) ggX10_counts_X10_countOf
theorem dX10_counts_0 : decode cX10_counts 0 = .ok (.iconst 1, 1) := by decide +kernel
theorem dX10_counts_1 : decode cX10_counts 1 = .ok (.istore_n 1, 1) := by decide +kernel
theorem dX10_counts_2 : decode cX10_counts 2 = .ok (.iload_n 1, 1) := by decide +kernel
theorem dX10_counts_3 : decode cX10_counts 3 = .ok (.bipush 6, 2) := by decide +kernel
theorem dX10_counts_5 : decode cX10_counts 5 = .ok (.if_icmp .gt 36, 3) := by decide +kernel
theorem dX10_counts_8 : decode cX10_counts 8 = .ok (.aload_n 0, 1) := by decide +kernel
theorem dX10_counts_9 : decode cX10_counts 9 = .ok (.getfield 59, 3) := by decide +kernel
theorem dX10_counts_12 : decode cX10_counts 12 = .ok (.ifCond .ne 29, 3) := by decide +kernel
theorem dX10_counts_15 : decode cX10_counts 15 = .ok (.aload_n 0, 1) := by decide +kernel
theorem dX10_counts_16 : decode cX10_counts 16 = .ok (.getfield 23, 3) := by decide +kernel
theorem dX10_counts_19 : decode cX10_counts 19 = .ok (.iload_n 1, 1) := by decide +kernel
theorem dX10_counts_20 : decode cX10_counts 20 = .ok (.iload_n 1, 1) := by decide +kernel
theorem dX10_counts_21 : decode cX10_counts 21 = .ok (.iconst 1, 1) := by decide +kernel
theorem dX10_counts_22 : decode cX10_counts 22 = .ok (.if_icmp .ne 7, 3) := by decide +kernel
theorem dX10_counts_25 : decode cX10_counts 25 = .ok (.lconst 1, 1) := by decide +kernel
theorem dX10_counts_26 : decode cX10_counts 26 = .ok (.goto 8, 3) := by decide +kernel
theorem dX10_counts_29 : decode cX10_counts 29 = .ok (.aload_n 0, 1) := by decide +kernel
theorem dX10_counts_30 : decode cX10_counts 30 = .ok (.iload_n 1, 1) := by decide +kernel
theorem dX10_counts_31 : decode cX10_counts 31 = .ok (.invokevirtual 147, 3) := by decide +kernel
theorem dX10_counts_34 : decode cX10_counts 34 = .ok (.lastore, 1) := by decide +kernel
theorem dX10_counts_35 : decode cX10_counts 35 = .ok (.iinc 1 1, 3) := by decide +kernel
theorem dX10_counts_38 : decode cX10_counts 38 = .ok (.goto (-36), 3) := by decide +kernel
theorem dX10_counts_41 : decode cX10_counts 41 = .ok (.aload_n 0, 1) := by decide +kernel
theorem dX10_counts_42 : decode cX10_counts 42 = .ok (.iconst 1, 1) := by decide +kernel
theorem dX10_counts_43 : decode cX10_counts 43 = .ok (.putfield 59, 3) := by decide +kernel
theorem dX10_counts_46 : decode cX10_counts 46 = .ok (.return_, 1) := by decide +kernel
set_option maxRecDepth 20000 in
theorem ggX10_howMany_X10_in : GoodIn wsX10_howMany wsX10_in := goodIn_r _ [6] (by decide +kernel) (by decide +kernel)
set_option maxRecDepth 20000 in
theorem gX10_howMany_X10_in : GoodIn wsX10_howMany (va_wsS RX10 51 yX10_in wsX10_in) := goodIn_app (goodIn_of _ (by decide +kernel)) ggX10_howMany_X10_in
set_option maxRecDepth 20000 in
theorem ggX10_howMany_X10_counts : GoodIn wsX10_howMany wsX10_counts := goodIn_r _ [10, 11, 2, 12, 13, 14, 5, 15, 16, 17, 18, 19, 20, 21, 22, 23, 24, 25, 26, 27, 28, 29, 30, 31, 32, 33, 34, 35, 36, 37, 38, 39, 40, 41, 42, 43, 44, 45, 46, 47, 48, 49, 50, 51, 52, 53, 54, 55, 56, 57, 58, 59, 60, 61, 62, 63, 64, 65, 66, 67, 68, 69, 70, 71, 72, 73, 74, 75, 76, 77, 78] (by decide +kernel) (by decide +kernel)
set_option maxRecDepth 20000 in
theorem gX10_howMany_X10_counts : GoodIn wsX10_howMany (wsV RX10 153 RX10 yX10_counts wsX10_counts) := goodIn_app (goodIn_of _ (by decide +kernel)) ggX10_howMany_X10_counts
theorem dX10_howMany_0 : decode cX10_howMany 0 = .ok (.iload_n 1, 1) := by decide +kernel
theorem dX10_howMany_1 : decode cX10_howMany 1 = .ok (.iconst 1, 1) := by decide +kernel
theorem dX10_howMany_2 : decode cX10_howMany 2 = .ok (.bipush 6, 2) := by decide +kernel
theorem dX10_howMany_4 : decode cX10_howMany 4 = .ok (.invokestatic 51, 3) := by decide +kernel
theorem dX10_howMany_7 : decode cX10_howMany 7 = .ok (.ifCond .ne 7, 3) := by decide +kernel
theorem dX10_howMany_10 : decode cX10_howMany 10 = .ok (.ldc2_w 151, 3) := by decide +kernel
theorem dX10_howMany_13 : decode cX10_howMany 13 = .ok (.lreturn, 1) := by decide +kernel
theorem dX10_howMany_14 : decode cX10_howMany 14 = .ok (.aload_n 0, 1) := by decide +kernel
theorem dX10_howMany_15 : decode cX10_howMany 15 = .ok (.invokevirtual 153, 3) := by decide +kernel
theorem dX10_howMany_18 : decode cX10_howMany 18 = .ok (.aload_n 0, 1) := by decide +kernel
theorem dX10_howMany_19 : decode cX10_howMany 19 = .ok (.getfield 23, 3) := by decide +kernel
theorem dX10_howMany_22 : decode cX10_howMany 22 = .ok (.iload_n 1, 1) := by decide +kernel
theorem dX10_howMany_23 : decode cX10_howMany 23 = .ok (.laload, 1) := by decide +kernel
theorem dX10_howMany_24 : decode cX10_howMany 24 = .ok (.lreturn, 1) := by decide +kernel
set_option maxRecDepth 20000 in
theorem ggX10_meetsAt_X10_adds : GoodIn wsX10_meetsAt wsX10_adds := goodIn_r _ [7, 1, 2, 8, 9, 10, 6, 11, 21, 22, 23, 24, 25, 26, 27, 28, 29, 30, 31, 32, 33, 34, 35, 36, 37, 38, 39, 40, 41, 42] (by decide +kernel) (by decide +kernel)
set_option maxRecDepth 20000 in
theorem gX10_meetsAt_X10_adds : GoodIn wsX10_meetsAt (wsV RX10 91 RX10 yX10_adds wsX10_adds) := goodIn_app (goodIn_of _ (by decide +kernel)) ggX10_meetsAt_X10_adds
set_option maxRecDepth 20000 in
theorem ggX10_meetsAt_X10_end : GoodIn wsX10_meetsAt wsX10_end := goodIn_r _ [15, 1, 2, 16, 17, 18, 6, 19, 20, 21, 22, 23, 24, 25, 26, 27, 28, 29, 30, 31, 32, 33, 34, 35, 36, 37, 38, 39, 40, 41, 42] (by decide +kernel) (by decide +kernel)
set_option maxRecDepth 20000 in
theorem gX10_meetsAt_X10_end : GoodIn wsX10_meetsAt (wsV RX10 75 RX10 yX10_end wsX10_end) := goodIn_app (goodIn_of _ (by decide +kernel)) ggX10_meetsAt_X10_end
theorem dX10_meetsAt_0 : decode cX10_meetsAt 0 = .ok (.bipush 10, 2) := by decide +kernel
theorem dX10_meetsAt_2 : decode cX10_meetsAt 2 = .ok (.iload_n 1, 1) := by decide +kernel
theorem dX10_meetsAt_3 : decode cX10_meetsAt 3 = .ok (.iadd, 1) := by decide +kernel
theorem dX10_meetsAt_4 : decode cX10_meetsAt 4 = .ok (.istore 4, 2) := by decide +kernel
theorem dX10_meetsAt_6 : decode cX10_meetsAt 6 = .ok (.bipush 10, 2) := by decide +kernel
theorem dX10_meetsAt_8 : decode cX10_meetsAt 8 = .ok (.iload_n 2, 1) := by decide +kernel
theorem dX10_meetsAt_9 : decode cX10_meetsAt 9 = .ok (.iadd, 1) := by decide +kernel
theorem dX10_meetsAt_10 : decode cX10_meetsAt 10 = .ok (.istore 5, 2) := by decide +kernel
theorem dX10_meetsAt_12 : decode cX10_meetsAt 12 = .ok (.aload_n 0, 1) := by decide +kernel
theorem dX10_meetsAt_13 : decode cX10_meetsAt 13 = .ok (.getfield 16, 3) := by decide +kernel
theorem dX10_meetsAt_16 : decode cX10_meetsAt 16 = .ok (.bipush 27, 2) := by decide +kernel
theorem dX10_meetsAt_18 : decode cX10_meetsAt 18 = .ok (.iconst 0, 1) := by decide +kernel
theorem dX10_meetsAt_19 : decode cX10_meetsAt 19 = .ok (.iastore, 1) := by decide +kernel
theorem dX10_meetsAt_20 : decode cX10_meetsAt 20 = .ok (.aload_n 0, 1) := by decide +kernel
theorem dX10_meetsAt_21 : decode cX10_meetsAt 21 = .ok (.bipush 27, 2) := by decide +kernel
theorem dX10_meetsAt_23 : decode cX10_meetsAt 23 = .ok (.iload 4, 2) := by decide +kernel
theorem dX10_meetsAt_25 : decode cX10_meetsAt 25 = .ok (.iconst 0, 1) := by decide +kernel
theorem dX10_meetsAt_26 : decode cX10_meetsAt 26 = .ok (.iload_n 3, 1) := by decide +kernel
theorem dX10_meetsAt_27 : decode cX10_meetsAt 27 = .ok (.invokevirtual 91, 3) := by decide +kernel
theorem dX10_meetsAt_30 : decode cX10_meetsAt 30 = .ok (.istore 6, 2) := by decide +kernel
theorem dX10_meetsAt_32 : decode cX10_meetsAt 32 = .ok (.iload_n 3, 1) := by decide +kernel
theorem dX10_meetsAt_33 : decode cX10_meetsAt 33 = .ok (.istore 7, 2) := by decide +kernel
theorem dX10_meetsAt_35 : decode cX10_meetsAt 35 = .ok (.iconst 0, 1) := by decide +kernel
theorem dX10_meetsAt_36 : decode cX10_meetsAt 36 = .ok (.istore 8, 2) := by decide +kernel
theorem dX10_meetsAt_38 : decode cX10_meetsAt 38 = .ok (.iload 8, 2) := by decide +kernel
theorem dX10_meetsAt_40 : decode cX10_meetsAt 40 = .ok (.aload_n 0, 1) := by decide +kernel
theorem dX10_meetsAt_41 : decode cX10_meetsAt 41 = .ok (.getfield 16, 3) := by decide +kernel
theorem dX10_meetsAt_44 : decode cX10_meetsAt 44 = .ok (.iload 5, 2) := by decide +kernel
theorem dX10_meetsAt_46 : decode cX10_meetsAt 46 = .ok (.iaload, 1) := by decide +kernel
theorem dX10_meetsAt_47 : decode cX10_meetsAt 47 = .ok (.if_icmp .ge 158, 3) := by decide +kernel
theorem dX10_meetsAt_50 : decode cX10_meetsAt 50 = .ok (.iload 6, 2) := by decide +kernel
theorem dX10_meetsAt_52 : decode cX10_meetsAt 52 = .ok (.ifCond .eq 153, 3) := by decide +kernel
theorem dX10_meetsAt_55 : decode cX10_meetsAt 55 = .ok (.aload_n 0, 1) := by decide +kernel
theorem dX10_meetsAt_56 : decode cX10_meetsAt 56 = .ok (.getfield 13, 3) := by decide +kernel
theorem dX10_meetsAt_59 : decode cX10_meetsAt 59 = .ok (.bipush 60, 2) := by decide +kernel
theorem dX10_meetsAt_61 : decode cX10_meetsAt 61 = .ok (.iload 4, 2) := by decide +kernel
theorem dX10_meetsAt_63 : decode cX10_meetsAt 63 = .ok (.imul, 1) := by decide +kernel
theorem dX10_meetsAt_64 : decode cX10_meetsAt 64 = .ok (.iload 7, 2) := by decide +kernel
theorem dX10_meetsAt_66 : decode cX10_meetsAt 66 = .ok (.iadd, 1) := by decide +kernel
theorem dX10_meetsAt_67 : decode cX10_meetsAt 67 = .ok (.iaload, 1) := by decide +kernel
theorem dX10_meetsAt_68 : decode cX10_meetsAt 68 = .ok (.istore 9, 2) := by decide +kernel
theorem dX10_meetsAt_70 : decode cX10_meetsAt 70 = .ok (.aload_n 0, 1) := by decide +kernel
theorem dX10_meetsAt_71 : decode cX10_meetsAt 71 = .ok (.getfield 13, 3) := by decide +kernel
theorem dX10_meetsAt_74 : decode cX10_meetsAt 74 = .ok (.bipush 60, 2) := by decide +kernel
theorem dX10_meetsAt_76 : decode cX10_meetsAt 76 = .ok (.iload 5, 2) := by decide +kernel
theorem dX10_meetsAt_78 : decode cX10_meetsAt 78 = .ok (.imul, 1) := by decide +kernel
theorem dX10_meetsAt_79 : decode cX10_meetsAt 79 = .ok (.iload 8, 2) := by decide +kernel
theorem dX10_meetsAt_81 : decode cX10_meetsAt 81 = .ok (.iadd, 1) := by decide +kernel
theorem dX10_meetsAt_82 : decode cX10_meetsAt 82 = .ok (.iaload, 1) := by decide +kernel
theorem dX10_meetsAt_83 : decode cX10_meetsAt 83 = .ok (.istore 10, 2) := by decide +kernel
theorem dX10_meetsAt_85 : decode cX10_meetsAt 85 = .ok (.iload 9, 2) := by decide +kernel
theorem dX10_meetsAt_87 : decode cX10_meetsAt 87 = .ok (.iconst (-1), 1) := by decide +kernel
theorem dX10_meetsAt_88 : decode cX10_meetsAt 88 = .ok (.if_icmp .ne 37, 3) := by decide +kernel
theorem dX10_meetsAt_91 : decode cX10_meetsAt 91 = .ok (.aload_n 0, 1) := by decide +kernel
theorem dX10_meetsAt_92 : decode cX10_meetsAt 92 = .ok (.iload 5, 2) := by decide +kernel
theorem dX10_meetsAt_94 : decode cX10_meetsAt 94 = .ok (.iload 8, 2) := by decide +kernel
theorem dX10_meetsAt_96 : decode cX10_meetsAt 96 = .ok (.invokevirtual 75, 3) := by decide +kernel
theorem dX10_meetsAt_99 : decode cX10_meetsAt 99 = .ok (.istore 11, 2) := by decide +kernel
theorem dX10_meetsAt_101 : decode cX10_meetsAt 101 = .ok (.aload_n 0, 1) := by decide +kernel
theorem dX10_meetsAt_102 : decode cX10_meetsAt 102 = .ok (.bipush 27, 2) := by decide +kernel
theorem dX10_meetsAt_104 : decode cX10_meetsAt 104 = .ok (.iload 5, 2) := by decide +kernel
theorem dX10_meetsAt_106 : decode cX10_meetsAt 106 = .ok (.iload 8, 2) := by decide +kernel
theorem dX10_meetsAt_108 : decode cX10_meetsAt 108 = .ok (.iload 11, 2) := by decide +kernel
theorem dX10_meetsAt_110 : decode cX10_meetsAt 110 = .ok (.invokevirtual 91, 3) := by decide +kernel
theorem dX10_meetsAt_113 : decode cX10_meetsAt 113 = .ok (.istore 6, 2) := by decide +kernel
theorem dX10_meetsAt_115 : decode cX10_meetsAt 115 = .ok (.iload 11, 2) := by decide +kernel
theorem dX10_meetsAt_117 : decode cX10_meetsAt 117 = .ok (.istore 8, 2) := by decide +kernel
theorem dX10_meetsAt_119 : decode cX10_meetsAt 119 = .ok (.iinc 7 1, 3) := by decide +kernel
theorem dX10_meetsAt_122 : decode cX10_meetsAt 122 = .ok (.goto 80, 3) := by decide +kernel
theorem dX10_meetsAt_125 : decode cX10_meetsAt 125 = .ok (.iload 10, 2) := by decide +kernel
theorem dX10_meetsAt_127 : decode cX10_meetsAt 127 = .ok (.iconst (-1), 1) := by decide +kernel
theorem dX10_meetsAt_128 : decode cX10_meetsAt 128 = .ok (.if_icmp .ne 37, 3) := by decide +kernel
theorem dX10_meetsAt_131 : decode cX10_meetsAt 131 = .ok (.aload_n 0, 1) := by decide +kernel
theorem dX10_meetsAt_132 : decode cX10_meetsAt 132 = .ok (.iload 4, 2) := by decide +kernel
theorem dX10_meetsAt_134 : decode cX10_meetsAt 134 = .ok (.iload 7, 2) := by decide +kernel
theorem dX10_meetsAt_136 : decode cX10_meetsAt 136 = .ok (.invokevirtual 75, 3) := by decide +kernel
theorem dX10_meetsAt_139 : decode cX10_meetsAt 139 = .ok (.istore 11, 2) := by decide +kernel
theorem dX10_meetsAt_141 : decode cX10_meetsAt 141 = .ok (.aload_n 0, 1) := by decide +kernel
theorem dX10_meetsAt_142 : decode cX10_meetsAt 142 = .ok (.bipush 27, 2) := by decide +kernel
theorem dX10_meetsAt_144 : decode cX10_meetsAt 144 = .ok (.iload 4, 2) := by decide +kernel
theorem dX10_meetsAt_146 : decode cX10_meetsAt 146 = .ok (.iload 7, 2) := by decide +kernel
theorem dX10_meetsAt_148 : decode cX10_meetsAt 148 = .ok (.iload 11, 2) := by decide +kernel
theorem dX10_meetsAt_150 : decode cX10_meetsAt 150 = .ok (.invokevirtual 91, 3) := by decide +kernel
theorem dX10_meetsAt_153 : decode cX10_meetsAt 153 = .ok (.istore 6, 2) := by decide +kernel
theorem dX10_meetsAt_155 : decode cX10_meetsAt 155 = .ok (.iload 11, 2) := by decide +kernel
theorem dX10_meetsAt_157 : decode cX10_meetsAt 157 = .ok (.istore 7, 2) := by decide +kernel
theorem dX10_meetsAt_159 : decode cX10_meetsAt 159 = .ok (.iinc 8 1, 3) := by decide +kernel
theorem dX10_meetsAt_162 : decode cX10_meetsAt 162 = .ok (.goto 40, 3) := by decide +kernel
theorem dX10_meetsAt_165 : decode cX10_meetsAt 165 = .ok (.iload 9, 2) := by decide +kernel
theorem dX10_meetsAt_167 : decode cX10_meetsAt 167 = .ok (.iload 10, 2) := by decide +kernel
theorem dX10_meetsAt_169 : decode cX10_meetsAt 169 = .ok (.if_icmp .ne 24, 3) := by decide +kernel
theorem dX10_meetsAt_172 : decode cX10_meetsAt 172 = .ok (.aload_n 0, 1) := by decide +kernel
theorem dX10_meetsAt_173 : decode cX10_meetsAt 173 = .ok (.bipush 27, 2) := by decide +kernel
theorem dX10_meetsAt_175 : decode cX10_meetsAt 175 = .ok (.iload 4, 2) := by decide +kernel
theorem dX10_meetsAt_177 : decode cX10_meetsAt 177 = .ok (.iload 7, 2) := by decide +kernel
theorem dX10_meetsAt_179 : decode cX10_meetsAt 179 = .ok (.iload 7, 2) := by decide +kernel
theorem dX10_meetsAt_181 : decode cX10_meetsAt 181 = .ok (.iconst 1, 1) := by decide +kernel
theorem dX10_meetsAt_182 : decode cX10_meetsAt 182 = .ok (.iadd, 1) := by decide +kernel
theorem dX10_meetsAt_183 : decode cX10_meetsAt 183 = .ok (.invokevirtual 91, 3) := by decide +kernel
theorem dX10_meetsAt_186 : decode cX10_meetsAt 186 = .ok (.ifCond .eq 7, 3) := by decide +kernel
theorem dX10_meetsAt_189 : decode cX10_meetsAt 189 = .ok (.iconst 1, 1) := by decide +kernel
theorem dX10_meetsAt_190 : decode cX10_meetsAt 190 = .ok (.goto 4, 3) := by decide +kernel
theorem dX10_meetsAt_193 : decode cX10_meetsAt 193 = .ok (.iconst 0, 1) := by decide +kernel
theorem dX10_meetsAt_194 : decode cX10_meetsAt 194 = .ok (.istore 6, 2) := by decide +kernel
theorem dX10_meetsAt_196 : decode cX10_meetsAt 196 = .ok (.iinc 7 1, 3) := by decide +kernel
theorem dX10_meetsAt_199 : decode cX10_meetsAt 199 = .ok (.iinc 8 1, 3) := by decide +kernel
theorem dX10_meetsAt_202 : decode cX10_meetsAt 202 = .ok (.goto (-164), 3) := by decide +kernel
theorem dX10_meetsAt_205 : decode cX10_meetsAt 205 = .ok (.iload 6, 2) := by decide +kernel
theorem dX10_meetsAt_207 : decode cX10_meetsAt 207 = .ok (.ifCond .eq 27, 3) := by decide +kernel
theorem dX10_meetsAt_210 : decode cX10_meetsAt 210 = .ok (.aload_n 0, 1) := by decide +kernel
theorem dX10_meetsAt_211 : decode cX10_meetsAt 211 = .ok (.bipush 27, 2) := by decide +kernel
theorem dX10_meetsAt_213 : decode cX10_meetsAt 213 = .ok (.iload 4, 2) := by decide +kernel
theorem dX10_meetsAt_215 : decode cX10_meetsAt 215 = .ok (.iload 7, 2) := by decide +kernel
theorem dX10_meetsAt_217 : decode cX10_meetsAt 217 = .ok (.aload_n 0, 1) := by decide +kernel
theorem dX10_meetsAt_218 : decode cX10_meetsAt 218 = .ok (.getfield 16, 3) := by decide +kernel
theorem dX10_meetsAt_221 : decode cX10_meetsAt 221 = .ok (.iload 4, 2) := by decide +kernel
theorem dX10_meetsAt_223 : decode cX10_meetsAt 223 = .ok (.iaload, 1) := by decide +kernel
theorem dX10_meetsAt_224 : decode cX10_meetsAt 224 = .ok (.invokevirtual 91, 3) := by decide +kernel
theorem dX10_meetsAt_227 : decode cX10_meetsAt 227 = .ok (.ifCond .eq 7, 3) := by decide +kernel
theorem dX10_meetsAt_230 : decode cX10_meetsAt 230 = .ok (.iconst 1, 1) := by decide +kernel
theorem dX10_meetsAt_231 : decode cX10_meetsAt 231 = .ok (.goto 4, 3) := by decide +kernel
theorem dX10_meetsAt_234 : decode cX10_meetsAt 234 = .ok (.iconst 0, 1) := by decide +kernel
theorem dX10_meetsAt_235 : decode cX10_meetsAt 235 = .ok (.ireturn, 1) := by decide +kernel
set_option maxRecDepth 20000 in
theorem ggX10_goesTo_X10_meetsAt : GoodIn wsX10_goesTo wsX10_meetsAt := goodIn_r _ [11, 2, 3, 12, 13, 14, 10, 15, 16, 17, 18, 19, 20, 21, 22, 23, 24, 25, 26, 27, 28, 29, 30, 31, 32, 33, 34, 35, 36, 37, 38, 39, 40, 41, 42, 43, 44, 45, 46, 47, 48, 49, 50] (by decide +kernel) (by decide +kernel)
set_option maxRecDepth 20000 in
theorem gX10_goesTo_X10_meetsAt : GoodIn wsX10_goesTo (wsV RX10 156 RX10 yX10_meetsAt wsX10_meetsAt) := goodIn_app (goodIn_of _ (by decide +kernel)) ggX10_goesTo_X10_meetsAt
theorem dX10_goesTo_0 : decode cX10_goesTo 0 = .ok (.iconst 0, 1) := by decide +kernel
theorem dX10_goesTo_1 : decode cX10_goesTo 1 = .ok (.istore_n 2, 1) := by decide +kernel
theorem dX10_goesTo_2 : decode cX10_goesTo 2 = .ok (.iconst 0, 1) := by decide +kernel
theorem dX10_goesTo_3 : decode cX10_goesTo 3 = .ok (.istore_n 3, 1) := by decide +kernel
theorem dX10_goesTo_4 : decode cX10_goesTo 4 = .ok (.iload_n 3, 1) := by decide +kernel
theorem dX10_goesTo_5 : decode cX10_goesTo 5 = .ok (.aload_n 0, 1) := by decide +kernel
theorem dX10_goesTo_6 : decode cX10_goesTo 6 = .ok (.getfield 102, 3) := by decide +kernel
theorem dX10_goesTo_9 : decode cX10_goesTo 9 = .ok (.if_icmp .ge 119, 3) := by decide +kernel
theorem dX10_goesTo_12 : decode cX10_goesTo 12 = .ok (.iconst 0, 1) := by decide +kernel
theorem dX10_goesTo_13 : decode cX10_goesTo 13 = .ok (.istore 4, 2) := by decide +kernel
theorem dX10_goesTo_15 : decode cX10_goesTo 15 = .ok (.iload 4, 2) := by decide +kernel
theorem dX10_goesTo_17 : decode cX10_goesTo 17 = .ok (.aload_n 0, 1) := by decide +kernel
theorem dX10_goesTo_18 : decode cX10_goesTo 18 = .ok (.getfield 102, 3) := by decide +kernel
theorem dX10_goesTo_21 : decode cX10_goesTo 21 = .ok (.if_icmp .ge 101, 3) := by decide +kernel
theorem dX10_goesTo_24 : decode cX10_goesTo 24 = .ok (.iconst 0, 1) := by decide +kernel
theorem dX10_goesTo_25 : decode cX10_goesTo 25 = .ok (.istore 5, 2) := by decide +kernel
theorem dX10_goesTo_27 : decode cX10_goesTo 27 = .ok (.iload 5, 2) := by decide +kernel
theorem dX10_goesTo_29 : decode cX10_goesTo 29 = .ok (.aload_n 0, 1) := by decide +kernel
theorem dX10_goesTo_30 : decode cX10_goesTo 30 = .ok (.getfield 16, 3) := by decide +kernel
theorem dX10_goesTo_33 : decode cX10_goesTo 33 = .ok (.bipush 10, 2) := by decide +kernel
theorem dX10_goesTo_35 : decode cX10_goesTo 35 = .ok (.iload_n 3, 1) := by decide +kernel
theorem dX10_goesTo_36 : decode cX10_goesTo 36 = .ok (.iadd, 1) := by decide +kernel
theorem dX10_goesTo_37 : decode cX10_goesTo 37 = .ok (.iaload, 1) := by decide +kernel
theorem dX10_goesTo_38 : decode cX10_goesTo 38 = .ok (.if_icmp .ge 78, 3) := by decide +kernel
theorem dX10_goesTo_41 : decode cX10_goesTo 41 = .ok (.aload_n 0, 1) := by decide +kernel
theorem dX10_goesTo_42 : decode cX10_goesTo 42 = .ok (.getfield 13, 3) := by decide +kernel
theorem dX10_goesTo_45 : decode cX10_goesTo 45 = .ok (.bipush 60, 2) := by decide +kernel
theorem dX10_goesTo_47 : decode cX10_goesTo 47 = .ok (.bipush 10, 2) := by decide +kernel
theorem dX10_goesTo_49 : decode cX10_goesTo 49 = .ok (.iload_n 3, 1) := by decide +kernel
theorem dX10_goesTo_50 : decode cX10_goesTo 50 = .ok (.iadd, 1) := by decide +kernel
theorem dX10_goesTo_51 : decode cX10_goesTo 51 = .ok (.imul, 1) := by decide +kernel
theorem dX10_goesTo_52 : decode cX10_goesTo 52 = .ok (.iload 5, 2) := by decide +kernel
theorem dX10_goesTo_54 : decode cX10_goesTo 54 = .ok (.iadd, 1) := by decide +kernel
theorem dX10_goesTo_55 : decode cX10_goesTo 55 = .ok (.iaload, 1) := by decide +kernel
theorem dX10_goesTo_56 : decode cX10_goesTo 56 = .ok (.iconst (-1), 1) := by decide +kernel
theorem dX10_goesTo_57 : decode cX10_goesTo 57 = .ok (.if_icmp .eq 53, 3) := by decide +kernel
theorem dX10_goesTo_60 : decode cX10_goesTo 60 = .ok (.iload 5, 2) := by decide +kernel
theorem dX10_goesTo_62 : decode cX10_goesTo 62 = .ok (.ifCond .gt 9, 3) := by decide +kernel
theorem dX10_goesTo_65 : decode cX10_goesTo 65 = .ok (.iload_n 3, 1) := by decide +kernel
theorem dX10_goesTo_66 : decode cX10_goesTo 66 = .ok (.iload 4, 2) := by decide +kernel
theorem dX10_goesTo_68 : decode cX10_goesTo 68 = .ok (.if_icmp .ge 42, 3) := by decide +kernel
theorem dX10_goesTo_71 : decode cX10_goesTo 71 = .ok (.aload_n 0, 1) := by decide +kernel
theorem dX10_goesTo_72 : decode cX10_goesTo 72 = .ok (.iload_n 3, 1) := by decide +kernel
theorem dX10_goesTo_73 : decode cX10_goesTo 73 = .ok (.iload 4, 2) := by decide +kernel
theorem dX10_goesTo_75 : decode cX10_goesTo 75 = .ok (.iload 5, 2) := by decide +kernel
theorem dX10_goesTo_77 : decode cX10_goesTo 77 = .ok (.invokevirtual 156, 3) := by decide +kernel
theorem dX10_goesTo_80 : decode cX10_goesTo 80 = .ok (.ifCond .eq 30, 3) := by decide +kernel
theorem dX10_goesTo_83 : decode cX10_goesTo 83 = .ok (.iload_n 2, 1) := by decide +kernel
theorem dX10_goesTo_84 : decode cX10_goesTo 84 = .ok (.iload_n 1, 1) := by decide +kernel
theorem dX10_goesTo_85 : decode cX10_goesTo 85 = .ok (.if_icmp .ne 22, 3) := by decide +kernel
theorem dX10_goesTo_88 : decode cX10_goesTo 88 = .ok (.aload_n 0, 1) := by decide +kernel
theorem dX10_goesTo_89 : decode cX10_goesTo 89 = .ok (.iload_n 3, 1) := by decide +kernel
theorem dX10_goesTo_90 : decode cX10_goesTo 90 = .ok (.putfield 159, 3) := by decide +kernel
theorem dX10_goesTo_93 : decode cX10_goesTo 93 = .ok (.aload_n 0, 1) := by decide +kernel
theorem dX10_goesTo_94 : decode cX10_goesTo 94 = .ok (.iload 4, 2) := by decide +kernel
theorem dX10_goesTo_96 : decode cX10_goesTo 96 = .ok (.putfield 162, 3) := by decide +kernel
theorem dX10_goesTo_99 : decode cX10_goesTo 99 = .ok (.aload_n 0, 1) := by decide +kernel
theorem dX10_goesTo_100 : decode cX10_goesTo 100 = .ok (.iload 5, 2) := by decide +kernel
theorem dX10_goesTo_102 : decode cX10_goesTo 102 = .ok (.putfield 165, 3) := by decide +kernel
theorem dX10_goesTo_105 : decode cX10_goesTo 105 = .ok (.iload_n 2, 1) := by decide +kernel
theorem dX10_goesTo_106 : decode cX10_goesTo 106 = .ok (.ireturn, 1) := by decide +kernel
theorem dX10_goesTo_107 : decode cX10_goesTo 107 = .ok (.iinc 2 1, 3) := by decide +kernel
theorem dX10_goesTo_110 : decode cX10_goesTo 110 = .ok (.iinc 5 1, 3) := by decide +kernel
theorem dX10_goesTo_113 : decode cX10_goesTo 113 = .ok (.goto (-86), 3) := by decide +kernel
theorem dX10_goesTo_116 : decode cX10_goesTo 116 = .ok (.iinc 4 1, 3) := by decide +kernel
theorem dX10_goesTo_119 : decode cX10_goesTo 119 = .ok (.goto (-104), 3) := by decide +kernel
theorem dX10_goesTo_122 : decode cX10_goesTo 122 = .ok (.iinc 3 1, 3) := by decide +kernel
theorem dX10_goesTo_125 : decode cX10_goesTo 125 = .ok (.goto (-121), 3) := by decide +kernel
theorem dX10_goesTo_128 : decode cX10_goesTo 128 = .ok (.iload_n 2, 1) := by decide +kernel
theorem dX10_goesTo_129 : decode cX10_goesTo 129 = .ok (.ireturn, 1) := by decide +kernel
end
section
set_option maxRecDepth 20000 in
theorem ggX10_overlaps_X10_goesTo : GoodIn wsX10_overlaps wsX10_goesTo := goodIn_r _ [6, 7, 8, 9, 10, 11, 12, 13, 14, 15, 5, 16, 17, 18, 19, 20, 21, 22, 23, 24, 25, 26, 27, 28, 29, 30, 31, 32, 33, 34, 35, 36, 37, 38, 39, 40, 41, 42, 43, 44, 45, 46, 47, 48, 49, 50, 51, 52, 53, 54, 55] (by decide +kernel) (by decide +kernel)
set_option maxRecDepth 20000 in
theorem gX10_overlaps_X10_goesTo : GoodIn wsX10_overlaps (wsV RX10 169 RX10 yX10_goesTo wsX10_goesTo) := goodIn_app (goodIn_of _ (by decide +kernel)) ggX10_overlaps_X10_goesTo
theorem dX10_overlaps_0 : decode cX10_overlaps 0 = .ok (.aload_n 0, 1) := by decide +kernel
theorem dX10_overlaps_1 : decode cX10_overlaps 1 = .ok (.ldc 168, 2) := by decide +kernel
theorem dX10_overlaps_3 : decode cX10_overlaps 3 = .ok (.invokevirtual 169, 3) := by decide +kernel
theorem dX10_overlaps_6 : decode cX10_overlaps 6 = .ok (.ireturn, 1) := by decide +kernel
set_option maxRecDepth 20000 in
theorem ggX10_hasOverlap_X10_goesTo : GoodIn wsX10_hasOverlap wsX10_goesTo := goodIn_r _ [6, 7, 8, 9, 1, 10, 11, 12, 13, 14, 5, 15, 16, 17, 18, 19, 20, 21, 22, 23, 24, 25, 26, 27, 28, 29, 30, 31, 32, 33, 34, 35, 36, 37, 38, 39, 40, 41, 42, 43, 44, 45, 46, 47, 48, 49, 50, 51, 52, 53, 54] (by decide +kernel) (by decide +kernel)
set_option maxRecDepth 20000 in
theorem gX10_hasOverlap_X10_goesTo : GoodIn wsX10_hasOverlap (wsV RX10 169 RX10 yX10_goesTo wsX10_goesTo) := goodIn_app (goodIn_of _ (by decide +kernel)) ggX10_hasOverlap_X10_goesTo
theorem dX10_hasOverlap_0 : decode cX10_hasOverlap 0 = .ok (.aload_n 0, 1) := by decide +kernel
theorem dX10_hasOverlap_1 : decode cX10_hasOverlap 1 = .ok (.iconst (-1), 1) := by decide +kernel
theorem dX10_hasOverlap_2 : decode cX10_hasOverlap 2 = .ok (.putfield 159, 3) := by decide +kernel
theorem dX10_hasOverlap_5 : decode cX10_hasOverlap 5 = .ok (.aload_n 0, 1) := by decide +kernel
theorem dX10_hasOverlap_6 : decode cX10_hasOverlap 6 = .ok (.iload_n 1, 1) := by decide +kernel
theorem dX10_hasOverlap_7 : decode cX10_hasOverlap 7 = .ok (.invokevirtual 169, 3) := by decide +kernel
theorem dX10_hasOverlap_10 : decode cX10_hasOverlap 10 = .ok (.pop, 1) := by decide +kernel
theorem dX10_hasOverlap_11 : decode cX10_hasOverlap 11 = .ok (.aload_n 0, 1) := by decide +kernel
theorem dX10_hasOverlap_12 : decode cX10_hasOverlap 12 = .ok (.getfield 159, 3) := by decide +kernel
theorem dX10_hasOverlap_15 : decode cX10_hasOverlap 15 = .ok (.iconst (-1), 1) := by decide +kernel
theorem dX10_hasOverlap_16 : decode cX10_hasOverlap 16 = .ok (.if_icmp .eq 7, 3) := by decide +kernel
theorem dX10_hasOverlap_19 : decode cX10_hasOverlap 19 = .ok (.iconst 1, 1) := by decide +kernel
theorem dX10_hasOverlap_20 : decode cX10_hasOverlap 20 = .ok (.goto 4, 3) := by decide +kernel
theorem dX10_hasOverlap_23 : decode cX10_hasOverlap 23 = .ok (.iconst 0, 1) := by decide +kernel
theorem dX10_hasOverlap_24 : decode cX10_hasOverlap 24 = .ok (.ireturn, 1) := by decide +kernel
set_option maxRecDepth 20000 in
theorem ggX10_overlap_X10_isRow : GoodIn wsX10_overlap wsX10_isRow := goodIn_r _ [7, 8, 9, 6, 10] (by decide +kernel) (by decide +kernel)
set_option maxRecDepth 20000 in
theorem gX10_overlap_X10_isRow : GoodIn wsX10_overlap (va_wsS RX10 63 yX10_isRow wsX10_isRow) := goodIn_app (goodIn_of _ (by decide +kernel)) ggX10_overlap_X10_isRow
set_option maxRecDepth 20000 in
theorem ggX10_overlap_X10_hasOverlap : GoodIn wsX10_overlap wsX10_hasOverlap := goodIn_r _ [14, 1, 15, 16, 17, 6, 18, 19, 20, 21, 2, 3, 22, 23, 24, 25, 26, 27, 28, 29, 30, 31, 32, 33, 34, 35, 36, 37, 38, 39, 40, 41, 42, 47, 48, 49, 50, 51, 52, 53, 54, 55, 56, 57, 58, 59, 60, 61, 62, 63, 64, 65, 66, 67, 68] (by decide +kernel) (by decide +kernel)
set_option maxRecDepth 20000 in
theorem gX10_overlap_X10_hasOverlap : GoodIn wsX10_overlap (wsV RX10 172 RX10 yX10_hasOverlap wsX10_hasOverlap) := goodIn_app (goodIn_of _ (by decide +kernel)) ggX10_overlap_X10_hasOverlap
set_option maxRecDepth 20000 in
theorem ggX10_overlap_X10_copy : GoodIn wsX10_overlap wsX10_copy := goodIn_r _ [46, 20, 21, 47, 48, 49, 50, 51, 52, 53, 54, 55, 56, 57, 58, 59, 60, 61, 62, 63, 64, 65, 66, 67, 68] (by decide +kernel) (by decide +kernel)
set_option maxRecDepth 20000 in
theorem gX10_overlap_X10_copy : GoodIn wsX10_overlap (wsV RX10 95 RX10 yX10_copy wsX10_copy) := goodIn_app (goodIn_of _ (by decide +kernel)) ggX10_overlap_X10_copy
theorem dX10_overlap_0 : decode cX10_overlap 0 = .ok (.iload_n 1, 1) := by decide +kernel
theorem dX10_overlap_1 : decode cX10_overlap 1 = .ok (.ifCond .lt 10, 3) := by decide +kernel
theorem dX10_overlap_4 : decode cX10_overlap 4 = .ok (.iload_n 2, 1) := by decide +kernel
theorem dX10_overlap_5 : decode cX10_overlap 5 = .ok (.invokestatic 63, 3) := by decide +kernel
theorem dX10_overlap_8 : decode cX10_overlap 8 = .ok (.ifCond .ne 6, 3) := by decide +kernel
theorem dX10_overlap_11 : decode cX10_overlap 11 = .ok (.bipush (-2), 2) := by decide +kernel
theorem dX10_overlap_13 : decode cX10_overlap 13 = .ok (.ireturn, 1) := by decide +kernel
theorem dX10_overlap_14 : decode cX10_overlap 14 = .ok (.aload_n 0, 1) := by decide +kernel
theorem dX10_overlap_15 : decode cX10_overlap 15 = .ok (.iload_n 1, 1) := by decide +kernel
theorem dX10_overlap_16 : decode cX10_overlap 16 = .ok (.invokevirtual 172, 3) := by decide +kernel
theorem dX10_overlap_19 : decode cX10_overlap 19 = .ok (.ifCond .ne 5, 3) := by decide +kernel
theorem dX10_overlap_22 : decode cX10_overlap 22 = .ok (.iconst (-1), 1) := by decide +kernel
theorem dX10_overlap_23 : decode cX10_overlap 23 = .ok (.ireturn, 1) := by decide +kernel
theorem dX10_overlap_24 : decode cX10_overlap 24 = .ok (.aload_n 0, 1) := by decide +kernel
theorem dX10_overlap_25 : decode cX10_overlap 25 = .ok (.bipush 27, 2) := by decide +kernel
theorem dX10_overlap_27 : decode cX10_overlap 27 = .ok (.iload_n 2, 1) := by decide +kernel
theorem dX10_overlap_28 : decode cX10_overlap 28 = .ok (.invokevirtual 95, 3) := by decide +kernel
theorem dX10_overlap_31 : decode cX10_overlap 31 = .ok (.sipush 1000, 3) := by decide +kernel
theorem dX10_overlap_34 : decode cX10_overlap 34 = .ok (.aload_n 0, 1) := by decide +kernel
theorem dX10_overlap_35 : decode cX10_overlap 35 = .ok (.getfield 159, 3) := by decide +kernel
theorem dX10_overlap_38 : decode cX10_overlap 38 = .ok (.imul, 1) := by decide +kernel
theorem dX10_overlap_39 : decode cX10_overlap 39 = .ok (.bipush 100, 2) := by decide +kernel
theorem dX10_overlap_41 : decode cX10_overlap 41 = .ok (.aload_n 0, 1) := by decide +kernel
theorem dX10_overlap_42 : decode cX10_overlap 42 = .ok (.getfield 162, 3) := by decide +kernel
theorem dX10_overlap_45 : decode cX10_overlap 45 = .ok (.imul, 1) := by decide +kernel
theorem dX10_overlap_46 : decode cX10_overlap 46 = .ok (.iadd, 1) := by decide +kernel
theorem dX10_overlap_47 : decode cX10_overlap 47 = .ok (.aload_n 0, 1) := by decide +kernel
theorem dX10_overlap_48 : decode cX10_overlap 48 = .ok (.getfield 165, 3) := by decide +kernel
theorem dX10_overlap_51 : decode cX10_overlap 51 = .ok (.iadd, 1) := by decide +kernel
theorem dX10_overlap_52 : decode cX10_overlap 52 = .ok (.ireturn, 1) := by decide +kernel
set_option maxRecDepth 20000 in
theorem ggX10_comesOf_X10_copy : GoodIn wsX10_comesOf wsX10_copy := goodIn_r _ [5, 6, 7, 47, 48, 49, 50, 51, 52, 53, 54, 55, 56, 57, 58, 59, 60, 61, 62, 63, 64, 65, 66, 67, 68] (by decide +kernel) (by decide +kernel)
set_option maxRecDepth 20000 in
theorem gX10_comesOf_X10_copy : GoodIn wsX10_comesOf (wsV RX10 95 RX10 yX10_copy wsX10_copy) := goodIn_app (goodIn_of _ (by decide +kernel)) ggX10_comesOf_X10_copy
set_option maxRecDepth 20000 in
theorem ggX10_comesOf_X10_lies : GoodIn wsX10_comesOf wsX10_lies := goodIn_r _ [11, 12, 6, 7, 13, 14, 15, 16, 17, 18, 4, 19, 20, 21, 22, 23, 24, 47, 48, 49, 50, 51, 52, 53, 54, 55, 56, 57, 58, 59, 60, 61, 62, 63, 64, 65, 66, 67, 68] (by decide +kernel) (by decide +kernel)
set_option maxRecDepth 20000 in
theorem gX10_comesOf_X10_lies : GoodIn wsX10_comesOf (wsV RX10 120 RX10 yX10_lies wsX10_lies) := goodIn_app (goodIn_of _ (by decide +kernel)) ggX10_comesOf_X10_lies
set_option maxRecDepth 20000 in
theorem ggX10_comesOf_X10_uses : GoodIn wsX10_comesOf wsX10_uses := goodIn_r _ [28, 29, 6, 7, 13, 14, 15, 30, 31, 32, 4, 33, 34, 35, 36, 37, 1, 2, 3, 5, 47, 48, 49, 50, 51, 52, 53, 54, 55, 56, 57, 58, 59, 60, 61, 62, 63, 64, 65, 66, 67, 68] (by decide +kernel) (by decide +kernel)
set_option maxRecDepth 20000 in
theorem gX10_comesOf_X10_uses : GoodIn wsX10_comesOf (wsV RX10 126 RX10 yX10_uses wsX10_uses) := goodIn_app (goodIn_of _ (by decide +kernel)) ggX10_comesOf_X10_uses
set_option maxRecDepth 20000 in
theorem ggX10_comesOf_X10_normals : GoodIn wsX10_comesOf wsX10_normals := goodIn_r _ [41, 42, 43, 44, 4, 45, 6, 46, 8, 9, 10, 11, 12, 7, 13, 14, 15, 16, 17, 18, 19, 20, 21, 22, 23, 24, 25, 26, 27, 28, 29, 30, 31, 32, 33, 34, 35, 36, 37, 1, 2, 3, 5, 47, 48, 49, 50, 51, 52, 53, 54, 55, 56, 57, 58, 59, 60, 61, 62, 63, 64, 65, 66, 67, 68] (by decide +kernel) (by decide +kernel)
set_option maxRecDepth 20000 in
theorem gX10_comesOf_X10_normals : GoodIn wsX10_comesOf (wsV RX10 133 RX10 yX10_normals wsX10_normals) := goodIn_app (goodIn_of _ (by decide +kernel)) ggX10_comesOf_X10_normals
theorem dX10_comesOf_0 : decode cX10_comesOf 0 = .ok (.aload_n 0, 1) := by decide +kernel
theorem dX10_comesOf_1 : decode cX10_comesOf 1 = .ok (.bipush 27, 2) := by decide +kernel
theorem dX10_comesOf_3 : decode cX10_comesOf 3 = .ok (.iload_n 3, 1) := by decide +kernel
theorem dX10_comesOf_4 : decode cX10_comesOf 4 = .ok (.invokevirtual 95, 3) := by decide +kernel
theorem dX10_comesOf_7 : decode cX10_comesOf 7 = .ok (.aload_n 0, 1) := by decide +kernel
theorem dX10_comesOf_8 : decode cX10_comesOf 8 = .ok (.iload_n 1, 1) := by decide +kernel
theorem dX10_comesOf_9 : decode cX10_comesOf 9 = .ok (.iload_n 3, 1) := by decide +kernel
theorem dX10_comesOf_10 : decode cX10_comesOf 10 = .ok (.iload_n 2, 1) := by decide +kernel
theorem dX10_comesOf_11 : decode cX10_comesOf 11 = .ok (.invokevirtual 120, 3) := by decide +kernel
theorem dX10_comesOf_14 : decode cX10_comesOf 14 = .ok (.pop, 1) := by decide +kernel
theorem dX10_comesOf_15 : decode cX10_comesOf 15 = .ok (.aload_n 0, 1) := by decide +kernel
theorem dX10_comesOf_16 : decode cX10_comesOf 16 = .ok (.iload_n 1, 1) := by decide +kernel
theorem dX10_comesOf_17 : decode cX10_comesOf 17 = .ok (.iload_n 3, 1) := by decide +kernel
theorem dX10_comesOf_18 : decode cX10_comesOf 18 = .ok (.iload_n 2, 1) := by decide +kernel
theorem dX10_comesOf_19 : decode cX10_comesOf 19 = .ok (.invokevirtual 126, 3) := by decide +kernel
theorem dX10_comesOf_22 : decode cX10_comesOf 22 = .ok (.istore 4, 2) := by decide +kernel
theorem dX10_comesOf_24 : decode cX10_comesOf 24 = .ok (.iload 4, 2) := by decide +kernel
theorem dX10_comesOf_26 : decode cX10_comesOf 26 = .ok (.iconst 1, 1) := by decide +kernel
theorem dX10_comesOf_27 : decode cX10_comesOf 27 = .ok (.if_icmp .ne 33, 3) := by decide +kernel
theorem dX10_comesOf_30 : decode cX10_comesOf 30 = .ok (.aload_n 0, 1) := by decide +kernel
theorem dX10_comesOf_31 : decode cX10_comesOf 31 = .ok (.iload_n 3, 1) := by decide +kernel
theorem dX10_comesOf_32 : decode cX10_comesOf 32 = .ok (.invokevirtual 133, 3) := by decide +kernel
theorem dX10_comesOf_35 : decode cX10_comesOf 35 = .ok (.istore 5, 2) := by decide +kernel
theorem dX10_comesOf_37 : decode cX10_comesOf 37 = .ok (.iload 5, 2) := by decide +kernel
theorem dX10_comesOf_39 : decode cX10_comesOf 39 = .ok (.bipush (-5), 2) := by decide +kernel
theorem dX10_comesOf_41 : decode cX10_comesOf 41 = .ok (.if_icmp .ne 8, 3) := by decide +kernel
theorem dX10_comesOf_44 : decode cX10_comesOf 44 = .ok (.bipush (-5), 2) := by decide +kernel
theorem dX10_comesOf_46 : decode cX10_comesOf 46 = .ok (.goto 13, 3) := by decide +kernel
theorem dX10_comesOf_49 : decode cX10_comesOf 49 = .ok (.iload 5, 2) := by decide +kernel
theorem dX10_comesOf_51 : decode cX10_comesOf 51 = .ok (.ifCond .ge 7, 3) := by decide +kernel
theorem dX10_comesOf_54 : decode cX10_comesOf 54 = .ok (.iconst 0, 1) := by decide +kernel
theorem dX10_comesOf_55 : decode cX10_comesOf 55 = .ok (.goto 4, 3) := by decide +kernel
theorem dX10_comesOf_58 : decode cX10_comesOf 58 = .ok (.iconst 1, 1) := by decide +kernel
theorem dX10_comesOf_59 : decode cX10_comesOf 59 = .ok (.ireturn, 1) := by decide +kernel
theorem dX10_comesOf_60 : decode cX10_comesOf 60 = .ok (.iload 4, 2) := by decide +kernel
theorem dX10_comesOf_62 : decode cX10_comesOf 62 = .ok (.iconst 2, 1) := by decide +kernel
theorem dX10_comesOf_63 : decode cX10_comesOf 63 = .ok (.if_icmp .ne 7, 3) := by decide +kernel
theorem dX10_comesOf_66 : decode cX10_comesOf 66 = .ok (.iconst 0, 1) := by decide +kernel
theorem dX10_comesOf_67 : decode cX10_comesOf 67 = .ok (.goto 5, 3) := by decide +kernel
theorem dX10_comesOf_70 : decode cX10_comesOf 70 = .ok (.bipush (-5), 2) := by decide +kernel
theorem dX10_comesOf_72 : decode cX10_comesOf 72 = .ok (.ireturn, 1) := by decide +kernel
set_option maxRecDepth 20000 in
theorem ggX10_closes_X10_hasOverlap : GoodIn wsX10_closes wsX10_hasOverlap := goodIn_r _ [12, 1, 13, 14, 15, 11, 16, 17, 2, 5, 6, 7, 18, 19, 20, 21, 22, 23, 24, 25, 26, 27, 28, 29, 30, 31, 32, 33, 34, 35, 36, 37, 38, 68, 69, 70, 71, 72, 73, 74, 75, 76, 77, 78, 79, 80, 81, 82, 83, 84, 85, 86, 87, 88, 89] (by decide +kernel) (by decide +kernel)
set_option maxRecDepth 20000 in
theorem gX10_closes_X10_hasOverlap : GoodIn wsX10_closes (wsV RX10 172 RX10 yX10_hasOverlap wsX10_hasOverlap) := goodIn_app (goodIn_of _ (by decide +kernel)) ggX10_closes_X10_hasOverlap
set_option maxRecDepth 20000 in
theorem ggX10_closes_X10_comesOf : GoodIn wsX10_closes wsX10_comesOf := goodIn_r _ [42, 43, 44, 45, 11, 46, 2, 5, 47, 48, 49, 50, 51, 52, 53, 54, 30, 31, 32, 33, 34, 35, 36, 37, 38, 55, 56, 57, 58, 59, 22, 23, 24, 25, 26, 27, 28, 29, 60, 61, 62, 63, 64, 65, 66, 67, 17, 68, 69, 70, 71, 72, 73, 74, 75, 76, 77, 78, 79, 80, 81, 82, 83, 84, 85, 86, 87, 88, 89] (by decide +kernel) (by decide +kernel)
set_option maxRecDepth 20000 in
theorem gX10_closes_X10_comesOf : GoodIn wsX10_closes (wsV RX10 175 RX10 yX10_comesOf wsX10_comesOf) := goodIn_app (goodIn_of _ (by decide +kernel)) ggX10_closes_X10_comesOf
theorem dX10_closes_0 : decode cX10_closes 0 = .ok (.iconst 0, 1) := by decide +kernel
theorem dX10_closes_1 : decode cX10_closes 1 = .ok (.istore_n 1, 1) := by decide +kernel
theorem dX10_closes_2 : decode cX10_closes 2 = .ok (.aload_n 0, 1) := by decide +kernel
theorem dX10_closes_3 : decode cX10_closes 3 = .ok (.iload_n 1, 1) := by decide +kernel
theorem dX10_closes_4 : decode cX10_closes 4 = .ok (.invokevirtual 172, 3) := by decide +kernel
theorem dX10_closes_7 : decode cX10_closes 7 = .ok (.ifCond .eq 192, 3) := by decide +kernel
theorem dX10_closes_10 : decode cX10_closes 10 = .ok (.aload_n 0, 1) := by decide +kernel
theorem dX10_closes_11 : decode cX10_closes 11 = .ok (.aload_n 0, 1) := by decide +kernel
theorem dX10_closes_12 : decode cX10_closes 12 = .ok (.getfield 159, 3) := by decide +kernel
theorem dX10_closes_15 : decode cX10_closes 15 = .ok (.iconst 0, 1) := by decide +kernel
theorem dX10_closes_16 : decode cX10_closes 16 = .ok (.bipush 26, 2) := by decide +kernel
theorem dX10_closes_18 : decode cX10_closes 18 = .ok (.invokevirtual 175, 3) := by decide +kernel
theorem dX10_closes_21 : decode cX10_closes 21 = .ok (.istore_n 2, 1) := by decide +kernel
theorem dX10_closes_22 : decode cX10_closes 22 = .ok (.aload_n 0, 1) := by decide +kernel
theorem dX10_closes_23 : decode cX10_closes 23 = .ok (.aload_n 0, 1) := by decide +kernel
theorem dX10_closes_24 : decode cX10_closes 24 = .ok (.getfield 16, 3) := by decide +kernel
theorem dX10_closes_27 : decode cX10_closes 27 = .ok (.bipush 26, 2) := by decide +kernel
theorem dX10_closes_29 : decode cX10_closes 29 = .ok (.iaload, 1) := by decide +kernel
theorem dX10_closes_30 : decode cX10_closes 30 = .ok (.putfield 178, 3) := by decide +kernel
theorem dX10_closes_33 : decode cX10_closes 33 = .ok (.iconst 0, 1) := by decide +kernel
theorem dX10_closes_34 : decode cX10_closes 34 = .ok (.istore_n 3, 1) := by decide +kernel
theorem dX10_closes_35 : decode cX10_closes 35 = .ok (.iload_n 3, 1) := by decide +kernel
theorem dX10_closes_36 : decode cX10_closes 36 = .ok (.aload_n 0, 1) := by decide +kernel
theorem dX10_closes_37 : decode cX10_closes 37 = .ok (.getfield 178, 3) := by decide +kernel
theorem dX10_closes_40 : decode cX10_closes 40 = .ok (.if_icmp .ge 25, 3) := by decide +kernel
theorem dX10_closes_43 : decode cX10_closes 43 = .ok (.aload_n 0, 1) := by decide +kernel
theorem dX10_closes_44 : decode cX10_closes 44 = .ok (.getfield 36, 3) := by decide +kernel
theorem dX10_closes_47 : decode cX10_closes 47 = .ok (.iload_n 3, 1) := by decide +kernel
theorem dX10_closes_48 : decode cX10_closes 48 = .ok (.aload_n 0, 1) := by decide +kernel
theorem dX10_closes_49 : decode cX10_closes 49 = .ok (.getfield 13, 3) := by decide +kernel
theorem dX10_closes_52 : decode cX10_closes 52 = .ok (.sipush 1560, 3) := by decide +kernel
theorem dX10_closes_55 : decode cX10_closes 55 = .ok (.iload_n 3, 1) := by decide +kernel
theorem dX10_closes_56 : decode cX10_closes 56 = .ok (.iadd, 1) := by decide +kernel
theorem dX10_closes_57 : decode cX10_closes 57 = .ok (.iaload, 1) := by decide +kernel
theorem dX10_closes_58 : decode cX10_closes 58 = .ok (.iastore, 1) := by decide +kernel
theorem dX10_closes_59 : decode cX10_closes 59 = .ok (.iinc 3 1, 3) := by decide +kernel
theorem dX10_closes_62 : decode cX10_closes 62 = .ok (.goto (-27), 3) := by decide +kernel
theorem dX10_closes_65 : decode cX10_closes 65 = .ok (.iload_n 2, 1) := by decide +kernel
theorem dX10_closes_66 : decode cX10_closes 66 = .ok (.bipush (-5), 2) := by decide +kernel
theorem dX10_closes_68 : decode cX10_closes 68 = .ok (.if_icmp .ne 8, 3) := by decide +kernel
theorem dX10_closes_71 : decode cX10_closes 71 = .ok (.bipush (-5), 2) := by decide +kernel
theorem dX10_closes_73 : decode cX10_closes 73 = .ok (.goto 17, 3) := by decide +kernel
theorem dX10_closes_76 : decode cX10_closes 76 = .ok (.aload_n 0, 1) := by decide +kernel
theorem dX10_closes_77 : decode cX10_closes 77 = .ok (.aload_n 0, 1) := by decide +kernel
theorem dX10_closes_78 : decode cX10_closes 78 = .ok (.getfield 162, 3) := by decide +kernel
theorem dX10_closes_81 : decode cX10_closes 81 = .ok (.aload_n 0, 1) := by decide +kernel
theorem dX10_closes_82 : decode cX10_closes 82 = .ok (.getfield 165, 3) := by decide +kernel
theorem dX10_closes_85 : decode cX10_closes 85 = .ok (.bipush 26, 2) := by decide +kernel
theorem dX10_closes_87 : decode cX10_closes 87 = .ok (.invokevirtual 175, 3) := by decide +kernel
theorem dX10_closes_90 : decode cX10_closes 90 = .ok (.istore_n 3, 1) := by decide +kernel
theorem dX10_closes_91 : decode cX10_closes 91 = .ok (.iload_n 3, 1) := by decide +kernel
theorem dX10_closes_92 : decode cX10_closes 92 = .ok (.bipush (-5), 2) := by decide +kernel
theorem dX10_closes_94 : decode cX10_closes 94 = .ok (.if_icmp .ne 6, 3) := by decide +kernel
theorem dX10_closes_97 : decode cX10_closes 97 = .ok (.bipush (-5), 2) := by decide +kernel
theorem dX10_closes_99 : decode cX10_closes 99 = .ok (.ireturn, 1) := by decide +kernel
theorem dX10_closes_100 : decode cX10_closes 100 = .ok (.iload_n 2, 1) := by decide +kernel
theorem dX10_closes_101 : decode cX10_closes 101 = .ok (.iload_n 3, 1) := by decide +kernel
theorem dX10_closes_102 : decode cX10_closes 102 = .ok (.if_icmp .ne 25, 3) := by decide +kernel
theorem dX10_closes_105 : decode cX10_closes 105 = .ok (.iload_n 2, 1) := by decide +kernel
theorem dX10_closes_106 : decode cX10_closes 106 = .ok (.ifCond .eq 17, 3) := by decide +kernel
theorem dX10_closes_109 : decode cX10_closes 109 = .ok (.aload_n 0, 1) := by decide +kernel
theorem dX10_closes_110 : decode cX10_closes 110 = .ok (.getfield 178, 3) := by decide +kernel
theorem dX10_closes_113 : decode cX10_closes 113 = .ok (.aload_n 0, 1) := by decide +kernel
theorem dX10_closes_114 : decode cX10_closes 114 = .ok (.getfield 16, 3) := by decide +kernel
theorem dX10_closes_117 : decode cX10_closes 117 = .ok (.bipush 26, 2) := by decide +kernel
theorem dX10_closes_119 : decode cX10_closes 119 = .ok (.iaload, 1) := by decide +kernel
theorem dX10_closes_120 : decode cX10_closes 120 = .ok (.if_icmp .ne 7, 3) := by decide +kernel
theorem dX10_closes_123 : decode cX10_closes 123 = .ok (.iconst 1, 1) := by decide +kernel
theorem dX10_closes_124 : decode cX10_closes 124 = .ok (.goto 4, 3) := by decide +kernel
theorem dX10_closes_127 : decode cX10_closes 127 = .ok (.iconst 0, 1) := by decide +kernel
theorem dX10_closes_128 : decode cX10_closes 128 = .ok (.istore 4, 2) := by decide +kernel
theorem dX10_closes_130 : decode cX10_closes 130 = .ok (.iconst 0, 1) := by decide +kernel
theorem dX10_closes_131 : decode cX10_closes 131 = .ok (.istore 5, 2) := by decide +kernel
theorem dX10_closes_133 : decode cX10_closes 133 = .ok (.iload 5, 2) := by decide +kernel
theorem dX10_closes_135 : decode cX10_closes 135 = .ok (.aload_n 0, 1) := by decide +kernel
theorem dX10_closes_136 : decode cX10_closes 136 = .ok (.getfield 178, 3) := by decide +kernel
theorem dX10_closes_139 : decode cX10_closes 139 = .ok (.if_icmp .ge 47, 3) := by decide +kernel
theorem dX10_closes_142 : decode cX10_closes 142 = .ok (.iload 4, 2) := by decide +kernel
theorem dX10_closes_144 : decode cX10_closes 144 = .ok (.ifCond .eq 42, 3) := by decide +kernel
theorem dX10_closes_147 : decode cX10_closes 147 = .ok (.iload_n 2, 1) := by decide +kernel
theorem dX10_closes_148 : decode cX10_closes 148 = .ok (.iconst 1, 1) := by decide +kernel
theorem dX10_closes_149 : decode cX10_closes 149 = .ok (.if_icmp .ne 37, 3) := by decide +kernel
theorem dX10_closes_152 : decode cX10_closes 152 = .ok (.aload_n 0, 1) := by decide +kernel
theorem dX10_closes_153 : decode cX10_closes 153 = .ok (.getfield 36, 3) := by decide +kernel
theorem dX10_closes_156 : decode cX10_closes 156 = .ok (.iload 5, 2) := by decide +kernel
theorem dX10_closes_158 : decode cX10_closes 158 = .ok (.iaload, 1) := by decide +kernel
theorem dX10_closes_159 : decode cX10_closes 159 = .ok (.aload_n 0, 1) := by decide +kernel
theorem dX10_closes_160 : decode cX10_closes 160 = .ok (.getfield 13, 3) := by decide +kernel
theorem dX10_closes_163 : decode cX10_closes 163 = .ok (.sipush 1560, 3) := by decide +kernel
theorem dX10_closes_166 : decode cX10_closes 166 = .ok (.iload 5, 2) := by decide +kernel
theorem dX10_closes_168 : decode cX10_closes 168 = .ok (.iadd, 1) := by decide +kernel
theorem dX10_closes_169 : decode cX10_closes 169 = .ok (.iaload, 1) := by decide +kernel
theorem dX10_closes_170 : decode cX10_closes 170 = .ok (.if_icmp .ne 7, 3) := by decide +kernel
theorem dX10_closes_173 : decode cX10_closes 173 = .ok (.iconst 1, 1) := by decide +kernel
theorem dX10_closes_174 : decode cX10_closes 174 = .ok (.goto 4, 3) := by decide +kernel
theorem dX10_closes_177 : decode cX10_closes 177 = .ok (.iconst 0, 1) := by decide +kernel
theorem dX10_closes_178 : decode cX10_closes 178 = .ok (.istore 4, 2) := by decide +kernel
theorem dX10_closes_180 : decode cX10_closes 180 = .ok (.iinc 5 1, 3) := by decide +kernel
theorem dX10_closes_183 : decode cX10_closes 183 = .ok (.goto (-50), 3) := by decide +kernel
theorem dX10_closes_186 : decode cX10_closes 186 = .ok (.iload 4, 2) := by decide +kernel
theorem dX10_closes_188 : decode cX10_closes 188 = .ok (.ifCond .ne 5, 3) := by decide +kernel
theorem dX10_closes_191 : decode cX10_closes 191 = .ok (.iload_n 1, 1) := by decide +kernel
theorem dX10_closes_192 : decode cX10_closes 192 = .ok (.ireturn, 1) := by decide +kernel
theorem dX10_closes_193 : decode cX10_closes 193 = .ok (.iinc 1 1, 3) := by decide +kernel
theorem dX10_closes_196 : decode cX10_closes 196 = .ok (.goto (-194), 3) := by decide +kernel
theorem dX10_closes_199 : decode cX10_closes 199 = .ok (.iconst (-1), 1) := by decide +kernel
theorem dX10_closes_200 : decode cX10_closes 200 = .ok (.ireturn, 1) := by decide +kernel
set_option maxRecDepth 20000 in
theorem ggX10_turns_X10_counts : GoodIn wsX10_turns wsX10_counts := goodIn_r _ [8, 9, 3, 10, 11, 12, 7, 13, 14, 15, 16, 17, 18, 19, 20, 21, 22, 23, 24, 25, 26, 27, 28, 29, 30, 31, 32, 33, 34, 35, 36, 37, 38, 39, 40, 41, 42, 43, 44, 45, 46, 47, 48, 49, 50, 51, 52, 53, 54, 55, 56, 57, 58, 59, 60, 61, 62, 63, 64, 65, 66, 67, 68, 69, 70, 71, 72, 73, 74, 75, 76] (by decide +kernel) (by decide +kernel)
set_option maxRecDepth 20000 in
theorem gX10_turns_X10_counts : GoodIn wsX10_turns (wsV RX10 153 RX10 yX10_counts wsX10_counts) := goodIn_app (goodIn_of _ (by decide +kernel)) ggX10_turns_X10_counts
theorem dX10_turns_0 : decode cX10_turns 0 = .ok (.aload_n 0, 1) := by decide +kernel
theorem dX10_turns_1 : decode cX10_turns 1 = .ok (.invokevirtual 153, 3) := by decide +kernel
theorem dX10_turns_4 : decode cX10_turns 4 = .ok (.iconst 0, 1) := by decide +kernel
theorem dX10_turns_5 : decode cX10_turns 5 = .ok (.istore_n 1, 1) := by decide +kernel
theorem dX10_turns_6 : decode cX10_turns 6 = .ok (.iload_n 1, 1) := by decide +kernel
theorem dX10_turns_7 : decode cX10_turns 7 = .ok (.bipush 49, 2) := by decide +kernel
theorem dX10_turns_9 : decode cX10_turns 9 = .ok (.if_icmp .ge 16, 3) := by decide +kernel
theorem dX10_turns_12 : decode cX10_turns 12 = .ok (.aload_n 0, 1) := by decide +kernel
theorem dX10_turns_13 : decode cX10_turns 13 = .ok (.getfield 39, 3) := by decide +kernel
theorem dX10_turns_16 : decode cX10_turns 16 = .ok (.iload_n 1, 1) := by decide +kernel
theorem dX10_turns_17 : decode cX10_turns 17 = .ok (.lconst 0, 1) := by decide +kernel
theorem dX10_turns_18 : decode cX10_turns 18 = .ok (.lastore, 1) := by decide +kernel
theorem dX10_turns_19 : decode cX10_turns 19 = .ok (.iinc 1 1, 3) := by decide +kernel
theorem dX10_turns_22 : decode cX10_turns 22 = .ok (.goto (-16), 3) := by decide +kernel
theorem dX10_turns_25 : decode cX10_turns 25 = .ok (.aload_n 0, 1) := by decide +kernel
theorem dX10_turns_26 : decode cX10_turns 26 = .ok (.getfield 39, 3) := by decide +kernel
theorem dX10_turns_29 : decode cX10_turns 29 = .ok (.iconst 0, 1) := by decide +kernel
theorem dX10_turns_30 : decode cX10_turns 30 = .ok (.lconst 1, 1) := by decide +kernel
theorem dX10_turns_31 : decode cX10_turns 31 = .ok (.lastore, 1) := by decide +kernel
theorem dX10_turns_32 : decode cX10_turns 32 = .ok (.iconst 1, 1) := by decide +kernel
theorem dX10_turns_33 : decode cX10_turns 33 = .ok (.istore_n 1, 1) := by decide +kernel
theorem dX10_turns_34 : decode cX10_turns 34 = .ok (.iload_n 1, 1) := by decide +kernel
theorem dX10_turns_35 : decode cX10_turns 35 = .ok (.bipush 6, 2) := by decide +kernel
theorem dX10_turns_37 : decode cX10_turns 37 = .ok (.if_icmp .gt 133, 3) := by decide +kernel
theorem dX10_turns_40 : decode cX10_turns 40 = .ok (.lconst 0, 1) := by decide +kernel
theorem dX10_turns_41 : decode cX10_turns 41 = .ok (.lstore_n 2, 1) := by decide +kernel
theorem dX10_turns_42 : decode cX10_turns 42 = .ok (.iconst 2, 1) := by decide +kernel
theorem dX10_turns_43 : decode cX10_turns 43 = .ok (.istore 4, 2) := by decide +kernel
theorem dX10_turns_45 : decode cX10_turns 45 = .ok (.iload 4, 2) := by decide +kernel
theorem dX10_turns_47 : decode cX10_turns 47 = .ok (.iload_n 1, 1) := by decide +kernel
theorem dX10_turns_48 : decode cX10_turns 48 = .ok (.if_icmp .gt 84, 3) := by decide +kernel
theorem dX10_turns_51 : decode cX10_turns 51 = .ok (.lconst 0, 1) := by decide +kernel
theorem dX10_turns_52 : decode cX10_turns 52 = .ok (.lstore 5, 2) := by decide +kernel
theorem dX10_turns_54 : decode cX10_turns 54 = .ok (.iconst 1, 1) := by decide +kernel
theorem dX10_turns_55 : decode cX10_turns 55 = .ok (.istore 7, 2) := by decide +kernel
theorem dX10_turns_57 : decode cX10_turns 57 = .ok (.iload 7, 2) := by decide +kernel
theorem dX10_turns_59 : decode cX10_turns 59 = .ok (.iload_n 1, 1) := by decide +kernel
theorem dX10_turns_60 : decode cX10_turns 60 = .ok (.if_icmp .ge 39, 3) := by decide +kernel
theorem dX10_turns_63 : decode cX10_turns 63 = .ok (.lload 5, 2) := by decide +kernel
theorem dX10_turns_65 : decode cX10_turns 65 = .ok (.aload_n 0, 1) := by decide +kernel
theorem dX10_turns_66 : decode cX10_turns 66 = .ok (.getfield 42, 3) := by decide +kernel
theorem dX10_turns_69 : decode cX10_turns 69 = .ok (.iload 7, 2) := by decide +kernel
theorem dX10_turns_71 : decode cX10_turns 71 = .ok (.laload, 1) := by decide +kernel
theorem dX10_turns_72 : decode cX10_turns 72 = .ok (.aload_n 0, 1) := by decide +kernel
theorem dX10_turns_73 : decode cX10_turns 73 = .ok (.getfield 39, 3) := by decide +kernel
theorem dX10_turns_76 : decode cX10_turns 76 = .ok (.bipush 7, 2) := by decide +kernel
theorem dX10_turns_78 : decode cX10_turns 78 = .ok (.iload 4, 2) := by decide +kernel
theorem dX10_turns_80 : decode cX10_turns 80 = .ok (.iconst 1, 1) := by decide +kernel
theorem dX10_turns_81 : decode cX10_turns 81 = .ok (.isub, 1) := by decide +kernel
theorem dX10_turns_82 : decode cX10_turns 82 = .ok (.imul, 1) := by decide +kernel
theorem dX10_turns_83 : decode cX10_turns 83 = .ok (.iload_n 1, 1) := by decide +kernel
theorem dX10_turns_84 : decode cX10_turns 84 = .ok (.iadd, 1) := by decide +kernel
theorem dX10_turns_85 : decode cX10_turns 85 = .ok (.iload 7, 2) := by decide +kernel
theorem dX10_turns_87 : decode cX10_turns 87 = .ok (.isub, 1) := by decide +kernel
theorem dX10_turns_88 : decode cX10_turns 88 = .ok (.laload, 1) := by decide +kernel
theorem dX10_turns_89 : decode cX10_turns 89 = .ok (.lmul, 1) := by decide +kernel
theorem dX10_turns_90 : decode cX10_turns 90 = .ok (.ladd, 1) := by decide +kernel
theorem dX10_turns_91 : decode cX10_turns 91 = .ok (.lstore 5, 2) := by decide +kernel
theorem dX10_turns_93 : decode cX10_turns 93 = .ok (.iinc 7 1, 3) := by decide +kernel
theorem dX10_turns_96 : decode cX10_turns 96 = .ok (.goto (-39), 3) := by decide +kernel
theorem dX10_turns_99 : decode cX10_turns 99 = .ok (.aload_n 0, 1) := by decide +kernel
theorem dX10_turns_100 : decode cX10_turns 100 = .ok (.getfield 39, 3) := by decide +kernel
theorem dX10_turns_103 : decode cX10_turns 103 = .ok (.bipush 7, 2) := by decide +kernel
theorem dX10_turns_105 : decode cX10_turns 105 = .ok (.iload 4, 2) := by decide +kernel
theorem dX10_turns_107 : decode cX10_turns 107 = .ok (.imul, 1) := by decide +kernel
theorem dX10_turns_108 : decode cX10_turns 108 = .ok (.iload_n 1, 1) := by decide +kernel
theorem dX10_turns_109 : decode cX10_turns 109 = .ok (.iadd, 1) := by decide +kernel
theorem dX10_turns_110 : decode cX10_turns 110 = .ok (.lload 5, 2) := by decide +kernel
theorem dX10_turns_112 : decode cX10_turns 112 = .ok (.lastore, 1) := by decide +kernel
theorem dX10_turns_113 : decode cX10_turns 113 = .ok (.lload_n 2, 1) := by decide +kernel
theorem dX10_turns_114 : decode cX10_turns 114 = .ok (.aload_n 0, 1) := by decide +kernel
theorem dX10_turns_115 : decode cX10_turns 115 = .ok (.getfield 23, 3) := by decide +kernel
theorem dX10_turns_118 : decode cX10_turns 118 = .ok (.iload 4, 2) := by decide +kernel
theorem dX10_turns_120 : decode cX10_turns 120 = .ok (.laload, 1) := by decide +kernel
theorem dX10_turns_121 : decode cX10_turns 121 = .ok (.lload 5, 2) := by decide +kernel
theorem dX10_turns_123 : decode cX10_turns 123 = .ok (.lmul, 1) := by decide +kernel
theorem dX10_turns_124 : decode cX10_turns 124 = .ok (.ladd, 1) := by decide +kernel
theorem dX10_turns_125 : decode cX10_turns 125 = .ok (.lstore_n 2, 1) := by decide +kernel
theorem dX10_turns_126 : decode cX10_turns 126 = .ok (.iinc 4 1, 3) := by decide +kernel
theorem dX10_turns_129 : decode cX10_turns 129 = .ok (.goto (-84), 3) := by decide +kernel
theorem dX10_turns_132 : decode cX10_turns 132 = .ok (.aload_n 0, 1) := by decide +kernel
theorem dX10_turns_133 : decode cX10_turns 133 = .ok (.getfield 42, 3) := by decide +kernel
theorem dX10_turns_136 : decode cX10_turns 136 = .ok (.iload_n 1, 1) := by decide +kernel
theorem dX10_turns_137 : decode cX10_turns 137 = .ok (.iload_n 1, 1) := by decide +kernel
theorem dX10_turns_138 : decode cX10_turns 138 = .ok (.iconst 1, 1) := by decide +kernel
theorem dX10_turns_139 : decode cX10_turns 139 = .ok (.if_icmp .ne 7, 3) := by decide +kernel
theorem dX10_turns_142 : decode cX10_turns 142 = .ok (.lconst 1, 1) := by decide +kernel
theorem dX10_turns_143 : decode cX10_turns 143 = .ok (.goto 5, 3) := by decide +kernel
theorem dX10_turns_146 : decode cX10_turns 146 = .ok (.lload_n 2, 1) := by decide +kernel
theorem dX10_turns_147 : decode cX10_turns 147 = .ok (.lneg, 1) := by decide +kernel
theorem dX10_turns_148 : decode cX10_turns 148 = .ok (.lastore, 1) := by decide +kernel
theorem dX10_turns_149 : decode cX10_turns 149 = .ok (.aload_n 0, 1) := by decide +kernel
theorem dX10_turns_150 : decode cX10_turns 150 = .ok (.getfield 39, 3) := by decide +kernel
theorem dX10_turns_153 : decode cX10_turns 153 = .ok (.bipush 7, 2) := by decide +kernel
theorem dX10_turns_155 : decode cX10_turns 155 = .ok (.iload_n 1, 1) := by decide +kernel
theorem dX10_turns_156 : decode cX10_turns 156 = .ok (.iadd, 1) := by decide +kernel
theorem dX10_turns_157 : decode cX10_turns 157 = .ok (.aload_n 0, 1) := by decide +kernel
theorem dX10_turns_158 : decode cX10_turns 158 = .ok (.getfield 42, 3) := by decide +kernel
theorem dX10_turns_161 : decode cX10_turns 161 = .ok (.iload_n 1, 1) := by decide +kernel
theorem dX10_turns_162 : decode cX10_turns 162 = .ok (.laload, 1) := by decide +kernel
theorem dX10_turns_163 : decode cX10_turns 163 = .ok (.lastore, 1) := by decide +kernel
theorem dX10_turns_164 : decode cX10_turns 164 = .ok (.iinc 1 1, 3) := by decide +kernel
theorem dX10_turns_167 : decode cX10_turns 167 = .ok (.goto (-133), 3) := by decide +kernel
theorem dX10_turns_170 : decode cX10_turns 170 = .ok (.return_, 1) := by decide +kernel
set_option maxRecDepth 20000 in
theorem ggX10_turned_X10_in : GoodIn wsX10_turned wsX10_in := goodIn_r _ [6] (by decide +kernel) (by decide +kernel)
set_option maxRecDepth 20000 in
theorem gX10_turned_X10_in : GoodIn wsX10_turned (va_wsS RX10 51 yX10_in wsX10_in) := goodIn_app (goodIn_of _ (by decide +kernel)) ggX10_turned_X10_in
set_option maxRecDepth 20000 in
theorem ggX10_turned_X10_turns : GoodIn wsX10_turned wsX10_turns := goodIn_r _ [10, 11, 2, 12, 13, 14, 15, 5, 16, 17, 18, 19, 20, 21, 22, 23, 24, 25, 26, 27, 28, 29, 30, 31, 32, 33, 34, 35, 36, 37, 38, 39, 40, 41, 42, 43, 44, 45, 46, 47, 48, 49, 50, 51, 52, 53, 54, 55, 56, 57, 58, 59, 60, 61, 62, 63, 64, 65, 66, 67, 68, 69, 70, 71, 72, 73, 74, 75, 76, 77, 78, 79, 80, 81, 82, 83, 84] (by decide +kernel) (by decide +kernel)
set_option maxRecDepth 20000 in
theorem gX10_turned_X10_turns : GoodIn wsX10_turned (wsV RX10 181 RX10 yX10_turns wsX10_turns) := goodIn_app (goodIn_of _ (by decide +kernel)) ggX10_turned_X10_turns
theorem dX10_turned_0 : decode cX10_turned 0 = .ok (.iload_n 1, 1) := by decide +kernel
theorem dX10_turned_1 : decode cX10_turned 1 = .ok (.iconst 1, 1) := by decide +kernel
theorem dX10_turned_2 : decode cX10_turned 2 = .ok (.bipush 6, 2) := by decide +kernel
theorem dX10_turned_4 : decode cX10_turned 4 = .ok (.invokestatic 51, 3) := by decide +kernel
theorem dX10_turned_7 : decode cX10_turned 7 = .ok (.ifCond .ne 7, 3) := by decide +kernel
theorem dX10_turned_10 : decode cX10_turned 10 = .ok (.ldc2_w 151, 3) := by decide +kernel
theorem dX10_turned_13 : decode cX10_turned 13 = .ok (.lreturn, 1) := by decide +kernel
theorem dX10_turned_14 : decode cX10_turned 14 = .ok (.aload_n 0, 1) := by decide +kernel
theorem dX10_turned_15 : decode cX10_turned 15 = .ok (.invokevirtual 181, 3) := by decide +kernel
theorem dX10_turned_18 : decode cX10_turned 18 = .ok (.aload_n 0, 1) := by decide +kernel
theorem dX10_turned_19 : decode cX10_turned 19 = .ok (.getfield 42, 3) := by decide +kernel
theorem dX10_turned_22 : decode cX10_turned 22 = .ok (.iload_n 1, 1) := by decide +kernel
theorem dX10_turned_23 : decode cX10_turned 23 = .ok (.laload, 1) := by decide +kernel
theorem dX10_turned_24 : decode cX10_turned 24 = .ok (.lreturn, 1) := by decide +kernel
theorem dX10_isDual_0 : decode cX10_isDual 0 = .ok (.iconst 1, 1) := by decide +kernel
theorem dX10_isDual_1 : decode cX10_isDual 1 = .ok (.istore_n 1, 1) := by decide +kernel
theorem dX10_isDual_2 : decode cX10_isDual 2 = .ok (.iconst 0, 1) := by decide +kernel
theorem dX10_isDual_3 : decode cX10_isDual 3 = .ok (.istore_n 2, 1) := by decide +kernel
theorem dX10_isDual_4 : decode cX10_isDual 4 = .ok (.iload_n 2, 1) := by decide +kernel
theorem dX10_isDual_5 : decode cX10_isDual 5 = .ok (.aload_n 0, 1) := by decide +kernel
theorem dX10_isDual_6 : decode cX10_isDual 6 = .ok (.getfield 55, 3) := by decide +kernel
theorem dX10_isDual_9 : decode cX10_isDual 9 = .ok (.if_icmp .ge 29, 3) := by decide +kernel
theorem dX10_isDual_12 : decode cX10_isDual 12 = .ok (.iload_n 1, 1) := by decide +kernel
theorem dX10_isDual_13 : decode cX10_isDual 13 = .ok (.ifCond .eq 17, 3) := by decide +kernel
theorem dX10_isDual_16 : decode cX10_isDual 16 = .ok (.aload_n 0, 1) := by decide +kernel
theorem dX10_isDual_17 : decode cX10_isDual 17 = .ok (.getfield 7, 3) := by decide +kernel
theorem dX10_isDual_20 : decode cX10_isDual 20 = .ok (.iload_n 2, 1) := by decide +kernel
theorem dX10_isDual_21 : decode cX10_isDual 21 = .ok (.iaload, 1) := by decide +kernel
theorem dX10_isDual_22 : decode cX10_isDual 22 = .ok (.iconst 2, 1) := by decide +kernel
theorem dX10_isDual_23 : decode cX10_isDual 23 = .ok (.if_icmp .ne 7, 3) := by decide +kernel
theorem dX10_isDual_26 : decode cX10_isDual 26 = .ok (.iconst 1, 1) := by decide +kernel
theorem dX10_isDual_27 : decode cX10_isDual 27 = .ok (.goto 4, 3) := by decide +kernel
theorem dX10_isDual_30 : decode cX10_isDual 30 = .ok (.iconst 0, 1) := by decide +kernel
theorem dX10_isDual_31 : decode cX10_isDual 31 = .ok (.istore_n 1, 1) := by decide +kernel
theorem dX10_isDual_32 : decode cX10_isDual 32 = .ok (.iinc 2 1, 3) := by decide +kernel
theorem dX10_isDual_35 : decode cX10_isDual 35 = .ok (.goto (-31), 3) := by decide +kernel
theorem dX10_isDual_38 : decode cX10_isDual 38 = .ok (.iconst 0, 1) := by decide +kernel
theorem dX10_isDual_39 : decode cX10_isDual 39 = .ok (.istore_n 2, 1) := by decide +kernel
theorem dX10_isDual_40 : decode cX10_isDual 40 = .ok (.iload_n 2, 1) := by decide +kernel
theorem dX10_isDual_41 : decode cX10_isDual 41 = .ok (.aload_n 0, 1) := by decide +kernel
theorem dX10_isDual_42 : decode cX10_isDual 42 = .ok (.getfield 102, 3) := by decide +kernel
theorem dX10_isDual_45 : decode cX10_isDual 45 = .ok (.if_icmp .ge 41, 3) := by decide +kernel
theorem dX10_isDual_48 : decode cX10_isDual 48 = .ok (.iload_n 1, 1) := by decide +kernel
theorem dX10_isDual_49 : decode cX10_isDual 49 = .ok (.ifCond .eq 29, 3) := by decide +kernel
theorem dX10_isDual_52 : decode cX10_isDual 52 = .ok (.aload_n 0, 1) := by decide +kernel
theorem dX10_isDual_53 : decode cX10_isDual 53 = .ok (.getfield 19, 3) := by decide +kernel
theorem dX10_isDual_56 : decode cX10_isDual 56 = .ok (.iload_n 2, 1) := by decide +kernel
theorem dX10_isDual_57 : decode cX10_isDual 57 = .ok (.baload, 1) := by decide +kernel
theorem dX10_isDual_58 : decode cX10_isDual 58 = .ok (.ifCond .eq 20, 3) := by decide +kernel
theorem dX10_isDual_61 : decode cX10_isDual 61 = .ok (.aload_n 0, 1) := by decide +kernel
theorem dX10_isDual_62 : decode cX10_isDual 62 = .ok (.getfield 16, 3) := by decide +kernel
theorem dX10_isDual_65 : decode cX10_isDual 65 = .ok (.bipush 10, 2) := by decide +kernel
theorem dX10_isDual_67 : decode cX10_isDual 67 = .ok (.iload_n 2, 1) := by decide +kernel
theorem dX10_isDual_68 : decode cX10_isDual 68 = .ok (.iadd, 1) := by decide +kernel
theorem dX10_isDual_69 : decode cX10_isDual 69 = .ok (.iaload, 1) := by decide +kernel
theorem dX10_isDual_70 : decode cX10_isDual 70 = .ok (.iconst 5, 1) := by decide +kernel
theorem dX10_isDual_71 : decode cX10_isDual 71 = .ok (.if_icmp .ne 7, 3) := by decide +kernel
theorem dX10_isDual_74 : decode cX10_isDual 74 = .ok (.iconst 1, 1) := by decide +kernel
theorem dX10_isDual_75 : decode cX10_isDual 75 = .ok (.goto 4, 3) := by decide +kernel
theorem dX10_isDual_78 : decode cX10_isDual 78 = .ok (.iconst 0, 1) := by decide +kernel
theorem dX10_isDual_79 : decode cX10_isDual 79 = .ok (.istore_n 1, 1) := by decide +kernel
theorem dX10_isDual_80 : decode cX10_isDual 80 = .ok (.iinc 2 1, 3) := by decide +kernel
theorem dX10_isDual_83 : decode cX10_isDual 83 = .ok (.goto (-43), 3) := by decide +kernel
theorem dX10_isDual_86 : decode cX10_isDual 86 = .ok (.iload_n 1, 1) := by decide +kernel
theorem dX10_isDual_87 : decode cX10_isDual 87 = .ok (.ireturn, 1) := by decide +kernel
theorem dX10_findMay_0 : decode cX10_findMay 0 = .ok (.iconst 0, 1) := by decide +kernel
theorem dX10_findMay_1 : decode cX10_findMay 1 = .ok (.istore_n 1, 1) := by decide +kernel
theorem dX10_findMay_2 : decode cX10_findMay 2 = .ok (.iload_n 1, 1) := by decide +kernel
theorem dX10_findMay_3 : decode cX10_findMay 3 = .ok (.bipush 32, 2) := by decide +kernel
theorem dX10_findMay_5 : decode cX10_findMay 5 = .ok (.if_icmp .ge 16, 3) := by decide +kernel
theorem dX10_findMay_8 : decode cX10_findMay 8 = .ok (.aload_n 0, 1) := by decide +kernel
theorem dX10_findMay_9 : decode cX10_findMay 9 = .ok (.getfield 45, 3) := by decide +kernel
theorem dX10_findMay_12 : decode cX10_findMay 12 = .ok (.iload_n 1, 1) := by decide +kernel
theorem dX10_findMay_13 : decode cX10_findMay 13 = .ok (.iconst 0, 1) := by decide +kernel
theorem dX10_findMay_14 : decode cX10_findMay 14 = .ok (.bastore, 1) := by decide +kernel
theorem dX10_findMay_15 : decode cX10_findMay 15 = .ok (.iinc 1 1, 3) := by decide +kernel
theorem dX10_findMay_18 : decode cX10_findMay 18 = .ok (.goto (-16), 3) := by decide +kernel
theorem dX10_findMay_21 : decode cX10_findMay 21 = .ok (.iconst 0, 1) := by decide +kernel
theorem dX10_findMay_22 : decode cX10_findMay 22 = .ok (.istore_n 1, 1) := by decide +kernel
theorem dX10_findMay_23 : decode cX10_findMay 23 = .ok (.iload_n 1, 1) := by decide +kernel
theorem dX10_findMay_24 : decode cX10_findMay 24 = .ok (.aload_n 0, 1) := by decide +kernel
theorem dX10_findMay_25 : decode cX10_findMay 25 = .ok (.getfield 102, 3) := by decide +kernel
theorem dX10_findMay_28 : decode cX10_findMay 28 = .ok (.if_icmp .ge 88, 3) := by decide +kernel
theorem dX10_findMay_31 : decode cX10_findMay 31 = .ok (.bipush 60, 2) := by decide +kernel
theorem dX10_findMay_33 : decode cX10_findMay 33 = .ok (.bipush 10, 2) := by decide +kernel
theorem dX10_findMay_35 : decode cX10_findMay 35 = .ok (.iload_n 1, 1) := by decide +kernel
theorem dX10_findMay_36 : decode cX10_findMay 36 = .ok (.iadd, 1) := by decide +kernel
theorem dX10_findMay_37 : decode cX10_findMay 37 = .ok (.imul, 1) := by decide +kernel
theorem dX10_findMay_38 : decode cX10_findMay 38 = .ok (.istore_n 2, 1) := by decide +kernel
theorem dX10_findMay_39 : decode cX10_findMay 39 = .ok (.aload_n 0, 1) := by decide +kernel
theorem dX10_findMay_40 : decode cX10_findMay 40 = .ok (.getfield 13, 3) := by decide +kernel
theorem dX10_findMay_43 : decode cX10_findMay 43 = .ok (.iload_n 2, 1) := by decide +kernel
theorem dX10_findMay_44 : decode cX10_findMay 44 = .ok (.iconst 1, 1) := by decide +kernel
theorem dX10_findMay_45 : decode cX10_findMay 45 = .ok (.iadd, 1) := by decide +kernel
theorem dX10_findMay_46 : decode cX10_findMay 46 = .ok (.iaload, 1) := by decide +kernel
theorem dX10_findMay_47 : decode cX10_findMay 47 = .ok (.iconst (-1), 1) := by decide +kernel
theorem dX10_findMay_48 : decode cX10_findMay 48 = .ok (.if_icmp .eq 7, 3) := by decide +kernel
theorem dX10_findMay_51 : decode cX10_findMay 51 = .ok (.iconst 1, 1) := by decide +kernel
theorem dX10_findMay_52 : decode cX10_findMay 52 = .ok (.goto 4, 3) := by decide +kernel
theorem dX10_findMay_55 : decode cX10_findMay 55 = .ok (.iconst 0, 1) := by decide +kernel
theorem dX10_findMay_56 : decode cX10_findMay 56 = .ok (.istore_n 3, 1) := by decide +kernel
theorem dX10_findMay_57 : decode cX10_findMay 57 = .ok (.iload_n 3, 1) := by decide +kernel
theorem dX10_findMay_58 : decode cX10_findMay 58 = .ok (.ifCond .eq 14, 3) := by decide +kernel
theorem dX10_findMay_61 : decode cX10_findMay 61 = .ok (.aload_n 0, 1) := by decide +kernel
theorem dX10_findMay_62 : decode cX10_findMay 62 = .ok (.getfield 13, 3) := by decide +kernel
theorem dX10_findMay_65 : decode cX10_findMay 65 = .ok (.iload_n 2, 1) := by decide +kernel
theorem dX10_findMay_66 : decode cX10_findMay 66 = .ok (.iconst 1, 1) := by decide +kernel
theorem dX10_findMay_67 : decode cX10_findMay 67 = .ok (.iadd, 1) := by decide +kernel
theorem dX10_findMay_68 : decode cX10_findMay 68 = .ok (.iaload, 1) := by decide +kernel
theorem dX10_findMay_69 : decode cX10_findMay 69 = .ok (.goto 11, 3) := by decide +kernel
theorem dX10_findMay_72 : decode cX10_findMay 72 = .ok (.aload_n 0, 1) := by decide +kernel
theorem dX10_findMay_73 : decode cX10_findMay 73 = .ok (.getfield 13, 3) := by decide +kernel
theorem dX10_findMay_76 : decode cX10_findMay 76 = .ok (.iload_n 2, 1) := by decide +kernel
theorem dX10_findMay_77 : decode cX10_findMay 77 = .ok (.iconst 2, 1) := by decide +kernel
theorem dX10_findMay_78 : decode cX10_findMay 78 = .ok (.iadd, 1) := by decide +kernel
theorem dX10_findMay_79 : decode cX10_findMay 79 = .ok (.iaload, 1) := by decide +kernel
theorem dX10_findMay_80 : decode cX10_findMay 80 = .ok (.istore 4, 2) := by decide +kernel
theorem dX10_findMay_82 : decode cX10_findMay 82 = .ok (.aload_n 0, 1) := by decide +kernel
theorem dX10_findMay_83 : decode cX10_findMay 83 = .ok (.getfield 45, 3) := by decide +kernel
theorem dX10_findMay_86 : decode cX10_findMay 86 = .ok (.bipush 8, 2) := by decide +kernel
theorem dX10_findMay_88 : decode cX10_findMay 88 = .ok (.aload_n 0, 1) := by decide +kernel
theorem dX10_findMay_89 : decode cX10_findMay 89 = .ok (.getfield 13, 3) := by decide +kernel
theorem dX10_findMay_92 : decode cX10_findMay 92 = .ok (.iload_n 2, 1) := by decide +kernel
theorem dX10_findMay_93 : decode cX10_findMay 93 = .ok (.iaload, 1) := by decide +kernel
theorem dX10_findMay_94 : decode cX10_findMay 94 = .ok (.imul, 1) := by decide +kernel
theorem dX10_findMay_95 : decode cX10_findMay 95 = .ok (.iload_n 3, 1) := by decide +kernel
theorem dX10_findMay_96 : decode cX10_findMay 96 = .ok (.ifCond .eq 7, 3) := by decide +kernel
theorem dX10_findMay_99 : decode cX10_findMay 99 = .ok (.iconst 0, 1) := by decide +kernel
theorem dX10_findMay_100 : decode cX10_findMay 100 = .ok (.goto 4, 3) := by decide +kernel
theorem dX10_findMay_103 : decode cX10_findMay 103 = .ok (.iconst 4, 1) := by decide +kernel
theorem dX10_findMay_104 : decode cX10_findMay 104 = .ok (.iadd, 1) := by decide +kernel
theorem dX10_findMay_105 : decode cX10_findMay 105 = .ok (.iload 4, 2) := by decide +kernel
theorem dX10_findMay_107 : decode cX10_findMay 107 = .ok (.iadd, 1) := by decide +kernel
theorem dX10_findMay_108 : decode cX10_findMay 108 = .ok (.iconst 1, 1) := by decide +kernel
theorem dX10_findMay_109 : decode cX10_findMay 109 = .ok (.bastore, 1) := by decide +kernel
theorem dX10_findMay_110 : decode cX10_findMay 110 = .ok (.iinc 1 1, 3) := by decide +kernel
theorem dX10_findMay_113 : decode cX10_findMay 113 = .ok (.goto (-90), 3) := by decide +kernel
theorem dX10_findMay_116 : decode cX10_findMay 116 = .ok (.return_, 1) := by decide +kernel
theorem dX10_below_0 : decode cX10_below 0 = .ok (.iload_n 3, 1) := by decide +kernel
theorem dX10_below_1 : decode cX10_below 1 = .ok (.iconst 1, 1) := by decide +kernel
theorem dX10_below_2 : decode cX10_below 2 = .ok (.if_icmp .ne 5, 3) := by decide +kernel
theorem dX10_below_5 : decode cX10_below 5 = .ok (.lconst 1, 1) := by decide +kernel
theorem dX10_below_6 : decode cX10_below 6 = .ok (.lreturn, 1) := by decide +kernel
theorem dX10_below_7 : decode cX10_below 7 = .ok (.lconst 0, 1) := by decide +kernel
theorem dX10_below_8 : decode cX10_below 8 = .ok (.lstore 4, 2) := by decide +kernel
theorem dX10_below_10 : decode cX10_below 10 = .ok (.iconst 0, 1) := by decide +kernel
theorem dX10_below_11 : decode cX10_below 11 = .ok (.istore 6, 2) := by decide +kernel
theorem dX10_below_13 : decode cX10_below 13 = .ok (.iload 6, 2) := by decide +kernel
theorem dX10_below_15 : decode cX10_below 15 = .ok (.aload_n 0, 1) := by decide +kernel
theorem dX10_below_16 : decode cX10_below 16 = .ok (.getfield 55, 3) := by decide +kernel
theorem dX10_below_19 : decode cX10_below 19 = .ok (.if_icmp .ge 49, 3) := by decide +kernel
theorem dX10_below_22 : decode cX10_below 22 = .ok (.lload 4, 2) := by decide +kernel
theorem dX10_below_24 : decode cX10_below 24 = .ok (.aload_n 0, 1) := by decide +kernel
theorem dX10_below_25 : decode cX10_below 25 = .ok (.getfield 45, 3) := by decide +kernel
theorem dX10_below_28 : decode cX10_below 28 = .ok (.bipush 8, 2) := by decide +kernel
theorem dX10_below_30 : decode cX10_below 30 = .ok (.iload_n 1, 1) := by decide +kernel
theorem dX10_below_31 : decode cX10_below 31 = .ok (.imul, 1) := by decide +kernel
theorem dX10_below_32 : decode cX10_below 32 = .ok (.iconst 4, 1) := by decide +kernel
theorem dX10_below_33 : decode cX10_below 33 = .ok (.iload_n 2, 1) := by decide +kernel
theorem dX10_below_34 : decode cX10_below 34 = .ok (.imul, 1) := by decide +kernel
theorem dX10_below_35 : decode cX10_below 35 = .ok (.iadd, 1) := by decide +kernel
theorem dX10_below_36 : decode cX10_below 36 = .ok (.iload 6, 2) := by decide +kernel
theorem dX10_below_38 : decode cX10_below 38 = .ok (.iadd, 1) := by decide +kernel
theorem dX10_below_39 : decode cX10_below 39 = .ok (.baload, 1) := by decide +kernel
theorem dX10_below_40 : decode cX10_below 40 = .ok (.ifCond .eq 18, 3) := by decide +kernel
theorem dX10_below_43 : decode cX10_below 43 = .ok (.aload_n 0, 1) := by decide +kernel
theorem dX10_below_44 : decode cX10_below 44 = .ok (.getfield 48, 3) := by decide +kernel
theorem dX10_below_47 : decode cX10_below 47 = .ok (.bipush 7, 2) := by decide +kernel
theorem dX10_below_49 : decode cX10_below 49 = .ok (.iload 6, 2) := by decide +kernel
theorem dX10_below_51 : decode cX10_below 51 = .ok (.imul, 1) := by decide +kernel
theorem dX10_below_52 : decode cX10_below 52 = .ok (.iload_n 3, 1) := by decide +kernel
theorem dX10_below_53 : decode cX10_below 53 = .ok (.iadd, 1) := by decide +kernel
theorem dX10_below_54 : decode cX10_below 54 = .ok (.laload, 1) := by decide +kernel
theorem dX10_below_55 : decode cX10_below 55 = .ok (.goto 4, 3) := by decide +kernel
theorem dX10_below_58 : decode cX10_below 58 = .ok (.lconst 0, 1) := by decide +kernel
theorem dX10_below_59 : decode cX10_below 59 = .ok (.ladd, 1) := by decide +kernel
theorem dX10_below_60 : decode cX10_below 60 = .ok (.lstore 4, 2) := by decide +kernel
theorem dX10_below_62 : decode cX10_below 62 = .ok (.iinc 6 1, 3) := by decide +kernel
theorem dX10_below_65 : decode cX10_below 65 = .ok (.goto (-52), 3) := by decide +kernel
theorem dX10_below_68 : decode cX10_below 68 = .ok (.lload 4, 2) := by decide +kernel
theorem dX10_below_70 : decode cX10_below 70 = .ok (.lreturn, 1) := by decide +kernel
set_option maxRecDepth 20000 in
theorem ggX10_dual_X10_in : GoodIn wsX10_dual wsX10_in := goodIn_r _ [8] (by decide +kernel) (by decide +kernel)
set_option maxRecDepth 20000 in
theorem gX10_dual_X10_in : GoodIn wsX10_dual (va_wsS RX10 51 yX10_in wsX10_in) := goodIn_app (goodIn_of _ (by decide +kernel)) ggX10_dual_X10_in
set_option maxRecDepth 20000 in
theorem ggX10_dual_X10_isDual : GoodIn wsX10_dual wsX10_isDual := goodIn_r _ [12, 3, 13, 14, 15, 16, 27, 28, 29, 30, 31, 32, 33, 34, 35, 36, 37, 38, 39, 40, 41, 42, 43, 44, 45, 46, 47, 48] (by decide +kernel) (by decide +kernel)
set_option maxRecDepth 20000 in
theorem gX10_dual_X10_isDual : GoodIn wsX10_dual (wsV RX10 184 RX10 yX10_isDual wsX10_isDual) := goodIn_app (goodIn_of _ (by decide +kernel)) ggX10_dual_X10_isDual
set_option maxRecDepth 20000 in
theorem ggX10_dual_X10_findMay : GoodIn wsX10_dual wsX10_findMay := goodIn_r _ [20, 21, 14, 22, 27, 28, 29, 30, 31, 32, 33, 34, 35, 36, 37, 38, 39, 40, 41, 42, 43, 44, 45, 46, 47, 48] (by decide +kernel) (by decide +kernel)
set_option maxRecDepth 20000 in
theorem gX10_dual_X10_findMay : GoodIn wsX10_dual (wsV RX10 189 RX10 yX10_findMay wsX10_findMay) := goodIn_app (goodIn_of _ (by decide +kernel)) ggX10_dual_X10_findMay
set_option maxRecDepth 20000 in
theorem ggX10_dual_X10_below : GoodIn wsX10_dual wsX10_below := goodIn_r _ [26, 3, 21, 4, 27, 28, 29, 30, 31, 32, 33, 34, 35, 36, 37, 38, 39, 40, 41, 42, 43, 44, 45, 46, 47, 48] (by decide +kernel) (by decide +kernel)
set_option maxRecDepth 20000 in
theorem gX10_dual_X10_below : GoodIn wsX10_dual (wsV RX10 192 RX10 yX10_below wsX10_below) := goodIn_app (goodIn_of _ (by decide +kernel)) ggX10_dual_X10_below
theorem dX10_dual_0 : decode cX10_dual 0 = .ok (.iload_n 1, 1) := by decide +kernel
theorem dX10_dual_1 : decode cX10_dual 1 = .ok (.iconst 1, 1) := by decide +kernel
theorem dX10_dual_2 : decode cX10_dual 2 = .ok (.bipush 6, 2) := by decide +kernel
theorem dX10_dual_4 : decode cX10_dual 4 = .ok (.invokestatic 51, 3) := by decide +kernel
theorem dX10_dual_7 : decode cX10_dual 7 = .ok (.ifCond .ne 7, 3) := by decide +kernel
theorem dX10_dual_10 : decode cX10_dual 10 = .ok (.ldc2_w 151, 3) := by decide +kernel
theorem dX10_dual_13 : decode cX10_dual 13 = .ok (.lreturn, 1) := by decide +kernel
theorem dX10_dual_14 : decode cX10_dual 14 = .ok (.aload_n 0, 1) := by decide +kernel
theorem dX10_dual_15 : decode cX10_dual 15 = .ok (.invokevirtual 184, 3) := by decide +kernel
theorem dX10_dual_18 : decode cX10_dual 18 = .ok (.ifCond .ne 7, 3) := by decide +kernel
theorem dX10_dual_21 : decode cX10_dual 21 = .ok (.ldc2_w 187, 3) := by decide +kernel
theorem dX10_dual_24 : decode cX10_dual 24 = .ok (.lreturn, 1) := by decide +kernel
theorem dX10_dual_25 : decode cX10_dual 25 = .ok (.aload_n 0, 1) := by decide +kernel
theorem dX10_dual_26 : decode cX10_dual 26 = .ok (.invokevirtual 189, 3) := by decide +kernel
theorem dX10_dual_29 : decode cX10_dual 29 = .ok (.lconst 1, 1) := by decide +kernel
theorem dX10_dual_30 : decode cX10_dual 30 = .ok (.lstore_n 2, 1) := by decide +kernel
theorem dX10_dual_31 : decode cX10_dual 31 = .ok (.iconst 2, 1) := by decide +kernel
theorem dX10_dual_32 : decode cX10_dual 32 = .ok (.istore 4, 2) := by decide +kernel
theorem dX10_dual_34 : decode cX10_dual 34 = .ok (.iload 4, 2) := by decide +kernel
theorem dX10_dual_36 : decode cX10_dual 36 = .ok (.iload_n 1, 1) := by decide +kernel
theorem dX10_dual_37 : decode cX10_dual 37 = .ok (.if_icmp .gt 95, 3) := by decide +kernel
theorem dX10_dual_40 : decode cX10_dual 40 = .ok (.lconst 0, 1) := by decide +kernel
theorem dX10_dual_41 : decode cX10_dual 41 = .ok (.lstore_n 2, 1) := by decide +kernel
theorem dX10_dual_42 : decode cX10_dual 42 = .ok (.iconst 0, 1) := by decide +kernel
theorem dX10_dual_43 : decode cX10_dual 43 = .ok (.istore 5, 2) := by decide +kernel
theorem dX10_dual_45 : decode cX10_dual 45 = .ok (.iload 5, 2) := by decide +kernel
theorem dX10_dual_47 : decode cX10_dual 47 = .ok (.aload_n 0, 1) := by decide +kernel
theorem dX10_dual_48 : decode cX10_dual 48 = .ok (.getfield 55, 3) := by decide +kernel
theorem dX10_dual_51 : decode cX10_dual 51 = .ok (.if_icmp .ge 75, 3) := by decide +kernel
theorem dX10_dual_54 : decode cX10_dual 54 = .ok (.lconst 0, 1) := by decide +kernel
theorem dX10_dual_55 : decode cX10_dual 55 = .ok (.lstore 6, 2) := by decide +kernel
theorem dX10_dual_57 : decode cX10_dual 57 = .ok (.iconst 1, 1) := by decide +kernel
theorem dX10_dual_58 : decode cX10_dual 58 = .ok (.istore 8, 2) := by decide +kernel
theorem dX10_dual_60 : decode cX10_dual 60 = .ok (.iload 8, 2) := by decide +kernel
theorem dX10_dual_62 : decode cX10_dual 62 = .ok (.iload 4, 2) := by decide +kernel
theorem dX10_dual_64 : decode cX10_dual 64 = .ok (.if_icmp .ge 36, 3) := by decide +kernel
theorem dX10_dual_67 : decode cX10_dual 67 = .ok (.lload 6, 2) := by decide +kernel
theorem dX10_dual_69 : decode cX10_dual 69 = .ok (.aload_n 0, 1) := by decide +kernel
theorem dX10_dual_70 : decode cX10_dual 70 = .ok (.iload 5, 2) := by decide +kernel
theorem dX10_dual_72 : decode cX10_dual 72 = .ok (.iconst 0, 1) := by decide +kernel
theorem dX10_dual_73 : decode cX10_dual 73 = .ok (.iload 8, 2) := by decide +kernel
theorem dX10_dual_75 : decode cX10_dual 75 = .ok (.invokevirtual 192, 3) := by decide +kernel
theorem dX10_dual_78 : decode cX10_dual 78 = .ok (.aload_n 0, 1) := by decide +kernel
theorem dX10_dual_79 : decode cX10_dual 79 = .ok (.iload 5, 2) := by decide +kernel
theorem dX10_dual_81 : decode cX10_dual 81 = .ok (.iconst 1, 1) := by decide +kernel
theorem dX10_dual_82 : decode cX10_dual 82 = .ok (.iload 4, 2) := by decide +kernel
theorem dX10_dual_84 : decode cX10_dual 84 = .ok (.iload 8, 2) := by decide +kernel
theorem dX10_dual_86 : decode cX10_dual 86 = .ok (.isub, 1) := by decide +kernel
theorem dX10_dual_87 : decode cX10_dual 87 = .ok (.invokevirtual 192, 3) := by decide +kernel
theorem dX10_dual_90 : decode cX10_dual 90 = .ok (.lmul, 1) := by decide +kernel
theorem dX10_dual_91 : decode cX10_dual 91 = .ok (.ladd, 1) := by decide +kernel
theorem dX10_dual_92 : decode cX10_dual 92 = .ok (.lstore 6, 2) := by decide +kernel
theorem dX10_dual_94 : decode cX10_dual 94 = .ok (.iinc 8 1, 3) := by decide +kernel
theorem dX10_dual_97 : decode cX10_dual 97 = .ok (.goto (-37), 3) := by decide +kernel
theorem dX10_dual_100 : decode cX10_dual 100 = .ok (.aload_n 0, 1) := by decide +kernel
theorem dX10_dual_101 : decode cX10_dual 101 = .ok (.getfield 48, 3) := by decide +kernel
theorem dX10_dual_104 : decode cX10_dual 104 = .ok (.bipush 7, 2) := by decide +kernel
theorem dX10_dual_106 : decode cX10_dual 106 = .ok (.iload 5, 2) := by decide +kernel
theorem dX10_dual_108 : decode cX10_dual 108 = .ok (.imul, 1) := by decide +kernel
theorem dX10_dual_109 : decode cX10_dual 109 = .ok (.iload 4, 2) := by decide +kernel
theorem dX10_dual_111 : decode cX10_dual 111 = .ok (.iadd, 1) := by decide +kernel
theorem dX10_dual_112 : decode cX10_dual 112 = .ok (.lload 6, 2) := by decide +kernel
theorem dX10_dual_114 : decode cX10_dual 114 = .ok (.lastore, 1) := by decide +kernel
theorem dX10_dual_115 : decode cX10_dual 115 = .ok (.lload_n 2, 1) := by decide +kernel
theorem dX10_dual_116 : decode cX10_dual 116 = .ok (.lload 6, 2) := by decide +kernel
theorem dX10_dual_118 : decode cX10_dual 118 = .ok (.ladd, 1) := by decide +kernel
theorem dX10_dual_119 : decode cX10_dual 119 = .ok (.lstore_n 2, 1) := by decide +kernel
theorem dX10_dual_120 : decode cX10_dual 120 = .ok (.iinc 5 1, 3) := by decide +kernel
theorem dX10_dual_123 : decode cX10_dual 123 = .ok (.goto (-78), 3) := by decide +kernel
theorem dX10_dual_126 : decode cX10_dual 126 = .ok (.iinc 4 1, 3) := by decide +kernel
theorem dX10_dual_129 : decode cX10_dual 129 = .ok (.goto (-95), 3) := by decide +kernel
theorem dX10_dual_132 : decode cX10_dual 132 = .ok (.lload_n 2, 1) := by decide +kernel
theorem dX10_dual_133 : decode cX10_dual 133 = .ok (.lreturn, 1) := by decide +kernel
set_option maxRecDepth 20000 in
theorem ggX10_count_X10_isTree : GoodIn wsX10_count wsX10_isTree := goodIn_r _ [8, 9, 10, 11, 12, 7, 13, 14, 15, 16, 17, 18, 19, 20, 21, 22, 23, 24, 25, 26, 27, 28, 29, 30, 31, 32, 33, 34, 35, 36, 37, 38, 39, 40, 41] (by decide +kernel) (by decide +kernel)
set_option maxRecDepth 20000 in
theorem gX10_count_X10_isTree : GoodIn wsX10_count (wsV RX10 79 RX10 yX10_isTree wsX10_isTree) := goodIn_app (goodIn_of _ (by decide +kernel)) ggX10_count_X10_isTree
theorem dX10_count_0 : decode cX10_count 0 = .ok (.iconst 0, 1) := by decide +kernel
theorem dX10_count_1 : decode cX10_count 1 = .ok (.istore_n 2, 1) := by decide +kernel
theorem dX10_count_2 : decode cX10_count 2 = .ok (.iload_n 1, 1) := by decide +kernel
theorem dX10_count_3 : decode cX10_count 3 = .ok (.tableswitch 106 0 3 #[29, 34, 39, 71], 29) := by decide +kernel
theorem dX10_count_32 : decode cX10_count 32 = .ok (.aload_n 0, 1) := by decide +kernel
theorem dX10_count_33 : decode cX10_count 33 = .ok (.getfield 55, 3) := by decide +kernel
theorem dX10_count_36 : decode cX10_count 36 = .ok (.ireturn, 1) := by decide +kernel
theorem dX10_count_37 : decode cX10_count 37 = .ok (.aload_n 0, 1) := by decide +kernel
theorem dX10_count_38 : decode cX10_count 38 = .ok (.getfield 102, 3) := by decide +kernel
theorem dX10_count_41 : decode cX10_count 41 = .ok (.ireturn, 1) := by decide +kernel
theorem dX10_count_42 : decode cX10_count 42 = .ok (.iconst 0, 1) := by decide +kernel
theorem dX10_count_43 : decode cX10_count 43 = .ok (.istore_n 3, 1) := by decide +kernel
theorem dX10_count_44 : decode cX10_count 44 = .ok (.iload_n 3, 1) := by decide +kernel
theorem dX10_count_45 : decode cX10_count 45 = .ok (.bipush 10, 2) := by decide +kernel
theorem dX10_count_47 : decode cX10_count 47 = .ok (.if_icmp .ge 25, 3) := by decide +kernel
theorem dX10_count_50 : decode cX10_count 50 = .ok (.iload_n 2, 1) := by decide +kernel
theorem dX10_count_51 : decode cX10_count 51 = .ok (.aload_n 0, 1) := by decide +kernel
theorem dX10_count_52 : decode cX10_count 52 = .ok (.iload_n 3, 1) := by decide +kernel
theorem dX10_count_53 : decode cX10_count 53 = .ok (.invokevirtual 79, 3) := by decide +kernel
theorem dX10_count_56 : decode cX10_count 56 = .ok (.ifCond .eq 7, 3) := by decide +kernel
theorem dX10_count_59 : decode cX10_count 59 = .ok (.iconst 1, 1) := by decide +kernel
theorem dX10_count_60 : decode cX10_count 60 = .ok (.goto 4, 3) := by decide +kernel
theorem dX10_count_63 : decode cX10_count 63 = .ok (.iconst 0, 1) := by decide +kernel
theorem dX10_count_64 : decode cX10_count 64 = .ok (.iadd, 1) := by decide +kernel
theorem dX10_count_65 : decode cX10_count 65 = .ok (.istore_n 2, 1) := by decide +kernel
theorem dX10_count_66 : decode cX10_count 66 = .ok (.iinc 3 1, 3) := by decide +kernel
theorem dX10_count_69 : decode cX10_count 69 = .ok (.goto (-25), 3) := by decide +kernel
theorem dX10_count_72 : decode cX10_count 72 = .ok (.iload_n 2, 1) := by decide +kernel
theorem dX10_count_73 : decode cX10_count 73 = .ok (.ireturn, 1) := by decide +kernel
theorem dX10_count_74 : decode cX10_count 74 = .ok (.iconst 0, 1) := by decide +kernel
theorem dX10_count_75 : decode cX10_count 75 = .ok (.istore_n 3, 1) := by decide +kernel
theorem dX10_count_76 : decode cX10_count 76 = .ok (.iload_n 3, 1) := by decide +kernel
theorem dX10_count_77 : decode cX10_count 77 = .ok (.aload_n 0, 1) := by decide +kernel
theorem dX10_count_78 : decode cX10_count 78 = .ok (.getfield 102, 3) := by decide +kernel
theorem dX10_count_81 : decode cX10_count 81 = .ok (.if_icmp .ge 26, 3) := by decide +kernel
theorem dX10_count_84 : decode cX10_count 84 = .ok (.iload_n 2, 1) := by decide +kernel
theorem dX10_count_85 : decode cX10_count 85 = .ok (.aload_n 0, 1) := by decide +kernel
theorem dX10_count_86 : decode cX10_count 86 = .ok (.getfield 19, 3) := by decide +kernel
theorem dX10_count_89 : decode cX10_count 89 = .ok (.iload_n 3, 1) := by decide +kernel
theorem dX10_count_90 : decode cX10_count 90 = .ok (.baload, 1) := by decide +kernel
theorem dX10_count_91 : decode cX10_count 91 = .ok (.ifCond .eq 7, 3) := by decide +kernel
theorem dX10_count_94 : decode cX10_count 94 = .ok (.iconst 1, 1) := by decide +kernel
theorem dX10_count_95 : decode cX10_count 95 = .ok (.goto 4, 3) := by decide +kernel
theorem dX10_count_98 : decode cX10_count 98 = .ok (.iconst 0, 1) := by decide +kernel
theorem dX10_count_99 : decode cX10_count 99 = .ok (.iadd, 1) := by decide +kernel
theorem dX10_count_100 : decode cX10_count 100 = .ok (.istore_n 2, 1) := by decide +kernel
theorem dX10_count_101 : decode cX10_count 101 = .ok (.iinc 3 1, 3) := by decide +kernel
theorem dX10_count_104 : decode cX10_count 104 = .ok (.goto (-28), 3) := by decide +kernel
theorem dX10_count_107 : decode cX10_count 107 = .ok (.iload_n 2, 1) := by decide +kernel
theorem dX10_count_108 : decode cX10_count 108 = .ok (.ireturn, 1) := by decide +kernel
theorem dX10_count_109 : decode cX10_count 109 = .ok (.bipush (-2), 2) := by decide +kernel
theorem dX10_count_111 : decode cX10_count 111 = .ok (.ireturn, 1) := by decide +kernel
theorem dX10_digestRow_0 : decode cX10_digestRow 0 = .ok (.lload_n 1, 1) := by decide +kernel
theorem dX10_digestRow_1 : decode cX10_digestRow 1 = .ok (.lstore 4, 2) := by decide +kernel
theorem dX10_digestRow_3 : decode cX10_digestRow 3 = .ok (.iconst 0, 1) := by decide +kernel
theorem dX10_digestRow_4 : decode cX10_digestRow 4 = .ok (.istore 6, 2) := by decide +kernel
theorem dX10_digestRow_6 : decode cX10_digestRow 6 = .ok (.iload 6, 2) := by decide +kernel
theorem dX10_digestRow_8 : decode cX10_digestRow 8 = .ok (.aload_n 0, 1) := by decide +kernel
theorem dX10_digestRow_9 : decode cX10_digestRow 9 = .ok (.getfield 16, 3) := by decide +kernel
theorem dX10_digestRow_12 : decode cX10_digestRow 12 = .ok (.iload_n 3, 1) := by decide +kernel
theorem dX10_digestRow_13 : decode cX10_digestRow 13 = .ok (.iaload, 1) := by decide +kernel
theorem dX10_digestRow_14 : decode cX10_digestRow 14 = .ok (.if_icmp .ge 31, 3) := by decide +kernel
theorem dX10_digestRow_17 : decode cX10_digestRow 17 = .ok (.ldc2_w 196, 3) := by decide +kernel
theorem dX10_digestRow_20 : decode cX10_digestRow 20 = .ok (.lload 4, 2) := by decide +kernel
theorem dX10_digestRow_22 : decode cX10_digestRow 22 = .ok (.lmul, 1) := by decide +kernel
theorem dX10_digestRow_23 : decode cX10_digestRow 23 = .ok (.aload_n 0, 1) := by decide +kernel
theorem dX10_digestRow_24 : decode cX10_digestRow 24 = .ok (.getfield 13, 3) := by decide +kernel
theorem dX10_digestRow_27 : decode cX10_digestRow 27 = .ok (.bipush 60, 2) := by decide +kernel
theorem dX10_digestRow_29 : decode cX10_digestRow 29 = .ok (.iload_n 3, 1) := by decide +kernel
theorem dX10_digestRow_30 : decode cX10_digestRow 30 = .ok (.imul, 1) := by decide +kernel
theorem dX10_digestRow_31 : decode cX10_digestRow 31 = .ok (.iload 6, 2) := by decide +kernel
theorem dX10_digestRow_33 : decode cX10_digestRow 33 = .ok (.iadd, 1) := by decide +kernel
theorem dX10_digestRow_34 : decode cX10_digestRow 34 = .ok (.iaload, 1) := by decide +kernel
theorem dX10_digestRow_35 : decode cX10_digestRow 35 = .ok (.i2l, 1) := by decide +kernel
theorem dX10_digestRow_36 : decode cX10_digestRow 36 = .ok (.ladd, 1) := by decide +kernel
theorem dX10_digestRow_37 : decode cX10_digestRow 37 = .ok (.lstore 4, 2) := by decide +kernel
theorem dX10_digestRow_39 : decode cX10_digestRow 39 = .ok (.iinc 6 1, 3) := by decide +kernel
theorem dX10_digestRow_42 : decode cX10_digestRow 42 = .ok (.goto (-36), 3) := by decide +kernel
theorem dX10_digestRow_45 : decode cX10_digestRow 45 = .ok (.ldc2_w 196, 3) := by decide +kernel
theorem dX10_digestRow_48 : decode cX10_digestRow 48 = .ok (.lload 4, 2) := by decide +kernel
theorem dX10_digestRow_50 : decode cX10_digestRow 50 = .ok (.lmul, 1) := by decide +kernel
theorem dX10_digestRow_51 : decode cX10_digestRow 51 = .ok (.ldc2_w 198, 3) := by decide +kernel
theorem dX10_digestRow_54 : decode cX10_digestRow 54 = .ok (.ladd, 1) := by decide +kernel
theorem dX10_digestRow_55 : decode cX10_digestRow 55 = .ok (.lreturn, 1) := by decide +kernel
set_option maxRecDepth 20000 in
theorem ggX10_digest_X10_count : GoodIn wsX10_digest wsX10_count := goodIn_r _ [10, 3, 5, 11, 12, 13, 14, 9, 15, 16, 17, 18, 19, 20, 21, 22, 23, 24, 25, 4, 31, 32, 33, 34, 35, 36, 37, 38, 39, 40, 41, 42, 43, 44, 45, 46, 47, 48, 49, 50, 51, 52] (by decide +kernel) (by decide +kernel)
set_option maxRecDepth 20000 in
theorem gX10_digest_X10_count : GoodIn wsX10_digest (wsV RX10 202 RX10 yX10_count wsX10_count) := goodIn_app (goodIn_of _ (by decide +kernel)) ggX10_digest_X10_count
set_option maxRecDepth 20000 in
theorem ggX10_digest_X10_digestRow : GoodIn wsX10_digest wsX10_digestRow := goodIn_r _ [29, 16, 2, 21, 30, 31, 32, 33, 34, 35, 36, 37, 38, 39, 40, 41, 42, 43, 44, 45, 46, 47, 48, 49, 50, 51, 52] (by decide +kernel) (by decide +kernel)
set_option maxRecDepth 20000 in
theorem gX10_digest_X10_digestRow : GoodIn wsX10_digest (wsV RX10 205 RX10 yX10_digestRow wsX10_digestRow) := goodIn_app (goodIn_of _ (by decide +kernel)) ggX10_digest_X10_digestRow
theorem dX10_digest_0 : decode cX10_digest 0 = .ok (.ldc2_w 200, 3) := by decide +kernel
theorem dX10_digest_3 : decode cX10_digest 3 = .ok (.lstore_n 1, 1) := by decide +kernel
theorem dX10_digest_4 : decode cX10_digest 4 = .ok (.iconst 0, 1) := by decide +kernel
theorem dX10_digest_5 : decode cX10_digest 5 = .ok (.istore_n 3, 1) := by decide +kernel
theorem dX10_digest_6 : decode cX10_digest 6 = .ok (.iload_n 3, 1) := by decide +kernel
theorem dX10_digest_7 : decode cX10_digest 7 = .ok (.iconst 4, 1) := by decide +kernel
theorem dX10_digest_8 : decode cX10_digest 8 = .ok (.if_icmp .ge 22, 3) := by decide +kernel
theorem dX10_digest_11 : decode cX10_digest 11 = .ok (.ldc2_w 196, 3) := by decide +kernel
theorem dX10_digest_14 : decode cX10_digest 14 = .ok (.lload_n 1, 1) := by decide +kernel
theorem dX10_digest_15 : decode cX10_digest 15 = .ok (.lmul, 1) := by decide +kernel
theorem dX10_digest_16 : decode cX10_digest 16 = .ok (.aload_n 0, 1) := by decide +kernel
theorem dX10_digest_17 : decode cX10_digest 17 = .ok (.iload_n 3, 1) := by decide +kernel
theorem dX10_digest_18 : decode cX10_digest 18 = .ok (.invokevirtual 202, 3) := by decide +kernel
theorem dX10_digest_21 : decode cX10_digest 21 = .ok (.i2l, 1) := by decide +kernel
theorem dX10_digest_22 : decode cX10_digest 22 = .ok (.ladd, 1) := by decide +kernel
theorem dX10_digest_23 : decode cX10_digest 23 = .ok (.lstore_n 1, 1) := by decide +kernel
theorem dX10_digest_24 : decode cX10_digest 24 = .ok (.iinc 3 1, 3) := by decide +kernel
theorem dX10_digest_27 : decode cX10_digest 27 = .ok (.goto (-21), 3) := by decide +kernel
theorem dX10_digest_30 : decode cX10_digest 30 = .ok (.iconst 0, 1) := by decide +kernel
theorem dX10_digest_31 : decode cX10_digest 31 = .ok (.istore_n 3, 1) := by decide +kernel
theorem dX10_digest_32 : decode cX10_digest 32 = .ok (.iload_n 3, 1) := by decide +kernel
theorem dX10_digest_33 : decode cX10_digest 33 = .ok (.aload_n 0, 1) := by decide +kernel
theorem dX10_digest_34 : decode cX10_digest 34 = .ok (.getfield 55, 3) := by decide +kernel
theorem dX10_digest_37 : decode cX10_digest 37 = .ok (.if_icmp .ge 23, 3) := by decide +kernel
theorem dX10_digest_40 : decode cX10_digest 40 = .ok (.ldc2_w 196, 3) := by decide +kernel
theorem dX10_digest_43 : decode cX10_digest 43 = .ok (.lload_n 1, 1) := by decide +kernel
theorem dX10_digest_44 : decode cX10_digest 44 = .ok (.lmul, 1) := by decide +kernel
theorem dX10_digest_45 : decode cX10_digest 45 = .ok (.aload_n 0, 1) := by decide +kernel
theorem dX10_digest_46 : decode cX10_digest 46 = .ok (.getfield 7, 3) := by decide +kernel
theorem dX10_digest_49 : decode cX10_digest 49 = .ok (.iload_n 3, 1) := by decide +kernel
theorem dX10_digest_50 : decode cX10_digest 50 = .ok (.iaload, 1) := by decide +kernel
theorem dX10_digest_51 : decode cX10_digest 51 = .ok (.i2l, 1) := by decide +kernel
theorem dX10_digest_52 : decode cX10_digest 52 = .ok (.ladd, 1) := by decide +kernel
theorem dX10_digest_53 : decode cX10_digest 53 = .ok (.lstore_n 1, 1) := by decide +kernel
theorem dX10_digest_54 : decode cX10_digest 54 = .ok (.iinc 3 1, 3) := by decide +kernel
theorem dX10_digest_57 : decode cX10_digest 57 = .ok (.goto (-25), 3) := by decide +kernel
theorem dX10_digest_60 : decode cX10_digest 60 = .ok (.iconst 0, 1) := by decide +kernel
theorem dX10_digest_61 : decode cX10_digest 61 = .ok (.istore_n 3, 1) := by decide +kernel
theorem dX10_digest_62 : decode cX10_digest 62 = .ok (.iload_n 3, 1) := by decide +kernel
theorem dX10_digest_63 : decode cX10_digest 63 = .ok (.bipush 10, 2) := by decide +kernel
theorem dX10_digest_65 : decode cX10_digest 65 = .ok (.if_icmp .ge 16, 3) := by decide +kernel
theorem dX10_digest_68 : decode cX10_digest 68 = .ok (.aload_n 0, 1) := by decide +kernel
theorem dX10_digest_69 : decode cX10_digest 69 = .ok (.lload_n 1, 1) := by decide +kernel
theorem dX10_digest_70 : decode cX10_digest 70 = .ok (.iload_n 3, 1) := by decide +kernel
theorem dX10_digest_71 : decode cX10_digest 71 = .ok (.invokevirtual 205, 3) := by decide +kernel
theorem dX10_digest_74 : decode cX10_digest 74 = .ok (.lstore_n 1, 1) := by decide +kernel
theorem dX10_digest_75 : decode cX10_digest 75 = .ok (.iinc 3 1, 3) := by decide +kernel
theorem dX10_digest_78 : decode cX10_digest 78 = .ok (.goto (-16), 3) := by decide +kernel
theorem dX10_digest_81 : decode cX10_digest 81 = .ok (.iconst 0, 1) := by decide +kernel
theorem dX10_digest_82 : decode cX10_digest 82 = .ok (.istore_n 3, 1) := by decide +kernel
theorem dX10_digest_83 : decode cX10_digest 83 = .ok (.iload_n 3, 1) := by decide +kernel
theorem dX10_digest_84 : decode cX10_digest 84 = .ok (.aload_n 0, 1) := by decide +kernel
theorem dX10_digest_85 : decode cX10_digest 85 = .ok (.getfield 102, 3) := by decide +kernel
theorem dX10_digest_88 : decode cX10_digest 88 = .ok (.if_icmp .ge 27, 3) := by decide +kernel
theorem dX10_digest_91 : decode cX10_digest 91 = .ok (.aload_n 0, 1) := by decide +kernel
theorem dX10_digest_92 : decode cX10_digest 92 = .ok (.aload_n 0, 1) := by decide +kernel
theorem dX10_digest_93 : decode cX10_digest 93 = .ok (.lload_n 1, 1) := by decide +kernel
theorem dX10_digest_94 : decode cX10_digest 94 = .ok (.bipush 10, 2) := by decide +kernel
theorem dX10_digest_96 : decode cX10_digest 96 = .ok (.iload_n 3, 1) := by decide +kernel
theorem dX10_digest_97 : decode cX10_digest 97 = .ok (.iadd, 1) := by decide +kernel
theorem dX10_digest_98 : decode cX10_digest 98 = .ok (.invokevirtual 205, 3) := by decide +kernel
theorem dX10_digest_101 : decode cX10_digest 101 = .ok (.bipush 18, 2) := by decide +kernel
theorem dX10_digest_103 : decode cX10_digest 103 = .ok (.iload_n 3, 1) := by decide +kernel
theorem dX10_digest_104 : decode cX10_digest 104 = .ok (.iadd, 1) := by decide +kernel
theorem dX10_digest_105 : decode cX10_digest 105 = .ok (.invokevirtual 205, 3) := by decide +kernel
theorem dX10_digest_108 : decode cX10_digest 108 = .ok (.lstore_n 1, 1) := by decide +kernel
theorem dX10_digest_109 : decode cX10_digest 109 = .ok (.iinc 3 1, 3) := by decide +kernel
theorem dX10_digest_112 : decode cX10_digest 112 = .ok (.goto (-29), 3) := by decide +kernel
theorem dX10_digest_115 : decode cX10_digest 115 = .ok (.lload_n 1, 1) := by decide +kernel
theorem dX10_digest_116 : decode cX10_digest 116 = .ok (.lreturn, 1) := by decide +kernel
theorem dJ9_max_7cf53_0 : decode cJ9_max_7cf53 0 = .ok (.iload_n 0, 1) := by decide +kernel
theorem dJ9_max_7cf53_1 : decode cJ9_max_7cf53 1 = .ok (.iload_n 1, 1) := by decide +kernel
theorem dJ9_max_7cf53_2 : decode cJ9_max_7cf53 2 = .ok (.if_icmp .lt 7, 3) := by decide +kernel
theorem dJ9_max_7cf53_5 : decode cJ9_max_7cf53 5 = .ok (.iload_n 0, 1) := by decide +kernel
theorem dJ9_max_7cf53_6 : decode cJ9_max_7cf53 6 = .ok (.goto 4, 3) := by decide +kernel
theorem dJ9_max_7cf53_9 : decode cJ9_max_7cf53 9 = .ok (.iload_n 1, 1) := by decide +kernel
theorem dJ9_max_7cf53_10 : decode cJ9_max_7cf53 10 = .ok (.ireturn, 1) := by decide +kernel
theorem dJ9_min_7cf53_0 : decode cJ9_min_7cf53 0 = .ok (.iload_n 0, 1) := by decide +kernel
theorem dJ9_min_7cf53_1 : decode cJ9_min_7cf53 1 = .ok (.iload_n 1, 1) := by decide +kernel
theorem dJ9_min_7cf53_2 : decode cJ9_min_7cf53 2 = .ok (.if_icmp .gt 7, 3) := by decide +kernel
theorem dJ9_min_7cf53_5 : decode cJ9_min_7cf53 5 = .ok (.iload_n 0, 1) := by decide +kernel
theorem dJ9_min_7cf53_6 : decode cJ9_min_7cf53 6 = .ok (.goto 4, 3) := by decide +kernel
theorem dJ9_min_7cf53_9 : decode cJ9_min_7cf53 9 = .ok (.iload_n 1, 1) := by decide +kernel
theorem dJ9_min_7cf53_10 : decode cJ9_min_7cf53 10 = .ok (.ireturn, 1) := by decide +kernel
theorem dJ7_copyOf_c38d5_0 : decode cJ7_copyOf_c38d5 0 = .ok (.iload_n 1, 1) := by decide +kernel
theorem dJ7_copyOf_c38d5_1 : decode cJ7_copyOf_c38d5 1 = .ok (.aload_n 0, 1) := by decide +kernel
theorem dJ7_copyOf_c38d5_2 : decode cJ7_copyOf_c38d5 2 = .ok (.arraylength, 1) := by decide +kernel
theorem dJ7_copyOf_c38d5_3 : decode cJ7_copyOf_c38d5 3 = .ok (.if_icmp .ne 11, 3) := by decide +kernel
theorem dJ7_copyOf_c38d5_6 : decode cJ7_copyOf_c38d5 6 = .ok (.aload_n 0, 1) := by decide +kernel
theorem dJ7_copyOf_c38d5_7 : decode cJ7_copyOf_c38d5 7 = .ok (.invokevirtual 319, 3) := by decide +kernel
theorem dJ7_copyOf_c38d5_10 : decode cJ7_copyOf_c38d5 10 = .ok (.checkcast 320, 3) := by decide +kernel
theorem dJ7_copyOf_c38d5_13 : decode cJ7_copyOf_c38d5 13 = .ok (.areturn, 1) := by decide +kernel
theorem dJ7_copyOf_c38d5_14 : decode cJ7_copyOf_c38d5 14 = .ok (.iload_n 1, 1) := by decide +kernel
theorem dJ7_copyOf_c38d5_15 : decode cJ7_copyOf_c38d5 15 = .ok (.newarray .long, 2) := by decide +kernel
theorem dJ7_copyOf_c38d5_17 : decode cJ7_copyOf_c38d5 17 = .ok (.astore_n 2, 1) := by decide +kernel
theorem dJ7_copyOf_c38d5_18 : decode cJ7_copyOf_c38d5 18 = .ok (.aload_n 0, 1) := by decide +kernel
theorem dJ7_copyOf_c38d5_19 : decode cJ7_copyOf_c38d5 19 = .ok (.iconst 0, 1) := by decide +kernel
theorem dJ7_copyOf_c38d5_20 : decode cJ7_copyOf_c38d5 20 = .ok (.aload_n 2, 1) := by decide +kernel
theorem dJ7_copyOf_c38d5_21 : decode cJ7_copyOf_c38d5 21 = .ok (.iconst 0, 1) := by decide +kernel
theorem dJ7_copyOf_c38d5_22 : decode cJ7_copyOf_c38d5 22 = .ok (.aload_n 0, 1) := by decide +kernel
theorem dJ7_copyOf_c38d5_23 : decode cJ7_copyOf_c38d5 23 = .ok (.arraylength, 1) := by decide +kernel
theorem dJ7_copyOf_c38d5_24 : decode cJ7_copyOf_c38d5 24 = .ok (.iload_n 1, 1) := by decide +kernel
theorem dJ7_copyOf_c38d5_25 : decode cJ7_copyOf_c38d5 25 = .ok (.invokestatic 304, 3) := by decide +kernel
theorem dJ7_copyOf_c38d5_28 : decode cJ7_copyOf_c38d5 28 = .ok (.invokestatic 150, 3) := by decide +kernel
theorem dJ7_copyOf_c38d5_31 : decode cJ7_copyOf_c38d5 31 = .ok (.aload_n 2, 1) := by decide +kernel
theorem dJ7_copyOf_c38d5_32 : decode cJ7_copyOf_c38d5 32 = .ok (.areturn, 1) := by decide +kernel
end
section
abbrev vwCl : List vw_C := [(RX0, TX0, 6), (RX1, TX1, 5), (RX2, TX2, 5), (RX3, TX3, 2), (RX4, TX4, 3), (RX5, TX5, 2), (RX6, TX6, 1), (RX7, TX7, 3), (RX8, TX8, 4), (RX9, TX9, 14), (RX10, TX10, 22)]
end
section
/-! base rows of mine: numbers as naturals, truth values as bI, arrays by a natural index -/
def bI (P : Prop) [Decidable P] : Int32 := if P then 1 else 0
theorem bI_t {P : Prop} [Decidable P] (h : P) : bI P = 1 := if_pos h
theorem bI_f {P : Prop} [Decidable P] (h : ¬ P) : bI P = 0 := if_neg h
theorem bI_iff {P Q : Prop} [Decidable P] [Decidable Q] (h : P ↔ Q) : bI P = bI Q := by
  unfold bI
  by_cases hp : P
  · rw [if_pos hp, if_pos (h.mp hp)]
  · rw [if_neg hp, if_neg (fun q => hp (h.mpr q))]
theorem bI_ne0 {P : Prop} [Decidable P] : ¬ bI P = 0 ↔ P := by
  unfold bI
  by_cases hp : P
  · rw [if_pos hp]; exact ⟨fun _ => hp, fun _ => by decide⟩
  · rw [if_neg hp]; exact ⟨fun h => absurd rfl h, fun h => absurd h hp⟩
theorem bI_eq0 {P : Prop} [Decidable P] : bI P = 0 ↔ ¬ P := by
  unfold bI
  by_cases hp : P
  · rw [if_pos hp]; exact ⟨fun h => absurd h (by decide), fun h => absurd hp h⟩
  · rw [if_neg hp]; exact ⟨fun _ => hp, fun _ => rfl⟩
theorem bI_nar {P : Prop} [Decidable P] : narrow .boolean (.int (bI P)) = .int (bI P) := by
  unfold bI
  by_cases hp : P
  · rw [if_pos hp]; rfl
  · rw [if_neg hp]; rfl
section NX
variable {p : Program} {l : Launch} {e : Env} {R : Room} {s : State} {m : MethodId} {args : Array Value} {below : List Frame} {meth : Method} {c : Code} {H : Heap} {locs : List Loc} {cells slots : Nat} {Q : State → Prop}
variable {cc : ByteArray} {pc : Nat} {ls : Array Slot} {rest : List Value} {D : va_G} {cl : List vw_C} {A : Nat → Prop} {a : Nat} {tys : List (ClassId × FieldType)} {ws : va_W} {H0 : Heap}
theorem nx_ti {x y : Int32} (h : x = y) (k : W p l e R s m args below meth c H locs cells slots Q (F0 m pc ls (.int y :: rest))) : W p l e R s m args below meth c H locs cells slots Q (F0 m pc ls (.int x :: rest)) := by subst h; exact k
theorem nx_tl {x y : Int64} (h : x = y) (k : W p l e R s m args below meth c H locs cells slots Q (F0 m pc ls (.long y :: rest))) : W p l e R s m args below meth c H locs cells slots Q (F0 m pc ls (.long x :: rest)) := by subst h; exact k
theorem nx_t {x y : Value} (h : x = y) (k : W p l e R s m args below meth c H locs cells slots Q (F0 m pc ls (y :: rest))) : W p l e R s m args below meth c H locs cells slots Q (F0 m pc ls (x :: rest)) := by subst h; exact k
theorem nx_icmp_lt (hexec : p.tables.exec = Jvm.exec) (hb : c.code = cc) {a b : Nat} {off : Int} {tgt : Nat} (hdg : decode cc pc = .ok (.if_icmp .lt off, 3)) (ht : (pc : Int) + off = (tgt : Int)) (h1 : a < 2 ^ 31) (h2 : b < 2 ^ 31)
    (kt : a < b → W p l e R s m args below meth c H locs cells slots Q (F0 m tgt ls rest)) (kf : b ≤ a → W p l e R s m args below meth c H locs cells slots Q (F0 m (pc + 3) ls rest)) : W p l e R s m args below meth c H locs cells slots Q (F0 m pc ls (.int (nI b) :: .int (nI a) :: rest)) :=
  lv_icmp_lt hexec hb hdg ht (fun q => kt ((nI_ltI h1 h2).mp q)) (fun q => kf (Nat.le_of_not_lt (fun z => q ((nI_ltI h1 h2).mpr z))))
theorem nx_icmp_ge (hexec : p.tables.exec = Jvm.exec) (hb : c.code = cc) {a b : Nat} {off : Int} {tgt : Nat} (hdg : decode cc pc = .ok (.if_icmp .ge off, 3)) (ht : (pc : Int) + off = (tgt : Int)) (h1 : a < 2 ^ 31) (h2 : b < 2 ^ 31)
    (kt : b ≤ a → W p l e R s m args below meth c H locs cells slots Q (F0 m tgt ls rest)) (kf : a < b → W p l e R s m args below meth c H locs cells slots Q (F0 m (pc + 3) ls rest)) : W p l e R s m args below meth c H locs cells slots Q (F0 m pc ls (.int (nI b) :: .int (nI a) :: rest)) :=
  lv_icmp_ge hexec hb hdg ht (fun q => kt ((nI_leI h2 h1).mp q)) (fun q => kf (Nat.lt_of_not_le (fun z => q ((nI_leI h2 h1).mpr z))))
theorem nx_icmp_gt (hexec : p.tables.exec = Jvm.exec) (hb : c.code = cc) {a b : Nat} {off : Int} {tgt : Nat} (hdg : decode cc pc = .ok (.if_icmp .gt off, 3)) (ht : (pc : Int) + off = (tgt : Int)) (h1 : a < 2 ^ 31) (h2 : b < 2 ^ 31)
    (kt : b < a → W p l e R s m args below meth c H locs cells slots Q (F0 m tgt ls rest)) (kf : a ≤ b → W p l e R s m args below meth c H locs cells slots Q (F0 m (pc + 3) ls rest)) : W p l e R s m args below meth c H locs cells slots Q (F0 m pc ls (.int (nI b) :: .int (nI a) :: rest)) :=
  lv_icmp_gt hexec hb hdg ht (fun q => kt ((nI_ltI h2 h1).mp q)) (fun q => kf (Nat.le_of_not_lt (fun z => q ((nI_ltI h2 h1).mpr z))))
theorem nx_icmp_le (hexec : p.tables.exec = Jvm.exec) (hb : c.code = cc) {a b : Nat} {off : Int} {tgt : Nat} (hdg : decode cc pc = .ok (.if_icmp .le off, 3)) (ht : (pc : Int) + off = (tgt : Int)) (h1 : a < 2 ^ 31) (h2 : b < 2 ^ 31)
    (kt : a ≤ b → W p l e R s m args below meth c H locs cells slots Q (F0 m tgt ls rest)) (kf : b < a → W p l e R s m args below meth c H locs cells slots Q (F0 m (pc + 3) ls rest)) : W p l e R s m args below meth c H locs cells slots Q (F0 m pc ls (.int (nI b) :: .int (nI a) :: rest)) :=
  lv_icmp_le hexec hb hdg ht (fun q => kt ((nI_leI h1 h2).mp q)) (fun q => kf (Nat.lt_of_not_le (fun z => q ((nI_leI h1 h2).mpr z))))
theorem nx_icmp_eq (hexec : p.tables.exec = Jvm.exec) (hb : c.code = cc) {a b : Nat} {off : Int} {tgt : Nat} (hdg : decode cc pc = .ok (.if_icmp .eq off, 3)) (ht : (pc : Int) + off = (tgt : Int)) (h1 : a < 2 ^ 31) (h2 : b < 2 ^ 31)
    (kt : a = b → W p l e R s m args below meth c H locs cells slots Q (F0 m tgt ls rest)) (kf : a ≠ b → W p l e R s m args below meth c H locs cells slots Q (F0 m (pc + 3) ls rest)) : W p l e R s m args below meth c H locs cells slots Q (F0 m pc ls (.int (nI b) :: .int (nI a) :: rest)) :=
  lv_icmp_eq hexec hb hdg ht (fun q => kt ((nI_eq h1 h2).mp q)) (fun q => kf (fun z => q ((nI_eq h1 h2).mpr z)))
theorem nx_icmp_ne (hexec : p.tables.exec = Jvm.exec) (hb : c.code = cc) {a b : Nat} {off : Int} {tgt : Nat} (hdg : decode cc pc = .ok (.if_icmp .ne off, 3)) (ht : (pc : Int) + off = (tgt : Int)) (h1 : a < 2 ^ 31) (h2 : b < 2 ^ 31)
    (kt : a ≠ b → W p l e R s m args below meth c H locs cells slots Q (F0 m tgt ls rest)) (kf : a = b → W p l e R s m args below meth c H locs cells slots Q (F0 m (pc + 3) ls rest)) : W p l e R s m args below meth c H locs cells slots Q (F0 m pc ls (.int (nI b) :: .int (nI a) :: rest)) :=
  lv_icmp_ne hexec hb hdg ht (fun q => kt (fun z => q ((nI_eq h1 h2).mpr z))) (fun q => kf ((nI_eq h1 h2).mp q))
theorem nz_eq {a : Nat} (h1 : a < 2 ^ 31) : nI a = 0 ↔ a = 0 := nI_eq (b := 0) h1 (by decide)
theorem nz_lt {a : Nat} (h1 : a < 2 ^ 31) : 0 < nI a ↔ 0 < a := nI_ltI (a := 0) (by decide) h1
theorem nz_le {a : Nat} (h1 : a < 2 ^ 31) : nI a ≤ 0 ↔ a = 0 := (nI_leI (b := 0) h1 (by decide)).trans (by omega)
theorem nx_if_eq (hexec : p.tables.exec = Jvm.exec) (hb : c.code = cc) {a : Nat} {off : Int} {tgt : Nat} (hdg : decode cc pc = .ok (.ifCond .eq off, 3)) (ht : (pc : Int) + off = (tgt : Int)) (h1 : a < 2 ^ 31)
    (kt : a = 0 → W p l e R s m args below meth c H locs cells slots Q (F0 m tgt ls rest)) (kf : a ≠ 0 → W p l e R s m args below meth c H locs cells slots Q (F0 m (pc + 3) ls rest)) : W p l e R s m args below meth c H locs cells slots Q (F0 m pc ls (.int (nI a) :: rest)) :=
  lv_if_eq hexec hb hdg ht (fun q => kt ((nz_eq h1).mp q)) (fun q => kf (fun z => q ((nz_eq h1).mpr z)))
theorem nx_if_ne (hexec : p.tables.exec = Jvm.exec) (hb : c.code = cc) {a : Nat} {off : Int} {tgt : Nat} (hdg : decode cc pc = .ok (.ifCond .ne off, 3)) (ht : (pc : Int) + off = (tgt : Int)) (h1 : a < 2 ^ 31)
    (kt : a ≠ 0 → W p l e R s m args below meth c H locs cells slots Q (F0 m tgt ls rest)) (kf : a = 0 → W p l e R s m args below meth c H locs cells slots Q (F0 m (pc + 3) ls rest)) : W p l e R s m args below meth c H locs cells slots Q (F0 m pc ls (.int (nI a) :: rest)) :=
  lv_if_ne hexec hb hdg ht (fun q => kt (fun z => q ((nz_eq h1).mpr z))) (fun q => kf ((nz_eq h1).mp q))
theorem nx_if_gt (hexec : p.tables.exec = Jvm.exec) (hb : c.code = cc) {a : Nat} {off : Int} {tgt : Nat} (hdg : decode cc pc = .ok (.ifCond .gt off, 3)) (ht : (pc : Int) + off = (tgt : Int)) (h1 : a < 2 ^ 31)
    (kt : 0 < a → W p l e R s m args below meth c H locs cells slots Q (F0 m tgt ls rest)) (kf : a = 0 → W p l e R s m args below meth c H locs cells slots Q (F0 m (pc + 3) ls rest)) : W p l e R s m args below meth c H locs cells slots Q (F0 m pc ls (.int (nI a) :: rest)) :=
  lv_if_gt hexec hb hdg ht (fun q => kt ((nz_lt h1).mp q)) (fun q => kf (Nat.eq_zero_of_not_pos (fun z => q ((nz_lt h1).mpr z))))
theorem nx_if_le (hexec : p.tables.exec = Jvm.exec) (hb : c.code = cc) {a : Nat} {off : Int} {tgt : Nat} (hdg : decode cc pc = .ok (.ifCond .le off, 3)) (ht : (pc : Int) + off = (tgt : Int)) (h1 : a < 2 ^ 31)
    (kt : a = 0 → W p l e R s m args below meth c H locs cells slots Q (F0 m tgt ls rest)) (kf : 0 < a → W p l e R s m args below meth c H locs cells slots Q (F0 m (pc + 3) ls rest)) : W p l e R s m args below meth c H locs cells slots Q (F0 m pc ls (.int (nI a) :: rest)) :=
  lv_if_le hexec hb hdg ht (fun q => kt ((nz_le h1).mp q)) (fun q => kf (Nat.pos_of_ne_zero (fun z => q ((nz_le h1).mpr z))))
theorem nx_if_lt (hexec : p.tables.exec = Jvm.exec) (hb : c.code = cc) {a : Nat} {off : Int} {tgt : Nat} (hdg : decode cc pc = .ok (.ifCond .lt off, 3)) (ht : (pc : Int) + off = (tgt : Int)) (h1 : a < 2 ^ 31) (kf : W p l e R s m args below meth c H locs cells slots Q (F0 m (pc + 3) ls rest)) : W p l e R s m args below meth c H locs cells slots Q (F0 m pc ls (.int (nI a) :: rest)) :=
  lv_if_lt hexec hb hdg ht (fun q => absurd q (nI_pos h1)) (fun _ => kf)
theorem nx_if_ge (hexec : p.tables.exec = Jvm.exec) (hb : c.code = cc) {a : Nat} {off : Int} {tgt : Nat} (hdg : decode cc pc = .ok (.ifCond .ge off, 3)) (ht : (pc : Int) + off = (tgt : Int)) (h1 : a < 2 ^ 31) (kt : W p l e R s m args below meth c H locs cells slots Q (F0 m tgt ls rest)) : W p l e R s m args below meth c H locs cells slots Q (F0 m pc ls (.int (nI a) :: rest)) :=
  lv_if_ge hexec hb hdg ht (fun _ => kt) (fun q => absurd (nI_pos' h1) q)
theorem nx_bz (hexec : p.tables.exec = Jvm.exec) (hb : c.code = cc) {P : Prop} [Decidable P] {off : Int} {tgt : Nat} (hdg : decode cc pc = .ok (.ifCond .eq off, 3)) (ht : (pc : Int) + off = (tgt : Int))
    (kt : ¬ P → W p l e R s m args below meth c H locs cells slots Q (F0 m tgt ls rest)) (kf : P → W p l e R s m args below meth c H locs cells slots Q (F0 m (pc + 3) ls rest)) : W p l e R s m args below meth c H locs cells slots Q (F0 m pc ls (.int (bI P) :: rest)) :=
  lv_if_eq hexec hb hdg ht (fun q => kt (bI_eq0.mp q)) (fun q => kf (bI_ne0.mp q))
theorem nx_bn (hexec : p.tables.exec = Jvm.exec) (hb : c.code = cc) {P : Prop} [Decidable P] {off : Int} {tgt : Nat} (hdg : decode cc pc = .ok (.ifCond .ne off, 3)) (ht : (pc : Int) + off = (tgt : Int))
    (kt : P → W p l e R s m args below meth c H locs cells slots Q (F0 m tgt ls rest)) (kf : ¬ P → W p l e R s m args below meth c H locs cells slots Q (F0 m (pc + 3) ls rest)) : W p l e R s m args below meth c H locs cells slots Q (F0 m pc ls (.int (bI P) :: rest)) :=
  lv_if_ne hexec hb hdg ht (fun q => kt (bI_ne0.mp q)) (fun q => kf (bI_eq0.mp q))
theorem nx_iald (hexec : p.tables.exec = Jvm.exec) (hb : c.code = cc) (hK : va_K D cl tys s) (hP : va_P D cl ws H) (q0 t0 : Nat) {cA : ClassId} {n : Nat} {f : Nat → Int32} (ha : ws[q0]? = some (a, .inl (cA, n, .inl f))) (ht : tys[t0]? = some (cA, .int)) {i : Nat} (hi : i < n) (hn : n < 2 ^ 31) (hdg : decode cc pc = .ok (.iaload, 1))
    (kk : W p l e R s m args below meth c H locs cells slots Q (F0 m (pc + 1) ls (.int (f i) :: rest))) : W p l e R s m args below meth c H locs cells slots Q (F0 m pc ls (.int (nI i) :: .ref a :: rest)) :=
  va_iald hexec hb hK hP q0 t0 ha ht (vp_in_nI hi hn) hdg (by rw [nI_clamp (Nat.lt_trans hi hn)]; exact kk)
theorem nx_zald (hexec : p.tables.exec = Jvm.exec) (hb : c.code = cc) (hK : va_K D cl tys s) (hP : va_P D cl ws H) (q0 t0 : Nat) {cA : ClassId} {n : Nat} {f : Nat → Int32} (ha : ws[q0]? = some (a, .inl (cA, n, .inl f))) (ht : tys[t0]? = some (cA, .boolean)) {i : Nat} (hi : i < n) (hn : n < 2 ^ 31) (hdg : decode cc pc = .ok (.baload, 1))
    (kk : W p l e R s m args below meth c H locs cells slots Q (F0 m (pc + 1) ls (.int (f i) :: rest))) : W p l e R s m args below meth c H locs cells slots Q (F0 m pc ls (.int (nI i) :: .ref a :: rest)) :=
  va_zald hexec hb hK hP q0 t0 ha ht (vp_in_nI hi hn) hdg (by rw [nI_clamp (Nat.lt_trans hi hn)]; exact kk)
theorem nx_lald (hexec : p.tables.exec = Jvm.exec) (hb : c.code = cc) (hK : va_K D cl tys s) (hP : va_P D cl ws H) (q0 t0 : Nat) {cA : ClassId} {n : Nat} {f : Nat → Int64} (ha : ws[q0]? = some (a, .inl (cA, n, .inr (.inl f)))) (ht : tys[t0]? = some (cA, .long)) {i : Nat} (hi : i < n) (hn : n < 2 ^ 31) (hdg : decode cc pc = .ok (.laload, 1))
    (kk : W p l e R s m args below meth c H locs cells slots Q (F0 m (pc + 1) ls (.long (f i) :: rest))) : W p l e R s m args below meth c H locs cells slots Q (F0 m pc ls (.int (nI i) :: .ref a :: rest)) :=
  va_lald hexec hb hK hP q0 t0 ha ht (vp_in_nI hi hn) hdg (by rw [nI_clamp (Nat.lt_trans hi hn)]; exact kk)
theorem nx_aald {C : String} (hexec : p.tables.exec = Jvm.exec) (hb : c.code = cc) (hK : va_K D cl tys s) (hP : va_P D cl ws H) (q0 t0 : Nat) {cA : ClassId} {n : Nat} {f : Nat → Option Nat} (ha : ws[q0]? = some (a, .inl (cA, n, .inr (.inr (.inr (.inr f)))))) (ht : tys[t0]? = some (cA, .object C)) {i : Nat} (hi : i < n) (hn : n < 2 ^ 31) {b : Nat} (hf : f i = some b) (hdg : decode cc pc = .ok (.aaload, 1))
    (kk : W p l e R s m args below meth c H locs cells slots Q (F0 m (pc + 1) ls (.ref b :: rest))) : W p l e R s m args below meth c H locs cells slots Q (F0 m pc ls (.int (nI i) :: .ref a :: rest)) :=
  va_aldq hexec hb hK hP q0 t0 ha ht (vp_in_nI hi hn) hdg (by rw [nI_clamp (Nat.lt_trans hi hn), hf]; exact kk)
theorem nx_iast (hexec : p.tables.exec = Jvm.exec) (hb : c.code = cc) (hK : va_K D cl tys s) (hP : va_P D cl ws H) (hD : va_D A ws) (hS : va_S A H0 H locs) (q0 t0 : Nat) {cA : ClassId} {n : Nat} {f : Nat → Int32} (ha : ws[q0]? = some (a, .inl (cA, n, .inl f))) (ht : tys[t0]? = some (cA, .int)) {i : Nat} {x : Int32} (hi : i < n) (hn : n < 2 ^ 31) (hdg : decode cc pc = .ok (.iastore, 1))
    (kk : ∀ (H1 : Heap) (locs1 : List Loc), va_P D cl (ws.set q0 (a, .inl (cA, n, .inl (upd f i x)))) H1 → va_S A H0 H1 locs1 → W p l e R s m args below meth c H1 locs1 cells slots Q (F0 m (pc + 1) ls rest)) : W p l e R s m args below meth c H locs cells slots Q (F0 m pc ls (.int x :: .int (nI i) :: .ref a :: rest)) :=
  va_iast hexec hb hK hP hD hS q0 t0 ha ht (vp_in_nI hi hn) hdg (fun H1 locs1 h1 _ h3 => kk H1 locs1 (by rw [nI_clamp (Nat.lt_trans hi hn)] at h1; exact h1) h3)
theorem nx_zast (hexec : p.tables.exec = Jvm.exec) (hb : c.code = cc) (hK : va_K D cl tys s) (hP : va_P D cl ws H) (hD : va_D A ws) (hS : va_S A H0 H locs) (q0 t0 : Nat) {cA : ClassId} {n : Nat} {f : Nat → Int32} (ha : ws[q0]? = some (a, .inl (cA, n, .inl f))) (ht : tys[t0]? = some (cA, .boolean)) {i : Nat} {x : Int32} (hx : vp_nar .boolean x = x) (hi : i < n) (hn : n < 2 ^ 31) (hdg : decode cc pc = .ok (.bastore, 1))
    (kk : ∀ (H1 : Heap) (locs1 : List Loc), va_P D cl (ws.set q0 (a, .inl (cA, n, .inl (upd f i x)))) H1 → va_S A H0 H1 locs1 → W p l e R s m args below meth c H1 locs1 cells slots Q (F0 m (pc + 1) ls rest)) : W p l e R s m args below meth c H locs cells slots Q (F0 m pc ls (.int x :: .int (nI i) :: .ref a :: rest)) :=
  va_zast hexec hb hK hP hD hS q0 t0 ha ht (vp_in_nI hi hn) hdg (fun H1 locs1 h1 _ h3 => kk H1 locs1 (by rw [hx] at h1; rw [nI_clamp (Nat.lt_trans hi hn)] at h1; exact h1) h3)
theorem nx_last (hexec : p.tables.exec = Jvm.exec) (hb : c.code = cc) (hK : va_K D cl tys s) (hP : va_P D cl ws H) (hD : va_D A ws) (hS : va_S A H0 H locs) (q0 t0 : Nat) {cA : ClassId} {n : Nat} {f : Nat → Int64} (ha : ws[q0]? = some (a, .inl (cA, n, .inr (.inl f)))) (ht : tys[t0]? = some (cA, .long)) {i : Nat} {x : Int64} (hi : i < n) (hn : n < 2 ^ 31) (hdg : decode cc pc = .ok (.lastore, 1))
    (kk : ∀ (H1 : Heap) (locs1 : List Loc), va_P D cl (ws.set q0 (a, .inl (cA, n, .inr (.inl (vp_updL f i x))))) H1 → va_S A H0 H1 locs1 → W p l e R s m args below meth c H1 locs1 cells slots Q (F0 m (pc + 1) ls rest)) : W p l e R s m args below meth c H locs cells slots Q (F0 m pc ls (.long x :: .int (nI i) :: .ref a :: rest)) :=
  va_last hexec hb hK hP hD hS q0 t0 ha ht (vp_in_nI hi hn) hdg (fun H1 locs1 h1 _ h3 => kk H1 locs1 (by rw [nI_clamp (Nat.lt_trans hi hn)] at h1; exact h1) h3)
theorem nx_Q {g : JFrame} (k : ∀ Q' : State → Prop, Q' = Q → W p l e R s m args below meth c H locs cells slots Q' g) : W p l e R s m args below meth c H locs cells slots Q g := k Q rfl
end NX
end
section
/-! the reference's world: one object, thirteen arrays; rows of symbols as lists -/
abbrev gT (aC : Nat → ClassId) : List (ClassId × FieldType) := [(aC 0, .int), (aC 1, .long), (aC 2, .boolean), (aC 3, .object "LeafTrees$Row"), (aC 4, .object "LeafTrees$Rule"), (aC 5, .object "LeafTrees$Tally"), (aC 6, .array .long)]
def gD (l : List Int32) (i : Nat) : Int32 := l.getD i 0
def wsM (aC : Nat → ClassId) (am : Nat → Nat) (v S Z : Nat → Int32) (F : Nat → Nat → Int32) (G : Nat → Nat → Int64) : va_W :=
  [(am 0, .inr (10, [.int (v 0), .ref (am 1), .ref (am 2), .ref (am 3), .int (v 4), .ref (am 4), .int (v 6), .ref (am 5), .ref (am 6), .ref (am 7), .ref (am 8), .int (v 11), .int (v 12), .int (v 13), .int (v 14), .int (v 15), .ref (am 9), .int (v 17), .ref (am 10), .ref (am 11), .ref (am 12), .ref (am 13)])),
   (am 1, .inl (aC 0, 4, .inl (F 1))), (am 2, .inl (aC 0, 1800, .inl S)), (am 3, .inl (aC 0, 30, .inl Z)), (am 4, .inl (aC 2, 8, .inl (F 4))), (am 5, .inl (aC 1, 7, .inr (.inl (G 5)))), (am 6, .inl (aC 0, 61, .inl (F 6))), (am 7, .inl (aC 0, 13, .inl (F 7))), (am 8, .inl (aC 0, 13, .inl (F 8))), (am 9, .inl (aC 0, 60, .inl (F 9))), (am 10, .inl (aC 1, 49, .inr (.inl (G 10)))), (am 11, .inl (aC 1, 7, .inr (.inl (G 11)))), (am 12, .inl (aC 2, 32, .inl (F 12))), (am 13, .inl (aC 1, 28, .inr (.inl (G 13))))]
/-- the rows of symbols, 60 places each, and how many each has -/
def mOK (S Z : Nat → Int32) (R : Nat → List Int32) : Prop := ∀ k, k < 30 → (R k).length ≤ 60 ∧ Z k = nI (R k).length ∧ ∀ i, i < (R k).length → S (60 * k + i) = gD (R k) i
abbrev MS : Type := (Nat → Int32) × (Nat → List Int32) × (Nat → Nat → Int32) × (Nat → Nat → Int64)
def MB (dC : Nat → ClassId) (dI : Nat → Nat → Nat) (aC : Nat → ClassId) (am : Nat → Nat) (u : MS) (U : State) : Prop := va_K (dC, dI) vwCl (gT aC) U ∧ ∃ S Z, mOK S Z u.2.1 ∧ va_P (dC, dI) vwCl (wsM aC am u.1 S Z u.2.2.1 u.2.2.2) U.heap
def mA (am : Nat → Nat) : Nat → Prop := fun q => ∃ n, n < 14 ∧ q = am n
def mI (am : Nat → Nat) : Prop := ∀ i j, i < 14 → j < 14 → am i = am j → i = j
theorem ws_fst {ws : va_W} {ad : Nat → Nat} {N : Nat} (h : ws.map Prod.fst = (List.range N).map ad) {k : Nat} {q : Nat × va_E} (hk : ws[k]? = some q) : k < N ∧ q.1 = ad k := by
  have h1 := congrArg (fun l => l[k]?) h
  simp only [List.getElem?_map, hk, Option.map_some] at h1
  by_cases hl : k < N
  · rw [List.getElem?_range hl] at h1
    exact ⟨hl, Option.some.inj h1⟩
  · rw [List.getElem?_eq_none (by rw [List.length_range]; omega)] at h1
    cases h1
theorem ws_D {ws : va_W} {ad : Nat → Nat} {N : Nat} {A : Nat → Prop} (h : ws.map Prod.fst = (List.range N).map ad) (hI : ∀ i j, i < N → j < N → ad i = ad j → i = j) (hA : ∀ n, n < N → A (ad n)) : va_D A ws := by
  refine ⟨fun i j x y hi hj hxy => ?_, fun k q hk => ?_⟩
  · obtain ⟨h1, h2⟩ := ws_fst h hi
    obtain ⟨h3, h4⟩ := ws_fst h hj
    exact hI i j h1 h3 (h2.symm.trans (hxy.trans h4))
  · obtain ⟨h1, h2⟩ := ws_fst h hk
    rw [h2]
    exact hA k h1
theorem wsM_D {aC : Nat → ClassId} {am : Nat → Nat} {v S Z : Nat → Int32} {F : Nat → Nat → Int32} {G : Nat → Nat → Int64} (hI : mI am) : va_D (mA am) (wsM aC am v S Z F G) := ws_D (N := 14) rfl hI (fun n h => ⟨n, h, rfl⟩)
theorem MB_blind {dC : Nat → ClassId} {dI : Nat → Nat → Nat} {aC : Nat → ClassId} {am : Nat → Nat} {av : List Value} {u : MS} : FrameBlind (va_Pc av (MB dC dI aC am u)) := fun a U g mk q => ⟨q.1, va_K.moved (u := U) (U := U.calling g mk a) (Vm.Alike.refl U.vm) q.2.1, q.2.2⟩
section MC
variable {p : Program} {l : Launch} {e : Env} {R : Room} {s : State} {m : MethodId} {args : Array Value} {below : List Frame} {meth : Method} {c : Code} {H : Heap} {locs : List Loc} {cells slots : Nat} {Q : State → Prop}
variable {cc : ByteArray} {pc : Nat} {ls : Array Slot} {rest st As : List Value} {H0 : Heap} {Ts ws : List Cond} {own : String} {index n nL maxL : Nat} {y : MethodName} {bytes : ByteArray} {ret : Option FieldType} {rm : Room}
variable {dC : Nat → ClassId} {dI : Nat → Nat → Nat} {aC : Nat → ClassId} {am : Nat → Nat} {v S Z : Nat → Int32} {RR : Nat → List Int32} {F : Nat → Nat → Int32} {G : Nat → Nat → Int64}
theorem mPre (hK : va_K (dC, dI) vwCl (gT aC) s) (hZ : mOK S Z RR) (hP : va_P (dC, dI) vwCl (wsM aC am v S Z F G) H) : PreV s H RX10 (am 0) (va_Pc (.ref (am 0) :: As) (MB dC dI aC am (v, RR, F, G))) As :=
  ⟨MB_blind, va_recv (q0 := 0) (ci := 10) hK hP rfl rfl, fun U hU hW => ⟨rfl, va_K.moved hW.alike hK, S, Z, hZ, by rw [hU]; exact hP⟩⟩
/-- a call of the reference's own method that only reads: an int -/
theorem mp_i {post : Int32 → Prop} (Sx : CallFix p m c cc nL s args Ts own) (hM : Met l y ws rm (va_Pc (.ref (am 0) :: As) (MB dC dI aC am (v, RR, F, G))) (vp_Si post) 0 0 (fun _ => False)) (cw : CallW R s args own RX10 index y bytes maxL ret ws rm 0 0 n) (hK : va_K (dC, dI) vwCl (gT aC) s) (hZ : mOK S Z RR) (hP : va_P (dC, dI) vwCl (wsM aC am v S Z F G) H)
    (hn : As.length = n) (hsize : ls.size = nL) (hst : st = As.reverse ++ .ref (am 0) :: rest) (hroom : (rest.map fun v => v.category).sum ≤ 8) (hdg : decode cc pc = .ok (.invokevirtual index, 3)) (hf : cells ≤ R.cells ∧ slots ≤ R.slots)
    (kk : ∀ r : Int32, post r → W p l e R s m args below meth c H locs cells slots Q (F0 m (pc + 3) ls (.int r :: rest))) : W p l e R s m args below meth c H locs cells slots Q (F0 m pc ls st) :=
  vp_callSi (W.runV Sx hM cw (mPre hK hZ hP) rfl hn hsize hst (lv_room hroom) hdg hf) kk
/-- a call of the reference's own method that only reads: a long -/
theorem mp_l {post : Int64 → Prop} (Sx : CallFix p m c cc nL s args Ts own) (hM : Met l y ws rm (va_Pc (.ref (am 0) :: As) (MB dC dI aC am (v, RR, F, G))) (vp_Sl post) 0 0 (fun _ => False)) (cw : CallW R s args own RX10 index y bytes maxL ret ws rm 0 0 n) (hK : va_K (dC, dI) vwCl (gT aC) s) (hZ : mOK S Z RR) (hP : va_P (dC, dI) vwCl (wsM aC am v S Z F G) H)
    (hn : As.length = n) (hsize : ls.size = nL) (hst : st = As.reverse ++ .ref (am 0) :: rest) (hroom : (rest.map fun v => v.category).sum ≤ 8) (hdg : decode cc pc = .ok (.invokevirtual index, 3)) (hf : cells ≤ R.cells ∧ slots ≤ R.slots)
    (kk : ∀ r : Int64, post r → W p l e R s m args below meth c H locs cells slots Q (F0 m (pc + 3) ls (.long r :: rest))) : W p l e R s m args below meth c H locs cells slots Q (F0 m pc ls st) :=
  vp_callSl (W.runV Sx hM cw (mPre hK hZ hP) rfl hn hsize hst (lv_room hroom) hdg hf) kk
/-- a call of one of its own static methods: an int -/
theorem ms_i {post : Int32 → Prop} (Sx : CallFix p m c cc nL s args Ts own) (hM : Met l y ws rm (va_Pc As (fun _ => True)) (vp_Si post) 0 0 (fun _ => False)) (cw : CallB R s args own index y bytes maxL ret ws rm 0 0 n ∧ (Cond.static y).before args s = true)
    (hn : As.length = n) (hsize : ls.size = nL) (hst : st = As.reverse ++ rest) (hroom : (rest.map fun v => v.category).sum ≤ 8) (hdg : decode cc pc = .ok (.invokestatic index, 3)) (hf : cells ≤ R.cells ∧ slots ≤ R.slots)
    (kk : ∀ r : Int32, post r → W p l e R s m args below meth c H locs cells slots Q (F0 m (pc + 3) ls (.int r :: rest))) : W p l e R s m args below meth c H locs cells slots Q (F0 m pc ls st) :=
  vp_callSi (W.runS Sx hM cw ⟨fun _ _ _ _ q => q, fun _ _ _ => ⟨rfl, trivial⟩⟩ rfl hn hsize hst (lv_room hroom) hdg hf) kk
/-- a call of its own method that writes: an int -/
theorem mc_i {post : Int32 → MS → Prop} (Sx : CallFix p m c cc nL s args Ts own) (hM : Met l y ws rm (va_Pc (.ref (am 0) :: As) (MB dC dI aC am (v, RR, F, G))) (va_Qi post (MB dC dI aC am) (mA am)) 0 0 (mA am)) (cw : CallW R s args own RX10 index y bytes maxL ret ws rm 0 0 n) (hK : va_K (dC, dI) vwCl (gT aC) s) (hZ : mOK S Z RR) (hP : va_P (dC, dI) vwCl (wsM aC am v S Z F G) H) (hS : va_S (mA am) H0 H locs)
    (hn : As.length = n) (hsize : ls.size = nL) (hst : st = As.reverse ++ .ref (am 0) :: rest) (hroom : (rest.map fun v => v.category).sum ≤ 8) (hdg : decode cc pc = .ok (.invokevirtual index, 3)) (hf : cells ≤ R.cells ∧ slots ≤ R.slots)
    (kk : ∀ (r : Int32) (v1 : Nat → Int32) (R1 : Nat → List Int32) (F1 : Nat → Nat → Int32) (G1 : Nat → Nat → Int64) (S1 Z1 : Nat → Int32) (H1 : Heap) (locs1 : List Loc), post r (v1, R1, F1, G1) → mOK S1 Z1 R1 → va_P (dC, dI) vwCl (wsM aC am v1 S1 Z1 F1 G1) H1 → va_S (mA am) H0 H1 locs1 → W p l e R s m args below meth c H1 locs1 cells slots Q (F0 m (pc + 3) ls (.int r :: rest))) : W p l e R s m args below meth c H locs cells slots Q (F0 m pc ls st) :=
  va_calli (va_runV Sx hM cw (mPre hK hZ hP) rfl hn hsize hst (lv_room hroom) hdg hf) hS (fun _ _ h => h) (fun _ h => h) (fun r u t H1 locs1 ht hvm hw hB _ _ hS => by
    obtain ⟨v1, R1, F1, G1⟩ := u
    obtain ⟨-, S1, Z1, h1, h2⟩ := hB
    rw [ht] at h2
    exact kk r v1 R1 F1 G1 S1 Z1 H1 locs1 hw h1 h2 hS)
theorem mc_v {post : MS → Prop} (Sx : CallFix p m c cc nL s args Ts own) (hM : Met l y ws rm (va_Pc (.ref (am 0) :: As) (MB dC dI aC am (v, RR, F, G))) (va_Qv post (MB dC dI aC am) (mA am)) 0 0 (mA am)) (cw : CallW R s args own RX10 index y bytes maxL ret ws rm 0 0 n) (hK : va_K (dC, dI) vwCl (gT aC) s) (hZ : mOK S Z RR) (hP : va_P (dC, dI) vwCl (wsM aC am v S Z F G) H) (hS : va_S (mA am) H0 H locs)
    (hn : As.length = n) (hsize : ls.size = nL) (hst : st = As.reverse ++ .ref (am 0) :: rest) (hroom : (rest.map fun v => v.category).sum ≤ 8) (hdg : decode cc pc = .ok (.invokevirtual index, 3)) (hf : cells ≤ R.cells ∧ slots ≤ R.slots)
    (kk : ∀ (v1 : Nat → Int32) (R1 : Nat → List Int32) (F1 : Nat → Nat → Int32) (G1 : Nat → Nat → Int64) (S1 Z1 : Nat → Int32) (H1 : Heap) (locs1 : List Loc), post (v1, R1, F1, G1) → mOK S1 Z1 R1 → va_P (dC, dI) vwCl (wsM aC am v1 S1 Z1 F1 G1) H1 → va_S (mA am) H0 H1 locs1 → W p l e R s m args below meth c H1 locs1 cells slots Q (F0 m (pc + 3) ls rest)) : W p l e R s m args below meth c H locs cells slots Q (F0 m pc ls st) :=
  va_callv (va_runV Sx hM cw (mPre hK hZ hP) rfl hn hsize hst (lv_room hroom) hdg hf) hS (fun _ _ h => h) (fun _ h => h) (fun u t H1 locs1 ht hvm hw hB _ _ hS => by
    obtain ⟨v1, R1, F1, G1⟩ := u
    obtain ⟨-, S1, Z1, h1, h2⟩ := hB
    rw [ht] at h2
    exact kk v1 R1 F1 G1 S1 Z1 H1 locs1 hw h1 h2 hS)
theorem mc_l {post : Int64 → MS → Prop} (Sx : CallFix p m c cc nL s args Ts own) (hM : Met l y ws rm (va_Pc (.ref (am 0) :: As) (MB dC dI aC am (v, RR, F, G))) (va_Ql post (MB dC dI aC am) (mA am)) 0 0 (mA am)) (cw : CallW R s args own RX10 index y bytes maxL ret ws rm 0 0 n) (hK : va_K (dC, dI) vwCl (gT aC) s) (hZ : mOK S Z RR) (hP : va_P (dC, dI) vwCl (wsM aC am v S Z F G) H) (hS : va_S (mA am) H0 H locs)
    (hn : As.length = n) (hsize : ls.size = nL) (hst : st = As.reverse ++ .ref (am 0) :: rest) (hroom : (rest.map fun v => v.category).sum ≤ 8) (hdg : decode cc pc = .ok (.invokevirtual index, 3)) (hf : cells ≤ R.cells ∧ slots ≤ R.slots)
    (kk : ∀ (r : Int64) (v1 : Nat → Int32) (R1 : Nat → List Int32) (F1 : Nat → Nat → Int32) (G1 : Nat → Nat → Int64) (S1 Z1 : Nat → Int32) (H1 : Heap) (locs1 : List Loc), post r (v1, R1, F1, G1) → mOK S1 Z1 R1 → va_P (dC, dI) vwCl (wsM aC am v1 S1 Z1 F1 G1) H1 → va_S (mA am) H0 H1 locs1 → W p l e R s m args below meth c H1 locs1 cells slots Q (F0 m (pc + 3) ls (.long r :: rest))) : W p l e R s m args below meth c H locs cells slots Q (F0 m pc ls st) :=
  va_calll (va_runV Sx hM cw (mPre hK hZ hP) rfl hn hsize hst (lv_room hroom) hdg hf) hS (fun _ _ h => h) (fun _ h => h) (fun r u t H1 locs1 ht hvm hw hB _ _ hS => by
    obtain ⟨v1, R1, F1, G1⟩ := u
    obtain ⟨-, S1, Z1, h1, h2⟩ := hB
    rw [ht] at h2
    exact kk r v1 R1 F1 G1 S1 Z1 H1 locs1 hw h1 h2 hS)
end MC
end
section
/-! what the walks compute, on rows of symbols -/
abbrev rIn (r : Int32) (n : Nat) : Prop := 0 ≤ r.toInt ∧ r.toInt < (n : Int)
theorem rIn_of {r : Int32} {n : Nat} (h : rIn r n) (hn : n < 2 ^ 31) : ∃ j : Nat, j < n ∧ r = nI j := vp_in_of (vp_in_iff.mpr h) hn
theorem rIn_nI {j n : Nat} (h : j < n) (hn : n < 2 ^ 31) : rIn (nI j) n := vp_in_iff.mp (vp_in_nI h hn)
theorem i_lt (a b : Int32) : a < b ↔ a.toInt < b.toInt := Int32.lt_iff_toInt_lt
theorem i_le (a b : Int32) : a ≤ b ↔ a.toInt ≤ b.toInt := Int32.le_iff_toInt_le
theorem rIn_in {r : Int32} {n : Nat} (hn : n + 1 < 2 ^ 31) : (¬ r < nI 0 ∧ ¬ nI n < r) ↔ rIn r (n + 1) := by
  rw [i_lt, i_lt, nI_toInt (by decide), nI_toInt (by omega)]
  omega
/-- how many leaves among the first i -/
def cF (g : Nat → Int32) : Nat → Nat
  | 0 => 0
  | i + 1 => cF g i + (if g i = -1 then 1 else 0)
theorem cF_t {g : Nat → Int32} {i : Nat} (h : g i = -1) : cF g (i + 1) = cF g i + 1 := by rw [cF, if_pos h]
theorem cF_f {g : Nat → Int32} {i : Nat} (h : ¬ g i = -1) : cF g (i + 1) = cF g i := by rw [cF, if_neg h]; rfl
theorem cF_le (g : Nat → Int32) : ∀ i, cF g i ≤ i
  | 0 => Nat.le_refl 0
  | i + 1 => by
    have := cF_le g i
    rw [cF]
    split <;> omega
def lvs (l : List Int32) : Nat := cF (gD l) l.length
theorem lvs_le (l : List Int32) : lvs l ≤ l.length := cF_le _ _
/-- what a symbol wants: a leaf nothing, an act its entries -/
def wt (E : Nat → Int32) (s : Int32) : Nat := if s = -1 then 0 else (E s.toNatClampNeg).toNatClampNeg
abbrev vS (A : Nat) (s : Int32) : Prop := s = -1 ∨ ∃ a, a < A ∧ s = nI a
def vE (A : Nat) (E : Nat → Int32) : Prop := A ≤ 4 ∧ ∀ a, a < A → E a = nI 2 ∨ E a = nI 3
def vR (A : Nat) (l : List Int32) : Prop := ∀ i, i < l.length → vS A (gD l i)
theorem vS_pos {A : Nat} {s : Int32} (h : vS A s) (hn : ¬ s = -1) : ∃ a, a < A ∧ s = nI a := h.resolve_left hn
theorem nI_neM1 {a : Nat} (h : a < 2 ^ 31) : ¬ nI a = -1 := by
  intro q
  have h1 := congrArg Int32.toInt q
  rw [nI_toInt h] at h1
  have h2 : (-1 : Int32).toInt = -1 := by decide
  omega
theorem wt_m1 (E : Nat → Int32) : wt E (-1) = 0 := if_pos rfl
theorem wt_nI {A a : Nat} {E : Nat → Int32} (hE : vE A E) (ha : a < A) : nI (wt E (nI a)) = E a ∧ (wt E (nI a) = 2 ∨ wt E (nI a) = 3) := by
  have h4 := hE.1
  rw [wt, if_neg (nI_neM1 (by omega)), nI_clamp (by omega)]
  rcases hE.2 a ha with h | h <;> rw [h]
  · exact ⟨by decide, Or.inl (by decide)⟩
  · exact ⟨by decide, Or.inr (by decide)⟩
theorem wt_le {A : Nat} {E : Nat → Int32} {s : Int32} (hE : vE A E) (hs : vS A s) : wt E s ≤ 3 := by
  rcases hs with h | ⟨a, ha, h⟩
  · rw [h, wt_m1]; omega
  · rw [h]
    rcases (wt_nI hE ha).2 with h | h <;> omega
/-- where the trees end: fuel, how many are wanted, from where -/
def tE (w : Int32 → Nat) (g : Nat → Int32) : Nat → Nat → Nat → Option Nat
  | _, 0, i => some i
  | 0, _ + 1, _ => none
  | f + 1, k + 1, i => tE w g f (k + w (g i)) (i + 1)
theorem tE_0 (w : Int32 → Nat) (g : Nat → Int32) (f i : Nat) : tE w g f 0 i = some i := by cases f <;> rfl
theorem tE_n (w : Int32 → Nat) (g : Nat → Int32) {k i : Nat} (hk : 0 < k) : tE w g 0 k i = none := by
  cases k with
  | zero => omega
  | succ k => rfl
theorem tE_step (w : Int32 → Nat) (g : Nat → Int32) {n k j : Nat} (hk : 0 < k) (hj : j < n) : tE w g (n - j) k j = tE w g (n - (j + 1)) (k + w (g j) - 1) (j + 1) := by
  obtain ⟨k, rfl⟩ : ∃ q, k = q + 1 := ⟨k - 1, by omega⟩
  obtain ⟨f, hf⟩ : ∃ q, n - j = q + 1 := ⟨n - j - 1, by omega⟩
  rw [hf, tE, show n - (j + 1) = f by omega, show k + 1 + w (g j) - 1 = k + w (g j) by omega]
theorem tE_le (w : Int32 → Nat) (g : Nat → Int32) : ∀ (f k i e : Nat), tE w g f k i = some e → i ≤ e ∧ e ≤ i + f
  | f, 0, i, e, h => by rw [tE_0] at h; cases h; omega
  | 0, _ + 1, _, _, h => by cases h
  | f + 1, k + 1, i, e, h => by
    have := tE_le w g f (k + w (g i)) (i + 1) e h
    omega
def endL (E : Nat → Int32) (l : List Int32) (i : Nat) : Option Nat := tE (wt E) (gD l) (l.length - i) 1 i
theorem endL_le {E : Nat → Int32} {l : List Int32} {i e : Nat} (hi : i ≤ l.length) (h : endL E l i = some e) : i ≤ e ∧ e ≤ l.length := by
  have := tE_le _ _ _ _ _ _ h
  omega
def eR : Option Nat → Int32
  | some e => nI e
  | none => -1
theorem eR_eq {o : Option Nat} {n : Nat} (hn : n < 2 ^ 31) (ho : ∀ e, o = some e → e < 2 ^ 31) : eR o = nI n ↔ o = some n := by
  cases o with
  | none => exact ⟨fun h => absurd h.symm (nI_neM1 hn), fun h => by cases h⟩
  | some e =>
    rw [eR, nI_eq (ho e rfl) hn]
    exact ⟨fun h => by rw [h], fun h => by cases h; rfl⟩
abbrev isT (E : Nat → Int32) (l : List Int32) : Prop := endL E l 0 = some l.length
theorem isT_pos {E : Nat → Int32} {l : List Int32} (h : isT E l) : 0 < l.length := by
  rcases Nat.eq_zero_or_pos l.length with q | q
  · rw [isT, endL, q, tE_n _ _ (by omega)] at h
    cases h
  · exact q
theorem nI_adj {k w : Nat} (hk : 0 < k) : nI k + (nI w - nI 1) = nI (k + w - 1) := by
  obtain ⟨k, rfl⟩ : ∃ q, k = q + 1 := ⟨k - 1, by omega⟩
  rw [show k + 1 + w - 1 = k + w by omega, nI_succ, show nI 1 = 1 from rfl, Int32.add_assoc, Int32.add_comm 1, Int32.sub_add_cancel, nI_add]
end
section
/-! rows of the reference: how they change -/
theorem upn {α : Type} {f : Nat → α} {k j : Nat} {v : α} (h : j ≠ k) : va_up f k v j = f j := if_neg h
theorem gD_lt {l : List Int32} {i : Nat} (h : i < l.length) : gD l i = l[i] := by
  rw [gD, List.getD_eq_getElem?_getD, List.getElem?_eq_getElem h]; rfl
theorem gD_app_l {a b : List Int32} {i : Nat} (h : i < a.length) : gD (a ++ b) i = gD a i := by
  rw [gD, gD, List.getD_eq_getElem?_getD, List.getD_eq_getElem?_getD, List.getElem?_append_left h]
theorem gD_app_r {a b : List Int32} {i : Nat} : gD (a ++ b) (a.length + i) = gD b i := by
  rw [gD, gD, List.getD_eq_getElem?_getD, List.getD_eq_getElem?_getD, List.getElem?_append_right (by omega), Nat.add_sub_cancel_left]
theorem gD_snoc {a : List Int32} {z : Int32} : gD (a ++ [z]) a.length = z := by
  have := gD_app_r (a := a) (b := [z]) (i := 0)
  exact this
theorem mOK_snoc {S Z : Nat → Int32} {R : Nat → List Int32} (h : mOK S Z R) {r : Nat} (hr : r < 30) (hl : (R r).length < 60) (z : Int32) : mOK (upd S (60 * r + (R r).length) z) (upd Z r (nI ((R r).length + 1))) (va_up R r (R r ++ [z])) := by
  intro k hk
  by_cases hkr : k = r
  · subst hkr
    rw [va_up_self, List.length_append, List.length_singleton, pk_us]
    refine ⟨by omega, rfl, fun i hi => ?_⟩
    by_cases hi2 : i = (R k).length
    · rw [hi2, pk_us, gD_snoc]
    · rw [pk_un (by omega), gD_app_l (by omega)]
      exact (h k hk).2.2 i (by omega)
  · rw [upn hkr, pk_un hkr]
    refine ⟨(h k hk).1, (h k hk).2.1, fun i hi => ?_⟩
    have := (h k hk).1
    rw [pk_un (by omega)]
    exact (h k hk).2.2 i hi
theorem mOK_clear {S Z : Nat → Int32} {R : Nat → List Int32} (h : mOK S Z R) (r : Nat) : mOK S (upd Z r (nI 0)) (va_up R r []) := by
  intro k hk
  by_cases hkr : k = r
  · subst hkr
    rw [va_up_self, pk_us]
    exact ⟨by decide, rfl, fun i hi => absurd hi (Nat.not_lt_zero i)⟩
  · rw [upn hkr, pk_un hkr]
    exact h k hk
/-- all rows but one -/
def mOKe (e : Nat) (S Z : Nat → Int32) (R : Nat → List Int32) : Prop := ∀ k, k < 30 → k ≠ e → (R k).length ≤ 60 ∧ Z k = nI (R k).length ∧ ∀ i, i < (R k).length → S (60 * k + i) = gD (R k) i
theorem mOKe_st {e : Nat} {S Z : Nat → Int32} {R : Nat → List Int32} (h : mOKe e S Z R) {i : Nat} (hi : i < 60) (z : Int32) : mOKe e (upd S (60 * e + i) z) Z R := by
  intro k hk hke
  have h1 := h k hk hke
  refine ⟨h1.1, h1.2.1, fun j hj => ?_⟩
  have := h1.1
  rw [pk_un (by omega)]
  exact h1.2.2 j hj
theorem mOK_put {e : Nat} {S Z : Nat → Int32} {R : Nat → List Int32} (h : mOKe e S Z R) {l : List Int32} (hl : l.length ≤ 60) (hS : ∀ j, j < l.length → S (60 * e + j) = gD l j) : mOK S (upd Z e (nI l.length)) (va_up R e l) := by
  intro k hk
  by_cases hke : k = e
  · subst hke
    rw [va_up_self, pk_us]
    exact ⟨hl, rfl, hS⟩
  · rw [upn hke, pk_un hke]
    exact h k hk hke
/-- a piece of a row -/
def slc (l : List Int32) (b e : Nat) : List Int32 := (l.take e).drop b
theorem slc_nil (l : List Int32) (b : Nat) : slc l b b = [] := by
  rw [slc, List.drop_eq_nil_iff, List.length_take]; omega
theorem slc_len {l : List Int32} {b e : Nat} (he : e ≤ l.length) : (slc l b e).length = e - b := by
  rw [slc, List.length_drop, List.length_take]; omega
theorem slc_snoc {l : List Int32} {b i : Nat} (hb : b ≤ i) (hi : i < l.length) : slc l b i ++ [gD l i] = slc l b (i + 1) := by
  rw [slc, slc, gD_lt hi, List.take_succ_eq_append_getElem hi, List.drop_append_of_le_length (by rw [List.length_take]; omega)]
theorem slc_all (l : List Int32) : slc l 0 l.length = l := by rw [slc, List.take_length, List.drop_zero]
theorem up_eta {α : Type} (f : Nat → α) (k : Nat) : va_up f k (f k) = f := by
  funext j
  by_cases h : j = k
  · rw [h, va_up_self]
  · rw [upn h]
theorem up_up {α : Type} (f : Nat → α) (k : Nat) (a b : α) : va_up (va_up f k a) k b = va_up f k b := bx_uu f k a b
/-- alike up to i -/
def eqF (g h : Nat → Int32) : Nat → Bool
  | 0 => true
  | i + 1 => eqF g h i && decide (g i = h i)
theorem eqF_iff (g h : Nat → Int32) : ∀ n, eqF g h n = true ↔ ∀ i, i < n → g i = h i
  | 0 => ⟨fun _ i hi => absurd hi (Nat.not_lt_zero i), fun _ => rfl⟩
  | n + 1 => by
    rw [eqF, Bool.and_eq_true, eqF_iff g h n, decide_eq_true_eq]
    refine ⟨fun q i hi => ?_, fun q => ⟨fun i hi => q i (by omega), q n (by omega)⟩⟩
    rcases Nat.lt_or_ge i n with z | z
    · exact q.1 i z
    · rw [show i = n by omega]; exact q.2
theorem list_eq_gD {a b : List Int32} : a = b ↔ a.length = b.length ∧ ∀ i, i < a.length → gD a i = gD b i := by
  refine ⟨fun h => by subst h; exact ⟨rfl, fun _ _ => rfl⟩, fun h => List.ext_getElem h.1 (fun i h1 h2 => ?_)⟩
  have := h.2 i h1
  rwa [gD_lt h1, gD_lt h2] at this
theorem st_ext {S g : Nat → Int32} {e i : Nat} (h : ∀ j, j < i → S (60 * e + j) = g j) : ∀ j, j < i + 1 → upd S (60 * e + i) (g i) (60 * e + j) = g j := by
  intro j hj
  by_cases hji : j = i
  · rw [hji, pk_us]
  · rw [pk_un (by omega)]
    exact h j (by omega)
theorem same_iff {a b : List Int32} {i : Nat} (hi : a.length ≤ i) : (a.length = b.length ∧ eqF (gD a) (gD b) i = true) ↔ a = b := by
  rw [eqF_iff, list_eq_gD]
  refine and_congr_right (fun hl => ⟨fun h j hj => h j (by omega), fun h j _ => ?_⟩)
  rcases Nat.lt_or_ge j a.length with q | q
  · exact h j q
  · rw [gD, gD, List.getD_eq_getElem?_getD, List.getD_eq_getElem?_getD, List.getElem?_eq_none (by omega), List.getElem?_eq_none (by omega)]
theorem same_of {a b : List Int32} (i : Nat) (h : a = b) : a.length = b.length ∧ eqF (gD a) (gD b) i = true := by
  subst h
  exact ⟨rfl, (eqF_iff _ _ _).mpr (fun _ _ => rfl)⟩
abbrev vSd (A : Nat) (z : Int32) : Prop := -1 ≤ z.toInt ∧ z.toInt < (A : Int)
theorem vSd_vS {A : Nat} {z : Int32} (hA : A < 2 ^ 31) (h : vSd A z) : vS A z := by
  by_cases h0 : z.toInt = -1
  · left
    apply Int32.toInt_inj.mp
    rw [h0]; decide
  · right
    exact rIn_of (n := A) ⟨by omega, h.2⟩ hA
theorem vS_vSd {A : Nat} {z : Int32} (hA : A < 2 ^ 31) (h : vS A z) : vSd A z := by
  rcases h with h | ⟨a, ha, h⟩
  · rw [h]
    refine ⟨by decide, ?_⟩
    rw [show (-1 : Int32).toInt = -1 by decide]
    omega
  · have := rIn_nI ha hA
    rw [h]
    omega
theorem nI_m1 {A : Nat} (hA : A < 2 ^ 31) : (nI A - nI 1).toInt = (A : Int) - 1 := by
  cases A with
  | zero => decide
  | succ A => rw [show nI 1 = 1 from rfl, nI_pred, nI_toInt (by omega)]; omega
theorem in_sym {A : Nat} {z : Int32} (hA : A < 2 ^ 31) : (¬ z < (-1) ∧ ¬ (nI A - nI 1) < z) ↔ vSd A z := by
  rw [i_lt, i_lt, nI_m1 hA, show (-1 : Int32).toInt = -1 by decide]
  omega
theorem in_ix {A : Nat} {z : Int32} (hA : A < 2 ^ 31) : (¬ z < nI 0 ∧ ¬ (nI A - nI 1) < z) ↔ rIn z A := by
  rw [i_lt, i_lt, nI_m1 hA, nI_toInt (by decide)]
  omega
end
section
set_option maxHeartbeats 4000000 in
set_option maxRecDepth 100000 in
/-- in -/
theorem k_in (l : Launch) (a lo hi : Int32) : Met l yX10_in wsX10_in ({ frames := 0, cells := 0, slots := 0, locals := 0 } : Room) (va_Pc [.int a, .int lo, .int hi] (fun _ => True)) (vp_Si (fun x => x = bI (¬ a < lo ∧ ¬ hi < a))) 0 0 (fun _ => False) := by
  refine Met.ofW (cc := cX10_in) (maxL := 3) (ret := (some .boolean)) (by decide) rfl ?_
  intro p e s m args below meth c s₁ B hml hv
  obtain ⟨rfl, -⟩ := hv
  have hx := B.exec
  have hb := B.bytes
  have hret := B.returns
  have hts := atoms_spec (ws := wsX10_in) B.pre
  have hown : s.vm.findClass RX10 = some m.cls := findClass_of_methodNamed B.named
  have hlocks := B.notSynchronized
  have hl := lv_entry [.int a, .int lo, .int hi] (n := 3) (Nat.le_of_ble_eq_true rfl)
  rw [lg_entry_eq]
  generalize (lg_sl [.int a, .int lo, .int hi] ++ List.replicate (3 - (lg_sl [.int a, .int lo, .int hi]).length) Slot.unset).toArray = ls at hl ⊢
  have hl : lv_has ls 3 [(0, .int a), (1, .int lo), (2, .int hi)] := hl
  refine nx_Q (R := ({ frames := 0, cells := 0, slots := 0, locals := 0 } : Room)) (fun Q hQ => ?_)
  refine lv_iload_n hx hb dX10_in_0 rfl (lv_at hl 0 rfl) ?_
  refine lv_iload_n hx hb dX10_in_1 rfl (lv_at hl 1 rfl) ?_
  refine lv_icmp_lt (tgt := 14) hx hb dX10_in_2 (by decide) (fun c_2 => ?_) (fun c_2 => ?_)
  · skip
    refine lv_iconst (v := nI 0) hx hb dX10_in_14 (by decide) ?_
    subst hQ
    exact W.zret (v := nI 0) hx hb hret (rfl) (fun t ht hW => ⟨_, rfl, (bI_f (fun h => h.1 c_2)).symm, ht⟩) (fun q h => by cases h) dX10_in_15
  · skip
    refine lv_iload_n hx hb dX10_in_5 rfl (lv_at hl 0 rfl) ?_
    refine lv_iload_n hx hb dX10_in_6 rfl (lv_at hl 2 rfl) ?_
    refine lv_icmp_gt (tgt := 14) hx hb dX10_in_7 (by decide) (fun c_7 => ?_) (fun c_7 => ?_)
    · skip
      refine lv_iconst (v := nI 0) hx hb dX10_in_14 (by decide) ?_
      subst hQ
      exact W.zret (v := nI 0) hx hb hret (rfl) (fun t ht hW => ⟨_, rfl, (bI_f (fun h => h.2 c_7)).symm, ht⟩) (fun q h => by cases h) dX10_in_15
    · skip
      refine lv_iconst (v := nI 1) hx hb dX10_in_10 (by decide) ?_
      refine lv_goto (tgt := 15) hx hb dX10_in_11 (by decide) ?_
      subst hQ
      exact W.zret (v := nI 1) hx hb hret (rfl) (fun t ht hW => ⟨_, rfl, (bI_t ⟨c_2, c_7⟩).symm, ht⟩) (fun q h => by cases h) dX10_in_15

set_option maxHeartbeats 4000000 in
set_option maxRecDepth 100000 in
/-- isRow -/
theorem k_isRow (l : Launch) (a : Int32) : Met l yX10_isRow wsX10_isRow ({ frames := 1, cells := 0, slots := 0, locals := 22 } : Room) (va_Pc [.int a] (fun _ => True)) (vp_Si (fun x => x = bI (rIn a 10))) 0 0 (fun _ => False) := by
  refine Met.ofW (cc := cX10_isRow) (maxL := 1) (ret := (some .boolean)) (by decide) rfl ?_
  intro p e s m args below meth c s₁ B hml hv
  obtain ⟨rfl, -⟩ := hv
  have hx := B.exec
  have hb := B.bytes
  have hret := B.returns
  have hts := atoms_spec (ws := wsX10_isRow) B.pre
  have hown : s.vm.findClass RX10 = some m.cls := findClass_of_methodNamed B.named
  have hlocks := B.notSynchronized
  have hl := lv_entry [.int a] (n := 1) (Nat.le_of_ble_eq_true rfl)
  rw [lg_entry_eq]
  generalize (lg_sl [.int a] ++ List.replicate (1 - (lg_sl [.int a]).length) Slot.unset).toArray = ls at hl ⊢
  have hl : lv_has ls 1 [(0, .int a)] := hl
  refine nx_Q (R := ({ frames := 1, cells := 0, slots := 0, locals := 22 } : Room)) (fun Q hQ => ?_)
  refine lv_iload_n hx hb dX10_isRow_0 rfl (lv_at hl 0 rfl) ?_
  refine lv_iconst (v := nI 0) hx hb dX10_isRow_1 (by decide) ?_
  refine lv_bipush (v := nI 9) hx hb dX10_isRow_2 (by decide) ?_
  refine ms_i (As := [.int a, .int (nI 0), .int (nI 9)]) (rest := []) ⟨hx, hb, hml, hown, hts⟩ (k_in l a (nI 0) (nI 9)) (va_cwS 3 hts gX10_isRow_X10_in rfl rfl rfl (by decide +kernel) ⟨Nat.le_of_ble_eq_true rfl, Nat.le_of_ble_eq_true rfl⟩) rfl hl.1 rfl (Nat.le_of_ble_eq_true rfl) dX10_isRow_4 ⟨Nat.le_of_ble_eq_true rfl, Nat.le_of_ble_eq_true rfl⟩ (fun x_4 h_4 => ?_)
  subst h_4
  subst hQ
  exact W.zret (v := bI (¬ a < nI 0 ∧ ¬ nI 9 < a)) hx hb hret (bI_nar) (fun t ht hW => ⟨_, rfl, bI_iff (rIn_in (by decide)), ht⟩) (fun q h => by cases h) dX10_isRow_7

set_option maxHeartbeats 4000000 in
set_option maxRecDepth 100000 in
/-- wants -/
theorem k_wants (l : Launch) (dC : Nat → ClassId) (dI : Nat → Nat → Nat) (aC : Nat → ClassId) (am : Nat → Nat) (v : Nat → Int32) (R : Nat → List Int32) (F : Nat → Nat → Int32) (G : Nat → Nat → Int64) (A : Nat) (hE : vE A (F 1)) (z : Int32) (hs : vS A z) : Met l yX10_wants wsX10_wants ({ frames := 0, cells := 0, slots := 0, locals := 0 } : Room) (va_Pc [.ref (am 0), .int z] (MB dC dI aC am (v, R, F, G))) (vp_Si (fun x => x = nI (wt (F 1) z))) 0 0 (fun _ => False) := by
  refine Met.ofW (cc := cX10_wants) (maxL := 2) (ret := (some .int)) (by decide) rfl ?_
  intro p e s m args below meth c s₁ B hml hv
  obtain ⟨rfl, hK, S, Z, hZ, hP⟩ := hv
  have hx := B.exec
  have hb := B.bytes
  have hret := B.returns
  have hts := atoms_spec (ws := wsX10_wants) B.pre
  have hown : s.vm.findClass RX10 = some m.cls := findClass_of_methodNamed B.named
  have hlocks := B.notSynchronized
  dsimp only at hZ hP
  have lk0 := hts (.fieldLink RX10 7 "LeafTreesModel" "entries" "[I") (by decide +kernel)
  have hin10 : ∀ w ∈ u_ws RX10 TX10 22, w ∈ wsX10_wants := by decide +kernel
  have hl := lv_entry [.ref (am 0), .int z] (n := 2) (Nat.le_of_ble_eq_true rfl)
  rw [lg_entry_eq]
  generalize (lg_sl [.ref (am 0), .int z] ++ List.replicate (2 - (lg_sl [.ref (am 0), .int z]).length) Slot.unset).toArray = ls at hl ⊢
  have hl : lv_has ls 2 [(0, .ref (am 0)), (1, .int z)] := hl
  refine nx_Q (R := ({ frames := 0, cells := 0, slots := 0, locals := 0 } : Room)) (fun Q hQ => ?_)
  refine lv_iload_n hx hb dX10_wants_0 rfl (lv_at hl 1 rfl) ?_
  refine lv_iconst (v := (-1)) hx hb dX10_wants_1 (by decide) ?_
  refine lv_icmp_ne (tgt := 9) hx hb dX10_wants_2 (by decide) (fun c_2 => ?_) (fun c_2 => ?_)
  · skip
    obtain ⟨a, ha, rfl⟩ := vS_pos hs c_2
    have h4 := hE.1
    refine lv_aload_n hx hb dX10_wants_9 rfl (lv_at hl 0 rfl) ?_
    refine va_get (D := (dC, dI)) (ci := 10) (C := RX10) (T := TX10) (N := 22) hx hb hts hin10 hown hK hP 0 rfl rfl 1 (by decide) lk0 (fun _ h9 => h9) rfl dX10_wants_10 ?_
    refine lv_iload_n hx hb dX10_wants_13 rfl (lv_at hl 1 rfl) ?_
    refine nx_iald hx hb hK hP 1 0 rfl rfl (i := a) (by omega) (by decide) dX10_wants_14 ?_
    subst hQ
    exact W.iret (v := F 1 a) hx hb hret (fun t ht hW => ⟨_, rfl, (wt_nI hE ha).1.symm, ht⟩) (fun q h => by cases h) dX10_wants_15
  · skip
    subst c_2
    refine lv_iconst (v := nI 0) hx hb dX10_wants_5 (by decide) ?_
    refine lv_goto (tgt := 15) hx hb dX10_wants_6 (by decide) ?_
    subst hQ
    exact W.iret (v := nI 0) hx hb hret (fun t ht hW => ⟨_, rfl, rfl, ht⟩) (fun q h => by cases h) dX10_wants_15

set_option maxHeartbeats 4000000 in
set_option maxRecDepth 100000 in
/-- end -/
theorem k_end (l : Launch) (dC : Nat → ClassId) (dI : Nat → Nat → Nat) (aC : Nat → ClassId) (am : Nat → Nat) (v : Nat → Int32) (R : Nat → List Int32) (F : Nat → Nat → Int32) (G : Nat → Nat → Int64) (A : Nat) (hE : vE A (F 1)) (r : Nat) (hr : r < 30) (hV : vR A (R r)) (fr : Nat) (hfr : fr ≤ 60) : Met l yX10_end wsX10_end ({ frames := 1, cells := 0, slots := 0, locals := 21 } : Room) (va_Pc [.ref (am 0), .int (nI r), .int (nI fr)] (MB dC dI aC am (v, R, F, G))) (vp_Si (fun x => x = eR (endL (F 1) (R r) fr))) 0 0 (fun _ => False) := by
  refine Met.ofW (cc := cX10_end) (maxL := 5) (ret := (some .int)) (by decide) rfl ?_
  intro p e s m args below meth c s₁ B hml hv
  obtain ⟨rfl, hK, S, Z, hZ, hP⟩ := hv
  have hx := B.exec
  have hb := B.bytes
  have hret := B.returns
  have hts := atoms_spec (ws := wsX10_end) B.pre
  have hown : s.vm.findClass RX10 = some m.cls := findClass_of_methodNamed B.named
  have hlocks := B.notSynchronized
  dsimp only at hZ hP
  have lk0 := hts (.fieldLink RX10 16 "LeafTreesModel" "size" "[I") (by decide +kernel)
  have lk1 := hts (.fieldLink RX10 13 "LeafTreesModel" "symbol" "[I") (by decide +kernel)
  have hin10 : ∀ w ∈ u_ws RX10 TX10 22, w ∈ wsX10_end := by decide +kernel
  have hl := lv_entry [.ref (am 0), .int (nI r), .int (nI fr)] (n := 5) (Nat.le_of_ble_eq_true rfl)
  rw [lg_entry_eq]
  generalize (lg_sl [.ref (am 0), .int (nI r), .int (nI fr)] ++ List.replicate (5 - (lg_sl [.ref (am 0), .int (nI r), .int (nI fr)]).length) Slot.unset).toArray = ls at hl ⊢
  have hl : lv_has ls 5 [(0, .ref (am 0)), (1, .int (nI r)), (2, .int (nI fr))] := hl
  refine nx_Q (R := ({ frames := 1, cells := 0, slots := 0, locals := 21 } : Room)) (fun Q hQ => ?_)
  have hlen := (hZ r hr).1
  refine lv_iconst (v := nI 1) hx hb dX10_end_0 (by decide) ?_
  refine lv_istore_n (lv' := [(3, .int (nI 1)), (0, .ref (am 0)), (1, .int (nI r)), (2, .int (nI fr))]) hx hb dX10_end_1 rfl hl (by decide) rfl (fun ls hl => ?_)
  refine lv_iload_n hx hb dX10_end_2 rfl (lv_at hl 3 rfl) ?_
  refine lv_istore (lv' := [(4, .int (nI fr)), (3, .int (nI 1)), (0, .ref (am 0)), (1, .int (nI r)), (2, .int (nI fr))]) hx hb dX10_end_3 hl (by decide) rfl (fun ls hl => ?_)
  have L5 : ∀ (fuel5 : Nat) (k : Nat) (j : Nat) (ls : Array Slot), (j ≤ 60) → (k ≤ 1 + 3 * j) → (tE (wt (F 1)) (gD (R r)) ((R r).length - j) k j = endL (F 1) (R r) fr) → 60 - j < fuel5 → lv_has ls 5 [(0, .ref (am 0)), (1, .int (nI r)), (3, .int (nI k)), (4, .int (nI j))] → W p l e ({ frames := 1, cells := 0, slots := 0, locals := 21 } : Room) s m ([.ref (am 0), .int (nI r), .int (nI fr)] : List Value).toArray below meth c s.heap [] 0 0 Q (F0 m 5 ls []) := by
    intro fuel5
    induction fuel5 with
    | zero => intro k j ls hj hk hres hf5 hl; exact absurd hf5 (Nat.not_lt_zero _)
    | succ fuel5 ih5 =>
      intro k j ls hj hk hres hf5 hl
      refine lv_iload_n hx hb dX10_end_5 rfl (lv_at hl 2 rfl) ?_
      refine nx_if_le (tgt := 47) hx hb dX10_end_6 (by decide) (by omega) (fun c_6 => ?_) (fun c_6 => ?_)
      · skip
        refine lv_iload_n hx hb dX10_end_47 rfl (lv_at hl 2 rfl) ?_
        refine nx_if_ne (tgt := 56) hx hb dX10_end_48 (by decide) (by omega) (fun c_48 => ?_) (fun c_48 => ?_)
        · skip
          exact absurd c_6 c_48
        · skip
          refine lv_iload hx hb dX10_end_51 (lv_at hl 3 rfl) ?_
          refine lv_goto (tgt := 57) hx hb dX10_end_53 (by decide) ?_
          subst hQ
          exact W.iret (v := nI j) hx hb hret (fun t ht hW => ⟨_, rfl, by rw [← hres, c_6, tE_0]; rfl, ht⟩) (fun q h => by cases h) dX10_end_57
      · skip
        refine lv_iload hx hb dX10_end_9 (lv_at hl 3 rfl) ?_
        refine lv_aload_n hx hb dX10_end_11 rfl (lv_at hl 0 rfl) ?_
        refine va_get (D := (dC, dI)) (ci := 10) (C := RX10) (T := TX10) (N := 22) hx hb hts hin10 hown hK hP 0 rfl rfl 3 (by decide) lk0 (fun _ h9 => h9) rfl dX10_end_12 ?_
        refine lv_iload_n hx hb dX10_end_15 rfl (lv_at hl 1 rfl) ?_
        refine nx_iald hx hb hK hP 3 0 rfl rfl (i := r) (by omega) (by decide) dX10_end_16 ?_
        refine nx_ti (y := nI (R r).length) ((hZ r (by omega)).2.1) ?_
        refine nx_icmp_ge (a := j) (b := (R r).length) (tgt := 47) hx hb dX10_end_17 (by decide) (by omega) (by omega) (fun c_17 => ?_) (fun c_17 => ?_)
        · skip
          refine lv_iload_n hx hb dX10_end_47 rfl (lv_at hl 2 rfl) ?_
          refine nx_if_ne (tgt := 56) hx hb dX10_end_48 (by decide) (by omega) (fun c_48 => ?_) (fun c_48 => ?_)
          · skip
            refine lv_iconst (v := (-1)) hx hb dX10_end_56 (by decide) ?_
            subst hQ
            exact W.iret (v := (-1)) hx hb hret (fun t ht hW => ⟨_, rfl, by rw [← hres, show (R r).length - j = 0 by omega, tE_n _ _ c_6]; rfl, ht⟩) (fun q h => by cases h) dX10_end_57
          · skip
            exact absurd c_6 (by omega)
        · skip
          refine lv_iload_n hx hb dX10_end_20 rfl (lv_at hl 2 rfl) ?_
          refine lv_aload_n hx hb dX10_end_21 rfl (lv_at hl 0 rfl) ?_
          refine lv_aload_n hx hb dX10_end_22 rfl (lv_at hl 0 rfl) ?_
          refine va_get (D := (dC, dI)) (ci := 10) (C := RX10) (T := TX10) (N := 22) hx hb hts hin10 hown hK hP 0 rfl rfl 2 (by decide) lk1 (fun _ h9 => h9) rfl dX10_end_23 ?_
          refine lv_bipush (v := nI 60) hx hb dX10_end_26 (by decide) ?_
          refine lv_iload_n hx hb dX10_end_28 rfl (lv_at hl 1 rfl) ?_
          refine lv_imul hx hb dX10_end_29 ?_
          refine nx_ti (y := nI (60 * r)) (pk_mul _ _) ?_
          refine lv_iload hx hb dX10_end_30 (lv_at hl 3 rfl) ?_
          refine lv_iadd hx hb dX10_end_32 ?_
          refine nx_ti (y := nI (60 * r + j)) (nI_add _ _) ?_
          refine nx_iald hx hb hK hP 2 0 rfl rfl (i := 60 * r + j) (by have := (hZ r (by omega)).1; omega) (by decide) dX10_end_33 ?_
          refine nx_ti (y := gD (R r) j) ((hZ r (by omega)).2.2 j (by omega)) ?_
          refine mp_i (As := [.int (gD (R r) j)]) (rest := [.int (nI k)]) ⟨hx, hb, hml, hown, hts⟩ (k_wants l dC dI aC am v R F G A hE (gD (R r) j) (hV j c_17)) (cwV 1 hts gX10_end_X10_wants rfl rfl rfl (by decide +kernel) ⟨Nat.le_of_ble_eq_true rfl, Nat.le_of_ble_eq_true rfl⟩) hK hZ hP rfl hl.1 rfl (Nat.le_of_ble_eq_true rfl) dX10_end_34 ⟨Nat.le_of_ble_eq_true rfl, Nat.le_of_ble_eq_true rfl⟩ (fun x_34 h_34 => ?_)
          subst h_34
          refine lv_iconst (v := nI 1) hx hb dX10_end_37 (by decide) ?_
          refine lv_isub hx hb dX10_end_38 ?_
          refine lv_iadd hx hb dX10_end_39 ?_
          refine nx_ti (y := nI (k + wt (F 1) (gD (R r) j) - 1)) (nI_adj c_6) ?_
          refine lv_istore_n (lv' := [(3, .int (nI (k + wt (F 1) (gD (R r) j) - 1))), (0, .ref (am 0)), (1, .int (nI r)), (4, .int (nI j))]) hx hb dX10_end_40 rfl hl (by decide) rfl (fun ls hl => ?_)
          refine lv_iinc (v := nI (j + 1)) (lv' := [(4, .int (nI (j + 1))), (3, .int (nI (k + wt (F 1) (gD (R r) j) - 1))), (0, .ref (am 0)), (1, .int (nI r))]) hx hb dX10_end_41 hl (k := 3) rfl (nI_add _ _) (by decide) rfl (fun ls hl => ?_)
          refine lv_goto (tgt := 5) hx hb dX10_end_44 (by decide) ?_
          exact ih5 (k + wt (F 1) (gD (R r) j) - 1) (j + 1) _ (by omega) (by have := wt_le hE (hV j c_17); omega) ((tE_step _ _ c_6 c_17).symm.trans hres) (by omega) (lv_sub hl [2, 3, 1, 0] rfl)
  exact L5 (60 - fr + 1) 1 fr _ (by omega) (by omega) rfl (Nat.lt_succ_self _) (lv_sub hl [2, 3, 1, 0] rfl)

set_option maxHeartbeats 4000000 in
set_option maxRecDepth 100000 in
/-- isTree -/
theorem k_isTree (l : Launch) (dC : Nat → ClassId) (dI : Nat → Nat → Nat) (aC : Nat → ClassId) (am : Nat → Nat) (v : Nat → Int32) (R : Nat → List Int32) (F : Nat → Nat → Int32) (G : Nat → Nat → Int64) (A : Nat) (hE : vE A (F 1)) (r : Nat) (hr : r < 30) (hV : vR A (R r)) : Met l yX10_isTree wsX10_isTree ({ frames := 2, cells := 0, slots := 0, locals := 45 } : Room) (va_Pc [.ref (am 0), .int (nI r)] (MB dC dI aC am (v, R, F, G))) (vp_Si (fun x => x = bI (isT (F 1) (R r)))) 0 0 (fun _ => False) := by
  refine Met.ofW (cc := cX10_isTree) (maxL := 2) (ret := (some .boolean)) (by decide) rfl ?_
  intro p e s m args below meth c s₁ B hml hv
  obtain ⟨rfl, hK, S, Z, hZ, hP⟩ := hv
  have hx := B.exec
  have hb := B.bytes
  have hret := B.returns
  have hts := atoms_spec (ws := wsX10_isTree) B.pre
  have hown : s.vm.findClass RX10 = some m.cls := findClass_of_methodNamed B.named
  have hlocks := B.notSynchronized
  dsimp only at hZ hP
  have lk0 := hts (.fieldLink RX10 16 "LeafTreesModel" "size" "[I") (by decide +kernel)
  have hin10 : ∀ w ∈ u_ws RX10 TX10 22, w ∈ wsX10_isTree := by decide +kernel
  have hl := lv_entry [.ref (am 0), .int (nI r)] (n := 2) (Nat.le_of_ble_eq_true rfl)
  rw [lg_entry_eq]
  generalize (lg_sl [.ref (am 0), .int (nI r)] ++ List.replicate (2 - (lg_sl [.ref (am 0), .int (nI r)]).length) Slot.unset).toArray = ls at hl ⊢
  have hl : lv_has ls 2 [(0, .ref (am 0)), (1, .int (nI r))] := hl
  refine nx_Q (R := ({ frames := 2, cells := 0, slots := 0, locals := 45 } : Room)) (fun Q hQ => ?_)
  have hlen := (hZ r hr).1
  have hq : eR (endL (F 1) (R r) 0) = nI (R r).length ↔ isT (F 1) (R r) := eR_eq (by omega) (fun e he => by have := endL_le (Nat.zero_le _) he; omega)
  refine lv_aload_n hx hb dX10_isTree_0 rfl (lv_at hl 0 rfl) ?_
  refine va_get (D := (dC, dI)) (ci := 10) (C := RX10) (T := TX10) (N := 22) hx hb hts hin10 hown hK hP 0 rfl rfl 3 (by decide) lk0 (fun _ h9 => h9) rfl dX10_isTree_1 ?_
  refine lv_iload_n hx hb dX10_isTree_4 rfl (lv_at hl 1 rfl) ?_
  refine nx_iald hx hb hK hP 3 0 rfl rfl (i := r) (by omega) (by decide) dX10_isTree_5 ?_
  refine nx_ti (y := nI (R r).length) ((hZ r (by omega)).2.1) ?_
  refine nx_if_le (tgt := 28) hx hb dX10_isTree_6 (by decide) (by omega) (fun c_6 => ?_) (fun c_6 => ?_)
  · skip
    refine lv_iconst (v := nI 0) hx hb dX10_isTree_28 (by decide) ?_
    subst hQ
    exact W.zret (v := nI 0) hx hb hret (rfl) (fun t ht hW => ⟨_, rfl, (bI_f (fun h => absurd (isT_pos h) (by omega))).symm, ht⟩) (fun q h => by cases h) dX10_isTree_29
  · skip
    refine lv_aload_n hx hb dX10_isTree_9 rfl (lv_at hl 0 rfl) ?_
    refine lv_iload_n hx hb dX10_isTree_10 rfl (lv_at hl 1 rfl) ?_
    refine lv_iconst (v := nI 0) hx hb dX10_isTree_11 (by decide) ?_
    refine mp_i (As := [.int (nI r), .int (nI 0)]) (rest := []) ⟨hx, hb, hml, hown, hts⟩ (k_end l dC dI aC am v R F G A hE r hr hV 0 (by decide)) (cwV 2 hts gX10_isTree_X10_end rfl rfl rfl (by decide +kernel) ⟨Nat.le_of_ble_eq_true rfl, Nat.le_of_ble_eq_true rfl⟩) hK hZ hP rfl hl.1 rfl (Nat.le_of_ble_eq_true rfl) dX10_isTree_12 ⟨Nat.le_of_ble_eq_true rfl, Nat.le_of_ble_eq_true rfl⟩ (fun x_12 h_12 => ?_)
    subst h_12
    refine lv_aload_n hx hb dX10_isTree_15 rfl (lv_at hl 0 rfl) ?_
    refine va_get (D := (dC, dI)) (ci := 10) (C := RX10) (T := TX10) (N := 22) hx hb hts hin10 hown hK hP 0 rfl rfl 3 (by decide) lk0 (fun _ h9 => h9) rfl dX10_isTree_16 ?_
    refine lv_iload_n hx hb dX10_isTree_19 rfl (lv_at hl 1 rfl) ?_
    refine nx_iald hx hb hK hP 3 0 rfl rfl (i := r) (by omega) (by decide) dX10_isTree_20 ?_
    refine nx_ti (y := nI (R r).length) ((hZ r (by omega)).2.1) ?_
    refine lv_icmp_ne (tgt := 28) hx hb dX10_isTree_21 (by decide) (fun c_21 => ?_) (fun c_21 => ?_)
    · skip
      refine lv_iconst (v := nI 0) hx hb dX10_isTree_28 (by decide) ?_
      subst hQ
      exact W.zret (v := nI 0) hx hb hret (rfl) (fun t ht hW => ⟨_, rfl, (bI_f (fun h => c_21 (hq.mpr h))).symm, ht⟩) (fun q h => by cases h) dX10_isTree_29
    · skip
      refine lv_iconst (v := nI 1) hx hb dX10_isTree_24 (by decide) ?_
      refine lv_goto (tgt := 29) hx hb dX10_isTree_25 (by decide) ?_
      subst hQ
      exact W.zret (v := nI 1) hx hb hret (rfl) (fun t ht hW => ⟨_, rfl, (bI_t (hq.mp c_21)).symm, ht⟩) (fun q h => by cases h) dX10_isTree_29

set_option maxHeartbeats 4000000 in
set_option maxRecDepth 100000 in
/-- isTreeRow -/
theorem k_isTreeRow (l : Launch) (dC : Nat → ClassId) (dI : Nat → Nat → Nat) (aC : Nat → ClassId) (am : Nat → Nat) (v : Nat → Int32) (R : Nat → List Int32) (F : Nat → Nat → Int32) (G : Nat → Nat → Int64) (A : Nat) (hE : vE A (F 1)) (a : Int32) (hV : ∀ r, r < 10 → vR A (R r)) : Met l yX10_isTreeRow wsX10_isTreeRow ({ frames := 3, cells := 0, slots := 0, locals := 66 } : Room) (va_Pc [.ref (am 0), .int a] (MB dC dI aC am (v, R, F, G))) (vp_Si (fun x => x = bI (rIn a 10 ∧ isT (F 1) (R a.toNatClampNeg)))) 0 0 (fun _ => False) := by
  refine Met.ofW (cc := cX10_isTreeRow) (maxL := 2) (ret := (some .boolean)) (by decide) rfl ?_
  intro p e s m args below meth c s₁ B hml hv
  obtain ⟨rfl, hK, S, Z, hZ, hP⟩ := hv
  have hx := B.exec
  have hb := B.bytes
  have hret := B.returns
  have hts := atoms_spec (ws := wsX10_isTreeRow) B.pre
  have hown : s.vm.findClass RX10 = some m.cls := findClass_of_methodNamed B.named
  have hlocks := B.notSynchronized
  dsimp only at hZ hP
  have hl := lv_entry [.ref (am 0), .int a] (n := 2) (Nat.le_of_ble_eq_true rfl)
  rw [lg_entry_eq]
  generalize (lg_sl [.ref (am 0), .int a] ++ List.replicate (2 - (lg_sl [.ref (am 0), .int a]).length) Slot.unset).toArray = ls at hl ⊢
  have hl : lv_has ls 2 [(0, .ref (am 0)), (1, .int a)] := hl
  refine nx_Q (R := ({ frames := 3, cells := 0, slots := 0, locals := 66 } : Room)) (fun Q hQ => ?_)
  refine lv_iload_n hx hb dX10_isTreeRow_0 rfl (lv_at hl 1 rfl) ?_
  refine ms_i (As := [.int a]) (rest := []) ⟨hx, hb, hml, hown, hts⟩ (k_isRow l a) (va_cwS 1 hts gX10_isTreeRow_X10_isRow rfl rfl rfl (by decide +kernel) ⟨Nat.le_of_ble_eq_true rfl, Nat.le_of_ble_eq_true rfl⟩) rfl hl.1 rfl (Nat.le_of_ble_eq_true rfl) dX10_isTreeRow_1 ⟨Nat.le_of_ble_eq_true rfl, Nat.le_of_ble_eq_true rfl⟩ (fun x_1 h_1 => ?_)
  subst h_1
  refine nx_bz (tgt := 19) hx hb dX10_isTreeRow_4 (by decide) (fun c_4 => ?_) (fun c_4 => ?_)
  · skip
    refine lv_iconst (v := nI 0) hx hb dX10_isTreeRow_19 (by decide) ?_
    subst hQ
    exact W.zret (v := nI 0) hx hb hret (rfl) (fun t ht hW => ⟨_, rfl, (bI_f (fun h => c_4 h.1)).symm, ht⟩) (fun q h => by cases h) dX10_isTreeRow_20
  · skip
    obtain ⟨r, hr, rfl⟩ := rIn_of c_4 (by decide)
    refine lv_aload_n hx hb dX10_isTreeRow_7 rfl (lv_at hl 0 rfl) ?_
    refine lv_iload_n hx hb dX10_isTreeRow_8 rfl (lv_at hl 1 rfl) ?_
    refine mp_i (As := [.int (nI r)]) (rest := []) ⟨hx, hb, hml, hown, hts⟩ (k_isTree l dC dI aC am v R F G A hE r (by omega) (hV r hr)) (cwV 1 hts gX10_isTreeRow_X10_isTree rfl rfl rfl (by decide +kernel) ⟨Nat.le_of_ble_eq_true rfl, Nat.le_of_ble_eq_true rfl⟩) hK hZ hP rfl hl.1 rfl (Nat.le_of_ble_eq_true rfl) dX10_isTreeRow_9 ⟨Nat.le_of_ble_eq_true rfl, Nat.le_of_ble_eq_true rfl⟩ (fun x_9 h_9 => ?_)
    subst h_9
    refine nx_bz (tgt := 19) hx hb dX10_isTreeRow_12 (by decide) (fun c_12 => ?_) (fun c_12 => ?_)
    · skip
      refine lv_iconst (v := nI 0) hx hb dX10_isTreeRow_19 (by decide) ?_
      subst hQ
      exact W.zret (v := nI 0) hx hb hret (rfl) (fun t ht hW => ⟨_, rfl, (bI_f (fun h => c_12 (by have h2 := h.2; rw [nI_clamp (by omega)] at h2; exact h2))).symm, ht⟩) (fun q h => by cases h) dX10_isTreeRow_20
    · skip
      refine lv_iconst (v := nI 1) hx hb dX10_isTreeRow_15 (by decide) ?_
      refine lv_goto (tgt := 20) hx hb dX10_isTreeRow_16 (by decide) ?_
      subst hQ
      exact W.zret (v := nI 1) hx hb hret (rfl) (fun t ht hW => ⟨_, rfl, (bI_t ⟨c_4, by rw [nI_clamp (by omega)]; exact c_12⟩).symm, ht⟩) (fun q h => by cases h) dX10_isTreeRow_20

set_option maxHeartbeats 4000000 in
set_option maxRecDepth 100000 in
/-- leaves -/
theorem k_leaves (l : Launch) (dC : Nat → ClassId) (dI : Nat → Nat → Nat) (aC : Nat → ClassId) (am : Nat → Nat) (v : Nat → Int32) (R : Nat → List Int32) (F : Nat → Nat → Int32) (G : Nat → Nat → Int64) (r : Nat) (hr : r < 30) : Met l yX10_leaves wsX10_leaves ({ frames := 0, cells := 0, slots := 0, locals := 0 } : Room) (va_Pc [.ref (am 0), .int (nI r)] (MB dC dI aC am (v, R, F, G))) (vp_Si (fun x => x = nI (lvs (R r)))) 0 0 (fun _ => False) := by
  refine Met.ofW (cc := cX10_leaves) (maxL := 4) (ret := (some .int)) (by decide) rfl ?_
  intro p e s m args below meth c s₁ B hml hv
  obtain ⟨rfl, hK, S, Z, hZ, hP⟩ := hv
  have hx := B.exec
  have hb := B.bytes
  have hret := B.returns
  have hts := atoms_spec (ws := wsX10_leaves) B.pre
  have hown : s.vm.findClass RX10 = some m.cls := findClass_of_methodNamed B.named
  have hlocks := B.notSynchronized
  dsimp only at hZ hP
  have lk0 := hts (.fieldLink RX10 16 "LeafTreesModel" "size" "[I") (by decide +kernel)
  have lk1 := hts (.fieldLink RX10 13 "LeafTreesModel" "symbol" "[I") (by decide +kernel)
  have hin10 : ∀ w ∈ u_ws RX10 TX10 22, w ∈ wsX10_leaves := by decide +kernel
  have hl := lv_entry [.ref (am 0), .int (nI r)] (n := 4) (Nat.le_of_ble_eq_true rfl)
  rw [lg_entry_eq]
  generalize (lg_sl [.ref (am 0), .int (nI r)] ++ List.replicate (4 - (lg_sl [.ref (am 0), .int (nI r)]).length) Slot.unset).toArray = ls at hl ⊢
  have hl : lv_has ls 4 [(0, .ref (am 0)), (1, .int (nI r))] := hl
  refine nx_Q (R := ({ frames := 0, cells := 0, slots := 0, locals := 0 } : Room)) (fun Q hQ => ?_)
  have hlen := (hZ r hr).1
  refine lv_iconst (v := nI 0) hx hb dX10_leaves_0 (by decide) ?_
  refine lv_istore_n (lv' := [(2, .int (nI 0)), (0, .ref (am 0)), (1, .int (nI r))]) hx hb dX10_leaves_1 rfl hl (by decide) rfl (fun ls hl => ?_)
  refine lv_iconst (v := nI 0) hx hb dX10_leaves_2 (by decide) ?_
  refine lv_istore_n (lv' := [(3, .int (nI 0)), (2, .int (nI 0)), (0, .ref (am 0)), (1, .int (nI r))]) hx hb dX10_leaves_3 rfl hl (by decide) rfl (fun ls hl => ?_)
  have L4 : ∀ (fuel4 : Nat) (i : Nat) (ls : Array Slot), (i ≤ (R r).length) → 60 - i < fuel4 → lv_has ls 4 [(0, .ref (am 0)), (1, .int (nI r)), (2, .int (nI (cF (gD (R r)) i))), (3, .int (nI i))] → W p l e ({ frames := 0, cells := 0, slots := 0, locals := 0 } : Room) s m ([.ref (am 0), .int (nI r)] : List Value).toArray below meth c s.heap [] 0 0 Q (F0 m 4 ls []) := by
    intro fuel4
    induction fuel4 with
    | zero => intro i ls hi hf4 hl; exact absurd hf4 (Nat.not_lt_zero _)
    | succ fuel4 ih4 =>
      intro i ls hi hf4 hl
      refine lv_iload_n hx hb dX10_leaves_4 rfl (lv_at hl 3 rfl) ?_
      refine lv_aload_n hx hb dX10_leaves_5 rfl (lv_at hl 0 rfl) ?_
      refine va_get (D := (dC, dI)) (ci := 10) (C := RX10) (T := TX10) (N := 22) hx hb hts hin10 hown hK hP 0 rfl rfl 3 (by decide) lk0 (fun _ h9 => h9) rfl dX10_leaves_6 ?_
      refine lv_iload_n hx hb dX10_leaves_9 rfl (lv_at hl 1 rfl) ?_
      refine nx_iald hx hb hK hP 3 0 rfl rfl (i := r) (by omega) (by decide) dX10_leaves_10 ?_
      refine nx_ti (y := nI (R r).length) ((hZ r (by omega)).2.1) ?_
      refine nx_icmp_ge (a := i) (b := (R r).length) (tgt := 43) hx hb dX10_leaves_11 (by decide) (by omega) (by omega) (fun c_11 => ?_) (fun c_11 => ?_)
      · skip
        refine lv_iload_n hx hb dX10_leaves_43 rfl (lv_at hl 2 rfl) ?_
        subst hQ
        exact W.iret (v := nI (cF (gD (R r)) i)) hx hb hret (fun t ht hW => ⟨_, rfl, by rw [lvs, show (R r).length = i by omega], ht⟩) (fun q h => by cases h) dX10_leaves_44
      · skip
        refine lv_iload_n hx hb dX10_leaves_14 rfl (lv_at hl 2 rfl) ?_
        refine lv_aload_n hx hb dX10_leaves_15 rfl (lv_at hl 0 rfl) ?_
        refine va_get (D := (dC, dI)) (ci := 10) (C := RX10) (T := TX10) (N := 22) hx hb hts hin10 hown hK hP 0 rfl rfl 2 (by decide) lk1 (fun _ h9 => h9) rfl dX10_leaves_16 ?_
        refine lv_bipush (v := nI 60) hx hb dX10_leaves_19 (by decide) ?_
        refine lv_iload_n hx hb dX10_leaves_21 rfl (lv_at hl 1 rfl) ?_
        refine lv_imul hx hb dX10_leaves_22 ?_
        refine nx_ti (y := nI (60 * r)) (pk_mul _ _) ?_
        refine lv_iload_n hx hb dX10_leaves_23 rfl (lv_at hl 3 rfl) ?_
        refine lv_iadd hx hb dX10_leaves_24 ?_
        refine nx_ti (y := nI (60 * r + i)) (nI_add _ _) ?_
        refine nx_iald hx hb hK hP 2 0 rfl rfl (i := 60 * r + i) (by have := (hZ r (by omega)).1; omega) (by decide) dX10_leaves_25 ?_
        refine nx_ti (y := gD (R r) i) ((hZ r (by omega)).2.2 i (by omega)) ?_
        refine lv_iconst (v := (-1)) hx hb dX10_leaves_26 (by decide) ?_
        refine lv_icmp_ne (tgt := 34) hx hb dX10_leaves_27 (by decide) (fun c_27 => ?_) (fun c_27 => ?_)
        · skip
          refine lv_iconst (v := nI 0) hx hb dX10_leaves_34 (by decide) ?_
          refine lv_iadd hx hb dX10_leaves_35 ?_
          refine nx_ti (y := nI (cF (gD (R r)) i + 0)) (nI_add _ _) ?_
          refine nx_ti (y := nI (cF (gD (R r)) (i + 1))) (by rw [cF_f c_27]; rfl) ?_
          refine lv_istore_n (lv' := [(2, .int (nI (cF (gD (R r)) (i + 1)))), (0, .ref (am 0)), (1, .int (nI r)), (3, .int (nI i))]) hx hb dX10_leaves_36 rfl hl (by decide) rfl (fun ls hl => ?_)
          refine lv_iinc (v := nI (i + 1)) (lv' := [(3, .int (nI (i + 1))), (2, .int (nI (cF (gD (R r)) (i + 1)))), (0, .ref (am 0)), (1, .int (nI r))]) hx hb dX10_leaves_37 hl (k := 3) rfl (nI_add _ _) (by decide) rfl (fun ls hl => ?_)
          refine lv_goto (tgt := 4) hx hb dX10_leaves_40 (by decide) ?_
          exact ih4 (i + 1) _ (by omega) (by omega) (lv_sub hl [2, 3, 1, 0] rfl)
        · skip
          refine lv_iconst (v := nI 1) hx hb dX10_leaves_30 (by decide) ?_
          refine lv_goto (tgt := 35) hx hb dX10_leaves_31 (by decide) ?_
          refine lv_iadd hx hb dX10_leaves_35 ?_
          refine nx_ti (y := nI (cF (gD (R r)) i + 1)) (nI_add _ _) ?_
          refine nx_ti (y := nI (cF (gD (R r)) (i + 1))) (by rw [cF_t c_27]) ?_
          refine lv_istore_n (lv' := [(2, .int (nI (cF (gD (R r)) (i + 1)))), (0, .ref (am 0)), (1, .int (nI r)), (3, .int (nI i))]) hx hb dX10_leaves_36 rfl hl (by decide) rfl (fun ls hl => ?_)
          refine lv_iinc (v := nI (i + 1)) (lv' := [(3, .int (nI (i + 1))), (2, .int (nI (cF (gD (R r)) (i + 1)))), (0, .ref (am 0)), (1, .int (nI r))]) hx hb dX10_leaves_37 hl (k := 3) rfl (nI_add _ _) (by decide) rfl (fun ls hl => ?_)
          refine lv_goto (tgt := 4) hx hb dX10_leaves_40 (by decide) ?_
          exact ih4 (i + 1) _ (by omega) (by omega) (lv_sub hl [2, 3, 1, 0] rfl)
  exact L4 (60 - 0 + 1) 0 _ (by omega) (Nat.lt_succ_self _) (lv_sub hl [2, 3, 1, 0] rfl)
end
section
set_option maxHeartbeats 4000000 in
set_option maxRecDepth 100000 in
/-- comes -/
theorem k_comes (l : Launch) (dC : Nat → ClassId) (dI : Nat → Nat → Nat) (aC : Nat → ClassId) (am : Nat → Nat) (hI : mI am) (v : Nat → Int32) (R : Nat → List Int32) (F : Nat → Nat → Int32) (G : Nat → Nat → Int64) (r : Nat) (hr : r < 30) (hl0 : (R r).length < 60) (z : Int32) : Met l yX10_comes wsX10_comes ({ frames := 0, cells := 0, slots := 0, locals := 0 } : Room) (va_Pc [.ref (am 0), .int (nI r), .int z] (MB dC dI aC am (v, R, F, G))) (va_Qv (fun (u : MS) => (v, va_up R r (R r ++ [z]), F, G) = u) (MB dC dI aC am) (mA am)) 0 0 (mA am) := by
  refine Met.ofW (cc := cX10_comes) (maxL := 3) (ret := none) (by decide) rfl ?_
  intro p e s m args below meth c s₁ B hml hv
  obtain ⟨rfl, hK, S, Z, hZ, hP⟩ := hv
  have hx := B.exec
  have hb := B.bytes
  have hret := B.returns
  have hts := atoms_spec (ws := wsX10_comes) B.pre
  have hown : s.vm.findClass RX10 = some m.cls := findClass_of_methodNamed B.named
  have hlocks := B.notSynchronized
  dsimp only at hZ hP
  have lk0 := hts (.fieldLink RX10 13 "LeafTreesModel" "symbol" "[I") (by decide +kernel)
  have lk1 := hts (.fieldLink RX10 16 "LeafTreesModel" "size" "[I") (by decide +kernel)
  have hin10 : ∀ w ∈ u_ws RX10 TX10 22, w ∈ wsX10_comes := by decide +kernel
  have hS : va_S (mA am) s.heap s.heap [] := va_S.rf
  have hl := lv_entry [.ref (am 0), .int (nI r), .int z] (n := 3) (Nat.le_of_ble_eq_true rfl)
  rw [lg_entry_eq]
  generalize (lg_sl [.ref (am 0), .int (nI r), .int z] ++ List.replicate (3 - (lg_sl [.ref (am 0), .int (nI r), .int z]).length) Slot.unset).toArray = ls at hl ⊢
  have hl : lv_has ls 3 [(0, .ref (am 0)), (1, .int (nI r)), (2, .int z)] := hl
  refine nx_Q (R := ({ frames := 0, cells := 0, slots := 0, locals := 0 } : Room)) (fun Q hQ => ?_)
  skip
  refine lv_aload_n hx hb dX10_comes_0 rfl (lv_at hl 0 rfl) ?_
  refine va_get (D := (dC, dI)) (ci := 10) (C := RX10) (T := TX10) (N := 22) hx hb hts hin10 hown hK hP 0 rfl rfl 2 (by decide) lk0 (fun _ h9 => h9) rfl dX10_comes_1 ?_
  refine lv_bipush (v := nI 60) hx hb dX10_comes_4 (by decide) ?_
  refine lv_iload_n hx hb dX10_comes_6 rfl (lv_at hl 1 rfl) ?_
  refine lv_imul hx hb dX10_comes_7 ?_
  refine nx_ti (y := nI (60 * r)) (pk_mul _ _) ?_
  refine lv_aload_n hx hb dX10_comes_8 rfl (lv_at hl 0 rfl) ?_
  refine va_get (D := (dC, dI)) (ci := 10) (C := RX10) (T := TX10) (N := 22) hx hb hts hin10 hown hK hP 0 rfl rfl 3 (by decide) lk1 (fun _ h9 => h9) rfl dX10_comes_9 ?_
  refine lv_iload_n hx hb dX10_comes_12 rfl (lv_at hl 1 rfl) ?_
  refine nx_iald hx hb hK hP 3 0 rfl rfl (i := r) (by omega) (by decide) dX10_comes_13 ?_
  refine nx_ti (y := nI (R r).length) ((hZ r (by omega)).2.1) ?_
  refine lv_iadd hx hb dX10_comes_14 ?_
  refine nx_ti (y := nI (60 * r + (R r).length)) (nI_add _ _) ?_
  refine lv_iload_n hx hb dX10_comes_15 rfl (lv_at hl 2 rfl) ?_
  refine nx_iast hx hb hK hP (wsM_D hI) hS 2 0 rfl rfl (i := 60 * r + (R r).length) (by omega) (by decide) dX10_comes_16 (fun H locs hP hS => ?_)
  have hP : va_P (dC, dI) vwCl (wsM aC am v (upd S (60 * r + (R r).length) z) Z F G) H := hP
  refine lv_aload_n hx hb dX10_comes_17 rfl (lv_at hl 0 rfl) ?_
  refine va_get (D := (dC, dI)) (ci := 10) (C := RX10) (T := TX10) (N := 22) hx hb hts hin10 hown hK hP 0 rfl rfl 3 (by decide) lk1 (fun _ h9 => h9) rfl dX10_comes_18 ?_
  refine lv_iload_n hx hb dX10_comes_21 rfl (lv_at hl 1 rfl) ?_
  refine lv_dup2_11 hx hb dX10_comes_22 rfl rfl ?_
  refine nx_iald hx hb hK hP 3 0 rfl rfl (i := r) (by omega) (by decide) dX10_comes_23 ?_
  refine nx_ti (y := nI (R r).length) ((hZ r hr).2.1) ?_
  refine lv_iconst (v := nI 1) hx hb dX10_comes_24 (by decide) ?_
  refine lv_iadd hx hb dX10_comes_25 ?_
  refine nx_ti (y := nI ((R r).length + 1)) (nI_add _ _) ?_
  refine nx_iast hx hb hK hP (wsM_D hI) hS 3 0 rfl rfl (i := r) (by omega) (by decide) dX10_comes_26 (fun H locs hP hS => ?_)
  have hP : va_P (dC, dI) vwCl (wsM aC am v (upd S (60 * r + (R r).length) z) (upd Z r (nI ((R r).length + 1))) F G) H := hP
  have hZ := mOK_snoc hZ hr hl0 z
  subst hQ
  exact W.vret hx hb hret (fun t ht hW => ⟨⟨(v, va_up R r (R r ++ [z]), F, G), rfl, rfl, va_K.moved hW.alike hK, _, _, hZ, by rw [ht]; exact hP⟩, hS.F ht⟩) hS.2.2 dX10_comes_27

set_option maxHeartbeats 4000000 in
set_option maxRecDepth 100000 in
/-- copy -/
theorem k_copy (l : Launch) (dC : Nat → ClassId) (dI : Nat → Nat → Nat) (aC : Nat → ClassId) (am : Nat → Nat) (hI : mI am) (v : Nat → Int32) (R : Nat → List Int32) (F : Nat → Nat → Int32) (G : Nat → Nat → Int64) (fr : Nat) (hfr : fr < 30) (to : Nat) (hto : to < 30) (hne : fr ≠ to) : Met l yX10_copy wsX10_copy ({ frames := 0, cells := 0, slots := 0, locals := 0 } : Room) (va_Pc [.ref (am 0), .int (nI fr), .int (nI to)] (MB dC dI aC am (v, R, F, G))) (va_Qv (fun (u : MS) => (v, va_up R to (R fr), F, G) = u) (MB dC dI aC am) (mA am)) 0 0 (mA am) := by
  refine Met.ofW (cc := cX10_copy) (maxL := 4) (ret := none) (by decide) rfl ?_
  intro p e s m args below meth c s₁ B hml hv
  obtain ⟨rfl, hK, S, Z, hZ, hP⟩ := hv
  have hx := B.exec
  have hb := B.bytes
  have hret := B.returns
  have hts := atoms_spec (ws := wsX10_copy) B.pre
  have hown : s.vm.findClass RX10 = some m.cls := findClass_of_methodNamed B.named
  have hlocks := B.notSynchronized
  dsimp only at hZ hP
  have lk0 := hts (.fieldLink RX10 16 "LeafTreesModel" "size" "[I") (by decide +kernel)
  have lk1 := hts (.fieldLink RX10 13 "LeafTreesModel" "symbol" "[I") (by decide +kernel)
  have hin10 : ∀ w ∈ u_ws RX10 TX10 22, w ∈ wsX10_copy := by decide +kernel
  have hS : va_S (mA am) s.heap s.heap [] := va_S.rf
  have hl := lv_entry [.ref (am 0), .int (nI fr), .int (nI to)] (n := 4) (Nat.le_of_ble_eq_true rfl)
  rw [lg_entry_eq]
  generalize (lg_sl [.ref (am 0), .int (nI fr), .int (nI to)] ++ List.replicate (4 - (lg_sl [.ref (am 0), .int (nI fr), .int (nI to)]).length) Slot.unset).toArray = ls at hl ⊢
  have hl : lv_has ls 4 [(0, .ref (am 0)), (1, .int (nI fr)), (2, .int (nI to))] := hl
  refine nx_Q (R := ({ frames := 0, cells := 0, slots := 0, locals := 0 } : Room)) (fun Q hQ => ?_)
  skip
  have hlen := (hZ fr hfr).1
  refine lv_iconst (v := nI 0) hx hb dX10_copy_0 (by decide) ?_
  refine lv_istore_n (lv' := [(3, .int (nI 0)), (0, .ref (am 0)), (1, .int (nI fr)), (2, .int (nI to))]) hx hb dX10_copy_1 rfl hl (by decide) rfl (fun ls hl => ?_)
  have L2 : ∀ (fuel2 : Nat) (i : Nat) (S Z : Nat → Int32) (H : Heap) (locs : List Loc) (ls : Array Slot), (i ≤ (R fr).length) → (∀ j, j < i → S (60 * to + j) = gD (R fr) j) → mOKe to S Z R → va_P (dC, dI) vwCl (wsM aC am v S Z F G) H → va_S (mA am) s.heap H locs → 60 - i < fuel2 → lv_has ls 4 [(0, .ref (am 0)), (1, .int (nI fr)), (2, .int (nI to)), (3, .int (nI i))] → W p l e ({ frames := 0, cells := 0, slots := 0, locals := 0 } : Room) s m ([.ref (am 0), .int (nI fr), .int (nI to)] : List Value).toArray below meth c H locs 0 0 Q (F0 m 2 ls []) := by
    intro fuel2
    induction fuel2 with
    | zero => intro i S Z H locs ls hi hc hZ hP hS hf2 hl; exact absurd hf2 (Nat.not_lt_zero _)
    | succ fuel2 ih2 =>
      intro i S Z H locs ls hi hc hZ hP hS hf2 hl
      refine lv_iload_n hx hb dX10_copy_2 rfl (lv_at hl 3 rfl) ?_
      refine lv_aload_n hx hb dX10_copy_3 rfl (lv_at hl 0 rfl) ?_
      refine va_get (D := (dC, dI)) (ci := 10) (C := RX10) (T := TX10) (N := 22) hx hb hts hin10 hown hK hP 0 rfl rfl 3 (by decide) lk0 (fun _ h9 => h9) rfl dX10_copy_4 ?_
      refine lv_iload_n hx hb dX10_copy_7 rfl (lv_at hl 1 rfl) ?_
      refine nx_iald hx hb hK hP 3 0 rfl rfl (i := fr) (by omega) (by decide) dX10_copy_8 ?_
      refine nx_ti (y := nI (R fr).length) ((hZ fr (by omega) (by omega)).2.1) ?_
      refine nx_icmp_ge (a := i) (b := (R fr).length) (tgt := 40) hx hb dX10_copy_9 (by decide) (by omega) (by omega) (fun c_9 => ?_) (fun c_9 => ?_)
      · skip
        refine lv_aload_n hx hb dX10_copy_40 rfl (lv_at hl 0 rfl) ?_
        refine va_get (D := (dC, dI)) (ci := 10) (C := RX10) (T := TX10) (N := 22) hx hb hts hin10 hown hK hP 0 rfl rfl 3 (by decide) lk0 (fun _ h9 => h9) rfl dX10_copy_41 ?_
        refine lv_iload_n hx hb dX10_copy_44 rfl (lv_at hl 2 rfl) ?_
        refine lv_aload_n hx hb dX10_copy_45 rfl (lv_at hl 0 rfl) ?_
        refine va_get (D := (dC, dI)) (ci := 10) (C := RX10) (T := TX10) (N := 22) hx hb hts hin10 hown hK hP 0 rfl rfl 3 (by decide) lk0 (fun _ h9 => h9) rfl dX10_copy_46 ?_
        refine lv_iload_n hx hb dX10_copy_49 rfl (lv_at hl 1 rfl) ?_
        refine nx_iald hx hb hK hP 3 0 rfl rfl (i := fr) (by omega) (by decide) dX10_copy_50 ?_
        refine nx_ti (y := nI (R fr).length) ((hZ fr (by omega) (by omega)).2.1) ?_
        refine nx_iast hx hb hK hP (wsM_D hI) hS 3 0 rfl rfl (i := to) (by omega) (by decide) dX10_copy_51 (fun H locs hP hS => ?_)
        have hP : va_P (dC, dI) vwCl (wsM aC am v S (upd Z to (nI (R fr).length)) F G) H := hP
        have hZ := mOK_put hZ hlen (fun j hj => hc j (by omega))
        subst hQ
        exact W.vret hx hb hret (fun t ht hW => ⟨⟨(v, va_up R to (R fr), F, G), rfl, rfl, va_K.moved hW.alike hK, _, _, hZ, by rw [ht]; exact hP⟩, hS.F ht⟩) hS.2.2 dX10_copy_52
      · skip
        refine lv_aload_n hx hb dX10_copy_12 rfl (lv_at hl 0 rfl) ?_
        refine va_get (D := (dC, dI)) (ci := 10) (C := RX10) (T := TX10) (N := 22) hx hb hts hin10 hown hK hP 0 rfl rfl 2 (by decide) lk1 (fun _ h9 => h9) rfl dX10_copy_13 ?_
        refine lv_bipush (v := nI 60) hx hb dX10_copy_16 (by decide) ?_
        refine lv_iload_n hx hb dX10_copy_18 rfl (lv_at hl 2 rfl) ?_
        refine lv_imul hx hb dX10_copy_19 ?_
        refine nx_ti (y := nI (60 * to)) (pk_mul _ _) ?_
        refine lv_iload_n hx hb dX10_copy_20 rfl (lv_at hl 3 rfl) ?_
        refine lv_iadd hx hb dX10_copy_21 ?_
        refine nx_ti (y := nI (60 * to + i)) (nI_add _ _) ?_
        refine lv_aload_n hx hb dX10_copy_22 rfl (lv_at hl 0 rfl) ?_
        refine va_get (D := (dC, dI)) (ci := 10) (C := RX10) (T := TX10) (N := 22) hx hb hts hin10 hown hK hP 0 rfl rfl 2 (by decide) lk1 (fun _ h9 => h9) rfl dX10_copy_23 ?_
        refine lv_bipush (v := nI 60) hx hb dX10_copy_26 (by decide) ?_
        refine lv_iload_n hx hb dX10_copy_28 rfl (lv_at hl 1 rfl) ?_
        refine lv_imul hx hb dX10_copy_29 ?_
        refine nx_ti (y := nI (60 * fr)) (pk_mul _ _) ?_
        refine lv_iload_n hx hb dX10_copy_30 rfl (lv_at hl 3 rfl) ?_
        refine lv_iadd hx hb dX10_copy_31 ?_
        refine nx_ti (y := nI (60 * fr + i)) (nI_add _ _) ?_
        refine nx_iald hx hb hK hP 2 0 rfl rfl (i := 60 * fr + i) (by have := (hZ fr (by omega) (by omega)).1; omega) (by decide) dX10_copy_32 ?_
        refine nx_ti (y := gD (R fr) i) ((hZ fr (by omega) (by omega)).2.2 i (by omega)) ?_
        refine nx_iast hx hb hK hP (wsM_D hI) hS 2 0 rfl rfl (i := 60 * to + i) (by omega) (by decide) dX10_copy_33 (fun H locs hP hS => ?_)
        have hP : va_P (dC, dI) vwCl (wsM aC am v (upd S (60 * to + i) (gD (R fr) i)) Z F G) H := hP
        refine lv_iinc (v := nI (i + 1)) (lv' := [(3, .int (nI (i + 1))), (0, .ref (am 0)), (1, .int (nI fr)), (2, .int (nI to))]) hx hb dX10_copy_34 hl (k := 3) rfl (nI_add _ _) (by decide) rfl (fun ls hl => ?_)
        refine lv_goto (tgt := 2) hx hb dX10_copy_37 (by decide) ?_
        exact ih2 (i + 1) _ _ _ _ _ (by omega) (st_ext hc) (mOKe_st hZ (by omega) _) hP hS (by omega) (lv_sub hl [1, 2, 3, 0] rfl)
  exact L2 (60 - 0 + 1) 0 _ _ _ _ _ (by omega) (fun j hj => absurd hj (Nat.not_lt_zero j)) (fun k hk _ => hZ k hk) hP hS (Nat.lt_succ_self _) (lv_sub hl [1, 2, 3, 0] rfl)

set_option maxHeartbeats 4000000 in
set_option maxRecDepth 100000 in
/-- adds -/
theorem k_adds (l : Launch) (dC : Nat → ClassId) (dI : Nat → Nat → Nat) (aC : Nat → ClassId) (am : Nat → Nat) (hI : mI am) (v : Nat → Int32) (R : Nat → List Int32) (F : Nat → Nat → Int32) (G : Nat → Nat → Int64) (to : Nat) (hto : to < 30) (fr : Nat) (hfr : fr < 30) (hne : fr ≠ to) (bg en : Nat) (hbe : bg ≤ en) (hen : en ≤ (R fr).length) : Met l yX10_adds wsX10_adds ({ frames := 1, cells := 0, slots := 0, locals := 22 } : Room) (va_Pc [.ref (am 0), .int (nI to), .int (nI fr), .int (nI bg), .int (nI en)] (MB dC dI aC am (v, R, F, G))) (va_Qi (fun (x : Int32) (u : MS) => x = bI ((R to).length + (en - bg) ≤ 60) ∧ (v, if (R to).length + (en - bg) ≤ 60 then va_up R to (R to ++ slc (R fr) bg en) else R, F, G) = u) (MB dC dI aC am) (mA am)) 0 0 (mA am) := by
  refine Met.ofW (cc := cX10_adds) (maxL := 6) (ret := (some .boolean)) (by decide) rfl ?_
  intro p e s m args below meth c s₁ B hml hv
  obtain ⟨rfl, hK, S, Z, hZ, hP⟩ := hv
  have hx := B.exec
  have hb := B.bytes
  have hret := B.returns
  have hts := atoms_spec (ws := wsX10_adds) B.pre
  have hown : s.vm.findClass RX10 = some m.cls := findClass_of_methodNamed B.named
  have hlocks := B.notSynchronized
  dsimp only at hZ hP
  have lk0 := hts (.fieldLink RX10 16 "LeafTreesModel" "size" "[I") (by decide +kernel)
  have lk1 := hts (.fieldLink RX10 13 "LeafTreesModel" "symbol" "[I") (by decide +kernel)
  have hin10 : ∀ w ∈ u_ws RX10 TX10 22, w ∈ wsX10_adds := by decide +kernel
  have hS : va_S (mA am) s.heap s.heap [] := va_S.rf
  have hl := lv_entry [.ref (am 0), .int (nI to), .int (nI fr), .int (nI bg), .int (nI en)] (n := 6) (Nat.le_of_ble_eq_true rfl)
  rw [lg_entry_eq]
  generalize (lg_sl [.ref (am 0), .int (nI to), .int (nI fr), .int (nI bg), .int (nI en)] ++ List.replicate (6 - (lg_sl [.ref (am 0), .int (nI to), .int (nI fr), .int (nI bg), .int (nI en)]).length) Slot.unset).toArray = ls at hl ⊢
  have hl : lv_has ls 6 [(0, .ref (am 0)), (1, .int (nI to)), (2, .int (nI fr)), (3, .int (nI bg)), (4, .int (nI en))] := hl
  refine nx_Q (R := ({ frames := 1, cells := 0, slots := 0, locals := 22 } : Room)) (fun Q hQ => ?_)
  skip
  have hlenf := (hZ fr hfr).1
  have hlent := (hZ to hto).1
  refine lv_aload_n hx hb dX10_adds_0 rfl (lv_at hl 0 rfl) ?_
  refine va_get (D := (dC, dI)) (ci := 10) (C := RX10) (T := TX10) (N := 22) hx hb hts hin10 hown hK hP 0 rfl rfl 3 (by decide) lk0 (fun _ h9 => h9) rfl dX10_adds_1 ?_
  refine lv_iload_n hx hb dX10_adds_4 rfl (lv_at hl 1 rfl) ?_
  refine nx_iald hx hb hK hP 3 0 rfl rfl (i := to) (by omega) (by decide) dX10_adds_5 ?_
  refine nx_ti (y := nI (R to).length) ((hZ to (by omega)).2.1) ?_
  refine lv_iload hx hb dX10_adds_6 (lv_at hl 4 rfl) ?_
  refine lv_iadd hx hb dX10_adds_8 ?_
  refine nx_ti (y := nI ((R to).length + en)) (nI_add _ _) ?_
  refine lv_iload_n hx hb dX10_adds_9 rfl (lv_at hl 3 rfl) ?_
  refine lv_isub hx hb dX10_adds_10 ?_
  refine nx_ti (y := nI (((R to).length + en) - bg)) (pk_sub (by omega)) ?_
  refine lv_bipush (v := nI 60) hx hb dX10_adds_11 (by decide) ?_
  refine nx_icmp_le (a := (((R to).length + en) - bg)) (b := 60) (tgt := 18) hx hb dX10_adds_13 (by decide) (by omega) (by omega) (fun c_13 => ?_) (fun c_13 => ?_)
  · skip
    refine lv_iload_n hx hb dX10_adds_18 rfl (lv_at hl 3 rfl) ?_
    refine lv_istore (lv' := [(5, .int (nI bg)), (0, .ref (am 0)), (1, .int (nI to)), (2, .int (nI fr)), (3, .int (nI bg)), (4, .int (nI en))]) hx hb dX10_adds_19 hl (by decide) rfl (fun ls hl => ?_)
    have L21 : ∀ (fuel21 : Nat) (i : Nat) (S Z : Nat → Int32) (H : Heap) (locs : List Loc) (ls : Array Slot), (bg ≤ i) → (i ≤ en) → mOK S Z (va_up R to (R to ++ slc (R fr) bg i)) → va_P (dC, dI) vwCl (wsM aC am v S Z F G) H → va_S (mA am) s.heap H locs → 60 - i < fuel21 → lv_has ls 6 [(0, .ref (am 0)), (1, .int (nI to)), (2, .int (nI fr)), (4, .int (nI en)), (5, .int (nI i))] → W p l e ({ frames := 1, cells := 0, slots := 0, locals := 22 } : Room) s m ([.ref (am 0), .int (nI to), .int (nI fr), .int (nI bg), .int (nI en)] : List Value).toArray below meth c H locs 0 0 Q (F0 m 21 ls []) := by
      intro fuel21
      induction fuel21 with
      | zero => intro i S Z H locs ls hbi hie hZ hP hS hf21 hl; exact absurd hf21 (Nat.not_lt_zero _)
      | succ fuel21 ih21 =>
        intro i S Z H locs ls hbi hie hZ hP hS hf21 hl
        refine lv_iload hx hb dX10_adds_21 (lv_at hl 4 rfl) ?_
        refine lv_iload hx hb dX10_adds_23 (lv_at hl 3 rfl) ?_
        refine nx_icmp_ge (a := i) (b := en) (tgt := 51) hx hb dX10_adds_25 (by decide) (by omega) (by omega) (fun c_25 => ?_) (fun c_25 => ?_)
        · skip
          refine lv_iconst (v := nI 1) hx hb dX10_adds_51 (by decide) ?_
          subst hQ
          exact W.zret (v := nI 1) hx hb hret (rfl) (fun t ht hW => ⟨⟨_, (v, va_up R to (R to ++ slc (R fr) bg i), F, G), rfl, ⟨(bI_t (by omega)).symm, by rw [if_pos (by omega), show i = en by omega]⟩, va_K.moved hW.alike hK, _, _, hZ, by rw [ht]; exact hP⟩, hS.F ht⟩) hS.2.2 dX10_adds_52
        · skip
          refine lv_aload_n hx hb dX10_adds_28 rfl (lv_at hl 0 rfl) ?_
          refine lv_iload_n hx hb dX10_adds_29 rfl (lv_at hl 1 rfl) ?_
          refine lv_aload_n hx hb dX10_adds_30 rfl (lv_at hl 0 rfl) ?_
          refine va_get (D := (dC, dI)) (ci := 10) (C := RX10) (T := TX10) (N := 22) hx hb hts hin10 hown hK hP 0 rfl rfl 2 (by decide) lk1 (fun _ h9 => h9) rfl dX10_adds_31 ?_
          refine lv_bipush (v := nI 60) hx hb dX10_adds_34 (by decide) ?_
          refine lv_iload_n hx hb dX10_adds_36 rfl (lv_at hl 2 rfl) ?_
          refine lv_imul hx hb dX10_adds_37 ?_
          refine nx_ti (y := nI (60 * fr)) (pk_mul _ _) ?_
          refine lv_iload hx hb dX10_adds_38 (lv_at hl 4 rfl) ?_
          refine lv_iadd hx hb dX10_adds_40 ?_
          refine nx_ti (y := nI (60 * fr + i)) (nI_add _ _) ?_
          refine nx_iald hx hb hK hP 2 0 rfl rfl (i := 60 * fr + i) (by omega) (by decide) dX10_adds_41 ?_
          refine nx_ti (y := gD ((va_up R to (R to ++ slc (R fr) bg i)) fr) i) ((hZ fr (by omega)).2.2 i (by rw [upn hne]; omega)) ?_
          refine nx_ti (y := gD (R fr) i) (by rw [upn hne]) ?_
          refine mc_v (As := [.int (nI to), .int (gD (R fr) i)]) (rest := []) ⟨hx, hb, hml, hown, hts⟩ (k_comes l dC dI aC am hI v (va_up R to (R to ++ slc (R fr) bg i)) F G to hto (by rw [va_up_self, List.length_append, slc_len (by omega)]; omega) (gD (R fr) i)) (cwV 2 hts gX10_adds_X10_comes rfl rfl rfl (by decide +kernel) ⟨Nat.le_of_ble_eq_true rfl, Nat.le_of_ble_eq_true rfl⟩) hK hZ hP hS rfl hl.1 rfl (Nat.le_of_ble_eq_true rfl) dX10_adds_42 ⟨Nat.le_of_ble_eq_true rfl, Nat.le_of_ble_eq_true rfl⟩ (fun v1 R1 F1 G1 S Z H locs h_42 hZ hP hS => ?_)
          cases h_42
          rw [up_up, va_up_self, List.append_assoc, slc_snoc hbi (by omega)] at hZ
          refine lv_iinc (v := nI (i + 1)) (lv' := [(5, .int (nI (i + 1))), (0, .ref (am 0)), (1, .int (nI to)), (2, .int (nI fr)), (4, .int (nI en))]) hx hb dX10_adds_45 hl (k := 4) rfl (nI_add _ _) (by decide) rfl (fun ls hl => ?_)
          refine lv_goto (tgt := 21) hx hb dX10_adds_48 (by decide) ?_
          exact ih21 (i + 1) _ _ _ _ _ (by omega) (by omega) hZ hP hS (by omega) (lv_sub hl [1, 2, 3, 4, 0] rfl)
    exact L21 (60 - bg + 1) bg _ _ _ _ _ (by omega) (by omega) (by rw [slc_nil, List.append_nil, up_eta]; exact hZ) hP hS (Nat.lt_succ_self _) (lv_sub hl [1, 2, 3, 5, 0] rfl)
  · skip
    refine lv_iconst (v := nI 0) hx hb dX10_adds_16 (by decide) ?_
    subst hQ
    exact W.zret (v := nI 0) hx hb hret (rfl) (fun t ht hW => ⟨⟨_, (v, R, F, G), rfl, ⟨(bI_f (by omega)).symm, by rw [if_neg (by omega)]⟩, va_K.moved hW.alike hK, _, _, hZ, by rw [ht]; exact hP⟩, hS.F ht⟩) hS.2.2 dX10_adds_17

set_option maxHeartbeats 4000000 in
set_option maxRecDepth 100000 in
/-- isSame -/
theorem k_isSame (l : Launch) (dC : Nat → ClassId) (dI : Nat → Nat → Nat) (aC : Nat → ClassId) (am : Nat → Nat) (v : Nat → Int32) (R : Nat → List Int32) (F : Nat → Nat → Int32) (G : Nat → Nat → Int64) (a : Nat) (ha : a < 30) (b : Nat) (hb0 : b < 30) : Met l yX10_isSame wsX10_isSame ({ frames := 0, cells := 0, slots := 0, locals := 0 } : Room) (va_Pc [.ref (am 0), .int (nI a), .int (nI b)] (MB dC dI aC am (v, R, F, G))) (vp_Si (fun x => x = bI (R a = R b))) 0 0 (fun _ => False) := by
  refine Met.ofW (cc := cX10_isSame) (maxL := 5) (ret := (some .boolean)) (by decide) rfl ?_
  intro p e s m args below meth c s₁ B hml hv
  obtain ⟨rfl, hK, S, Z, hZ, hP⟩ := hv
  have hx := B.exec
  have hb := B.bytes
  have hret := B.returns
  have hts := atoms_spec (ws := wsX10_isSame) B.pre
  have hown : s.vm.findClass RX10 = some m.cls := findClass_of_methodNamed B.named
  have hlocks := B.notSynchronized
  dsimp only at hZ hP
  have lk0 := hts (.fieldLink RX10 16 "LeafTreesModel" "size" "[I") (by decide +kernel)
  have lk1 := hts (.fieldLink RX10 13 "LeafTreesModel" "symbol" "[I") (by decide +kernel)
  have hin10 : ∀ w ∈ u_ws RX10 TX10 22, w ∈ wsX10_isSame := by decide +kernel
  have hl := lv_entry [.ref (am 0), .int (nI a), .int (nI b)] (n := 5) (Nat.le_of_ble_eq_true rfl)
  rw [lg_entry_eq]
  generalize (lg_sl [.ref (am 0), .int (nI a), .int (nI b)] ++ List.replicate (5 - (lg_sl [.ref (am 0), .int (nI a), .int (nI b)]).length) Slot.unset).toArray = ls at hl ⊢
  have hl : lv_has ls 5 [(0, .ref (am 0)), (1, .int (nI a)), (2, .int (nI b))] := hl
  refine nx_Q (R := ({ frames := 0, cells := 0, slots := 0, locals := 0 } : Room)) (fun Q hQ => ?_)
  have hla := (hZ a ha).1
  have hlb := (hZ b hb0).1
  refine lv_aload_n hx hb dX10_isSame_0 rfl (lv_at hl 0 rfl) ?_
  refine va_get (D := (dC, dI)) (ci := 10) (C := RX10) (T := TX10) (N := 22) hx hb hts hin10 hown hK hP 0 rfl rfl 3 (by decide) lk0 (fun _ h9 => h9) rfl dX10_isSame_1 ?_
  refine lv_iload_n hx hb dX10_isSame_4 rfl (lv_at hl 1 rfl) ?_
  refine nx_iald hx hb hK hP 3 0 rfl rfl (i := a) (by omega) (by decide) dX10_isSame_5 ?_
  refine nx_ti (y := nI (R a).length) ((hZ a (by omega)).2.1) ?_
  refine lv_aload_n hx hb dX10_isSame_6 rfl (lv_at hl 0 rfl) ?_
  refine va_get (D := (dC, dI)) (ci := 10) (C := RX10) (T := TX10) (N := 22) hx hb hts hin10 hown hK hP 0 rfl rfl 3 (by decide) lk0 (fun _ h9 => h9) rfl dX10_isSame_7 ?_
  refine lv_iload_n hx hb dX10_isSame_10 rfl (lv_at hl 2 rfl) ?_
  refine nx_iald hx hb hK hP 3 0 rfl rfl (i := b) (by omega) (by decide) dX10_isSame_11 ?_
  refine nx_ti (y := nI (R b).length) ((hZ b (by omega)).2.1) ?_
  refine nx_icmp_ne (a := (R a).length) (b := (R b).length) (tgt := 19) hx hb dX10_isSame_12 (by decide) (by omega) (by omega) (fun c_12 => ?_) (fun c_12 => ?_)
  · skip
    refine lv_iconst (v := nI 0) hx hb dX10_isSame_19 (by decide) ?_
    refine nx_ti (y := bI ((R a).length = (R b).length ∧ eqF (gD (R a)) (gD (R b)) 0 = true)) ((bI_f (fun h => c_12 h.1)).symm) ?_
    refine lv_istore_n (lv' := [(3, .int (bI ((R a).length = (R b).length ∧ eqF (gD (R a)) (gD (R b)) 0 = true))), (0, .ref (am 0)), (1, .int (nI a)), (2, .int (nI b))]) hx hb dX10_isSame_20 rfl hl (by decide) rfl (fun ls hl => ?_)
    refine lv_iconst (v := nI 0) hx hb dX10_isSame_21 (by decide) ?_
    refine lv_istore (lv' := [(4, .int (nI 0)), (3, .int (bI ((R a).length = (R b).length ∧ eqF (gD (R a)) (gD (R b)) 0 = true))), (0, .ref (am 0)), (1, .int (nI a)), (2, .int (nI b))]) hx hb dX10_isSame_22 hl (by decide) rfl (fun ls hl => ?_)
    have L24 : ∀ (fuel24 : Nat) (i : Nat) (ls : Array Slot), (i ≤ (R a).length) → 60 - i < fuel24 → lv_has ls 5 [(0, .ref (am 0)), (1, .int (nI a)), (2, .int (nI b)), (3, .int (bI ((R a).length = (R b).length ∧ eqF (gD (R a)) (gD (R b)) i = true))), (4, .int (nI i))] → W p l e ({ frames := 0, cells := 0, slots := 0, locals := 0 } : Room) s m ([.ref (am 0), .int (nI a), .int (nI b)] : List Value).toArray below meth c s.heap [] 0 0 Q (F0 m 24 ls []) := by
      intro fuel24
      induction fuel24 with
      | zero => intro i ls hi hf24 hl; exact absurd hf24 (Nat.not_lt_zero _)
      | succ fuel24 ih24 =>
        intro i ls hi hf24 hl
        refine lv_iload hx hb dX10_isSame_24 (lv_at hl 4 rfl) ?_
        refine lv_aload_n hx hb dX10_isSame_26 rfl (lv_at hl 0 rfl) ?_
        refine va_get (D := (dC, dI)) (ci := 10) (C := RX10) (T := TX10) (N := 22) hx hb hts hin10 hown hK hP 0 rfl rfl 3 (by decide) lk0 (fun _ h9 => h9) rfl dX10_isSame_27 ?_
        refine lv_iload_n hx hb dX10_isSame_30 rfl (lv_at hl 1 rfl) ?_
        refine nx_iald hx hb hK hP 3 0 rfl rfl (i := a) (by omega) (by decide) dX10_isSame_31 ?_
        refine nx_ti (y := nI (R a).length) ((hZ a (by omega)).2.1) ?_
        refine nx_icmp_ge (a := i) (b := (R a).length) (tgt := 78) hx hb dX10_isSame_32 (by decide) (by omega) (by omega) (fun c_32 => ?_) (fun c_32 => ?_)
        · skip
          refine lv_iload_n hx hb dX10_isSame_78 rfl (lv_at hl 3 rfl) ?_
          subst hQ
          exact W.zret (v := bI ((R a).length = (R b).length ∧ eqF (gD (R a)) (gD (R b)) i = true)) hx hb hret (bI_nar) (fun t ht hW => ⟨_, rfl, bI_iff (same_iff (by omega)), ht⟩) (fun q h => by cases h) dX10_isSame_79
        · skip
          refine lv_iload_n hx hb dX10_isSame_35 rfl (lv_at hl 3 rfl) ?_
          refine nx_bz (tgt := 78) hx hb dX10_isSame_36 (by decide) (fun c_36 => ?_) (fun c_36 => ?_)
          · skip
            refine lv_iload_n hx hb dX10_isSame_78 rfl (lv_at hl 3 rfl) ?_
            subst hQ
            exact W.zret (v := bI ((R a).length = (R b).length ∧ eqF (gD (R a)) (gD (R b)) i = true)) hx hb hret (bI_nar) (fun t ht hW => ⟨_, rfl, bI_iff ⟨fun h => absurd h c_36, fun h => absurd (same_of i h) c_36⟩, ht⟩) (fun q h => by cases h) dX10_isSame_79
          · skip
            refine lv_aload_n hx hb dX10_isSame_39 rfl (lv_at hl 0 rfl) ?_
            refine va_get (D := (dC, dI)) (ci := 10) (C := RX10) (T := TX10) (N := 22) hx hb hts hin10 hown hK hP 0 rfl rfl 2 (by decide) lk1 (fun _ h9 => h9) rfl dX10_isSame_40 ?_
            refine lv_bipush (v := nI 60) hx hb dX10_isSame_43 (by decide) ?_
            refine lv_iload_n hx hb dX10_isSame_45 rfl (lv_at hl 1 rfl) ?_
            refine lv_imul hx hb dX10_isSame_46 ?_
            refine nx_ti (y := nI (60 * a)) (pk_mul _ _) ?_
            refine lv_iload hx hb dX10_isSame_47 (lv_at hl 4 rfl) ?_
            refine lv_iadd hx hb dX10_isSame_49 ?_
            refine nx_ti (y := nI (60 * a + i)) (nI_add _ _) ?_
            refine nx_iald hx hb hK hP 2 0 rfl rfl (i := 60 * a + i) (by have := (hZ a (by omega)).1; omega) (by decide) dX10_isSame_50 ?_
            refine nx_ti (y := gD (R a) i) ((hZ a (by omega)).2.2 i (by omega)) ?_
            refine lv_aload_n hx hb dX10_isSame_51 rfl (lv_at hl 0 rfl) ?_
            refine va_get (D := (dC, dI)) (ci := 10) (C := RX10) (T := TX10) (N := 22) hx hb hts hin10 hown hK hP 0 rfl rfl 2 (by decide) lk1 (fun _ h9 => h9) rfl dX10_isSame_52 ?_
            refine lv_bipush (v := nI 60) hx hb dX10_isSame_55 (by decide) ?_
            refine lv_iload_n hx hb dX10_isSame_57 rfl (lv_at hl 2 rfl) ?_
            refine lv_imul hx hb dX10_isSame_58 ?_
            refine nx_ti (y := nI (60 * b)) (pk_mul _ _) ?_
            refine lv_iload hx hb dX10_isSame_59 (lv_at hl 4 rfl) ?_
            refine lv_iadd hx hb dX10_isSame_61 ?_
            refine nx_ti (y := nI (60 * b + i)) (nI_add _ _) ?_
            refine nx_iald hx hb hK hP 2 0 rfl rfl (i := 60 * b + i) (by have := (hZ b (by omega)).1; omega) (by decide) dX10_isSame_62 ?_
            refine nx_ti (y := gD (R b) i) ((hZ b (by omega)).2.2 i (by omega)) ?_
            refine lv_icmp_ne (tgt := 70) hx hb dX10_isSame_63 (by decide) (fun c_63 => ?_) (fun c_63 => ?_)
            · skip
              refine lv_iconst (v := nI 0) hx hb dX10_isSame_70 (by decide) ?_
              refine nx_ti (y := bI ((R a).length = (R b).length ∧ eqF (gD (R a)) (gD (R b)) (i + 1) = true)) ((bI_f (fun h => c_63 (by have := h.2; simp only [eqF, Bool.and_eq_true, decide_eq_true_eq] at this; exact this.2))).symm) ?_
              refine lv_istore_n (lv' := [(3, .int (bI ((R a).length = (R b).length ∧ eqF (gD (R a)) (gD (R b)) (i + 1) = true))), (0, .ref (am 0)), (1, .int (nI a)), (2, .int (nI b)), (4, .int (nI i))]) hx hb dX10_isSame_71 rfl hl (by decide) rfl (fun ls hl => ?_)
              refine lv_iinc (v := nI (i + 1)) (lv' := [(4, .int (nI (i + 1))), (3, .int (bI ((R a).length = (R b).length ∧ eqF (gD (R a)) (gD (R b)) (i + 1) = true))), (0, .ref (am 0)), (1, .int (nI a)), (2, .int (nI b))]) hx hb dX10_isSame_72 hl (k := 4) rfl (nI_add _ _) (by decide) rfl (fun ls hl => ?_)
              refine lv_goto (tgt := 24) hx hb dX10_isSame_75 (by decide) ?_
              exact ih24 (i + 1) _ (by omega) (by omega) (lv_sub hl [2, 3, 4, 1, 0] rfl)
            · skip
              refine lv_iconst (v := nI 1) hx hb dX10_isSame_66 (by decide) ?_
              refine lv_goto (tgt := 71) hx hb dX10_isSame_67 (by decide) ?_
              refine nx_ti (y := bI ((R a).length = (R b).length ∧ eqF (gD (R a)) (gD (R b)) (i + 1) = true)) ((bI_t ⟨c_36.1, by simp only [eqF, Bool.and_eq_true, decide_eq_true_eq]; exact ⟨c_36.2, c_63⟩⟩).symm) ?_
              refine lv_istore_n (lv' := [(3, .int (bI ((R a).length = (R b).length ∧ eqF (gD (R a)) (gD (R b)) (i + 1) = true))), (0, .ref (am 0)), (1, .int (nI a)), (2, .int (nI b)), (4, .int (nI i))]) hx hb dX10_isSame_71 rfl hl (by decide) rfl (fun ls hl => ?_)
              refine lv_iinc (v := nI (i + 1)) (lv' := [(4, .int (nI (i + 1))), (3, .int (bI ((R a).length = (R b).length ∧ eqF (gD (R a)) (gD (R b)) (i + 1) = true))), (0, .ref (am 0)), (1, .int (nI a)), (2, .int (nI b))]) hx hb dX10_isSame_72 hl (k := 4) rfl (nI_add _ _) (by decide) rfl (fun ls hl => ?_)
              refine lv_goto (tgt := 24) hx hb dX10_isSame_75 (by decide) ?_
              exact ih24 (i + 1) _ (by omega) (by omega) (lv_sub hl [2, 3, 4, 1, 0] rfl)
    exact L24 (60 - 0 + 1) 0 _ (by omega) (Nat.lt_succ_self _) (lv_sub hl [2, 3, 4, 1, 0] rfl)
  · skip
    refine lv_iconst (v := nI 1) hx hb dX10_isSame_15 (by decide) ?_
    refine lv_goto (tgt := 20) hx hb dX10_isSame_16 (by decide) ?_
    refine nx_ti (y := bI ((R a).length = (R b).length ∧ eqF (gD (R a)) (gD (R b)) 0 = true)) ((bI_t ⟨c_12, rfl⟩).symm) ?_
    refine lv_istore_n (lv' := [(3, .int (bI ((R a).length = (R b).length ∧ eqF (gD (R a)) (gD (R b)) 0 = true))), (0, .ref (am 0)), (1, .int (nI a)), (2, .int (nI b))]) hx hb dX10_isSame_20 rfl hl (by decide) rfl (fun ls hl => ?_)
    refine lv_iconst (v := nI 0) hx hb dX10_isSame_21 (by decide) ?_
    refine lv_istore (lv' := [(4, .int (nI 0)), (3, .int (bI ((R a).length = (R b).length ∧ eqF (gD (R a)) (gD (R b)) 0 = true))), (0, .ref (am 0)), (1, .int (nI a)), (2, .int (nI b))]) hx hb dX10_isSame_22 hl (by decide) rfl (fun ls hl => ?_)
    have L24 : ∀ (fuel24 : Nat) (i : Nat) (ls : Array Slot), (i ≤ (R a).length) → 60 - i < fuel24 → lv_has ls 5 [(0, .ref (am 0)), (1, .int (nI a)), (2, .int (nI b)), (3, .int (bI ((R a).length = (R b).length ∧ eqF (gD (R a)) (gD (R b)) i = true))), (4, .int (nI i))] → W p l e ({ frames := 0, cells := 0, slots := 0, locals := 0 } : Room) s m ([.ref (am 0), .int (nI a), .int (nI b)] : List Value).toArray below meth c s.heap [] 0 0 Q (F0 m 24 ls []) := by
      intro fuel24
      induction fuel24 with
      | zero => intro i ls hi hf24 hl; exact absurd hf24 (Nat.not_lt_zero _)
      | succ fuel24 ih24 =>
        intro i ls hi hf24 hl
        refine lv_iload hx hb dX10_isSame_24 (lv_at hl 4 rfl) ?_
        refine lv_aload_n hx hb dX10_isSame_26 rfl (lv_at hl 0 rfl) ?_
        refine va_get (D := (dC, dI)) (ci := 10) (C := RX10) (T := TX10) (N := 22) hx hb hts hin10 hown hK hP 0 rfl rfl 3 (by decide) lk0 (fun _ h9 => h9) rfl dX10_isSame_27 ?_
        refine lv_iload_n hx hb dX10_isSame_30 rfl (lv_at hl 1 rfl) ?_
        refine nx_iald hx hb hK hP 3 0 rfl rfl (i := a) (by omega) (by decide) dX10_isSame_31 ?_
        refine nx_ti (y := nI (R a).length) ((hZ a (by omega)).2.1) ?_
        refine nx_icmp_ge (a := i) (b := (R a).length) (tgt := 78) hx hb dX10_isSame_32 (by decide) (by omega) (by omega) (fun c_32 => ?_) (fun c_32 => ?_)
        · skip
          refine lv_iload_n hx hb dX10_isSame_78 rfl (lv_at hl 3 rfl) ?_
          subst hQ
          exact W.zret (v := bI ((R a).length = (R b).length ∧ eqF (gD (R a)) (gD (R b)) i = true)) hx hb hret (bI_nar) (fun t ht hW => ⟨_, rfl, bI_iff (same_iff (by omega)), ht⟩) (fun q h => by cases h) dX10_isSame_79
        · skip
          refine lv_iload_n hx hb dX10_isSame_35 rfl (lv_at hl 3 rfl) ?_
          refine nx_bz (tgt := 78) hx hb dX10_isSame_36 (by decide) (fun c_36 => ?_) (fun c_36 => ?_)
          · skip
            refine lv_iload_n hx hb dX10_isSame_78 rfl (lv_at hl 3 rfl) ?_
            subst hQ
            exact W.zret (v := bI ((R a).length = (R b).length ∧ eqF (gD (R a)) (gD (R b)) i = true)) hx hb hret (bI_nar) (fun t ht hW => ⟨_, rfl, bI_iff ⟨fun h => absurd h c_36, fun h => absurd (same_of i h) c_36⟩, ht⟩) (fun q h => by cases h) dX10_isSame_79
          · skip
            refine lv_aload_n hx hb dX10_isSame_39 rfl (lv_at hl 0 rfl) ?_
            refine va_get (D := (dC, dI)) (ci := 10) (C := RX10) (T := TX10) (N := 22) hx hb hts hin10 hown hK hP 0 rfl rfl 2 (by decide) lk1 (fun _ h9 => h9) rfl dX10_isSame_40 ?_
            refine lv_bipush (v := nI 60) hx hb dX10_isSame_43 (by decide) ?_
            refine lv_iload_n hx hb dX10_isSame_45 rfl (lv_at hl 1 rfl) ?_
            refine lv_imul hx hb dX10_isSame_46 ?_
            refine nx_ti (y := nI (60 * a)) (pk_mul _ _) ?_
            refine lv_iload hx hb dX10_isSame_47 (lv_at hl 4 rfl) ?_
            refine lv_iadd hx hb dX10_isSame_49 ?_
            refine nx_ti (y := nI (60 * a + i)) (nI_add _ _) ?_
            refine nx_iald hx hb hK hP 2 0 rfl rfl (i := 60 * a + i) (by have := (hZ a (by omega)).1; omega) (by decide) dX10_isSame_50 ?_
            refine nx_ti (y := gD (R a) i) ((hZ a (by omega)).2.2 i (by omega)) ?_
            refine lv_aload_n hx hb dX10_isSame_51 rfl (lv_at hl 0 rfl) ?_
            refine va_get (D := (dC, dI)) (ci := 10) (C := RX10) (T := TX10) (N := 22) hx hb hts hin10 hown hK hP 0 rfl rfl 2 (by decide) lk1 (fun _ h9 => h9) rfl dX10_isSame_52 ?_
            refine lv_bipush (v := nI 60) hx hb dX10_isSame_55 (by decide) ?_
            refine lv_iload_n hx hb dX10_isSame_57 rfl (lv_at hl 2 rfl) ?_
            refine lv_imul hx hb dX10_isSame_58 ?_
            refine nx_ti (y := nI (60 * b)) (pk_mul _ _) ?_
            refine lv_iload hx hb dX10_isSame_59 (lv_at hl 4 rfl) ?_
            refine lv_iadd hx hb dX10_isSame_61 ?_
            refine nx_ti (y := nI (60 * b + i)) (nI_add _ _) ?_
            refine nx_iald hx hb hK hP 2 0 rfl rfl (i := 60 * b + i) (by have := (hZ b (by omega)).1; omega) (by decide) dX10_isSame_62 ?_
            refine nx_ti (y := gD (R b) i) ((hZ b (by omega)).2.2 i (by omega)) ?_
            refine lv_icmp_ne (tgt := 70) hx hb dX10_isSame_63 (by decide) (fun c_63 => ?_) (fun c_63 => ?_)
            · skip
              refine lv_iconst (v := nI 0) hx hb dX10_isSame_70 (by decide) ?_
              refine nx_ti (y := bI ((R a).length = (R b).length ∧ eqF (gD (R a)) (gD (R b)) (i + 1) = true)) ((bI_f (fun h => c_63 (by have := h.2; simp only [eqF, Bool.and_eq_true, decide_eq_true_eq] at this; exact this.2))).symm) ?_
              refine lv_istore_n (lv' := [(3, .int (bI ((R a).length = (R b).length ∧ eqF (gD (R a)) (gD (R b)) (i + 1) = true))), (0, .ref (am 0)), (1, .int (nI a)), (2, .int (nI b)), (4, .int (nI i))]) hx hb dX10_isSame_71 rfl hl (by decide) rfl (fun ls hl => ?_)
              refine lv_iinc (v := nI (i + 1)) (lv' := [(4, .int (nI (i + 1))), (3, .int (bI ((R a).length = (R b).length ∧ eqF (gD (R a)) (gD (R b)) (i + 1) = true))), (0, .ref (am 0)), (1, .int (nI a)), (2, .int (nI b))]) hx hb dX10_isSame_72 hl (k := 4) rfl (nI_add _ _) (by decide) rfl (fun ls hl => ?_)
              refine lv_goto (tgt := 24) hx hb dX10_isSame_75 (by decide) ?_
              exact ih24 (i + 1) _ (by omega) (by omega) (lv_sub hl [2, 3, 4, 1, 0] rfl)
            · skip
              refine lv_iconst (v := nI 1) hx hb dX10_isSame_66 (by decide) ?_
              refine lv_goto (tgt := 71) hx hb dX10_isSame_67 (by decide) ?_
              refine nx_ti (y := bI ((R a).length = (R b).length ∧ eqF (gD (R a)) (gD (R b)) (i + 1) = true)) ((bI_t ⟨c_36.1, by simp only [eqF, Bool.and_eq_true, decide_eq_true_eq]; exact ⟨c_36.2, c_63⟩⟩).symm) ?_
              refine lv_istore_n (lv' := [(3, .int (bI ((R a).length = (R b).length ∧ eqF (gD (R a)) (gD (R b)) (i + 1) = true))), (0, .ref (am 0)), (1, .int (nI a)), (2, .int (nI b)), (4, .int (nI i))]) hx hb dX10_isSame_71 rfl hl (by decide) rfl (fun ls hl => ?_)
              refine lv_iinc (v := nI (i + 1)) (lv' := [(4, .int (nI (i + 1))), (3, .int (bI ((R a).length = (R b).length ∧ eqF (gD (R a)) (gD (R b)) (i + 1) = true))), (0, .ref (am 0)), (1, .int (nI a)), (2, .int (nI b))]) hx hb dX10_isSame_72 hl (k := 4) rfl (nI_add _ _) (by decide) rfl (fun ls hl => ?_)
              refine lv_goto (tgt := 24) hx hb dX10_isSame_75 (by decide) ?_
              exact ih24 (i + 1) _ (by omega) (by omega) (lv_sub hl [2, 3, 4, 1, 0] rfl)
    exact L24 (60 - 0 + 1) 0 _ (by omega) (Nat.lt_succ_self _) (lv_sub hl [2, 3, 4, 1, 0] rfl)

set_option maxHeartbeats 4000000 in
set_option maxRecDepth 100000 in
/-- isLeft -/
theorem k_isLeft (l : Launch) (dC : Nat → ClassId) (dI : Nat → Nat → Nat) (aC : Nat → ClassId) (am : Nat → Nat) (v : Nat → Int32) (R : Nat → List Int32) (F : Nat → Nat → Int32) (G : Nat → Nat → Int64) (A : Nat) (hE : vE A (F 1)) (a : Int32) (hV : ∀ r, r < 10 → vR A (R r)) : Met l yX10_isLeft wsX10_isLeft ({ frames := 4, cells := 0, slots := 0, locals := 87 } : Room) (va_Pc [.ref (am 0), .int a] (MB dC dI aC am (v, R, F, G))) (vp_Si (fun x => x = bI ((rIn a 10 ∧ isT (F 1) (R a.toNatClampNeg)) ∧ 1 ≤ (R a.toNatClampNeg).length - lvs (R a.toNatClampNeg) ∧ (R a.toNatClampNeg).length - lvs (R a.toNatClampNeg) ≤ 4))) 0 0 (fun _ => False) := by
  refine Met.ofW (cc := cX10_isLeft) (maxL := 2) (ret := (some .boolean)) (by decide) rfl ?_
  intro p e s m args below meth c s₁ B hml hv
  obtain ⟨rfl, hK, S, Z, hZ, hP⟩ := hv
  have hx := B.exec
  have hb := B.bytes
  have hret := B.returns
  have hts := atoms_spec (ws := wsX10_isLeft) B.pre
  have hown : s.vm.findClass RX10 = some m.cls := findClass_of_methodNamed B.named
  have hlocks := B.notSynchronized
  dsimp only at hZ hP
  have lk0 := hts (.fieldLink RX10 16 "LeafTreesModel" "size" "[I") (by decide +kernel)
  have hin10 : ∀ w ∈ u_ws RX10 TX10 22, w ∈ wsX10_isLeft := by decide +kernel
  have hl := lv_entry [.ref (am 0), .int a] (n := 2) (Nat.le_of_ble_eq_true rfl)
  rw [lg_entry_eq]
  generalize (lg_sl [.ref (am 0), .int a] ++ List.replicate (2 - (lg_sl [.ref (am 0), .int a]).length) Slot.unset).toArray = ls at hl ⊢
  have hl : lv_has ls 2 [(0, .ref (am 0)), (1, .int a)] := hl
  refine nx_Q (R := ({ frames := 4, cells := 0, slots := 0, locals := 87 } : Room)) (fun Q hQ => ?_)
  refine lv_aload_n hx hb dX10_isLeft_0 rfl (lv_at hl 0 rfl) ?_
  refine lv_iload_n hx hb dX10_isLeft_1 rfl (lv_at hl 1 rfl) ?_
  refine mp_i (As := [.int a]) (rest := []) ⟨hx, hb, hml, hown, hts⟩ (k_isTreeRow l dC dI aC am v R F G A hE a hV) (cwV 1 hts gX10_isLeft_X10_isTreeRow rfl rfl rfl (by decide +kernel) ⟨Nat.le_of_ble_eq_true rfl, Nat.le_of_ble_eq_true rfl⟩) hK hZ hP rfl hl.1 rfl (Nat.le_of_ble_eq_true rfl) dX10_isLeft_2 ⟨Nat.le_of_ble_eq_true rfl, Nat.le_of_ble_eq_true rfl⟩ (fun x_2 h_2 => ?_)
  subst h_2
  refine nx_bz (tgt := 32) hx hb dX10_isLeft_5 (by decide) (fun c_5 => ?_) (fun c_5 => ?_)
  · skip
    refine lv_iconst (v := nI 0) hx hb dX10_isLeft_32 (by decide) ?_
    subst hQ
    exact W.zret (v := nI 0) hx hb hret (rfl) (fun t ht hW => ⟨_, rfl, (bI_f (fun h => c_5 h.1)).symm, ht⟩) (fun q h => by cases h) dX10_isLeft_33
  · skip
    obtain ⟨r, hr, rfl⟩ := rIn_of c_5.1 (by decide)
    have ht := c_5.2
    rw [nI_clamp (by omega)] at ht
    have hlen := (hZ r (by omega)).1
    have hlv := lvs_le (R r)
    refine lv_aload_n hx hb dX10_isLeft_8 rfl (lv_at hl 0 rfl) ?_
    refine va_get (D := (dC, dI)) (ci := 10) (C := RX10) (T := TX10) (N := 22) hx hb hts hin10 hown hK hP 0 rfl rfl 3 (by decide) lk0 (fun _ h9 => h9) rfl dX10_isLeft_9 ?_
    refine lv_iload_n hx hb dX10_isLeft_12 rfl (lv_at hl 1 rfl) ?_
    refine nx_iald hx hb hK hP 3 0 rfl rfl (i := r) (by omega) (by decide) dX10_isLeft_13 ?_
    refine nx_ti (y := nI (R r).length) ((hZ r (by omega)).2.1) ?_
    refine lv_aload_n hx hb dX10_isLeft_14 rfl (lv_at hl 0 rfl) ?_
    refine lv_iload_n hx hb dX10_isLeft_15 rfl (lv_at hl 1 rfl) ?_
    refine mp_i (As := [.int (nI r)]) (rest := [.int (nI (R r).length)]) ⟨hx, hb, hml, hown, hts⟩ (k_leaves l dC dI aC am v R F G r (by omega)) (cwV 1 hts gX10_isLeft_X10_leaves rfl rfl rfl (by decide +kernel) ⟨Nat.le_of_ble_eq_true rfl, Nat.le_of_ble_eq_true rfl⟩) hK hZ hP rfl hl.1 rfl (Nat.le_of_ble_eq_true rfl) dX10_isLeft_16 ⟨Nat.le_of_ble_eq_true rfl, Nat.le_of_ble_eq_true rfl⟩ (fun x_16 h_16 => ?_)
    subst h_16
    refine lv_isub hx hb dX10_isLeft_19 ?_
    refine nx_ti (y := nI ((R r).length - (lvs (R r)))) (pk_sub hlv) ?_
    refine lv_iconst (v := nI 1) hx hb dX10_isLeft_20 (by decide) ?_
    refine lv_iconst (v := nI 4) hx hb dX10_isLeft_21 (by decide) ?_
    refine ms_i (As := [.int (nI ((R r).length - (lvs (R r)))), .int (nI 1), .int (nI 4)]) (rest := []) ⟨hx, hb, hml, hown, hts⟩ (k_in l (nI ((R r).length - lvs (R r))) (nI 1) (nI 4)) (va_cwS 3 hts gX10_isLeft_X10_in rfl rfl rfl (by decide +kernel) ⟨Nat.le_of_ble_eq_true rfl, Nat.le_of_ble_eq_true rfl⟩) rfl hl.1 rfl (Nat.le_of_ble_eq_true rfl) dX10_isLeft_22 ⟨Nat.le_of_ble_eq_true rfl, Nat.le_of_ble_eq_true rfl⟩ (fun x_22 h_22 => ?_)
    subst h_22
    refine nx_bz (tgt := 32) hx hb dX10_isLeft_25 (by decide) (fun c_25 => ?_) (fun c_25 => ?_)
    · skip
      rw [nI_ltI (by omega) (by omega), nI_ltI (by omega) (by omega)] at c_25
      refine lv_iconst (v := nI 0) hx hb dX10_isLeft_32 (by decide) ?_
      subst hQ
      exact W.zret (v := nI 0) hx hb hret (rfl) (fun t ht hW => ⟨_, rfl, (bI_f (fun h => by have h2 := h.2; rw [nI_clamp (by omega)] at h2; omega)).symm, ht⟩) (fun q h => by cases h) dX10_isLeft_33
    · skip
      rw [nI_ltI (by omega) (by omega), nI_ltI (by omega) (by omega)] at c_25
      refine lv_iconst (v := nI 1) hx hb dX10_isLeft_28 (by decide) ?_
      refine lv_goto (tgt := 33) hx hb dX10_isLeft_29 (by decide) ?_
      subst hQ
      exact W.zret (v := nI 1) hx hb hret (rfl) (fun t ht hW => ⟨_, rfl, (bI_t ⟨c_5, by rw [nI_clamp (by omega)]; omega⟩).symm, ht⟩) (fun q h => by cases h) dX10_isLeft_33
end
