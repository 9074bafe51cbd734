section
-- ===== PART A: goes FIRST, ahead of the names: the tables' words, and 'selects' of the private methods out of them =====
/-- a private method of a class that the tables say can be made, by its rows of tables_1 -/
def lw_okq (q : MethodName × Nat) : Prop := (q.1.cls ≠ "java/lang/invoke/MethodHandle" ∧ q.1.cls ≠ "java/lang/invoke/VarHandle") ∧ Cond.instantiable q.1.cls q.2 ∈ tables_1 ∧ Cond.privateMethod q.1 ∈ tables_1 ∧ Cond.instanceMethod q.1 ∈ tables_1
theorem lw_p0 : lw_okq (⟨"HistogramStairs$History", "dropOldest", "()V"⟩, 2) := ⟨⟨by decide +kernel, by decide +kernel⟩, List.mem_of_getElem? (i := 41) (by decide +kernel), List.mem_of_getElem? (i := 150) (by decide +kernel), List.mem_of_getElem? (i := 151) (by decide +kernel)⟩
theorem lw_p1 : lw_okq (⟨"HistogramStairs$Columns", "exchange", "(II)V"⟩, 2) := ⟨⟨by decide +kernel, by decide +kernel⟩, List.mem_of_getElem? (i := 21) (by decide +kernel), List.mem_of_getElem? (i := 207) (by decide +kernel), List.mem_of_getElem? (i := 208) (by decide +kernel)⟩
theorem lw_p2 : lw_okq (⟨"HistogramStairs", "pourAll", "()I"⟩, 7) := ⟨⟨by decide +kernel, by decide +kernel⟩, List.mem_of_getElem? (i := 13) (by decide +kernel), List.mem_of_getElem? (i := 226) (by decide +kernel), List.mem_of_getElem? (i := 227) (by decide +kernel)⟩
theorem lw_p3 : lw_okq (⟨"HistogramStairs", "countPools", "()I"⟩, 7) := ⟨⟨by decide +kernel, by decide +kernel⟩, List.mem_of_getElem? (i := 13) (by decide +kernel), List.mem_of_getElem? (i := 262) (by decide +kernel), List.mem_of_getElem? (i := 263) (by decide +kernel)⟩
theorem lw_p4 : lw_okq (⟨"HistogramStairs$Water", "startsPool", "(I)Z"⟩, 1) := ⟨⟨by decide +kernel, by decide +kernel⟩, List.mem_of_getElem? (i := 58) (by decide +kernel), List.mem_of_getElem? (i := 270) (by decide +kernel), List.mem_of_getElem? (i := 271) (by decide +kernel)⟩
theorem lw_p5 : lw_okq (⟨"HistogramStairs", "countRectangles", "()I"⟩, 7) := ⟨⟨by decide +kernel, by decide +kernel⟩, List.mem_of_getElem? (i := 13) (by decide +kernel), List.mem_of_getElem? (i := 274) (by decide +kernel), List.mem_of_getElem? (i := 275) (by decide +kernel)⟩
theorem lw_p6 : lw_okq (⟨"HistogramStairs$Rectangles", "findOwnedBy", "(I[III)V"⟩, 5) := ⟨⟨by decide +kernel, by decide +kernel⟩, List.mem_of_getElem? (i := 69) (by decide +kernel), List.mem_of_getElem? (i := 282) (by decide +kernel), List.mem_of_getElem? (i := 283) (by decide +kernel)⟩
theorem lw_p7 : lw_okq (⟨"HistogramStairs$Rectangles", "place", "(IIII)V"⟩, 5) := ⟨⟨by decide +kernel, by decide +kernel⟩, List.mem_of_getElem? (i := 69) (by decide +kernel), List.mem_of_getElem? (i := 286) (by decide +kernel), List.mem_of_getElem? (i := 287) (by decide +kernel)⟩
theorem lw_p8 : lw_okq (⟨"HistogramStairs$Rectangles", "comesBefore", "(IIII)Z"⟩, 5) := ⟨⟨by decide +kernel, by decide +kernel⟩, List.mem_of_getElem? (i := 69) (by decide +kernel), List.mem_of_getElem? (i := 290) (by decide +kernel), List.mem_of_getElem? (i := 291) (by decide +kernel)⟩
theorem lw_p9 : lw_okq (⟨"HistogramStairs$Rectangles", "area", "(I)I"⟩, 5) := ⟨⟨by decide +kernel, by decide +kernel⟩, List.mem_of_getElem? (i := 69) (by decide +kernel), List.mem_of_getElem? (i := 294) (by decide +kernel), List.mem_of_getElem? (i := 295) (by decide +kernel)⟩
theorem lw_p10 : lw_okq (⟨"HistogramStairs", "greatestTreeDepth", "()I"⟩, 7) := ⟨⟨by decide +kernel, by decide +kernel⟩, List.mem_of_getElem? (i := 13) (by decide +kernel), List.mem_of_getElem? (i := 302) (by decide +kernel), List.mem_of_getElem? (i := 303) (by decide +kernel)⟩
theorem lw_p11 : lw_okq (⟨"HistogramStairs$Painter", "paintRow", "(ILHistogramStairs$Columns;)V"⟩, 1) := ⟨⟨by decide +kernel, by decide +kernel⟩, List.mem_of_getElem? (i := 107) (by decide +kernel), List.mem_of_getElem? (i := 327) (by decide +kernel), List.mem_of_getElem? (i := 328) (by decide +kernel)⟩
theorem lw_p12 : lw_okq (⟨"HistogramStairs$Painter", "paintRun", "(II)V"⟩, 1) := ⟨⟨by decide +kernel, by decide +kernel⟩, List.mem_of_getElem? (i := 107) (by decide +kernel), List.mem_of_getElem? (i := 331) (by decide +kernel), List.mem_of_getElem? (i := 332) (by decide +kernel)⟩
theorem lw_p13 : lw_okq (⟨"HistogramStairs", "depthOfWater", "(I)I"⟩, 7) := ⟨⟨by decide +kernel, by decide +kernel⟩, List.mem_of_getElem? (i := 13) (by decide +kernel), List.mem_of_getElem? (i := 363) (by decide +kernel), List.mem_of_getElem? (i := 364) (by decide +kernel)⟩
theorem lw_p14 : lw_okq (⟨"HistogramStairs", "treeParent", "(I)I"⟩, 7) := ⟨⟨by decide +kernel, by decide +kernel⟩, List.mem_of_getElem? (i := 13) (by decide +kernel), List.mem_of_getElem? (i := 367) (by decide +kernel), List.mem_of_getElem? (i := 368) (by decide +kernel)⟩
theorem lw_p15 : lw_okq (⟨"HistogramStairs", "treeDepth", "(I)I"⟩, 7) := ⟨⟨by decide +kernel, by decide +kernel⟩, List.mem_of_getElem? (i := 13) (by decide +kernel), List.mem_of_getElem? (i := 371) (by decide +kernel), List.mem_of_getElem? (i := 372) (by decide +kernel)⟩
def lw_privs_1 : List (MethodName × Nat) := [(⟨"HistogramStairs$History", "dropOldest", "()V"⟩, 2), (⟨"HistogramStairs$Columns", "exchange", "(II)V"⟩, 2), (⟨"HistogramStairs", "pourAll", "()I"⟩, 7), (⟨"HistogramStairs", "countPools", "()I"⟩, 7), (⟨"HistogramStairs$Water", "startsPool", "(I)Z"⟩, 1), (⟨"HistogramStairs", "countRectangles", "()I"⟩, 7), (⟨"HistogramStairs$Rectangles", "findOwnedBy", "(I[III)V"⟩, 5), (⟨"HistogramStairs$Rectangles", "place", "(IIII)V"⟩, 5), (⟨"HistogramStairs$Rectangles", "comesBefore", "(IIII)Z"⟩, 5), (⟨"HistogramStairs$Rectangles", "area", "(I)I"⟩, 5), (⟨"HistogramStairs", "greatestTreeDepth", "()I"⟩, 7), (⟨"HistogramStairs$Painter", "paintRow", "(ILHistogramStairs$Columns;)V"⟩, 1), (⟨"HistogramStairs$Painter", "paintRun", "(II)V"⟩, 1), (⟨"HistogramStairs", "depthOfWater", "(I)I"⟩, 7), (⟨"HistogramStairs", "treeParent", "(I)I"⟩, 7), (⟨"HistogramStairs", "treeDepth", "(I)I"⟩, 7)]
theorem lw_r1 : ∀ q ∈ lw_privs_1, lw_okq q := List.forall_mem_cons.mpr ⟨lw_p0, List.forall_mem_cons.mpr ⟨lw_p1, List.forall_mem_cons.mpr ⟨lw_p2, List.forall_mem_cons.mpr ⟨lw_p3, List.forall_mem_cons.mpr ⟨lw_p4, List.forall_mem_cons.mpr ⟨lw_p5, List.forall_mem_cons.mpr ⟨lw_p6, List.forall_mem_cons.mpr ⟨lw_p7, List.forall_mem_cons.mpr ⟨lw_p8, List.forall_mem_cons.mpr ⟨lw_p9, List.forall_mem_cons.mpr ⟨lw_p10, List.forall_mem_cons.mpr ⟨lw_p11, List.forall_mem_cons.mpr ⟨lw_p12, List.forall_mem_cons.mpr ⟨lw_p13, List.forall_mem_cons.mpr ⟨lw_p14, List.forall_mem_cons.mpr ⟨lw_p15, fun _ h => absurd h List.not_mem_nil⟩⟩⟩⟩⟩⟩⟩⟩⟩⟩⟩⟩⟩⟩⟩⟩
theorem lw_p16 : lw_okq (⟨"HistogramStairs", "largestRectangle", "(III)I"⟩, 7) := ⟨⟨by decide +kernel, by decide +kernel⟩, List.mem_of_getElem? (i := 13) (by decide +kernel), List.mem_of_getElem? (i := 401) (by decide +kernel), List.mem_of_getElem? (i := 402) (by decide +kernel)⟩
theorem lw_p17 : lw_okq (⟨"HistogramStairs", "waterWithDam", "(II)I"⟩, 7) := ⟨⟨by decide +kernel, by decide +kernel⟩, List.mem_of_getElem? (i := 13) (by decide +kernel), List.mem_of_getElem? (i := 442) (by decide +kernel), List.mem_of_getElem? (i := 443) (by decide +kernel)⟩
theorem lw_p18 : lw_okq (⟨"HistogramStairsModel", "many", "()I"⟩, 12) := ⟨⟨by decide +kernel, by decide +kernel⟩, List.mem_of_getElem? (i := 474) (by decide +kernel), List.mem_of_getElem? (i := 521) (by decide +kernel), List.mem_of_getElem? (i := 522) (by decide +kernel)⟩
theorem lw_p19 : lw_okq (⟨"HistogramStairsModel", "remember", "()V"⟩, 12) := ⟨⟨by decide +kernel, by decide +kernel⟩, List.mem_of_getElem? (i := 474) (by decide +kernel), List.mem_of_getElem? (i := 528) (by decide +kernel), List.mem_of_getElem? (i := 529) (by decide +kernel)⟩
theorem lw_p20 : lw_okq (⟨"HistogramStairsModel", "before", "(I)I"⟩, 12) := ⟨⟨by decide +kernel, by decide +kernel⟩, List.mem_of_getElem? (i := 474) (by decide +kernel), List.mem_of_getElem? (i := 532) (by decide +kernel), List.mem_of_getElem? (i := 533) (by decide +kernel)⟩
theorem lw_p21 : lw_okq (⟨"HistogramStairsModel", "isColumn", "(I)Z"⟩, 12) := ⟨⟨by decide +kernel, by decide +kernel⟩, List.mem_of_getElem? (i := 474) (by decide +kernel), List.mem_of_getElem? (i := 540) (by decide +kernel), List.mem_of_getElem? (i := 541) (by decide +kernel)⟩
theorem lw_p22 : lw_okq (⟨"HistogramStairsModel", "isRange", "(II)Z"⟩, 12) := ⟨⟨by decide +kernel, by decide +kernel⟩, List.mem_of_getElem? (i := 474) (by decide +kernel), List.mem_of_getElem? (i := 552) (by decide +kernel), List.mem_of_getElem? (i := 553) (by decide +kernel)⟩
theorem lw_p23 : lw_okq (⟨"HistogramStairsModel", "changed", "(II)I"⟩, 12) := ⟨⟨by decide +kernel, by decide +kernel⟩, List.mem_of_getElem? (i := 474) (by decide +kernel), List.mem_of_getElem? (i := 559) (by decide +kernel), List.mem_of_getElem? (i := 560) (by decide +kernel)⟩
theorem lw_p24 : lw_okq (⟨"HistogramStairsModel", "water", "(II)I"⟩, 12) := ⟨⟨by decide +kernel, by decide +kernel⟩, List.mem_of_getElem? (i := 474) (by decide +kernel), List.mem_of_getElem? (i := 575) (by decide +kernel), List.mem_of_getElem? (i := 576) (by decide +kernel)⟩
theorem lw_p25 : lw_okq (⟨"HistogramStairsModel", "depth", "(III)I"⟩, 12) := ⟨⟨by decide +kernel, by decide +kernel⟩, List.mem_of_getElem? (i := 474) (by decide +kernel), List.mem_of_getElem? (i := 579) (by decide +kernel), List.mem_of_getElem? (i := 580) (by decide +kernel)⟩
theorem lw_p26 : lw_okq (⟨"HistogramStairsModel", "greatest", "(II)I"⟩, 12) := ⟨⟨by decide +kernel, by decide +kernel⟩, List.mem_of_getElem? (i := 474) (by decide +kernel), List.mem_of_getElem? (i := 583) (by decide +kernel), List.mem_of_getElem? (i := 584) (by decide +kernel)⟩
theorem lw_p27 : lw_okq (⟨"HistogramStairsModel", "sum", "(II)I"⟩, 12) := ⟨⟨by decide +kernel, by decide +kernel⟩, List.mem_of_getElem? (i := 474) (by decide +kernel), List.mem_of_getElem? (i := 599) (by decide +kernel), List.mem_of_getElem? (i := 600) (by decide +kernel)⟩
theorem lw_p28 : lw_okq (⟨"HistogramStairsModel", "pools", "()I"⟩, 12) := ⟨⟨by decide +kernel, by decide +kernel⟩, List.mem_of_getElem? (i := 474) (by decide +kernel), List.mem_of_getElem? (i := 603) (by decide +kernel), List.mem_of_getElem? (i := 604) (by decide +kernel)⟩
theorem lw_p29 : lw_okq (⟨"HistogramStairsModel", "beginsPool", "(I)Z"⟩, 12) := ⟨⟨by decide +kernel, by decide +kernel⟩, List.mem_of_getElem? (i := 474) (by decide +kernel), List.mem_of_getElem? (i := 607) (by decide +kernel), List.mem_of_getElem? (i := 608) (by decide +kernel)⟩
theorem lw_p30 : lw_okq (⟨"HistogramStairsModel", "isWet", "(I)Z"⟩, 12) := ⟨⟨by decide +kernel, by decide +kernel⟩, List.mem_of_getElem? (i := 474) (by decide +kernel), List.mem_of_getElem? (i := 611) (by decide +kernel), List.mem_of_getElem? (i := 612) (by decide +kernel)⟩
theorem lw_p31 : lw_okq (⟨"HistogramStairsModel", "layRectangles", "()I"⟩, 12) := ⟨⟨by decide +kernel, by decide +kernel⟩, List.mem_of_getElem? (i := 474) (by decide +kernel), List.mem_of_getElem? (i := 615) (by decide +kernel), List.mem_of_getElem? (i := 616) (by decide +kernel)⟩
def lw_privs_2 : List (MethodName × Nat) := [(⟨"HistogramStairs", "largestRectangle", "(III)I"⟩, 7), (⟨"HistogramStairs", "waterWithDam", "(II)I"⟩, 7), (⟨"HistogramStairsModel", "many", "()I"⟩, 12), (⟨"HistogramStairsModel", "remember", "()V"⟩, 12), (⟨"HistogramStairsModel", "before", "(I)I"⟩, 12), (⟨"HistogramStairsModel", "isColumn", "(I)Z"⟩, 12), (⟨"HistogramStairsModel", "isRange", "(II)Z"⟩, 12), (⟨"HistogramStairsModel", "changed", "(II)I"⟩, 12), (⟨"HistogramStairsModel", "water", "(II)I"⟩, 12), (⟨"HistogramStairsModel", "depth", "(III)I"⟩, 12), (⟨"HistogramStairsModel", "greatest", "(II)I"⟩, 12), (⟨"HistogramStairsModel", "sum", "(II)I"⟩, 12), (⟨"HistogramStairsModel", "pools", "()I"⟩, 12), (⟨"HistogramStairsModel", "beginsPool", "(I)Z"⟩, 12), (⟨"HistogramStairsModel", "isWet", "(I)Z"⟩, 12), (⟨"HistogramStairsModel", "layRectangles", "()I"⟩, 12)]
theorem lw_r2 : ∀ q ∈ lw_privs_2, lw_okq q := List.forall_mem_cons.mpr ⟨lw_p16, List.forall_mem_cons.mpr ⟨lw_p17, List.forall_mem_cons.mpr ⟨lw_p18, List.forall_mem_cons.mpr ⟨lw_p19, List.forall_mem_cons.mpr ⟨lw_p20, List.forall_mem_cons.mpr ⟨lw_p21, List.forall_mem_cons.mpr ⟨lw_p22, List.forall_mem_cons.mpr ⟨lw_p23, List.forall_mem_cons.mpr ⟨lw_p24, List.forall_mem_cons.mpr ⟨lw_p25, List.forall_mem_cons.mpr ⟨lw_p26, List.forall_mem_cons.mpr ⟨lw_p27, List.forall_mem_cons.mpr ⟨lw_p28, List.forall_mem_cons.mpr ⟨lw_p29, List.forall_mem_cons.mpr ⟨lw_p30, List.forall_mem_cons.mpr ⟨lw_p31, fun _ h => absurd h List.not_mem_nil⟩⟩⟩⟩⟩⟩⟩⟩⟩⟩⟩⟩⟩⟩⟩⟩
theorem lw_p32 : lw_okq (⟨"HistogramStairsModel", "isMaximal", "(II)Z"⟩, 12) := ⟨⟨by decide +kernel, by decide +kernel⟩, List.mem_of_getElem? (i := 474) (by decide +kernel), List.mem_of_getElem? (i := 619) (by decide +kernel), List.mem_of_getElem? (i := 620) (by decide +kernel)⟩
theorem lw_p33 : lw_okq (⟨"HistogramStairsModel", "least", "(II)I"⟩, 12) := ⟨⟨by decide +kernel, by decide +kernel⟩, List.mem_of_getElem? (i := 474) (by decide +kernel), List.mem_of_getElem? (i := 623) (by decide +kernel), List.mem_of_getElem? (i := 624) (by decide +kernel)⟩
theorem lw_p34 : lw_okq (⟨"HistogramStairsModel", "area", "(II)I"⟩, 12) := ⟨⟨by decide +kernel, by decide +kernel⟩, List.mem_of_getElem? (i := 474) (by decide +kernel), List.mem_of_getElem? (i := 627) (by decide +kernel), List.mem_of_getElem? (i := 628) (by decide +kernel)⟩
theorem lw_p35 : lw_okq (⟨"HistogramStairsModel", "standing", "(Z)I"⟩, 12) := ⟨⟨by decide +kernel, by decide +kernel⟩, List.mem_of_getElem? (i := 474) (by decide +kernel), List.mem_of_getElem? (i := 631) (by decide +kernel), List.mem_of_getElem? (i := 632) (by decide +kernel)⟩
theorem lw_p36 : lw_okq (⟨"HistogramStairsModel", "deepest", "()I"⟩, 12) := ⟨⟨by decide +kernel, by decide +kernel⟩, List.mem_of_getElem? (i := 474) (by decide +kernel), List.mem_of_getElem? (i := 635) (by decide +kernel), List.mem_of_getElem? (i := 636) (by decide +kernel)⟩
theorem lw_p37 : lw_okq (⟨"HistogramStairsModel", "treeDepth", "(I)I"⟩, 12) := ⟨⟨by decide +kernel, by decide +kernel⟩, List.mem_of_getElem? (i := 474) (by decide +kernel), List.mem_of_getElem? (i := 639) (by decide +kernel), List.mem_of_getElem? (i := 640) (by decide +kernel)⟩
theorem lw_p38 : lw_okq (⟨"HistogramStairsModel", "rootOf", "(II)I"⟩, 12) := ⟨⟨by decide +kernel, by decide +kernel⟩, List.mem_of_getElem? (i := 474) (by decide +kernel), List.mem_of_getElem? (i := 643) (by decide +kernel), List.mem_of_getElem? (i := 644) (by decide +kernel)⟩
theorem lw_p39 : lw_okq (⟨"HistogramStairsModel", "firstWith", "(II)I"⟩, 12) := ⟨⟨by decide +kernel, by decide +kernel⟩, List.mem_of_getElem? (i := 474) (by decide +kernel), List.mem_of_getElem? (i := 647) (by decide +kernel), List.mem_of_getElem? (i := 648) (by decide +kernel)⟩
theorem lw_p40 : lw_okq (⟨"HistogramStairsModel", "horizontal", "()I"⟩, 12) := ⟨⟨by decide +kernel, by decide +kernel⟩, List.mem_of_getElem? (i := 474) (by decide +kernel), List.mem_of_getElem? (i := 651) (by decide +kernel), List.mem_of_getElem? (i := 652) (by decide +kernel)⟩
theorem lw_p41 : lw_okq (⟨"HistogramStairsModel", "strokes", "()I"⟩, 12) := ⟨⟨by decide +kernel, by decide +kernel⟩, List.mem_of_getElem? (i := 474) (by decide +kernel), List.mem_of_getElem? (i := 655) (by decide +kernel), List.mem_of_getElem? (i := 656) (by decide +kernel)⟩
theorem lw_p42 : lw_okq (⟨"HistogramStairsModel", "layLevel", "(I)V"⟩, 12) := ⟨⟨by decide +kernel, by decide +kernel⟩, List.mem_of_getElem? (i := 474) (by decide +kernel), List.mem_of_getElem? (i := 659) (by decide +kernel), List.mem_of_getElem? (i := 660) (by decide +kernel)⟩
theorem lw_p43 : lw_okq (⟨"HistogramStairsModel", "endAbove", "(II)I"⟩, 12) := ⟨⟨by decide +kernel, by decide +kernel⟩, List.mem_of_getElem? (i := 474) (by decide +kernel), List.mem_of_getElem? (i := 663) (by decide +kernel), List.mem_of_getElem? (i := 664) (by decide +kernel)⟩
theorem lw_p44 : lw_okq (⟨"HistogramStairsModel", "nearest", "(IIZ)I"⟩, 12) := ⟨⟨by decide +kernel, by decide +kernel⟩, List.mem_of_getElem? (i := 474) (by decide +kernel), List.mem_of_getElem? (i := 671) (by decide +kernel), List.mem_of_getElem? (i := 672) (by decide +kernel)⟩
theorem lw_p45 : lw_okq (⟨"HistogramStairsModel", "parentOf", "(I)I"⟩, 12) := ⟨⟨by decide +kernel, by decide +kernel⟩, List.mem_of_getElem? (i := 474) (by decide +kernel), List.mem_of_getElem? (i := 675) (by decide +kernel), List.mem_of_getElem? (i := 676) (by decide +kernel)⟩
theorem lw_p46 : lw_okq (⟨"HistogramStairsModel", "reach", "(I)I"⟩, 12) := ⟨⟨by decide +kernel, by decide +kernel⟩, List.mem_of_getElem? (i := 474) (by decide +kernel), List.mem_of_getElem? (i := 679) (by decide +kernel), List.mem_of_getElem? (i := 680) (by decide +kernel)⟩
theorem lw_p47 : lw_okq (⟨"HistogramStairsModel", "stairLength", "(I)I"⟩, 12) := ⟨⟨by decide +kernel, by decide +kernel⟩, List.mem_of_getElem? (i := 474) (by decide +kernel), List.mem_of_getElem? (i := 683) (by decide +kernel), List.mem_of_getElem? (i := 684) (by decide +kernel)⟩
def lw_privs_3 : List (MethodName × Nat) := [(⟨"HistogramStairsModel", "isMaximal", "(II)Z"⟩, 12), (⟨"HistogramStairsModel", "least", "(II)I"⟩, 12), (⟨"HistogramStairsModel", "area", "(II)I"⟩, 12), (⟨"HistogramStairsModel", "standing", "(Z)I"⟩, 12), (⟨"HistogramStairsModel", "deepest", "()I"⟩, 12), (⟨"HistogramStairsModel", "treeDepth", "(I)I"⟩, 12), (⟨"HistogramStairsModel", "rootOf", "(II)I"⟩, 12), (⟨"HistogramStairsModel", "firstWith", "(II)I"⟩, 12), (⟨"HistogramStairsModel", "horizontal", "()I"⟩, 12), (⟨"HistogramStairsModel", "strokes", "()I"⟩, 12), (⟨"HistogramStairsModel", "layLevel", "(I)V"⟩, 12), (⟨"HistogramStairsModel", "endAbove", "(II)I"⟩, 12), (⟨"HistogramStairsModel", "nearest", "(IIZ)I"⟩, 12), (⟨"HistogramStairsModel", "parentOf", "(I)I"⟩, 12), (⟨"HistogramStairsModel", "reach", "(I)I"⟩, 12), (⟨"HistogramStairsModel", "stairLength", "(I)I"⟩, 12)]
theorem lw_r3 : ∀ q ∈ lw_privs_3, lw_okq q := List.forall_mem_cons.mpr ⟨lw_p32, List.forall_mem_cons.mpr ⟨lw_p33, List.forall_mem_cons.mpr ⟨lw_p34, List.forall_mem_cons.mpr ⟨lw_p35, List.forall_mem_cons.mpr ⟨lw_p36, List.forall_mem_cons.mpr ⟨lw_p37, List.forall_mem_cons.mpr ⟨lw_p38, List.forall_mem_cons.mpr ⟨lw_p39, List.forall_mem_cons.mpr ⟨lw_p40, List.forall_mem_cons.mpr ⟨lw_p41, List.forall_mem_cons.mpr ⟨lw_p42, List.forall_mem_cons.mpr ⟨lw_p43, List.forall_mem_cons.mpr ⟨lw_p44, List.forall_mem_cons.mpr ⟨lw_p45, List.forall_mem_cons.mpr ⟨lw_p46, List.forall_mem_cons.mpr ⟨lw_p47, fun _ h => absurd h List.not_mem_nil⟩⟩⟩⟩⟩⟩⟩⟩⟩⟩⟩⟩⟩⟩⟩⟩
theorem lw_p48 : lw_okq (⟨"HistogramStairsModel", "largest", "(III)I"⟩, 12) := ⟨⟨by decide +kernel, by decide +kernel⟩, List.mem_of_getElem? (i := 474) (by decide +kernel), List.mem_of_getElem? (i := 695) (by decide +kernel), List.mem_of_getElem? (i := 696) (by decide +kernel)⟩
theorem lw_p49 : lw_okq (⟨"HistogramStairsModel", "owners", "(I)I"⟩, 12) := ⟨⟨by decide +kernel, by decide +kernel⟩, List.mem_of_getElem? (i := 474) (by decide +kernel), List.mem_of_getElem? (i := 703) (by decide +kernel), List.mem_of_getElem? (i := 704) (by decide +kernel)⟩
theorem lw_p50 : lw_okq (⟨"HistogramStairsModel", "poolBegin", "(I)I"⟩, 12) := ⟨⟨by decide +kernel, by decide +kernel⟩, List.mem_of_getElem? (i := 474) (by decide +kernel), List.mem_of_getElem? (i := 715) (by decide +kernel), List.mem_of_getElem? (i := 716) (by decide +kernel)⟩
theorem lw_p51 : lw_okq (⟨"HistogramStairsModel", "isKept", "(I)Z"⟩, 12) := ⟨⟨by decide +kernel, by decide +kernel⟩, List.mem_of_getElem? (i := 474) (by decide +kernel), List.mem_of_getElem? (i := 746) (by decide +kernel), List.mem_of_getElem? (i := 747) (by decide +kernel)⟩
def lw_privs_4 : List (MethodName × Nat) := [(⟨"HistogramStairsModel", "largest", "(III)I"⟩, 12), (⟨"HistogramStairsModel", "owners", "(I)I"⟩, 12), (⟨"HistogramStairsModel", "poolBegin", "(I)I"⟩, 12), (⟨"HistogramStairsModel", "isKept", "(I)Z"⟩, 12)]
theorem lw_r4 : ∀ q ∈ lw_privs_4, lw_okq q := List.forall_mem_cons.mpr ⟨lw_p48, List.forall_mem_cons.mpr ⟨lw_p49, List.forall_mem_cons.mpr ⟨lw_p50, List.forall_mem_cons.mpr ⟨lw_p51, fun _ h => absurd h List.not_mem_nil⟩⟩⟩⟩
def lw_privs : List (MethodName × Nat) := lw_privs_1 ++ (lw_privs_2 ++ (lw_privs_3 ++ (lw_privs_4)))
def lw_tbl : List Cond := k2_sels lw_privs ++ tables_1
theorem lw_privs_ok : ∀ q ∈ lw_privs, lw_okq q := by
  show ∀ q ∈ lw_privs_1 ++ (lw_privs_2 ++ (lw_privs_3 ++ (lw_privs_4))), lw_okq q
  exact List.forall_mem_append.mpr ⟨lw_r1, List.forall_mem_append.mpr ⟨lw_r2, List.forall_mem_append.mpr ⟨lw_r3, lw_r4⟩⟩⟩
end
section
/-! ===== BEGIN words of one list among another's, by their places ===== -/
theorem goodIn_r {big : List Cond} (ws : List Cond) (ps : List Nat) (hp : ws = ps.filterMap (fun i => big[i]?)) (h : ws.all goodWord = true) : GoodIn big ws := by
  intro w hw
  have h1 := List.all_eq_true.mp h w hw
  rw [hp] at hw
  obtain ⟨i, -, hi⟩ := List.mem_filterMap.mp hw
  have hm : w ∈ big := by first | exact List.mem_of_getElem? hi | exact List.getElem?_mem hi
  exact ⟨hm, good_of_word h1⟩
theorem goodIn_app {big a b : List Cond} (ha : GoodIn big a) (hb : GoodIn big b) : GoodIn big (a ++ b) := fun w h => (List.mem_append.mp h).elim (ha w) (hb w)
theorem goodIn_ca {big a b : List Cond} {c : Cond} (ha : GoodIn big (c :: a)) (hb : GoodIn big b) : GoodIn big (c :: (a ++ b)) := fun w h => (List.mem_cons.mp h).elim (fun e => ha w (List.mem_cons.mpr (Or.inl e))) (fun h => (List.mem_append.mp h).elim (fun h => ha w (List.mem_cons.mpr (Or.inr h))) (hb w))
theorem goodIn_sub {big ws : List Cond} (hm : ∀ w ∈ ws, w ∈ big) (h : ws.all goodWord = true) : GoodIn big ws := fun w hw => ⟨hm w hw, good_of_word (List.all_eq_true.mp h w hw)⟩
/-! ===== END ===== -/

/-! ===== BEGIN printed: names, fields, word lists, decode rows ===== -/
def RX0 : String := "HistogramStairs$Columns"
def TX0 : u_T := fun k => match k with
  | 0 => ("HistogramStairs$Columns", "heights", "[I", true)
  | _ => ("HistogramStairs$Columns", "size", "I", false)
def tyX0 : Nat → FieldType := fun k => match k with
  | 0 => .array .int
  | _ => .int
abbrev wsX00 : List Cond := u_ws RX0 TX0 2
theorem nmX0 : ∀ a, a < 2 → ∀ b, b < 2 → a ≠ b → (TX0 a).2.1 ≠ (TX0 b).2.1 := by decide +kernel
theorem tyX0_ok : ∀ k, k < 2 → parseFieldDescriptor (TX0 k).2.2.1 = some (tyX0 k) := by decide +kernel
abbrev cX0_init : ByteArray := prog_2_method_1_code
def yX0_init : MethodName := ⟨RX0, "<init>", "()V"⟩
abbrev cX0_copyFrom : ByteArray := prog_2_method_2_code
def yX0_copyFrom : MethodName := ⟨RX0, "copyFrom", "(LHistogramStairs$Columns;)V"⟩
abbrev cX0_has : ByteArray := prog_2_method_3_code
def yX0_has : MethodName := ⟨RX0, "has", "(I)Z"⟩
abbrev cX0_hasRange : ByteArray := prog_2_method_4_code
def yX0_hasRange : MethodName := ⟨RX0, "hasRange", "(II)Z"⟩
abbrev cX0_putIn : ByteArray := prog_2_method_5_code
def yX0_putIn : MethodName := ⟨RX0, "putIn", "(II)V"⟩
abbrev cX0_takeOut : ByteArray := prog_2_method_6_code
def yX0_takeOut : MethodName := ⟨RX0, "takeOut", "(I)I"⟩
abbrev cX0_lift : ByteArray := prog_2_method_7_code
def yX0_lift : MethodName := ⟨RX0, "lift", "(III)I"⟩
abbrev cX0_mirror : ByteArray := prog_2_method_8_code
def yX0_mirror : MethodName := ⟨RX0, "mirror", "(II)I"⟩
abbrev cX0_arrange : ByteArray := prog_2_method_9_code
def yX0_arrange : MethodName := ⟨RX0, "arrange", "(IIZ)I"⟩
abbrev cX0_isWrong : ByteArray := prog_2_method_10_code
def yX0_isWrong : MethodName := ⟨RX0, "isWrong", "(IIZ)Z"⟩
abbrev cX0_exchange : ByteArray := prog_2_method_11_code
def yX0_exchange : MethodName := ⟨RX0, "exchange", "(II)V"⟩
abbrev cX0_greatestHeight : ByteArray := prog_2_method_12_code
def yX0_greatestHeight : MethodName := ⟨RX0, "greatestHeight", "()I"⟩
abbrev cX0_countSeen : ByteArray := prog_2_method_13_code
def yX0_countSeen : MethodName := ⟨RX0, "countSeen", "(Z)I"⟩
abbrev cX0_countRises : ByteArray := prog_2_method_14_code
def yX0_countRises : MethodName := ⟨RX0, "countRises", "()I"⟩
abbrev cX0_smallerToLeft : ByteArray := prog_2_method_15_code
def yX0_smallerToLeft : MethodName := ⟨RX0, "smallerToLeft", "(I)I"⟩
abbrev cX0_smallerToRight : ByteArray := prog_2_method_16_code
def yX0_smallerToRight : MethodName := ⟨RX0, "smallerToRight", "(I)I"⟩
abbrev cX0_greaterToLeft : ByteArray := prog_2_method_17_code
def yX0_greaterToLeft : MethodName := ⟨RX0, "greaterToLeft", "(I)I"⟩
abbrev cX0_greaterToRight : ByteArray := prog_2_method_18_code
def yX0_greaterToRight : MethodName := ⟨RX0, "greaterToRight", "(I)I"⟩
abbrev cX0_span : ByteArray := prog_2_method_19_code
def yX0_span : MethodName := ⟨RX0, "span", "(I)I"⟩
abbrev cX0_stairLength : ByteArray := prog_2_method_20_code
def yX0_stairLength : MethodName := ⟨RX0, "stairLength", "(I)I"⟩
abbrev cX0_stairStep : ByteArray := prog_2_method_21_code
def yX0_stairStep : MethodName := ⟨RX0, "stairStep", "(II)I"⟩
abbrev cX0_firstDifference : ByteArray := prog_2_method_22_code
def yX0_firstDifference : MethodName := ⟨RX0, "firstDifference", "(LHistogramStairs$Columns;)I"⟩
def RX1 : String := "HistogramStairs$History"
def TX1 : u_T := fun k => match k with
  | 0 => ("HistogramStairs$History", "states", "[LHistogramStairs$Columns;", true)
  | _ => ("HistogramStairs$History", "count", "I", false)
def tyX1 : Nat → FieldType := fun k => match k with
  | 0 => .array (.object "HistogramStairs$Columns")
  | _ => .int
abbrev wsX10 : List Cond := u_ws RX1 TX1 2
theorem nmX1 : ∀ a, a < 2 → ∀ b, b < 2 → a ≠ b → (TX1 a).2.1 ≠ (TX1 b).2.1 := by decide +kernel
theorem tyX1_ok : ∀ k, k < 2 → parseFieldDescriptor (TX1 k).2.2.1 = some (tyX1 k) := by decide +kernel
abbrev cX1_init : ByteArray := prog_3_method_1_code
def yX1_init : MethodName := ⟨RX1, "<init>", "()V"⟩
abbrev cX1_remember : ByteArray := prog_3_method_2_code
def yX1_remember : MethodName := ⟨RX1, "remember", "(LHistogramStairs$Columns;)V"⟩
abbrev cX1_restore : ByteArray := prog_3_method_3_code
def yX1_restore : MethodName := ⟨RX1, "restore", "(LHistogramStairs$Columns;)V"⟩
abbrev cX1_dropOldest : ByteArray := prog_3_method_4_code
def yX1_dropOldest : MethodName := ⟨RX1, "dropOldest", "()V"⟩
def RX2 : String := "HistogramStairs$Painter"
def TX2 : u_T := fun k => match k with
  | _ => ("HistogramStairs$Painter", "strokes", "[I", true)
def tyX2 : Nat → FieldType := fun k => match k with
  | _ => .array .int
abbrev wsX20 : List Cond := u_ws RX2 TX2 1
theorem nmX2 : ∀ a, a < 1 → ∀ b, b < 1 → a ≠ b → (TX2 a).2.1 ≠ (TX2 b).2.1 := by decide +kernel
theorem tyX2_ok : ∀ k, k < 1 → parseFieldDescriptor (TX2 k).2.2.1 = some (tyX2 k) := by decide +kernel
abbrev cX2_init : ByteArray := prog_4_method_1_code
def yX2_init : MethodName := ⟨RX2, "<init>", "()V"⟩
abbrev cX2_countStrokes : ByteArray := prog_4_method_2_code
def yX2_countStrokes : MethodName := ⟨RX2, "countStrokes", "(LHistogramStairs$Columns;)I"⟩
abbrev cX2_paintRow : ByteArray := prog_4_method_3_code
def yX2_paintRow : MethodName := ⟨RX2, "paintRow", "(ILHistogramStairs$Columns;)V"⟩
abbrev cX2_paintRun : ByteArray := prog_4_method_4_code
def yX2_paintRun : MethodName := ⟨RX2, "paintRun", "(II)V"⟩
def RX3 : String := "HistogramStairs$Rectangles"
def TX3 : u_T := fun k => match k with
  | 0 => ("HistogramStairs$Rectangles", "firsts", "[I", true)
  | 1 => ("HistogramStairs$Rectangles", "lasts", "[I", true)
  | 2 => ("HistogramStairs$Rectangles", "tops", "[I", true)
  | 3 => ("HistogramStairs$Rectangles", "owners", "[I", true)
  | _ => ("HistogramStairs$Rectangles", "count", "I", false)
def tyX3 : Nat → FieldType := fun k => match k with
  | 0 => .array .int
  | 1 => .array .int
  | 2 => .array .int
  | 3 => .array .int
  | _ => .int
abbrev wsX30 : List Cond := u_ws RX3 TX3 5
theorem nmX3 : ∀ a, a < 5 → ∀ b, b < 5 → a ≠ b → (TX3 a).2.1 ≠ (TX3 b).2.1 := by decide +kernel
theorem tyX3_ok : ∀ k, k < 5 → parseFieldDescriptor (TX3 k).2.2.1 = some (tyX3 k) := by decide +kernel
abbrev cX3_init : ByteArray := prog_5_method_1_code
def yX3_init : MethodName := ⟨RX3, "<init>", "()V"⟩
abbrev cX3_find : ByteArray := prog_5_method_2_code
def yX3_find : MethodName := ⟨RX3, "find", "([III)V"⟩
abbrev cX3_property : ByteArray := prog_5_method_3_code
def yX3_property : MethodName := ⟨RX3, "property", "(II)I"⟩
abbrev cX3_countOwners : ByteArray := prog_5_method_4_code
def yX3_countOwners : MethodName := ⟨RX3, "countOwners", "(I[I)I"⟩
abbrev cX3_area : ByteArray := prog_5_method_5_code
def yX3_area : MethodName := ⟨RX3, "area", "(I)I"⟩
abbrev cX3_findOwnedBy : ByteArray := prog_5_method_6_code
def yX3_findOwnedBy : MethodName := ⟨RX3, "findOwnedBy", "(I[III)V"⟩
abbrev cX3_place : ByteArray := prog_5_method_7_code
def yX3_place : MethodName := ⟨RX3, "place", "(IIII)V"⟩
abbrev cX3_comesBefore : ByteArray := prog_5_method_8_code
def yX3_comesBefore : MethodName := ⟨RX3, "comesBefore", "(IIII)Z"⟩
def RX4 : String := "HistogramStairs$Tree"
def TX4 : u_T := fun k => match k with
  | 0 => ("HistogramStairs$Tree", "parents", "[I", true)
  | _ => ("HistogramStairs$Tree", "spine", "[I", true)
def tyX4 : Nat → FieldType := fun k => match k with
  | 0 => .array .int
  | _ => .array .int
abbrev wsX40 : List Cond := u_ws RX4 TX4 2
theorem nmX4 : ∀ a, a < 2 → ∀ b, b < 2 → a ≠ b → (TX4 a).2.1 ≠ (TX4 b).2.1 := by decide +kernel
theorem tyX4_ok : ∀ k, k < 2 → parseFieldDescriptor (TX4 k).2.2.1 = some (tyX4 k) := by decide +kernel
abbrev cX4_init : ByteArray := prog_6_method_1_code
def yX4_init : MethodName := ⟨RX4, "<init>", "()V"⟩
abbrev cX4_grow : ByteArray := prog_6_method_2_code
def yX4_grow : MethodName := ⟨RX4, "grow", "(LHistogramStairs$Columns;)V"⟩
abbrev cX4_depthOf : ByteArray := prog_6_method_3_code
def yX4_depthOf : MethodName := ⟨RX4, "depthOf", "(I)I"⟩
def RX5 : String := "HistogramStairs$Water"
def TX5 : u_T := fun k => match k with
  | _ => ("HistogramStairs$Water", "depths", "[I", true)
def tyX5 : Nat → FieldType := fun k => match k with
  | _ => .array .int
abbrev wsX50 : List Cond := u_ws RX5 TX5 1
theorem nmX5 : ∀ a, a < 1 → ∀ b, b < 1 → a ≠ b → (TX5 a).2.1 ≠ (TX5 b).2.1 := by decide +kernel
theorem tyX5_ok : ∀ k, k < 1 → parseFieldDescriptor (TX5 k).2.2.1 = some (tyX5 k) := by decide +kernel
abbrev cX5_init : ByteArray := prog_7_method_1_code
def yX5_init : MethodName := ⟨RX5, "<init>", "()V"⟩
abbrev cX5_pour : ByteArray := prog_7_method_2_code
def yX5_pour : MethodName := ⟨RX5, "pour", "([III)I"⟩
abbrev cX5_poolCount : ByteArray := prog_7_method_3_code
def yX5_poolCount : MethodName := ⟨RX5, "poolCount", "(I)I"⟩
abbrev cX5_poolStart : ByteArray := prog_7_method_4_code
def yX5_poolStart : MethodName := ⟨RX5, "poolStart", "(II)I"⟩
abbrev cX5_poolEnd : ByteArray := prog_7_method_5_code
def yX5_poolEnd : MethodName := ⟨RX5, "poolEnd", "(II)I"⟩
abbrev cX5_startsPool : ByteArray := prog_7_method_6_code
def yX5_startsPool : MethodName := ⟨RX5, "startsPool", "(I)Z"⟩
def RX6 : String := "HistogramStairs"
def TX6 : u_T := fun k => match k with
  | 0 => ("HistogramStairs", "columns", "LHistogramStairs$Columns;", true)
  | 1 => ("HistogramStairs", "history", "LHistogramStairs$History;", true)
  | 2 => ("HistogramStairs", "images", "[LHistogramStairs$Columns;", true)
  | 3 => ("HistogramStairs", "water", "LHistogramStairs$Water;", true)
  | 4 => ("HistogramStairs", "rectangles", "LHistogramStairs$Rectangles;", true)
  | 5 => ("HistogramStairs", "tree", "LHistogramStairs$Tree;", true)
  | _ => ("HistogramStairs", "painter", "LHistogramStairs$Painter;", true)
def tyX6 : Nat → FieldType := fun k => match k with
  | 0 => .object "HistogramStairs$Columns"
  | 1 => .object "HistogramStairs$History"
  | 2 => .array (.object "HistogramStairs$Columns")
  | 3 => .object "HistogramStairs$Water"
  | 4 => .object "HistogramStairs$Rectangles"
  | 5 => .object "HistogramStairs$Tree"
  | _ => .object "HistogramStairs$Painter"
abbrev wsX60 : List Cond := u_ws RX6 TX6 7
theorem nmX6 : ∀ a, a < 7 → ∀ b, b < 7 → a ≠ b → (TX6 a).2.1 ≠ (TX6 b).2.1 := by decide +kernel
theorem tyX6_ok : ∀ k, k < 7 → parseFieldDescriptor (TX6 k).2.2.1 = some (tyX6 k) := by decide +kernel
abbrev cX6_init : ByteArray := prog_1_method_1_code
def yX6_init : MethodName := ⟨RX6, "<init>", "()V"⟩
abbrev cX6_insert : ByteArray := prog_1_method_2_code
def yX6_insert : MethodName := ⟨RX6, "insert", "(II)I"⟩
abbrev cX6_remove : ByteArray := prog_1_method_3_code
def yX6_remove : MethodName := ⟨RX6, "remove", "(I)I"⟩
abbrev cX6_set : ByteArray := prog_1_method_4_code
def yX6_set : MethodName := ⟨RX6, "set", "(II)I"⟩
abbrev cX6_raise : ByteArray := prog_1_method_5_code
def yX6_raise : MethodName := ⟨RX6, "raise", "(III)I"⟩
abbrev cX6_reverse : ByteArray := prog_1_method_6_code
def yX6_reverse : MethodName := ⟨RX6, "reverse", "(II)I"⟩
abbrev cX6_sort : ByteArray := prog_1_method_7_code
def yX6_sort : MethodName := ⟨RX6, "sort", "(III)I"⟩
abbrev cX6_freeze : ByteArray := prog_1_method_8_code
def yX6_freeze : MethodName := ⟨RX6, "freeze", "()I"⟩
abbrev cX6_clear : ByteArray := prog_1_method_9_code
def yX6_clear : MethodName := ⟨RX6, "clear", "()I"⟩
abbrev cX6_undo : ByteArray := prog_1_method_10_code
def yX6_undo : MethodName := ⟨RX6, "undo", "()I"⟩
abbrev cX6_told : ByteArray := prog_1_method_11_code
def yX6_told : MethodName := ⟨RX6, "told", "(I)I"⟩
abbrev cX6_column : ByteArray := prog_1_method_12_code
def yX6_column : MethodName := ⟨RX6, "column", "(II)I"⟩
abbrev cX6_stair : ByteArray := prog_1_method_13_code
def yX6_stair : MethodName := ⟨RX6, "stair", "(II)I"⟩
abbrev cX6_range : ByteArray := prog_1_method_14_code
def yX6_range : MethodName := ⟨RX6, "range", "(III)I"⟩
abbrev cX6_rectangle : ByteArray := prog_1_method_15_code
def yX6_rectangle : MethodName := ⟨RX6, "rectangle", "(II)I"⟩
abbrev cX6_container : ByteArray := prog_1_method_16_code
def yX6_container : MethodName := ⟨RX6, "container", "(I)I"⟩
abbrev cX6_pool : ByteArray := prog_1_method_17_code
def yX6_pool : MethodName := ⟨RX6, "pool", "(II)I"⟩
abbrev cX6_drained : ByteArray := prog_1_method_18_code
def yX6_drained : MethodName := ⟨RX6, "drained", "(I)I"⟩
abbrev cX6_dam : ByteArray := prog_1_method_19_code
def yX6_dam : MethodName := ⟨RX6, "dam", "(II)I"⟩
abbrev cX6_sumOfMinima : ByteArray := prog_1_method_20_code
def yX6_sumOfMinima : MethodName := ⟨RX6, "sumOfMinima", "()I"⟩
abbrev cX6_ranges : ByteArray := prog_1_method_21_code
def yX6_ranges : MethodName := ⟨RX6, "ranges", "(I)I"⟩
abbrev cX6_keep : ByteArray := prog_1_method_22_code
def yX6_keep : MethodName := ⟨RX6, "keep", "(I)I"⟩
abbrev cX6_back : ByteArray := prog_1_method_23_code
def yX6_back : MethodName := ⟨RX6, "back", "(I)I"⟩
abbrev cX6_parting : ByteArray := prog_1_method_24_code
def yX6_parting : MethodName := ⟨RX6, "parting", "(I)I"⟩
abbrev cX6_isHeight : ByteArray := prog_1_method_25_code
def yX6_isHeight : MethodName := ⟨RX6, "isHeight", "(I)Z"⟩
abbrev cX6_isImage : ByteArray := prog_1_method_26_code
def yX6_isImage : MethodName := ⟨RX6, "isImage", "(I)Z"⟩
abbrev cX6_pourAll : ByteArray := prog_1_method_27_code
def yX6_pourAll : MethodName := ⟨RX6, "pourAll", "()I"⟩
abbrev cX6_countPools : ByteArray := prog_1_method_28_code
def yX6_countPools : MethodName := ⟨RX6, "countPools", "()I"⟩
abbrev cX6_depthOfWater : ByteArray := prog_1_method_29_code
def yX6_depthOfWater : MethodName := ⟨RX6, "depthOfWater", "(I)I"⟩
abbrev cX6_waterWithDam : ByteArray := prog_1_method_30_code
def yX6_waterWithDam : MethodName := ⟨RX6, "waterWithDam", "(II)I"⟩
abbrev cX6_countRectangles : ByteArray := prog_1_method_31_code
def yX6_countRectangles : MethodName := ⟨RX6, "countRectangles", "()I"⟩
abbrev cX6_largestRectangle : ByteArray := prog_1_method_32_code
def yX6_largestRectangle : MethodName := ⟨RX6, "largestRectangle", "(III)I"⟩
abbrev cX6_treeParent : ByteArray := prog_1_method_33_code
def yX6_treeParent : MethodName := ⟨RX6, "treeParent", "(I)I"⟩
abbrev cX6_treeDepth : ByteArray := prog_1_method_34_code
def yX6_treeDepth : MethodName := ⟨RX6, "treeDepth", "(I)I"⟩
abbrev cX6_greatestTreeDepth : ByteArray := prog_1_method_35_code
def yX6_greatestTreeDepth : MethodName := ⟨RX6, "greatestTreeDepth", "()I"⟩
abbrev cX6_sumOf : ByteArray := prog_1_method_36_code
def yX6_sumOf : MethodName := ⟨RX6, "sumOf", "([III)I"⟩
abbrev cX6_lowestLeast : ByteArray := prog_1_method_37_code
def yX6_lowestLeast : MethodName := ⟨RX6, "lowestLeast", "([III)I"⟩
abbrev cX6_lowestGreatest : ByteArray := prog_1_method_38_code
def yX6_lowestGreatest : MethodName := ⟨RX6, "lowestGreatest", "([III)I"⟩
def RX7 : String := "HistogramStairsModel"
def TX7 : u_T := fun k => match k with
  | 0 => ("HistogramStairsModel", "h", "[I", true)
  | 1 => ("HistogramStairsModel", "past", "[I", true)
  | 2 => ("HistogramStairsModel", "pastMany", "I", false)
  | 3 => ("HistogramStairsModel", "images", "[I", true)
  | 4 => ("HistogramStairsModel", "filled", "I", false)
  | 5 => ("HistogramStairsModel", "wet", "[I", true)
  | 6 => ("HistogramStairsModel", "areas", "[I", true)
  | 7 => ("HistogramStairsModel", "firsts", "[I", true)
  | 8 => ("HistogramStairsModel", "lasts", "[I", true)
  | 9 => ("HistogramStairsModel", "parent", "I", false)
  | 10 => ("HistogramStairsModel", "above", "[I", true)
  | _ => ("HistogramStairsModel", "next", "[I", true)
def tyX7 : Nat → FieldType := fun k => match k with
  | 0 => .array .int
  | 1 => .array .int
  | 2 => .int
  | 3 => .array .int
  | 4 => .int
  | 5 => .array .int
  | 6 => .array .int
  | 7 => .array .int
  | 8 => .array .int
  | 9 => .int
  | 10 => .array .int
  | _ => .array .int
abbrev wsX70 : List Cond := u_ws RX7 TX7 12
theorem nmX7 : ∀ a, a < 12 → ∀ b, b < 12 → a ≠ b → (TX7 a).2.1 ≠ (TX7 b).2.1 := by decide +kernel
theorem tyX7_ok : ∀ k, k < 12 → parseFieldDescriptor (TX7 k).2.2.1 = some (tyX7 k) := by decide +kernel
abbrev cX7_init : ByteArray := prog_9_method_1_code
def yX7_init : MethodName := ⟨RX7, "<init>", "()V"⟩
abbrev cX7_isIn : ByteArray := prog_9_method_3_code
def yX7_isIn : MethodName := ⟨RX7, "isIn", "(III)Z"⟩
abbrev cX7_many : ByteArray := prog_9_method_4_code
def yX7_many : MethodName := ⟨RX7, "many", "()I"⟩
abbrev cX7_isColumn : ByteArray := prog_9_method_5_code
def yX7_isColumn : MethodName := ⟨RX7, "isColumn", "(I)Z"⟩
abbrev cX7_isRange : ByteArray := prog_9_method_6_code
def yX7_isRange : MethodName := ⟨RX7, "isRange", "(II)Z"⟩
abbrev cX7_remember : ByteArray := prog_9_method_7_code
def yX7_remember : MethodName := ⟨RX7, "remember", "()V"⟩
abbrev cX7_before : ByteArray := prog_9_method_8_code
def yX7_before : MethodName := ⟨RX7, "before", "(I)I"⟩
abbrev cX7_changed : ByteArray := prog_9_method_9_code
def yX7_changed : MethodName := ⟨RX7, "changed", "(II)I"⟩
abbrev cX7_insert : ByteArray := prog_9_method_10_code
def yX7_insert : MethodName := ⟨RX7, "insert", "(II)I"⟩
abbrev cX7_remove : ByteArray := prog_9_method_11_code
def yX7_remove : MethodName := ⟨RX7, "remove", "(I)I"⟩
abbrev cX7_set : ByteArray := prog_9_method_12_code
def yX7_set : MethodName := ⟨RX7, "set", "(II)I"⟩
abbrev cX7_capped : ByteArray := prog_9_method_13_code
def yX7_capped : MethodName := ⟨RX7, "capped", "(I)I"⟩
abbrev cX7_raise : ByteArray := prog_9_method_14_code
def yX7_raise : MethodName := ⟨RX7, "raise", "(III)I"⟩
abbrev cX7_reverse : ByteArray := prog_9_method_15_code
def yX7_reverse : MethodName := ⟨RX7, "reverse", "(II)I"⟩
abbrev cX7_sort : ByteArray := prog_9_method_16_code
def yX7_sort : MethodName := ⟨RX7, "sort", "(III)I"⟩
abbrev cX7_freeze : ByteArray := prog_9_method_17_code
def yX7_freeze : MethodName := ⟨RX7, "freeze", "()I"⟩
abbrev cX7_clear : ByteArray := prog_9_method_18_code
def yX7_clear : MethodName := ⟨RX7, "clear", "()I"⟩
abbrev cX7_undo : ByteArray := prog_9_method_19_code
def yX7_undo : MethodName := ⟨RX7, "undo", "()I"⟩
abbrev cX7_least : ByteArray := prog_9_method_20_code
def yX7_least : MethodName := ⟨RX7, "least", "(II)I"⟩
abbrev cX7_greatest : ByteArray := prog_9_method_21_code
def yX7_greatest : MethodName := ⟨RX7, "greatest", "(II)I"⟩
abbrev cX7_firstWith : ByteArray := prog_9_method_22_code
def yX7_firstWith : MethodName := ⟨RX7, "firstWith", "(II)I"⟩
abbrev cX7_sum : ByteArray := prog_9_method_23_code
def yX7_sum : MethodName := ⟨RX7, "sum", "(II)I"⟩
abbrev cX7_depth : ByteArray := prog_9_method_24_code
def yX7_depth : MethodName := ⟨RX7, "depth", "(III)I"⟩
abbrev cX7_water : ByteArray := prog_9_method_25_code
def yX7_water : MethodName := ⟨RX7, "water", "(II)I"⟩
abbrev cX7_isWet : ByteArray := prog_9_method_26_code
def yX7_isWet : MethodName := ⟨RX7, "isWet", "(I)Z"⟩
abbrev cX7_beginsPool : ByteArray := prog_9_method_27_code
def yX7_beginsPool : MethodName := ⟨RX7, "beginsPool", "(I)Z"⟩
abbrev cX7_pools : ByteArray := prog_9_method_28_code
def yX7_pools : MethodName := ⟨RX7, "pools", "()I"⟩
abbrev cX7_isMaximal : ByteArray := prog_9_method_29_code
def yX7_isMaximal : MethodName := ⟨RX7, "isMaximal", "(II)Z"⟩
abbrev cX7_area : ByteArray := prog_9_method_30_code
def yX7_area : MethodName := ⟨RX7, "area", "(II)I"⟩
abbrev cX7_layRectangles : ByteArray := prog_9_method_31_code
def yX7_layRectangles : MethodName := ⟨RX7, "layRectangles", "()I"⟩
abbrev cX7_rootOf : ByteArray := prog_9_method_32_code
def yX7_rootOf : MethodName := ⟨RX7, "rootOf", "(II)I"⟩
abbrev cX7_treeDepth : ByteArray := prog_9_method_33_code
def yX7_treeDepth : MethodName := ⟨RX7, "treeDepth", "(I)I"⟩
abbrev cX7_parentOf : ByteArray := prog_9_method_34_code
def yX7_parentOf : MethodName := ⟨RX7, "parentOf", "(I)I"⟩
abbrev cX7_deepest : ByteArray := prog_9_method_35_code
def yX7_deepest : MethodName := ⟨RX7, "deepest", "()I"⟩
abbrev cX7_horizontal : ByteArray := prog_9_method_36_code
def yX7_horizontal : MethodName := ⟨RX7, "horizontal", "()I"⟩
abbrev cX7_endAbove : ByteArray := prog_9_method_37_code
def yX7_endAbove : MethodName := ⟨RX7, "endAbove", "(II)I"⟩
abbrev cX7_layLevel : ByteArray := prog_9_method_38_code
def yX7_layLevel : MethodName := ⟨RX7, "layLevel", "(I)V"⟩
abbrev cX7_strokes : ByteArray := prog_9_method_39_code
def yX7_strokes : MethodName := ⟨RX7, "strokes", "()I"⟩
abbrev cX7_standing : ByteArray := prog_9_method_40_code
def yX7_standing : MethodName := ⟨RX7, "standing", "(Z)I"⟩
abbrev cX7_told : ByteArray := prog_9_method_41_code
def yX7_told : MethodName := ⟨RX7, "told", "(I)I"⟩
abbrev cX7_nearest : ByteArray := prog_9_method_42_code
def yX7_nearest : MethodName := ⟨RX7, "nearest", "(IIZ)I"⟩
abbrev cX7_reach : ByteArray := prog_9_method_43_code
def yX7_reach : MethodName := ⟨RX7, "reach", "(I)I"⟩
abbrev cX7_stairLength : ByteArray := prog_9_method_44_code
def yX7_stairLength : MethodName := ⟨RX7, "stairLength", "(I)I"⟩
abbrev cX7_column : ByteArray := prog_9_method_45_code
def yX7_column : MethodName := ⟨RX7, "column", "(II)I"⟩
abbrev cX7_stair : ByteArray := prog_9_method_46_code
def yX7_stair : MethodName := ⟨RX7, "stair", "(II)I"⟩
abbrev cX7_largest : ByteArray := prog_9_method_47_code
def yX7_largest : MethodName := ⟨RX7, "largest", "(III)I"⟩
abbrev cX7_range : ByteArray := prog_9_method_48_code
def yX7_range : MethodName := ⟨RX7, "range", "(III)I"⟩
abbrev cX7_owners : ByteArray := prog_9_method_49_code
def yX7_owners : MethodName := ⟨RX7, "owners", "(I)I"⟩
abbrev cX7_rectangle : ByteArray := prog_9_method_50_code
def yX7_rectangle : MethodName := ⟨RX7, "rectangle", "(II)I"⟩
abbrev cX7_container : ByteArray := prog_9_method_51_code
def yX7_container : MethodName := ⟨RX7, "container", "(I)I"⟩
abbrev cX7_poolBegin : ByteArray := prog_9_method_52_code
def yX7_poolBegin : MethodName := ⟨RX7, "poolBegin", "(I)I"⟩
abbrev cX7_pool : ByteArray := prog_9_method_53_code
def yX7_pool : MethodName := ⟨RX7, "pool", "(II)I"⟩
abbrev cX7_drained : ByteArray := prog_9_method_54_code
def yX7_drained : MethodName := ⟨RX7, "drained", "(I)I"⟩
abbrev cX7_dam : ByteArray := prog_9_method_55_code
def yX7_dam : MethodName := ⟨RX7, "dam", "(II)I"⟩
abbrev cX7_sumOfMinima : ByteArray := prog_9_method_56_code
def yX7_sumOfMinima : MethodName := ⟨RX7, "sumOfMinima", "()I"⟩
abbrev cX7_ranges : ByteArray := prog_9_method_57_code
def yX7_ranges : MethodName := ⟨RX7, "ranges", "(I)I"⟩
abbrev cX7_isImage : ByteArray := prog_9_method_58_code
def yX7_isImage : MethodName := ⟨RX7, "isImage", "(I)Z"⟩
abbrev cX7_keep : ByteArray := prog_9_method_59_code
def yX7_keep : MethodName := ⟨RX7, "keep", "(I)I"⟩
abbrev cX7_isKept : ByteArray := prog_9_method_60_code
def yX7_isKept : MethodName := ⟨RX7, "isKept", "(I)Z"⟩
abbrev cX7_back : ByteArray := prog_9_method_61_code
def yX7_back : MethodName := ⟨RX7, "back", "(I)I"⟩
abbrev cX7_parting : ByteArray := prog_9_method_62_code
def yX7_parting : MethodName := ⟨RX7, "parting", "(I)I"⟩
def RJ9 : String := "java/lang/Math"
def TJ9 : u_T := fun k => match k with
  | _ => ("", "", "", false)
def tyJ9 : Nat → FieldType := fun k => match k with
  | _ => .int
abbrev wsJ90 : List Cond := u_ws RJ9 TJ9 0
theorem nmJ9 : ∀ a, a < 0 → ∀ b, b < 0 → a ≠ b → (TJ9 a).2.1 ≠ (TJ9 b).2.1 := by decide +kernel
theorem tyJ9_ok : ∀ k, k < 0 → parseFieldDescriptor (TJ9 k).2.2.1 = some (tyJ9 k) := by decide +kernel
abbrev cJ9_max_7cf53 : ByteArray := prog_10_method_65_code
def yJ9_max_7cf53 : MethodName := ⟨RJ9, "max", "(II)I"⟩
abbrev cJ9_min_7cf53 : ByteArray := prog_10_method_69_code
def yJ9_min_7cf53 : MethodName := ⟨RJ9, "min", "(II)I"⟩
def RJ10 : String := "java/lang/System"
def TJ10 : u_T := fun k => match k with
  | _ => ("", "", "", false)
def tyJ10 : Nat → FieldType := fun k => match k with
  | _ => .int
abbrev wsJ100 : List Cond := u_ws RJ10 TJ10 0
theorem nmJ10 : ∀ a, a < 0 → ∀ b, b < 0 → a ≠ b → (TJ10 a).2.1 ≠ (TJ10 b).2.1 := by decide +kernel
theorem tyJ10_ok : ∀ k, k < 0 → parseFieldDescriptor (TJ10 k).2.2.1 = some (tyJ10 k) := by decide +kernel
def RJ7 : String := "java/util/Arrays"
def TJ7 : u_T := fun k => match k with
  | _ => ("", "", "", false)
def tyJ7 : Nat → FieldType := fun k => match k with
  | _ => .int
abbrev wsJ70 : List Cond := u_ws RJ7 TJ7 0
theorem nmJ7 : ∀ a, a < 0 → ∀ b, b < 0 → a ≠ b → (TJ7 a).2.1 ≠ (TJ7 b).2.1 := by decide +kernel
theorem tyJ7_ok : ∀ k, k < 0 → parseFieldDescriptor (TJ7 k).2.2.1 = some (tyJ7 k) := by decide +kernel
abbrev cJ7_rangeCheck_23922 : ByteArray := prog_12_method_30_code
def yJ7_rangeCheck_23922 : MethodName := ⟨RJ7, "rangeCheck", "(III)V"⟩
abbrev cJ7_fill_53178 : ByteArray := prog_12_method_103_code
def yJ7_fill_53178 : MethodName := ⟨RJ7, "fill", "([II)V"⟩
abbrev cJ7_fill_fda19 : ByteArray := prog_12_method_104_code
def yJ7_fill_fda19 : MethodName := ⟨RJ7, "fill", "([IIII)V"⟩
def RL : String := "HistogramStairsLaw"
abbrev cL_law : ByteArray := code
def yL_law : MethodName := ⟨RL, "law", "([I)Z"⟩
def wsX0_init : List Cond := .code yX0_init cX0_init 1 none :: ([.methodLink RX0 3 objectInit, .instanceMethod objectInit, .code objectInit ⟨#[0xb1]⟩ 1 none, .arrayClass .int, .fieldLink RX0 9 "HistogramStairs$Columns" "heights" "[I", .fieldLink RX0 15 "HistogramStairs$Columns" "size" "I"] ++ wsX00)
def wsX0_copyFrom : List Cond := .code yX0_copyFrom cX0_copyFrom 2 none :: ([.fieldLink RX0 9 "HistogramStairs$Columns" "heights" "[I", .fieldLink RX0 15 "HistogramStairs$Columns" "size" "I", .methodLink RX0 19 arraycopyName, .native arraycopyName, .static arraycopyName, .initialized "java/lang/System"] ++ wsX00)
def wsX0_has : List Cond := .code yX0_has cX0_has 2 (some .boolean) :: ([.fieldLink RX0 15 "HistogramStairs$Columns" "size" "I"] ++ wsX00)
def wsX0_hasRange : List Cond := .code yX0_hasRange cX0_hasRange 3 (some .boolean) :: ([.fieldLink RX0 15 "HistogramStairs$Columns" "size" "I"] ++ wsX00)
def wsX0_putIn : List Cond := .code yX0_putIn cX0_putIn 3 none :: ([.fieldLink RX0 9 "HistogramStairs$Columns" "heights" "[I", .fieldLink RX0 15 "HistogramStairs$Columns" "size" "I", .methodLink RX0 19 arraycopyName, .native arraycopyName, .static arraycopyName, .initialized "java/lang/System"] ++ wsX00)
def wsX0_takeOut : List Cond := .code yX0_takeOut cX0_takeOut 3 (some .int) :: ([.fieldLink RX0 9 "HistogramStairs$Columns" "heights" "[I", .fieldLink RX0 15 "HistogramStairs$Columns" "size" "I", .methodLink RX0 19 arraycopyName, .native arraycopyName, .static arraycopyName, .initialized "java/lang/System"] ++ wsX00)
def wsX0_lift : List Cond := .code yX0_lift cX0_lift 7 (some .int) :: ([.fieldLink RX0 9 "HistogramStairs$Columns" "heights" "[I", .methodLink RX0 25 Lib.Math.min.name, .static Lib.Math.min.name, .initialized "java/lang/Math", .code Lib.Math.min.name Lib.Math.min.code 2 (some .int), .methodLink RX0 31 Lib.Math.max.name, .static Lib.Math.max.name, .code Lib.Math.max.name Lib.Math.max.code 2 (some .int)] ++ wsX00)
def wsX0_exchange : List Cond := .code yX0_exchange cX0_exchange 4 none :: ([.fieldLink RX0 9 "HistogramStairs$Columns" "heights" "[I"] ++ wsX00)
def wsX0_mirror : List Cond := .code yX0_mirror cX0_mirror 6 (some .int) :: ([.fieldLink RX0 9 "HistogramStairs$Columns" "heights" "[I", .methodLink RX0 34 yX0_exchange, .instanceMethod yX0_exchange, .selects RX0 yX0_exchange yX0_exchange, .initialized RX0, .code yX0_exchange cX0_exchange 4 none] ++ wsX00)
def wsX0_isWrong : List Cond := .code yX0_isWrong cX0_isWrong 3 (some .boolean) :: ([])
def wsX0_arrange : List Cond := .code yX0_arrange cX0_arrange 7 (some .int) :: ([.fieldLink RX0 9 "HistogramStairs$Columns" "heights" "[I", .methodLink RX0 38 yX0_isWrong, .static yX0_isWrong, .initialized RX0, .code yX0_isWrong cX0_isWrong 3 (some .boolean), .methodLink RX0 34 yX0_exchange, .instanceMethod yX0_exchange, .selects RX0 yX0_exchange yX0_exchange, .code yX0_exchange cX0_exchange 4 none] ++ wsX00)
def wsX6_lowestGreatest : List Cond := .code yX6_lowestGreatest cX6_lowestGreatest 5 (some .int) :: ([])
def wsX0_greatestHeight : List Cond := .code yX0_greatestHeight cX0_greatestHeight 1 (some .int) :: ([.fieldLink RX0 15 "HistogramStairs$Columns" "size" "I", .fieldLink RX0 9 "HistogramStairs$Columns" "heights" "[I", .static yX6_lowestGreatest, .initialized RX6, .code yX6_lowestGreatest cX6_lowestGreatest 5 (some .int)] ++ wsX00)
def wsX0_countSeen : List Cond := .code yX0_countSeen cX0_countSeen 6 (some .int) :: ([.fieldLink RX0 15 "HistogramStairs$Columns" "size" "I", .fieldLink RX0 9 "HistogramStairs$Columns" "heights" "[I"] ++ wsX00)
def wsX0_countRises : List Cond := .code yX0_countRises cX0_countRises 4 (some .int) :: ([.fieldLink RX0 15 "HistogramStairs$Columns" "size" "I", .fieldLink RX0 9 "HistogramStairs$Columns" "heights" "[I", .methodLink RX0 31 Lib.Math.max.name, .static Lib.Math.max.name, .initialized "java/lang/Math", .code Lib.Math.max.name Lib.Math.max.code 2 (some .int)] ++ wsX00)
def wsX0_smallerToLeft : List Cond := .code yX0_smallerToLeft cX0_smallerToLeft 3 (some .int) :: ([.fieldLink RX0 9 "HistogramStairs$Columns" "heights" "[I"] ++ wsX00)
def wsX0_smallerToRight : List Cond := .code yX0_smallerToRight cX0_smallerToRight 3 (some .int) :: ([.fieldLink RX0 15 "HistogramStairs$Columns" "size" "I", .fieldLink RX0 9 "HistogramStairs$Columns" "heights" "[I"] ++ wsX00)
def wsX0_greaterToLeft : List Cond := .code yX0_greaterToLeft cX0_greaterToLeft 3 (some .int) :: ([.fieldLink RX0 9 "HistogramStairs$Columns" "heights" "[I"] ++ wsX00)
def wsX0_greaterToRight : List Cond := .code yX0_greaterToRight cX0_greaterToRight 3 (some .int) :: ([.fieldLink RX0 15 "HistogramStairs$Columns" "size" "I", .fieldLink RX0 9 "HistogramStairs$Columns" "heights" "[I"] ++ wsX00)
def wsX0_span : List Cond := .code yX0_span cX0_span 6 (some .int) :: ([.fieldLink RX0 15 "HistogramStairs$Columns" "size" "I", .methodLink RX0 46 yX0_smallerToLeft, .instanceMethod yX0_smallerToLeft, .selects RX0 yX0_smallerToLeft yX0_smallerToLeft, .initialized RX0, .code yX0_smallerToLeft cX0_smallerToLeft 3 (some .int), .fieldLink RX0 9 "HistogramStairs$Columns" "heights" "[I", .methodLink RX0 50 yX0_smallerToRight, .instanceMethod yX0_smallerToRight, .selects RX0 yX0_smallerToRight yX0_smallerToRight, .code yX0_smallerToRight cX0_smallerToRight 3 (some .int)] ++ wsX00)
def wsX0_stairLength : List Cond := .code yX0_stairLength cX0_stairLength 5 (some .int) :: ([.fieldLink RX0 9 "HistogramStairs$Columns" "heights" "[I"] ++ wsX00)
def wsX0_stairStep : List Cond := .code yX0_stairStep cX0_stairStep 6 (some .int) :: ([.fieldLink RX0 9 "HistogramStairs$Columns" "heights" "[I"] ++ wsX00)
def wsX0_firstDifference : List Cond := .code yX0_firstDifference cX0_firstDifference 4 (some .int) :: ([.fieldLink RX0 15 "HistogramStairs$Columns" "size" "I", .methodLink RX0 25 Lib.Math.min.name, .static Lib.Math.min.name, .initialized "java/lang/Math", .code Lib.Math.min.name Lib.Math.min.code 2 (some .int), .fieldLink RX0 9 "HistogramStairs$Columns" "heights" "[I"] ++ wsX00)
def wsX1_init : List Cond := .code yX1_init cX1_init 2 none :: ([.methodLink RX1 3 objectInit, .instanceMethod objectInit, .code objectInit ⟨#[0xb1]⟩ 1 none, .classLink RX1 9 RX0, .fieldLink RX1 11 "HistogramStairs$History" "states" "[LHistogramStairs$Columns;", .fieldLink RX1 17 "HistogramStairs$History" "count" "I", .instantiable RX0 2, .initialized RX0, .instanceMethod yX0_init, .code yX0_init cX0_init 1 none, .methodLink RX0 3 objectInit, .arrayClass .int, .fieldLink RX0 9 "HistogramStairs$Columns" "heights" "[I", .fieldLink RX0 15 "HistogramStairs$Columns" "size" "I"] ++ wsX10 ++ wsX00)
def wsX1_dropOldest : List Cond := .code yX1_dropOldest cX1_dropOldest 3 none :: ([.fieldLink RX1 11 "HistogramStairs$History" "states" "[LHistogramStairs$Columns;", .fieldLink RX1 17 "HistogramStairs$History" "count" "I"] ++ wsX10)
def wsX1_remember : List Cond := .code yX1_remember cX1_remember 2 none :: ([.fieldLink RX1 17 "HistogramStairs$History" "count" "I", .fieldLink RX1 11 "HistogramStairs$History" "states" "[LHistogramStairs$Columns;", .methodLink RX1 22 yX1_dropOldest, .instanceMethod yX1_dropOldest, .selects RX1 yX1_dropOldest yX1_dropOldest, .initialized RX1, .code yX1_dropOldest cX1_dropOldest 3 none, .methodLink RX1 25 yX0_copyFrom, .instanceMethod yX0_copyFrom, .selects RX0 yX0_copyFrom yX0_copyFrom, .initialized RX0, .code yX0_copyFrom cX0_copyFrom 2 none, .fieldLink RX0 9 "HistogramStairs$Columns" "heights" "[I", .fieldLink RX0 15 "HistogramStairs$Columns" "size" "I", .methodLink RX0 19 arraycopyName, .native arraycopyName, .static arraycopyName, .initialized "java/lang/System"] ++ wsX10 ++ wsX00)
def wsX1_restore : List Cond := .code yX1_restore cX1_restore 2 none :: ([.fieldLink RX1 17 "HistogramStairs$History" "count" "I", .fieldLink RX1 11 "HistogramStairs$History" "states" "[LHistogramStairs$Columns;", .methodLink RX1 25 yX0_copyFrom, .instanceMethod yX0_copyFrom, .selects RX0 yX0_copyFrom yX0_copyFrom, .initialized RX0, .code yX0_copyFrom cX0_copyFrom 2 none, .fieldLink RX0 9 "HistogramStairs$Columns" "heights" "[I", .fieldLink RX0 15 "HistogramStairs$Columns" "size" "I", .methodLink RX0 19 arraycopyName, .native arraycopyName, .static arraycopyName, .initialized "java/lang/System"] ++ wsX10 ++ wsX00)
def wsX2_init : List Cond := .code yX2_init cX2_init 1 none :: ([.methodLink RX2 3 objectInit, .instanceMethod objectInit, .code objectInit ⟨#[0xb1]⟩ 1 none, .arrayClass .int, .fieldLink RX2 9 "HistogramStairs$Painter" "strokes" "[I"] ++ wsX20)
def wsJ7_fill_53178 : List Cond := .code yJ7_fill_53178 cJ7_fill_53178 4 none :: ([])
def wsX6_sumOf : List Cond := .code yX6_sumOf cX6_sumOf 5 (some .int) :: ([])
def wsJ7_rangeCheck_23922 : List Cond := .code yJ7_rangeCheck_23922 cJ7_rangeCheck_23922 3 none :: ([])
def wsJ7_fill_fda19 : List Cond := .code yJ7_fill_fda19 cJ7_fill_fda19 5 none :: ([.methodLink RJ7 13 yJ7_rangeCheck_23922, .static yJ7_rangeCheck_23922, .initialized RJ7, .code yJ7_rangeCheck_23922 cJ7_rangeCheck_23922 3 none])
def wsX2_paintRun : List Cond := .code yX2_paintRun cX2_paintRun 4 none :: ([.fieldLink RX2 9 "HistogramStairs$Painter" "strokes" "[I", .methodLink RX2 49 Lib.Math.min.name, .static Lib.Math.min.name, .initialized "java/lang/Math", .code Lib.Math.min.name Lib.Math.min.code 2 (some .int), .static yX6_sumOf, .initialized RX6, .code yX6_sumOf cX6_sumOf 5 (some .int), .methodLink RX2 46 yJ7_fill_fda19, .static yJ7_fill_fda19, .initialized RJ7, .code yJ7_fill_fda19 cJ7_fill_fda19 5 none, .methodLink RJ7 13 yJ7_rangeCheck_23922, .static yJ7_rangeCheck_23922, .code yJ7_rangeCheck_23922 cJ7_rangeCheck_23922 3 none] ++ wsX20)
def wsX2_paintRow : List Cond := .code yX2_paintRow cX2_paintRow 5 none :: ([.methodLink RX2 42 yX2_paintRun, .instanceMethod yX2_paintRun, .selects RX2 yX2_paintRun yX2_paintRun, .initialized RX2, .code yX2_paintRun cX2_paintRun 4 none, .fieldLink RX2 9 "HistogramStairs$Painter" "strokes" "[I", .methodLink RX2 49 Lib.Math.min.name, .static Lib.Math.min.name, .initialized "java/lang/Math", .code Lib.Math.min.name Lib.Math.min.code 2 (some .int), .static yX6_sumOf, .initialized RX6, .code yX6_sumOf cX6_sumOf 5 (some .int), .methodLink RX2 46 yJ7_fill_fda19, .static yJ7_fill_fda19, .initialized RJ7, .code yJ7_fill_fda19 cJ7_fill_fda19 5 none, .methodLink RJ7 13 yJ7_rangeCheck_23922, .static yJ7_rangeCheck_23922, .code yJ7_rangeCheck_23922 cJ7_rangeCheck_23922 3 none] ++ wsX00 ++ wsX20)
def wsX2_countStrokes_r1 : List Cond := [Cond.fieldLink RX2 9 "HistogramStairs$Painter" "strokes" "[I", Cond.methodLink RX2 15 yJ7_fill_53178, Cond.static yJ7_fill_53178, Cond.initialized RJ7, Cond.code yJ7_fill_53178 cJ7_fill_53178 4 none, Cond.methodLink RX2 21 yX0_greatestHeight, Cond.instanceMethod yX0_greatestHeight, Cond.selects RX0 yX0_greatestHeight yX0_greatestHeight, Cond.initialized RX0, Cond.code yX0_greatestHeight cX0_greatestHeight 1 (some .int), Cond.fieldLink RX0 15 "HistogramStairs$Columns" "size" "I", Cond.fieldLink RX0 9 "HistogramStairs$Columns" "heights" "[I", Cond.static yX6_lowestGreatest, Cond.initialized RX6, Cond.code yX6_lowestGreatest cX6_lowestGreatest 5 (some .int), Cond.methodLink RX2 27 yX2_paintRow, Cond.instanceMethod yX2_paintRow, Cond.selects RX2 yX2_paintRow yX2_paintRow, Cond.initialized RX2, Cond.code yX2_paintRow cX2_paintRow 5 none, Cond.methodLink RX2 42 yX2_paintRun, Cond.instanceMethod yX2_paintRun, Cond.selects RX2 yX2_paintRun yX2_paintRun, Cond.code yX2_paintRun cX2_paintRun 4 none]
def wsX2_countStrokes_r2 : List Cond := [Cond.methodLink RX2 49 Lib.Math.min.name, Cond.static Lib.Math.min.name, Cond.initialized "java/lang/Math", Cond.code Lib.Math.min.name Lib.Math.min.code 2 (some .int), Cond.static yX6_sumOf, Cond.code yX6_sumOf cX6_sumOf 5 (some .int), Cond.methodLink RX2 46 yJ7_fill_fda19, Cond.static yJ7_fill_fda19, Cond.code yJ7_fill_fda19 cJ7_fill_fda19 5 none, Cond.methodLink RJ7 13 yJ7_rangeCheck_23922, Cond.static yJ7_rangeCheck_23922, Cond.code yJ7_rangeCheck_23922 cJ7_rangeCheck_23922 3 none]
def wsX2_countStrokes : List Cond := .code yX2_countStrokes cX2_countStrokes 3 (some .int) :: ((wsX2_countStrokes_r1 ++ wsX2_countStrokes_r2) ++ wsX20 ++ wsX00)
def wsX3_init : List Cond := .code yX3_init cX3_init 1 none :: ([.methodLink RX3 3 objectInit, .instanceMethod objectInit, .code objectInit ⟨#[0xb1]⟩ 1 none, .arrayClass .int, .fieldLink RX3 9 "HistogramStairs$Rectangles" "firsts" "[I", .fieldLink RX3 15 "HistogramStairs$Rectangles" "lasts" "[I", .fieldLink RX3 18 "HistogramStairs$Rectangles" "tops" "[I", .fieldLink RX3 21 "HistogramStairs$Rectangles" "owners" "[I", .fieldLink RX3 24 "HistogramStairs$Rectangles" "count" "I"] ++ wsX30)
def wsX3_area : List Cond := .code yX3_area cX3_area 2 (some .int) :: ([.fieldLink RX3 18 "HistogramStairs$Rectangles" "tops" "[I", .fieldLink RX3 15 "HistogramStairs$Rectangles" "lasts" "[I", .fieldLink RX3 9 "HistogramStairs$Rectangles" "firsts" "[I"] ++ wsX30)
def wsX3_comesBefore : List Cond := .code yX3_comesBefore cX3_comesBefore 6 (some .boolean) :: ([.fieldLink RX3 9 "HistogramStairs$Rectangles" "firsts" "[I", .fieldLink RX3 15 "HistogramStairs$Rectangles" "lasts" "[I", .methodLink RX3 32 yX3_area, .instanceMethod yX3_area, .selects RX3 yX3_area yX3_area, .initialized RX3, .code yX3_area cX3_area 2 (some .int), .fieldLink RX3 18 "HistogramStairs$Rectangles" "tops" "[I"] ++ wsX30)
def wsX3_place : List Cond := .code yX3_place cX3_place 6 none :: ([.fieldLink RX3 24 "HistogramStairs$Rectangles" "count" "I", .fieldLink RX3 9 "HistogramStairs$Rectangles" "firsts" "[I", .fieldLink RX3 15 "HistogramStairs$Rectangles" "lasts" "[I", .fieldLink RX3 18 "HistogramStairs$Rectangles" "tops" "[I", .fieldLink RX3 21 "HistogramStairs$Rectangles" "owners" "[I", .methodLink RX3 40 yX3_comesBefore, .instanceMethod yX3_comesBefore, .selects RX3 yX3_comesBefore yX3_comesBefore, .initialized RX3, .code yX3_comesBefore cX3_comesBefore 6 (some .boolean), .methodLink RX3 32 yX3_area, .instanceMethod yX3_area, .selects RX3 yX3_area yX3_area, .code yX3_area cX3_area 2 (some .int)] ++ wsX30)
def wsX3_findOwnedBy : List Cond := .code yX3_findOwnedBy cX3_findOwnedBy 7 none :: ([.methodLink RX3 36 yX3_place, .instanceMethod yX3_place, .selects RX3 yX3_place yX3_place, .initialized RX3, .code yX3_place cX3_place 6 none, .fieldLink RX3 24 "HistogramStairs$Rectangles" "count" "I", .fieldLink RX3 9 "HistogramStairs$Rectangles" "firsts" "[I", .fieldLink RX3 15 "HistogramStairs$Rectangles" "lasts" "[I", .fieldLink RX3 18 "HistogramStairs$Rectangles" "tops" "[I", .fieldLink RX3 21 "HistogramStairs$Rectangles" "owners" "[I", .methodLink RX3 40 yX3_comesBefore, .instanceMethod yX3_comesBefore, .selects RX3 yX3_comesBefore yX3_comesBefore, .code yX3_comesBefore cX3_comesBefore 6 (some .boolean), .methodLink RX3 32 yX3_area, .instanceMethod yX3_area, .selects RX3 yX3_area yX3_area, .code yX3_area cX3_area 2 (some .int)] ++ wsX30)
def wsX3_find : List Cond := .code yX3_find cX3_find 5 none :: ([.fieldLink RX3 24 "HistogramStairs$Rectangles" "count" "I", .methodLink RX3 28 yX3_findOwnedBy, .instanceMethod yX3_findOwnedBy, .selects RX3 yX3_findOwnedBy yX3_findOwnedBy, .initialized RX3, .code yX3_findOwnedBy cX3_findOwnedBy 7 none, .methodLink RX3 36 yX3_place, .instanceMethod yX3_place, .selects RX3 yX3_place yX3_place, .code yX3_place cX3_place 6 none, .fieldLink RX3 9 "HistogramStairs$Rectangles" "firsts" "[I", .fieldLink RX3 15 "HistogramStairs$Rectangles" "lasts" "[I", .fieldLink RX3 18 "HistogramStairs$Rectangles" "tops" "[I", .fieldLink RX3 21 "HistogramStairs$Rectangles" "owners" "[I", .methodLink RX3 40 yX3_comesBefore, .instanceMethod yX3_comesBefore, .selects RX3 yX3_comesBefore yX3_comesBefore, .code yX3_comesBefore cX3_comesBefore 6 (some .boolean), .methodLink RX3 32 yX3_area, .instanceMethod yX3_area, .selects RX3 yX3_area yX3_area, .code yX3_area cX3_area 2 (some .int)] ++ wsX30)
def wsX3_property : List Cond := .code yX3_property cX3_property 3 (some .int) :: ([.fieldLink RX3 9 "HistogramStairs$Rectangles" "firsts" "[I", .fieldLink RX3 15 "HistogramStairs$Rectangles" "lasts" "[I", .fieldLink RX3 18 "HistogramStairs$Rectangles" "tops" "[I", .methodLink RX3 32 yX3_area, .instanceMethod yX3_area, .selects RX3 yX3_area yX3_area, .initialized RX3, .code yX3_area cX3_area 2 (some .int)] ++ wsX30)
def wsX3_countOwners : List Cond := .code yX3_countOwners cX3_countOwners 5 (some .int) :: ([.fieldLink RX3 9 "HistogramStairs$Rectangles" "firsts" "[I", .fieldLink RX3 15 "HistogramStairs$Rectangles" "lasts" "[I", .fieldLink RX3 18 "HistogramStairs$Rectangles" "tops" "[I"] ++ wsX30)
def wsX4_init : List Cond := .code yX4_init cX4_init 1 none :: ([.methodLink RX4 3 objectInit, .instanceMethod objectInit, .code objectInit ⟨#[0xb1]⟩ 1 none, .arrayClass .int, .fieldLink RX4 9 "HistogramStairs$Tree" "parents" "[I", .fieldLink RX4 15 "HistogramStairs$Tree" "spine" "[I"] ++ wsX40)
def wsX4_grow : List Cond := .code yX4_grow cX4_grow 5 none :: ([.fieldLink RX4 15 "HistogramStairs$Tree" "spine" "[I", .fieldLink RX4 9 "HistogramStairs$Tree" "parents" "[I"] ++ wsX00 ++ wsX40)
def wsX4_depthOf : List Cond := .code yX4_depthOf cX4_depthOf 4 (some .int) :: ([.fieldLink RX4 9 "HistogramStairs$Tree" "parents" "[I"] ++ wsX40)
def wsX5_init : List Cond := .code yX5_init cX5_init 1 none :: ([.methodLink RX5 3 objectInit, .instanceMethod objectInit, .code objectInit ⟨#[0xb1]⟩ 1 none, .arrayClass .int, .fieldLink RX5 9 "HistogramStairs$Water" "depths" "[I"] ++ wsX50)
def wsX5_pour : List Cond := .code yX5_pour cX5_pour 7 (some .int) :: ([.methodLink RX5 15 Lib.Math.max.name, .static Lib.Math.max.name, .initialized "java/lang/Math", .code Lib.Math.max.name Lib.Math.max.code 2 (some .int), .fieldLink RX5 9 "HistogramStairs$Water" "depths" "[I", .methodLink RX5 21 Lib.Math.min.name, .static Lib.Math.min.name, .code Lib.Math.min.name Lib.Math.min.code 2 (some .int)] ++ wsX50)
def wsX5_startsPool : List Cond := .code yX5_startsPool cX5_startsPool 2 (some .boolean) :: ([.fieldLink RX5 9 "HistogramStairs$Water" "depths" "[I"] ++ wsX50)
def wsX5_poolCount : List Cond := .code yX5_poolCount cX5_poolCount 4 (some .int) :: ([.methodLink RX5 24 yX5_startsPool, .instanceMethod yX5_startsPool, .selects RX5 yX5_startsPool yX5_startsPool, .initialized RX5, .code yX5_startsPool cX5_startsPool 2 (some .boolean), .fieldLink RX5 9 "HistogramStairs$Water" "depths" "[I"] ++ wsX50)
def wsX5_poolStart : List Cond := .code yX5_poolStart cX5_poolStart 5 (some .int) :: ([.methodLink RX5 24 yX5_startsPool, .instanceMethod yX5_startsPool, .selects RX5 yX5_startsPool yX5_startsPool, .initialized RX5, .code yX5_startsPool cX5_startsPool 2 (some .boolean), .fieldLink RX5 9 "HistogramStairs$Water" "depths" "[I"] ++ wsX50)
def wsX5_poolEnd : List Cond := .code yX5_poolEnd cX5_poolEnd 4 (some .int) :: ([.fieldLink RX5 9 "HistogramStairs$Water" "depths" "[I"] ++ wsX50)
def wsX6_init_r1 : List Cond := [Cond.methodLink RX6 1 objectInit, Cond.instanceMethod objectInit, Cond.code objectInit ⟨#[0xb1]⟩ 1 none, Cond.classLink RX6 7 RX0, Cond.instantiable RX0 2, Cond.initialized RX0, Cond.fieldLink RX6 10 "HistogramStairs" "columns" "LHistogramStairs$Columns;", Cond.classLink RX6 16 RX1, Cond.instantiable RX1 2, Cond.initialized RX1, Cond.fieldLink RX6 19 "HistogramStairs" "history" "LHistogramStairs$History;", Cond.fieldLink RX6 23 "HistogramStairs" "images" "[LHistogramStairs$Columns;", Cond.classLink RX6 27 RX5, Cond.instantiable RX5 1, Cond.initialized RX5, Cond.fieldLink RX6 30 "HistogramStairs" "water" "LHistogramStairs$Water;", Cond.classLink RX6 34 RX3, Cond.instantiable RX3 5, Cond.initialized RX3, Cond.fieldLink RX6 37 "HistogramStairs" "rectangles" "LHistogramStairs$Rectangles;", Cond.classLink RX6 41 RX4, Cond.instantiable RX4 2, Cond.initialized RX4, Cond.fieldLink RX6 44 "HistogramStairs" "tree" "LHistogramStairs$Tree;"]
def wsX6_init_r2 : List Cond := [Cond.classLink RX6 48 RX2, Cond.instantiable RX2 1, Cond.initialized RX2, Cond.fieldLink RX6 51 "HistogramStairs" "painter" "LHistogramStairs$Painter;", Cond.instanceMethod yX0_init, Cond.code yX0_init cX0_init 1 none, Cond.methodLink RX0 3 objectInit, Cond.arrayClass .int, Cond.fieldLink RX0 9 "HistogramStairs$Columns" "heights" "[I", Cond.fieldLink RX0 15 "HistogramStairs$Columns" "size" "I", Cond.methodLink RX6 18 yX1_init, Cond.instanceMethod yX1_init, Cond.code yX1_init cX1_init 2 none, Cond.methodLink RX1 3 objectInit, Cond.classLink RX1 9 RX0, Cond.fieldLink RX1 11 "HistogramStairs$History" "states" "[LHistogramStairs$Columns;", Cond.fieldLink RX1 17 "HistogramStairs$History" "count" "I", Cond.instanceMethod yX5_init, Cond.code yX5_init cX5_init 1 none, Cond.methodLink RX5 3 objectInit, Cond.fieldLink RX5 9 "HistogramStairs$Water" "depths" "[I", Cond.instanceMethod yX3_init, Cond.code yX3_init cX3_init 1 none, Cond.methodLink RX3 3 objectInit]
def wsX6_init_r3 : List Cond := [Cond.fieldLink RX3 9 "HistogramStairs$Rectangles" "firsts" "[I", Cond.fieldLink RX3 15 "HistogramStairs$Rectangles" "lasts" "[I", Cond.fieldLink RX3 18 "HistogramStairs$Rectangles" "tops" "[I", Cond.fieldLink RX3 21 "HistogramStairs$Rectangles" "owners" "[I", Cond.fieldLink RX3 24 "HistogramStairs$Rectangles" "count" "I", Cond.instanceMethod yX4_init, Cond.code yX4_init cX4_init 1 none, Cond.methodLink RX4 3 objectInit, Cond.fieldLink RX4 9 "HistogramStairs$Tree" "parents" "[I", Cond.fieldLink RX4 15 "HistogramStairs$Tree" "spine" "[I", Cond.instanceMethod yX2_init, Cond.code yX2_init cX2_init 1 none, Cond.methodLink RX2 3 objectInit, Cond.fieldLink RX2 9 "HistogramStairs$Painter" "strokes" "[I"]
def wsX6_init : List Cond := .code yX6_init cX6_init 1 none :: ((wsX6_init_r1 ++ (wsX6_init_r2 ++ wsX6_init_r3)) ++ wsX00 ++ wsX60 ++ wsX10 ++ wsX50 ++ wsX30 ++ wsX40 ++ wsX20)
def wsX6_isHeight : List Cond := .code yX6_isHeight cX6_isHeight 1 (some .boolean) :: ([])
def wsX6_insert_r1 : List Cond := [Cond.fieldLink RX6 10 "HistogramStairs" "columns" "LHistogramStairs$Columns;", Cond.fieldLink RX6 19 "HistogramStairs" "history" "LHistogramStairs$History;", Cond.methodLink RX6 59 yX6_isHeight, Cond.static yX6_isHeight, Cond.initialized RX6, Cond.code yX6_isHeight cX6_isHeight 1 (some .boolean), Cond.methodLink RX6 63 yX1_remember, Cond.instanceMethod yX1_remember, Cond.selects RX1 yX1_remember yX1_remember, Cond.initialized RX1, Cond.code yX1_remember cX1_remember 2 none, Cond.fieldLink RX1 17 "HistogramStairs$History" "count" "I", Cond.fieldLink RX1 11 "HistogramStairs$History" "states" "[LHistogramStairs$Columns;", Cond.methodLink RX1 22 yX1_dropOldest, Cond.instanceMethod yX1_dropOldest, Cond.selects RX1 yX1_dropOldest yX1_dropOldest, Cond.code yX1_dropOldest cX1_dropOldest 3 none, Cond.methodLink RX1 25 yX0_copyFrom, Cond.instanceMethod yX0_copyFrom, Cond.selects RX0 yX0_copyFrom yX0_copyFrom, Cond.initialized RX0, Cond.code yX0_copyFrom cX0_copyFrom 2 none, Cond.fieldLink RX0 9 "HistogramStairs$Columns" "heights" "[I", Cond.fieldLink RX0 15 "HistogramStairs$Columns" "size" "I"]
def wsX6_insert_r2 : List Cond := [Cond.methodLink RX0 19 arraycopyName, Cond.native arraycopyName, Cond.static arraycopyName, Cond.initialized "java/lang/System", Cond.methodLink RX6 67 yX0_putIn, Cond.instanceMethod yX0_putIn, Cond.selects RX0 yX0_putIn yX0_putIn, Cond.code yX0_putIn cX0_putIn 3 none]
def wsX6_insert : List Cond := .code yX6_insert cX6_insert 3 (some .int) :: ((wsX6_insert_r1 ++ wsX6_insert_r2) ++ wsX60 ++ wsX00 ++ wsX10)
def wsX6_remove_r1 : List Cond := [Cond.fieldLink RX6 10 "HistogramStairs" "columns" "LHistogramStairs$Columns;", Cond.fieldLink RX6 19 "HistogramStairs" "history" "LHistogramStairs$History;", Cond.methodLink RX6 71 yX0_has, Cond.instanceMethod yX0_has, Cond.selects RX0 yX0_has yX0_has, Cond.initialized RX0, Cond.code yX0_has cX0_has 2 (some .boolean), Cond.fieldLink RX0 15 "HistogramStairs$Columns" "size" "I", Cond.methodLink RX6 63 yX1_remember, Cond.instanceMethod yX1_remember, Cond.selects RX1 yX1_remember yX1_remember, Cond.initialized RX1, Cond.code yX1_remember cX1_remember 2 none, Cond.fieldLink RX1 17 "HistogramStairs$History" "count" "I", Cond.fieldLink RX1 11 "HistogramStairs$History" "states" "[LHistogramStairs$Columns;", Cond.methodLink RX1 22 yX1_dropOldest, Cond.instanceMethod yX1_dropOldest, Cond.selects RX1 yX1_dropOldest yX1_dropOldest, Cond.code yX1_dropOldest cX1_dropOldest 3 none, Cond.methodLink RX1 25 yX0_copyFrom, Cond.instanceMethod yX0_copyFrom, Cond.selects RX0 yX0_copyFrom yX0_copyFrom, Cond.code yX0_copyFrom cX0_copyFrom 2 none, Cond.fieldLink RX0 9 "HistogramStairs$Columns" "heights" "[I"]
def wsX6_remove_r2 : List Cond := [Cond.methodLink RX0 19 arraycopyName, Cond.native arraycopyName, Cond.static arraycopyName, Cond.initialized "java/lang/System", Cond.methodLink RX6 74 yX0_takeOut, Cond.instanceMethod yX0_takeOut, Cond.selects RX0 yX0_takeOut yX0_takeOut, Cond.code yX0_takeOut cX0_takeOut 3 (some .int)]
def wsX6_remove : List Cond := .code yX6_remove cX6_remove 2 (some .int) :: ((wsX6_remove_r1 ++ wsX6_remove_r2) ++ wsX60 ++ wsX00 ++ wsX10)
def wsX6_set_r1 : List Cond := [Cond.fieldLink RX6 10 "HistogramStairs" "columns" "LHistogramStairs$Columns;", Cond.fieldLink RX6 19 "HistogramStairs" "history" "LHistogramStairs$History;", Cond.methodLink RX6 71 yX0_has, Cond.instanceMethod yX0_has, Cond.selects RX0 yX0_has yX0_has, Cond.initialized RX0, Cond.code yX0_has cX0_has 2 (some .boolean), Cond.fieldLink RX0 15 "HistogramStairs$Columns" "size" "I", Cond.methodLink RX6 59 yX6_isHeight, Cond.static yX6_isHeight, Cond.initialized RX6, Cond.code yX6_isHeight cX6_isHeight 1 (some .boolean), Cond.methodLink RX6 63 yX1_remember, Cond.instanceMethod yX1_remember, Cond.selects RX1 yX1_remember yX1_remember, Cond.initialized RX1, Cond.code yX1_remember cX1_remember 2 none, Cond.fieldLink RX1 17 "HistogramStairs$History" "count" "I", Cond.fieldLink RX1 11 "HistogramStairs$History" "states" "[LHistogramStairs$Columns;", Cond.methodLink RX1 22 yX1_dropOldest, Cond.instanceMethod yX1_dropOldest, Cond.selects RX1 yX1_dropOldest yX1_dropOldest, Cond.code yX1_dropOldest cX1_dropOldest 3 none, Cond.methodLink RX1 25 yX0_copyFrom]
def wsX6_set_r2 : List Cond := [Cond.instanceMethod yX0_copyFrom, Cond.selects RX0 yX0_copyFrom yX0_copyFrom, Cond.code yX0_copyFrom cX0_copyFrom 2 none, Cond.fieldLink RX0 9 "HistogramStairs$Columns" "heights" "[I", Cond.methodLink RX0 19 arraycopyName, Cond.native arraycopyName, Cond.static arraycopyName, Cond.initialized "java/lang/System"]
def wsX6_set : List Cond := .code yX6_set cX6_set 4 (some .int) :: ((wsX6_set_r1 ++ wsX6_set_r2) ++ wsX60 ++ wsX00 ++ wsX10)
def wsX6_raise_r1 : List Cond := [Cond.fieldLink RX6 10 "HistogramStairs" "columns" "LHistogramStairs$Columns;", Cond.fieldLink RX6 19 "HistogramStairs" "history" "LHistogramStairs$History;", Cond.methodLink RX6 82 yX0_hasRange, Cond.instanceMethod yX0_hasRange, Cond.selects RX0 yX0_hasRange yX0_hasRange, Cond.initialized RX0, Cond.code yX0_hasRange cX0_hasRange 3 (some .boolean), Cond.fieldLink RX0 15 "HistogramStairs$Columns" "size" "I", Cond.methodLink RX6 63 yX1_remember, Cond.instanceMethod yX1_remember, Cond.selects RX1 yX1_remember yX1_remember, Cond.initialized RX1, Cond.code yX1_remember cX1_remember 2 none, Cond.fieldLink RX1 17 "HistogramStairs$History" "count" "I", Cond.fieldLink RX1 11 "HistogramStairs$History" "states" "[LHistogramStairs$Columns;", Cond.methodLink RX1 22 yX1_dropOldest, Cond.instanceMethod yX1_dropOldest, Cond.selects RX1 yX1_dropOldest yX1_dropOldest, Cond.code yX1_dropOldest cX1_dropOldest 3 none, Cond.methodLink RX1 25 yX0_copyFrom, Cond.instanceMethod yX0_copyFrom, Cond.selects RX0 yX0_copyFrom yX0_copyFrom, Cond.code yX0_copyFrom cX0_copyFrom 2 none, Cond.fieldLink RX0 9 "HistogramStairs$Columns" "heights" "[I"]
def wsX6_raise_r2 : List Cond := [Cond.methodLink RX0 19 arraycopyName, Cond.native arraycopyName, Cond.static arraycopyName, Cond.initialized "java/lang/System", Cond.methodLink RX6 86 yX0_lift, Cond.instanceMethod yX0_lift, Cond.selects RX0 yX0_lift yX0_lift, Cond.code yX0_lift cX0_lift 7 (some .int), Cond.methodLink RX0 25 Lib.Math.min.name, Cond.static Lib.Math.min.name, Cond.initialized "java/lang/Math", Cond.code Lib.Math.min.name Lib.Math.min.code 2 (some .int), Cond.methodLink RX0 31 Lib.Math.max.name, Cond.static Lib.Math.max.name, Cond.code Lib.Math.max.name Lib.Math.max.code 2 (some .int)]
def wsX6_raise : List Cond := .code yX6_raise cX6_raise 4 (some .int) :: ((wsX6_raise_r1 ++ wsX6_raise_r2) ++ wsX60 ++ wsX00 ++ wsX10)
def wsX6_reverse_r1 : List Cond := [Cond.fieldLink RX6 10 "HistogramStairs" "columns" "LHistogramStairs$Columns;", Cond.fieldLink RX6 19 "HistogramStairs" "history" "LHistogramStairs$History;", Cond.methodLink RX6 82 yX0_hasRange, Cond.instanceMethod yX0_hasRange, Cond.selects RX0 yX0_hasRange yX0_hasRange, Cond.initialized RX0, Cond.code yX0_hasRange cX0_hasRange 3 (some .boolean), Cond.fieldLink RX0 15 "HistogramStairs$Columns" "size" "I", Cond.methodLink RX6 63 yX1_remember, Cond.instanceMethod yX1_remember, Cond.selects RX1 yX1_remember yX1_remember, Cond.initialized RX1, Cond.code yX1_remember cX1_remember 2 none, Cond.fieldLink RX1 17 "HistogramStairs$History" "count" "I", Cond.fieldLink RX1 11 "HistogramStairs$History" "states" "[LHistogramStairs$Columns;", Cond.methodLink RX1 22 yX1_dropOldest, Cond.instanceMethod yX1_dropOldest, Cond.selects RX1 yX1_dropOldest yX1_dropOldest, Cond.code yX1_dropOldest cX1_dropOldest 3 none, Cond.methodLink RX1 25 yX0_copyFrom, Cond.instanceMethod yX0_copyFrom, Cond.selects RX0 yX0_copyFrom yX0_copyFrom, Cond.code yX0_copyFrom cX0_copyFrom 2 none, Cond.fieldLink RX0 9 "HistogramStairs$Columns" "heights" "[I"]
def wsX6_reverse_r2 : List Cond := [Cond.methodLink RX0 19 arraycopyName, Cond.native arraycopyName, Cond.static arraycopyName, Cond.initialized "java/lang/System", Cond.methodLink RX6 90 yX0_mirror, Cond.instanceMethod yX0_mirror, Cond.selects RX0 yX0_mirror yX0_mirror, Cond.code yX0_mirror cX0_mirror 6 (some .int), Cond.methodLink RX0 34 yX0_exchange, Cond.instanceMethod yX0_exchange, Cond.selects RX0 yX0_exchange yX0_exchange, Cond.code yX0_exchange cX0_exchange 4 none]
def wsX6_reverse : List Cond := .code yX6_reverse cX6_reverse 3 (some .int) :: ((wsX6_reverse_r1 ++ wsX6_reverse_r2) ++ wsX60 ++ wsX00 ++ wsX10)
def wsX6_sort_r1 : List Cond := [Cond.fieldLink RX6 10 "HistogramStairs" "columns" "LHistogramStairs$Columns;", Cond.fieldLink RX6 19 "HistogramStairs" "history" "LHistogramStairs$History;", Cond.methodLink RX6 82 yX0_hasRange, Cond.instanceMethod yX0_hasRange, Cond.selects RX0 yX0_hasRange yX0_hasRange, Cond.initialized RX0, Cond.code yX0_hasRange cX0_hasRange 3 (some .boolean), Cond.fieldLink RX0 15 "HistogramStairs$Columns" "size" "I", Cond.methodLink RX6 63 yX1_remember, Cond.instanceMethod yX1_remember, Cond.selects RX1 yX1_remember yX1_remember, Cond.initialized RX1, Cond.code yX1_remember cX1_remember 2 none, Cond.fieldLink RX1 17 "HistogramStairs$History" "count" "I", Cond.fieldLink RX1 11 "HistogramStairs$History" "states" "[LHistogramStairs$Columns;", Cond.methodLink RX1 22 yX1_dropOldest, Cond.instanceMethod yX1_dropOldest, Cond.selects RX1 yX1_dropOldest yX1_dropOldest, Cond.code yX1_dropOldest cX1_dropOldest 3 none, Cond.methodLink RX1 25 yX0_copyFrom, Cond.instanceMethod yX0_copyFrom, Cond.selects RX0 yX0_copyFrom yX0_copyFrom, Cond.code yX0_copyFrom cX0_copyFrom 2 none, Cond.fieldLink RX0 9 "HistogramStairs$Columns" "heights" "[I"]
def wsX6_sort_r2 : List Cond := [Cond.methodLink RX0 19 arraycopyName, Cond.native arraycopyName, Cond.static arraycopyName, Cond.initialized "java/lang/System", Cond.methodLink RX6 94 yX0_arrange, Cond.instanceMethod yX0_arrange, Cond.selects RX0 yX0_arrange yX0_arrange, Cond.code yX0_arrange cX0_arrange 7 (some .int), Cond.methodLink RX0 38 yX0_isWrong, Cond.static yX0_isWrong, Cond.code yX0_isWrong cX0_isWrong 3 (some .boolean), Cond.methodLink RX0 34 yX0_exchange, Cond.instanceMethod yX0_exchange, Cond.selects RX0 yX0_exchange yX0_exchange, Cond.code yX0_exchange cX0_exchange 4 none]
def wsX6_sort : List Cond := .code yX6_sort cX6_sort 4 (some .int) :: ((wsX6_sort_r1 ++ wsX6_sort_r2) ++ wsX60 ++ wsX00 ++ wsX10)
def wsX6_pourAll : List Cond := .code yX6_pourAll cX6_pourAll 1 (some .int) :: ([.fieldLink RX6 30 "HistogramStairs" "water" "LHistogramStairs$Water;", .fieldLink RX6 10 "HistogramStairs" "columns" "LHistogramStairs$Columns;", .methodLink RX6 203 yX5_pour, .instanceMethod yX5_pour, .selects RX5 yX5_pour yX5_pour, .initialized RX5, .code yX5_pour cX5_pour 7 (some .int), .methodLink RX5 15 Lib.Math.max.name, .static Lib.Math.max.name, .initialized "java/lang/Math", .code Lib.Math.max.name Lib.Math.max.code 2 (some .int), .fieldLink RX5 9 "HistogramStairs$Water" "depths" "[I", .methodLink RX5 21 Lib.Math.min.name, .static Lib.Math.min.name, .code Lib.Math.min.name Lib.Math.min.code 2 (some .int)] ++ wsX60 ++ wsX00 ++ wsX50)
def wsX6_freeze_r1 : List Cond := [Cond.fieldLink RX6 19 "HistogramStairs" "history" "LHistogramStairs$History;", Cond.fieldLink RX6 10 "HistogramStairs" "columns" "LHistogramStairs$Columns;", Cond.fieldLink RX6 30 "HistogramStairs" "water" "LHistogramStairs$Water;", Cond.methodLink RX6 63 yX1_remember, Cond.instanceMethod yX1_remember, Cond.selects RX1 yX1_remember yX1_remember, Cond.initialized RX1, Cond.code yX1_remember cX1_remember 2 none, Cond.fieldLink RX1 17 "HistogramStairs$History" "count" "I", Cond.fieldLink RX1 11 "HistogramStairs$History" "states" "[LHistogramStairs$Columns;", Cond.methodLink RX1 22 yX1_dropOldest, Cond.instanceMethod yX1_dropOldest, Cond.selects RX1 yX1_dropOldest yX1_dropOldest, Cond.code yX1_dropOldest cX1_dropOldest 3 none, Cond.methodLink RX1 25 yX0_copyFrom, Cond.instanceMethod yX0_copyFrom, Cond.selects RX0 yX0_copyFrom yX0_copyFrom, Cond.initialized RX0, Cond.code yX0_copyFrom cX0_copyFrom 2 none, Cond.fieldLink RX0 9 "HistogramStairs$Columns" "heights" "[I", Cond.fieldLink RX0 15 "HistogramStairs$Columns" "size" "I", Cond.methodLink RX0 19 arraycopyName, Cond.native arraycopyName, Cond.static arraycopyName]
def wsX6_freeze_r2 : List Cond := [Cond.initialized "java/lang/System", Cond.methodLink RX6 98 yX6_pourAll, Cond.instanceMethod yX6_pourAll, Cond.selects RX6 yX6_pourAll yX6_pourAll, Cond.initialized RX6, Cond.code yX6_pourAll cX6_pourAll 1 (some .int), Cond.methodLink RX6 203 yX5_pour, Cond.instanceMethod yX5_pour, Cond.selects RX5 yX5_pour yX5_pour, Cond.initialized RX5, Cond.code yX5_pour cX5_pour 7 (some .int), Cond.methodLink RX5 15 Lib.Math.max.name, Cond.static Lib.Math.max.name, Cond.initialized "java/lang/Math", Cond.code Lib.Math.max.name Lib.Math.max.code 2 (some .int), Cond.fieldLink RX5 9 "HistogramStairs$Water" "depths" "[I", Cond.methodLink RX5 21 Lib.Math.min.name, Cond.static Lib.Math.min.name, Cond.code Lib.Math.min.name Lib.Math.min.code 2 (some .int)]
def wsX6_freeze : List Cond := .code yX6_freeze cX6_freeze 3 (some .int) :: ((wsX6_freeze_r1 ++ wsX6_freeze_r2) ++ wsX60 ++ wsX00 ++ wsX50 ++ wsX10)
def wsX6_clear : List Cond := .code yX6_clear cX6_clear 2 (some .int) :: ([.fieldLink RX6 19 "HistogramStairs" "history" "LHistogramStairs$History;", .fieldLink RX6 10 "HistogramStairs" "columns" "LHistogramStairs$Columns;", .methodLink RX6 63 yX1_remember, .instanceMethod yX1_remember, .selects RX1 yX1_remember yX1_remember, .initialized RX1, .code yX1_remember cX1_remember 2 none, .fieldLink RX1 17 "HistogramStairs$History" "count" "I", .fieldLink RX1 11 "HistogramStairs$History" "states" "[LHistogramStairs$Columns;", .methodLink RX1 22 yX1_dropOldest, .instanceMethod yX1_dropOldest, .selects RX1 yX1_dropOldest yX1_dropOldest, .code yX1_dropOldest cX1_dropOldest 3 none, .methodLink RX1 25 yX0_copyFrom, .instanceMethod yX0_copyFrom, .selects RX0 yX0_copyFrom yX0_copyFrom, .initialized RX0, .code yX0_copyFrom cX0_copyFrom 2 none, .fieldLink RX0 9 "HistogramStairs$Columns" "heights" "[I", .fieldLink RX0 15 "HistogramStairs$Columns" "size" "I", .methodLink RX0 19 arraycopyName, .native arraycopyName, .static arraycopyName, .initialized "java/lang/System"] ++ wsX60 ++ wsX00 ++ wsX10)
def wsX6_undo : List Cond := .code yX6_undo cX6_undo 1 (some .int) :: ([.fieldLink RX6 19 "HistogramStairs" "history" "LHistogramStairs$History;", .fieldLink RX6 10 "HistogramStairs" "columns" "LHistogramStairs$Columns;", .methodLink RX6 108 yX1_restore, .instanceMethod yX1_restore, .selects RX1 yX1_restore yX1_restore, .initialized RX1, .code yX1_restore cX1_restore 2 none, .fieldLink RX1 17 "HistogramStairs$History" "count" "I", .fieldLink RX1 11 "HistogramStairs$History" "states" "[LHistogramStairs$Columns;", .methodLink RX1 25 yX0_copyFrom, .instanceMethod yX0_copyFrom, .selects RX0 yX0_copyFrom yX0_copyFrom, .initialized RX0, .code yX0_copyFrom cX0_copyFrom 2 none, .fieldLink RX0 9 "HistogramStairs$Columns" "heights" "[I", .fieldLink RX0 15 "HistogramStairs$Columns" "size" "I", .methodLink RX0 19 arraycopyName, .native arraycopyName, .static arraycopyName, .initialized "java/lang/System"] ++ wsX60 ++ wsX10 ++ wsX00)
def wsX6_countPools_r1 : List Cond := [Cond.fieldLink RX6 30 "HistogramStairs" "water" "LHistogramStairs$Water;", Cond.fieldLink RX6 10 "HistogramStairs" "columns" "LHistogramStairs$Columns;", Cond.methodLink RX6 98 yX6_pourAll, Cond.instanceMethod yX6_pourAll, Cond.selects RX6 yX6_pourAll yX6_pourAll, Cond.initialized RX6, Cond.code yX6_pourAll cX6_pourAll 1 (some .int), Cond.methodLink RX6 203 yX5_pour, Cond.instanceMethod yX5_pour, Cond.selects RX5 yX5_pour yX5_pour, Cond.initialized RX5, Cond.code yX5_pour cX5_pour 7 (some .int), Cond.methodLink RX5 15 Lib.Math.max.name, Cond.static Lib.Math.max.name, Cond.initialized "java/lang/Math", Cond.code Lib.Math.max.name Lib.Math.max.code 2 (some .int), Cond.fieldLink RX5 9 "HistogramStairs$Water" "depths" "[I", Cond.methodLink RX5 21 Lib.Math.min.name, Cond.static Lib.Math.min.name, Cond.code Lib.Math.min.name Lib.Math.min.code 2 (some .int), Cond.methodLink RX6 218 yX5_poolCount, Cond.instanceMethod yX5_poolCount, Cond.selects RX5 yX5_poolCount yX5_poolCount, Cond.code yX5_poolCount cX5_poolCount 4 (some .int)]
def wsX6_countPools_r2 : List Cond := [Cond.methodLink RX5 24 yX5_startsPool, Cond.instanceMethod yX5_startsPool, Cond.selects RX5 yX5_startsPool yX5_startsPool, Cond.code yX5_startsPool cX5_startsPool 2 (some .boolean)]
def wsX6_countPools : List Cond := .code yX6_countPools cX6_countPools 1 (some .int) :: ((wsX6_countPools_r1 ++ wsX6_countPools_r2) ++ wsX60 ++ wsX00 ++ wsX50)
def wsX6_countRectangles_r1 : List Cond := [Cond.fieldLink RX6 37 "HistogramStairs" "rectangles" "LHistogramStairs$Rectangles;", Cond.fieldLink RX6 10 "HistogramStairs" "columns" "LHistogramStairs$Columns;", Cond.methodLink RX6 177 yX3_find, Cond.instanceMethod yX3_find, Cond.selects RX3 yX3_find yX3_find, Cond.initialized RX3, Cond.code yX3_find cX3_find 5 none, Cond.fieldLink RX3 24 "HistogramStairs$Rectangles" "count" "I", Cond.methodLink RX3 28 yX3_findOwnedBy, Cond.instanceMethod yX3_findOwnedBy, Cond.selects RX3 yX3_findOwnedBy yX3_findOwnedBy, Cond.code yX3_findOwnedBy cX3_findOwnedBy 7 none, Cond.methodLink RX3 36 yX3_place, Cond.instanceMethod yX3_place, Cond.selects RX3 yX3_place yX3_place, Cond.code yX3_place cX3_place 6 none, Cond.fieldLink RX3 9 "HistogramStairs$Rectangles" "firsts" "[I", Cond.fieldLink RX3 15 "HistogramStairs$Rectangles" "lasts" "[I", Cond.fieldLink RX3 18 "HistogramStairs$Rectangles" "tops" "[I", Cond.fieldLink RX3 21 "HistogramStairs$Rectangles" "owners" "[I", Cond.methodLink RX3 40 yX3_comesBefore, Cond.instanceMethod yX3_comesBefore, Cond.selects RX3 yX3_comesBefore yX3_comesBefore, Cond.code yX3_comesBefore cX3_comesBefore 6 (some .boolean)]
def wsX6_countRectangles_r2 : List Cond := [Cond.methodLink RX3 32 yX3_area, Cond.instanceMethod yX3_area, Cond.selects RX3 yX3_area yX3_area, Cond.code yX3_area cX3_area 2 (some .int)]
def wsX6_countRectangles : List Cond := .code yX6_countRectangles cX6_countRectangles 1 (some .int) :: ((wsX6_countRectangles_r1 ++ wsX6_countRectangles_r2) ++ wsX60 ++ wsX00 ++ wsX30)
def wsX6_greatestTreeDepth : List Cond := .code yX6_greatestTreeDepth cX6_greatestTreeDepth 3 (some .int) :: ([.fieldLink RX6 44 "HistogramStairs" "tree" "LHistogramStairs$Tree;", .fieldLink RX6 10 "HistogramStairs" "columns" "LHistogramStairs$Columns;", .methodLink RX6 230 Lib.Math.max.name, .static Lib.Math.max.name, .initialized "java/lang/Math", .code Lib.Math.max.name Lib.Math.max.code 2 (some .int), .methodLink RX6 221 yX4_grow, .instanceMethod yX4_grow, .selects RX4 yX4_grow yX4_grow, .initialized RX4, .code yX4_grow cX4_grow 5 none, .fieldLink RX4 15 "HistogramStairs$Tree" "spine" "[I", .fieldLink RX4 9 "HistogramStairs$Tree" "parents" "[I", .methodLink RX6 227 yX4_depthOf, .instanceMethod yX4_depthOf, .selects RX4 yX4_depthOf yX4_depthOf, .code yX4_depthOf cX4_depthOf 4 (some .int)] ++ wsX60 ++ wsX00 ++ wsX40)
def wsX6_told_r1 : List Cond := [Cond.fieldLink RX6 10 "HistogramStairs" "columns" "LHistogramStairs$Columns;", Cond.fieldLink RX6 51 "HistogramStairs" "painter" "LHistogramStairs$Painter;", Cond.fieldLink RX6 19 "HistogramStairs" "history" "LHistogramStairs$History;", Cond.methodLink RX6 111 yX6_sumOf, Cond.static yX6_sumOf, Cond.initialized RX6, Cond.code yX6_sumOf cX6_sumOf 5 (some .int), Cond.methodLink RX6 115 yX0_greatestHeight, Cond.instanceMethod yX0_greatestHeight, Cond.selects RX0 yX0_greatestHeight yX0_greatestHeight, Cond.initialized RX0, Cond.code yX0_greatestHeight cX0_greatestHeight 1 (some .int), Cond.fieldLink RX0 15 "HistogramStairs$Columns" "size" "I", Cond.fieldLink RX0 9 "HistogramStairs$Columns" "heights" "[I", Cond.static yX6_lowestGreatest, Cond.code yX6_lowestGreatest cX6_lowestGreatest 5 (some .int), Cond.methodLink RX6 98 yX6_pourAll, Cond.instanceMethod yX6_pourAll, Cond.selects RX6 yX6_pourAll yX6_pourAll, Cond.code yX6_pourAll cX6_pourAll 1 (some .int), Cond.fieldLink RX6 30 "HistogramStairs" "water" "LHistogramStairs$Water;", Cond.methodLink RX6 203 yX5_pour, Cond.instanceMethod yX5_pour, Cond.selects RX5 yX5_pour yX5_pour]
def wsX6_told_r2 : List Cond := [Cond.initialized RX5, Cond.code yX5_pour cX5_pour 7 (some .int), Cond.methodLink RX5 15 Lib.Math.max.name, Cond.static Lib.Math.max.name, Cond.initialized "java/lang/Math", Cond.code Lib.Math.max.name Lib.Math.max.code 2 (some .int), Cond.fieldLink RX5 9 "HistogramStairs$Water" "depths" "[I", Cond.methodLink RX5 21 Lib.Math.min.name, Cond.static Lib.Math.min.name, Cond.code Lib.Math.min.name Lib.Math.min.code 2 (some .int), Cond.methodLink RX6 118 yX6_countPools, Cond.instanceMethod yX6_countPools, Cond.selects RX6 yX6_countPools yX6_countPools, Cond.code yX6_countPools cX6_countPools 1 (some .int), Cond.methodLink RX6 218 yX5_poolCount, Cond.instanceMethod yX5_poolCount, Cond.selects RX5 yX5_poolCount yX5_poolCount, Cond.code yX5_poolCount cX5_poolCount 4 (some .int), Cond.methodLink RX5 24 yX5_startsPool, Cond.instanceMethod yX5_startsPool, Cond.selects RX5 yX5_startsPool yX5_startsPool, Cond.code yX5_startsPool cX5_startsPool 2 (some .boolean), Cond.methodLink RX6 121 yX6_countRectangles, Cond.instanceMethod yX6_countRectangles]
def wsX6_told_r3 : List Cond := [Cond.selects RX6 yX6_countRectangles yX6_countRectangles, Cond.code yX6_countRectangles cX6_countRectangles 1 (some .int), Cond.fieldLink RX6 37 "HistogramStairs" "rectangles" "LHistogramStairs$Rectangles;", Cond.methodLink RX6 177 yX3_find, Cond.instanceMethod yX3_find, Cond.selects RX3 yX3_find yX3_find, Cond.initialized RX3, Cond.code yX3_find cX3_find 5 none, Cond.fieldLink RX3 24 "HistogramStairs$Rectangles" "count" "I", Cond.methodLink RX3 28 yX3_findOwnedBy, Cond.instanceMethod yX3_findOwnedBy, Cond.selects RX3 yX3_findOwnedBy yX3_findOwnedBy, Cond.code yX3_findOwnedBy cX3_findOwnedBy 7 none, Cond.methodLink RX3 36 yX3_place, Cond.instanceMethod yX3_place, Cond.selects RX3 yX3_place yX3_place, Cond.code yX3_place cX3_place 6 none, Cond.fieldLink RX3 9 "HistogramStairs$Rectangles" "firsts" "[I", Cond.fieldLink RX3 15 "HistogramStairs$Rectangles" "lasts" "[I", Cond.fieldLink RX3 18 "HistogramStairs$Rectangles" "tops" "[I", Cond.fieldLink RX3 21 "HistogramStairs$Rectangles" "owners" "[I", Cond.methodLink RX3 40 yX3_comesBefore, Cond.instanceMethod yX3_comesBefore, Cond.selects RX3 yX3_comesBefore yX3_comesBefore]
def wsX6_told_r4 : List Cond := [Cond.code yX3_comesBefore cX3_comesBefore 6 (some .boolean), Cond.methodLink RX3 32 yX3_area, Cond.instanceMethod yX3_area, Cond.selects RX3 yX3_area yX3_area, Cond.code yX3_area cX3_area 2 (some .int), Cond.methodLink RX6 124 yX0_countSeen, Cond.instanceMethod yX0_countSeen, Cond.selects RX0 yX0_countSeen yX0_countSeen, Cond.code yX0_countSeen cX0_countSeen 6 (some .int), Cond.methodLink RX6 128 yX6_greatestTreeDepth, Cond.instanceMethod yX6_greatestTreeDepth, Cond.selects RX6 yX6_greatestTreeDepth yX6_greatestTreeDepth, Cond.code yX6_greatestTreeDepth cX6_greatestTreeDepth 3 (some .int), Cond.fieldLink RX6 44 "HistogramStairs" "tree" "LHistogramStairs$Tree;", Cond.methodLink RX6 230 Lib.Math.max.name, Cond.methodLink RX6 221 yX4_grow, Cond.instanceMethod yX4_grow, Cond.selects RX4 yX4_grow yX4_grow, Cond.initialized RX4, Cond.code yX4_grow cX4_grow 5 none, Cond.fieldLink RX4 15 "HistogramStairs$Tree" "spine" "[I", Cond.fieldLink RX4 9 "HistogramStairs$Tree" "parents" "[I", Cond.methodLink RX6 227 yX4_depthOf, Cond.instanceMethod yX4_depthOf]
def wsX6_told_r5 : List Cond := [Cond.selects RX4 yX4_depthOf yX4_depthOf, Cond.code yX4_depthOf cX4_depthOf 4 (some .int), Cond.methodLink RX6 131 yX0_countRises, Cond.instanceMethod yX0_countRises, Cond.selects RX0 yX0_countRises yX0_countRises, Cond.code yX0_countRises cX0_countRises 4 (some .int), Cond.methodLink RX0 31 Lib.Math.max.name, Cond.methodLink RX6 134 yX2_countStrokes, Cond.instanceMethod yX2_countStrokes, Cond.selects RX2 yX2_countStrokes yX2_countStrokes, Cond.initialized RX2, Cond.code yX2_countStrokes cX2_countStrokes 3 (some .int), Cond.fieldLink RX2 9 "HistogramStairs$Painter" "strokes" "[I", Cond.methodLink RX2 15 yJ7_fill_53178, Cond.static yJ7_fill_53178, Cond.initialized RJ7, Cond.code yJ7_fill_53178 cJ7_fill_53178 4 none, Cond.methodLink RX2 21 yX0_greatestHeight, Cond.methodLink RX2 27 yX2_paintRow, Cond.instanceMethod yX2_paintRow, Cond.selects RX2 yX2_paintRow yX2_paintRow, Cond.code yX2_paintRow cX2_paintRow 5 none, Cond.methodLink RX2 42 yX2_paintRun, Cond.instanceMethod yX2_paintRun]
def wsX6_told_r6 : List Cond := [Cond.selects RX2 yX2_paintRun yX2_paintRun, Cond.code yX2_paintRun cX2_paintRun 4 none, Cond.methodLink RX2 49 Lib.Math.min.name, Cond.methodLink RX2 46 yJ7_fill_fda19, Cond.static yJ7_fill_fda19, Cond.code yJ7_fill_fda19 cJ7_fill_fda19 5 none, Cond.methodLink RJ7 13 yJ7_rangeCheck_23922, Cond.static yJ7_rangeCheck_23922, Cond.code yJ7_rangeCheck_23922 cJ7_rangeCheck_23922 3 none]
def wsX6_told : List Cond := .code yX6_told cX6_told 2 (some .int) :: ((wsX6_told_r1 ++ (wsX6_told_r2 ++ (wsX6_told_r3 ++ (wsX6_told_r4 ++ (wsX6_told_r5 ++ wsX6_told_r6))))) ++ wsX60 ++ wsX00 ++ wsX10 ++ wsX50 ++ wsX30 ++ wsX40 ++ wsX20)
def wsX6_depthOfWater : List Cond := .code yX6_depthOfWater cX6_depthOfWater 2 (some .int) :: ([.fieldLink RX6 30 "HistogramStairs" "water" "LHistogramStairs$Water;", .methodLink RX6 98 yX6_pourAll, .instanceMethod yX6_pourAll, .selects RX6 yX6_pourAll yX6_pourAll, .initialized RX6, .code yX6_pourAll cX6_pourAll 1 (some .int), .fieldLink RX6 10 "HistogramStairs" "columns" "LHistogramStairs$Columns;", .methodLink RX6 203 yX5_pour, .instanceMethod yX5_pour, .selects RX5 yX5_pour yX5_pour, .initialized RX5, .code yX5_pour cX5_pour 7 (some .int), .methodLink RX5 15 Lib.Math.max.name, .static Lib.Math.max.name, .initialized "java/lang/Math", .code Lib.Math.max.name Lib.Math.max.code 2 (some .int), .fieldLink RX5 9 "HistogramStairs$Water" "depths" "[I", .methodLink RX5 21 Lib.Math.min.name, .static Lib.Math.min.name, .code Lib.Math.min.name Lib.Math.min.code 2 (some .int)] ++ wsX60 ++ wsX50 ++ wsX00)
def wsX6_treeParent : List Cond := .code yX6_treeParent cX6_treeParent 2 (some .int) :: ([.fieldLink RX6 44 "HistogramStairs" "tree" "LHistogramStairs$Tree;", .fieldLink RX6 10 "HistogramStairs" "columns" "LHistogramStairs$Columns;", .methodLink RX6 221 yX4_grow, .instanceMethod yX4_grow, .selects RX4 yX4_grow yX4_grow, .initialized RX4, .code yX4_grow cX4_grow 5 none, .fieldLink RX4 15 "HistogramStairs$Tree" "spine" "[I", .fieldLink RX4 9 "HistogramStairs$Tree" "parents" "[I"] ++ wsX60 ++ wsX40 ++ wsX00)
def wsX6_treeDepth : List Cond := .code yX6_treeDepth cX6_treeDepth 2 (some .int) :: ([.fieldLink RX6 44 "HistogramStairs" "tree" "LHistogramStairs$Tree;", .fieldLink RX6 10 "HistogramStairs" "columns" "LHistogramStairs$Columns;", .methodLink RX6 221 yX4_grow, .instanceMethod yX4_grow, .selects RX4 yX4_grow yX4_grow, .initialized RX4, .code yX4_grow cX4_grow 5 none, .fieldLink RX4 15 "HistogramStairs$Tree" "spine" "[I", .fieldLink RX4 9 "HistogramStairs$Tree" "parents" "[I", .methodLink RX6 227 yX4_depthOf, .instanceMethod yX4_depthOf, .selects RX4 yX4_depthOf yX4_depthOf, .code yX4_depthOf cX4_depthOf 4 (some .int)] ++ wsX60 ++ wsX00 ++ wsX40)
def wsX6_column_r1 : List Cond := [Cond.fieldLink RX6 10 "HistogramStairs" "columns" "LHistogramStairs$Columns;", Cond.methodLink RX6 71 yX0_has, Cond.instanceMethod yX0_has, Cond.selects RX0 yX0_has yX0_has, Cond.initialized RX0, Cond.code yX0_has cX0_has 2 (some .boolean), Cond.fieldLink RX0 15 "HistogramStairs$Columns" "size" "I", Cond.methodLink RX6 138 yX0_smallerToLeft, Cond.instanceMethod yX0_smallerToLeft, Cond.selects RX0 yX0_smallerToLeft yX0_smallerToLeft, Cond.code yX0_smallerToLeft cX0_smallerToLeft 3 (some .int), Cond.fieldLink RX0 9 "HistogramStairs$Columns" "heights" "[I", Cond.methodLink RX6 141 yX0_smallerToRight, Cond.instanceMethod yX0_smallerToRight, Cond.selects RX0 yX0_smallerToRight yX0_smallerToRight, Cond.code yX0_smallerToRight cX0_smallerToRight 3 (some .int), Cond.methodLink RX6 144 yX0_greaterToLeft, Cond.instanceMethod yX0_greaterToLeft, Cond.selects RX0 yX0_greaterToLeft yX0_greaterToLeft, Cond.code yX0_greaterToLeft cX0_greaterToLeft 3 (some .int), Cond.methodLink RX6 147 yX0_greaterToRight, Cond.instanceMethod yX0_greaterToRight, Cond.selects RX0 yX0_greaterToRight yX0_greaterToRight, Cond.code yX0_greaterToRight cX0_greaterToRight 3 (some .int)]
def wsX6_column_r2 : List Cond := [Cond.methodLink RX6 150 yX6_depthOfWater, Cond.instanceMethod yX6_depthOfWater, Cond.selects RX6 yX6_depthOfWater yX6_depthOfWater, Cond.initialized RX6, Cond.code yX6_depthOfWater cX6_depthOfWater 2 (some .int), Cond.fieldLink RX6 30 "HistogramStairs" "water" "LHistogramStairs$Water;", Cond.methodLink RX6 98 yX6_pourAll, Cond.instanceMethod yX6_pourAll, Cond.selects RX6 yX6_pourAll yX6_pourAll, Cond.code yX6_pourAll cX6_pourAll 1 (some .int), Cond.methodLink RX6 203 yX5_pour, Cond.instanceMethod yX5_pour, Cond.selects RX5 yX5_pour yX5_pour, Cond.initialized RX5, Cond.code yX5_pour cX5_pour 7 (some .int), Cond.methodLink RX5 15 Lib.Math.max.name, Cond.static Lib.Math.max.name, Cond.initialized "java/lang/Math", Cond.code Lib.Math.max.name Lib.Math.max.code 2 (some .int), Cond.fieldLink RX5 9 "HistogramStairs$Water" "depths" "[I", Cond.methodLink RX5 21 Lib.Math.min.name, Cond.static Lib.Math.min.name, Cond.code Lib.Math.min.name Lib.Math.min.code 2 (some .int), Cond.methodLink RX6 153 yX6_treeParent]
def wsX6_column_r3 : List Cond := [Cond.instanceMethod yX6_treeParent, Cond.selects RX6 yX6_treeParent yX6_treeParent, Cond.code yX6_treeParent cX6_treeParent 2 (some .int), Cond.fieldLink RX6 44 "HistogramStairs" "tree" "LHistogramStairs$Tree;", Cond.methodLink RX6 221 yX4_grow, Cond.instanceMethod yX4_grow, Cond.selects RX4 yX4_grow yX4_grow, Cond.initialized RX4, Cond.code yX4_grow cX4_grow 5 none, Cond.fieldLink RX4 15 "HistogramStairs$Tree" "spine" "[I", Cond.fieldLink RX4 9 "HistogramStairs$Tree" "parents" "[I", Cond.methodLink RX6 156 yX6_treeDepth, Cond.instanceMethod yX6_treeDepth, Cond.selects RX6 yX6_treeDepth yX6_treeDepth, Cond.code yX6_treeDepth cX6_treeDepth 2 (some .int), Cond.methodLink RX6 227 yX4_depthOf, Cond.instanceMethod yX4_depthOf, Cond.selects RX4 yX4_depthOf yX4_depthOf, Cond.code yX4_depthOf cX4_depthOf 4 (some .int), Cond.methodLink RX6 159 yX0_span, Cond.instanceMethod yX0_span, Cond.selects RX0 yX0_span yX0_span, Cond.code yX0_span cX0_span 6 (some .int), Cond.methodLink RX0 46 yX0_smallerToLeft]
def wsX6_column_r4 : List Cond := [Cond.methodLink RX0 50 yX0_smallerToRight, Cond.methodLink RX6 162 yX0_stairLength, Cond.instanceMethod yX0_stairLength, Cond.selects RX0 yX0_stairLength yX0_stairLength, Cond.code yX0_stairLength cX0_stairLength 5 (some .int)]
def wsX6_column : List Cond := .code yX6_column cX6_column 3 (some .int) :: ((wsX6_column_r1 ++ (wsX6_column_r2 ++ (wsX6_column_r3 ++ wsX6_column_r4))) ++ wsX60 ++ wsX00 ++ wsX50 ++ wsX40)
def wsX6_stair : List Cond := .code yX6_stair cX6_stair 3 (some .int) :: ([.fieldLink RX6 10 "HistogramStairs" "columns" "LHistogramStairs$Columns;", .methodLink RX6 71 yX0_has, .instanceMethod yX0_has, .selects RX0 yX0_has yX0_has, .initialized RX0, .code yX0_has cX0_has 2 (some .boolean), .fieldLink RX0 15 "HistogramStairs$Columns" "size" "I", .methodLink RX6 165 yX0_stairStep, .instanceMethod yX0_stairStep, .selects RX0 yX0_stairStep yX0_stairStep, .code yX0_stairStep cX0_stairStep 6 (some .int), .fieldLink RX0 9 "HistogramStairs$Columns" "heights" "[I"] ++ wsX60 ++ wsX00)
def wsX6_lowestLeast : List Cond := .code yX6_lowestLeast cX6_lowestLeast 5 (some .int) :: ([])
def wsX6_largestRectangle_r1 : List Cond := [Cond.fieldLink RX6 37 "HistogramStairs" "rectangles" "LHistogramStairs$Rectangles;", Cond.fieldLink RX6 10 "HistogramStairs" "columns" "LHistogramStairs$Columns;", Cond.methodLink RX6 177 yX3_find, Cond.instanceMethod yX3_find, Cond.selects RX3 yX3_find yX3_find, Cond.initialized RX3, Cond.code yX3_find cX3_find 5 none, Cond.fieldLink RX3 24 "HistogramStairs$Rectangles" "count" "I", Cond.methodLink RX3 28 yX3_findOwnedBy, Cond.instanceMethod yX3_findOwnedBy, Cond.selects RX3 yX3_findOwnedBy yX3_findOwnedBy, Cond.code yX3_findOwnedBy cX3_findOwnedBy 7 none, Cond.methodLink RX3 36 yX3_place, Cond.instanceMethod yX3_place, Cond.selects RX3 yX3_place yX3_place, Cond.code yX3_place cX3_place 6 none, Cond.fieldLink RX3 9 "HistogramStairs$Rectangles" "firsts" "[I", Cond.fieldLink RX3 15 "HistogramStairs$Rectangles" "lasts" "[I", Cond.fieldLink RX3 18 "HistogramStairs$Rectangles" "tops" "[I", Cond.fieldLink RX3 21 "HistogramStairs$Rectangles" "owners" "[I", Cond.methodLink RX3 40 yX3_comesBefore, Cond.instanceMethod yX3_comesBefore, Cond.selects RX3 yX3_comesBefore yX3_comesBefore, Cond.code yX3_comesBefore cX3_comesBefore 6 (some .boolean)]
def wsX6_largestRectangle_r2 : List Cond := [Cond.methodLink RX3 32 yX3_area, Cond.instanceMethod yX3_area, Cond.selects RX3 yX3_area yX3_area, Cond.code yX3_area cX3_area 2 (some .int), Cond.methodLink RX6 189 yX3_property, Cond.instanceMethod yX3_property, Cond.selects RX3 yX3_property yX3_property, Cond.code yX3_property cX3_property 3 (some .int)]
def wsX6_largestRectangle : List Cond := .code yX6_largestRectangle cX6_largestRectangle 4 (some .int) :: ((wsX6_largestRectangle_r1 ++ wsX6_largestRectangle_r2) ++ wsX60 ++ wsX00 ++ wsX30)
def wsX6_range_r1 : List Cond := [Cond.fieldLink RX6 10 "HistogramStairs" "columns" "LHistogramStairs$Columns;", Cond.methodLink RX6 82 yX0_hasRange, Cond.instanceMethod yX0_hasRange, Cond.selects RX0 yX0_hasRange yX0_hasRange, Cond.initialized RX0, Cond.code yX0_hasRange cX0_hasRange 3 (some .boolean), Cond.fieldLink RX0 15 "HistogramStairs$Columns" "size" "I", Cond.methodLink RX6 168 yX6_lowestLeast, Cond.static yX6_lowestLeast, Cond.initialized RX6, Cond.code yX6_lowestLeast cX6_lowestLeast 5 (some .int), Cond.methodLink RX6 171 yX6_lowestGreatest, Cond.static yX6_lowestGreatest, Cond.code yX6_lowestGreatest cX6_lowestGreatest 5 (some .int), Cond.methodLink RX6 111 yX6_sumOf, Cond.static yX6_sumOf, Cond.code yX6_sumOf cX6_sumOf 5 (some .int), Cond.methodLink RX6 174 yX6_largestRectangle, Cond.instanceMethod yX6_largestRectangle, Cond.selects RX6 yX6_largestRectangle yX6_largestRectangle, Cond.code yX6_largestRectangle cX6_largestRectangle 4 (some .int), Cond.fieldLink RX6 37 "HistogramStairs" "rectangles" "LHistogramStairs$Rectangles;", Cond.methodLink RX6 177 yX3_find, Cond.instanceMethod yX3_find]
def wsX6_range_r2 : List Cond := [Cond.selects RX3 yX3_find yX3_find, Cond.initialized RX3, Cond.code yX3_find cX3_find 5 none, Cond.fieldLink RX3 24 "HistogramStairs$Rectangles" "count" "I", Cond.methodLink RX3 28 yX3_findOwnedBy, Cond.instanceMethod yX3_findOwnedBy, Cond.selects RX3 yX3_findOwnedBy yX3_findOwnedBy, Cond.code yX3_findOwnedBy cX3_findOwnedBy 7 none, Cond.methodLink RX3 36 yX3_place, Cond.instanceMethod yX3_place, Cond.selects RX3 yX3_place yX3_place, Cond.code yX3_place cX3_place 6 none, Cond.fieldLink RX3 9 "HistogramStairs$Rectangles" "firsts" "[I", Cond.fieldLink RX3 15 "HistogramStairs$Rectangles" "lasts" "[I", Cond.fieldLink RX3 18 "HistogramStairs$Rectangles" "tops" "[I", Cond.fieldLink RX3 21 "HistogramStairs$Rectangles" "owners" "[I", Cond.methodLink RX3 40 yX3_comesBefore, Cond.instanceMethod yX3_comesBefore, Cond.selects RX3 yX3_comesBefore yX3_comesBefore, Cond.code yX3_comesBefore cX3_comesBefore 6 (some .boolean), Cond.methodLink RX3 32 yX3_area, Cond.instanceMethod yX3_area, Cond.selects RX3 yX3_area yX3_area, Cond.code yX3_area cX3_area 2 (some .int)]
def wsX6_range_r3 : List Cond := [Cond.methodLink RX6 189 yX3_property, Cond.instanceMethod yX3_property, Cond.selects RX3 yX3_property yX3_property, Cond.code yX3_property cX3_property 3 (some .int)]
def wsX6_range : List Cond := .code yX6_range cX6_range 5 (some .int) :: ((wsX6_range_r1 ++ (wsX6_range_r2 ++ wsX6_range_r3)) ++ wsX60 ++ wsX00 ++ wsX30)
def wsX6_rectangle_r1 : List Cond := [Cond.fieldLink RX6 37 "HistogramStairs" "rectangles" "LHistogramStairs$Rectangles;", Cond.fieldLink RX6 10 "HistogramStairs" "columns" "LHistogramStairs$Columns;", Cond.methodLink RX6 177 yX3_find, Cond.instanceMethod yX3_find, Cond.selects RX3 yX3_find yX3_find, Cond.initialized RX3, Cond.code yX3_find cX3_find 5 none, Cond.fieldLink RX3 24 "HistogramStairs$Rectangles" "count" "I", Cond.methodLink RX3 28 yX3_findOwnedBy, Cond.instanceMethod yX3_findOwnedBy, Cond.selects RX3 yX3_findOwnedBy yX3_findOwnedBy, Cond.code yX3_findOwnedBy cX3_findOwnedBy 7 none, Cond.methodLink RX3 36 yX3_place, Cond.instanceMethod yX3_place, Cond.selects RX3 yX3_place yX3_place, Cond.code yX3_place cX3_place 6 none, Cond.fieldLink RX3 9 "HistogramStairs$Rectangles" "firsts" "[I", Cond.fieldLink RX3 15 "HistogramStairs$Rectangles" "lasts" "[I", Cond.fieldLink RX3 18 "HistogramStairs$Rectangles" "tops" "[I", Cond.fieldLink RX3 21 "HistogramStairs$Rectangles" "owners" "[I", Cond.methodLink RX3 40 yX3_comesBefore, Cond.instanceMethod yX3_comesBefore, Cond.selects RX3 yX3_comesBefore yX3_comesBefore, Cond.code yX3_comesBefore cX3_comesBefore 6 (some .boolean)]
def wsX6_rectangle_r2 : List Cond := [Cond.methodLink RX3 32 yX3_area, Cond.instanceMethod yX3_area, Cond.selects RX3 yX3_area yX3_area, Cond.code yX3_area cX3_area 2 (some .int), Cond.methodLink RX6 182 yX3_countOwners, Cond.instanceMethod yX3_countOwners, Cond.selects RX3 yX3_countOwners yX3_countOwners, Cond.code yX3_countOwners cX3_countOwners 5 (some .int), Cond.methodLink RX6 189 yX3_property, Cond.instanceMethod yX3_property, Cond.selects RX3 yX3_property yX3_property, Cond.code yX3_property cX3_property 3 (some .int)]
def wsX6_rectangle : List Cond := .code yX6_rectangle cX6_rectangle 3 (some .int) :: ((wsX6_rectangle_r1 ++ wsX6_rectangle_r2) ++ wsX60 ++ wsX00 ++ wsX30)
def wsX6_container : List Cond := .code yX6_container cX6_container 8 (some .int) :: ([.fieldLink RX6 10 "HistogramStairs" "columns" "LHistogramStairs$Columns;", .methodLink RX6 192 Lib.Math.min.name, .static Lib.Math.min.name, .initialized "java/lang/Math", .code Lib.Math.min.name Lib.Math.min.code 2 (some .int)] ++ wsX60 ++ wsX00)
def wsX6_pool_r1 : List Cond := [Cond.fieldLink RX6 30 "HistogramStairs" "water" "LHistogramStairs$Water;", Cond.fieldLink RX6 10 "HistogramStairs" "columns" "LHistogramStairs$Columns;", Cond.methodLink RX6 98 yX6_pourAll, Cond.instanceMethod yX6_pourAll, Cond.selects RX6 yX6_pourAll yX6_pourAll, Cond.initialized RX6, Cond.code yX6_pourAll cX6_pourAll 1 (some .int), Cond.methodLink RX6 203 yX5_pour, Cond.instanceMethod yX5_pour, Cond.selects RX5 yX5_pour yX5_pour, Cond.initialized RX5, Cond.code yX5_pour cX5_pour 7 (some .int), Cond.methodLink RX5 15 Lib.Math.max.name, Cond.static Lib.Math.max.name, Cond.initialized "java/lang/Math", Cond.code Lib.Math.max.name Lib.Math.max.code 2 (some .int), Cond.fieldLink RX5 9 "HistogramStairs$Water" "depths" "[I", Cond.methodLink RX5 21 Lib.Math.min.name, Cond.static Lib.Math.min.name, Cond.code Lib.Math.min.name Lib.Math.min.code 2 (some .int), Cond.methodLink RX6 197 yX5_poolStart, Cond.instanceMethod yX5_poolStart, Cond.selects RX5 yX5_poolStart yX5_poolStart, Cond.code yX5_poolStart cX5_poolStart 5 (some .int)]
def wsX6_pool_r2 : List Cond := [Cond.methodLink RX5 24 yX5_startsPool, Cond.instanceMethod yX5_startsPool, Cond.selects RX5 yX5_startsPool yX5_startsPool, Cond.code yX5_startsPool cX5_startsPool 2 (some .boolean), Cond.methodLink RX6 200 yX5_poolEnd, Cond.instanceMethod yX5_poolEnd, Cond.selects RX5 yX5_poolEnd yX5_poolEnd, Cond.code yX5_poolEnd cX5_poolEnd 4 (some .int), Cond.methodLink RX6 111 yX6_sumOf, Cond.static yX6_sumOf, Cond.code yX6_sumOf cX6_sumOf 5 (some .int), Cond.methodLink RX6 171 yX6_lowestGreatest, Cond.static yX6_lowestGreatest, Cond.code yX6_lowestGreatest cX6_lowestGreatest 5 (some .int)]
def wsX6_pool : List Cond := .code yX6_pool cX6_pool 5 (some .int) :: ((wsX6_pool_r1 ++ wsX6_pool_r2) ++ wsX60 ++ wsX00 ++ wsX50)
def wsX6_drained_r1 : List Cond := [Cond.fieldLink RX6 10 "HistogramStairs" "columns" "LHistogramStairs$Columns;", Cond.fieldLink RX6 30 "HistogramStairs" "water" "LHistogramStairs$Water;", Cond.methodLink RX6 71 yX0_has, Cond.instanceMethod yX0_has, Cond.selects RX0 yX0_has yX0_has, Cond.initialized RX0, Cond.code yX0_has cX0_has 2 (some .boolean), Cond.fieldLink RX0 15 "HistogramStairs$Columns" "size" "I", Cond.methodLink RX6 203 yX5_pour, Cond.instanceMethod yX5_pour, Cond.selects RX5 yX5_pour yX5_pour, Cond.initialized RX5, Cond.code yX5_pour cX5_pour 7 (some .int), Cond.methodLink RX5 15 Lib.Math.max.name, Cond.static Lib.Math.max.name, Cond.initialized "java/lang/Math", Cond.code Lib.Math.max.name Lib.Math.max.code 2 (some .int), Cond.fieldLink RX5 9 "HistogramStairs$Water" "depths" "[I", Cond.methodLink RX5 21 Lib.Math.min.name, Cond.static Lib.Math.min.name, Cond.code Lib.Math.min.name Lib.Math.min.code 2 (some .int), Cond.methodLink RX6 98 yX6_pourAll, Cond.instanceMethod yX6_pourAll, Cond.selects RX6 yX6_pourAll yX6_pourAll]
def wsX6_drained_r2 : List Cond := [Cond.initialized RX6, Cond.code yX6_pourAll cX6_pourAll 1 (some .int)]
def wsX6_drained : List Cond := .code yX6_drained cX6_drained 4 (some .int) :: ((wsX6_drained_r1 ++ wsX6_drained_r2) ++ wsX60 ++ wsX00 ++ wsX50)
def wsX6_waterWithDam : List Cond := .code yX6_waterWithDam cX6_waterWithDam 5 (some .int) :: ([.fieldLink RX6 10 "HistogramStairs" "columns" "LHistogramStairs$Columns;", .methodLink RX6 192 Lib.Math.min.name, .static Lib.Math.min.name, .initialized "java/lang/Math", .code Lib.Math.min.name Lib.Math.min.code 2 (some .int), .methodLink RX6 98 yX6_pourAll, .instanceMethod yX6_pourAll, .selects RX6 yX6_pourAll yX6_pourAll, .initialized RX6, .code yX6_pourAll cX6_pourAll 1 (some .int), .fieldLink RX6 30 "HistogramStairs" "water" "LHistogramStairs$Water;", .methodLink RX6 203 yX5_pour, .instanceMethod yX5_pour, .selects RX5 yX5_pour yX5_pour, .initialized RX5, .code yX5_pour cX5_pour 7 (some .int), .methodLink RX5 15 Lib.Math.max.name, .static Lib.Math.max.name, .code Lib.Math.max.name Lib.Math.max.code 2 (some .int), .fieldLink RX5 9 "HistogramStairs$Water" "depths" "[I", .methodLink RX5 21 Lib.Math.min.name] ++ wsX60 ++ wsX00 ++ wsX50)
def wsX6_dam_r1 : List Cond := [Cond.fieldLink RX6 10 "HistogramStairs" "columns" "LHistogramStairs$Columns;", Cond.methodLink RX6 206 yX6_waterWithDam, Cond.instanceMethod yX6_waterWithDam, Cond.selects RX6 yX6_waterWithDam yX6_waterWithDam, Cond.initialized RX6, Cond.code yX6_waterWithDam cX6_waterWithDam 5 (some .int), Cond.methodLink RX6 192 Lib.Math.min.name, Cond.static Lib.Math.min.name, Cond.initialized "java/lang/Math", Cond.code Lib.Math.min.name Lib.Math.min.code 2 (some .int), Cond.methodLink RX6 98 yX6_pourAll, Cond.instanceMethod yX6_pourAll, Cond.selects RX6 yX6_pourAll yX6_pourAll, Cond.code yX6_pourAll cX6_pourAll 1 (some .int), Cond.fieldLink RX6 30 "HistogramStairs" "water" "LHistogramStairs$Water;", Cond.methodLink RX6 203 yX5_pour, Cond.instanceMethod yX5_pour, Cond.selects RX5 yX5_pour yX5_pour, Cond.initialized RX5, Cond.code yX5_pour cX5_pour 7 (some .int), Cond.methodLink RX5 15 Lib.Math.max.name, Cond.static Lib.Math.max.name, Cond.code Lib.Math.max.name Lib.Math.max.code 2 (some .int), Cond.fieldLink RX5 9 "HistogramStairs$Water" "depths" "[I"]
def wsX6_dam_r2 : List Cond := [Cond.methodLink RX5 21 Lib.Math.min.name]
def wsX6_dam : List Cond := .code yX6_dam cX6_dam 7 (some .int) :: ((wsX6_dam_r1 ++ wsX6_dam_r2) ++ wsX60 ++ wsX00 ++ wsX50)
def wsX6_sumOfMinima : List Cond := .code yX6_sumOfMinima cX6_sumOfMinima 5 (some .int) :: ([.fieldLink RX6 10 "HistogramStairs" "columns" "LHistogramStairs$Columns;", .methodLink RX6 192 Lib.Math.min.name, .static Lib.Math.min.name, .initialized "java/lang/Math", .code Lib.Math.min.name Lib.Math.min.code 2 (some .int)] ++ wsX60 ++ wsX00)
def wsX6_ranges : List Cond := .code yX6_ranges cX6_ranges 5 (some .int) :: ([.fieldLink RX6 10 "HistogramStairs" "columns" "LHistogramStairs$Columns;", .methodLink RX6 59 yX6_isHeight, .static yX6_isHeight, .initialized RX6, .code yX6_isHeight cX6_isHeight 1 (some .boolean)] ++ wsX60 ++ wsX00)
def wsX6_isImage : List Cond := .code yX6_isImage cX6_isImage 1 (some .boolean) :: ([])
def wsX6_keep_r1 : List Cond := [Cond.fieldLink RX6 23 "HistogramStairs" "images" "[LHistogramStairs$Columns;", Cond.classLink RX6 7 RX0, Cond.instantiable RX0 2, Cond.initialized RX0, Cond.fieldLink RX6 10 "HistogramStairs" "columns" "LHistogramStairs$Columns;", Cond.methodLink RX6 209 yX6_isImage, Cond.static yX6_isImage, Cond.initialized RX6, Cond.code yX6_isImage cX6_isImage 1 (some .boolean), Cond.instanceMethod yX0_init, Cond.code yX0_init cX0_init 1 none, Cond.methodLink RX0 3 objectInit, Cond.instanceMethod objectInit, Cond.code objectInit ⟨#[0xb1]⟩ 1 none, Cond.arrayClass .int, Cond.fieldLink RX0 9 "HistogramStairs$Columns" "heights" "[I", Cond.fieldLink RX0 15 "HistogramStairs$Columns" "size" "I", Cond.methodLink RX6 212 yX0_copyFrom, Cond.instanceMethod yX0_copyFrom, Cond.selects RX0 yX0_copyFrom yX0_copyFrom, Cond.code yX0_copyFrom cX0_copyFrom 2 none, Cond.methodLink RX0 19 arraycopyName, Cond.native arraycopyName, Cond.static arraycopyName]
def wsX6_keep_r2 : List Cond := [Cond.initialized "java/lang/System"]
def wsX6_keep : List Cond := .code yX6_keep cX6_keep 3 (some .int) :: ((wsX6_keep_r1 ++ wsX6_keep_r2) ++ wsX60 ++ wsX00)
def wsX6_back_r1 : List Cond := [Cond.fieldLink RX6 23 "HistogramStairs" "images" "[LHistogramStairs$Columns;", Cond.fieldLink RX6 19 "HistogramStairs" "history" "LHistogramStairs$History;", Cond.fieldLink RX6 10 "HistogramStairs" "columns" "LHistogramStairs$Columns;", Cond.methodLink RX6 209 yX6_isImage, Cond.static yX6_isImage, Cond.initialized RX6, Cond.code yX6_isImage cX6_isImage 1 (some .boolean), Cond.methodLink RX6 63 yX1_remember, Cond.instanceMethod yX1_remember, Cond.selects RX1 yX1_remember yX1_remember, Cond.initialized RX1, Cond.code yX1_remember cX1_remember 2 none, Cond.fieldLink RX1 17 "HistogramStairs$History" "count" "I", Cond.fieldLink RX1 11 "HistogramStairs$History" "states" "[LHistogramStairs$Columns;", Cond.methodLink RX1 22 yX1_dropOldest, Cond.instanceMethod yX1_dropOldest, Cond.selects RX1 yX1_dropOldest yX1_dropOldest, Cond.code yX1_dropOldest cX1_dropOldest 3 none, Cond.methodLink RX1 25 yX0_copyFrom, Cond.instanceMethod yX0_copyFrom, Cond.selects RX0 yX0_copyFrom yX0_copyFrom, Cond.initialized RX0, Cond.code yX0_copyFrom cX0_copyFrom 2 none, Cond.fieldLink RX0 9 "HistogramStairs$Columns" "heights" "[I"]
def wsX6_back_r2 : List Cond := [Cond.fieldLink RX0 15 "HistogramStairs$Columns" "size" "I", Cond.methodLink RX0 19 arraycopyName, Cond.native arraycopyName, Cond.static arraycopyName, Cond.initialized "java/lang/System", Cond.methodLink RX6 212 yX0_copyFrom]
def wsX6_back : List Cond := .code yX6_back cX6_back 3 (some .int) :: ((wsX6_back_r1 ++ wsX6_back_r2) ++ wsX60 ++ wsX00 ++ wsX10)
def wsX6_parting : List Cond := .code yX6_parting cX6_parting 3 (some .int) :: ([.fieldLink RX6 23 "HistogramStairs" "images" "[LHistogramStairs$Columns;", .fieldLink RX6 10 "HistogramStairs" "columns" "LHistogramStairs$Columns;", .methodLink RX6 209 yX6_isImage, .static yX6_isImage, .initialized RX6, .code yX6_isImage cX6_isImage 1 (some .boolean), .methodLink RX6 215 yX0_firstDifference, .instanceMethod yX0_firstDifference, .selects RX0 yX0_firstDifference yX0_firstDifference, .initialized RX0, .code yX0_firstDifference cX0_firstDifference 4 (some .int), .fieldLink RX0 15 "HistogramStairs$Columns" "size" "I", .methodLink RX0 25 Lib.Math.min.name, .static Lib.Math.min.name, .initialized "java/lang/Math", .code Lib.Math.min.name Lib.Math.min.code 2 (some .int), .fieldLink RX0 9 "HistogramStairs$Columns" "heights" "[I"] ++ wsX60 ++ wsX00)
def wsX7_init : List Cond := .code yX7_init cX7_init 1 none :: ([.methodLink RX7 1 objectInit, .instanceMethod objectInit, .code objectInit ⟨#[0xb1]⟩ 1 none, .arrayClass .int, .fieldLink RX7 7 "HistogramStairsModel" "h" "[I", .fieldLink RX7 13 "HistogramStairsModel" "past" "[I", .fieldLink RX7 16 "HistogramStairsModel" "images" "[I", .fieldLink RX7 19 "HistogramStairsModel" "wet" "[I", .fieldLink RX7 22 "HistogramStairsModel" "areas" "[I", .fieldLink RX7 25 "HistogramStairsModel" "firsts" "[I", .fieldLink RX7 28 "HistogramStairsModel" "lasts" "[I", .fieldLink RX7 31 "HistogramStairsModel" "above" "[I", .fieldLink RX7 34 "HistogramStairsModel" "next" "[I"] ++ wsX70)
def wsX7_isIn : List Cond := .code yX7_isIn cX7_isIn 3 (some .boolean) :: ([])
def wsX7_many : List Cond := .code yX7_many cX7_many 1 (some .int) :: ([.fieldLink RX7 7 "HistogramStairsModel" "h" "[I"] ++ wsX70)
def wsX7_isColumn : List Cond := .code yX7_isColumn cX7_isColumn 2 (some .boolean) :: ([.methodLink RX7 37 yX7_many, .instanceMethod yX7_many, .selects RX7 yX7_many yX7_many, .initialized RX7, .code yX7_many cX7_many 1 (some .int), .fieldLink RX7 7 "HistogramStairsModel" "h" "[I", .methodLink RX7 41 yX7_isIn, .static yX7_isIn, .code yX7_isIn cX7_isIn 3 (some .boolean)] ++ wsX70)
def wsX7_isRange : List Cond := .code yX7_isRange cX7_isRange 3 (some .boolean) :: ([.methodLink RX7 45 yX7_isColumn, .instanceMethod yX7_isColumn, .selects RX7 yX7_isColumn yX7_isColumn, .initialized RX7, .code yX7_isColumn cX7_isColumn 2 (some .boolean), .methodLink RX7 37 yX7_many, .instanceMethod yX7_many, .selects RX7 yX7_many yX7_many, .code yX7_many cX7_many 1 (some .int), .fieldLink RX7 7 "HistogramStairsModel" "h" "[I", .methodLink RX7 41 yX7_isIn, .static yX7_isIn, .code yX7_isIn cX7_isIn 3 (some .boolean)] ++ wsX70)
def wsX7_remember : List Cond := .code yX7_remember cX7_remember 2 none :: ([.fieldLink RX7 49 "HistogramStairsModel" "pastMany" "I", .fieldLink RX7 13 "HistogramStairsModel" "past" "[I", .fieldLink RX7 7 "HistogramStairsModel" "h" "[I"] ++ wsX70)
def wsX7_before : List Cond := .code yX7_before cX7_before 2 (some .int) :: ([.fieldLink RX7 13 "HistogramStairsModel" "past" "[I", .fieldLink RX7 49 "HistogramStairsModel" "pastMany" "I"] ++ wsX70)
def wsX7_changed : List Cond := .code yX7_changed cX7_changed 5 (some .int) :: ([.fieldLink RX7 7 "HistogramStairsModel" "h" "[I", .methodLink RX7 53 yX7_before, .instanceMethod yX7_before, .selects RX7 yX7_before yX7_before, .initialized RX7, .code yX7_before cX7_before 2 (some .int), .fieldLink RX7 13 "HistogramStairsModel" "past" "[I", .fieldLink RX7 49 "HistogramStairsModel" "pastMany" "I"] ++ wsX70)
def wsX7_insert : List Cond := .code yX7_insert cX7_insert 4 (some .int) :: ([.fieldLink RX7 7 "HistogramStairsModel" "h" "[I", .methodLink RX7 37 yX7_many, .instanceMethod yX7_many, .selects RX7 yX7_many yX7_many, .initialized RX7, .code yX7_many cX7_many 1 (some .int), .methodLink RX7 41 yX7_isIn, .static yX7_isIn, .code yX7_isIn cX7_isIn 3 (some .boolean), .methodLink RX7 57 yX7_remember, .instanceMethod yX7_remember, .selects RX7 yX7_remember yX7_remember, .code yX7_remember cX7_remember 2 none, .fieldLink RX7 49 "HistogramStairsModel" "pastMany" "I", .fieldLink RX7 13 "HistogramStairsModel" "past" "[I", .methodLink RX7 53 yX7_before, .instanceMethod yX7_before, .selects RX7 yX7_before yX7_before, .code yX7_before cX7_before 2 (some .int)] ++ wsX70)
def wsX7_remove : List Cond := .code yX7_remove cX7_remove 3 (some .int) :: ([.fieldLink RX7 7 "HistogramStairsModel" "h" "[I", .methodLink RX7 45 yX7_isColumn, .instanceMethod yX7_isColumn, .selects RX7 yX7_isColumn yX7_isColumn, .initialized RX7, .code yX7_isColumn cX7_isColumn 2 (some .boolean), .methodLink RX7 37 yX7_many, .instanceMethod yX7_many, .selects RX7 yX7_many yX7_many, .code yX7_many cX7_many 1 (some .int), .methodLink RX7 41 yX7_isIn, .static yX7_isIn, .code yX7_isIn cX7_isIn 3 (some .boolean), .methodLink RX7 57 yX7_remember, .instanceMethod yX7_remember, .selects RX7 yX7_remember yX7_remember, .code yX7_remember cX7_remember 2 none, .fieldLink RX7 49 "HistogramStairsModel" "pastMany" "I", .fieldLink RX7 13 "HistogramStairsModel" "past" "[I", .methodLink RX7 53 yX7_before, .instanceMethod yX7_before, .selects RX7 yX7_before yX7_before, .code yX7_before cX7_before 2 (some .int)] ++ wsX70)
def wsX7_set : List Cond := .code yX7_set cX7_set 3 (some .int) :: ([.fieldLink RX7 7 "HistogramStairsModel" "h" "[I", .methodLink RX7 45 yX7_isColumn, .instanceMethod yX7_isColumn, .selects RX7 yX7_isColumn yX7_isColumn, .initialized RX7, .code yX7_isColumn cX7_isColumn 2 (some .boolean), .methodLink RX7 37 yX7_many, .instanceMethod yX7_many, .selects RX7 yX7_many yX7_many, .code yX7_many cX7_many 1 (some .int), .methodLink RX7 41 yX7_isIn, .static yX7_isIn, .code yX7_isIn cX7_isIn 3 (some .boolean), .methodLink RX7 57 yX7_remember, .instanceMethod yX7_remember, .selects RX7 yX7_remember yX7_remember, .code yX7_remember cX7_remember 2 none, .fieldLink RX7 49 "HistogramStairsModel" "pastMany" "I", .fieldLink RX7 13 "HistogramStairsModel" "past" "[I", .methodLink RX7 53 yX7_before, .instanceMethod yX7_before, .selects RX7 yX7_before yX7_before, .code yX7_before cX7_before 2 (some .int)] ++ wsX70)
def wsX7_capped : List Cond := .code yX7_capped cX7_capped 1 (some .int) :: ([])
def wsX7_raise_r1 : List Cond := [Cond.fieldLink RX7 7 "HistogramStairsModel" "h" "[I", Cond.methodLink RX7 60 yX7_isRange, Cond.instanceMethod yX7_isRange, Cond.selects RX7 yX7_isRange yX7_isRange, Cond.initialized RX7, Cond.code yX7_isRange cX7_isRange 3 (some .boolean), Cond.methodLink RX7 45 yX7_isColumn, Cond.instanceMethod yX7_isColumn, Cond.selects RX7 yX7_isColumn yX7_isColumn, Cond.code yX7_isColumn cX7_isColumn 2 (some .boolean), Cond.methodLink RX7 37 yX7_many, Cond.instanceMethod yX7_many, Cond.selects RX7 yX7_many yX7_many, Cond.code yX7_many cX7_many 1 (some .int), Cond.methodLink RX7 41 yX7_isIn, Cond.static yX7_isIn, Cond.code yX7_isIn cX7_isIn 3 (some .boolean), Cond.methodLink RX7 57 yX7_remember, Cond.instanceMethod yX7_remember, Cond.selects RX7 yX7_remember yX7_remember, Cond.code yX7_remember cX7_remember 2 none, Cond.fieldLink RX7 49 "HistogramStairsModel" "pastMany" "I", Cond.fieldLink RX7 13 "HistogramStairsModel" "past" "[I", Cond.methodLink RX7 64 yX7_capped]
def wsX7_raise_r2 : List Cond := [Cond.static yX7_capped, Cond.code yX7_capped cX7_capped 1 (some .int), Cond.methodLink RX7 67 yX7_changed, Cond.instanceMethod yX7_changed, Cond.selects RX7 yX7_changed yX7_changed, Cond.code yX7_changed cX7_changed 5 (some .int), Cond.methodLink RX7 53 yX7_before, Cond.instanceMethod yX7_before, Cond.selects RX7 yX7_before yX7_before, Cond.code yX7_before cX7_before 2 (some .int)]
def wsX7_raise : List Cond := .code yX7_raise cX7_raise 5 (some .int) :: ((wsX7_raise_r1 ++ wsX7_raise_r2) ++ wsX70)
def wsX7_reverse_r1 : List Cond := [Cond.fieldLink RX7 7 "HistogramStairsModel" "h" "[I", Cond.methodLink RX7 60 yX7_isRange, Cond.instanceMethod yX7_isRange, Cond.selects RX7 yX7_isRange yX7_isRange, Cond.initialized RX7, Cond.code yX7_isRange cX7_isRange 3 (some .boolean), Cond.methodLink RX7 45 yX7_isColumn, Cond.instanceMethod yX7_isColumn, Cond.selects RX7 yX7_isColumn yX7_isColumn, Cond.code yX7_isColumn cX7_isColumn 2 (some .boolean), Cond.methodLink RX7 37 yX7_many, Cond.instanceMethod yX7_many, Cond.selects RX7 yX7_many yX7_many, Cond.code yX7_many cX7_many 1 (some .int), Cond.methodLink RX7 41 yX7_isIn, Cond.static yX7_isIn, Cond.code yX7_isIn cX7_isIn 3 (some .boolean), Cond.methodLink RX7 57 yX7_remember, Cond.instanceMethod yX7_remember, Cond.selects RX7 yX7_remember yX7_remember, Cond.code yX7_remember cX7_remember 2 none, Cond.fieldLink RX7 49 "HistogramStairsModel" "pastMany" "I", Cond.fieldLink RX7 13 "HistogramStairsModel" "past" "[I", Cond.methodLink RX7 53 yX7_before]
def wsX7_reverse_r2 : List Cond := [Cond.instanceMethod yX7_before, Cond.selects RX7 yX7_before yX7_before, Cond.code yX7_before cX7_before 2 (some .int), Cond.methodLink RX7 67 yX7_changed, Cond.instanceMethod yX7_changed, Cond.selects RX7 yX7_changed yX7_changed, Cond.code yX7_changed cX7_changed 5 (some .int)]
def wsX7_reverse : List Cond := .code yX7_reverse cX7_reverse 4 (some .int) :: ((wsX7_reverse_r1 ++ wsX7_reverse_r2) ++ wsX70)
def wsX7_sort : List Cond := .code yX7_sort cX7_sort 8 (some .int) :: ([.fieldLink RX7 7 "HistogramStairsModel" "h" "[I", .methodLink RX7 60 yX7_isRange, .instanceMethod yX7_isRange, .selects RX7 yX7_isRange yX7_isRange, .initialized RX7, .code yX7_isRange cX7_isRange 3 (some .boolean), .methodLink RX7 45 yX7_isColumn, .instanceMethod yX7_isColumn, .selects RX7 yX7_isColumn yX7_isColumn, .code yX7_isColumn cX7_isColumn 2 (some .boolean), .methodLink RX7 37 yX7_many, .instanceMethod yX7_many, .selects RX7 yX7_many yX7_many, .code yX7_many cX7_many 1 (some .int), .methodLink RX7 41 yX7_isIn, .static yX7_isIn, .code yX7_isIn cX7_isIn 3 (some .boolean), .methodLink RX7 57 yX7_remember, .instanceMethod yX7_remember, .selects RX7 yX7_remember yX7_remember, .code yX7_remember cX7_remember 2 none, .fieldLink RX7 49 "HistogramStairsModel" "pastMany" "I", .fieldLink RX7 13 "HistogramStairsModel" "past" "[I"] ++ wsX70)
def wsX7_greatest : List Cond := .code yX7_greatest cX7_greatest 5 (some .int) :: ([.fieldLink RX7 7 "HistogramStairsModel" "h" "[I"] ++ wsX70)
def wsX7_depth : List Cond := .code yX7_depth cX7_depth 6 (some .int) :: ([.fieldLink RX7 7 "HistogramStairsModel" "h" "[I", .methodLink RX7 78 yX7_greatest, .instanceMethod yX7_greatest, .selects RX7 yX7_greatest yX7_greatest, .initialized RX7, .code yX7_greatest cX7_greatest 5 (some .int)] ++ wsX70)
def wsX7_water : List Cond := .code yX7_water cX7_water 5 (some .int) :: ([.methodLink RX7 74 yX7_depth, .instanceMethod yX7_depth, .selects RX7 yX7_depth yX7_depth, .initialized RX7, .code yX7_depth cX7_depth 6 (some .int), .fieldLink RX7 7 "HistogramStairsModel" "h" "[I", .methodLink RX7 78 yX7_greatest, .instanceMethod yX7_greatest, .selects RX7 yX7_greatest yX7_greatest, .code yX7_greatest cX7_greatest 5 (some .int)] ++ wsX70)
def wsX7_freeze_r1 : List Cond := [Cond.fieldLink RX7 19 "HistogramStairsModel" "wet" "[I", Cond.fieldLink RX7 7 "HistogramStairsModel" "h" "[I", Cond.methodLink RX7 57 yX7_remember, Cond.instanceMethod yX7_remember, Cond.selects RX7 yX7_remember yX7_remember, Cond.initialized RX7, Cond.code yX7_remember cX7_remember 2 none, Cond.fieldLink RX7 49 "HistogramStairsModel" "pastMany" "I", Cond.fieldLink RX7 13 "HistogramStairsModel" "past" "[I", Cond.methodLink RX7 37 yX7_many, Cond.instanceMethod yX7_many, Cond.selects RX7 yX7_many yX7_many, Cond.code yX7_many cX7_many 1 (some .int), Cond.methodLink RX7 71 yX7_water, Cond.instanceMethod yX7_water, Cond.selects RX7 yX7_water yX7_water, Cond.code yX7_water cX7_water 5 (some .int), Cond.methodLink RX7 74 yX7_depth, Cond.instanceMethod yX7_depth, Cond.selects RX7 yX7_depth yX7_depth, Cond.code yX7_depth cX7_depth 6 (some .int), Cond.methodLink RX7 78 yX7_greatest, Cond.instanceMethod yX7_greatest, Cond.selects RX7 yX7_greatest yX7_greatest]
def wsX7_freeze_r2 : List Cond := [Cond.code yX7_greatest cX7_greatest 5 (some .int)]
def wsX7_freeze : List Cond := .code yX7_freeze cX7_freeze 3 (some .int) :: ((wsX7_freeze_r1 ++ wsX7_freeze_r2) ++ wsX70)
def wsX7_clear : List Cond := .code yX7_clear cX7_clear 1 (some .int) :: ([.fieldLink RX7 7 "HistogramStairsModel" "h" "[I", .methodLink RX7 57 yX7_remember, .instanceMethod yX7_remember, .selects RX7 yX7_remember yX7_remember, .initialized RX7, .code yX7_remember cX7_remember 2 none, .fieldLink RX7 49 "HistogramStairsModel" "pastMany" "I", .fieldLink RX7 13 "HistogramStairsModel" "past" "[I", .methodLink RX7 53 yX7_before, .instanceMethod yX7_before, .selects RX7 yX7_before yX7_before, .code yX7_before cX7_before 2 (some .int)] ++ wsX70)
def wsX7_undo : List Cond := .code yX7_undo cX7_undo 2 (some .int) :: ([.fieldLink RX7 49 "HistogramStairsModel" "pastMany" "I", .fieldLink RX7 7 "HistogramStairsModel" "h" "[I", .fieldLink RX7 13 "HistogramStairsModel" "past" "[I"] ++ wsX70)
def wsX7_least : List Cond := .code yX7_least cX7_least 5 (some .int) :: ([.fieldLink RX7 7 "HistogramStairsModel" "h" "[I"] ++ wsX70)
def wsX7_firstWith : List Cond := .code yX7_firstWith cX7_firstWith 4 (some .int) :: ([.fieldLink RX7 7 "HistogramStairsModel" "h" "[I"] ++ wsX70)
def wsX7_sum : List Cond := .code yX7_sum cX7_sum 5 (some .int) :: ([.fieldLink RX7 7 "HistogramStairsModel" "h" "[I"] ++ wsX70)
def wsX7_isWet : List Cond := .code yX7_isWet cX7_isWet 2 (some .boolean) :: ([.methodLink RX7 45 yX7_isColumn, .instanceMethod yX7_isColumn, .selects RX7 yX7_isColumn yX7_isColumn, .initialized RX7, .code yX7_isColumn cX7_isColumn 2 (some .boolean), .methodLink RX7 37 yX7_many, .instanceMethod yX7_many, .selects RX7 yX7_many yX7_many, .code yX7_many cX7_many 1 (some .int), .fieldLink RX7 7 "HistogramStairsModel" "h" "[I", .methodLink RX7 41 yX7_isIn, .static yX7_isIn, .code yX7_isIn cX7_isIn 3 (some .boolean), .methodLink RX7 74 yX7_depth, .instanceMethod yX7_depth, .selects RX7 yX7_depth yX7_depth, .code yX7_depth cX7_depth 6 (some .int), .methodLink RX7 78 yX7_greatest, .instanceMethod yX7_greatest, .selects RX7 yX7_greatest yX7_greatest, .code yX7_greatest cX7_greatest 5 (some .int)] ++ wsX70)
def wsX7_beginsPool_r1 : List Cond := [Cond.methodLink RX7 81 yX7_isWet, Cond.instanceMethod yX7_isWet, Cond.selects RX7 yX7_isWet yX7_isWet, Cond.initialized RX7, Cond.code yX7_isWet cX7_isWet 2 (some .boolean), Cond.methodLink RX7 45 yX7_isColumn, Cond.instanceMethod yX7_isColumn, Cond.selects RX7 yX7_isColumn yX7_isColumn, Cond.code yX7_isColumn cX7_isColumn 2 (some .boolean), Cond.methodLink RX7 37 yX7_many, Cond.instanceMethod yX7_many, Cond.selects RX7 yX7_many yX7_many, Cond.code yX7_many cX7_many 1 (some .int), Cond.fieldLink RX7 7 "HistogramStairsModel" "h" "[I", Cond.methodLink RX7 41 yX7_isIn, Cond.static yX7_isIn, Cond.code yX7_isIn cX7_isIn 3 (some .boolean), Cond.methodLink RX7 74 yX7_depth, Cond.instanceMethod yX7_depth, Cond.selects RX7 yX7_depth yX7_depth, Cond.code yX7_depth cX7_depth 6 (some .int), Cond.methodLink RX7 78 yX7_greatest, Cond.instanceMethod yX7_greatest, Cond.selects RX7 yX7_greatest yX7_greatest]
def wsX7_beginsPool_r2 : List Cond := [Cond.code yX7_greatest cX7_greatest 5 (some .int)]
def wsX7_beginsPool : List Cond := .code yX7_beginsPool cX7_beginsPool 2 (some .boolean) :: ((wsX7_beginsPool_r1 ++ wsX7_beginsPool_r2) ++ wsX70)
def wsX7_pools_r1 : List Cond := [Cond.methodLink RX7 37 yX7_many, Cond.instanceMethod yX7_many, Cond.selects RX7 yX7_many yX7_many, Cond.initialized RX7, Cond.code yX7_many cX7_many 1 (some .int), Cond.fieldLink RX7 7 "HistogramStairsModel" "h" "[I", Cond.methodLink RX7 84 yX7_beginsPool, Cond.instanceMethod yX7_beginsPool, Cond.selects RX7 yX7_beginsPool yX7_beginsPool, Cond.code yX7_beginsPool cX7_beginsPool 2 (some .boolean), Cond.methodLink RX7 81 yX7_isWet, Cond.instanceMethod yX7_isWet, Cond.selects RX7 yX7_isWet yX7_isWet, Cond.code yX7_isWet cX7_isWet 2 (some .boolean), Cond.methodLink RX7 45 yX7_isColumn, Cond.instanceMethod yX7_isColumn, Cond.selects RX7 yX7_isColumn yX7_isColumn, Cond.code yX7_isColumn cX7_isColumn 2 (some .boolean), Cond.methodLink RX7 41 yX7_isIn, Cond.static yX7_isIn, Cond.code yX7_isIn cX7_isIn 3 (some .boolean), Cond.methodLink RX7 74 yX7_depth, Cond.instanceMethod yX7_depth, Cond.selects RX7 yX7_depth yX7_depth]
def wsX7_pools_r2 : List Cond := [Cond.code yX7_depth cX7_depth 6 (some .int), Cond.methodLink RX7 78 yX7_greatest, Cond.instanceMethod yX7_greatest, Cond.selects RX7 yX7_greatest yX7_greatest, Cond.code yX7_greatest cX7_greatest 5 (some .int)]
def wsX7_pools : List Cond := .code yX7_pools cX7_pools 3 (some .int) :: ((wsX7_pools_r1 ++ wsX7_pools_r2) ++ wsX70)
def wsX7_isMaximal : List Cond := .code yX7_isMaximal cX7_isMaximal 6 (some .boolean) :: ([.fieldLink RX7 7 "HistogramStairsModel" "h" "[I", .methodLink RX7 87 yX7_least, .instanceMethod yX7_least, .selects RX7 yX7_least yX7_least, .initialized RX7, .code yX7_least cX7_least 5 (some .int), .methodLink RX7 37 yX7_many, .instanceMethod yX7_many, .selects RX7 yX7_many yX7_many, .code yX7_many cX7_many 1 (some .int)] ++ wsX70)
def wsX7_area : List Cond := .code yX7_area cX7_area 3 (some .int) :: ([.methodLink RX7 87 yX7_least, .instanceMethod yX7_least, .selects RX7 yX7_least yX7_least, .initialized RX7, .code yX7_least cX7_least 5 (some .int), .fieldLink RX7 7 "HistogramStairsModel" "h" "[I"] ++ wsX70)
def wsX7_layRectangles : List Cond := .code yX7_layRectangles cX7_layRectangles 6 (some .int) :: ([.fieldLink RX7 22 "HistogramStairsModel" "areas" "[I", .fieldLink RX7 25 "HistogramStairsModel" "firsts" "[I", .fieldLink RX7 28 "HistogramStairsModel" "lasts" "[I", .methodLink RX7 37 yX7_many, .instanceMethod yX7_many, .selects RX7 yX7_many yX7_many, .initialized RX7, .code yX7_many cX7_many 1 (some .int), .fieldLink RX7 7 "HistogramStairsModel" "h" "[I", .methodLink RX7 90 yX7_isMaximal, .instanceMethod yX7_isMaximal, .selects RX7 yX7_isMaximal yX7_isMaximal, .code yX7_isMaximal cX7_isMaximal 6 (some .boolean), .methodLink RX7 87 yX7_least, .instanceMethod yX7_least, .selects RX7 yX7_least yX7_least, .code yX7_least cX7_least 5 (some .int), .methodLink RX7 93 yX7_area, .instanceMethod yX7_area, .selects RX7 yX7_area yX7_area, .code yX7_area cX7_area 3 (some .int)] ++ wsX70)
def wsX7_rootOf : List Cond := .code yX7_rootOf cX7_rootOf 3 (some .int) :: ([.methodLink RX7 87 yX7_least, .instanceMethod yX7_least, .selects RX7 yX7_least yX7_least, .initialized RX7, .code yX7_least cX7_least 5 (some .int), .fieldLink RX7 7 "HistogramStairsModel" "h" "[I", .methodLink RX7 96 yX7_firstWith, .instanceMethod yX7_firstWith, .selects RX7 yX7_firstWith yX7_firstWith, .code yX7_firstWith cX7_firstWith 4 (some .int)] ++ wsX70)
def wsX7_treeDepth : List Cond := .code yX7_treeDepth cX7_treeDepth 6 (some .int) :: ([.fieldLink RX7 99 "HistogramStairsModel" "parent" "I", .methodLink RX7 37 yX7_many, .instanceMethod yX7_many, .selects RX7 yX7_many yX7_many, .initialized RX7, .code yX7_many cX7_many 1 (some .int), .fieldLink RX7 7 "HistogramStairsModel" "h" "[I", .methodLink RX7 102 yX7_rootOf, .instanceMethod yX7_rootOf, .selects RX7 yX7_rootOf yX7_rootOf, .code yX7_rootOf cX7_rootOf 3 (some .int), .methodLink RX7 87 yX7_least, .instanceMethod yX7_least, .selects RX7 yX7_least yX7_least, .code yX7_least cX7_least 5 (some .int), .methodLink RX7 96 yX7_firstWith, .instanceMethod yX7_firstWith, .selects RX7 yX7_firstWith yX7_firstWith, .code yX7_firstWith cX7_firstWith 4 (some .int)] ++ wsX70)
def wsX7_parentOf : List Cond := .code yX7_parentOf cX7_parentOf 3 (some .int) :: ([.fieldLink RX7 99 "HistogramStairsModel" "parent" "I", .methodLink RX7 105 yX7_treeDepth, .instanceMethod yX7_treeDepth, .selects RX7 yX7_treeDepth yX7_treeDepth, .initialized RX7, .code yX7_treeDepth cX7_treeDepth 6 (some .int), .methodLink RX7 37 yX7_many, .instanceMethod yX7_many, .selects RX7 yX7_many yX7_many, .code yX7_many cX7_many 1 (some .int), .fieldLink RX7 7 "HistogramStairsModel" "h" "[I", .methodLink RX7 102 yX7_rootOf, .instanceMethod yX7_rootOf, .selects RX7 yX7_rootOf yX7_rootOf, .code yX7_rootOf cX7_rootOf 3 (some .int), .methodLink RX7 87 yX7_least, .instanceMethod yX7_least, .selects RX7 yX7_least yX7_least, .code yX7_least cX7_least 5 (some .int), .methodLink RX7 96 yX7_firstWith, .instanceMethod yX7_firstWith, .selects RX7 yX7_firstWith yX7_firstWith, .code yX7_firstWith cX7_firstWith 4 (some .int)] ++ wsX70)
def wsX7_deepest : List Cond := .code yX7_deepest cX7_deepest 4 (some .int) :: ([.methodLink RX7 37 yX7_many, .instanceMethod yX7_many, .selects RX7 yX7_many yX7_many, .initialized RX7, .code yX7_many cX7_many 1 (some .int), .fieldLink RX7 7 "HistogramStairsModel" "h" "[I", .methodLink RX7 105 yX7_treeDepth, .instanceMethod yX7_treeDepth, .selects RX7 yX7_treeDepth yX7_treeDepth, .code yX7_treeDepth cX7_treeDepth 6 (some .int), .fieldLink RX7 99 "HistogramStairsModel" "parent" "I", .methodLink RX7 102 yX7_rootOf, .instanceMethod yX7_rootOf, .selects RX7 yX7_rootOf yX7_rootOf, .code yX7_rootOf cX7_rootOf 3 (some .int), .methodLink RX7 87 yX7_least, .instanceMethod yX7_least, .selects RX7 yX7_least yX7_least, .code yX7_least cX7_least 5 (some .int), .methodLink RX7 96 yX7_firstWith, .instanceMethod yX7_firstWith, .selects RX7 yX7_firstWith yX7_firstWith, .code yX7_firstWith cX7_firstWith 4 (some .int)] ++ wsX70)
def wsX7_horizontal : List Cond := .code yX7_horizontal cX7_horizontal 4 (some .int) :: ([.fieldLink RX7 7 "HistogramStairsModel" "h" "[I", .methodLink RX7 37 yX7_many, .instanceMethod yX7_many, .selects RX7 yX7_many yX7_many, .initialized RX7, .code yX7_many cX7_many 1 (some .int)] ++ wsX70)
def wsX7_endAbove : List Cond := .code yX7_endAbove cX7_endAbove 4 (some .int) :: ([.fieldLink RX7 7 "HistogramStairsModel" "h" "[I", .methodLink RX7 37 yX7_many, .instanceMethod yX7_many, .selects RX7 yX7_many yX7_many, .initialized RX7, .code yX7_many cX7_many 1 (some .int)] ++ wsX70)
def wsX7_layLevel : List Cond := .code yX7_layLevel cX7_layLevel 6 none :: ([.fieldLink RX7 34 "HistogramStairsModel" "next" "[I", .fieldLink RX7 7 "HistogramStairsModel" "h" "[I", .fieldLink RX7 31 "HistogramStairsModel" "above" "[I", .methodLink RX7 37 yX7_many, .instanceMethod yX7_many, .selects RX7 yX7_many yX7_many, .initialized RX7, .code yX7_many cX7_many 1 (some .int), .methodLink RX7 108 yX7_endAbove, .instanceMethod yX7_endAbove, .selects RX7 yX7_endAbove yX7_endAbove, .code yX7_endAbove cX7_endAbove 4 (some .int)] ++ wsX70)
def wsX7_strokes : List Cond := .code yX7_strokes cX7_strokes 3 (some .int) :: ([.fieldLink RX7 31 "HistogramStairsModel" "above" "[I", .methodLink RX7 111 yX7_layLevel, .instanceMethod yX7_layLevel, .selects RX7 yX7_layLevel yX7_layLevel, .initialized RX7, .code yX7_layLevel cX7_layLevel 6 none, .fieldLink RX7 34 "HistogramStairsModel" "next" "[I", .fieldLink RX7 7 "HistogramStairsModel" "h" "[I", .methodLink RX7 37 yX7_many, .instanceMethod yX7_many, .selects RX7 yX7_many yX7_many, .code yX7_many cX7_many 1 (some .int), .methodLink RX7 108 yX7_endAbove, .instanceMethod yX7_endAbove, .selects RX7 yX7_endAbove yX7_endAbove, .code yX7_endAbove cX7_endAbove 4 (some .int)] ++ wsX70)
def wsX7_standing : List Cond := .code yX7_standing cX7_standing 5 (some .int) :: ([.fieldLink RX7 7 "HistogramStairsModel" "h" "[I", .methodLink RX7 37 yX7_many, .instanceMethod yX7_many, .selects RX7 yX7_many yX7_many, .initialized RX7, .code yX7_many cX7_many 1 (some .int), .methodLink RX7 78 yX7_greatest, .instanceMethod yX7_greatest, .selects RX7 yX7_greatest yX7_greatest, .code yX7_greatest cX7_greatest 5 (some .int)] ++ wsX70)
def wsX7_told_r1 : List Cond := [Cond.fieldLink RX7 49 "HistogramStairsModel" "pastMany" "I", Cond.methodLink RX7 37 yX7_many, Cond.instanceMethod yX7_many, Cond.selects RX7 yX7_many yX7_many, Cond.initialized RX7, Cond.code yX7_many cX7_many 1 (some .int), Cond.fieldLink RX7 7 "HistogramStairsModel" "h" "[I", Cond.methodLink RX7 115 yX7_sum, Cond.instanceMethod yX7_sum, Cond.selects RX7 yX7_sum yX7_sum, Cond.code yX7_sum cX7_sum 5 (some .int), Cond.methodLink RX7 78 yX7_greatest, Cond.instanceMethod yX7_greatest, Cond.selects RX7 yX7_greatest yX7_greatest, Cond.code yX7_greatest cX7_greatest 5 (some .int), Cond.methodLink RX7 71 yX7_water, Cond.instanceMethod yX7_water, Cond.selects RX7 yX7_water yX7_water, Cond.code yX7_water cX7_water 5 (some .int), Cond.methodLink RX7 74 yX7_depth, Cond.instanceMethod yX7_depth, Cond.selects RX7 yX7_depth yX7_depth, Cond.code yX7_depth cX7_depth 6 (some .int), Cond.methodLink RX7 118 yX7_pools]
def wsX7_told_r2 : List Cond := [Cond.instanceMethod yX7_pools, Cond.selects RX7 yX7_pools yX7_pools, Cond.code yX7_pools cX7_pools 3 (some .int), Cond.methodLink RX7 84 yX7_beginsPool, Cond.instanceMethod yX7_beginsPool, Cond.selects RX7 yX7_beginsPool yX7_beginsPool, Cond.code yX7_beginsPool cX7_beginsPool 2 (some .boolean), Cond.methodLink RX7 81 yX7_isWet, Cond.instanceMethod yX7_isWet, Cond.selects RX7 yX7_isWet yX7_isWet, Cond.code yX7_isWet cX7_isWet 2 (some .boolean), Cond.methodLink RX7 45 yX7_isColumn, Cond.instanceMethod yX7_isColumn, Cond.selects RX7 yX7_isColumn yX7_isColumn, Cond.code yX7_isColumn cX7_isColumn 2 (some .boolean), Cond.methodLink RX7 41 yX7_isIn, Cond.static yX7_isIn, Cond.code yX7_isIn cX7_isIn 3 (some .boolean), Cond.methodLink RX7 121 yX7_layRectangles, Cond.instanceMethod yX7_layRectangles, Cond.selects RX7 yX7_layRectangles yX7_layRectangles, Cond.code yX7_layRectangles cX7_layRectangles 6 (some .int), Cond.fieldLink RX7 22 "HistogramStairsModel" "areas" "[I", Cond.fieldLink RX7 25 "HistogramStairsModel" "firsts" "[I"]
def wsX7_told_r3 : List Cond := [Cond.fieldLink RX7 28 "HistogramStairsModel" "lasts" "[I", Cond.methodLink RX7 90 yX7_isMaximal, Cond.instanceMethod yX7_isMaximal, Cond.selects RX7 yX7_isMaximal yX7_isMaximal, Cond.code yX7_isMaximal cX7_isMaximal 6 (some .boolean), Cond.methodLink RX7 87 yX7_least, Cond.instanceMethod yX7_least, Cond.selects RX7 yX7_least yX7_least, Cond.code yX7_least cX7_least 5 (some .int), Cond.methodLink RX7 93 yX7_area, Cond.instanceMethod yX7_area, Cond.selects RX7 yX7_area yX7_area, Cond.code yX7_area cX7_area 3 (some .int), Cond.methodLink RX7 124 yX7_standing, Cond.instanceMethod yX7_standing, Cond.selects RX7 yX7_standing yX7_standing, Cond.code yX7_standing cX7_standing 5 (some .int), Cond.methodLink RX7 128 yX7_deepest, Cond.instanceMethod yX7_deepest, Cond.selects RX7 yX7_deepest yX7_deepest, Cond.code yX7_deepest cX7_deepest 4 (some .int), Cond.methodLink RX7 105 yX7_treeDepth, Cond.instanceMethod yX7_treeDepth, Cond.selects RX7 yX7_treeDepth yX7_treeDepth]
def wsX7_told_r4 : List Cond := [Cond.code yX7_treeDepth cX7_treeDepth 6 (some .int), Cond.fieldLink RX7 99 "HistogramStairsModel" "parent" "I", Cond.methodLink RX7 102 yX7_rootOf, Cond.instanceMethod yX7_rootOf, Cond.selects RX7 yX7_rootOf yX7_rootOf, Cond.code yX7_rootOf cX7_rootOf 3 (some .int), Cond.methodLink RX7 96 yX7_firstWith, Cond.instanceMethod yX7_firstWith, Cond.selects RX7 yX7_firstWith yX7_firstWith, Cond.code yX7_firstWith cX7_firstWith 4 (some .int), Cond.methodLink RX7 131 yX7_horizontal, Cond.instanceMethod yX7_horizontal, Cond.selects RX7 yX7_horizontal yX7_horizontal, Cond.code yX7_horizontal cX7_horizontal 4 (some .int), Cond.methodLink RX7 134 yX7_strokes, Cond.instanceMethod yX7_strokes, Cond.selects RX7 yX7_strokes yX7_strokes, Cond.code yX7_strokes cX7_strokes 3 (some .int), Cond.fieldLink RX7 31 "HistogramStairsModel" "above" "[I", Cond.methodLink RX7 111 yX7_layLevel, Cond.instanceMethod yX7_layLevel, Cond.selects RX7 yX7_layLevel yX7_layLevel, Cond.code yX7_layLevel cX7_layLevel 6 none, Cond.fieldLink RX7 34 "HistogramStairsModel" "next" "[I"]
def wsX7_told_r5 : List Cond := [Cond.methodLink RX7 108 yX7_endAbove, Cond.instanceMethod yX7_endAbove, Cond.selects RX7 yX7_endAbove yX7_endAbove, Cond.code yX7_endAbove cX7_endAbove 4 (some .int)]
def wsX7_told : List Cond := .code yX7_told cX7_told 2 (some .int) :: ((wsX7_told_r1 ++ (wsX7_told_r2 ++ (wsX7_told_r3 ++ (wsX7_told_r4 ++ wsX7_told_r5)))) ++ wsX70)
def wsX7_nearest : List Cond := .code yX7_nearest cX7_nearest 5 (some .int) :: ([.fieldLink RX7 7 "HistogramStairsModel" "h" "[I", .methodLink RX7 45 yX7_isColumn, .instanceMethod yX7_isColumn, .selects RX7 yX7_isColumn yX7_isColumn, .initialized RX7, .code yX7_isColumn cX7_isColumn 2 (some .boolean), .methodLink RX7 37 yX7_many, .instanceMethod yX7_many, .selects RX7 yX7_many yX7_many, .code yX7_many cX7_many 1 (some .int), .methodLink RX7 41 yX7_isIn, .static yX7_isIn, .code yX7_isIn cX7_isIn 3 (some .boolean)] ++ wsX70)
def wsX7_reach : List Cond := .code yX7_reach cX7_reach 4 (some .int) :: ([.fieldLink RX7 7 "HistogramStairsModel" "h" "[I", .methodLink RX7 37 yX7_many, .instanceMethod yX7_many, .selects RX7 yX7_many yX7_many, .initialized RX7, .code yX7_many cX7_many 1 (some .int)] ++ wsX70)
def wsX7_stairLength : List Cond := .code yX7_stairLength cX7_stairLength 4 (some .int) :: ([.methodLink RX7 137 yX7_nearest, .instanceMethod yX7_nearest, .selects RX7 yX7_nearest yX7_nearest, .initialized RX7, .code yX7_nearest cX7_nearest 5 (some .int), .fieldLink RX7 7 "HistogramStairsModel" "h" "[I", .methodLink RX7 45 yX7_isColumn, .instanceMethod yX7_isColumn, .selects RX7 yX7_isColumn yX7_isColumn, .code yX7_isColumn cX7_isColumn 2 (some .boolean), .methodLink RX7 37 yX7_many, .instanceMethod yX7_many, .selects RX7 yX7_many yX7_many, .code yX7_many cX7_many 1 (some .int), .methodLink RX7 41 yX7_isIn, .static yX7_isIn, .code yX7_isIn cX7_isIn 3 (some .boolean)] ++ wsX70)
def wsX7_column_r1 : List Cond := [Cond.fieldLink RX7 7 "HistogramStairsModel" "h" "[I", Cond.methodLink RX7 45 yX7_isColumn, Cond.instanceMethod yX7_isColumn, Cond.selects RX7 yX7_isColumn yX7_isColumn, Cond.initialized RX7, Cond.code yX7_isColumn cX7_isColumn 2 (some .boolean), Cond.methodLink RX7 37 yX7_many, Cond.instanceMethod yX7_many, Cond.selects RX7 yX7_many yX7_many, Cond.code yX7_many cX7_many 1 (some .int), Cond.methodLink RX7 41 yX7_isIn, Cond.static yX7_isIn, Cond.code yX7_isIn cX7_isIn 3 (some .boolean), Cond.methodLink RX7 137 yX7_nearest, Cond.instanceMethod yX7_nearest, Cond.selects RX7 yX7_nearest yX7_nearest, Cond.code yX7_nearest cX7_nearest 5 (some .int), Cond.methodLink RX7 74 yX7_depth, Cond.instanceMethod yX7_depth, Cond.selects RX7 yX7_depth yX7_depth, Cond.code yX7_depth cX7_depth 6 (some .int), Cond.methodLink RX7 78 yX7_greatest, Cond.instanceMethod yX7_greatest, Cond.selects RX7 yX7_greatest yX7_greatest]
def wsX7_column_r2 : List Cond := [Cond.code yX7_greatest cX7_greatest 5 (some .int), Cond.methodLink RX7 141 yX7_parentOf, Cond.instanceMethod yX7_parentOf, Cond.selects RX7 yX7_parentOf yX7_parentOf, Cond.code yX7_parentOf cX7_parentOf 3 (some .int), Cond.fieldLink RX7 99 "HistogramStairsModel" "parent" "I", Cond.methodLink RX7 105 yX7_treeDepth, Cond.instanceMethod yX7_treeDepth, Cond.selects RX7 yX7_treeDepth yX7_treeDepth, Cond.code yX7_treeDepth cX7_treeDepth 6 (some .int), Cond.methodLink RX7 102 yX7_rootOf, Cond.instanceMethod yX7_rootOf, Cond.selects RX7 yX7_rootOf yX7_rootOf, Cond.code yX7_rootOf cX7_rootOf 3 (some .int), Cond.methodLink RX7 87 yX7_least, Cond.instanceMethod yX7_least, Cond.selects RX7 yX7_least yX7_least, Cond.code yX7_least cX7_least 5 (some .int), Cond.methodLink RX7 96 yX7_firstWith, Cond.instanceMethod yX7_firstWith, Cond.selects RX7 yX7_firstWith yX7_firstWith, Cond.code yX7_firstWith cX7_firstWith 4 (some .int), Cond.methodLink RX7 144 yX7_reach, Cond.instanceMethod yX7_reach]
def wsX7_column_r3 : List Cond := [Cond.selects RX7 yX7_reach yX7_reach, Cond.code yX7_reach cX7_reach 4 (some .int), Cond.methodLink RX7 147 yX7_stairLength, Cond.instanceMethod yX7_stairLength, Cond.selects RX7 yX7_stairLength yX7_stairLength, Cond.code yX7_stairLength cX7_stairLength 4 (some .int)]
def wsX7_column : List Cond := .code yX7_column cX7_column 3 (some .int) :: ((wsX7_column_r1 ++ (wsX7_column_r2 ++ wsX7_column_r3)) ++ wsX70)
def wsX7_stair : List Cond := .code yX7_stair cX7_stair 5 (some .int) :: ([.methodLink RX7 45 yX7_isColumn, .instanceMethod yX7_isColumn, .selects RX7 yX7_isColumn yX7_isColumn, .initialized RX7, .code yX7_isColumn cX7_isColumn 2 (some .boolean), .methodLink RX7 37 yX7_many, .instanceMethod yX7_many, .selects RX7 yX7_many yX7_many, .code yX7_many cX7_many 1 (some .int), .fieldLink RX7 7 "HistogramStairsModel" "h" "[I", .methodLink RX7 41 yX7_isIn, .static yX7_isIn, .code yX7_isIn cX7_isIn 3 (some .boolean), .methodLink RX7 137 yX7_nearest, .instanceMethod yX7_nearest, .selects RX7 yX7_nearest yX7_nearest, .code yX7_nearest cX7_nearest 5 (some .int)] ++ wsX70)
def wsX7_largest : List Cond := .code yX7_largest cX7_largest 9 (some .int) :: ([.methodLink RX7 93 yX7_area, .instanceMethod yX7_area, .selects RX7 yX7_area yX7_area, .initialized RX7, .code yX7_area cX7_area 3 (some .int), .methodLink RX7 87 yX7_least, .instanceMethod yX7_least, .selects RX7 yX7_least yX7_least, .code yX7_least cX7_least 5 (some .int), .fieldLink RX7 7 "HistogramStairsModel" "h" "[I"] ++ wsX70)
def wsX7_range_r1 : List Cond := [Cond.methodLink RX7 60 yX7_isRange, Cond.instanceMethod yX7_isRange, Cond.selects RX7 yX7_isRange yX7_isRange, Cond.initialized RX7, Cond.code yX7_isRange cX7_isRange 3 (some .boolean), Cond.methodLink RX7 45 yX7_isColumn, Cond.instanceMethod yX7_isColumn, Cond.selects RX7 yX7_isColumn yX7_isColumn, Cond.code yX7_isColumn cX7_isColumn 2 (some .boolean), Cond.methodLink RX7 37 yX7_many, Cond.instanceMethod yX7_many, Cond.selects RX7 yX7_many yX7_many, Cond.code yX7_many cX7_many 1 (some .int), Cond.fieldLink RX7 7 "HistogramStairsModel" "h" "[I", Cond.methodLink RX7 41 yX7_isIn, Cond.static yX7_isIn, Cond.code yX7_isIn cX7_isIn 3 (some .boolean), Cond.methodLink RX7 87 yX7_least, Cond.instanceMethod yX7_least, Cond.selects RX7 yX7_least yX7_least, Cond.code yX7_least cX7_least 5 (some .int), Cond.methodLink RX7 96 yX7_firstWith, Cond.instanceMethod yX7_firstWith, Cond.selects RX7 yX7_firstWith yX7_firstWith]
def wsX7_range_r2 : List Cond := [Cond.code yX7_firstWith cX7_firstWith 4 (some .int), Cond.methodLink RX7 78 yX7_greatest, Cond.instanceMethod yX7_greatest, Cond.selects RX7 yX7_greatest yX7_greatest, Cond.code yX7_greatest cX7_greatest 5 (some .int), Cond.methodLink RX7 115 yX7_sum, Cond.instanceMethod yX7_sum, Cond.selects RX7 yX7_sum yX7_sum, Cond.code yX7_sum cX7_sum 5 (some .int), Cond.methodLink RX7 150 yX7_largest, Cond.instanceMethod yX7_largest, Cond.selects RX7 yX7_largest yX7_largest, Cond.code yX7_largest cX7_largest 9 (some .int), Cond.methodLink RX7 93 yX7_area, Cond.instanceMethod yX7_area, Cond.selects RX7 yX7_area yX7_area, Cond.code yX7_area cX7_area 3 (some .int)]
def wsX7_range : List Cond := .code yX7_range cX7_range 4 (some .int) :: ((wsX7_range_r1 ++ wsX7_range_r2) ++ wsX70)
def wsX7_owners : List Cond := .code yX7_owners cX7_owners 4 (some .int) :: ([.fieldLink RX7 25 "HistogramStairsModel" "firsts" "[I", .fieldLink RX7 28 "HistogramStairsModel" "lasts" "[I", .fieldLink RX7 7 "HistogramStairsModel" "h" "[I", .methodLink RX7 87 yX7_least, .instanceMethod yX7_least, .selects RX7 yX7_least yX7_least, .initialized RX7, .code yX7_least cX7_least 5 (some .int)] ++ wsX70)
def wsX7_rectangle_r1 : List Cond := [Cond.fieldLink RX7 25 "HistogramStairsModel" "firsts" "[I", Cond.fieldLink RX7 28 "HistogramStairsModel" "lasts" "[I", Cond.fieldLink RX7 22 "HistogramStairsModel" "areas" "[I", Cond.methodLink RX7 41 yX7_isIn, Cond.static yX7_isIn, Cond.initialized RX7, Cond.code yX7_isIn cX7_isIn 3 (some .boolean), Cond.methodLink RX7 121 yX7_layRectangles, Cond.instanceMethod yX7_layRectangles, Cond.selects RX7 yX7_layRectangles yX7_layRectangles, Cond.code yX7_layRectangles cX7_layRectangles 6 (some .int), Cond.methodLink RX7 37 yX7_many, Cond.instanceMethod yX7_many, Cond.selects RX7 yX7_many yX7_many, Cond.code yX7_many cX7_many 1 (some .int), Cond.fieldLink RX7 7 "HistogramStairsModel" "h" "[I", Cond.methodLink RX7 90 yX7_isMaximal, Cond.instanceMethod yX7_isMaximal, Cond.selects RX7 yX7_isMaximal yX7_isMaximal, Cond.code yX7_isMaximal cX7_isMaximal 6 (some .boolean), Cond.methodLink RX7 87 yX7_least, Cond.instanceMethod yX7_least, Cond.selects RX7 yX7_least yX7_least, Cond.code yX7_least cX7_least 5 (some .int)]
def wsX7_rectangle_r2 : List Cond := [Cond.methodLink RX7 93 yX7_area, Cond.instanceMethod yX7_area, Cond.selects RX7 yX7_area yX7_area, Cond.code yX7_area cX7_area 3 (some .int), Cond.methodLink RX7 153 yX7_owners, Cond.instanceMethod yX7_owners, Cond.selects RX7 yX7_owners yX7_owners, Cond.code yX7_owners cX7_owners 4 (some .int), Cond.methodLink RX7 96 yX7_firstWith, Cond.instanceMethod yX7_firstWith, Cond.selects RX7 yX7_firstWith yX7_firstWith, Cond.code yX7_firstWith cX7_firstWith 4 (some .int)]
def wsX7_rectangle : List Cond := .code yX7_rectangle cX7_rectangle 4 (some .int) :: ((wsX7_rectangle_r1 ++ wsX7_rectangle_r2) ++ wsX70)
def wsX7_container : List Cond := .code yX7_container cX7_container 8 (some .int) :: ([.fieldLink RX7 7 "HistogramStairsModel" "h" "[I", .methodLink RX7 41 yX7_isIn, .static yX7_isIn, .initialized RX7, .code yX7_isIn cX7_isIn 3 (some .boolean), .methodLink RX7 37 yX7_many, .instanceMethod yX7_many, .selects RX7 yX7_many yX7_many, .code yX7_many cX7_many 1 (some .int)] ++ wsX70)
def wsX7_poolBegin_r1 : List Cond := [Cond.methodLink RX7 37 yX7_many, Cond.instanceMethod yX7_many, Cond.selects RX7 yX7_many yX7_many, Cond.initialized RX7, Cond.code yX7_many cX7_many 1 (some .int), Cond.fieldLink RX7 7 "HistogramStairsModel" "h" "[I", Cond.methodLink RX7 84 yX7_beginsPool, Cond.instanceMethod yX7_beginsPool, Cond.selects RX7 yX7_beginsPool yX7_beginsPool, Cond.code yX7_beginsPool cX7_beginsPool 2 (some .boolean), Cond.methodLink RX7 81 yX7_isWet, Cond.instanceMethod yX7_isWet, Cond.selects RX7 yX7_isWet yX7_isWet, Cond.code yX7_isWet cX7_isWet 2 (some .boolean), Cond.methodLink RX7 45 yX7_isColumn, Cond.instanceMethod yX7_isColumn, Cond.selects RX7 yX7_isColumn yX7_isColumn, Cond.code yX7_isColumn cX7_isColumn 2 (some .boolean), Cond.methodLink RX7 41 yX7_isIn, Cond.static yX7_isIn, Cond.code yX7_isIn cX7_isIn 3 (some .boolean), Cond.methodLink RX7 74 yX7_depth, Cond.instanceMethod yX7_depth, Cond.selects RX7 yX7_depth yX7_depth]
def wsX7_poolBegin_r2 : List Cond := [Cond.code yX7_depth cX7_depth 6 (some .int), Cond.methodLink RX7 78 yX7_greatest, Cond.instanceMethod yX7_greatest, Cond.selects RX7 yX7_greatest yX7_greatest, Cond.code yX7_greatest cX7_greatest 5 (some .int)]
def wsX7_poolBegin : List Cond := .code yX7_poolBegin cX7_poolBegin 4 (some .int) :: ((wsX7_poolBegin_r1 ++ wsX7_poolBegin_r2) ++ wsX70)
def wsX7_pool_r1 : List Cond := [Cond.fieldLink RX7 7 "HistogramStairsModel" "h" "[I", Cond.methodLink RX7 41 yX7_isIn, Cond.static yX7_isIn, Cond.initialized RX7, Cond.code yX7_isIn cX7_isIn 3 (some .boolean), Cond.methodLink RX7 156 yX7_poolBegin, Cond.instanceMethod yX7_poolBegin, Cond.selects RX7 yX7_poolBegin yX7_poolBegin, Cond.code yX7_poolBegin cX7_poolBegin 4 (some .int), Cond.methodLink RX7 37 yX7_many, Cond.instanceMethod yX7_many, Cond.selects RX7 yX7_many yX7_many, Cond.code yX7_many cX7_many 1 (some .int), Cond.methodLink RX7 84 yX7_beginsPool, Cond.instanceMethod yX7_beginsPool, Cond.selects RX7 yX7_beginsPool yX7_beginsPool, Cond.code yX7_beginsPool cX7_beginsPool 2 (some .boolean), Cond.methodLink RX7 81 yX7_isWet, Cond.instanceMethod yX7_isWet, Cond.selects RX7 yX7_isWet yX7_isWet, Cond.code yX7_isWet cX7_isWet 2 (some .boolean), Cond.methodLink RX7 45 yX7_isColumn, Cond.instanceMethod yX7_isColumn, Cond.selects RX7 yX7_isColumn yX7_isColumn]
def wsX7_pool_r2 : List Cond := [Cond.code yX7_isColumn cX7_isColumn 2 (some .boolean), Cond.methodLink RX7 74 yX7_depth, Cond.instanceMethod yX7_depth, Cond.selects RX7 yX7_depth yX7_depth, Cond.code yX7_depth cX7_depth 6 (some .int), Cond.methodLink RX7 78 yX7_greatest, Cond.instanceMethod yX7_greatest, Cond.selects RX7 yX7_greatest yX7_greatest, Cond.code yX7_greatest cX7_greatest 5 (some .int)]
def wsX7_pool : List Cond := .code yX7_pool cX7_pool 8 (some .int) :: ((wsX7_pool_r1 ++ wsX7_pool_r2) ++ wsX70)
def wsX7_drained_r1 : List Cond := [Cond.methodLink RX7 45 yX7_isColumn, Cond.instanceMethod yX7_isColumn, Cond.selects RX7 yX7_isColumn yX7_isColumn, Cond.initialized RX7, Cond.code yX7_isColumn cX7_isColumn 2 (some .boolean), Cond.methodLink RX7 37 yX7_many, Cond.instanceMethod yX7_many, Cond.selects RX7 yX7_many yX7_many, Cond.code yX7_many cX7_many 1 (some .int), Cond.fieldLink RX7 7 "HistogramStairsModel" "h" "[I", Cond.methodLink RX7 41 yX7_isIn, Cond.static yX7_isIn, Cond.code yX7_isIn cX7_isIn 3 (some .boolean), Cond.methodLink RX7 71 yX7_water, Cond.instanceMethod yX7_water, Cond.selects RX7 yX7_water yX7_water, Cond.code yX7_water cX7_water 5 (some .int), Cond.methodLink RX7 74 yX7_depth, Cond.instanceMethod yX7_depth, Cond.selects RX7 yX7_depth yX7_depth, Cond.code yX7_depth cX7_depth 6 (some .int), Cond.methodLink RX7 78 yX7_greatest, Cond.instanceMethod yX7_greatest, Cond.selects RX7 yX7_greatest yX7_greatest]
def wsX7_drained_r2 : List Cond := [Cond.code yX7_greatest cX7_greatest 5 (some .int)]
def wsX7_drained : List Cond := .code yX7_drained cX7_drained 2 (some .int) :: ((wsX7_drained_r1 ++ wsX7_drained_r2) ++ wsX70)
def wsX7_dam : List Cond := .code yX7_dam cX7_dam 8 (some .int) :: ([.fieldLink RX7 7 "HistogramStairsModel" "h" "[I", .methodLink RX7 41 yX7_isIn, .static yX7_isIn, .initialized RX7, .code yX7_isIn cX7_isIn 3 (some .boolean), .methodLink RX7 37 yX7_many, .instanceMethod yX7_many, .selects RX7 yX7_many yX7_many, .code yX7_many cX7_many 1 (some .int), .methodLink RX7 64 yX7_capped, .static yX7_capped, .code yX7_capped cX7_capped 1 (some .int), .methodLink RX7 71 yX7_water, .instanceMethod yX7_water, .selects RX7 yX7_water yX7_water, .code yX7_water cX7_water 5 (some .int), .methodLink RX7 74 yX7_depth, .instanceMethod yX7_depth, .selects RX7 yX7_depth yX7_depth, .code yX7_depth cX7_depth 6 (some .int), .methodLink RX7 78 yX7_greatest, .instanceMethod yX7_greatest, .selects RX7 yX7_greatest yX7_greatest, .code yX7_greatest cX7_greatest 5 (some .int)] ++ wsX70)
def wsX7_sumOfMinima : List Cond := .code yX7_sumOfMinima cX7_sumOfMinima 4 (some .int) :: ([.methodLink RX7 37 yX7_many, .instanceMethod yX7_many, .selects RX7 yX7_many yX7_many, .initialized RX7, .code yX7_many cX7_many 1 (some .int), .fieldLink RX7 7 "HistogramStairsModel" "h" "[I", .methodLink RX7 87 yX7_least, .instanceMethod yX7_least, .selects RX7 yX7_least yX7_least, .code yX7_least cX7_least 5 (some .int)] ++ wsX70)
def wsX7_ranges : List Cond := .code yX7_ranges cX7_ranges 5 (some .int) :: ([.methodLink RX7 41 yX7_isIn, .static yX7_isIn, .initialized RX7, .code yX7_isIn cX7_isIn 3 (some .boolean), .methodLink RX7 37 yX7_many, .instanceMethod yX7_many, .selects RX7 yX7_many yX7_many, .code yX7_many cX7_many 1 (some .int), .fieldLink RX7 7 "HistogramStairsModel" "h" "[I", .methodLink RX7 87 yX7_least, .instanceMethod yX7_least, .selects RX7 yX7_least yX7_least, .code yX7_least cX7_least 5 (some .int)] ++ wsX70)
def wsX7_isImage : List Cond := .code yX7_isImage cX7_isImage 1 (some .boolean) :: ([.methodLink RX7 41 yX7_isIn, .static yX7_isIn, .initialized RX7, .code yX7_isIn cX7_isIn 3 (some .boolean)])
def wsX7_keep : List Cond := .code yX7_keep cX7_keep 3 (some .int) :: ([.fieldLink RX7 16 "HistogramStairsModel" "images" "[I", .fieldLink RX7 7 "HistogramStairsModel" "h" "[I", .fieldLink RX7 162 "HistogramStairsModel" "filled" "I", .methodLink RX7 159 yX7_isImage, .static yX7_isImage, .initialized RX7, .code yX7_isImage cX7_isImage 1 (some .boolean), .methodLink RX7 41 yX7_isIn, .static yX7_isIn, .code yX7_isIn cX7_isIn 3 (some .boolean), .methodLink RX7 37 yX7_many, .instanceMethod yX7_many, .selects RX7 yX7_many yX7_many, .code yX7_many cX7_many 1 (some .int)] ++ wsX70)
def wsX7_isKept : List Cond := .code yX7_isKept cX7_isKept 2 (some .boolean) :: ([.fieldLink RX7 162 "HistogramStairsModel" "filled" "I"] ++ wsX70)
def wsX7_back : List Cond := .code yX7_back cX7_back 3 (some .int) :: ([.fieldLink RX7 7 "HistogramStairsModel" "h" "[I", .fieldLink RX7 16 "HistogramStairsModel" "images" "[I", .methodLink RX7 159 yX7_isImage, .static yX7_isImage, .initialized RX7, .code yX7_isImage cX7_isImage 1 (some .boolean), .methodLink RX7 41 yX7_isIn, .static yX7_isIn, .code yX7_isIn cX7_isIn 3 (some .boolean), .methodLink RX7 165 yX7_isKept, .instanceMethod yX7_isKept, .selects RX7 yX7_isKept yX7_isKept, .code yX7_isKept cX7_isKept 2 (some .boolean), .fieldLink RX7 162 "HistogramStairsModel" "filled" "I", .methodLink RX7 57 yX7_remember, .instanceMethod yX7_remember, .selects RX7 yX7_remember yX7_remember, .code yX7_remember cX7_remember 2 none, .fieldLink RX7 49 "HistogramStairsModel" "pastMany" "I", .fieldLink RX7 13 "HistogramStairsModel" "past" "[I", .methodLink RX7 37 yX7_many, .instanceMethod yX7_many, .selects RX7 yX7_many yX7_many, .code yX7_many cX7_many 1 (some .int)] ++ wsX70)
def wsX7_parting : List Cond := .code yX7_parting cX7_parting 4 (some .int) :: ([.fieldLink RX7 16 "HistogramStairsModel" "images" "[I", .fieldLink RX7 7 "HistogramStairsModel" "h" "[I", .methodLink RX7 159 yX7_isImage, .static yX7_isImage, .initialized RX7, .code yX7_isImage cX7_isImage 1 (some .boolean), .methodLink RX7 41 yX7_isIn, .static yX7_isIn, .code yX7_isIn cX7_isIn 3 (some .boolean), .methodLink RX7 165 yX7_isKept, .instanceMethod yX7_isKept, .selects RX7 yX7_isKept yX7_isKept, .code yX7_isKept cX7_isKept 2 (some .boolean), .fieldLink RX7 162 "HistogramStairsModel" "filled" "I", .methodLink RX7 37 yX7_many, .instanceMethod yX7_many, .selects RX7 yX7_many yX7_many, .code yX7_many cX7_many 1 (some .int)] ++ wsX70)
def wsJ9_max_7cf53 : List Cond := .code yJ9_max_7cf53 cJ9_max_7cf53 2 (some .int) :: ([])
def wsJ9_min_7cf53 : List Cond := .code yJ9_min_7cf53 cJ9_min_7cf53 2 (some .int) :: ([])
def wsL_law_r1 : List Cond := [Cond.classLink RL 7 RX6, Cond.instantiable RX6 7, Cond.initialized RX6, Cond.classLink RL 10 RX7, Cond.instantiable RX7 12, Cond.initialized RX7, Cond.methodLink RL 9 yX6_init, Cond.instanceMethod yX6_init, Cond.code yX6_init cX6_init 1 none, Cond.methodLink RX6 1 objectInit, Cond.instanceMethod objectInit, Cond.code objectInit ⟨#[0xb1]⟩ 1 none, Cond.classLink RX6 7 RX0, Cond.instantiable RX0 2, Cond.initialized RX0, Cond.fieldLink RX6 10 "HistogramStairs" "columns" "LHistogramStairs$Columns;", Cond.classLink RX6 16 RX1, Cond.instantiable RX1 2, Cond.initialized RX1, Cond.fieldLink RX6 19 "HistogramStairs" "history" "LHistogramStairs$History;", Cond.fieldLink RX6 23 "HistogramStairs" "images" "[LHistogramStairs$Columns;", Cond.classLink RX6 27 RX5, Cond.instantiable RX5 1, Cond.initialized RX5]
def wsL_law_r2 : List Cond := [Cond.fieldLink RX6 30 "HistogramStairs" "water" "LHistogramStairs$Water;", Cond.classLink RX6 34 RX3, Cond.instantiable RX3 5, Cond.initialized RX3, Cond.fieldLink RX6 37 "HistogramStairs" "rectangles" "LHistogramStairs$Rectangles;", Cond.classLink RX6 41 RX4, Cond.instantiable RX4 2, Cond.initialized RX4, Cond.fieldLink RX6 44 "HistogramStairs" "tree" "LHistogramStairs$Tree;", Cond.classLink RX6 48 RX2, Cond.instantiable RX2 1, Cond.initialized RX2, Cond.fieldLink RX6 51 "HistogramStairs" "painter" "LHistogramStairs$Painter;", Cond.instanceMethod yX0_init, Cond.code yX0_init cX0_init 1 none, Cond.methodLink RX0 3 objectInit, Cond.arrayClass .int, Cond.fieldLink RX0 9 "HistogramStairs$Columns" "heights" "[I", Cond.fieldLink RX0 15 "HistogramStairs$Columns" "size" "I", Cond.methodLink RX6 18 yX1_init, Cond.instanceMethod yX1_init, Cond.code yX1_init cX1_init 2 none, Cond.methodLink RX1 3 objectInit, Cond.classLink RX1 9 RX0]
def wsL_law_r3 : List Cond := [Cond.fieldLink RX1 11 "HistogramStairs$History" "states" "[LHistogramStairs$Columns;", Cond.fieldLink RX1 17 "HistogramStairs$History" "count" "I", Cond.instanceMethod yX5_init, Cond.code yX5_init cX5_init 1 none, Cond.methodLink RX5 3 objectInit, Cond.fieldLink RX5 9 "HistogramStairs$Water" "depths" "[I", Cond.instanceMethod yX3_init, Cond.code yX3_init cX3_init 1 none, Cond.methodLink RX3 3 objectInit, Cond.fieldLink RX3 9 "HistogramStairs$Rectangles" "firsts" "[I", Cond.fieldLink RX3 15 "HistogramStairs$Rectangles" "lasts" "[I", Cond.fieldLink RX3 18 "HistogramStairs$Rectangles" "tops" "[I", Cond.fieldLink RX3 21 "HistogramStairs$Rectangles" "owners" "[I", Cond.fieldLink RX3 24 "HistogramStairs$Rectangles" "count" "I", Cond.instanceMethod yX4_init, Cond.code yX4_init cX4_init 1 none, Cond.methodLink RX4 3 objectInit, Cond.fieldLink RX4 9 "HistogramStairs$Tree" "parents" "[I", Cond.fieldLink RX4 15 "HistogramStairs$Tree" "spine" "[I", Cond.instanceMethod yX2_init, Cond.code yX2_init cX2_init 1 none, Cond.methodLink RX2 3 objectInit, Cond.fieldLink RX2 9 "HistogramStairs$Painter" "strokes" "[I", Cond.methodLink RL 12 yX7_init]
def wsL_law_r4 : List Cond := [Cond.instanceMethod yX7_init, Cond.code yX7_init cX7_init 1 none, Cond.methodLink RX7 1 objectInit, Cond.fieldLink RX7 7 "HistogramStairsModel" "h" "[I", Cond.fieldLink RX7 13 "HistogramStairsModel" "past" "[I", Cond.fieldLink RX7 16 "HistogramStairsModel" "images" "[I", Cond.fieldLink RX7 19 "HistogramStairsModel" "wet" "[I", Cond.fieldLink RX7 22 "HistogramStairsModel" "areas" "[I", Cond.fieldLink RX7 25 "HistogramStairsModel" "firsts" "[I", Cond.fieldLink RX7 28 "HistogramStairsModel" "lasts" "[I", Cond.fieldLink RX7 31 "HistogramStairsModel" "above" "[I", Cond.fieldLink RX7 34 "HistogramStairsModel" "next" "[I", Cond.methodLink RL 13 yX6_insert, Cond.instanceMethod yX6_insert, Cond.selects RX6 yX6_insert yX6_insert, Cond.code yX6_insert cX6_insert 3 (some .int), Cond.methodLink RX6 59 yX6_isHeight, Cond.static yX6_isHeight, Cond.code yX6_isHeight cX6_isHeight 1 (some .boolean), Cond.methodLink RX6 63 yX1_remember, Cond.instanceMethod yX1_remember, Cond.selects RX1 yX1_remember yX1_remember, Cond.code yX1_remember cX1_remember 2 none, Cond.methodLink RX1 22 yX1_dropOldest]
def wsL_law_r5 : List Cond := [Cond.instanceMethod yX1_dropOldest, Cond.selects RX1 yX1_dropOldest yX1_dropOldest, Cond.code yX1_dropOldest cX1_dropOldest 3 none, Cond.methodLink RX1 25 yX0_copyFrom, Cond.instanceMethod yX0_copyFrom, Cond.selects RX0 yX0_copyFrom yX0_copyFrom, Cond.code yX0_copyFrom cX0_copyFrom 2 none, Cond.methodLink RX0 19 arraycopyName, Cond.native arraycopyName, Cond.static arraycopyName, Cond.initialized "java/lang/System", Cond.methodLink RX6 67 yX0_putIn, Cond.instanceMethod yX0_putIn, Cond.selects RX0 yX0_putIn yX0_putIn, Cond.code yX0_putIn cX0_putIn 3 none, Cond.methodLink RL 17 yX7_insert, Cond.instanceMethod yX7_insert, Cond.selects RX7 yX7_insert yX7_insert, Cond.code yX7_insert cX7_insert 4 (some .int), Cond.methodLink RX7 37 yX7_many, Cond.instanceMethod yX7_many, Cond.selects RX7 yX7_many yX7_many, Cond.code yX7_many cX7_many 1 (some .int), Cond.methodLink RX7 41 yX7_isIn]
def wsL_law_r6 : List Cond := [Cond.static yX7_isIn, Cond.code yX7_isIn cX7_isIn 3 (some .boolean), Cond.methodLink RX7 57 yX7_remember, Cond.instanceMethod yX7_remember, Cond.selects RX7 yX7_remember yX7_remember, Cond.code yX7_remember cX7_remember 2 none, Cond.fieldLink RX7 49 "HistogramStairsModel" "pastMany" "I", Cond.methodLink RX7 53 yX7_before, Cond.instanceMethod yX7_before, Cond.selects RX7 yX7_before yX7_before, Cond.code yX7_before cX7_before 2 (some .int), Cond.methodLink RL 18 yX6_remove, Cond.instanceMethod yX6_remove, Cond.selects RX6 yX6_remove yX6_remove, Cond.code yX6_remove cX6_remove 2 (some .int), Cond.methodLink RX6 71 yX0_has, Cond.instanceMethod yX0_has, Cond.selects RX0 yX0_has yX0_has, Cond.code yX0_has cX0_has 2 (some .boolean), Cond.methodLink RX6 74 yX0_takeOut, Cond.instanceMethod yX0_takeOut, Cond.selects RX0 yX0_takeOut yX0_takeOut, Cond.code yX0_takeOut cX0_takeOut 3 (some .int), Cond.methodLink RL 22 yX7_remove]
def wsL_law_r7 : List Cond := [Cond.instanceMethod yX7_remove, Cond.selects RX7 yX7_remove yX7_remove, Cond.code yX7_remove cX7_remove 3 (some .int), Cond.methodLink RX7 45 yX7_isColumn, Cond.instanceMethod yX7_isColumn, Cond.selects RX7 yX7_isColumn yX7_isColumn, Cond.code yX7_isColumn cX7_isColumn 2 (some .boolean), Cond.methodLink RL 23 yX6_set, Cond.instanceMethod yX6_set, Cond.selects RX6 yX6_set yX6_set, Cond.code yX6_set cX6_set 4 (some .int), Cond.methodLink RL 26 yX7_set, Cond.instanceMethod yX7_set, Cond.selects RX7 yX7_set yX7_set, Cond.code yX7_set cX7_set 3 (some .int), Cond.methodLink RL 27 yX6_raise, Cond.instanceMethod yX6_raise, Cond.selects RX6 yX6_raise yX6_raise, Cond.code yX6_raise cX6_raise 4 (some .int), Cond.methodLink RX6 82 yX0_hasRange, Cond.instanceMethod yX0_hasRange, Cond.selects RX0 yX0_hasRange yX0_hasRange, Cond.code yX0_hasRange cX0_hasRange 3 (some .boolean), Cond.methodLink RX6 86 yX0_lift]
def wsL_law_r8 : List Cond := [Cond.instanceMethod yX0_lift, Cond.selects RX0 yX0_lift yX0_lift, Cond.code yX0_lift cX0_lift 7 (some .int), Cond.methodLink RX0 25 Lib.Math.min.name, Cond.static Lib.Math.min.name, Cond.initialized "java/lang/Math", Cond.code Lib.Math.min.name Lib.Math.min.code 2 (some .int), Cond.methodLink RX0 31 Lib.Math.max.name, Cond.static Lib.Math.max.name, Cond.code Lib.Math.max.name Lib.Math.max.code 2 (some .int), Cond.methodLink RL 31 yX7_raise, Cond.instanceMethod yX7_raise, Cond.selects RX7 yX7_raise yX7_raise, Cond.code yX7_raise cX7_raise 5 (some .int), Cond.methodLink RX7 60 yX7_isRange, Cond.instanceMethod yX7_isRange, Cond.selects RX7 yX7_isRange yX7_isRange, Cond.code yX7_isRange cX7_isRange 3 (some .boolean), Cond.methodLink RX7 64 yX7_capped, Cond.static yX7_capped, Cond.code yX7_capped cX7_capped 1 (some .int), Cond.methodLink RX7 67 yX7_changed, Cond.instanceMethod yX7_changed, Cond.selects RX7 yX7_changed yX7_changed]
def wsL_law_r9 : List Cond := [Cond.code yX7_changed cX7_changed 5 (some .int), Cond.methodLink RL 32 yX6_reverse, Cond.instanceMethod yX6_reverse, Cond.selects RX6 yX6_reverse yX6_reverse, Cond.code yX6_reverse cX6_reverse 3 (some .int), Cond.methodLink RX6 90 yX0_mirror, Cond.instanceMethod yX0_mirror, Cond.selects RX0 yX0_mirror yX0_mirror, Cond.code yX0_mirror cX0_mirror 6 (some .int), Cond.methodLink RX0 34 yX0_exchange, Cond.instanceMethod yX0_exchange, Cond.selects RX0 yX0_exchange yX0_exchange, Cond.code yX0_exchange cX0_exchange 4 none, Cond.methodLink RL 35 yX7_reverse, Cond.instanceMethod yX7_reverse, Cond.selects RX7 yX7_reverse yX7_reverse, Cond.code yX7_reverse cX7_reverse 4 (some .int), Cond.methodLink RL 36 yX6_sort, Cond.instanceMethod yX6_sort, Cond.selects RX6 yX6_sort yX6_sort, Cond.code yX6_sort cX6_sort 4 (some .int), Cond.methodLink RX6 94 yX0_arrange, Cond.instanceMethod yX0_arrange, Cond.selects RX0 yX0_arrange yX0_arrange]
def wsL_law_r10 : List Cond := [Cond.code yX0_arrange cX0_arrange 7 (some .int), Cond.methodLink RX0 38 yX0_isWrong, Cond.static yX0_isWrong, Cond.code yX0_isWrong cX0_isWrong 3 (some .boolean), Cond.methodLink RL 39 yX7_sort, Cond.instanceMethod yX7_sort, Cond.selects RX7 yX7_sort yX7_sort, Cond.code yX7_sort cX7_sort 8 (some .int), Cond.methodLink RL 40 yX6_freeze, Cond.instanceMethod yX6_freeze, Cond.selects RX6 yX6_freeze yX6_freeze, Cond.code yX6_freeze cX6_freeze 3 (some .int), Cond.methodLink RX6 98 yX6_pourAll, Cond.instanceMethod yX6_pourAll, Cond.selects RX6 yX6_pourAll yX6_pourAll, Cond.code yX6_pourAll cX6_pourAll 1 (some .int), Cond.methodLink RX6 203 yX5_pour, Cond.instanceMethod yX5_pour, Cond.selects RX5 yX5_pour yX5_pour, Cond.code yX5_pour cX5_pour 7 (some .int), Cond.methodLink RX5 15 Lib.Math.max.name, Cond.methodLink RX5 21 Lib.Math.min.name, Cond.methodLink RL 44 yX7_freeze, Cond.instanceMethod yX7_freeze]
def wsL_law_r11 : List Cond := [Cond.selects RX7 yX7_freeze yX7_freeze, Cond.code yX7_freeze cX7_freeze 3 (some .int), Cond.methodLink RX7 71 yX7_water, Cond.instanceMethod yX7_water, Cond.selects RX7 yX7_water yX7_water, Cond.code yX7_water cX7_water 5 (some .int), Cond.methodLink RX7 74 yX7_depth, Cond.instanceMethod yX7_depth, Cond.selects RX7 yX7_depth yX7_depth, Cond.code yX7_depth cX7_depth 6 (some .int), Cond.methodLink RX7 78 yX7_greatest, Cond.instanceMethod yX7_greatest, Cond.selects RX7 yX7_greatest yX7_greatest, Cond.code yX7_greatest cX7_greatest 5 (some .int), Cond.methodLink RL 45 yX6_clear, Cond.instanceMethod yX6_clear, Cond.selects RX6 yX6_clear yX6_clear, Cond.code yX6_clear cX6_clear 2 (some .int), Cond.methodLink RL 48 yX7_clear, Cond.instanceMethod yX7_clear, Cond.selects RX7 yX7_clear yX7_clear, Cond.code yX7_clear cX7_clear 1 (some .int), Cond.methodLink RL 49 yX6_undo, Cond.instanceMethod yX6_undo]
def wsL_law_r12 : List Cond := [Cond.selects RX6 yX6_undo yX6_undo, Cond.code yX6_undo cX6_undo 1 (some .int), Cond.methodLink RX6 108 yX1_restore, Cond.instanceMethod yX1_restore, Cond.selects RX1 yX1_restore yX1_restore, Cond.code yX1_restore cX1_restore 2 none, Cond.methodLink RL 52 yX7_undo, Cond.instanceMethod yX7_undo, Cond.selects RX7 yX7_undo yX7_undo, Cond.code yX7_undo cX7_undo 2 (some .int), Cond.methodLink RL 53 yX6_told, Cond.instanceMethod yX6_told, Cond.selects RX6 yX6_told yX6_told, Cond.code yX6_told cX6_told 2 (some .int), Cond.methodLink RX6 111 yX6_sumOf, Cond.static yX6_sumOf, Cond.code yX6_sumOf cX6_sumOf 5 (some .int), Cond.methodLink RX6 115 yX0_greatestHeight, Cond.instanceMethod yX0_greatestHeight, Cond.selects RX0 yX0_greatestHeight yX0_greatestHeight, Cond.code yX0_greatestHeight cX0_greatestHeight 1 (some .int), Cond.static yX6_lowestGreatest, Cond.code yX6_lowestGreatest cX6_lowestGreatest 5 (some .int), Cond.methodLink RX6 118 yX6_countPools]
def wsL_law_r13 : List Cond := [Cond.instanceMethod yX6_countPools, Cond.selects RX6 yX6_countPools yX6_countPools, Cond.code yX6_countPools cX6_countPools 1 (some .int), Cond.methodLink RX6 218 yX5_poolCount, Cond.instanceMethod yX5_poolCount, Cond.selects RX5 yX5_poolCount yX5_poolCount, Cond.code yX5_poolCount cX5_poolCount 4 (some .int), Cond.methodLink RX5 24 yX5_startsPool, Cond.instanceMethod yX5_startsPool, Cond.selects RX5 yX5_startsPool yX5_startsPool, Cond.code yX5_startsPool cX5_startsPool 2 (some .boolean), Cond.methodLink RX6 121 yX6_countRectangles, Cond.instanceMethod yX6_countRectangles, Cond.selects RX6 yX6_countRectangles yX6_countRectangles, Cond.code yX6_countRectangles cX6_countRectangles 1 (some .int), Cond.methodLink RX6 177 yX3_find, Cond.instanceMethod yX3_find, Cond.selects RX3 yX3_find yX3_find, Cond.code yX3_find cX3_find 5 none, Cond.methodLink RX3 28 yX3_findOwnedBy, Cond.instanceMethod yX3_findOwnedBy, Cond.selects RX3 yX3_findOwnedBy yX3_findOwnedBy, Cond.code yX3_findOwnedBy cX3_findOwnedBy 7 none, Cond.methodLink RX3 36 yX3_place]
def wsL_law_r14 : List Cond := [Cond.instanceMethod yX3_place, Cond.selects RX3 yX3_place yX3_place, Cond.code yX3_place cX3_place 6 none, Cond.methodLink RX3 40 yX3_comesBefore, Cond.instanceMethod yX3_comesBefore, Cond.selects RX3 yX3_comesBefore yX3_comesBefore, Cond.code yX3_comesBefore cX3_comesBefore 6 (some .boolean), Cond.methodLink RX3 32 yX3_area, Cond.instanceMethod yX3_area, Cond.selects RX3 yX3_area yX3_area, Cond.code yX3_area cX3_area 2 (some .int), Cond.methodLink RX6 124 yX0_countSeen, Cond.instanceMethod yX0_countSeen, Cond.selects RX0 yX0_countSeen yX0_countSeen, Cond.code yX0_countSeen cX0_countSeen 6 (some .int), Cond.methodLink RX6 128 yX6_greatestTreeDepth, Cond.instanceMethod yX6_greatestTreeDepth, Cond.selects RX6 yX6_greatestTreeDepth yX6_greatestTreeDepth, Cond.code yX6_greatestTreeDepth cX6_greatestTreeDepth 3 (some .int), Cond.methodLink RX6 230 Lib.Math.max.name, Cond.methodLink RX6 221 yX4_grow, Cond.instanceMethod yX4_grow, Cond.selects RX4 yX4_grow yX4_grow, Cond.code yX4_grow cX4_grow 5 none]
def wsL_law_r15 : List Cond := [Cond.methodLink RX6 227 yX4_depthOf, Cond.instanceMethod yX4_depthOf, Cond.selects RX4 yX4_depthOf yX4_depthOf, Cond.code yX4_depthOf cX4_depthOf 4 (some .int), Cond.methodLink RX6 131 yX0_countRises, Cond.instanceMethod yX0_countRises, Cond.selects RX0 yX0_countRises yX0_countRises, Cond.code yX0_countRises cX0_countRises 4 (some .int), Cond.methodLink RX6 134 yX2_countStrokes, Cond.instanceMethod yX2_countStrokes, Cond.selects RX2 yX2_countStrokes yX2_countStrokes, Cond.code yX2_countStrokes cX2_countStrokes 3 (some .int), Cond.methodLink RX2 15 yJ7_fill_53178, Cond.static yJ7_fill_53178, Cond.initialized RJ7, Cond.code yJ7_fill_53178 cJ7_fill_53178 4 none, Cond.methodLink RX2 21 yX0_greatestHeight, Cond.methodLink RX2 27 yX2_paintRow, Cond.instanceMethod yX2_paintRow, Cond.selects RX2 yX2_paintRow yX2_paintRow, Cond.code yX2_paintRow cX2_paintRow 5 none, Cond.methodLink RX2 42 yX2_paintRun, Cond.instanceMethod yX2_paintRun, Cond.selects RX2 yX2_paintRun yX2_paintRun]
def wsL_law_r16 : List Cond := [Cond.code yX2_paintRun cX2_paintRun 4 none, Cond.methodLink RX2 49 Lib.Math.min.name, Cond.methodLink RX2 46 yJ7_fill_fda19, Cond.static yJ7_fill_fda19, Cond.code yJ7_fill_fda19 cJ7_fill_fda19 5 none, Cond.methodLink RJ7 13 yJ7_rangeCheck_23922, Cond.static yJ7_rangeCheck_23922, Cond.code yJ7_rangeCheck_23922 cJ7_rangeCheck_23922 3 none, Cond.methodLink RL 56 yX7_told, Cond.instanceMethod yX7_told, Cond.selects RX7 yX7_told yX7_told, Cond.code yX7_told cX7_told 2 (some .int), Cond.methodLink RX7 115 yX7_sum, Cond.instanceMethod yX7_sum, Cond.selects RX7 yX7_sum yX7_sum, Cond.code yX7_sum cX7_sum 5 (some .int), Cond.methodLink RX7 118 yX7_pools, Cond.instanceMethod yX7_pools, Cond.selects RX7 yX7_pools yX7_pools, Cond.code yX7_pools cX7_pools 3 (some .int), Cond.methodLink RX7 84 yX7_beginsPool, Cond.instanceMethod yX7_beginsPool, Cond.selects RX7 yX7_beginsPool yX7_beginsPool, Cond.code yX7_beginsPool cX7_beginsPool 2 (some .boolean)]
def wsL_law_r17 : List Cond := [Cond.methodLink RX7 81 yX7_isWet, Cond.instanceMethod yX7_isWet, Cond.selects RX7 yX7_isWet yX7_isWet, Cond.code yX7_isWet cX7_isWet 2 (some .boolean), Cond.methodLink RX7 121 yX7_layRectangles, Cond.instanceMethod yX7_layRectangles, Cond.selects RX7 yX7_layRectangles yX7_layRectangles, Cond.code yX7_layRectangles cX7_layRectangles 6 (some .int), Cond.methodLink RX7 90 yX7_isMaximal, Cond.instanceMethod yX7_isMaximal, Cond.selects RX7 yX7_isMaximal yX7_isMaximal, Cond.code yX7_isMaximal cX7_isMaximal 6 (some .boolean), Cond.methodLink RX7 87 yX7_least, Cond.instanceMethod yX7_least, Cond.selects RX7 yX7_least yX7_least, Cond.code yX7_least cX7_least 5 (some .int), Cond.methodLink RX7 93 yX7_area, Cond.instanceMethod yX7_area, Cond.selects RX7 yX7_area yX7_area, Cond.code yX7_area cX7_area 3 (some .int), Cond.methodLink RX7 124 yX7_standing, Cond.instanceMethod yX7_standing, Cond.selects RX7 yX7_standing yX7_standing, Cond.code yX7_standing cX7_standing 5 (some .int)]
def wsL_law_r18 : List Cond := [Cond.methodLink RX7 128 yX7_deepest, Cond.instanceMethod yX7_deepest, Cond.selects RX7 yX7_deepest yX7_deepest, Cond.code yX7_deepest cX7_deepest 4 (some .int), Cond.methodLink RX7 105 yX7_treeDepth, Cond.instanceMethod yX7_treeDepth, Cond.selects RX7 yX7_treeDepth yX7_treeDepth, Cond.code yX7_treeDepth cX7_treeDepth 6 (some .int), Cond.fieldLink RX7 99 "HistogramStairsModel" "parent" "I", Cond.methodLink RX7 102 yX7_rootOf, Cond.instanceMethod yX7_rootOf, Cond.selects RX7 yX7_rootOf yX7_rootOf, Cond.code yX7_rootOf cX7_rootOf 3 (some .int), Cond.methodLink RX7 96 yX7_firstWith, Cond.instanceMethod yX7_firstWith, Cond.selects RX7 yX7_firstWith yX7_firstWith, Cond.code yX7_firstWith cX7_firstWith 4 (some .int), Cond.methodLink RX7 131 yX7_horizontal, Cond.instanceMethod yX7_horizontal, Cond.selects RX7 yX7_horizontal yX7_horizontal, Cond.code yX7_horizontal cX7_horizontal 4 (some .int), Cond.methodLink RX7 134 yX7_strokes, Cond.instanceMethod yX7_strokes, Cond.selects RX7 yX7_strokes yX7_strokes]
def wsL_law_r19 : List Cond := [Cond.code yX7_strokes cX7_strokes 3 (some .int), Cond.methodLink RX7 111 yX7_layLevel, Cond.instanceMethod yX7_layLevel, Cond.selects RX7 yX7_layLevel yX7_layLevel, Cond.code yX7_layLevel cX7_layLevel 6 none, Cond.methodLink RX7 108 yX7_endAbove, Cond.instanceMethod yX7_endAbove, Cond.selects RX7 yX7_endAbove yX7_endAbove, Cond.code yX7_endAbove cX7_endAbove 4 (some .int), Cond.methodLink RL 57 yX6_column, Cond.instanceMethod yX6_column, Cond.selects RX6 yX6_column yX6_column, Cond.code yX6_column cX6_column 3 (some .int), Cond.methodLink RX6 138 yX0_smallerToLeft, Cond.instanceMethod yX0_smallerToLeft, Cond.selects RX0 yX0_smallerToLeft yX0_smallerToLeft, Cond.code yX0_smallerToLeft cX0_smallerToLeft 3 (some .int), Cond.methodLink RX6 141 yX0_smallerToRight, Cond.instanceMethod yX0_smallerToRight, Cond.selects RX0 yX0_smallerToRight yX0_smallerToRight, Cond.code yX0_smallerToRight cX0_smallerToRight 3 (some .int), Cond.methodLink RX6 144 yX0_greaterToLeft, Cond.instanceMethod yX0_greaterToLeft, Cond.selects RX0 yX0_greaterToLeft yX0_greaterToLeft]
def wsL_law_r20 : List Cond := [Cond.code yX0_greaterToLeft cX0_greaterToLeft 3 (some .int), Cond.methodLink RX6 147 yX0_greaterToRight, Cond.instanceMethod yX0_greaterToRight, Cond.selects RX0 yX0_greaterToRight yX0_greaterToRight, Cond.code yX0_greaterToRight cX0_greaterToRight 3 (some .int), Cond.methodLink RX6 150 yX6_depthOfWater, Cond.instanceMethod yX6_depthOfWater, Cond.selects RX6 yX6_depthOfWater yX6_depthOfWater, Cond.code yX6_depthOfWater cX6_depthOfWater 2 (some .int), Cond.methodLink RX6 153 yX6_treeParent, Cond.instanceMethod yX6_treeParent, Cond.selects RX6 yX6_treeParent yX6_treeParent, Cond.code yX6_treeParent cX6_treeParent 2 (some .int), Cond.methodLink RX6 156 yX6_treeDepth, Cond.instanceMethod yX6_treeDepth, Cond.selects RX6 yX6_treeDepth yX6_treeDepth, Cond.code yX6_treeDepth cX6_treeDepth 2 (some .int), Cond.methodLink RX6 159 yX0_span, Cond.instanceMethod yX0_span, Cond.selects RX0 yX0_span yX0_span, Cond.code yX0_span cX0_span 6 (some .int), Cond.methodLink RX0 46 yX0_smallerToLeft, Cond.methodLink RX0 50 yX0_smallerToRight, Cond.methodLink RX6 162 yX0_stairLength]
def wsL_law_r21 : List Cond := [Cond.instanceMethod yX0_stairLength, Cond.selects RX0 yX0_stairLength yX0_stairLength, Cond.code yX0_stairLength cX0_stairLength 5 (some .int), Cond.methodLink RL 60 yX7_column, Cond.instanceMethod yX7_column, Cond.selects RX7 yX7_column yX7_column, Cond.code yX7_column cX7_column 3 (some .int), Cond.methodLink RX7 137 yX7_nearest, Cond.instanceMethod yX7_nearest, Cond.selects RX7 yX7_nearest yX7_nearest, Cond.code yX7_nearest cX7_nearest 5 (some .int), Cond.methodLink RX7 141 yX7_parentOf, Cond.instanceMethod yX7_parentOf, Cond.selects RX7 yX7_parentOf yX7_parentOf, Cond.code yX7_parentOf cX7_parentOf 3 (some .int), Cond.methodLink RX7 144 yX7_reach, Cond.instanceMethod yX7_reach, Cond.selects RX7 yX7_reach yX7_reach, Cond.code yX7_reach cX7_reach 4 (some .int), Cond.methodLink RX7 147 yX7_stairLength, Cond.instanceMethod yX7_stairLength, Cond.selects RX7 yX7_stairLength yX7_stairLength, Cond.code yX7_stairLength cX7_stairLength 4 (some .int), Cond.methodLink RL 61 yX6_stair]
def wsL_law_r22 : List Cond := [Cond.instanceMethod yX6_stair, Cond.selects RX6 yX6_stair yX6_stair, Cond.code yX6_stair cX6_stair 3 (some .int), Cond.methodLink RX6 165 yX0_stairStep, Cond.instanceMethod yX0_stairStep, Cond.selects RX0 yX0_stairStep yX0_stairStep, Cond.code yX0_stairStep cX0_stairStep 6 (some .int), Cond.methodLink RL 64 yX7_stair, Cond.instanceMethod yX7_stair, Cond.selects RX7 yX7_stair yX7_stair, Cond.code yX7_stair cX7_stair 5 (some .int), Cond.methodLink RL 65 yX6_range, Cond.instanceMethod yX6_range, Cond.selects RX6 yX6_range yX6_range, Cond.code yX6_range cX6_range 5 (some .int), Cond.methodLink RX6 168 yX6_lowestLeast, Cond.static yX6_lowestLeast, Cond.code yX6_lowestLeast cX6_lowestLeast 5 (some .int), Cond.methodLink RX6 171 yX6_lowestGreatest, Cond.methodLink RX6 174 yX6_largestRectangle, Cond.instanceMethod yX6_largestRectangle, Cond.selects RX6 yX6_largestRectangle yX6_largestRectangle, Cond.code yX6_largestRectangle cX6_largestRectangle 4 (some .int), Cond.methodLink RX6 189 yX3_property]
def wsL_law_r23 : List Cond := [Cond.instanceMethod yX3_property, Cond.selects RX3 yX3_property yX3_property, Cond.code yX3_property cX3_property 3 (some .int), Cond.methodLink RL 68 yX7_range, Cond.instanceMethod yX7_range, Cond.selects RX7 yX7_range yX7_range, Cond.code yX7_range cX7_range 4 (some .int), Cond.methodLink RX7 150 yX7_largest, Cond.instanceMethod yX7_largest, Cond.selects RX7 yX7_largest yX7_largest, Cond.code yX7_largest cX7_largest 9 (some .int), Cond.methodLink RL 69 yX6_rectangle, Cond.instanceMethod yX6_rectangle, Cond.selects RX6 yX6_rectangle yX6_rectangle, Cond.code yX6_rectangle cX6_rectangle 3 (some .int), Cond.methodLink RX6 182 yX3_countOwners, Cond.instanceMethod yX3_countOwners, Cond.selects RX3 yX3_countOwners yX3_countOwners, Cond.code yX3_countOwners cX3_countOwners 5 (some .int), Cond.methodLink RL 72 yX7_rectangle, Cond.instanceMethod yX7_rectangle, Cond.selects RX7 yX7_rectangle yX7_rectangle, Cond.code yX7_rectangle cX7_rectangle 4 (some .int), Cond.methodLink RX7 153 yX7_owners]
def wsL_law_r24 : List Cond := [Cond.instanceMethod yX7_owners, Cond.selects RX7 yX7_owners yX7_owners, Cond.code yX7_owners cX7_owners 4 (some .int), Cond.methodLink RL 73 yX6_container, Cond.instanceMethod yX6_container, Cond.selects RX6 yX6_container yX6_container, Cond.code yX6_container cX6_container 8 (some .int), Cond.methodLink RX6 192 Lib.Math.min.name, Cond.methodLink RL 76 yX7_container, Cond.instanceMethod yX7_container, Cond.selects RX7 yX7_container yX7_container, Cond.code yX7_container cX7_container 8 (some .int), Cond.methodLink RL 77 yX6_pool, Cond.instanceMethod yX6_pool, Cond.selects RX6 yX6_pool yX6_pool, Cond.code yX6_pool cX6_pool 5 (some .int), Cond.methodLink RX6 197 yX5_poolStart, Cond.instanceMethod yX5_poolStart, Cond.selects RX5 yX5_poolStart yX5_poolStart, Cond.code yX5_poolStart cX5_poolStart 5 (some .int), Cond.methodLink RX6 200 yX5_poolEnd, Cond.instanceMethod yX5_poolEnd, Cond.selects RX5 yX5_poolEnd yX5_poolEnd, Cond.code yX5_poolEnd cX5_poolEnd 4 (some .int)]
def wsL_law_r25 : List Cond := [Cond.methodLink RL 80 yX7_pool, Cond.instanceMethod yX7_pool, Cond.selects RX7 yX7_pool yX7_pool, Cond.code yX7_pool cX7_pool 8 (some .int), Cond.methodLink RX7 156 yX7_poolBegin, Cond.instanceMethod yX7_poolBegin, Cond.selects RX7 yX7_poolBegin yX7_poolBegin, Cond.code yX7_poolBegin cX7_poolBegin 4 (some .int), Cond.methodLink RL 81 yX6_drained, Cond.instanceMethod yX6_drained, Cond.selects RX6 yX6_drained yX6_drained, Cond.code yX6_drained cX6_drained 4 (some .int), Cond.methodLink RL 84 yX7_drained, Cond.instanceMethod yX7_drained, Cond.selects RX7 yX7_drained yX7_drained, Cond.code yX7_drained cX7_drained 2 (some .int), Cond.methodLink RL 85 yX6_dam, Cond.instanceMethod yX6_dam, Cond.selects RX6 yX6_dam yX6_dam, Cond.code yX6_dam cX6_dam 7 (some .int), Cond.methodLink RX6 206 yX6_waterWithDam, Cond.instanceMethod yX6_waterWithDam, Cond.selects RX6 yX6_waterWithDam yX6_waterWithDam, Cond.code yX6_waterWithDam cX6_waterWithDam 5 (some .int)]
def wsL_law_r26 : List Cond := [Cond.methodLink RL 88 yX7_dam, Cond.instanceMethod yX7_dam, Cond.selects RX7 yX7_dam yX7_dam, Cond.code yX7_dam cX7_dam 8 (some .int), Cond.methodLink RL 89 yX6_sumOfMinima, Cond.instanceMethod yX6_sumOfMinima, Cond.selects RX6 yX6_sumOfMinima yX6_sumOfMinima, Cond.code yX6_sumOfMinima cX6_sumOfMinima 5 (some .int), Cond.methodLink RL 92 yX7_sumOfMinima, Cond.instanceMethod yX7_sumOfMinima, Cond.selects RX7 yX7_sumOfMinima yX7_sumOfMinima, Cond.code yX7_sumOfMinima cX7_sumOfMinima 4 (some .int), Cond.methodLink RL 93 yX6_ranges, Cond.instanceMethod yX6_ranges, Cond.selects RX6 yX6_ranges yX6_ranges, Cond.code yX6_ranges cX6_ranges 5 (some .int), Cond.methodLink RL 96 yX7_ranges, Cond.instanceMethod yX7_ranges, Cond.selects RX7 yX7_ranges yX7_ranges, Cond.code yX7_ranges cX7_ranges 5 (some .int), Cond.methodLink RL 97 yX6_keep, Cond.instanceMethod yX6_keep, Cond.selects RX6 yX6_keep yX6_keep, Cond.code yX6_keep cX6_keep 3 (some .int)]
def wsL_law_r27 : List Cond := [Cond.methodLink RX6 209 yX6_isImage, Cond.static yX6_isImage, Cond.code yX6_isImage cX6_isImage 1 (some .boolean), Cond.methodLink RX6 212 yX0_copyFrom, Cond.methodLink RL 100 yX7_keep, Cond.instanceMethod yX7_keep, Cond.selects RX7 yX7_keep yX7_keep, Cond.code yX7_keep cX7_keep 3 (some .int), Cond.fieldLink RX7 162 "HistogramStairsModel" "filled" "I", Cond.methodLink RX7 159 yX7_isImage, Cond.static yX7_isImage, Cond.code yX7_isImage cX7_isImage 1 (some .boolean), Cond.methodLink RL 101 yX6_back, Cond.instanceMethod yX6_back, Cond.selects RX6 yX6_back yX6_back, Cond.code yX6_back cX6_back 3 (some .int), Cond.methodLink RL 104 yX7_back, Cond.instanceMethod yX7_back, Cond.selects RX7 yX7_back yX7_back, Cond.code yX7_back cX7_back 3 (some .int), Cond.methodLink RX7 165 yX7_isKept, Cond.instanceMethod yX7_isKept, Cond.selects RX7 yX7_isKept yX7_isKept, Cond.code yX7_isKept cX7_isKept 2 (some .boolean)]
def wsL_law_r28 : List Cond := [Cond.methodLink RL 105 yX6_parting, Cond.instanceMethod yX6_parting, Cond.selects RX6 yX6_parting yX6_parting, Cond.code yX6_parting cX6_parting 3 (some .int), Cond.methodLink RX6 215 yX0_firstDifference, Cond.instanceMethod yX0_firstDifference, Cond.selects RX0 yX0_firstDifference yX0_firstDifference, Cond.code yX0_firstDifference cX0_firstDifference 4 (some .int), Cond.methodLink RL 108 yX7_parting, Cond.instanceMethod yX7_parting, Cond.selects RX7 yX7_parting yX7_parting, Cond.code yX7_parting cX7_parting 4 (some .int)]
def wsL_law : List Cond := (wsL_law_r1 ++ (wsL_law_r2 ++ (wsL_law_r3 ++ (wsL_law_r4 ++ (wsL_law_r5 ++ (wsL_law_r6 ++ (wsL_law_r7 ++ (wsL_law_r8 ++ (wsL_law_r9 ++ (wsL_law_r10 ++ (wsL_law_r11 ++ (wsL_law_r12 ++ (wsL_law_r13 ++ (wsL_law_r14 ++ (wsL_law_r15 ++ (wsL_law_r16 ++ (wsL_law_r17 ++ (wsL_law_r18 ++ (wsL_law_r19 ++ (wsL_law_r20 ++ (wsL_law_r21 ++ (wsL_law_r22 ++ (wsL_law_r23 ++ (wsL_law_r24 ++ (wsL_law_r25 ++ (wsL_law_r26 ++ (wsL_law_r27 ++ wsL_law_r28))))))))))))))))))))))))))) ++ wsX60 ++ wsX70 ++ wsX00 ++ wsX10 ++ wsX50 ++ wsX30 ++ wsX40 ++ wsX20 ++ ([] : List Cond)
theorem inlX0 : ∀ w ∈ wsX00, w ∈ wsL_law := fun _ h => List.mem_append_left _ (List.mem_append_left _ (List.mem_append_left _ (List.mem_append_left _ (List.mem_append_left _ (List.mem_append_left _ (List.mem_append_right _ h))))))
theorem inlX1 : ∀ w ∈ wsX10, w ∈ wsL_law := fun _ h => List.mem_append_left _ (List.mem_append_left _ (List.mem_append_left _ (List.mem_append_left _ (List.mem_append_left _ (List.mem_append_right _ h)))))
theorem inlX2 : ∀ w ∈ wsX20, w ∈ wsL_law := fun _ h => List.mem_append_left _ (List.mem_append_right _ h)
theorem inlX3 : ∀ w ∈ wsX30, w ∈ wsL_law := fun _ h => List.mem_append_left _ (List.mem_append_left _ (List.mem_append_left _ (List.mem_append_right _ h)))
theorem inlX4 : ∀ w ∈ wsX40, w ∈ wsL_law := fun _ h => List.mem_append_left _ (List.mem_append_left _ (List.mem_append_right _ h))
theorem inlX5 : ∀ w ∈ wsX50, w ∈ wsL_law := fun _ h => List.mem_append_left _ (List.mem_append_left _ (List.mem_append_left _ (List.mem_append_left _ (List.mem_append_right _ h))))
theorem inlX6 : ∀ w ∈ wsX60, w ∈ wsL_law := fun _ h => List.mem_append_left _ (List.mem_append_left _ (List.mem_append_left _ (List.mem_append_left _ (List.mem_append_left _ (List.mem_append_left _ (List.mem_append_left _ (List.mem_append_left _ (List.mem_append_right _ h))))))))
theorem inlX7 : ∀ w ∈ wsX70, w ∈ wsL_law := fun _ h => List.mem_append_left _ (List.mem_append_left _ (List.mem_append_left _ (List.mem_append_left _ (List.mem_append_left _ (List.mem_append_left _ (List.mem_append_left _ (List.mem_append_right _ h)))))))
end
section
theorem inJ10 : ∀ w ∈ wsJ100, w ∈ lw_tbl := by decide +kernel
theorem inJ7 : ∀ w ∈ wsJ70, w ∈ lw_tbl := by decide +kernel
theorem dX0_init_0 : decode cX0_init 0 = .ok (.aload_n 0, 1) := by decide +kernel
theorem dX0_init_1 : decode cX0_init 1 = .ok (.invokespecial 3, 3) := by decide +kernel
theorem dX0_init_4 : decode cX0_init 4 = .ok (.aload_n 0, 1) := by decide +kernel
theorem dX0_init_5 : decode cX0_init 5 = .ok (.bipush 40, 2) := by decide +kernel
theorem dX0_init_7 : decode cX0_init 7 = .ok (.newarray .int, 2) := by decide +kernel
theorem dX0_init_9 : decode cX0_init 9 = .ok (.putfield 9, 3) := by decide +kernel
theorem dX0_init_12 : decode cX0_init 12 = .ok (.aload_n 0, 1) := by decide +kernel
theorem dX0_init_13 : decode cX0_init 13 = .ok (.iconst 0, 1) := by decide +kernel
theorem dX0_init_14 : decode cX0_init 14 = .ok (.putfield 15, 3) := by decide +kernel
theorem dX0_init_17 : decode cX0_init 17 = .ok (.return_, 1) := by decide +kernel
theorem dX0_copyFrom_0 : decode cX0_copyFrom 0 = .ok (.aload_n 1, 1) := by decide +kernel
theorem dX0_copyFrom_1 : decode cX0_copyFrom 1 = .ok (.getfield 9, 3) := by decide +kernel
theorem dX0_copyFrom_4 : decode cX0_copyFrom 4 = .ok (.iconst 0, 1) := by decide +kernel
theorem dX0_copyFrom_5 : decode cX0_copyFrom 5 = .ok (.aload_n 0, 1) := by decide +kernel
theorem dX0_copyFrom_6 : decode cX0_copyFrom 6 = .ok (.getfield 9, 3) := by decide +kernel
theorem dX0_copyFrom_9 : decode cX0_copyFrom 9 = .ok (.iconst 0, 1) := by decide +kernel
theorem dX0_copyFrom_10 : decode cX0_copyFrom 10 = .ok (.aload_n 1, 1) := by decide +kernel
theorem dX0_copyFrom_11 : decode cX0_copyFrom 11 = .ok (.getfield 15, 3) := by decide +kernel
theorem dX0_copyFrom_14 : decode cX0_copyFrom 14 = .ok (.invokestatic 19, 3) := by decide +kernel
theorem dX0_copyFrom_17 : decode cX0_copyFrom 17 = .ok (.aload_n 0, 1) := by decide +kernel
theorem dX0_copyFrom_18 : decode cX0_copyFrom 18 = .ok (.aload_n 1, 1) := by decide +kernel
theorem dX0_copyFrom_19 : decode cX0_copyFrom 19 = .ok (.getfield 15, 3) := by decide +kernel
theorem dX0_copyFrom_22 : decode cX0_copyFrom 22 = .ok (.putfield 15, 3) := by decide +kernel
theorem dX0_copyFrom_25 : decode cX0_copyFrom 25 = .ok (.return_, 1) := by decide +kernel
theorem dX0_has_0 : decode cX0_has 0 = .ok (.iload_n 1, 1) := by decide +kernel
theorem dX0_has_1 : decode cX0_has 1 = .ok (.ifCond .lt 15, 3) := by decide +kernel
theorem dX0_has_4 : decode cX0_has 4 = .ok (.iload_n 1, 1) := by decide +kernel
theorem dX0_has_5 : decode cX0_has 5 = .ok (.aload_n 0, 1) := by decide +kernel
theorem dX0_has_6 : decode cX0_has 6 = .ok (.getfield 15, 3) := by decide +kernel
theorem dX0_has_9 : decode cX0_has 9 = .ok (.if_icmp .ge 7, 3) := by decide +kernel
theorem dX0_has_12 : decode cX0_has 12 = .ok (.iconst 1, 1) := by decide +kernel
theorem dX0_has_13 : decode cX0_has 13 = .ok (.goto 4, 3) := by decide +kernel
theorem dX0_has_16 : decode cX0_has 16 = .ok (.iconst 0, 1) := by decide +kernel
theorem dX0_has_17 : decode cX0_has 17 = .ok (.ireturn, 1) := by decide +kernel
theorem dX0_hasRange_0 : decode cX0_hasRange 0 = .ok (.iload_n 1, 1) := by decide +kernel
theorem dX0_hasRange_1 : decode cX0_hasRange 1 = .ok (.ifCond .lt 20, 3) := by decide +kernel
theorem dX0_hasRange_4 : decode cX0_hasRange 4 = .ok (.iload_n 1, 1) := by decide +kernel
theorem dX0_hasRange_5 : decode cX0_hasRange 5 = .ok (.iload_n 2, 1) := by decide +kernel
theorem dX0_hasRange_6 : decode cX0_hasRange 6 = .ok (.if_icmp .gt 15, 3) := by decide +kernel
theorem dX0_hasRange_9 : decode cX0_hasRange 9 = .ok (.iload_n 2, 1) := by decide +kernel
theorem dX0_hasRange_10 : decode cX0_hasRange 10 = .ok (.aload_n 0, 1) := by decide +kernel
theorem dX0_hasRange_11 : decode cX0_hasRange 11 = .ok (.getfield 15, 3) := by decide +kernel
theorem dX0_hasRange_14 : decode cX0_hasRange 14 = .ok (.if_icmp .ge 7, 3) := by decide +kernel
theorem dX0_hasRange_17 : decode cX0_hasRange 17 = .ok (.iconst 1, 1) := by decide +kernel
theorem dX0_hasRange_18 : decode cX0_hasRange 18 = .ok (.goto 4, 3) := by decide +kernel
theorem dX0_hasRange_21 : decode cX0_hasRange 21 = .ok (.iconst 0, 1) := by decide +kernel
theorem dX0_hasRange_22 : decode cX0_hasRange 22 = .ok (.ireturn, 1) := by decide +kernel
theorem dX0_putIn_0 : decode cX0_putIn 0 = .ok (.aload_n 0, 1) := by decide +kernel
theorem dX0_putIn_1 : decode cX0_putIn 1 = .ok (.getfield 9, 3) := by decide +kernel
theorem dX0_putIn_4 : decode cX0_putIn 4 = .ok (.iload_n 1, 1) := by decide +kernel
theorem dX0_putIn_5 : decode cX0_putIn 5 = .ok (.aload_n 0, 1) := by decide +kernel
theorem dX0_putIn_6 : decode cX0_putIn 6 = .ok (.getfield 9, 3) := by decide +kernel
theorem dX0_putIn_9 : decode cX0_putIn 9 = .ok (.iload_n 1, 1) := by decide +kernel
theorem dX0_putIn_10 : decode cX0_putIn 10 = .ok (.iconst 1, 1) := by decide +kernel
theorem dX0_putIn_11 : decode cX0_putIn 11 = .ok (.iadd, 1) := by decide +kernel
theorem dX0_putIn_12 : decode cX0_putIn 12 = .ok (.aload_n 0, 1) := by decide +kernel
theorem dX0_putIn_13 : decode cX0_putIn 13 = .ok (.getfield 15, 3) := by decide +kernel
theorem dX0_putIn_16 : decode cX0_putIn 16 = .ok (.iload_n 1, 1) := by decide +kernel
theorem dX0_putIn_17 : decode cX0_putIn 17 = .ok (.isub, 1) := by decide +kernel
theorem dX0_putIn_18 : decode cX0_putIn 18 = .ok (.invokestatic 19, 3) := by decide +kernel
theorem dX0_putIn_21 : decode cX0_putIn 21 = .ok (.aload_n 0, 1) := by decide +kernel
theorem dX0_putIn_22 : decode cX0_putIn 22 = .ok (.getfield 9, 3) := by decide +kernel
theorem dX0_putIn_25 : decode cX0_putIn 25 = .ok (.iload_n 1, 1) := by decide +kernel
theorem dX0_putIn_26 : decode cX0_putIn 26 = .ok (.iload_n 2, 1) := by decide +kernel
theorem dX0_putIn_27 : decode cX0_putIn 27 = .ok (.iastore, 1) := by decide +kernel
theorem dX0_putIn_28 : decode cX0_putIn 28 = .ok (.aload_n 0, 1) := by decide +kernel
theorem dX0_putIn_29 : decode cX0_putIn 29 = .ok (.dup, 1) := by decide +kernel
theorem dX0_putIn_30 : decode cX0_putIn 30 = .ok (.getfield 15, 3) := by decide +kernel
theorem dX0_putIn_33 : decode cX0_putIn 33 = .ok (.iconst 1, 1) := by decide +kernel
theorem dX0_putIn_34 : decode cX0_putIn 34 = .ok (.iadd, 1) := by decide +kernel
theorem dX0_putIn_35 : decode cX0_putIn 35 = .ok (.putfield 15, 3) := by decide +kernel
theorem dX0_putIn_38 : decode cX0_putIn 38 = .ok (.return_, 1) := by decide +kernel
theorem dX0_takeOut_0 : decode cX0_takeOut 0 = .ok (.aload_n 0, 1) := by decide +kernel
theorem dX0_takeOut_1 : decode cX0_takeOut 1 = .ok (.getfield 9, 3) := by decide +kernel
theorem dX0_takeOut_4 : decode cX0_takeOut 4 = .ok (.iload_n 1, 1) := by decide +kernel
theorem dX0_takeOut_5 : decode cX0_takeOut 5 = .ok (.iaload, 1) := by decide +kernel
theorem dX0_takeOut_6 : decode cX0_takeOut 6 = .ok (.istore_n 2, 1) := by decide +kernel
theorem dX0_takeOut_7 : decode cX0_takeOut 7 = .ok (.aload_n 0, 1) := by decide +kernel
theorem dX0_takeOut_8 : decode cX0_takeOut 8 = .ok (.getfield 9, 3) := by decide +kernel
theorem dX0_takeOut_11 : decode cX0_takeOut 11 = .ok (.iload_n 1, 1) := by decide +kernel
theorem dX0_takeOut_12 : decode cX0_takeOut 12 = .ok (.iconst 1, 1) := by decide +kernel
theorem dX0_takeOut_13 : decode cX0_takeOut 13 = .ok (.iadd, 1) := by decide +kernel
theorem dX0_takeOut_14 : decode cX0_takeOut 14 = .ok (.aload_n 0, 1) := by decide +kernel
theorem dX0_takeOut_15 : decode cX0_takeOut 15 = .ok (.getfield 9, 3) := by decide +kernel
theorem dX0_takeOut_18 : decode cX0_takeOut 18 = .ok (.iload_n 1, 1) := by decide +kernel
theorem dX0_takeOut_19 : decode cX0_takeOut 19 = .ok (.aload_n 0, 1) := by decide +kernel
theorem dX0_takeOut_20 : decode cX0_takeOut 20 = .ok (.getfield 15, 3) := by decide +kernel
theorem dX0_takeOut_23 : decode cX0_takeOut 23 = .ok (.iload_n 1, 1) := by decide +kernel
theorem dX0_takeOut_24 : decode cX0_takeOut 24 = .ok (.isub, 1) := by decide +kernel
theorem dX0_takeOut_25 : decode cX0_takeOut 25 = .ok (.iconst 1, 1) := by decide +kernel
theorem dX0_takeOut_26 : decode cX0_takeOut 26 = .ok (.isub, 1) := by decide +kernel
theorem dX0_takeOut_27 : decode cX0_takeOut 27 = .ok (.invokestatic 19, 3) := by decide +kernel
theorem dX0_takeOut_30 : decode cX0_takeOut 30 = .ok (.aload_n 0, 1) := by decide +kernel
theorem dX0_takeOut_31 : decode cX0_takeOut 31 = .ok (.dup, 1) := by decide +kernel
theorem dX0_takeOut_32 : decode cX0_takeOut 32 = .ok (.getfield 15, 3) := by decide +kernel
theorem dX0_takeOut_35 : decode cX0_takeOut 35 = .ok (.iconst 1, 1) := by decide +kernel
theorem dX0_takeOut_36 : decode cX0_takeOut 36 = .ok (.isub, 1) := by decide +kernel
theorem dX0_takeOut_37 : decode cX0_takeOut 37 = .ok (.putfield 15, 3) := by decide +kernel
theorem dX0_takeOut_40 : decode cX0_takeOut 40 = .ok (.iload_n 2, 1) := by decide +kernel
theorem dX0_takeOut_41 : decode cX0_takeOut 41 = .ok (.ireturn, 1) := by decide +kernel
theorem dX0_lift_0 : decode cX0_lift 0 = .ok (.iconst 0, 1) := by decide +kernel
theorem dX0_lift_1 : decode cX0_lift 1 = .ok (.istore 4, 2) := by decide +kernel
theorem dX0_lift_3 : decode cX0_lift 3 = .ok (.iload_n 1, 1) := by decide +kernel
theorem dX0_lift_4 : decode cX0_lift 4 = .ok (.istore 5, 2) := by decide +kernel
theorem dX0_lift_6 : decode cX0_lift 6 = .ok (.iload 5, 2) := by decide +kernel
theorem dX0_lift_8 : decode cX0_lift 8 = .ok (.iload_n 2, 1) := by decide +kernel
theorem dX0_lift_9 : decode cX0_lift 9 = .ok (.if_icmp .gt 53, 3) := by decide +kernel
theorem dX0_lift_12 : decode cX0_lift 12 = .ok (.iconst 0, 1) := by decide +kernel
theorem dX0_lift_13 : decode cX0_lift 13 = .ok (.aload_n 0, 1) := by decide +kernel
theorem dX0_lift_14 : decode cX0_lift 14 = .ok (.getfield 9, 3) := by decide +kernel
theorem dX0_lift_17 : decode cX0_lift 17 = .ok (.iload 5, 2) := by decide +kernel
theorem dX0_lift_19 : decode cX0_lift 19 = .ok (.iaload, 1) := by decide +kernel
theorem dX0_lift_20 : decode cX0_lift 20 = .ok (.iload_n 3, 1) := by decide +kernel
theorem dX0_lift_21 : decode cX0_lift 21 = .ok (.iadd, 1) := by decide +kernel
theorem dX0_lift_22 : decode cX0_lift 22 = .ok (.bipush 50, 2) := by decide +kernel
theorem dX0_lift_24 : decode cX0_lift 24 = .ok (.invokestatic 25, 3) := by decide +kernel
theorem dX0_lift_27 : decode cX0_lift 27 = .ok (.invokestatic 31, 3) := by decide +kernel
theorem dX0_lift_30 : decode cX0_lift 30 = .ok (.istore 6, 2) := by decide +kernel
theorem dX0_lift_32 : decode cX0_lift 32 = .ok (.iload 6, 2) := by decide +kernel
theorem dX0_lift_34 : decode cX0_lift 34 = .ok (.aload_n 0, 1) := by decide +kernel
theorem dX0_lift_35 : decode cX0_lift 35 = .ok (.getfield 9, 3) := by decide +kernel
theorem dX0_lift_38 : decode cX0_lift 38 = .ok (.iload 5, 2) := by decide +kernel
theorem dX0_lift_40 : decode cX0_lift 40 = .ok (.iaload, 1) := by decide +kernel
theorem dX0_lift_41 : decode cX0_lift 41 = .ok (.if_icmp .eq 15, 3) := by decide +kernel
theorem dX0_lift_44 : decode cX0_lift 44 = .ok (.aload_n 0, 1) := by decide +kernel
theorem dX0_lift_45 : decode cX0_lift 45 = .ok (.getfield 9, 3) := by decide +kernel
theorem dX0_lift_48 : decode cX0_lift 48 = .ok (.iload 5, 2) := by decide +kernel
theorem dX0_lift_50 : decode cX0_lift 50 = .ok (.iload 6, 2) := by decide +kernel
theorem dX0_lift_52 : decode cX0_lift 52 = .ok (.iastore, 1) := by decide +kernel
theorem dX0_lift_53 : decode cX0_lift 53 = .ok (.iinc 4 1, 3) := by decide +kernel
theorem dX0_lift_56 : decode cX0_lift 56 = .ok (.iinc 5 1, 3) := by decide +kernel
theorem dX0_lift_59 : decode cX0_lift 59 = .ok (.goto (-53), 3) := by decide +kernel
theorem dX0_lift_62 : decode cX0_lift 62 = .ok (.iload 4, 2) := by decide +kernel
theorem dX0_lift_64 : decode cX0_lift 64 = .ok (.ireturn, 1) := by decide +kernel
set_option maxRecDepth 20000 in
theorem ggX0_mirror_X0_exchange : GoodIn wsX0_mirror wsX0_exchange := goodIn_r _ [6, 1, 7, 8] (by decide +kernel) (by decide +kernel)
set_option maxRecDepth 20000 in
theorem gX0_mirror_X0_exchange : GoodIn wsX0_mirror (wsV RX0 34 RX0 yX0_exchange wsX0_exchange) := goodIn_app (goodIn_of _ (by decide +kernel)) ggX0_mirror_X0_exchange
theorem dX0_mirror_0 : decode cX0_mirror 0 = .ok (.iconst 0, 1) := by decide +kernel
theorem dX0_mirror_1 : decode cX0_mirror 1 = .ok (.istore_n 3, 1) := by decide +kernel
theorem dX0_mirror_2 : decode cX0_mirror 2 = .ok (.iload_n 1, 1) := by decide +kernel
theorem dX0_mirror_3 : decode cX0_mirror 3 = .ok (.istore 4, 2) := by decide +kernel
theorem dX0_mirror_5 : decode cX0_mirror 5 = .ok (.iload_n 2, 1) := by decide +kernel
theorem dX0_mirror_6 : decode cX0_mirror 6 = .ok (.istore 5, 2) := by decide +kernel
theorem dX0_mirror_8 : decode cX0_mirror 8 = .ok (.iload 4, 2) := by decide +kernel
theorem dX0_mirror_10 : decode cX0_mirror 10 = .ok (.iload 5, 2) := by decide +kernel
theorem dX0_mirror_12 : decode cX0_mirror 12 = .ok (.if_icmp .ge 40, 3) := by decide +kernel
theorem dX0_mirror_15 : decode cX0_mirror 15 = .ok (.aload_n 0, 1) := by decide +kernel
theorem dX0_mirror_16 : decode cX0_mirror 16 = .ok (.getfield 9, 3) := by decide +kernel
theorem dX0_mirror_19 : decode cX0_mirror 19 = .ok (.iload 4, 2) := by decide +kernel
theorem dX0_mirror_21 : decode cX0_mirror 21 = .ok (.iaload, 1) := by decide +kernel
theorem dX0_mirror_22 : decode cX0_mirror 22 = .ok (.aload_n 0, 1) := by decide +kernel
theorem dX0_mirror_23 : decode cX0_mirror 23 = .ok (.getfield 9, 3) := by decide +kernel
theorem dX0_mirror_26 : decode cX0_mirror 26 = .ok (.iload 5, 2) := by decide +kernel
theorem dX0_mirror_28 : decode cX0_mirror 28 = .ok (.iaload, 1) := by decide +kernel
theorem dX0_mirror_29 : decode cX0_mirror 29 = .ok (.if_icmp .eq 14, 3) := by decide +kernel
theorem dX0_mirror_32 : decode cX0_mirror 32 = .ok (.aload_n 0, 1) := by decide +kernel
theorem dX0_mirror_33 : decode cX0_mirror 33 = .ok (.iload 4, 2) := by decide +kernel
theorem dX0_mirror_35 : decode cX0_mirror 35 = .ok (.iload 5, 2) := by decide +kernel
theorem dX0_mirror_37 : decode cX0_mirror 37 = .ok (.invokevirtual 34, 3) := by decide +kernel
theorem dX0_mirror_40 : decode cX0_mirror 40 = .ok (.iinc 3 2, 3) := by decide +kernel
theorem dX0_mirror_43 : decode cX0_mirror 43 = .ok (.iinc 4 1, 3) := by decide +kernel
theorem dX0_mirror_46 : decode cX0_mirror 46 = .ok (.iinc 5 (-1), 3) := by decide +kernel
theorem dX0_mirror_49 : decode cX0_mirror 49 = .ok (.goto (-41), 3) := by decide +kernel
theorem dX0_mirror_52 : decode cX0_mirror 52 = .ok (.iload_n 3, 1) := by decide +kernel
theorem dX0_mirror_53 : decode cX0_mirror 53 = .ok (.ireturn, 1) := by decide +kernel
set_option maxRecDepth 20000 in
theorem ggX0_arrange_X0_isWrong : GoodIn wsX0_arrange wsX0_isWrong := goodIn_r _ [5] (by decide +kernel) (by decide +kernel)
set_option maxRecDepth 20000 in
theorem gX0_arrange_X0_isWrong : GoodIn wsX0_arrange (va_wsS RX0 38 yX0_isWrong wsX0_isWrong) := goodIn_app (goodIn_of _ (by decide +kernel)) ggX0_arrange_X0_isWrong
set_option maxRecDepth 20000 in
theorem ggX0_arrange_X0_exchange : GoodIn wsX0_arrange wsX0_exchange := goodIn_r _ [9, 1, 10, 11] (by decide +kernel) (by decide +kernel)
set_option maxRecDepth 20000 in
theorem gX0_arrange_X0_exchange : GoodIn wsX0_arrange (wsV RX0 34 RX0 yX0_exchange wsX0_exchange) := goodIn_app (goodIn_of _ (by decide +kernel)) ggX0_arrange_X0_exchange
theorem dX0_arrange_0 : decode cX0_arrange 0 = .ok (.iconst 0, 1) := by decide +kernel
theorem dX0_arrange_1 : decode cX0_arrange 1 = .ok (.istore 4, 2) := by decide +kernel
theorem dX0_arrange_3 : decode cX0_arrange 3 = .ok (.iload_n 1, 1) := by decide +kernel
theorem dX0_arrange_4 : decode cX0_arrange 4 = .ok (.iconst 1, 1) := by decide +kernel
theorem dX0_arrange_5 : decode cX0_arrange 5 = .ok (.iadd, 1) := by decide +kernel
theorem dX0_arrange_6 : decode cX0_arrange 6 = .ok (.istore 5, 2) := by decide +kernel
theorem dX0_arrange_8 : decode cX0_arrange 8 = .ok (.iload 5, 2) := by decide +kernel
theorem dX0_arrange_10 : decode cX0_arrange 10 = .ok (.iload_n 2, 1) := by decide +kernel
theorem dX0_arrange_11 : decode cX0_arrange 11 = .ok (.if_icmp .gt 61, 3) := by decide +kernel
theorem dX0_arrange_14 : decode cX0_arrange 14 = .ok (.iload 5, 2) := by decide +kernel
theorem dX0_arrange_16 : decode cX0_arrange 16 = .ok (.istore 6, 2) := by decide +kernel
theorem dX0_arrange_18 : decode cX0_arrange 18 = .ok (.iload 6, 2) := by decide +kernel
theorem dX0_arrange_20 : decode cX0_arrange 20 = .ok (.iload_n 1, 1) := by decide +kernel
theorem dX0_arrange_21 : decode cX0_arrange 21 = .ok (.if_icmp .le 45, 3) := by decide +kernel
theorem dX0_arrange_24 : decode cX0_arrange 24 = .ok (.aload_n 0, 1) := by decide +kernel
theorem dX0_arrange_25 : decode cX0_arrange 25 = .ok (.getfield 9, 3) := by decide +kernel
theorem dX0_arrange_28 : decode cX0_arrange 28 = .ok (.iload 6, 2) := by decide +kernel
theorem dX0_arrange_30 : decode cX0_arrange 30 = .ok (.iconst 1, 1) := by decide +kernel
theorem dX0_arrange_31 : decode cX0_arrange 31 = .ok (.isub, 1) := by decide +kernel
theorem dX0_arrange_32 : decode cX0_arrange 32 = .ok (.iaload, 1) := by decide +kernel
theorem dX0_arrange_33 : decode cX0_arrange 33 = .ok (.aload_n 0, 1) := by decide +kernel
theorem dX0_arrange_34 : decode cX0_arrange 34 = .ok (.getfield 9, 3) := by decide +kernel
theorem dX0_arrange_37 : decode cX0_arrange 37 = .ok (.iload 6, 2) := by decide +kernel
theorem dX0_arrange_39 : decode cX0_arrange 39 = .ok (.iaload, 1) := by decide +kernel
theorem dX0_arrange_40 : decode cX0_arrange 40 = .ok (.iload_n 3, 1) := by decide +kernel
theorem dX0_arrange_41 : decode cX0_arrange 41 = .ok (.invokestatic 38, 3) := by decide +kernel
theorem dX0_arrange_44 : decode cX0_arrange 44 = .ok (.ifCond .eq 22, 3) := by decide +kernel
theorem dX0_arrange_47 : decode cX0_arrange 47 = .ok (.aload_n 0, 1) := by decide +kernel
theorem dX0_arrange_48 : decode cX0_arrange 48 = .ok (.iload 6, 2) := by decide +kernel
theorem dX0_arrange_50 : decode cX0_arrange 50 = .ok (.iconst 1, 1) := by decide +kernel
theorem dX0_arrange_51 : decode cX0_arrange 51 = .ok (.isub, 1) := by decide +kernel
theorem dX0_arrange_52 : decode cX0_arrange 52 = .ok (.iload 6, 2) := by decide +kernel
theorem dX0_arrange_54 : decode cX0_arrange 54 = .ok (.invokevirtual 34, 3) := by decide +kernel
theorem dX0_arrange_57 : decode cX0_arrange 57 = .ok (.iinc 4 1, 3) := by decide +kernel
theorem dX0_arrange_60 : decode cX0_arrange 60 = .ok (.iinc 6 (-1), 3) := by decide +kernel
theorem dX0_arrange_63 : decode cX0_arrange 63 = .ok (.goto (-45), 3) := by decide +kernel
theorem dX0_arrange_66 : decode cX0_arrange 66 = .ok (.iinc 5 1, 3) := by decide +kernel
theorem dX0_arrange_69 : decode cX0_arrange 69 = .ok (.goto (-61), 3) := by decide +kernel
theorem dX0_arrange_72 : decode cX0_arrange 72 = .ok (.iload 4, 2) := by decide +kernel
theorem dX0_arrange_74 : decode cX0_arrange 74 = .ok (.ireturn, 1) := by decide +kernel
theorem dX0_isWrong_0 : decode cX0_isWrong 0 = .ok (.iload_n 2, 1) := by decide +kernel
theorem dX0_isWrong_1 : decode cX0_isWrong 1 = .ok (.ifCond .eq 16, 3) := by decide +kernel
theorem dX0_isWrong_4 : decode cX0_isWrong 4 = .ok (.iload_n 0, 1) := by decide +kernel
theorem dX0_isWrong_5 : decode cX0_isWrong 5 = .ok (.iload_n 1, 1) := by decide +kernel
theorem dX0_isWrong_6 : decode cX0_isWrong 6 = .ok (.if_icmp .le 7, 3) := by decide +kernel
theorem dX0_isWrong_9 : decode cX0_isWrong 9 = .ok (.iconst 1, 1) := by decide +kernel
theorem dX0_isWrong_10 : decode cX0_isWrong 10 = .ok (.goto 17, 3) := by decide +kernel
theorem dX0_isWrong_13 : decode cX0_isWrong 13 = .ok (.iconst 0, 1) := by decide +kernel
theorem dX0_isWrong_14 : decode cX0_isWrong 14 = .ok (.goto 13, 3) := by decide +kernel
theorem dX0_isWrong_17 : decode cX0_isWrong 17 = .ok (.iload_n 0, 1) := by decide +kernel
theorem dX0_isWrong_18 : decode cX0_isWrong 18 = .ok (.iload_n 1, 1) := by decide +kernel
theorem dX0_isWrong_19 : decode cX0_isWrong 19 = .ok (.if_icmp .ge 7, 3) := by decide +kernel
theorem dX0_isWrong_22 : decode cX0_isWrong 22 = .ok (.iconst 1, 1) := by decide +kernel
theorem dX0_isWrong_23 : decode cX0_isWrong 23 = .ok (.goto 4, 3) := by decide +kernel
theorem dX0_isWrong_26 : decode cX0_isWrong 26 = .ok (.iconst 0, 1) := by decide +kernel
theorem dX0_isWrong_27 : decode cX0_isWrong 27 = .ok (.ireturn, 1) := by decide +kernel
theorem dX0_exchange_0 : decode cX0_exchange 0 = .ok (.aload_n 0, 1) := by decide +kernel
theorem dX0_exchange_1 : decode cX0_exchange 1 = .ok (.getfield 9, 3) := by decide +kernel
theorem dX0_exchange_4 : decode cX0_exchange 4 = .ok (.iload_n 1, 1) := by decide +kernel
theorem dX0_exchange_5 : decode cX0_exchange 5 = .ok (.iaload, 1) := by decide +kernel
theorem dX0_exchange_6 : decode cX0_exchange 6 = .ok (.istore_n 3, 1) := by decide +kernel
theorem dX0_exchange_7 : decode cX0_exchange 7 = .ok (.aload_n 0, 1) := by decide +kernel
theorem dX0_exchange_8 : decode cX0_exchange 8 = .ok (.getfield 9, 3) := by decide +kernel
theorem dX0_exchange_11 : decode cX0_exchange 11 = .ok (.iload_n 1, 1) := by decide +kernel
theorem dX0_exchange_12 : decode cX0_exchange 12 = .ok (.aload_n 0, 1) := by decide +kernel
theorem dX0_exchange_13 : decode cX0_exchange 13 = .ok (.getfield 9, 3) := by decide +kernel
theorem dX0_exchange_16 : decode cX0_exchange 16 = .ok (.iload_n 2, 1) := by decide +kernel
theorem dX0_exchange_17 : decode cX0_exchange 17 = .ok (.iaload, 1) := by decide +kernel
theorem dX0_exchange_18 : decode cX0_exchange 18 = .ok (.iastore, 1) := by decide +kernel
theorem dX0_exchange_19 : decode cX0_exchange 19 = .ok (.aload_n 0, 1) := by decide +kernel
theorem dX0_exchange_20 : decode cX0_exchange 20 = .ok (.getfield 9, 3) := by decide +kernel
theorem dX0_exchange_23 : decode cX0_exchange 23 = .ok (.iload_n 2, 1) := by decide +kernel
theorem dX0_exchange_24 : decode cX0_exchange 24 = .ok (.iload_n 3, 1) := by decide +kernel
theorem dX0_exchange_25 : decode cX0_exchange 25 = .ok (.iastore, 1) := by decide +kernel
theorem dX0_exchange_26 : decode cX0_exchange 26 = .ok (.return_, 1) := by decide +kernel
set_option maxRecDepth 20000 in
theorem ggX0_greatestHeight_X6_lowestGreatest : GoodIn wsX0_greatestHeight wsX6_lowestGreatest := goodIn_r _ [5] (by decide +kernel) (by decide +kernel)
set_option maxRecDepth 20000 in
theorem gX0_greatestHeight_X6_lowestGreatest_n42 : GoodIn wsX0_greatestHeight (wsX6_lowestGreatest) := ggX0_greatestHeight_X6_lowestGreatest
theorem dX0_greatestHeight_0 : decode cX0_greatestHeight 0 = .ok (.aload_n 0, 1) := by decide +kernel
theorem dX0_greatestHeight_1 : decode cX0_greatestHeight 1 = .ok (.getfield 15, 3) := by decide +kernel
theorem dX0_greatestHeight_4 : decode cX0_greatestHeight 4 = .ok (.ifCond .ne 7, 3) := by decide +kernel
theorem dX0_greatestHeight_7 : decode cX0_greatestHeight 7 = .ok (.iconst 0, 1) := by decide +kernel
theorem dX0_greatestHeight_8 : decode cX0_greatestHeight 8 = .ok (.goto 22, 3) := by decide +kernel
theorem dX0_greatestHeight_11 : decode cX0_greatestHeight 11 = .ok (.aload_n 0, 1) := by decide +kernel
theorem dX0_greatestHeight_12 : decode cX0_greatestHeight 12 = .ok (.getfield 9, 3) := by decide +kernel
theorem dX0_greatestHeight_15 : decode cX0_greatestHeight 15 = .ok (.aload_n 0, 1) := by decide +kernel
theorem dX0_greatestHeight_16 : decode cX0_greatestHeight 16 = .ok (.getfield 9, 3) := by decide +kernel
theorem dX0_greatestHeight_19 : decode cX0_greatestHeight 19 = .ok (.iconst 0, 1) := by decide +kernel
theorem dX0_greatestHeight_20 : decode cX0_greatestHeight 20 = .ok (.aload_n 0, 1) := by decide +kernel
theorem dX0_greatestHeight_21 : decode cX0_greatestHeight 21 = .ok (.getfield 15, 3) := by decide +kernel
theorem dX0_greatestHeight_24 : decode cX0_greatestHeight 24 = .ok (.iconst 1, 1) := by decide +kernel
theorem dX0_greatestHeight_25 : decode cX0_greatestHeight 25 = .ok (.isub, 1) := by decide +kernel
theorem dX0_greatestHeight_26 : decode cX0_greatestHeight 26 = .ok (.invokestatic 42, 3) := by decide +kernel
theorem dX0_greatestHeight_29 : decode cX0_greatestHeight 29 = .ok (.iaload, 1) := by decide +kernel
theorem dX0_greatestHeight_30 : decode cX0_greatestHeight 30 = .ok (.ireturn, 1) := by decide +kernel
theorem dX0_countSeen_0 : decode cX0_countSeen 0 = .ok (.iconst 0, 1) := by decide +kernel
theorem dX0_countSeen_1 : decode cX0_countSeen 1 = .ok (.istore_n 2, 1) := by decide +kernel
theorem dX0_countSeen_2 : decode cX0_countSeen 2 = .ok (.iconst (-1), 1) := by decide +kernel
theorem dX0_countSeen_3 : decode cX0_countSeen 3 = .ok (.istore_n 3, 1) := by decide +kernel
theorem dX0_countSeen_4 : decode cX0_countSeen 4 = .ok (.iconst 0, 1) := by decide +kernel
theorem dX0_countSeen_5 : decode cX0_countSeen 5 = .ok (.istore 4, 2) := by decide +kernel
theorem dX0_countSeen_7 : decode cX0_countSeen 7 = .ok (.iload 4, 2) := by decide +kernel
theorem dX0_countSeen_9 : decode cX0_countSeen 9 = .ok (.aload_n 0, 1) := by decide +kernel
theorem dX0_countSeen_10 : decode cX0_countSeen 10 = .ok (.getfield 15, 3) := by decide +kernel
theorem dX0_countSeen_13 : decode cX0_countSeen 13 = .ok (.if_icmp .ge 51, 3) := by decide +kernel
theorem dX0_countSeen_16 : decode cX0_countSeen 16 = .ok (.iload_n 1, 1) := by decide +kernel
theorem dX0_countSeen_17 : decode cX0_countSeen 17 = .ok (.ifCond .eq 8, 3) := by decide +kernel
theorem dX0_countSeen_20 : decode cX0_countSeen 20 = .ok (.iload 4, 2) := by decide +kernel
theorem dX0_countSeen_22 : decode cX0_countSeen 22 = .ok (.goto 12, 3) := by decide +kernel
theorem dX0_countSeen_25 : decode cX0_countSeen 25 = .ok (.aload_n 0, 1) := by decide +kernel
theorem dX0_countSeen_26 : decode cX0_countSeen 26 = .ok (.getfield 15, 3) := by decide +kernel
theorem dX0_countSeen_29 : decode cX0_countSeen 29 = .ok (.iconst 1, 1) := by decide +kernel
theorem dX0_countSeen_30 : decode cX0_countSeen 30 = .ok (.isub, 1) := by decide +kernel
theorem dX0_countSeen_31 : decode cX0_countSeen 31 = .ok (.iload 4, 2) := by decide +kernel
theorem dX0_countSeen_33 : decode cX0_countSeen 33 = .ok (.isub, 1) := by decide +kernel
theorem dX0_countSeen_34 : decode cX0_countSeen 34 = .ok (.istore 5, 2) := by decide +kernel
theorem dX0_countSeen_36 : decode cX0_countSeen 36 = .ok (.aload_n 0, 1) := by decide +kernel
theorem dX0_countSeen_37 : decode cX0_countSeen 37 = .ok (.getfield 9, 3) := by decide +kernel
theorem dX0_countSeen_40 : decode cX0_countSeen 40 = .ok (.iload 5, 2) := by decide +kernel
theorem dX0_countSeen_42 : decode cX0_countSeen 42 = .ok (.iaload, 1) := by decide +kernel
theorem dX0_countSeen_43 : decode cX0_countSeen 43 = .ok (.iload_n 3, 1) := by decide +kernel
theorem dX0_countSeen_44 : decode cX0_countSeen 44 = .ok (.if_icmp .le 14, 3) := by decide +kernel
theorem dX0_countSeen_47 : decode cX0_countSeen 47 = .ok (.aload_n 0, 1) := by decide +kernel
theorem dX0_countSeen_48 : decode cX0_countSeen 48 = .ok (.getfield 9, 3) := by decide +kernel
theorem dX0_countSeen_51 : decode cX0_countSeen 51 = .ok (.iload 5, 2) := by decide +kernel
theorem dX0_countSeen_53 : decode cX0_countSeen 53 = .ok (.iaload, 1) := by decide +kernel
theorem dX0_countSeen_54 : decode cX0_countSeen 54 = .ok (.istore_n 3, 1) := by decide +kernel
theorem dX0_countSeen_55 : decode cX0_countSeen 55 = .ok (.iinc 2 1, 3) := by decide +kernel
theorem dX0_countSeen_58 : decode cX0_countSeen 58 = .ok (.iinc 4 1, 3) := by decide +kernel
theorem dX0_countSeen_61 : decode cX0_countSeen 61 = .ok (.goto (-54), 3) := by decide +kernel
theorem dX0_countSeen_64 : decode cX0_countSeen 64 = .ok (.iload_n 2, 1) := by decide +kernel
theorem dX0_countSeen_65 : decode cX0_countSeen 65 = .ok (.ireturn, 1) := by decide +kernel
theorem dX0_countRises_0 : decode cX0_countRises 0 = .ok (.iconst 0, 1) := by decide +kernel
theorem dX0_countRises_1 : decode cX0_countRises 1 = .ok (.istore_n 1, 1) := by decide +kernel
theorem dX0_countRises_2 : decode cX0_countRises 2 = .ok (.iconst 0, 1) := by decide +kernel
theorem dX0_countRises_3 : decode cX0_countRises 3 = .ok (.istore_n 2, 1) := by decide +kernel
theorem dX0_countRises_4 : decode cX0_countRises 4 = .ok (.iconst 0, 1) := by decide +kernel
theorem dX0_countRises_5 : decode cX0_countRises 5 = .ok (.istore_n 3, 1) := by decide +kernel
theorem dX0_countRises_6 : decode cX0_countRises 6 = .ok (.iload_n 3, 1) := by decide +kernel
theorem dX0_countRises_7 : decode cX0_countRises 7 = .ok (.aload_n 0, 1) := by decide +kernel
theorem dX0_countRises_8 : decode cX0_countRises 8 = .ok (.getfield 15, 3) := by decide +kernel
theorem dX0_countRises_11 : decode cX0_countRises 11 = .ok (.if_icmp .ge 31, 3) := by decide +kernel
theorem dX0_countRises_14 : decode cX0_countRises 14 = .ok (.iload_n 1, 1) := by decide +kernel
theorem dX0_countRises_15 : decode cX0_countRises 15 = .ok (.iconst 0, 1) := by decide +kernel
theorem dX0_countRises_16 : decode cX0_countRises 16 = .ok (.aload_n 0, 1) := by decide +kernel
theorem dX0_countRises_17 : decode cX0_countRises 17 = .ok (.getfield 9, 3) := by decide +kernel
theorem dX0_countRises_20 : decode cX0_countRises 20 = .ok (.iload_n 3, 1) := by decide +kernel
theorem dX0_countRises_21 : decode cX0_countRises 21 = .ok (.iaload, 1) := by decide +kernel
theorem dX0_countRises_22 : decode cX0_countRises 22 = .ok (.iload_n 2, 1) := by decide +kernel
theorem dX0_countRises_23 : decode cX0_countRises 23 = .ok (.isub, 1) := by decide +kernel
theorem dX0_countRises_24 : decode cX0_countRises 24 = .ok (.invokestatic 31, 3) := by decide +kernel
theorem dX0_countRises_27 : decode cX0_countRises 27 = .ok (.iadd, 1) := by decide +kernel
theorem dX0_countRises_28 : decode cX0_countRises 28 = .ok (.istore_n 1, 1) := by decide +kernel
theorem dX0_countRises_29 : decode cX0_countRises 29 = .ok (.aload_n 0, 1) := by decide +kernel
theorem dX0_countRises_30 : decode cX0_countRises 30 = .ok (.getfield 9, 3) := by decide +kernel
theorem dX0_countRises_33 : decode cX0_countRises 33 = .ok (.iload_n 3, 1) := by decide +kernel
theorem dX0_countRises_34 : decode cX0_countRises 34 = .ok (.iaload, 1) := by decide +kernel
theorem dX0_countRises_35 : decode cX0_countRises 35 = .ok (.istore_n 2, 1) := by decide +kernel
theorem dX0_countRises_36 : decode cX0_countRises 36 = .ok (.iinc 3 1, 3) := by decide +kernel
theorem dX0_countRises_39 : decode cX0_countRises 39 = .ok (.goto (-33), 3) := by decide +kernel
theorem dX0_countRises_42 : decode cX0_countRises 42 = .ok (.iload_n 1, 1) := by decide +kernel
theorem dX0_countRises_43 : decode cX0_countRises 43 = .ok (.ireturn, 1) := by decide +kernel
theorem dX0_smallerToLeft_0 : decode cX0_smallerToLeft 0 = .ok (.iload_n 1, 1) := by decide +kernel
theorem dX0_smallerToLeft_1 : decode cX0_smallerToLeft 1 = .ok (.iconst 1, 1) := by decide +kernel
theorem dX0_smallerToLeft_2 : decode cX0_smallerToLeft 2 = .ok (.isub, 1) := by decide +kernel
theorem dX0_smallerToLeft_3 : decode cX0_smallerToLeft 3 = .ok (.istore_n 2, 1) := by decide +kernel
theorem dX0_smallerToLeft_4 : decode cX0_smallerToLeft 4 = .ok (.iload_n 2, 1) := by decide +kernel
theorem dX0_smallerToLeft_5 : decode cX0_smallerToLeft 5 = .ok (.ifCond .lt 26, 3) := by decide +kernel
theorem dX0_smallerToLeft_8 : decode cX0_smallerToLeft 8 = .ok (.aload_n 0, 1) := by decide +kernel
theorem dX0_smallerToLeft_9 : decode cX0_smallerToLeft 9 = .ok (.getfield 9, 3) := by decide +kernel
theorem dX0_smallerToLeft_12 : decode cX0_smallerToLeft 12 = .ok (.iload_n 2, 1) := by decide +kernel
theorem dX0_smallerToLeft_13 : decode cX0_smallerToLeft 13 = .ok (.iaload, 1) := by decide +kernel
theorem dX0_smallerToLeft_14 : decode cX0_smallerToLeft 14 = .ok (.aload_n 0, 1) := by decide +kernel
theorem dX0_smallerToLeft_15 : decode cX0_smallerToLeft 15 = .ok (.getfield 9, 3) := by decide +kernel
theorem dX0_smallerToLeft_18 : decode cX0_smallerToLeft 18 = .ok (.iload_n 1, 1) := by decide +kernel
theorem dX0_smallerToLeft_19 : decode cX0_smallerToLeft 19 = .ok (.iaload, 1) := by decide +kernel
theorem dX0_smallerToLeft_20 : decode cX0_smallerToLeft 20 = .ok (.if_icmp .ge 5, 3) := by decide +kernel
theorem dX0_smallerToLeft_23 : decode cX0_smallerToLeft 23 = .ok (.iload_n 2, 1) := by decide +kernel
theorem dX0_smallerToLeft_24 : decode cX0_smallerToLeft 24 = .ok (.ireturn, 1) := by decide +kernel
theorem dX0_smallerToLeft_25 : decode cX0_smallerToLeft 25 = .ok (.iinc 2 (-1), 3) := by decide +kernel
theorem dX0_smallerToLeft_28 : decode cX0_smallerToLeft 28 = .ok (.goto (-24), 3) := by decide +kernel
theorem dX0_smallerToLeft_31 : decode cX0_smallerToLeft 31 = .ok (.bipush (-9), 2) := by decide +kernel
theorem dX0_smallerToLeft_33 : decode cX0_smallerToLeft 33 = .ok (.ireturn, 1) := by decide +kernel
theorem dX0_smallerToRight_0 : decode cX0_smallerToRight 0 = .ok (.iload_n 1, 1) := by decide +kernel
theorem dX0_smallerToRight_1 : decode cX0_smallerToRight 1 = .ok (.iconst 1, 1) := by decide +kernel
theorem dX0_smallerToRight_2 : decode cX0_smallerToRight 2 = .ok (.iadd, 1) := by decide +kernel
theorem dX0_smallerToRight_3 : decode cX0_smallerToRight 3 = .ok (.istore_n 2, 1) := by decide +kernel
theorem dX0_smallerToRight_4 : decode cX0_smallerToRight 4 = .ok (.iload_n 2, 1) := by decide +kernel
theorem dX0_smallerToRight_5 : decode cX0_smallerToRight 5 = .ok (.aload_n 0, 1) := by decide +kernel
theorem dX0_smallerToRight_6 : decode cX0_smallerToRight 6 = .ok (.getfield 15, 3) := by decide +kernel
theorem dX0_smallerToRight_9 : decode cX0_smallerToRight 9 = .ok (.if_icmp .ge 26, 3) := by decide +kernel
theorem dX0_smallerToRight_12 : decode cX0_smallerToRight 12 = .ok (.aload_n 0, 1) := by decide +kernel
theorem dX0_smallerToRight_13 : decode cX0_smallerToRight 13 = .ok (.getfield 9, 3) := by decide +kernel
theorem dX0_smallerToRight_16 : decode cX0_smallerToRight 16 = .ok (.iload_n 2, 1) := by decide +kernel
theorem dX0_smallerToRight_17 : decode cX0_smallerToRight 17 = .ok (.iaload, 1) := by decide +kernel
theorem dX0_smallerToRight_18 : decode cX0_smallerToRight 18 = .ok (.aload_n 0, 1) := by decide +kernel
theorem dX0_smallerToRight_19 : decode cX0_smallerToRight 19 = .ok (.getfield 9, 3) := by decide +kernel
theorem dX0_smallerToRight_22 : decode cX0_smallerToRight 22 = .ok (.iload_n 1, 1) := by decide +kernel
theorem dX0_smallerToRight_23 : decode cX0_smallerToRight 23 = .ok (.iaload, 1) := by decide +kernel
theorem dX0_smallerToRight_24 : decode cX0_smallerToRight 24 = .ok (.if_icmp .ge 5, 3) := by decide +kernel
theorem dX0_smallerToRight_27 : decode cX0_smallerToRight 27 = .ok (.iload_n 2, 1) := by decide +kernel
theorem dX0_smallerToRight_28 : decode cX0_smallerToRight 28 = .ok (.ireturn, 1) := by decide +kernel
theorem dX0_smallerToRight_29 : decode cX0_smallerToRight 29 = .ok (.iinc 2 1, 3) := by decide +kernel
theorem dX0_smallerToRight_32 : decode cX0_smallerToRight 32 = .ok (.goto (-28), 3) := by decide +kernel
theorem dX0_smallerToRight_35 : decode cX0_smallerToRight 35 = .ok (.bipush (-9), 2) := by decide +kernel
theorem dX0_smallerToRight_37 : decode cX0_smallerToRight 37 = .ok (.ireturn, 1) := by decide +kernel
theorem dX0_greaterToLeft_0 : decode cX0_greaterToLeft 0 = .ok (.iload_n 1, 1) := by decide +kernel
theorem dX0_greaterToLeft_1 : decode cX0_greaterToLeft 1 = .ok (.iconst 1, 1) := by decide +kernel
theorem dX0_greaterToLeft_2 : decode cX0_greaterToLeft 2 = .ok (.isub, 1) := by decide +kernel
theorem dX0_greaterToLeft_3 : decode cX0_greaterToLeft 3 = .ok (.istore_n 2, 1) := by decide +kernel
theorem dX0_greaterToLeft_4 : decode cX0_greaterToLeft 4 = .ok (.iload_n 2, 1) := by decide +kernel
theorem dX0_greaterToLeft_5 : decode cX0_greaterToLeft 5 = .ok (.ifCond .lt 26, 3) := by decide +kernel
theorem dX0_greaterToLeft_8 : decode cX0_greaterToLeft 8 = .ok (.aload_n 0, 1) := by decide +kernel
theorem dX0_greaterToLeft_9 : decode cX0_greaterToLeft 9 = .ok (.getfield 9, 3) := by decide +kernel
theorem dX0_greaterToLeft_12 : decode cX0_greaterToLeft 12 = .ok (.iload_n 2, 1) := by decide +kernel
theorem dX0_greaterToLeft_13 : decode cX0_greaterToLeft 13 = .ok (.iaload, 1) := by decide +kernel
theorem dX0_greaterToLeft_14 : decode cX0_greaterToLeft 14 = .ok (.aload_n 0, 1) := by decide +kernel
theorem dX0_greaterToLeft_15 : decode cX0_greaterToLeft 15 = .ok (.getfield 9, 3) := by decide +kernel
theorem dX0_greaterToLeft_18 : decode cX0_greaterToLeft 18 = .ok (.iload_n 1, 1) := by decide +kernel
theorem dX0_greaterToLeft_19 : decode cX0_greaterToLeft 19 = .ok (.iaload, 1) := by decide +kernel
theorem dX0_greaterToLeft_20 : decode cX0_greaterToLeft 20 = .ok (.if_icmp .le 5, 3) := by decide +kernel
theorem dX0_greaterToLeft_23 : decode cX0_greaterToLeft 23 = .ok (.iload_n 2, 1) := by decide +kernel
theorem dX0_greaterToLeft_24 : decode cX0_greaterToLeft 24 = .ok (.ireturn, 1) := by decide +kernel
theorem dX0_greaterToLeft_25 : decode cX0_greaterToLeft 25 = .ok (.iinc 2 (-1), 3) := by decide +kernel
theorem dX0_greaterToLeft_28 : decode cX0_greaterToLeft 28 = .ok (.goto (-24), 3) := by decide +kernel
theorem dX0_greaterToLeft_31 : decode cX0_greaterToLeft 31 = .ok (.bipush (-9), 2) := by decide +kernel
theorem dX0_greaterToLeft_33 : decode cX0_greaterToLeft 33 = .ok (.ireturn, 1) := by decide +kernel
theorem dX0_greaterToRight_0 : decode cX0_greaterToRight 0 = .ok (.iload_n 1, 1) := by decide +kernel
theorem dX0_greaterToRight_1 : decode cX0_greaterToRight 1 = .ok (.iconst 1, 1) := by decide +kernel
theorem dX0_greaterToRight_2 : decode cX0_greaterToRight 2 = .ok (.iadd, 1) := by decide +kernel
theorem dX0_greaterToRight_3 : decode cX0_greaterToRight 3 = .ok (.istore_n 2, 1) := by decide +kernel
theorem dX0_greaterToRight_4 : decode cX0_greaterToRight 4 = .ok (.iload_n 2, 1) := by decide +kernel
theorem dX0_greaterToRight_5 : decode cX0_greaterToRight 5 = .ok (.aload_n 0, 1) := by decide +kernel
theorem dX0_greaterToRight_6 : decode cX0_greaterToRight 6 = .ok (.getfield 15, 3) := by decide +kernel
theorem dX0_greaterToRight_9 : decode cX0_greaterToRight 9 = .ok (.if_icmp .ge 26, 3) := by decide +kernel
theorem dX0_greaterToRight_12 : decode cX0_greaterToRight 12 = .ok (.aload_n 0, 1) := by decide +kernel
theorem dX0_greaterToRight_13 : decode cX0_greaterToRight 13 = .ok (.getfield 9, 3) := by decide +kernel
theorem dX0_greaterToRight_16 : decode cX0_greaterToRight 16 = .ok (.iload_n 2, 1) := by decide +kernel
theorem dX0_greaterToRight_17 : decode cX0_greaterToRight 17 = .ok (.iaload, 1) := by decide +kernel
theorem dX0_greaterToRight_18 : decode cX0_greaterToRight 18 = .ok (.aload_n 0, 1) := by decide +kernel
theorem dX0_greaterToRight_19 : decode cX0_greaterToRight 19 = .ok (.getfield 9, 3) := by decide +kernel
theorem dX0_greaterToRight_22 : decode cX0_greaterToRight 22 = .ok (.iload_n 1, 1) := by decide +kernel
theorem dX0_greaterToRight_23 : decode cX0_greaterToRight 23 = .ok (.iaload, 1) := by decide +kernel
theorem dX0_greaterToRight_24 : decode cX0_greaterToRight 24 = .ok (.if_icmp .le 5, 3) := by decide +kernel
theorem dX0_greaterToRight_27 : decode cX0_greaterToRight 27 = .ok (.iload_n 2, 1) := by decide +kernel
theorem dX0_greaterToRight_28 : decode cX0_greaterToRight 28 = .ok (.ireturn, 1) := by decide +kernel
theorem dX0_greaterToRight_29 : decode cX0_greaterToRight 29 = .ok (.iinc 2 1, 3) := by decide +kernel
theorem dX0_greaterToRight_32 : decode cX0_greaterToRight 32 = .ok (.goto (-28), 3) := by decide +kernel
theorem dX0_greaterToRight_35 : decode cX0_greaterToRight 35 = .ok (.bipush (-9), 2) := by decide +kernel
theorem dX0_greaterToRight_37 : decode cX0_greaterToRight 37 = .ok (.ireturn, 1) := by decide +kernel
set_option maxRecDepth 20000 in
theorem ggX0_span_X0_smallerToLeft : GoodIn wsX0_span wsX0_smallerToLeft := goodIn_r _ [6, 7, 12, 13] (by decide +kernel) (by decide +kernel)
set_option maxRecDepth 20000 in
theorem gX0_span_X0_smallerToLeft : GoodIn wsX0_span (wsV RX0 46 RX0 yX0_smallerToLeft wsX0_smallerToLeft) := goodIn_app (goodIn_of _ (by decide +kernel)) ggX0_span_X0_smallerToLeft
set_option maxRecDepth 20000 in
theorem ggX0_span_X0_smallerToRight : GoodIn wsX0_span wsX0_smallerToRight := goodIn_r _ [11, 1, 7, 12, 13] (by decide +kernel) (by decide +kernel)
set_option maxRecDepth 20000 in
theorem gX0_span_X0_smallerToRight : GoodIn wsX0_span (wsV RX0 50 RX0 yX0_smallerToRight wsX0_smallerToRight) := goodIn_app (goodIn_of _ (by decide +kernel)) ggX0_span_X0_smallerToRight
theorem dX0_span_0 : decode cX0_span 0 = .ok (.aload_n 0, 1) := by decide +kernel
theorem dX0_span_1 : decode cX0_span 1 = .ok (.iload_n 1, 1) := by decide +kernel
theorem dX0_span_2 : decode cX0_span 2 = .ok (.invokevirtual 46, 3) := by decide +kernel
theorem dX0_span_5 : decode cX0_span 5 = .ok (.istore_n 2, 1) := by decide +kernel
theorem dX0_span_6 : decode cX0_span 6 = .ok (.aload_n 0, 1) := by decide +kernel
theorem dX0_span_7 : decode cX0_span 7 = .ok (.iload_n 1, 1) := by decide +kernel
theorem dX0_span_8 : decode cX0_span 8 = .ok (.invokevirtual 50, 3) := by decide +kernel
theorem dX0_span_11 : decode cX0_span 11 = .ok (.istore_n 3, 1) := by decide +kernel
theorem dX0_span_12 : decode cX0_span 12 = .ok (.iload_n 2, 1) := by decide +kernel
theorem dX0_span_13 : decode cX0_span 13 = .ok (.bipush (-9), 2) := by decide +kernel
theorem dX0_span_15 : decode cX0_span 15 = .ok (.if_icmp .ne 7, 3) := by decide +kernel
theorem dX0_span_18 : decode cX0_span 18 = .ok (.iconst 0, 1) := by decide +kernel
theorem dX0_span_19 : decode cX0_span 19 = .ok (.goto 6, 3) := by decide +kernel
theorem dX0_span_22 : decode cX0_span 22 = .ok (.iload_n 2, 1) := by decide +kernel
theorem dX0_span_23 : decode cX0_span 23 = .ok (.iconst 1, 1) := by decide +kernel
theorem dX0_span_24 : decode cX0_span 24 = .ok (.iadd, 1) := by decide +kernel
theorem dX0_span_25 : decode cX0_span 25 = .ok (.istore 4, 2) := by decide +kernel
theorem dX0_span_27 : decode cX0_span 27 = .ok (.iload_n 3, 1) := by decide +kernel
theorem dX0_span_28 : decode cX0_span 28 = .ok (.bipush (-9), 2) := by decide +kernel
theorem dX0_span_30 : decode cX0_span 30 = .ok (.if_icmp .ne 12, 3) := by decide +kernel
theorem dX0_span_33 : decode cX0_span 33 = .ok (.aload_n 0, 1) := by decide +kernel
theorem dX0_span_34 : decode cX0_span 34 = .ok (.getfield 15, 3) := by decide +kernel
theorem dX0_span_37 : decode cX0_span 37 = .ok (.iconst 1, 1) := by decide +kernel
theorem dX0_span_38 : decode cX0_span 38 = .ok (.isub, 1) := by decide +kernel
theorem dX0_span_39 : decode cX0_span 39 = .ok (.goto 6, 3) := by decide +kernel
theorem dX0_span_42 : decode cX0_span 42 = .ok (.iload_n 3, 1) := by decide +kernel
theorem dX0_span_43 : decode cX0_span 43 = .ok (.iconst 1, 1) := by decide +kernel
theorem dX0_span_44 : decode cX0_span 44 = .ok (.isub, 1) := by decide +kernel
theorem dX0_span_45 : decode cX0_span 45 = .ok (.istore 5, 2) := by decide +kernel
theorem dX0_span_47 : decode cX0_span 47 = .ok (.iload 5, 2) := by decide +kernel
theorem dX0_span_49 : decode cX0_span 49 = .ok (.iload 4, 2) := by decide +kernel
theorem dX0_span_51 : decode cX0_span 51 = .ok (.isub, 1) := by decide +kernel
theorem dX0_span_52 : decode cX0_span 52 = .ok (.iconst 1, 1) := by decide +kernel
theorem dX0_span_53 : decode cX0_span 53 = .ok (.iadd, 1) := by decide +kernel
theorem dX0_span_54 : decode cX0_span 54 = .ok (.ireturn, 1) := by decide +kernel
theorem dX0_stairLength_0 : decode cX0_stairLength 0 = .ok (.iconst 1, 1) := by decide +kernel
theorem dX0_stairLength_1 : decode cX0_stairLength 1 = .ok (.istore_n 2, 1) := by decide +kernel
theorem dX0_stairLength_2 : decode cX0_stairLength 2 = .ok (.iload_n 1, 1) := by decide +kernel
theorem dX0_stairLength_3 : decode cX0_stairLength 3 = .ok (.istore_n 3, 1) := by decide +kernel
theorem dX0_stairLength_4 : decode cX0_stairLength 4 = .ok (.iload_n 1, 1) := by decide +kernel
theorem dX0_stairLength_5 : decode cX0_stairLength 5 = .ok (.iconst 1, 1) := by decide +kernel
theorem dX0_stairLength_6 : decode cX0_stairLength 6 = .ok (.isub, 1) := by decide +kernel
theorem dX0_stairLength_7 : decode cX0_stairLength 7 = .ok (.istore 4, 2) := by decide +kernel
theorem dX0_stairLength_9 : decode cX0_stairLength 9 = .ok (.iload 4, 2) := by decide +kernel
theorem dX0_stairLength_11 : decode cX0_stairLength 11 = .ok (.ifCond .lt 31, 3) := by decide +kernel
theorem dX0_stairLength_14 : decode cX0_stairLength 14 = .ok (.aload_n 0, 1) := by decide +kernel
theorem dX0_stairLength_15 : decode cX0_stairLength 15 = .ok (.getfield 9, 3) := by decide +kernel
theorem dX0_stairLength_18 : decode cX0_stairLength 18 = .ok (.iload 4, 2) := by decide +kernel
theorem dX0_stairLength_20 : decode cX0_stairLength 20 = .ok (.iaload, 1) := by decide +kernel
theorem dX0_stairLength_21 : decode cX0_stairLength 21 = .ok (.aload_n 0, 1) := by decide +kernel
theorem dX0_stairLength_22 : decode cX0_stairLength 22 = .ok (.getfield 9, 3) := by decide +kernel
theorem dX0_stairLength_25 : decode cX0_stairLength 25 = .ok (.iload_n 3, 1) := by decide +kernel
theorem dX0_stairLength_26 : decode cX0_stairLength 26 = .ok (.iaload, 1) := by decide +kernel
theorem dX0_stairLength_27 : decode cX0_stairLength 27 = .ok (.if_icmp .ge 9, 3) := by decide +kernel
theorem dX0_stairLength_30 : decode cX0_stairLength 30 = .ok (.iload 4, 2) := by decide +kernel
theorem dX0_stairLength_32 : decode cX0_stairLength 32 = .ok (.istore_n 3, 1) := by decide +kernel
theorem dX0_stairLength_33 : decode cX0_stairLength 33 = .ok (.iinc 2 1, 3) := by decide +kernel
theorem dX0_stairLength_36 : decode cX0_stairLength 36 = .ok (.iinc 4 (-1), 3) := by decide +kernel
theorem dX0_stairLength_39 : decode cX0_stairLength 39 = .ok (.goto (-30), 3) := by decide +kernel
theorem dX0_stairLength_42 : decode cX0_stairLength 42 = .ok (.iload_n 2, 1) := by decide +kernel
theorem dX0_stairLength_43 : decode cX0_stairLength 43 = .ok (.ireturn, 1) := by decide +kernel
theorem dX0_stairStep_0 : decode cX0_stairStep 0 = .ok (.iconst 0, 1) := by decide +kernel
theorem dX0_stairStep_1 : decode cX0_stairStep 1 = .ok (.istore_n 3, 1) := by decide +kernel
theorem dX0_stairStep_2 : decode cX0_stairStep 2 = .ok (.iload_n 1, 1) := by decide +kernel
theorem dX0_stairStep_3 : decode cX0_stairStep 3 = .ok (.istore 4, 2) := by decide +kernel
theorem dX0_stairStep_5 : decode cX0_stairStep 5 = .ok (.iload_n 1, 1) := by decide +kernel
theorem dX0_stairStep_6 : decode cX0_stairStep 6 = .ok (.iconst 1, 1) := by decide +kernel
theorem dX0_stairStep_7 : decode cX0_stairStep 7 = .ok (.isub, 1) := by decide +kernel
theorem dX0_stairStep_8 : decode cX0_stairStep 8 = .ok (.istore 5, 2) := by decide +kernel
theorem dX0_stairStep_10 : decode cX0_stairStep 10 = .ok (.iload 5, 2) := by decide +kernel
theorem dX0_stairStep_12 : decode cX0_stairStep 12 = .ok (.ifCond .lt 38, 3) := by decide +kernel
theorem dX0_stairStep_15 : decode cX0_stairStep 15 = .ok (.iload_n 3, 1) := by decide +kernel
theorem dX0_stairStep_16 : decode cX0_stairStep 16 = .ok (.iload_n 2, 1) := by decide +kernel
theorem dX0_stairStep_17 : decode cX0_stairStep 17 = .ok (.if_icmp .ge 33, 3) := by decide +kernel
theorem dX0_stairStep_20 : decode cX0_stairStep 20 = .ok (.aload_n 0, 1) := by decide +kernel
theorem dX0_stairStep_21 : decode cX0_stairStep 21 = .ok (.getfield 9, 3) := by decide +kernel
theorem dX0_stairStep_24 : decode cX0_stairStep 24 = .ok (.iload 5, 2) := by decide +kernel
theorem dX0_stairStep_26 : decode cX0_stairStep 26 = .ok (.iaload, 1) := by decide +kernel
theorem dX0_stairStep_27 : decode cX0_stairStep 27 = .ok (.aload_n 0, 1) := by decide +kernel
theorem dX0_stairStep_28 : decode cX0_stairStep 28 = .ok (.getfield 9, 3) := by decide +kernel
theorem dX0_stairStep_31 : decode cX0_stairStep 31 = .ok (.iload 4, 2) := by decide +kernel
theorem dX0_stairStep_33 : decode cX0_stairStep 33 = .ok (.iaload, 1) := by decide +kernel
theorem dX0_stairStep_34 : decode cX0_stairStep 34 = .ok (.if_icmp .ge 10, 3) := by decide +kernel
theorem dX0_stairStep_37 : decode cX0_stairStep 37 = .ok (.iload 5, 2) := by decide +kernel
theorem dX0_stairStep_39 : decode cX0_stairStep 39 = .ok (.istore 4, 2) := by decide +kernel
theorem dX0_stairStep_41 : decode cX0_stairStep 41 = .ok (.iinc 3 1, 3) := by decide +kernel
theorem dX0_stairStep_44 : decode cX0_stairStep 44 = .ok (.iinc 5 (-1), 3) := by decide +kernel
theorem dX0_stairStep_47 : decode cX0_stairStep 47 = .ok (.goto (-37), 3) := by decide +kernel
theorem dX0_stairStep_50 : decode cX0_stairStep 50 = .ok (.iload_n 3, 1) := by decide +kernel
theorem dX0_stairStep_51 : decode cX0_stairStep 51 = .ok (.iload_n 2, 1) := by decide +kernel
theorem dX0_stairStep_52 : decode cX0_stairStep 52 = .ok (.if_icmp .ne 8, 3) := by decide +kernel
theorem dX0_stairStep_55 : decode cX0_stairStep 55 = .ok (.iload 4, 2) := by decide +kernel
theorem dX0_stairStep_57 : decode cX0_stairStep 57 = .ok (.goto 5, 3) := by decide +kernel
theorem dX0_stairStep_60 : decode cX0_stairStep 60 = .ok (.bipush (-9), 2) := by decide +kernel
theorem dX0_stairStep_62 : decode cX0_stairStep 62 = .ok (.ireturn, 1) := by decide +kernel
theorem dX0_firstDifference_0 : decode cX0_firstDifference 0 = .ok (.aload_n 0, 1) := by decide +kernel
theorem dX0_firstDifference_1 : decode cX0_firstDifference 1 = .ok (.getfield 15, 3) := by decide +kernel
theorem dX0_firstDifference_4 : decode cX0_firstDifference 4 = .ok (.aload_n 1, 1) := by decide +kernel
theorem dX0_firstDifference_5 : decode cX0_firstDifference 5 = .ok (.getfield 15, 3) := by decide +kernel
theorem dX0_firstDifference_8 : decode cX0_firstDifference 8 = .ok (.invokestatic 25, 3) := by decide +kernel
theorem dX0_firstDifference_11 : decode cX0_firstDifference 11 = .ok (.istore_n 2, 1) := by decide +kernel
theorem dX0_firstDifference_12 : decode cX0_firstDifference 12 = .ok (.iconst 0, 1) := by decide +kernel
theorem dX0_firstDifference_13 : decode cX0_firstDifference 13 = .ok (.istore_n 3, 1) := by decide +kernel
theorem dX0_firstDifference_14 : decode cX0_firstDifference 14 = .ok (.iload_n 3, 1) := by decide +kernel
theorem dX0_firstDifference_15 : decode cX0_firstDifference 15 = .ok (.iload_n 2, 1) := by decide +kernel
theorem dX0_firstDifference_16 : decode cX0_firstDifference 16 = .ok (.if_icmp .ge 26, 3) := by decide +kernel
theorem dX0_firstDifference_19 : decode cX0_firstDifference 19 = .ok (.aload_n 0, 1) := by decide +kernel
theorem dX0_firstDifference_20 : decode cX0_firstDifference 20 = .ok (.getfield 9, 3) := by decide +kernel
theorem dX0_firstDifference_23 : decode cX0_firstDifference 23 = .ok (.iload_n 3, 1) := by decide +kernel
theorem dX0_firstDifference_24 : decode cX0_firstDifference 24 = .ok (.iaload, 1) := by decide +kernel
theorem dX0_firstDifference_25 : decode cX0_firstDifference 25 = .ok (.aload_n 1, 1) := by decide +kernel
theorem dX0_firstDifference_26 : decode cX0_firstDifference 26 = .ok (.getfield 9, 3) := by decide +kernel
theorem dX0_firstDifference_29 : decode cX0_firstDifference 29 = .ok (.iload_n 3, 1) := by decide +kernel
theorem dX0_firstDifference_30 : decode cX0_firstDifference 30 = .ok (.iaload, 1) := by decide +kernel
theorem dX0_firstDifference_31 : decode cX0_firstDifference 31 = .ok (.if_icmp .eq 5, 3) := by decide +kernel
theorem dX0_firstDifference_34 : decode cX0_firstDifference 34 = .ok (.iload_n 3, 1) := by decide +kernel
theorem dX0_firstDifference_35 : decode cX0_firstDifference 35 = .ok (.ireturn, 1) := by decide +kernel
theorem dX0_firstDifference_36 : decode cX0_firstDifference 36 = .ok (.iinc 3 1, 3) := by decide +kernel
theorem dX0_firstDifference_39 : decode cX0_firstDifference 39 = .ok (.goto (-25), 3) := by decide +kernel
theorem dX0_firstDifference_42 : decode cX0_firstDifference 42 = .ok (.aload_n 0, 1) := by decide +kernel
theorem dX0_firstDifference_43 : decode cX0_firstDifference 43 = .ok (.getfield 15, 3) := by decide +kernel
theorem dX0_firstDifference_46 : decode cX0_firstDifference 46 = .ok (.aload_n 1, 1) := by decide +kernel
theorem dX0_firstDifference_47 : decode cX0_firstDifference 47 = .ok (.getfield 15, 3) := by decide +kernel
theorem dX0_firstDifference_50 : decode cX0_firstDifference 50 = .ok (.if_icmp .ne 8, 3) := by decide +kernel
theorem dX0_firstDifference_53 : decode cX0_firstDifference 53 = .ok (.bipush (-9), 2) := by decide +kernel
theorem dX0_firstDifference_55 : decode cX0_firstDifference 55 = .ok (.goto 4, 3) := by decide +kernel
theorem dX0_firstDifference_58 : decode cX0_firstDifference 58 = .ok (.iload_n 2, 1) := by decide +kernel
theorem dX0_firstDifference_59 : decode cX0_firstDifference 59 = .ok (.ireturn, 1) := by decide +kernel
set_option maxRecDepth 20000 in
theorem ggX1_init_X0_init : GoodIn wsX1_init wsX0_init := goodIn_r _ [10, 11, 2, 3, 12, 13, 14, 17, 18] (by decide +kernel) (by decide +kernel)
set_option maxRecDepth 20000 in
theorem gX1_init_X0_init_n21 : GoodIn wsX1_init (wsX0_init) := ggX1_init_X0_init
theorem dX1_init_0 : decode cX1_init 0 = .ok (.aload_n 0, 1) := by decide +kernel
theorem dX1_init_1 : decode cX1_init 1 = .ok (.invokespecial 3, 3) := by decide +kernel
theorem dX1_init_4 : decode cX1_init 4 = .ok (.aload_n 0, 1) := by decide +kernel
theorem dX1_init_5 : decode cX1_init 5 = .ok (.bipush 8, 2) := by decide +kernel
theorem dX1_init_7 : decode cX1_init 7 = .ok (.anewarray 9, 3) := by decide +kernel
theorem dX1_init_10 : decode cX1_init 10 = .ok (.putfield 11, 3) := by decide +kernel
theorem dX1_init_13 : decode cX1_init 13 = .ok (.aload_n 0, 1) := by decide +kernel
theorem dX1_init_14 : decode cX1_init 14 = .ok (.iconst 0, 1) := by decide +kernel
theorem dX1_init_15 : decode cX1_init 15 = .ok (.putfield 17, 3) := by decide +kernel
theorem dX1_init_18 : decode cX1_init 18 = .ok (.iconst 0, 1) := by decide +kernel
theorem dX1_init_19 : decode cX1_init 19 = .ok (.istore_n 1, 1) := by decide +kernel
theorem dX1_init_20 : decode cX1_init 20 = .ok (.iload_n 1, 1) := by decide +kernel
theorem dX1_init_21 : decode cX1_init 21 = .ok (.bipush 8, 2) := by decide +kernel
theorem dX1_init_23 : decode cX1_init 23 = .ok (.if_icmp .ge 22, 3) := by decide +kernel
theorem dX1_init_26 : decode cX1_init 26 = .ok (.aload_n 0, 1) := by decide +kernel
theorem dX1_init_27 : decode cX1_init 27 = .ok (.getfield 11, 3) := by decide +kernel
theorem dX1_init_30 : decode cX1_init 30 = .ok (.iload_n 1, 1) := by decide +kernel
theorem dX1_init_31 : decode cX1_init 31 = .ok (.new 9, 3) := by decide +kernel
theorem dX1_init_34 : decode cX1_init 34 = .ok (.dup, 1) := by decide +kernel
theorem dX1_init_35 : decode cX1_init 35 = .ok (.invokespecial 21, 3) := by decide +kernel
theorem dX1_init_38 : decode cX1_init 38 = .ok (.aastore, 1) := by decide +kernel
theorem dX1_init_39 : decode cX1_init 39 = .ok (.iinc 1 1, 3) := by decide +kernel
theorem dX1_init_42 : decode cX1_init 42 = .ok (.goto (-22), 3) := by decide +kernel
theorem dX1_init_45 : decode cX1_init 45 = .ok (.return_, 1) := by decide +kernel
set_option maxRecDepth 20000 in
theorem ggX1_remember_X1_dropOldest : GoodIn wsX1_remember wsX1_dropOldest := goodIn_r _ [7, 2, 1, 19, 20] (by decide +kernel) (by decide +kernel)
set_option maxRecDepth 20000 in
theorem gX1_remember_X1_dropOldest : GoodIn wsX1_remember (wsV RX1 22 RX1 yX1_dropOldest wsX1_dropOldest) := goodIn_app (goodIn_of _ (by decide +kernel)) ggX1_remember_X1_dropOldest
set_option maxRecDepth 20000 in
theorem ggX1_remember_X0_copyFrom : GoodIn wsX1_remember wsX0_copyFrom := goodIn_r _ [12, 13, 14, 15, 16, 17, 18, 21, 22] (by decide +kernel) (by decide +kernel)
set_option maxRecDepth 20000 in
theorem gX1_remember_X0_copyFrom : GoodIn wsX1_remember (wsV RX1 25 RX0 yX0_copyFrom wsX0_copyFrom) := goodIn_app (goodIn_of _ (by decide +kernel)) ggX1_remember_X0_copyFrom
theorem dX1_remember_0 : decode cX1_remember 0 = .ok (.aload_n 0, 1) := by decide +kernel
theorem dX1_remember_1 : decode cX1_remember 1 = .ok (.getfield 17, 3) := by decide +kernel
theorem dX1_remember_4 : decode cX1_remember 4 = .ok (.bipush 8, 2) := by decide +kernel
theorem dX1_remember_6 : decode cX1_remember 6 = .ok (.if_icmp .ne 7, 3) := by decide +kernel
theorem dX1_remember_9 : decode cX1_remember 9 = .ok (.aload_n 0, 1) := by decide +kernel
theorem dX1_remember_10 : decode cX1_remember 10 = .ok (.invokevirtual 22, 3) := by decide +kernel
theorem dX1_remember_13 : decode cX1_remember 13 = .ok (.aload_n 0, 1) := by decide +kernel
theorem dX1_remember_14 : decode cX1_remember 14 = .ok (.getfield 11, 3) := by decide +kernel
theorem dX1_remember_17 : decode cX1_remember 17 = .ok (.aload_n 0, 1) := by decide +kernel
theorem dX1_remember_18 : decode cX1_remember 18 = .ok (.getfield 17, 3) := by decide +kernel
theorem dX1_remember_21 : decode cX1_remember 21 = .ok (.aaload, 1) := by decide +kernel
theorem dX1_remember_22 : decode cX1_remember 22 = .ok (.aload_n 1, 1) := by decide +kernel
theorem dX1_remember_23 : decode cX1_remember 23 = .ok (.invokevirtual 25, 3) := by decide +kernel
theorem dX1_remember_26 : decode cX1_remember 26 = .ok (.aload_n 0, 1) := by decide +kernel
theorem dX1_remember_27 : decode cX1_remember 27 = .ok (.dup, 1) := by decide +kernel
theorem dX1_remember_28 : decode cX1_remember 28 = .ok (.getfield 17, 3) := by decide +kernel
theorem dX1_remember_31 : decode cX1_remember 31 = .ok (.iconst 1, 1) := by decide +kernel
theorem dX1_remember_32 : decode cX1_remember 32 = .ok (.iadd, 1) := by decide +kernel
theorem dX1_remember_33 : decode cX1_remember 33 = .ok (.putfield 17, 3) := by decide +kernel
theorem dX1_remember_36 : decode cX1_remember 36 = .ok (.return_, 1) := by decide +kernel
set_option maxRecDepth 20000 in
theorem ggX1_restore_X0_copyFrom : GoodIn wsX1_restore wsX0_copyFrom := goodIn_r _ [7, 8, 9, 10, 11, 12, 13, 16, 17] (by decide +kernel) (by decide +kernel)
set_option maxRecDepth 20000 in
theorem gX1_restore_X0_copyFrom : GoodIn wsX1_restore (wsV RX1 25 RX0 yX0_copyFrom wsX0_copyFrom) := goodIn_app (goodIn_of _ (by decide +kernel)) ggX1_restore_X0_copyFrom
theorem dX1_restore_0 : decode cX1_restore 0 = .ok (.aload_n 0, 1) := by decide +kernel
theorem dX1_restore_1 : decode cX1_restore 1 = .ok (.dup, 1) := by decide +kernel
theorem dX1_restore_2 : decode cX1_restore 2 = .ok (.getfield 17, 3) := by decide +kernel
theorem dX1_restore_5 : decode cX1_restore 5 = .ok (.iconst 1, 1) := by decide +kernel
theorem dX1_restore_6 : decode cX1_restore 6 = .ok (.isub, 1) := by decide +kernel
theorem dX1_restore_7 : decode cX1_restore 7 = .ok (.putfield 17, 3) := by decide +kernel
theorem dX1_restore_10 : decode cX1_restore 10 = .ok (.aload_n 1, 1) := by decide +kernel
theorem dX1_restore_11 : decode cX1_restore 11 = .ok (.aload_n 0, 1) := by decide +kernel
theorem dX1_restore_12 : decode cX1_restore 12 = .ok (.getfield 11, 3) := by decide +kernel
theorem dX1_restore_15 : decode cX1_restore 15 = .ok (.aload_n 0, 1) := by decide +kernel
theorem dX1_restore_16 : decode cX1_restore 16 = .ok (.getfield 17, 3) := by decide +kernel
theorem dX1_restore_19 : decode cX1_restore 19 = .ok (.aaload, 1) := by decide +kernel
theorem dX1_restore_20 : decode cX1_restore 20 = .ok (.invokevirtual 25, 3) := by decide +kernel
theorem dX1_restore_23 : decode cX1_restore 23 = .ok (.return_, 1) := by decide +kernel
theorem dX1_dropOldest_0 : decode cX1_dropOldest 0 = .ok (.aload_n 0, 1) := by decide +kernel
theorem dX1_dropOldest_1 : decode cX1_dropOldest 1 = .ok (.getfield 11, 3) := by decide +kernel
theorem dX1_dropOldest_4 : decode cX1_dropOldest 4 = .ok (.iconst 0, 1) := by decide +kernel
theorem dX1_dropOldest_5 : decode cX1_dropOldest 5 = .ok (.aaload, 1) := by decide +kernel
theorem dX1_dropOldest_6 : decode cX1_dropOldest 6 = .ok (.astore_n 1, 1) := by decide +kernel
theorem dX1_dropOldest_7 : decode cX1_dropOldest 7 = .ok (.iconst 1, 1) := by decide +kernel
theorem dX1_dropOldest_8 : decode cX1_dropOldest 8 = .ok (.istore_n 2, 1) := by decide +kernel
theorem dX1_dropOldest_9 : decode cX1_dropOldest 9 = .ok (.iload_n 2, 1) := by decide +kernel
theorem dX1_dropOldest_10 : decode cX1_dropOldest 10 = .ok (.bipush 8, 2) := by decide +kernel
theorem dX1_dropOldest_12 : decode cX1_dropOldest 12 = .ok (.if_icmp .ge 23, 3) := by decide +kernel
theorem dX1_dropOldest_15 : decode cX1_dropOldest 15 = .ok (.aload_n 0, 1) := by decide +kernel
theorem dX1_dropOldest_16 : decode cX1_dropOldest 16 = .ok (.getfield 11, 3) := by decide +kernel
theorem dX1_dropOldest_19 : decode cX1_dropOldest 19 = .ok (.iload_n 2, 1) := by decide +kernel
theorem dX1_dropOldest_20 : decode cX1_dropOldest 20 = .ok (.iconst 1, 1) := by decide +kernel
theorem dX1_dropOldest_21 : decode cX1_dropOldest 21 = .ok (.isub, 1) := by decide +kernel
theorem dX1_dropOldest_22 : decode cX1_dropOldest 22 = .ok (.aload_n 0, 1) := by decide +kernel
theorem dX1_dropOldest_23 : decode cX1_dropOldest 23 = .ok (.getfield 11, 3) := by decide +kernel
theorem dX1_dropOldest_26 : decode cX1_dropOldest 26 = .ok (.iload_n 2, 1) := by decide +kernel
theorem dX1_dropOldest_27 : decode cX1_dropOldest 27 = .ok (.aaload, 1) := by decide +kernel
theorem dX1_dropOldest_28 : decode cX1_dropOldest 28 = .ok (.aastore, 1) := by decide +kernel
theorem dX1_dropOldest_29 : decode cX1_dropOldest 29 = .ok (.iinc 2 1, 3) := by decide +kernel
theorem dX1_dropOldest_32 : decode cX1_dropOldest 32 = .ok (.goto (-23), 3) := by decide +kernel
theorem dX1_dropOldest_35 : decode cX1_dropOldest 35 = .ok (.aload_n 0, 1) := by decide +kernel
theorem dX1_dropOldest_36 : decode cX1_dropOldest 36 = .ok (.getfield 11, 3) := by decide +kernel
theorem dX1_dropOldest_39 : decode cX1_dropOldest 39 = .ok (.bipush 7, 2) := by decide +kernel
theorem dX1_dropOldest_41 : decode cX1_dropOldest 41 = .ok (.aload_n 1, 1) := by decide +kernel
theorem dX1_dropOldest_42 : decode cX1_dropOldest 42 = .ok (.aastore, 1) := by decide +kernel
theorem dX1_dropOldest_43 : decode cX1_dropOldest 43 = .ok (.aload_n 0, 1) := by decide +kernel
theorem dX1_dropOldest_44 : decode cX1_dropOldest 44 = .ok (.dup, 1) := by decide +kernel
theorem dX1_dropOldest_45 : decode cX1_dropOldest 45 = .ok (.getfield 17, 3) := by decide +kernel
theorem dX1_dropOldest_48 : decode cX1_dropOldest 48 = .ok (.iconst 1, 1) := by decide +kernel
theorem dX1_dropOldest_49 : decode cX1_dropOldest 49 = .ok (.isub, 1) := by decide +kernel
theorem dX1_dropOldest_50 : decode cX1_dropOldest 50 = .ok (.putfield 17, 3) := by decide +kernel
theorem dX1_dropOldest_53 : decode cX1_dropOldest 53 = .ok (.return_, 1) := by decide +kernel
theorem dX2_init_0 : decode cX2_init 0 = .ok (.aload_n 0, 1) := by decide +kernel
theorem dX2_init_1 : decode cX2_init 1 = .ok (.invokespecial 3, 3) := by decide +kernel
theorem dX2_init_4 : decode cX2_init 4 = .ok (.aload_n 0, 1) := by decide +kernel
theorem dX2_init_5 : decode cX2_init 5 = .ok (.bipush 40, 2) := by decide +kernel
theorem dX2_init_7 : decode cX2_init 7 = .ok (.newarray .int, 2) := by decide +kernel
theorem dX2_init_9 : decode cX2_init 9 = .ok (.putfield 9, 3) := by decide +kernel
theorem dX2_init_12 : decode cX2_init 12 = .ok (.return_, 1) := by decide +kernel
set_option maxRecDepth 20000 in
theorem ggX2_countStrokes_J7_fill_53178 : GoodIn wsX2_countStrokes wsJ7_fill_53178 := goodIn_r _ [5] (by decide +kernel) (by decide +kernel)
set_option maxRecDepth 20000 in
theorem gX2_countStrokes_J7_fill_53178 : GoodIn wsX2_countStrokes (va_wsS RX2 15 yJ7_fill_53178 wsJ7_fill_53178) := goodIn_app (goodIn_of _ (by decide +kernel)) ggX2_countStrokes_J7_fill_53178
set_option maxRecDepth 20000 in
theorem ggX2_countStrokes_X0_greatestHeight : GoodIn wsX2_countStrokes wsX0_greatestHeight := goodIn_r _ [10, 11, 12, 13, 14, 15, 38, 39] (by decide +kernel) (by decide +kernel)
set_option maxRecDepth 20000 in
theorem gX2_countStrokes_X0_greatestHeight : GoodIn wsX2_countStrokes (wsV RX2 21 RX0 yX0_greatestHeight wsX0_greatestHeight) := goodIn_app (goodIn_of _ (by decide +kernel)) ggX2_countStrokes_X0_greatestHeight
set_option maxRecDepth 20000 in
theorem ggX2_countStrokes_X2_paintRow : GoodIn wsX2_countStrokes wsX2_paintRow := goodIn_r _ [20, 21, 22, 23, 19, 24, 1, 25, 26, 27, 28, 29, 14, 30, 31, 32, 4, 33, 34, 35, 36, 38, 39, 37] (by decide +kernel) (by decide +kernel)
set_option maxRecDepth 20000 in
theorem gX2_countStrokes_X2_paintRow : GoodIn wsX2_countStrokes (wsV RX2 27 RX2 yX2_paintRow wsX2_paintRow) := goodIn_app (goodIn_of _ (by decide +kernel)) ggX2_countStrokes_X2_paintRow
set_option maxRecDepth 20000 in
theorem ggX2_countStrokes_X6_sumOf : GoodIn wsX2_countStrokes wsX6_sumOf := goodIn_r _ [30] (by decide +kernel) (by decide +kernel)
set_option maxRecDepth 20000 in
theorem gX2_countStrokes_X6_sumOf_n35 : GoodIn wsX2_countStrokes (wsX6_sumOf) := ggX2_countStrokes_X6_sumOf
theorem dX2_countStrokes_0 : decode cX2_countStrokes 0 = .ok (.aload_n 0, 1) := by decide +kernel
theorem dX2_countStrokes_1 : decode cX2_countStrokes 1 = .ok (.getfield 9, 3) := by decide +kernel
theorem dX2_countStrokes_4 : decode cX2_countStrokes 4 = .ok (.iconst 0, 1) := by decide +kernel
theorem dX2_countStrokes_5 : decode cX2_countStrokes 5 = .ok (.invokestatic 15, 3) := by decide +kernel
theorem dX2_countStrokes_8 : decode cX2_countStrokes 8 = .ok (.aload_n 1, 1) := by decide +kernel
theorem dX2_countStrokes_9 : decode cX2_countStrokes 9 = .ok (.invokevirtual 21, 3) := by decide +kernel
theorem dX2_countStrokes_12 : decode cX2_countStrokes 12 = .ok (.istore_n 2, 1) := by decide +kernel
theorem dX2_countStrokes_13 : decode cX2_countStrokes 13 = .ok (.iload_n 2, 1) := by decide +kernel
theorem dX2_countStrokes_14 : decode cX2_countStrokes 14 = .ok (.iconst 1, 1) := by decide +kernel
theorem dX2_countStrokes_15 : decode cX2_countStrokes 15 = .ok (.if_icmp .lt 15, 3) := by decide +kernel
theorem dX2_countStrokes_18 : decode cX2_countStrokes 18 = .ok (.aload_n 0, 1) := by decide +kernel
theorem dX2_countStrokes_19 : decode cX2_countStrokes 19 = .ok (.iload_n 2, 1) := by decide +kernel
theorem dX2_countStrokes_20 : decode cX2_countStrokes 20 = .ok (.aload_n 1, 1) := by decide +kernel
theorem dX2_countStrokes_21 : decode cX2_countStrokes 21 = .ok (.invokevirtual 27, 3) := by decide +kernel
theorem dX2_countStrokes_24 : decode cX2_countStrokes 24 = .ok (.iinc 2 (-1), 3) := by decide +kernel
theorem dX2_countStrokes_27 : decode cX2_countStrokes 27 = .ok (.goto (-14), 3) := by decide +kernel
theorem dX2_countStrokes_30 : decode cX2_countStrokes 30 = .ok (.aload_n 0, 1) := by decide +kernel
theorem dX2_countStrokes_31 : decode cX2_countStrokes 31 = .ok (.getfield 9, 3) := by decide +kernel
theorem dX2_countStrokes_34 : decode cX2_countStrokes 34 = .ok (.iconst 0, 1) := by decide +kernel
theorem dX2_countStrokes_35 : decode cX2_countStrokes 35 = .ok (.aload_n 1, 1) := by decide +kernel
theorem dX2_countStrokes_36 : decode cX2_countStrokes 36 = .ok (.getfield 31, 3) := by decide +kernel
theorem dX2_countStrokes_39 : decode cX2_countStrokes 39 = .ok (.iconst 1, 1) := by decide +kernel
theorem dX2_countStrokes_40 : decode cX2_countStrokes 40 = .ok (.isub, 1) := by decide +kernel
theorem dX2_countStrokes_41 : decode cX2_countStrokes 41 = .ok (.invokestatic 35, 3) := by decide +kernel
theorem dX2_countStrokes_44 : decode cX2_countStrokes 44 = .ok (.ireturn, 1) := by decide +kernel
set_option maxRecDepth 20000 in
theorem ggX2_paintRow_X2_paintRun : GoodIn wsX2_paintRow wsX2_paintRun := goodIn_r _ [5, 6, 7, 8, 9, 10, 11, 12, 13, 14, 15, 16, 17, 18, 19, 20, 23] (by decide +kernel) (by decide +kernel)
set_option maxRecDepth 20000 in
theorem gX2_paintRow_X2_paintRun : GoodIn wsX2_paintRow (wsV RX2 42 RX2 yX2_paintRun wsX2_paintRun) := goodIn_app (goodIn_of _ (by decide +kernel)) ggX2_paintRow_X2_paintRun
theorem dX2_paintRow_0 : decode cX2_paintRow 0 = .ok (.bipush (-9), 2) := by decide +kernel
theorem dX2_paintRow_2 : decode cX2_paintRow 2 = .ok (.istore_n 3, 1) := by decide +kernel
theorem dX2_paintRow_3 : decode cX2_paintRow 3 = .ok (.iconst 0, 1) := by decide +kernel
theorem dX2_paintRow_4 : decode cX2_paintRow 4 = .ok (.istore 4, 2) := by decide +kernel
theorem dX2_paintRow_6 : decode cX2_paintRow 6 = .ok (.iload 4, 2) := by decide +kernel
theorem dX2_paintRow_8 : decode cX2_paintRow 8 = .ok (.aload_n 2, 1) := by decide +kernel
theorem dX2_paintRow_9 : decode cX2_paintRow 9 = .ok (.getfield 31, 3) := by decide +kernel
theorem dX2_paintRow_12 : decode cX2_paintRow 12 = .ok (.if_icmp .ge 44, 3) := by decide +kernel
theorem dX2_paintRow_15 : decode cX2_paintRow 15 = .ok (.aload_n 2, 1) := by decide +kernel
theorem dX2_paintRow_16 : decode cX2_paintRow 16 = .ok (.getfield 39, 3) := by decide +kernel
theorem dX2_paintRow_19 : decode cX2_paintRow 19 = .ok (.iload 4, 2) := by decide +kernel
theorem dX2_paintRow_21 : decode cX2_paintRow 21 = .ok (.iaload, 1) := by decide +kernel
theorem dX2_paintRow_22 : decode cX2_paintRow 22 = .ok (.iload_n 1, 1) := by decide +kernel
theorem dX2_paintRow_23 : decode cX2_paintRow 23 = .ok (.if_icmp .ge 18, 3) := by decide +kernel
theorem dX2_paintRow_26 : decode cX2_paintRow 26 = .ok (.aload_n 0, 1) := by decide +kernel
theorem dX2_paintRow_27 : decode cX2_paintRow 27 = .ok (.iload_n 3, 1) := by decide +kernel
theorem dX2_paintRow_28 : decode cX2_paintRow 28 = .ok (.iload 4, 2) := by decide +kernel
theorem dX2_paintRow_30 : decode cX2_paintRow 30 = .ok (.iconst 1, 1) := by decide +kernel
theorem dX2_paintRow_31 : decode cX2_paintRow 31 = .ok (.isub, 1) := by decide +kernel
theorem dX2_paintRow_32 : decode cX2_paintRow 32 = .ok (.invokevirtual 42, 3) := by decide +kernel
theorem dX2_paintRow_35 : decode cX2_paintRow 35 = .ok (.bipush (-9), 2) := by decide +kernel
theorem dX2_paintRow_37 : decode cX2_paintRow 37 = .ok (.istore_n 3, 1) := by decide +kernel
theorem dX2_paintRow_38 : decode cX2_paintRow 38 = .ok (.goto 12, 3) := by decide +kernel
theorem dX2_paintRow_41 : decode cX2_paintRow 41 = .ok (.iload_n 3, 1) := by decide +kernel
theorem dX2_paintRow_42 : decode cX2_paintRow 42 = .ok (.bipush (-9), 2) := by decide +kernel
theorem dX2_paintRow_44 : decode cX2_paintRow 44 = .ok (.if_icmp .ne 6, 3) := by decide +kernel
theorem dX2_paintRow_47 : decode cX2_paintRow 47 = .ok (.iload 4, 2) := by decide +kernel
theorem dX2_paintRow_49 : decode cX2_paintRow 49 = .ok (.istore_n 3, 1) := by decide +kernel
theorem dX2_paintRow_50 : decode cX2_paintRow 50 = .ok (.iinc 4 1, 3) := by decide +kernel
theorem dX2_paintRow_53 : decode cX2_paintRow 53 = .ok (.goto (-47), 3) := by decide +kernel
theorem dX2_paintRow_56 : decode cX2_paintRow 56 = .ok (.aload_n 0, 1) := by decide +kernel
theorem dX2_paintRow_57 : decode cX2_paintRow 57 = .ok (.iload_n 3, 1) := by decide +kernel
theorem dX2_paintRow_58 : decode cX2_paintRow 58 = .ok (.aload_n 2, 1) := by decide +kernel
theorem dX2_paintRow_59 : decode cX2_paintRow 59 = .ok (.getfield 31, 3) := by decide +kernel
theorem dX2_paintRow_62 : decode cX2_paintRow 62 = .ok (.iconst 1, 1) := by decide +kernel
theorem dX2_paintRow_63 : decode cX2_paintRow 63 = .ok (.isub, 1) := by decide +kernel
theorem dX2_paintRow_64 : decode cX2_paintRow 64 = .ok (.invokevirtual 42, 3) := by decide +kernel
theorem dX2_paintRow_67 : decode cX2_paintRow 67 = .ok (.return_, 1) := by decide +kernel
set_option maxRecDepth 20000 in
theorem ggX2_paintRun_X6_sumOf : GoodIn wsX2_paintRun wsX6_sumOf := goodIn_r _ [8] (by decide +kernel) (by decide +kernel)
set_option maxRecDepth 20000 in
theorem gX2_paintRun_X6_sumOf_n35 : GoodIn wsX2_paintRun (wsX6_sumOf) := ggX2_paintRun_X6_sumOf
set_option maxRecDepth 20000 in
theorem ggX2_paintRun_J7_fill_fda19 : GoodIn wsX2_paintRun wsJ7_fill_fda19 := goodIn_r _ [12, 13, 14, 11, 15] (by decide +kernel) (by decide +kernel)
set_option maxRecDepth 20000 in
theorem gX2_paintRun_J7_fill_fda19 : GoodIn wsX2_paintRun (va_wsS RX2 46 yJ7_fill_fda19 wsJ7_fill_fda19) := goodIn_app (goodIn_of _ (by decide +kernel)) ggX2_paintRun_J7_fill_fda19
theorem dX2_paintRun_0 : decode cX2_paintRun 0 = .ok (.iload_n 1, 1) := by decide +kernel
theorem dX2_paintRun_1 : decode cX2_paintRun 1 = .ok (.bipush (-9), 2) := by decide +kernel
theorem dX2_paintRun_3 : decode cX2_paintRun 3 = .ok (.if_icmp .ne 4, 3) := by decide +kernel
theorem dX2_paintRun_6 : decode cX2_paintRun 6 = .ok (.return_, 1) := by decide +kernel
theorem dX2_paintRun_7 : decode cX2_paintRun 7 = .ok (.aload_n 0, 1) := by decide +kernel
theorem dX2_paintRun_8 : decode cX2_paintRun 8 = .ok (.getfield 9, 3) := by decide +kernel
theorem dX2_paintRun_11 : decode cX2_paintRun 11 = .ok (.iload_n 1, 1) := by decide +kernel
theorem dX2_paintRun_12 : decode cX2_paintRun 12 = .ok (.iload_n 2, 1) := by decide +kernel
theorem dX2_paintRun_13 : decode cX2_paintRun 13 = .ok (.invokestatic 35, 3) := by decide +kernel
theorem dX2_paintRun_16 : decode cX2_paintRun 16 = .ok (.istore_n 3, 1) := by decide +kernel
theorem dX2_paintRun_17 : decode cX2_paintRun 17 = .ok (.aload_n 0, 1) := by decide +kernel
theorem dX2_paintRun_18 : decode cX2_paintRun 18 = .ok (.getfield 9, 3) := by decide +kernel
theorem dX2_paintRun_21 : decode cX2_paintRun 21 = .ok (.iload_n 1, 1) := by decide +kernel
theorem dX2_paintRun_22 : decode cX2_paintRun 22 = .ok (.iload_n 2, 1) := by decide +kernel
theorem dX2_paintRun_23 : decode cX2_paintRun 23 = .ok (.iconst 1, 1) := by decide +kernel
theorem dX2_paintRun_24 : decode cX2_paintRun 24 = .ok (.iadd, 1) := by decide +kernel
theorem dX2_paintRun_25 : decode cX2_paintRun 25 = .ok (.iconst 0, 1) := by decide +kernel
theorem dX2_paintRun_26 : decode cX2_paintRun 26 = .ok (.invokestatic 46, 3) := by decide +kernel
theorem dX2_paintRun_29 : decode cX2_paintRun 29 = .ok (.aload_n 0, 1) := by decide +kernel
theorem dX2_paintRun_30 : decode cX2_paintRun 30 = .ok (.getfield 9, 3) := by decide +kernel
theorem dX2_paintRun_33 : decode cX2_paintRun 33 = .ok (.iload_n 1, 1) := by decide +kernel
theorem dX2_paintRun_34 : decode cX2_paintRun 34 = .ok (.iload_n 3, 1) := by decide +kernel
theorem dX2_paintRun_35 : decode cX2_paintRun 35 = .ok (.iconst 1, 1) := by decide +kernel
theorem dX2_paintRun_36 : decode cX2_paintRun 36 = .ok (.iadd, 1) := by decide +kernel
theorem dX2_paintRun_37 : decode cX2_paintRun 37 = .ok (.iload_n 2, 1) := by decide +kernel
theorem dX2_paintRun_38 : decode cX2_paintRun 38 = .ok (.iload_n 1, 1) := by decide +kernel
theorem dX2_paintRun_39 : decode cX2_paintRun 39 = .ok (.isub, 1) := by decide +kernel
theorem dX2_paintRun_40 : decode cX2_paintRun 40 = .ok (.iconst 1, 1) := by decide +kernel
theorem dX2_paintRun_41 : decode cX2_paintRun 41 = .ok (.iadd, 1) := by decide +kernel
theorem dX2_paintRun_42 : decode cX2_paintRun 42 = .ok (.invokestatic 49, 3) := by decide +kernel
theorem dX2_paintRun_45 : decode cX2_paintRun 45 = .ok (.iastore, 1) := by decide +kernel
theorem dX2_paintRun_46 : decode cX2_paintRun 46 = .ok (.return_, 1) := by decide +kernel
theorem dX3_init_0 : decode cX3_init 0 = .ok (.aload_n 0, 1) := by decide +kernel
theorem dX3_init_1 : decode cX3_init 1 = .ok (.invokespecial 3, 3) := by decide +kernel
theorem dX3_init_4 : decode cX3_init 4 = .ok (.aload_n 0, 1) := by decide +kernel
theorem dX3_init_5 : decode cX3_init 5 = .ok (.bipush 40, 2) := by decide +kernel
theorem dX3_init_7 : decode cX3_init 7 = .ok (.newarray .int, 2) := by decide +kernel
theorem dX3_init_9 : decode cX3_init 9 = .ok (.putfield 9, 3) := by decide +kernel
theorem dX3_init_12 : decode cX3_init 12 = .ok (.aload_n 0, 1) := by decide +kernel
theorem dX3_init_13 : decode cX3_init 13 = .ok (.bipush 40, 2) := by decide +kernel
theorem dX3_init_15 : decode cX3_init 15 = .ok (.newarray .int, 2) := by decide +kernel
theorem dX3_init_17 : decode cX3_init 17 = .ok (.putfield 15, 3) := by decide +kernel
theorem dX3_init_20 : decode cX3_init 20 = .ok (.aload_n 0, 1) := by decide +kernel
theorem dX3_init_21 : decode cX3_init 21 = .ok (.bipush 40, 2) := by decide +kernel
theorem dX3_init_23 : decode cX3_init 23 = .ok (.newarray .int, 2) := by decide +kernel
theorem dX3_init_25 : decode cX3_init 25 = .ok (.putfield 18, 3) := by decide +kernel
theorem dX3_init_28 : decode cX3_init 28 = .ok (.aload_n 0, 1) := by decide +kernel
theorem dX3_init_29 : decode cX3_init 29 = .ok (.bipush 40, 2) := by decide +kernel
theorem dX3_init_31 : decode cX3_init 31 = .ok (.newarray .int, 2) := by decide +kernel
theorem dX3_init_33 : decode cX3_init 33 = .ok (.putfield 21, 3) := by decide +kernel
theorem dX3_init_36 : decode cX3_init 36 = .ok (.aload_n 0, 1) := by decide +kernel
theorem dX3_init_37 : decode cX3_init 37 = .ok (.iconst 0, 1) := by decide +kernel
theorem dX3_init_38 : decode cX3_init 38 = .ok (.putfield 24, 3) := by decide +kernel
theorem dX3_init_41 : decode cX3_init 41 = .ok (.return_, 1) := by decide +kernel
set_option maxRecDepth 20000 in
theorem ggX3_find_X3_findOwnedBy : GoodIn wsX3_find wsX3_findOwnedBy := goodIn_r _ [6, 7, 8, 9, 5, 10, 1, 11, 12, 13, 14, 15, 16, 17, 18, 19, 20, 21, 22, 23, 24, 25, 26, 27] (by decide +kernel) (by decide +kernel)
set_option maxRecDepth 20000 in
theorem gX3_find_X3_findOwnedBy : GoodIn wsX3_find (wsV RX3 28 RX3 yX3_findOwnedBy wsX3_findOwnedBy) := goodIn_app (goodIn_of _ (by decide +kernel)) ggX3_find_X3_findOwnedBy
theorem dX3_find_0 : decode cX3_find 0 = .ok (.aload_n 0, 1) := by decide +kernel
theorem dX3_find_1 : decode cX3_find 1 = .ok (.iconst 0, 1) := by decide +kernel
theorem dX3_find_2 : decode cX3_find 2 = .ok (.putfield 24, 3) := by decide +kernel
theorem dX3_find_5 : decode cX3_find 5 = .ok (.iload_n 2, 1) := by decide +kernel
theorem dX3_find_6 : decode cX3_find 6 = .ok (.istore 4, 2) := by decide +kernel
theorem dX3_find_8 : decode cX3_find 8 = .ok (.iload 4, 2) := by decide +kernel
theorem dX3_find_10 : decode cX3_find 10 = .ok (.iload_n 3, 1) := by decide +kernel
theorem dX3_find_11 : decode cX3_find 11 = .ok (.if_icmp .gt 25, 3) := by decide +kernel
theorem dX3_find_14 : decode cX3_find 14 = .ok (.aload_n 1, 1) := by decide +kernel
theorem dX3_find_15 : decode cX3_find 15 = .ok (.iload 4, 2) := by decide +kernel
theorem dX3_find_17 : decode cX3_find 17 = .ok (.iaload, 1) := by decide +kernel
theorem dX3_find_18 : decode cX3_find 18 = .ok (.ifCond .le 12, 3) := by decide +kernel
theorem dX3_find_21 : decode cX3_find 21 = .ok (.aload_n 0, 1) := by decide +kernel
theorem dX3_find_22 : decode cX3_find 22 = .ok (.iload 4, 2) := by decide +kernel
theorem dX3_find_24 : decode cX3_find 24 = .ok (.aload_n 1, 1) := by decide +kernel
theorem dX3_find_25 : decode cX3_find 25 = .ok (.iload_n 2, 1) := by decide +kernel
theorem dX3_find_26 : decode cX3_find 26 = .ok (.iload_n 3, 1) := by decide +kernel
theorem dX3_find_27 : decode cX3_find 27 = .ok (.invokevirtual 28, 3) := by decide +kernel
theorem dX3_find_30 : decode cX3_find 30 = .ok (.iinc 4 1, 3) := by decide +kernel
theorem dX3_find_33 : decode cX3_find 33 = .ok (.goto (-25), 3) := by decide +kernel
theorem dX3_find_36 : decode cX3_find 36 = .ok (.return_, 1) := by decide +kernel
set_option maxRecDepth 20000 in
theorem ggX3_property_X3_area : GoodIn wsX3_property wsX3_area := goodIn_r _ [8, 3, 2, 1, 9, 10, 11, 12, 13] (by decide +kernel) (by decide +kernel)
set_option maxRecDepth 20000 in
theorem gX3_property_X3_area : GoodIn wsX3_property (wsV RX3 32 RX3 yX3_area wsX3_area) := goodIn_app (goodIn_of _ (by decide +kernel)) ggX3_property_X3_area
theorem dX3_property_0 : decode cX3_property 0 = .ok (.iload_n 2, 1) := by decide +kernel
theorem dX3_property_1 : decode cX3_property 1 = .ok (.tableswitch 47 0 2 #[27, 33, 40], 27) := by decide +kernel
theorem dX3_property_28 : decode cX3_property 28 = .ok (.aload_n 0, 1) := by decide +kernel
theorem dX3_property_29 : decode cX3_property 29 = .ok (.iload_n 1, 1) := by decide +kernel
theorem dX3_property_30 : decode cX3_property 30 = .ok (.invokevirtual 32, 3) := by decide +kernel
theorem dX3_property_33 : decode cX3_property 33 = .ok (.ireturn, 1) := by decide +kernel
theorem dX3_property_34 : decode cX3_property 34 = .ok (.aload_n 0, 1) := by decide +kernel
theorem dX3_property_35 : decode cX3_property 35 = .ok (.getfield 9, 3) := by decide +kernel
theorem dX3_property_38 : decode cX3_property 38 = .ok (.iload_n 1, 1) := by decide +kernel
theorem dX3_property_39 : decode cX3_property 39 = .ok (.iaload, 1) := by decide +kernel
theorem dX3_property_40 : decode cX3_property 40 = .ok (.ireturn, 1) := by decide +kernel
theorem dX3_property_41 : decode cX3_property 41 = .ok (.aload_n 0, 1) := by decide +kernel
theorem dX3_property_42 : decode cX3_property 42 = .ok (.getfield 15, 3) := by decide +kernel
theorem dX3_property_45 : decode cX3_property 45 = .ok (.iload_n 1, 1) := by decide +kernel
theorem dX3_property_46 : decode cX3_property 46 = .ok (.iaload, 1) := by decide +kernel
theorem dX3_property_47 : decode cX3_property 47 = .ok (.ireturn, 1) := by decide +kernel
theorem dX3_property_48 : decode cX3_property 48 = .ok (.aload_n 0, 1) := by decide +kernel
theorem dX3_property_49 : decode cX3_property 49 = .ok (.getfield 18, 3) := by decide +kernel
theorem dX3_property_52 : decode cX3_property 52 = .ok (.iload_n 1, 1) := by decide +kernel
theorem dX3_property_53 : decode cX3_property 53 = .ok (.iaload, 1) := by decide +kernel
theorem dX3_property_54 : decode cX3_property 54 = .ok (.ireturn, 1) := by decide +kernel
theorem dX3_countOwners_0 : decode cX3_countOwners 0 = .ok (.iconst 0, 1) := by decide +kernel
theorem dX3_countOwners_1 : decode cX3_countOwners 1 = .ok (.istore_n 3, 1) := by decide +kernel
theorem dX3_countOwners_2 : decode cX3_countOwners 2 = .ok (.aload_n 0, 1) := by decide +kernel
theorem dX3_countOwners_3 : decode cX3_countOwners 3 = .ok (.getfield 9, 3) := by decide +kernel
theorem dX3_countOwners_6 : decode cX3_countOwners 6 = .ok (.iload_n 1, 1) := by decide +kernel
theorem dX3_countOwners_7 : decode cX3_countOwners 7 = .ok (.iaload, 1) := by decide +kernel
theorem dX3_countOwners_8 : decode cX3_countOwners 8 = .ok (.istore 4, 2) := by decide +kernel
theorem dX3_countOwners_10 : decode cX3_countOwners 10 = .ok (.iload 4, 2) := by decide +kernel
theorem dX3_countOwners_12 : decode cX3_countOwners 12 = .ok (.aload_n 0, 1) := by decide +kernel
theorem dX3_countOwners_13 : decode cX3_countOwners 13 = .ok (.getfield 15, 3) := by decide +kernel
theorem dX3_countOwners_16 : decode cX3_countOwners 16 = .ok (.iload_n 1, 1) := by decide +kernel
theorem dX3_countOwners_17 : decode cX3_countOwners 17 = .ok (.iaload, 1) := by decide +kernel
theorem dX3_countOwners_18 : decode cX3_countOwners 18 = .ok (.if_icmp .gt 25, 3) := by decide +kernel
theorem dX3_countOwners_21 : decode cX3_countOwners 21 = .ok (.aload_n 2, 1) := by decide +kernel
theorem dX3_countOwners_22 : decode cX3_countOwners 22 = .ok (.iload 4, 2) := by decide +kernel
theorem dX3_countOwners_24 : decode cX3_countOwners 24 = .ok (.iaload, 1) := by decide +kernel
theorem dX3_countOwners_25 : decode cX3_countOwners 25 = .ok (.aload_n 0, 1) := by decide +kernel
theorem dX3_countOwners_26 : decode cX3_countOwners 26 = .ok (.getfield 18, 3) := by decide +kernel
theorem dX3_countOwners_29 : decode cX3_countOwners 29 = .ok (.iload_n 1, 1) := by decide +kernel
theorem dX3_countOwners_30 : decode cX3_countOwners 30 = .ok (.iaload, 1) := by decide +kernel
theorem dX3_countOwners_31 : decode cX3_countOwners 31 = .ok (.if_icmp .ne 6, 3) := by decide +kernel
theorem dX3_countOwners_34 : decode cX3_countOwners 34 = .ok (.iinc 3 1, 3) := by decide +kernel
theorem dX3_countOwners_37 : decode cX3_countOwners 37 = .ok (.iinc 4 1, 3) := by decide +kernel
theorem dX3_countOwners_40 : decode cX3_countOwners 40 = .ok (.goto (-30), 3) := by decide +kernel
theorem dX3_countOwners_43 : decode cX3_countOwners 43 = .ok (.iload_n 3, 1) := by decide +kernel
theorem dX3_countOwners_44 : decode cX3_countOwners 44 = .ok (.ireturn, 1) := by decide +kernel
theorem dX3_area_0 : decode cX3_area 0 = .ok (.aload_n 0, 1) := by decide +kernel
theorem dX3_area_1 : decode cX3_area 1 = .ok (.getfield 18, 3) := by decide +kernel
theorem dX3_area_4 : decode cX3_area 4 = .ok (.iload_n 1, 1) := by decide +kernel
theorem dX3_area_5 : decode cX3_area 5 = .ok (.iaload, 1) := by decide +kernel
theorem dX3_area_6 : decode cX3_area 6 = .ok (.aload_n 0, 1) := by decide +kernel
theorem dX3_area_7 : decode cX3_area 7 = .ok (.getfield 15, 3) := by decide +kernel
theorem dX3_area_10 : decode cX3_area 10 = .ok (.iload_n 1, 1) := by decide +kernel
theorem dX3_area_11 : decode cX3_area 11 = .ok (.iaload, 1) := by decide +kernel
theorem dX3_area_12 : decode cX3_area 12 = .ok (.aload_n 0, 1) := by decide +kernel
theorem dX3_area_13 : decode cX3_area 13 = .ok (.getfield 9, 3) := by decide +kernel
theorem dX3_area_16 : decode cX3_area 16 = .ok (.iload_n 1, 1) := by decide +kernel
theorem dX3_area_17 : decode cX3_area 17 = .ok (.iaload, 1) := by decide +kernel
theorem dX3_area_18 : decode cX3_area 18 = .ok (.isub, 1) := by decide +kernel
theorem dX3_area_19 : decode cX3_area 19 = .ok (.iconst 1, 1) := by decide +kernel
theorem dX3_area_20 : decode cX3_area 20 = .ok (.iadd, 1) := by decide +kernel
theorem dX3_area_21 : decode cX3_area 21 = .ok (.imul, 1) := by decide +kernel
theorem dX3_area_22 : decode cX3_area 22 = .ok (.ireturn, 1) := by decide +kernel
set_option maxRecDepth 20000 in
theorem ggX3_findOwnedBy_X3_place : GoodIn wsX3_findOwnedBy wsX3_place := goodIn_r _ [5, 6, 7, 8, 9, 10, 11, 12, 13, 4, 14, 15, 16, 17, 18, 19, 20, 21, 22, 23] (by decide +kernel) (by decide +kernel)
set_option maxRecDepth 20000 in
theorem gX3_findOwnedBy_X3_place : GoodIn wsX3_findOwnedBy (wsV RX3 36 RX3 yX3_place wsX3_place) := goodIn_app (goodIn_of _ (by decide +kernel)) ggX3_findOwnedBy_X3_place
theorem dX3_findOwnedBy_0 : decode cX3_findOwnedBy 0 = .ok (.iload_n 1, 1) := by decide +kernel
theorem dX3_findOwnedBy_1 : decode cX3_findOwnedBy 1 = .ok (.istore 5, 2) := by decide +kernel
theorem dX3_findOwnedBy_3 : decode cX3_findOwnedBy 3 = .ok (.iload 5, 2) := by decide +kernel
theorem dX3_findOwnedBy_5 : decode cX3_findOwnedBy 5 = .ok (.iload_n 3, 1) := by decide +kernel
theorem dX3_findOwnedBy_6 : decode cX3_findOwnedBy 6 = .ok (.if_icmp .le 21, 3) := by decide +kernel
theorem dX3_findOwnedBy_9 : decode cX3_findOwnedBy 9 = .ok (.aload_n 2, 1) := by decide +kernel
theorem dX3_findOwnedBy_10 : decode cX3_findOwnedBy 10 = .ok (.iload 5, 2) := by decide +kernel
theorem dX3_findOwnedBy_12 : decode cX3_findOwnedBy 12 = .ok (.iconst 1, 1) := by decide +kernel
theorem dX3_findOwnedBy_13 : decode cX3_findOwnedBy 13 = .ok (.isub, 1) := by decide +kernel
theorem dX3_findOwnedBy_14 : decode cX3_findOwnedBy 14 = .ok (.iaload, 1) := by decide +kernel
theorem dX3_findOwnedBy_15 : decode cX3_findOwnedBy 15 = .ok (.aload_n 2, 1) := by decide +kernel
theorem dX3_findOwnedBy_16 : decode cX3_findOwnedBy 16 = .ok (.iload_n 1, 1) := by decide +kernel
theorem dX3_findOwnedBy_17 : decode cX3_findOwnedBy 17 = .ok (.iaload, 1) := by decide +kernel
theorem dX3_findOwnedBy_18 : decode cX3_findOwnedBy 18 = .ok (.if_icmp .le 9, 3) := by decide +kernel
theorem dX3_findOwnedBy_21 : decode cX3_findOwnedBy 21 = .ok (.iinc 5 (-1), 3) := by decide +kernel
theorem dX3_findOwnedBy_24 : decode cX3_findOwnedBy 24 = .ok (.goto (-21), 3) := by decide +kernel
theorem dX3_findOwnedBy_27 : decode cX3_findOwnedBy 27 = .ok (.iload 5, 2) := by decide +kernel
theorem dX3_findOwnedBy_29 : decode cX3_findOwnedBy 29 = .ok (.iload_n 3, 1) := by decide +kernel
theorem dX3_findOwnedBy_30 : decode cX3_findOwnedBy 30 = .ok (.if_icmp .le 16, 3) := by decide +kernel
theorem dX3_findOwnedBy_33 : decode cX3_findOwnedBy 33 = .ok (.aload_n 2, 1) := by decide +kernel
theorem dX3_findOwnedBy_34 : decode cX3_findOwnedBy 34 = .ok (.iload 5, 2) := by decide +kernel
theorem dX3_findOwnedBy_36 : decode cX3_findOwnedBy 36 = .ok (.iconst 1, 1) := by decide +kernel
theorem dX3_findOwnedBy_37 : decode cX3_findOwnedBy 37 = .ok (.isub, 1) := by decide +kernel
theorem dX3_findOwnedBy_38 : decode cX3_findOwnedBy 38 = .ok (.iaload, 1) := by decide +kernel
theorem dX3_findOwnedBy_39 : decode cX3_findOwnedBy 39 = .ok (.aload_n 2, 1) := by decide +kernel
theorem dX3_findOwnedBy_40 : decode cX3_findOwnedBy 40 = .ok (.iload_n 1, 1) := by decide +kernel
theorem dX3_findOwnedBy_41 : decode cX3_findOwnedBy 41 = .ok (.iaload, 1) := by decide +kernel
theorem dX3_findOwnedBy_42 : decode cX3_findOwnedBy 42 = .ok (.if_icmp .ne 4, 3) := by decide +kernel
theorem dX3_findOwnedBy_45 : decode cX3_findOwnedBy 45 = .ok (.return_, 1) := by decide +kernel
theorem dX3_findOwnedBy_46 : decode cX3_findOwnedBy 46 = .ok (.iload_n 1, 1) := by decide +kernel
theorem dX3_findOwnedBy_47 : decode cX3_findOwnedBy 47 = .ok (.istore 6, 2) := by decide +kernel
theorem dX3_findOwnedBy_49 : decode cX3_findOwnedBy 49 = .ok (.iload 6, 2) := by decide +kernel
theorem dX3_findOwnedBy_51 : decode cX3_findOwnedBy 51 = .ok (.iload 4, 2) := by decide +kernel
theorem dX3_findOwnedBy_53 : decode cX3_findOwnedBy 53 = .ok (.if_icmp .ge 21, 3) := by decide +kernel
theorem dX3_findOwnedBy_56 : decode cX3_findOwnedBy 56 = .ok (.aload_n 2, 1) := by decide +kernel
theorem dX3_findOwnedBy_57 : decode cX3_findOwnedBy 57 = .ok (.iload 6, 2) := by decide +kernel
theorem dX3_findOwnedBy_59 : decode cX3_findOwnedBy 59 = .ok (.iconst 1, 1) := by decide +kernel
theorem dX3_findOwnedBy_60 : decode cX3_findOwnedBy 60 = .ok (.iadd, 1) := by decide +kernel
theorem dX3_findOwnedBy_61 : decode cX3_findOwnedBy 61 = .ok (.iaload, 1) := by decide +kernel
theorem dX3_findOwnedBy_62 : decode cX3_findOwnedBy 62 = .ok (.aload_n 2, 1) := by decide +kernel
theorem dX3_findOwnedBy_63 : decode cX3_findOwnedBy 63 = .ok (.iload_n 1, 1) := by decide +kernel
theorem dX3_findOwnedBy_64 : decode cX3_findOwnedBy 64 = .ok (.iaload, 1) := by decide +kernel
theorem dX3_findOwnedBy_65 : decode cX3_findOwnedBy 65 = .ok (.if_icmp .lt 9, 3) := by decide +kernel
theorem dX3_findOwnedBy_68 : decode cX3_findOwnedBy 68 = .ok (.iinc 6 1, 3) := by decide +kernel
theorem dX3_findOwnedBy_71 : decode cX3_findOwnedBy 71 = .ok (.goto (-22), 3) := by decide +kernel
theorem dX3_findOwnedBy_74 : decode cX3_findOwnedBy 74 = .ok (.aload_n 0, 1) := by decide +kernel
theorem dX3_findOwnedBy_75 : decode cX3_findOwnedBy 75 = .ok (.iload 5, 2) := by decide +kernel
theorem dX3_findOwnedBy_77 : decode cX3_findOwnedBy 77 = .ok (.iload 6, 2) := by decide +kernel
theorem dX3_findOwnedBy_79 : decode cX3_findOwnedBy 79 = .ok (.aload_n 2, 1) := by decide +kernel
theorem dX3_findOwnedBy_80 : decode cX3_findOwnedBy 80 = .ok (.iload_n 1, 1) := by decide +kernel
theorem dX3_findOwnedBy_81 : decode cX3_findOwnedBy 81 = .ok (.iaload, 1) := by decide +kernel
theorem dX3_findOwnedBy_82 : decode cX3_findOwnedBy 82 = .ok (.iload_n 1, 1) := by decide +kernel
theorem dX3_findOwnedBy_83 : decode cX3_findOwnedBy 83 = .ok (.invokevirtual 36, 3) := by decide +kernel
theorem dX3_findOwnedBy_86 : decode cX3_findOwnedBy 86 = .ok (.return_, 1) := by decide +kernel
set_option maxRecDepth 20000 in
theorem ggX3_place_X3_comesBefore : GoodIn wsX3_place wsX3_comesBefore := goodIn_r _ [10, 2, 3, 11, 12, 13, 9, 14, 4, 15, 16, 17, 18, 19] (by decide +kernel) (by decide +kernel)
set_option maxRecDepth 20000 in
theorem gX3_place_X3_comesBefore : GoodIn wsX3_place (wsV RX3 40 RX3 yX3_comesBefore wsX3_comesBefore) := goodIn_app (goodIn_of _ (by decide +kernel)) ggX3_place_X3_comesBefore
theorem dX3_place_0 : decode cX3_place 0 = .ok (.aload_n 0, 1) := by decide +kernel
theorem dX3_place_1 : decode cX3_place 1 = .ok (.getfield 24, 3) := by decide +kernel
theorem dX3_place_4 : decode cX3_place 4 = .ok (.istore 5, 2) := by decide +kernel
theorem dX3_place_6 : decode cX3_place 6 = .ok (.iload 5, 2) := by decide +kernel
theorem dX3_place_8 : decode cX3_place 8 = .ok (.ifCond .le 87, 3) := by decide +kernel
theorem dX3_place_11 : decode cX3_place 11 = .ok (.aload_n 0, 1) := by decide +kernel
theorem dX3_place_12 : decode cX3_place 12 = .ok (.iload_n 1, 1) := by decide +kernel
theorem dX3_place_13 : decode cX3_place 13 = .ok (.iload_n 2, 1) := by decide +kernel
theorem dX3_place_14 : decode cX3_place 14 = .ok (.iload_n 3, 1) := by decide +kernel
theorem dX3_place_15 : decode cX3_place 15 = .ok (.iload 5, 2) := by decide +kernel
theorem dX3_place_17 : decode cX3_place 17 = .ok (.iconst 1, 1) := by decide +kernel
theorem dX3_place_18 : decode cX3_place 18 = .ok (.isub, 1) := by decide +kernel
theorem dX3_place_19 : decode cX3_place 19 = .ok (.invokevirtual 40, 3) := by decide +kernel
theorem dX3_place_22 : decode cX3_place 22 = .ok (.ifCond .eq 73, 3) := by decide +kernel
theorem dX3_place_25 : decode cX3_place 25 = .ok (.aload_n 0, 1) := by decide +kernel
theorem dX3_place_26 : decode cX3_place 26 = .ok (.getfield 9, 3) := by decide +kernel
theorem dX3_place_29 : decode cX3_place 29 = .ok (.iload 5, 2) := by decide +kernel
theorem dX3_place_31 : decode cX3_place 31 = .ok (.aload_n 0, 1) := by decide +kernel
theorem dX3_place_32 : decode cX3_place 32 = .ok (.getfield 9, 3) := by decide +kernel
theorem dX3_place_35 : decode cX3_place 35 = .ok (.iload 5, 2) := by decide +kernel
theorem dX3_place_37 : decode cX3_place 37 = .ok (.iconst 1, 1) := by decide +kernel
theorem dX3_place_38 : decode cX3_place 38 = .ok (.isub, 1) := by decide +kernel
theorem dX3_place_39 : decode cX3_place 39 = .ok (.iaload, 1) := by decide +kernel
theorem dX3_place_40 : decode cX3_place 40 = .ok (.iastore, 1) := by decide +kernel
theorem dX3_place_41 : decode cX3_place 41 = .ok (.aload_n 0, 1) := by decide +kernel
theorem dX3_place_42 : decode cX3_place 42 = .ok (.getfield 15, 3) := by decide +kernel
theorem dX3_place_45 : decode cX3_place 45 = .ok (.iload 5, 2) := by decide +kernel
theorem dX3_place_47 : decode cX3_place 47 = .ok (.aload_n 0, 1) := by decide +kernel
theorem dX3_place_48 : decode cX3_place 48 = .ok (.getfield 15, 3) := by decide +kernel
theorem dX3_place_51 : decode cX3_place 51 = .ok (.iload 5, 2) := by decide +kernel
theorem dX3_place_53 : decode cX3_place 53 = .ok (.iconst 1, 1) := by decide +kernel
theorem dX3_place_54 : decode cX3_place 54 = .ok (.isub, 1) := by decide +kernel
theorem dX3_place_55 : decode cX3_place 55 = .ok (.iaload, 1) := by decide +kernel
theorem dX3_place_56 : decode cX3_place 56 = .ok (.iastore, 1) := by decide +kernel
theorem dX3_place_57 : decode cX3_place 57 = .ok (.aload_n 0, 1) := by decide +kernel
theorem dX3_place_58 : decode cX3_place 58 = .ok (.getfield 18, 3) := by decide +kernel
theorem dX3_place_61 : decode cX3_place 61 = .ok (.iload 5, 2) := by decide +kernel
theorem dX3_place_63 : decode cX3_place 63 = .ok (.aload_n 0, 1) := by decide +kernel
theorem dX3_place_64 : decode cX3_place 64 = .ok (.getfield 18, 3) := by decide +kernel
theorem dX3_place_67 : decode cX3_place 67 = .ok (.iload 5, 2) := by decide +kernel
theorem dX3_place_69 : decode cX3_place 69 = .ok (.iconst 1, 1) := by decide +kernel
theorem dX3_place_70 : decode cX3_place 70 = .ok (.isub, 1) := by decide +kernel
theorem dX3_place_71 : decode cX3_place 71 = .ok (.iaload, 1) := by decide +kernel
theorem dX3_place_72 : decode cX3_place 72 = .ok (.iastore, 1) := by decide +kernel
theorem dX3_place_73 : decode cX3_place 73 = .ok (.aload_n 0, 1) := by decide +kernel
theorem dX3_place_74 : decode cX3_place 74 = .ok (.getfield 21, 3) := by decide +kernel
theorem dX3_place_77 : decode cX3_place 77 = .ok (.iload 5, 2) := by decide +kernel
theorem dX3_place_79 : decode cX3_place 79 = .ok (.aload_n 0, 1) := by decide +kernel
theorem dX3_place_80 : decode cX3_place 80 = .ok (.getfield 21, 3) := by decide +kernel
theorem dX3_place_83 : decode cX3_place 83 = .ok (.iload 5, 2) := by decide +kernel
theorem dX3_place_85 : decode cX3_place 85 = .ok (.iconst 1, 1) := by decide +kernel
theorem dX3_place_86 : decode cX3_place 86 = .ok (.isub, 1) := by decide +kernel
theorem dX3_place_87 : decode cX3_place 87 = .ok (.iaload, 1) := by decide +kernel
theorem dX3_place_88 : decode cX3_place 88 = .ok (.iastore, 1) := by decide +kernel
theorem dX3_place_89 : decode cX3_place 89 = .ok (.iinc 5 (-1), 3) := by decide +kernel
theorem dX3_place_92 : decode cX3_place 92 = .ok (.goto (-86), 3) := by decide +kernel
theorem dX3_place_95 : decode cX3_place 95 = .ok (.aload_n 0, 1) := by decide +kernel
theorem dX3_place_96 : decode cX3_place 96 = .ok (.getfield 9, 3) := by decide +kernel
theorem dX3_place_99 : decode cX3_place 99 = .ok (.iload 5, 2) := by decide +kernel
theorem dX3_place_101 : decode cX3_place 101 = .ok (.iload_n 1, 1) := by decide +kernel
theorem dX3_place_102 : decode cX3_place 102 = .ok (.iastore, 1) := by decide +kernel
theorem dX3_place_103 : decode cX3_place 103 = .ok (.aload_n 0, 1) := by decide +kernel
theorem dX3_place_104 : decode cX3_place 104 = .ok (.getfield 15, 3) := by decide +kernel
theorem dX3_place_107 : decode cX3_place 107 = .ok (.iload 5, 2) := by decide +kernel
theorem dX3_place_109 : decode cX3_place 109 = .ok (.iload_n 2, 1) := by decide +kernel
theorem dX3_place_110 : decode cX3_place 110 = .ok (.iastore, 1) := by decide +kernel
theorem dX3_place_111 : decode cX3_place 111 = .ok (.aload_n 0, 1) := by decide +kernel
theorem dX3_place_112 : decode cX3_place 112 = .ok (.getfield 18, 3) := by decide +kernel
theorem dX3_place_115 : decode cX3_place 115 = .ok (.iload 5, 2) := by decide +kernel
theorem dX3_place_117 : decode cX3_place 117 = .ok (.iload_n 3, 1) := by decide +kernel
theorem dX3_place_118 : decode cX3_place 118 = .ok (.iastore, 1) := by decide +kernel
theorem dX3_place_119 : decode cX3_place 119 = .ok (.aload_n 0, 1) := by decide +kernel
theorem dX3_place_120 : decode cX3_place 120 = .ok (.getfield 21, 3) := by decide +kernel
theorem dX3_place_123 : decode cX3_place 123 = .ok (.iload 5, 2) := by decide +kernel
end
section
theorem dX3_place_125 : decode cX3_place 125 = .ok (.iload 4, 2) := by decide +kernel
theorem dX3_place_127 : decode cX3_place 127 = .ok (.iastore, 1) := by decide +kernel
theorem dX3_place_128 : decode cX3_place 128 = .ok (.aload_n 0, 1) := by decide +kernel
theorem dX3_place_129 : decode cX3_place 129 = .ok (.dup, 1) := by decide +kernel
theorem dX3_place_130 : decode cX3_place 130 = .ok (.getfield 24, 3) := by decide +kernel
theorem dX3_place_133 : decode cX3_place 133 = .ok (.iconst 1, 1) := by decide +kernel
theorem dX3_place_134 : decode cX3_place 134 = .ok (.iadd, 1) := by decide +kernel
theorem dX3_place_135 : decode cX3_place 135 = .ok (.putfield 24, 3) := by decide +kernel
theorem dX3_place_138 : decode cX3_place 138 = .ok (.return_, 1) := by decide +kernel
set_option maxRecDepth 20000 in
theorem ggX3_comesBefore_X3_area : GoodIn wsX3_comesBefore wsX3_area := goodIn_r _ [7, 8, 2, 1, 9, 10, 11, 12, 13] (by decide +kernel) (by decide +kernel)
set_option maxRecDepth 20000 in
theorem gX3_comesBefore_X3_area : GoodIn wsX3_comesBefore (wsV RX3 32 RX3 yX3_area wsX3_area) := goodIn_app (goodIn_of _ (by decide +kernel)) ggX3_comesBefore_X3_area
theorem dX3_comesBefore_0 : decode cX3_comesBefore 0 = .ok (.iload_n 3, 1) := by decide +kernel
theorem dX3_comesBefore_1 : decode cX3_comesBefore 1 = .ok (.iload_n 2, 1) := by decide +kernel
theorem dX3_comesBefore_2 : decode cX3_comesBefore 2 = .ok (.iload_n 1, 1) := by decide +kernel
theorem dX3_comesBefore_3 : decode cX3_comesBefore 3 = .ok (.isub, 1) := by decide +kernel
theorem dX3_comesBefore_4 : decode cX3_comesBefore 4 = .ok (.iconst 1, 1) := by decide +kernel
theorem dX3_comesBefore_5 : decode cX3_comesBefore 5 = .ok (.iadd, 1) := by decide +kernel
theorem dX3_comesBefore_6 : decode cX3_comesBefore 6 = .ok (.imul, 1) := by decide +kernel
theorem dX3_comesBefore_7 : decode cX3_comesBefore 7 = .ok (.istore 5, 2) := by decide +kernel
theorem dX3_comesBefore_9 : decode cX3_comesBefore 9 = .ok (.iload 5, 2) := by decide +kernel
theorem dX3_comesBefore_11 : decode cX3_comesBefore 11 = .ok (.aload_n 0, 1) := by decide +kernel
theorem dX3_comesBefore_12 : decode cX3_comesBefore 12 = .ok (.iload 4, 2) := by decide +kernel
theorem dX3_comesBefore_14 : decode cX3_comesBefore 14 = .ok (.invokevirtual 32, 3) := by decide +kernel
theorem dX3_comesBefore_17 : decode cX3_comesBefore 17 = .ok (.if_icmp .eq 20, 3) := by decide +kernel
theorem dX3_comesBefore_20 : decode cX3_comesBefore 20 = .ok (.iload 5, 2) := by decide +kernel
theorem dX3_comesBefore_22 : decode cX3_comesBefore 22 = .ok (.aload_n 0, 1) := by decide +kernel
theorem dX3_comesBefore_23 : decode cX3_comesBefore 23 = .ok (.iload 4, 2) := by decide +kernel
theorem dX3_comesBefore_25 : decode cX3_comesBefore 25 = .ok (.invokevirtual 32, 3) := by decide +kernel
theorem dX3_comesBefore_28 : decode cX3_comesBefore 28 = .ok (.if_icmp .le 7, 3) := by decide +kernel
theorem dX3_comesBefore_31 : decode cX3_comesBefore 31 = .ok (.iconst 1, 1) := by decide +kernel
theorem dX3_comesBefore_32 : decode cX3_comesBefore 32 = .ok (.goto 4, 3) := by decide +kernel
theorem dX3_comesBefore_35 : decode cX3_comesBefore 35 = .ok (.iconst 0, 1) := by decide +kernel
theorem dX3_comesBefore_36 : decode cX3_comesBefore 36 = .ok (.ireturn, 1) := by decide +kernel
theorem dX3_comesBefore_37 : decode cX3_comesBefore 37 = .ok (.iload_n 1, 1) := by decide +kernel
theorem dX3_comesBefore_38 : decode cX3_comesBefore 38 = .ok (.aload_n 0, 1) := by decide +kernel
theorem dX3_comesBefore_39 : decode cX3_comesBefore 39 = .ok (.getfield 9, 3) := by decide +kernel
theorem dX3_comesBefore_42 : decode cX3_comesBefore 42 = .ok (.iload 4, 2) := by decide +kernel
theorem dX3_comesBefore_44 : decode cX3_comesBefore 44 = .ok (.iaload, 1) := by decide +kernel
theorem dX3_comesBefore_45 : decode cX3_comesBefore 45 = .ok (.if_icmp .eq 20, 3) := by decide +kernel
theorem dX3_comesBefore_48 : decode cX3_comesBefore 48 = .ok (.iload_n 1, 1) := by decide +kernel
theorem dX3_comesBefore_49 : decode cX3_comesBefore 49 = .ok (.aload_n 0, 1) := by decide +kernel
theorem dX3_comesBefore_50 : decode cX3_comesBefore 50 = .ok (.getfield 9, 3) := by decide +kernel
theorem dX3_comesBefore_53 : decode cX3_comesBefore 53 = .ok (.iload 4, 2) := by decide +kernel
theorem dX3_comesBefore_55 : decode cX3_comesBefore 55 = .ok (.iaload, 1) := by decide +kernel
theorem dX3_comesBefore_56 : decode cX3_comesBefore 56 = .ok (.if_icmp .ge 7, 3) := by decide +kernel
theorem dX3_comesBefore_59 : decode cX3_comesBefore 59 = .ok (.iconst 1, 1) := by decide +kernel
theorem dX3_comesBefore_60 : decode cX3_comesBefore 60 = .ok (.goto 4, 3) := by decide +kernel
theorem dX3_comesBefore_63 : decode cX3_comesBefore 63 = .ok (.iconst 0, 1) := by decide +kernel
theorem dX3_comesBefore_64 : decode cX3_comesBefore 64 = .ok (.ireturn, 1) := by decide +kernel
theorem dX3_comesBefore_65 : decode cX3_comesBefore 65 = .ok (.iload_n 2, 1) := by decide +kernel
theorem dX3_comesBefore_66 : decode cX3_comesBefore 66 = .ok (.aload_n 0, 1) := by decide +kernel
theorem dX3_comesBefore_67 : decode cX3_comesBefore 67 = .ok (.getfield 15, 3) := by decide +kernel
theorem dX3_comesBefore_70 : decode cX3_comesBefore 70 = .ok (.iload 4, 2) := by decide +kernel
theorem dX3_comesBefore_72 : decode cX3_comesBefore 72 = .ok (.iaload, 1) := by decide +kernel
theorem dX3_comesBefore_73 : decode cX3_comesBefore 73 = .ok (.if_icmp .ge 7, 3) := by decide +kernel
theorem dX3_comesBefore_76 : decode cX3_comesBefore 76 = .ok (.iconst 1, 1) := by decide +kernel
theorem dX3_comesBefore_77 : decode cX3_comesBefore 77 = .ok (.goto 4, 3) := by decide +kernel
theorem dX3_comesBefore_80 : decode cX3_comesBefore 80 = .ok (.iconst 0, 1) := by decide +kernel
theorem dX3_comesBefore_81 : decode cX3_comesBefore 81 = .ok (.ireturn, 1) := by decide +kernel
theorem dX4_init_0 : decode cX4_init 0 = .ok (.aload_n 0, 1) := by decide +kernel
theorem dX4_init_1 : decode cX4_init 1 = .ok (.invokespecial 3, 3) := by decide +kernel
theorem dX4_init_4 : decode cX4_init 4 = .ok (.aload_n 0, 1) := by decide +kernel
theorem dX4_init_5 : decode cX4_init 5 = .ok (.bipush 40, 2) := by decide +kernel
theorem dX4_init_7 : decode cX4_init 7 = .ok (.newarray .int, 2) := by decide +kernel
theorem dX4_init_9 : decode cX4_init 9 = .ok (.putfield 9, 3) := by decide +kernel
theorem dX4_init_12 : decode cX4_init 12 = .ok (.aload_n 0, 1) := by decide +kernel
theorem dX4_init_13 : decode cX4_init 13 = .ok (.bipush 40, 2) := by decide +kernel
theorem dX4_init_15 : decode cX4_init 15 = .ok (.newarray .int, 2) := by decide +kernel
theorem dX4_init_17 : decode cX4_init 17 = .ok (.putfield 15, 3) := by decide +kernel
theorem dX4_init_20 : decode cX4_init 20 = .ok (.return_, 1) := by decide +kernel
theorem dX4_grow_0 : decode cX4_grow 0 = .ok (.iconst 0, 1) := by decide +kernel
theorem dX4_grow_1 : decode cX4_grow 1 = .ok (.istore_n 2, 1) := by decide +kernel
theorem dX4_grow_2 : decode cX4_grow 2 = .ok (.iconst 0, 1) := by decide +kernel
theorem dX4_grow_3 : decode cX4_grow 3 = .ok (.istore_n 3, 1) := by decide +kernel
theorem dX4_grow_4 : decode cX4_grow 4 = .ok (.iload_n 3, 1) := by decide +kernel
theorem dX4_grow_5 : decode cX4_grow 5 = .ok (.aload_n 1, 1) := by decide +kernel
theorem dX4_grow_6 : decode cX4_grow 6 = .ok (.getfield 18, 3) := by decide +kernel
theorem dX4_grow_9 : decode cX4_grow 9 = .ok (.if_icmp .ge 101, 3) := by decide +kernel
theorem dX4_grow_12 : decode cX4_grow 12 = .ok (.bipush (-9), 2) := by decide +kernel
theorem dX4_grow_14 : decode cX4_grow 14 = .ok (.istore 4, 2) := by decide +kernel
theorem dX4_grow_16 : decode cX4_grow 16 = .ok (.iload_n 2, 1) := by decide +kernel
theorem dX4_grow_17 : decode cX4_grow 17 = .ok (.ifCond .le 39, 3) := by decide +kernel
theorem dX4_grow_20 : decode cX4_grow 20 = .ok (.aload_n 1, 1) := by decide +kernel
theorem dX4_grow_21 : decode cX4_grow 21 = .ok (.getfield 24, 3) := by decide +kernel
theorem dX4_grow_24 : decode cX4_grow 24 = .ok (.aload_n 0, 1) := by decide +kernel
theorem dX4_grow_25 : decode cX4_grow 25 = .ok (.getfield 15, 3) := by decide +kernel
theorem dX4_grow_28 : decode cX4_grow 28 = .ok (.iload_n 2, 1) := by decide +kernel
theorem dX4_grow_29 : decode cX4_grow 29 = .ok (.iconst 1, 1) := by decide +kernel
theorem dX4_grow_30 : decode cX4_grow 30 = .ok (.isub, 1) := by decide +kernel
theorem dX4_grow_31 : decode cX4_grow 31 = .ok (.iaload, 1) := by decide +kernel
theorem dX4_grow_32 : decode cX4_grow 32 = .ok (.iaload, 1) := by decide +kernel
theorem dX4_grow_33 : decode cX4_grow 33 = .ok (.aload_n 1, 1) := by decide +kernel
theorem dX4_grow_34 : decode cX4_grow 34 = .ok (.getfield 24, 3) := by decide +kernel
theorem dX4_grow_37 : decode cX4_grow 37 = .ok (.iload_n 3, 1) := by decide +kernel
theorem dX4_grow_38 : decode cX4_grow 38 = .ok (.iaload, 1) := by decide +kernel
theorem dX4_grow_39 : decode cX4_grow 39 = .ok (.if_icmp .le 17, 3) := by decide +kernel
theorem dX4_grow_42 : decode cX4_grow 42 = .ok (.iinc 2 (-1), 3) := by decide +kernel
theorem dX4_grow_45 : decode cX4_grow 45 = .ok (.aload_n 0, 1) := by decide +kernel
theorem dX4_grow_46 : decode cX4_grow 46 = .ok (.getfield 15, 3) := by decide +kernel
theorem dX4_grow_49 : decode cX4_grow 49 = .ok (.iload_n 2, 1) := by decide +kernel
theorem dX4_grow_50 : decode cX4_grow 50 = .ok (.iaload, 1) := by decide +kernel
theorem dX4_grow_51 : decode cX4_grow 51 = .ok (.istore 4, 2) := by decide +kernel
theorem dX4_grow_53 : decode cX4_grow 53 = .ok (.goto (-37), 3) := by decide +kernel
theorem dX4_grow_56 : decode cX4_grow 56 = .ok (.iload 4, 2) := by decide +kernel
theorem dX4_grow_58 : decode cX4_grow 58 = .ok (.bipush (-9), 2) := by decide +kernel
theorem dX4_grow_60 : decode cX4_grow 60 = .ok (.if_icmp .eq 11, 3) := by decide +kernel
theorem dX4_grow_63 : decode cX4_grow 63 = .ok (.aload_n 0, 1) := by decide +kernel
theorem dX4_grow_64 : decode cX4_grow 64 = .ok (.getfield 9, 3) := by decide +kernel
theorem dX4_grow_67 : decode cX4_grow 67 = .ok (.iload 4, 2) := by decide +kernel
theorem dX4_grow_69 : decode cX4_grow 69 = .ok (.iload_n 3, 1) := by decide +kernel
theorem dX4_grow_70 : decode cX4_grow 70 = .ok (.iastore, 1) := by decide +kernel
theorem dX4_grow_71 : decode cX4_grow 71 = .ok (.aload_n 0, 1) := by decide +kernel
theorem dX4_grow_72 : decode cX4_grow 72 = .ok (.getfield 9, 3) := by decide +kernel
theorem dX4_grow_75 : decode cX4_grow 75 = .ok (.iload_n 3, 1) := by decide +kernel
theorem dX4_grow_76 : decode cX4_grow 76 = .ok (.iload_n 2, 1) := by decide +kernel
theorem dX4_grow_77 : decode cX4_grow 77 = .ok (.ifCond .le 14, 3) := by decide +kernel
theorem dX4_grow_80 : decode cX4_grow 80 = .ok (.aload_n 0, 1) := by decide +kernel
theorem dX4_grow_81 : decode cX4_grow 81 = .ok (.getfield 15, 3) := by decide +kernel
theorem dX4_grow_84 : decode cX4_grow 84 = .ok (.iload_n 2, 1) := by decide +kernel
theorem dX4_grow_85 : decode cX4_grow 85 = .ok (.iconst 1, 1) := by decide +kernel
theorem dX4_grow_86 : decode cX4_grow 86 = .ok (.isub, 1) := by decide +kernel
theorem dX4_grow_87 : decode cX4_grow 87 = .ok (.iaload, 1) := by decide +kernel
theorem dX4_grow_88 : decode cX4_grow 88 = .ok (.goto 5, 3) := by decide +kernel
theorem dX4_grow_91 : decode cX4_grow 91 = .ok (.bipush (-9), 2) := by decide +kernel
theorem dX4_grow_93 : decode cX4_grow 93 = .ok (.iastore, 1) := by decide +kernel
theorem dX4_grow_94 : decode cX4_grow 94 = .ok (.aload_n 0, 1) := by decide +kernel
theorem dX4_grow_95 : decode cX4_grow 95 = .ok (.getfield 15, 3) := by decide +kernel
theorem dX4_grow_98 : decode cX4_grow 98 = .ok (.iload_n 2, 1) := by decide +kernel
theorem dX4_grow_99 : decode cX4_grow 99 = .ok (.iload_n 3, 1) := by decide +kernel
theorem dX4_grow_100 : decode cX4_grow 100 = .ok (.iastore, 1) := by decide +kernel
theorem dX4_grow_101 : decode cX4_grow 101 = .ok (.iinc 2 1, 3) := by decide +kernel
theorem dX4_grow_104 : decode cX4_grow 104 = .ok (.iinc 3 1, 3) := by decide +kernel
theorem dX4_grow_107 : decode cX4_grow 107 = .ok (.goto (-103), 3) := by decide +kernel
theorem dX4_grow_110 : decode cX4_grow 110 = .ok (.return_, 1) := by decide +kernel
theorem dX4_depthOf_0 : decode cX4_depthOf 0 = .ok (.iconst 0, 1) := by decide +kernel
theorem dX4_depthOf_1 : decode cX4_depthOf 1 = .ok (.istore_n 2, 1) := by decide +kernel
theorem dX4_depthOf_2 : decode cX4_depthOf 2 = .ok (.aload_n 0, 1) := by decide +kernel
theorem dX4_depthOf_3 : decode cX4_depthOf 3 = .ok (.getfield 9, 3) := by decide +kernel
theorem dX4_depthOf_6 : decode cX4_depthOf 6 = .ok (.iload_n 1, 1) := by decide +kernel
theorem dX4_depthOf_7 : decode cX4_depthOf 7 = .ok (.iaload, 1) := by decide +kernel
theorem dX4_depthOf_8 : decode cX4_depthOf 8 = .ok (.istore_n 3, 1) := by decide +kernel
theorem dX4_depthOf_9 : decode cX4_depthOf 9 = .ok (.iload_n 2, 1) := by decide +kernel
theorem dX4_depthOf_10 : decode cX4_depthOf 10 = .ok (.bipush 40, 2) := by decide +kernel
theorem dX4_depthOf_12 : decode cX4_depthOf 12 = .ok (.if_icmp .ge 22, 3) := by decide +kernel
theorem dX4_depthOf_15 : decode cX4_depthOf 15 = .ok (.iload_n 3, 1) := by decide +kernel
theorem dX4_depthOf_16 : decode cX4_depthOf 16 = .ok (.bipush (-9), 2) := by decide +kernel
theorem dX4_depthOf_18 : decode cX4_depthOf 18 = .ok (.if_icmp .eq 16, 3) := by decide +kernel
theorem dX4_depthOf_21 : decode cX4_depthOf 21 = .ok (.iinc 2 1, 3) := by decide +kernel
theorem dX4_depthOf_24 : decode cX4_depthOf 24 = .ok (.aload_n 0, 1) := by decide +kernel
theorem dX4_depthOf_25 : decode cX4_depthOf 25 = .ok (.getfield 9, 3) := by decide +kernel
theorem dX4_depthOf_28 : decode cX4_depthOf 28 = .ok (.iload_n 3, 1) := by decide +kernel
theorem dX4_depthOf_29 : decode cX4_depthOf 29 = .ok (.iaload, 1) := by decide +kernel
theorem dX4_depthOf_30 : decode cX4_depthOf 30 = .ok (.istore_n 3, 1) := by decide +kernel
theorem dX4_depthOf_31 : decode cX4_depthOf 31 = .ok (.goto (-22), 3) := by decide +kernel
theorem dX4_depthOf_34 : decode cX4_depthOf 34 = .ok (.iload_n 2, 1) := by decide +kernel
theorem dX4_depthOf_35 : decode cX4_depthOf 35 = .ok (.ireturn, 1) := by decide +kernel
theorem dX5_init_0 : decode cX5_init 0 = .ok (.aload_n 0, 1) := by decide +kernel
theorem dX5_init_1 : decode cX5_init 1 = .ok (.invokespecial 3, 3) := by decide +kernel
theorem dX5_init_4 : decode cX5_init 4 = .ok (.aload_n 0, 1) := by decide +kernel
theorem dX5_init_5 : decode cX5_init 5 = .ok (.bipush 40, 2) := by decide +kernel
theorem dX5_init_7 : decode cX5_init 7 = .ok (.newarray .int, 2) := by decide +kernel
theorem dX5_init_9 : decode cX5_init 9 = .ok (.putfield 9, 3) := by decide +kernel
theorem dX5_init_12 : decode cX5_init 12 = .ok (.return_, 1) := by decide +kernel
theorem dX5_pour_0 : decode cX5_pour 0 = .ok (.iconst 0, 1) := by decide +kernel
theorem dX5_pour_1 : decode cX5_pour 1 = .ok (.istore 4, 2) := by decide +kernel
theorem dX5_pour_3 : decode cX5_pour 3 = .ok (.iload_n 2, 1) := by decide +kernel
theorem dX5_pour_4 : decode cX5_pour 4 = .ok (.istore 5, 2) := by decide +kernel
theorem dX5_pour_6 : decode cX5_pour 6 = .ok (.iload 5, 2) := by decide +kernel
theorem dX5_pour_8 : decode cX5_pour 8 = .ok (.iload_n 3, 1) := by decide +kernel
theorem dX5_pour_9 : decode cX5_pour 9 = .ok (.if_icmp .gt 29, 3) := by decide +kernel
theorem dX5_pour_12 : decode cX5_pour 12 = .ok (.iload 4, 2) := by decide +kernel
theorem dX5_pour_14 : decode cX5_pour 14 = .ok (.aload_n 1, 1) := by decide +kernel
theorem dX5_pour_15 : decode cX5_pour 15 = .ok (.iload 5, 2) := by decide +kernel
theorem dX5_pour_17 : decode cX5_pour 17 = .ok (.iaload, 1) := by decide +kernel
theorem dX5_pour_18 : decode cX5_pour 18 = .ok (.invokestatic 15, 3) := by decide +kernel
theorem dX5_pour_21 : decode cX5_pour 21 = .ok (.istore 4, 2) := by decide +kernel
theorem dX5_pour_23 : decode cX5_pour 23 = .ok (.aload_n 0, 1) := by decide +kernel
theorem dX5_pour_24 : decode cX5_pour 24 = .ok (.getfield 9, 3) := by decide +kernel
theorem dX5_pour_27 : decode cX5_pour 27 = .ok (.iload 5, 2) := by decide +kernel
theorem dX5_pour_29 : decode cX5_pour 29 = .ok (.iload 4, 2) := by decide +kernel
theorem dX5_pour_31 : decode cX5_pour 31 = .ok (.iastore, 1) := by decide +kernel
theorem dX5_pour_32 : decode cX5_pour 32 = .ok (.iinc 5 1, 3) := by decide +kernel
theorem dX5_pour_35 : decode cX5_pour 35 = .ok (.goto (-29), 3) := by decide +kernel
theorem dX5_pour_38 : decode cX5_pour 38 = .ok (.iconst 0, 1) := by decide +kernel
theorem dX5_pour_39 : decode cX5_pour 39 = .ok (.istore 5, 2) := by decide +kernel
theorem dX5_pour_41 : decode cX5_pour 41 = .ok (.iconst 0, 1) := by decide +kernel
theorem dX5_pour_42 : decode cX5_pour 42 = .ok (.istore 4, 2) := by decide +kernel
theorem dX5_pour_44 : decode cX5_pour 44 = .ok (.iload_n 3, 1) := by decide +kernel
theorem dX5_pour_45 : decode cX5_pour 45 = .ok (.istore 6, 2) := by decide +kernel
theorem dX5_pour_47 : decode cX5_pour 47 = .ok (.iload 6, 2) := by decide +kernel
theorem dX5_pour_49 : decode cX5_pour 49 = .ok (.iload_n 2, 1) := by decide +kernel
theorem dX5_pour_50 : decode cX5_pour 50 = .ok (.if_icmp .lt 56, 3) := by decide +kernel
theorem dX5_pour_53 : decode cX5_pour 53 = .ok (.iload 4, 2) := by decide +kernel
theorem dX5_pour_55 : decode cX5_pour 55 = .ok (.aload_n 1, 1) := by decide +kernel
theorem dX5_pour_56 : decode cX5_pour 56 = .ok (.iload 6, 2) := by decide +kernel
theorem dX5_pour_58 : decode cX5_pour 58 = .ok (.iaload, 1) := by decide +kernel
theorem dX5_pour_59 : decode cX5_pour 59 = .ok (.invokestatic 15, 3) := by decide +kernel
theorem dX5_pour_62 : decode cX5_pour 62 = .ok (.istore 4, 2) := by decide +kernel
theorem dX5_pour_64 : decode cX5_pour 64 = .ok (.aload_n 0, 1) := by decide +kernel
theorem dX5_pour_65 : decode cX5_pour 65 = .ok (.getfield 9, 3) := by decide +kernel
theorem dX5_pour_68 : decode cX5_pour 68 = .ok (.iload 6, 2) := by decide +kernel
theorem dX5_pour_70 : decode cX5_pour 70 = .ok (.aload_n 0, 1) := by decide +kernel
theorem dX5_pour_71 : decode cX5_pour 71 = .ok (.getfield 9, 3) := by decide +kernel
theorem dX5_pour_74 : decode cX5_pour 74 = .ok (.iload 6, 2) := by decide +kernel
theorem dX5_pour_76 : decode cX5_pour 76 = .ok (.iaload, 1) := by decide +kernel
theorem dX5_pour_77 : decode cX5_pour 77 = .ok (.iload 4, 2) := by decide +kernel
theorem dX5_pour_79 : decode cX5_pour 79 = .ok (.invokestatic 21, 3) := by decide +kernel
theorem dX5_pour_82 : decode cX5_pour 82 = .ok (.aload_n 1, 1) := by decide +kernel
theorem dX5_pour_83 : decode cX5_pour 83 = .ok (.iload 6, 2) := by decide +kernel
theorem dX5_pour_85 : decode cX5_pour 85 = .ok (.iaload, 1) := by decide +kernel
theorem dX5_pour_86 : decode cX5_pour 86 = .ok (.isub, 1) := by decide +kernel
theorem dX5_pour_87 : decode cX5_pour 87 = .ok (.iastore, 1) := by decide +kernel
theorem dX5_pour_88 : decode cX5_pour 88 = .ok (.iload 5, 2) := by decide +kernel
theorem dX5_pour_90 : decode cX5_pour 90 = .ok (.aload_n 0, 1) := by decide +kernel
theorem dX5_pour_91 : decode cX5_pour 91 = .ok (.getfield 9, 3) := by decide +kernel
theorem dX5_pour_94 : decode cX5_pour 94 = .ok (.iload 6, 2) := by decide +kernel
theorem dX5_pour_96 : decode cX5_pour 96 = .ok (.iaload, 1) := by decide +kernel
theorem dX5_pour_97 : decode cX5_pour 97 = .ok (.iadd, 1) := by decide +kernel
theorem dX5_pour_98 : decode cX5_pour 98 = .ok (.istore 5, 2) := by decide +kernel
theorem dX5_pour_100 : decode cX5_pour 100 = .ok (.iinc 6 (-1), 3) := by decide +kernel
theorem dX5_pour_103 : decode cX5_pour 103 = .ok (.goto (-56), 3) := by decide +kernel
theorem dX5_pour_106 : decode cX5_pour 106 = .ok (.iload 5, 2) := by decide +kernel
theorem dX5_pour_108 : decode cX5_pour 108 = .ok (.ireturn, 1) := by decide +kernel
set_option maxRecDepth 20000 in
theorem ggX5_poolCount_X5_startsPool : GoodIn wsX5_poolCount wsX5_startsPool := goodIn_r _ [5, 6, 7] (by decide +kernel) (by decide +kernel)
set_option maxRecDepth 20000 in
theorem gX5_poolCount_X5_startsPool : GoodIn wsX5_poolCount (wsV RX5 24 RX5 yX5_startsPool wsX5_startsPool) := goodIn_app (goodIn_of _ (by decide +kernel)) ggX5_poolCount_X5_startsPool
theorem dX5_poolCount_0 : decode cX5_poolCount 0 = .ok (.iconst 0, 1) := by decide +kernel
theorem dX5_poolCount_1 : decode cX5_poolCount 1 = .ok (.istore_n 2, 1) := by decide +kernel
theorem dX5_poolCount_2 : decode cX5_poolCount 2 = .ok (.iconst 0, 1) := by decide +kernel
theorem dX5_poolCount_3 : decode cX5_poolCount 3 = .ok (.istore_n 3, 1) := by decide +kernel
theorem dX5_poolCount_4 : decode cX5_poolCount 4 = .ok (.iload_n 3, 1) := by decide +kernel
theorem dX5_poolCount_5 : decode cX5_poolCount 5 = .ok (.iload_n 1, 1) := by decide +kernel
theorem dX5_poolCount_6 : decode cX5_poolCount 6 = .ok (.if_icmp .ge 20, 3) := by decide +kernel
theorem dX5_poolCount_9 : decode cX5_poolCount 9 = .ok (.aload_n 0, 1) := by decide +kernel
theorem dX5_poolCount_10 : decode cX5_poolCount 10 = .ok (.iload_n 3, 1) := by decide +kernel
theorem dX5_poolCount_11 : decode cX5_poolCount 11 = .ok (.invokevirtual 24, 3) := by decide +kernel
theorem dX5_poolCount_14 : decode cX5_poolCount 14 = .ok (.ifCond .eq 6, 3) := by decide +kernel
theorem dX5_poolCount_17 : decode cX5_poolCount 17 = .ok (.iinc 2 1, 3) := by decide +kernel
theorem dX5_poolCount_20 : decode cX5_poolCount 20 = .ok (.iinc 3 1, 3) := by decide +kernel
theorem dX5_poolCount_23 : decode cX5_poolCount 23 = .ok (.goto (-19), 3) := by decide +kernel
theorem dX5_poolCount_26 : decode cX5_poolCount 26 = .ok (.iload_n 2, 1) := by decide +kernel
theorem dX5_poolCount_27 : decode cX5_poolCount 27 = .ok (.ireturn, 1) := by decide +kernel
set_option maxRecDepth 20000 in
theorem ggX5_poolStart_X5_startsPool : GoodIn wsX5_poolStart wsX5_startsPool := goodIn_r _ [5, 6, 7] (by decide +kernel) (by decide +kernel)
set_option maxRecDepth 20000 in
theorem gX5_poolStart_X5_startsPool : GoodIn wsX5_poolStart (wsV RX5 24 RX5 yX5_startsPool wsX5_startsPool) := goodIn_app (goodIn_of _ (by decide +kernel)) ggX5_poolStart_X5_startsPool
theorem dX5_poolStart_0 : decode cX5_poolStart 0 = .ok (.iconst 0, 1) := by decide +kernel
theorem dX5_poolStart_1 : decode cX5_poolStart 1 = .ok (.istore_n 3, 1) := by decide +kernel
theorem dX5_poolStart_2 : decode cX5_poolStart 2 = .ok (.iconst 0, 1) := by decide +kernel
theorem dX5_poolStart_3 : decode cX5_poolStart 3 = .ok (.istore 4, 2) := by decide +kernel
theorem dX5_poolStart_5 : decode cX5_poolStart 5 = .ok (.iload 4, 2) := by decide +kernel
theorem dX5_poolStart_7 : decode cX5_poolStart 7 = .ok (.iload_n 2, 1) := by decide +kernel
theorem dX5_poolStart_8 : decode cX5_poolStart 8 = .ok (.if_icmp .ge 29, 3) := by decide +kernel
theorem dX5_poolStart_11 : decode cX5_poolStart 11 = .ok (.aload_n 0, 1) := by decide +kernel
theorem dX5_poolStart_12 : decode cX5_poolStart 12 = .ok (.iload 4, 2) := by decide +kernel
theorem dX5_poolStart_14 : decode cX5_poolStart 14 = .ok (.invokevirtual 24, 3) := by decide +kernel
theorem dX5_poolStart_17 : decode cX5_poolStart 17 = .ok (.ifCond .eq 14, 3) := by decide +kernel
theorem dX5_poolStart_20 : decode cX5_poolStart 20 = .ok (.iload_n 3, 1) := by decide +kernel
theorem dX5_poolStart_21 : decode cX5_poolStart 21 = .ok (.iload_n 1, 1) := by decide +kernel
theorem dX5_poolStart_22 : decode cX5_poolStart 22 = .ok (.if_icmp .ne 6, 3) := by decide +kernel
theorem dX5_poolStart_25 : decode cX5_poolStart 25 = .ok (.iload 4, 2) := by decide +kernel
theorem dX5_poolStart_27 : decode cX5_poolStart 27 = .ok (.ireturn, 1) := by decide +kernel
theorem dX5_poolStart_28 : decode cX5_poolStart 28 = .ok (.iinc 3 1, 3) := by decide +kernel
theorem dX5_poolStart_31 : decode cX5_poolStart 31 = .ok (.iinc 4 1, 3) := by decide +kernel
theorem dX5_poolStart_34 : decode cX5_poolStart 34 = .ok (.goto (-29), 3) := by decide +kernel
theorem dX5_poolStart_37 : decode cX5_poolStart 37 = .ok (.bipush (-9), 2) := by decide +kernel
theorem dX5_poolStart_39 : decode cX5_poolStart 39 = .ok (.ireturn, 1) := by decide +kernel
theorem dX5_poolEnd_0 : decode cX5_poolEnd 0 = .ok (.iload_n 1, 1) := by decide +kernel
theorem dX5_poolEnd_1 : decode cX5_poolEnd 1 = .ok (.istore_n 3, 1) := by decide +kernel
theorem dX5_poolEnd_2 : decode cX5_poolEnd 2 = .ok (.iload_n 3, 1) := by decide +kernel
theorem dX5_poolEnd_3 : decode cX5_poolEnd 3 = .ok (.iconst 1, 1) := by decide +kernel
theorem dX5_poolEnd_4 : decode cX5_poolEnd 4 = .ok (.iadd, 1) := by decide +kernel
theorem dX5_poolEnd_5 : decode cX5_poolEnd 5 = .ok (.iload_n 2, 1) := by decide +kernel
theorem dX5_poolEnd_6 : decode cX5_poolEnd 6 = .ok (.if_icmp .ge 20, 3) := by decide +kernel
theorem dX5_poolEnd_9 : decode cX5_poolEnd 9 = .ok (.aload_n 0, 1) := by decide +kernel
theorem dX5_poolEnd_10 : decode cX5_poolEnd 10 = .ok (.getfield 9, 3) := by decide +kernel
theorem dX5_poolEnd_13 : decode cX5_poolEnd 13 = .ok (.iload_n 3, 1) := by decide +kernel
theorem dX5_poolEnd_14 : decode cX5_poolEnd 14 = .ok (.iconst 1, 1) := by decide +kernel
theorem dX5_poolEnd_15 : decode cX5_poolEnd 15 = .ok (.iadd, 1) := by decide +kernel
theorem dX5_poolEnd_16 : decode cX5_poolEnd 16 = .ok (.iaload, 1) := by decide +kernel
theorem dX5_poolEnd_17 : decode cX5_poolEnd 17 = .ok (.ifCond .le 9, 3) := by decide +kernel
theorem dX5_poolEnd_20 : decode cX5_poolEnd 20 = .ok (.iinc 3 1, 3) := by decide +kernel
theorem dX5_poolEnd_23 : decode cX5_poolEnd 23 = .ok (.goto (-21), 3) := by decide +kernel
theorem dX5_poolEnd_26 : decode cX5_poolEnd 26 = .ok (.iload_n 3, 1) := by decide +kernel
theorem dX5_poolEnd_27 : decode cX5_poolEnd 27 = .ok (.ireturn, 1) := by decide +kernel
theorem dX5_startsPool_0 : decode cX5_startsPool 0 = .ok (.aload_n 0, 1) := by decide +kernel
theorem dX5_startsPool_1 : decode cX5_startsPool 1 = .ok (.getfield 9, 3) := by decide +kernel
theorem dX5_startsPool_4 : decode cX5_startsPool 4 = .ok (.iload_n 1, 1) := by decide +kernel
theorem dX5_startsPool_5 : decode cX5_startsPool 5 = .ok (.iaload, 1) := by decide +kernel
theorem dX5_startsPool_6 : decode cX5_startsPool 6 = .ok (.ifCond .le 22, 3) := by decide +kernel
theorem dX5_startsPool_9 : decode cX5_startsPool 9 = .ok (.iload_n 1, 1) := by decide +kernel
theorem dX5_startsPool_10 : decode cX5_startsPool 10 = .ok (.ifCond .eq 14, 3) := by decide +kernel
theorem dX5_startsPool_13 : decode cX5_startsPool 13 = .ok (.aload_n 0, 1) := by decide +kernel
theorem dX5_startsPool_14 : decode cX5_startsPool 14 = .ok (.getfield 9, 3) := by decide +kernel
theorem dX5_startsPool_17 : decode cX5_startsPool 17 = .ok (.iload_n 1, 1) := by decide +kernel
theorem dX5_startsPool_18 : decode cX5_startsPool 18 = .ok (.iconst 1, 1) := by decide +kernel
theorem dX5_startsPool_19 : decode cX5_startsPool 19 = .ok (.isub, 1) := by decide +kernel
theorem dX5_startsPool_20 : decode cX5_startsPool 20 = .ok (.iaload, 1) := by decide +kernel
theorem dX5_startsPool_21 : decode cX5_startsPool 21 = .ok (.ifCond .ne 7, 3) := by decide +kernel
theorem dX5_startsPool_24 : decode cX5_startsPool 24 = .ok (.iconst 1, 1) := by decide +kernel
theorem dX5_startsPool_25 : decode cX5_startsPool 25 = .ok (.goto 4, 3) := by decide +kernel
theorem dX5_startsPool_28 : decode cX5_startsPool 28 = .ok (.iconst 0, 1) := by decide +kernel
theorem dX5_startsPool_29 : decode cX5_startsPool 29 = .ok (.ireturn, 1) := by decide +kernel
set_option maxRecDepth 20000 in
theorem ggX6_init_X0_init : GoodIn wsX6_init wsX0_init := goodIn_r _ [30, 31, 2, 3, 32, 33, 34, 63, 64] (by decide +kernel) (by decide +kernel)
set_option maxRecDepth 20000 in
theorem gX6_init_X0_init_n9 : GoodIn wsX6_init (wsX0_init) := ggX6_init_X0_init
set_option maxRecDepth 20000 in
theorem ggX6_init_X1_init : GoodIn wsX6_init wsX1_init := goodIn_r _ [37, 38, 2, 3, 39, 40, 41, 5, 6, 29, 30, 31, 32, 33, 34, 72, 73, 63, 64] (by decide +kernel) (by decide +kernel)
set_option maxRecDepth 20000 in
theorem gX6_init_X1_init : GoodIn wsX6_init (wsX1_init) := ggX6_init_X1_init
set_option maxRecDepth 20000 in
theorem ggX6_init_X5_init : GoodIn wsX6_init wsX5_init := goodIn_r _ [43, 44, 2, 3, 32, 45, 74] (by decide +kernel) (by decide +kernel)
set_option maxRecDepth 20000 in
theorem gX6_init_X5_init_n29 : GoodIn wsX6_init (wsX5_init) := ggX6_init_X5_init
set_option maxRecDepth 20000 in
theorem ggX6_init_X3_init : GoodIn wsX6_init wsX3_init := goodIn_r _ [47, 48, 2, 3, 32, 49, 50, 51, 52, 53, 75, 76, 77, 78, 79] (by decide +kernel) (by decide +kernel)
set_option maxRecDepth 20000 in
theorem gX6_init_X3_init_n36 : GoodIn wsX6_init (wsX3_init) := ggX6_init_X3_init
set_option maxRecDepth 20000 in
theorem ggX6_init_X4_init : GoodIn wsX6_init wsX4_init := goodIn_r _ [55, 56, 2, 3, 32, 57, 58, 80, 81] (by decide +kernel) (by decide +kernel)
set_option maxRecDepth 20000 in
theorem gX6_init_X4_init_n43 : GoodIn wsX6_init (wsX4_init) := ggX6_init_X4_init
set_option maxRecDepth 20000 in
theorem ggX6_init_X2_init : GoodIn wsX6_init wsX2_init := goodIn_r _ [60, 61, 2, 3, 32, 62, 82] (by decide +kernel) (by decide +kernel)
set_option maxRecDepth 20000 in
theorem gX6_init_X2_init_n50 : GoodIn wsX6_init (wsX2_init) := ggX6_init_X2_init
theorem dX6_init_0 : decode cX6_init 0 = .ok (.aload_n 0, 1) := by decide +kernel
theorem dX6_init_1 : decode cX6_init 1 = .ok (.invokespecial 1, 3) := by decide +kernel
theorem dX6_init_4 : decode cX6_init 4 = .ok (.aload_n 0, 1) := by decide +kernel
theorem dX6_init_5 : decode cX6_init 5 = .ok (.new 7, 3) := by decide +kernel
theorem dX6_init_8 : decode cX6_init 8 = .ok (.dup, 1) := by decide +kernel
theorem dX6_init_9 : decode cX6_init 9 = .ok (.invokespecial 9, 3) := by decide +kernel
theorem dX6_init_12 : decode cX6_init 12 = .ok (.putfield 10, 3) := by decide +kernel
theorem dX6_init_15 : decode cX6_init 15 = .ok (.aload_n 0, 1) := by decide +kernel
theorem dX6_init_16 : decode cX6_init 16 = .ok (.new 16, 3) := by decide +kernel
theorem dX6_init_19 : decode cX6_init 19 = .ok (.dup, 1) := by decide +kernel
theorem dX6_init_20 : decode cX6_init 20 = .ok (.invokespecial 18, 3) := by decide +kernel
theorem dX6_init_23 : decode cX6_init 23 = .ok (.putfield 19, 3) := by decide +kernel
theorem dX6_init_26 : decode cX6_init 26 = .ok (.aload_n 0, 1) := by decide +kernel
theorem dX6_init_27 : decode cX6_init 27 = .ok (.iconst 2, 1) := by decide +kernel
theorem dX6_init_28 : decode cX6_init 28 = .ok (.anewarray 7, 3) := by decide +kernel
theorem dX6_init_31 : decode cX6_init 31 = .ok (.putfield 23, 3) := by decide +kernel
theorem dX6_init_34 : decode cX6_init 34 = .ok (.aload_n 0, 1) := by decide +kernel
theorem dX6_init_35 : decode cX6_init 35 = .ok (.new 27, 3) := by decide +kernel
theorem dX6_init_38 : decode cX6_init 38 = .ok (.dup, 1) := by decide +kernel
theorem dX6_init_39 : decode cX6_init 39 = .ok (.invokespecial 29, 3) := by decide +kernel
theorem dX6_init_42 : decode cX6_init 42 = .ok (.putfield 30, 3) := by decide +kernel
theorem dX6_init_45 : decode cX6_init 45 = .ok (.aload_n 0, 1) := by decide +kernel
theorem dX6_init_46 : decode cX6_init 46 = .ok (.new 34, 3) := by decide +kernel
theorem dX6_init_49 : decode cX6_init 49 = .ok (.dup, 1) := by decide +kernel
theorem dX6_init_50 : decode cX6_init 50 = .ok (.invokespecial 36, 3) := by decide +kernel
theorem dX6_init_53 : decode cX6_init 53 = .ok (.putfield 37, 3) := by decide +kernel
theorem dX6_init_56 : decode cX6_init 56 = .ok (.aload_n 0, 1) := by decide +kernel
theorem dX6_init_57 : decode cX6_init 57 = .ok (.new 41, 3) := by decide +kernel
theorem dX6_init_60 : decode cX6_init 60 = .ok (.dup, 1) := by decide +kernel
theorem dX6_init_61 : decode cX6_init 61 = .ok (.invokespecial 43, 3) := by decide +kernel
theorem dX6_init_64 : decode cX6_init 64 = .ok (.putfield 44, 3) := by decide +kernel
theorem dX6_init_67 : decode cX6_init 67 = .ok (.aload_n 0, 1) := by decide +kernel
theorem dX6_init_68 : decode cX6_init 68 = .ok (.new 48, 3) := by decide +kernel
theorem dX6_init_71 : decode cX6_init 71 = .ok (.dup, 1) := by decide +kernel
theorem dX6_init_72 : decode cX6_init 72 = .ok (.invokespecial 50, 3) := by decide +kernel
theorem dX6_init_75 : decode cX6_init 75 = .ok (.putfield 51, 3) := by decide +kernel
theorem dX6_init_78 : decode cX6_init 78 = .ok (.return_, 1) := by decide +kernel
set_option maxRecDepth 20000 in
theorem ggX6_insert_X6_isHeight : GoodIn wsX6_insert wsX6_isHeight := goodIn_r _ [6] (by decide +kernel) (by decide +kernel)
set_option maxRecDepth 20000 in
theorem gX6_insert_X6_isHeight : GoodIn wsX6_insert (va_wsS RX6 59 yX6_isHeight wsX6_isHeight) := goodIn_app (goodIn_of _ (by decide +kernel)) ggX6_insert_X6_isHeight
set_option maxRecDepth 20000 in
theorem ggX6_insert_X1_remember : GoodIn wsX6_insert wsX1_remember := goodIn_r _ [11, 12, 13, 14, 15, 16, 10, 17, 18, 19, 20, 21, 22, 23, 24, 25, 26, 27, 28, 42, 43, 40, 41] (by decide +kernel) (by decide +kernel)
set_option maxRecDepth 20000 in
theorem gX6_insert_X1_remember : GoodIn wsX6_insert (wsV RX6 63 RX1 yX1_remember wsX1_remember) := goodIn_app (goodIn_of _ (by decide +kernel)) ggX6_insert_X1_remember
set_option maxRecDepth 20000 in
theorem ggX6_insert_X0_putIn : GoodIn wsX6_insert wsX0_putIn := goodIn_r _ [32, 23, 24, 25, 26, 27, 28, 40, 41] (by decide +kernel) (by decide +kernel)
set_option maxRecDepth 20000 in
theorem gX6_insert_X0_putIn : GoodIn wsX6_insert (wsV RX6 67 RX0 yX0_putIn wsX0_putIn) := goodIn_app (goodIn_of _ (by decide +kernel)) ggX6_insert_X0_putIn
theorem dX6_insert_0 : decode cX6_insert 0 = .ok (.iload_n 1, 1) := by decide +kernel
theorem dX6_insert_1 : decode cX6_insert 1 = .ok (.ifCond .lt 21, 3) := by decide +kernel
theorem dX6_insert_4 : decode cX6_insert 4 = .ok (.iload_n 1, 1) := by decide +kernel
theorem dX6_insert_5 : decode cX6_insert 5 = .ok (.aload_n 0, 1) := by decide +kernel
theorem dX6_insert_6 : decode cX6_insert 6 = .ok (.getfield 10, 3) := by decide +kernel
theorem dX6_insert_9 : decode cX6_insert 9 = .ok (.getfield 55, 3) := by decide +kernel
theorem dX6_insert_12 : decode cX6_insert 12 = .ok (.if_icmp .gt 10, 3) := by decide +kernel
theorem dX6_insert_15 : decode cX6_insert 15 = .ok (.iload_n 2, 1) := by decide +kernel
theorem dX6_insert_16 : decode cX6_insert 16 = .ok (.invokestatic 59, 3) := by decide +kernel
theorem dX6_insert_19 : decode cX6_insert 19 = .ok (.ifCond .ne 5, 3) := by decide +kernel
theorem dX6_insert_22 : decode cX6_insert 22 = .ok (.iconst (-1), 1) := by decide +kernel
theorem dX6_insert_23 : decode cX6_insert 23 = .ok (.ireturn, 1) := by decide +kernel
theorem dX6_insert_24 : decode cX6_insert 24 = .ok (.aload_n 0, 1) := by decide +kernel
theorem dX6_insert_25 : decode cX6_insert 25 = .ok (.getfield 10, 3) := by decide +kernel
theorem dX6_insert_28 : decode cX6_insert 28 = .ok (.getfield 55, 3) := by decide +kernel
theorem dX6_insert_31 : decode cX6_insert 31 = .ok (.bipush 40, 2) := by decide +kernel
theorem dX6_insert_33 : decode cX6_insert 33 = .ok (.if_icmp .lt 6, 3) := by decide +kernel
theorem dX6_insert_36 : decode cX6_insert 36 = .ok (.bipush (-3), 2) := by decide +kernel
theorem dX6_insert_38 : decode cX6_insert 38 = .ok (.ireturn, 1) := by decide +kernel
theorem dX6_insert_39 : decode cX6_insert 39 = .ok (.aload_n 0, 1) := by decide +kernel
theorem dX6_insert_40 : decode cX6_insert 40 = .ok (.getfield 19, 3) := by decide +kernel
theorem dX6_insert_43 : decode cX6_insert 43 = .ok (.aload_n 0, 1) := by decide +kernel
theorem dX6_insert_44 : decode cX6_insert 44 = .ok (.getfield 10, 3) := by decide +kernel
theorem dX6_insert_47 : decode cX6_insert 47 = .ok (.invokevirtual 63, 3) := by decide +kernel
theorem dX6_insert_50 : decode cX6_insert 50 = .ok (.aload_n 0, 1) := by decide +kernel
theorem dX6_insert_51 : decode cX6_insert 51 = .ok (.getfield 10, 3) := by decide +kernel
theorem dX6_insert_54 : decode cX6_insert 54 = .ok (.iload_n 1, 1) := by decide +kernel
theorem dX6_insert_55 : decode cX6_insert 55 = .ok (.iload_n 2, 1) := by decide +kernel
theorem dX6_insert_56 : decode cX6_insert 56 = .ok (.invokevirtual 67, 3) := by decide +kernel
theorem dX6_insert_59 : decode cX6_insert 59 = .ok (.aload_n 0, 1) := by decide +kernel
theorem dX6_insert_60 : decode cX6_insert 60 = .ok (.getfield 10, 3) := by decide +kernel
theorem dX6_insert_63 : decode cX6_insert 63 = .ok (.getfield 55, 3) := by decide +kernel
theorem dX6_insert_66 : decode cX6_insert 66 = .ok (.ireturn, 1) := by decide +kernel
set_option maxRecDepth 20000 in
theorem ggX6_remove_X0_has : GoodIn wsX6_remove wsX0_has := goodIn_r _ [7, 8, 40, 41] (by decide +kernel) (by decide +kernel)
set_option maxRecDepth 20000 in
theorem gX6_remove_X0_has : GoodIn wsX6_remove (wsV RX6 71 RX0 yX0_has wsX0_has) := goodIn_app (goodIn_of _ (by decide +kernel)) ggX6_remove_X0_has
set_option maxRecDepth 20000 in
theorem ggX6_remove_X1_remember : GoodIn wsX6_remove wsX1_remember := goodIn_r _ [13, 14, 15, 16, 17, 18, 12, 19, 20, 21, 22, 6, 23, 24, 8, 25, 26, 27, 28, 42, 43, 40, 41] (by decide +kernel) (by decide +kernel)
set_option maxRecDepth 20000 in
theorem gX6_remove_X1_remember : GoodIn wsX6_remove (wsV RX6 63 RX1 yX1_remember wsX1_remember) := goodIn_app (goodIn_of _ (by decide +kernel)) ggX6_remove_X1_remember
set_option maxRecDepth 20000 in
theorem ggX6_remove_X0_takeOut : GoodIn wsX6_remove wsX0_takeOut := goodIn_r _ [32, 24, 8, 25, 26, 27, 28, 40, 41] (by decide +kernel) (by decide +kernel)
set_option maxRecDepth 20000 in
theorem gX6_remove_X0_takeOut : GoodIn wsX6_remove (wsV RX6 74 RX0 yX0_takeOut wsX0_takeOut) := goodIn_app (goodIn_of _ (by decide +kernel)) ggX6_remove_X0_takeOut
theorem dX6_remove_0 : decode cX6_remove 0 = .ok (.aload_n 0, 1) := by decide +kernel
theorem dX6_remove_1 : decode cX6_remove 1 = .ok (.getfield 10, 3) := by decide +kernel
theorem dX6_remove_4 : decode cX6_remove 4 = .ok (.iload_n 1, 1) := by decide +kernel
theorem dX6_remove_5 : decode cX6_remove 5 = .ok (.invokevirtual 71, 3) := by decide +kernel
theorem dX6_remove_8 : decode cX6_remove 8 = .ok (.ifCond .ne 5, 3) := by decide +kernel
theorem dX6_remove_11 : decode cX6_remove 11 = .ok (.iconst (-1), 1) := by decide +kernel
theorem dX6_remove_12 : decode cX6_remove 12 = .ok (.ireturn, 1) := by decide +kernel
theorem dX6_remove_13 : decode cX6_remove 13 = .ok (.aload_n 0, 1) := by decide +kernel
theorem dX6_remove_14 : decode cX6_remove 14 = .ok (.getfield 19, 3) := by decide +kernel
theorem dX6_remove_17 : decode cX6_remove 17 = .ok (.aload_n 0, 1) := by decide +kernel
theorem dX6_remove_18 : decode cX6_remove 18 = .ok (.getfield 10, 3) := by decide +kernel
theorem dX6_remove_21 : decode cX6_remove 21 = .ok (.invokevirtual 63, 3) := by decide +kernel
theorem dX6_remove_24 : decode cX6_remove 24 = .ok (.aload_n 0, 1) := by decide +kernel
theorem dX6_remove_25 : decode cX6_remove 25 = .ok (.getfield 10, 3) := by decide +kernel
theorem dX6_remove_28 : decode cX6_remove 28 = .ok (.iload_n 1, 1) := by decide +kernel
theorem dX6_remove_29 : decode cX6_remove 29 = .ok (.invokevirtual 74, 3) := by decide +kernel
theorem dX6_remove_32 : decode cX6_remove 32 = .ok (.ireturn, 1) := by decide +kernel
set_option maxRecDepth 20000 in
theorem ggX6_set_X0_has : GoodIn wsX6_set wsX0_has := goodIn_r _ [7, 8, 40, 41] (by decide +kernel) (by decide +kernel)
set_option maxRecDepth 20000 in
theorem gX6_set_X0_has : GoodIn wsX6_set (wsV RX6 71 RX0 yX0_has wsX0_has) := goodIn_app (goodIn_of _ (by decide +kernel)) ggX6_set_X0_has
set_option maxRecDepth 20000 in
theorem ggX6_set_X6_isHeight : GoodIn wsX6_set wsX6_isHeight := goodIn_r _ [12] (by decide +kernel) (by decide +kernel)
set_option maxRecDepth 20000 in
theorem gX6_set_X6_isHeight : GoodIn wsX6_set (va_wsS RX6 59 yX6_isHeight wsX6_isHeight) := goodIn_app (goodIn_of _ (by decide +kernel)) ggX6_set_X6_isHeight
set_option maxRecDepth 20000 in
theorem ggX6_set_X1_remember : GoodIn wsX6_set wsX1_remember := goodIn_r _ [17, 18, 19, 20, 21, 22, 16, 23, 24, 25, 26, 6, 27, 28, 8, 29, 30, 31, 32, 42, 43, 40, 41] (by decide +kernel) (by decide +kernel)
set_option maxRecDepth 20000 in
theorem gX6_set_X1_remember : GoodIn wsX6_set (wsV RX6 63 RX1 yX1_remember wsX1_remember) := goodIn_app (goodIn_of _ (by decide +kernel)) ggX6_set_X1_remember
theorem dX6_set_0 : decode cX6_set 0 = .ok (.aload_n 0, 1) := by decide +kernel
theorem dX6_set_1 : decode cX6_set 1 = .ok (.getfield 10, 3) := by decide +kernel
theorem dX6_set_4 : decode cX6_set 4 = .ok (.iload_n 1, 1) := by decide +kernel
theorem dX6_set_5 : decode cX6_set 5 = .ok (.invokevirtual 71, 3) := by decide +kernel
theorem dX6_set_8 : decode cX6_set 8 = .ok (.ifCond .eq 10, 3) := by decide +kernel
theorem dX6_set_11 : decode cX6_set 11 = .ok (.iload_n 2, 1) := by decide +kernel
theorem dX6_set_12 : decode cX6_set 12 = .ok (.invokestatic 59, 3) := by decide +kernel
theorem dX6_set_15 : decode cX6_set 15 = .ok (.ifCond .ne 5, 3) := by decide +kernel
theorem dX6_set_18 : decode cX6_set 18 = .ok (.iconst (-1), 1) := by decide +kernel
theorem dX6_set_19 : decode cX6_set 19 = .ok (.ireturn, 1) := by decide +kernel
theorem dX6_set_20 : decode cX6_set 20 = .ok (.aload_n 0, 1) := by decide +kernel
theorem dX6_set_21 : decode cX6_set 21 = .ok (.getfield 19, 3) := by decide +kernel
theorem dX6_set_24 : decode cX6_set 24 = .ok (.aload_n 0, 1) := by decide +kernel
theorem dX6_set_25 : decode cX6_set 25 = .ok (.getfield 10, 3) := by decide +kernel
theorem dX6_set_28 : decode cX6_set 28 = .ok (.invokevirtual 63, 3) := by decide +kernel
theorem dX6_set_31 : decode cX6_set 31 = .ok (.aload_n 0, 1) := by decide +kernel
theorem dX6_set_32 : decode cX6_set 32 = .ok (.getfield 10, 3) := by decide +kernel
theorem dX6_set_35 : decode cX6_set 35 = .ok (.getfield 78, 3) := by decide +kernel
theorem dX6_set_38 : decode cX6_set 38 = .ok (.iload_n 1, 1) := by decide +kernel
theorem dX6_set_39 : decode cX6_set 39 = .ok (.iaload, 1) := by decide +kernel
theorem dX6_set_40 : decode cX6_set 40 = .ok (.istore_n 3, 1) := by decide +kernel
theorem dX6_set_41 : decode cX6_set 41 = .ok (.aload_n 0, 1) := by decide +kernel
theorem dX6_set_42 : decode cX6_set 42 = .ok (.getfield 10, 3) := by decide +kernel
theorem dX6_set_45 : decode cX6_set 45 = .ok (.getfield 78, 3) := by decide +kernel
theorem dX6_set_48 : decode cX6_set 48 = .ok (.iload_n 1, 1) := by decide +kernel
theorem dX6_set_49 : decode cX6_set 49 = .ok (.iload_n 2, 1) := by decide +kernel
theorem dX6_set_50 : decode cX6_set 50 = .ok (.iastore, 1) := by decide +kernel
theorem dX6_set_51 : decode cX6_set 51 = .ok (.iload_n 3, 1) := by decide +kernel
theorem dX6_set_52 : decode cX6_set 52 = .ok (.ireturn, 1) := by decide +kernel
set_option maxRecDepth 20000 in
theorem ggX6_raise_X0_hasRange : GoodIn wsX6_raise wsX0_hasRange := goodIn_r _ [7, 8, 47, 48] (by decide +kernel) (by decide +kernel)
set_option maxRecDepth 20000 in
theorem gX6_raise_X0_hasRange : GoodIn wsX6_raise (wsV RX6 82 RX0 yX0_hasRange wsX0_hasRange) := goodIn_app (goodIn_of _ (by decide +kernel)) ggX6_raise_X0_hasRange
set_option maxRecDepth 20000 in
theorem ggX6_raise_X1_remember : GoodIn wsX6_raise wsX1_remember := goodIn_r _ [13, 14, 15, 16, 17, 18, 12, 19, 20, 21, 22, 6, 23, 24, 8, 25, 26, 27, 28, 49, 50, 47, 48] (by decide +kernel) (by decide +kernel)
set_option maxRecDepth 20000 in
theorem gX6_raise_X1_remember : GoodIn wsX6_raise (wsV RX6 63 RX1 yX1_remember wsX1_remember) := goodIn_app (goodIn_of _ (by decide +kernel)) ggX6_raise_X1_remember
set_option maxRecDepth 20000 in
theorem ggX6_raise_X0_lift : GoodIn wsX6_raise wsX0_lift := goodIn_r _ [32, 24, 33, 34, 35, 36, 37, 38, 39, 47, 48] (by decide +kernel) (by decide +kernel)
set_option maxRecDepth 20000 in
theorem gX6_raise_X0_lift : GoodIn wsX6_raise (wsV RX6 86 RX0 yX0_lift wsX0_lift) := goodIn_app (goodIn_of _ (by decide +kernel)) ggX6_raise_X0_lift
theorem dX6_raise_0 : decode cX6_raise 0 = .ok (.aload_n 0, 1) := by decide +kernel
theorem dX6_raise_1 : decode cX6_raise 1 = .ok (.getfield 10, 3) := by decide +kernel
theorem dX6_raise_4 : decode cX6_raise 4 = .ok (.iload_n 1, 1) := by decide +kernel
theorem dX6_raise_5 : decode cX6_raise 5 = .ok (.iload_n 2, 1) := by decide +kernel
theorem dX6_raise_6 : decode cX6_raise 6 = .ok (.invokevirtual 82, 3) := by decide +kernel
theorem dX6_raise_9 : decode cX6_raise 9 = .ok (.ifCond .eq 15, 3) := by decide +kernel
theorem dX6_raise_12 : decode cX6_raise 12 = .ok (.iload_n 3, 1) := by decide +kernel
theorem dX6_raise_13 : decode cX6_raise 13 = .ok (.bipush (-50), 2) := by decide +kernel
theorem dX6_raise_15 : decode cX6_raise 15 = .ok (.if_icmp .lt 9, 3) := by decide +kernel
theorem dX6_raise_18 : decode cX6_raise 18 = .ok (.iload_n 3, 1) := by decide +kernel
theorem dX6_raise_19 : decode cX6_raise 19 = .ok (.bipush 50, 2) := by decide +kernel
theorem dX6_raise_21 : decode cX6_raise 21 = .ok (.if_icmp .le 5, 3) := by decide +kernel
theorem dX6_raise_24 : decode cX6_raise 24 = .ok (.iconst (-1), 1) := by decide +kernel
theorem dX6_raise_25 : decode cX6_raise 25 = .ok (.ireturn, 1) := by decide +kernel
theorem dX6_raise_26 : decode cX6_raise 26 = .ok (.aload_n 0, 1) := by decide +kernel
theorem dX6_raise_27 : decode cX6_raise 27 = .ok (.getfield 19, 3) := by decide +kernel
theorem dX6_raise_30 : decode cX6_raise 30 = .ok (.aload_n 0, 1) := by decide +kernel
theorem dX6_raise_31 : decode cX6_raise 31 = .ok (.getfield 10, 3) := by decide +kernel
theorem dX6_raise_34 : decode cX6_raise 34 = .ok (.invokevirtual 63, 3) := by decide +kernel
theorem dX6_raise_37 : decode cX6_raise 37 = .ok (.aload_n 0, 1) := by decide +kernel
theorem dX6_raise_38 : decode cX6_raise 38 = .ok (.getfield 10, 3) := by decide +kernel
theorem dX6_raise_41 : decode cX6_raise 41 = .ok (.iload_n 1, 1) := by decide +kernel
theorem dX6_raise_42 : decode cX6_raise 42 = .ok (.iload_n 2, 1) := by decide +kernel
theorem dX6_raise_43 : decode cX6_raise 43 = .ok (.iload_n 3, 1) := by decide +kernel
theorem dX6_raise_44 : decode cX6_raise 44 = .ok (.invokevirtual 86, 3) := by decide +kernel
theorem dX6_raise_47 : decode cX6_raise 47 = .ok (.ireturn, 1) := by decide +kernel
set_option maxRecDepth 20000 in
theorem ggX6_reverse_X0_hasRange : GoodIn wsX6_reverse wsX0_hasRange := goodIn_r _ [7, 8, 44, 45] (by decide +kernel) (by decide +kernel)
set_option maxRecDepth 20000 in
theorem gX6_reverse_X0_hasRange : GoodIn wsX6_reverse (wsV RX6 82 RX0 yX0_hasRange wsX0_hasRange) := goodIn_app (goodIn_of _ (by decide +kernel)) ggX6_reverse_X0_hasRange
set_option maxRecDepth 20000 in
theorem ggX6_reverse_X1_remember : GoodIn wsX6_reverse wsX1_remember := goodIn_r _ [13, 14, 15, 16, 17, 18, 12, 19, 20, 21, 22, 6, 23, 24, 8, 25, 26, 27, 28, 46, 47, 44, 45] (by decide +kernel) (by decide +kernel)
set_option maxRecDepth 20000 in
theorem gX6_reverse_X1_remember : GoodIn wsX6_reverse (wsV RX6 63 RX1 yX1_remember wsX1_remember) := goodIn_app (goodIn_of _ (by decide +kernel)) ggX6_reverse_X1_remember
set_option maxRecDepth 20000 in
theorem ggX6_reverse_X0_mirror : GoodIn wsX6_reverse wsX0_mirror := goodIn_r _ [32, 24, 33, 34, 35, 6, 36, 44, 45] (by decide +kernel) (by decide +kernel)
set_option maxRecDepth 20000 in
theorem gX6_reverse_X0_mirror : GoodIn wsX6_reverse (wsV RX6 90 RX0 yX0_mirror wsX0_mirror) := goodIn_app (goodIn_of _ (by decide +kernel)) ggX6_reverse_X0_mirror
theorem dX6_reverse_0 : decode cX6_reverse 0 = .ok (.aload_n 0, 1) := by decide +kernel
theorem dX6_reverse_1 : decode cX6_reverse 1 = .ok (.getfield 10, 3) := by decide +kernel
theorem dX6_reverse_4 : decode cX6_reverse 4 = .ok (.iload_n 1, 1) := by decide +kernel
theorem dX6_reverse_5 : decode cX6_reverse 5 = .ok (.iload_n 2, 1) := by decide +kernel
theorem dX6_reverse_6 : decode cX6_reverse 6 = .ok (.invokevirtual 82, 3) := by decide +kernel
theorem dX6_reverse_9 : decode cX6_reverse 9 = .ok (.ifCond .ne 5, 3) := by decide +kernel
theorem dX6_reverse_12 : decode cX6_reverse 12 = .ok (.iconst (-1), 1) := by decide +kernel
theorem dX6_reverse_13 : decode cX6_reverse 13 = .ok (.ireturn, 1) := by decide +kernel
theorem dX6_reverse_14 : decode cX6_reverse 14 = .ok (.aload_n 0, 1) := by decide +kernel
theorem dX6_reverse_15 : decode cX6_reverse 15 = .ok (.getfield 19, 3) := by decide +kernel
theorem dX6_reverse_18 : decode cX6_reverse 18 = .ok (.aload_n 0, 1) := by decide +kernel
theorem dX6_reverse_19 : decode cX6_reverse 19 = .ok (.getfield 10, 3) := by decide +kernel
theorem dX6_reverse_22 : decode cX6_reverse 22 = .ok (.invokevirtual 63, 3) := by decide +kernel
theorem dX6_reverse_25 : decode cX6_reverse 25 = .ok (.aload_n 0, 1) := by decide +kernel
theorem dX6_reverse_26 : decode cX6_reverse 26 = .ok (.getfield 10, 3) := by decide +kernel
theorem dX6_reverse_29 : decode cX6_reverse 29 = .ok (.iload_n 1, 1) := by decide +kernel
theorem dX6_reverse_30 : decode cX6_reverse 30 = .ok (.iload_n 2, 1) := by decide +kernel
theorem dX6_reverse_31 : decode cX6_reverse 31 = .ok (.invokevirtual 90, 3) := by decide +kernel
theorem dX6_reverse_34 : decode cX6_reverse 34 = .ok (.ireturn, 1) := by decide +kernel
set_option maxRecDepth 20000 in
theorem ggX6_sort_X0_hasRange : GoodIn wsX6_sort wsX0_hasRange := goodIn_r _ [7, 8, 47, 48] (by decide +kernel) (by decide +kernel)
set_option maxRecDepth 20000 in
theorem gX6_sort_X0_hasRange : GoodIn wsX6_sort (wsV RX6 82 RX0 yX0_hasRange wsX0_hasRange) := goodIn_app (goodIn_of _ (by decide +kernel)) ggX6_sort_X0_hasRange
set_option maxRecDepth 20000 in
theorem ggX6_sort_X1_remember : GoodIn wsX6_sort wsX1_remember := goodIn_r _ [13, 14, 15, 16, 17, 18, 12, 19, 20, 21, 22, 6, 23, 24, 8, 25, 26, 27, 28, 49, 50, 47, 48] (by decide +kernel) (by decide +kernel)
set_option maxRecDepth 20000 in
theorem gX6_sort_X1_remember : GoodIn wsX6_sort (wsV RX6 63 RX1 yX1_remember wsX1_remember) := goodIn_app (goodIn_of _ (by decide +kernel)) ggX6_sort_X1_remember
set_option maxRecDepth 20000 in
theorem ggX6_sort_X0_arrange : GoodIn wsX6_sort wsX0_arrange := goodIn_r _ [32, 24, 33, 34, 6, 35, 36, 37, 38, 39, 47, 48] (by decide +kernel) (by decide +kernel)
set_option maxRecDepth 20000 in
theorem gX6_sort_X0_arrange : GoodIn wsX6_sort (wsV RX6 94 RX0 yX0_arrange wsX0_arrange) := goodIn_app (goodIn_of _ (by decide +kernel)) ggX6_sort_X0_arrange
theorem dX6_sort_0 : decode cX6_sort 0 = .ok (.aload_n 0, 1) := by decide +kernel
theorem dX6_sort_1 : decode cX6_sort 1 = .ok (.getfield 10, 3) := by decide +kernel
theorem dX6_sort_4 : decode cX6_sort 4 = .ok (.iload_n 1, 1) := by decide +kernel
theorem dX6_sort_5 : decode cX6_sort 5 = .ok (.iload_n 2, 1) := by decide +kernel
theorem dX6_sort_6 : decode cX6_sort 6 = .ok (.invokevirtual 82, 3) := by decide +kernel
theorem dX6_sort_9 : decode cX6_sort 9 = .ok (.ifCond .eq 12, 3) := by decide +kernel
theorem dX6_sort_12 : decode cX6_sort 12 = .ok (.iload_n 3, 1) := by decide +kernel
theorem dX6_sort_13 : decode cX6_sort 13 = .ok (.ifCond .lt 8, 3) := by decide +kernel
theorem dX6_sort_16 : decode cX6_sort 16 = .ok (.iload_n 3, 1) := by decide +kernel
theorem dX6_sort_17 : decode cX6_sort 17 = .ok (.iconst 1, 1) := by decide +kernel
theorem dX6_sort_18 : decode cX6_sort 18 = .ok (.if_icmp .le 5, 3) := by decide +kernel
theorem dX6_sort_21 : decode cX6_sort 21 = .ok (.iconst (-1), 1) := by decide +kernel
theorem dX6_sort_22 : decode cX6_sort 22 = .ok (.ireturn, 1) := by decide +kernel
theorem dX6_sort_23 : decode cX6_sort 23 = .ok (.aload_n 0, 1) := by decide +kernel
theorem dX6_sort_24 : decode cX6_sort 24 = .ok (.getfield 19, 3) := by decide +kernel
theorem dX6_sort_27 : decode cX6_sort 27 = .ok (.aload_n 0, 1) := by decide +kernel
theorem dX6_sort_28 : decode cX6_sort 28 = .ok (.getfield 10, 3) := by decide +kernel
theorem dX6_sort_31 : decode cX6_sort 31 = .ok (.invokevirtual 63, 3) := by decide +kernel
theorem dX6_sort_34 : decode cX6_sort 34 = .ok (.aload_n 0, 1) := by decide +kernel
theorem dX6_sort_35 : decode cX6_sort 35 = .ok (.getfield 10, 3) := by decide +kernel
theorem dX6_sort_38 : decode cX6_sort 38 = .ok (.iload_n 1, 1) := by decide +kernel
theorem dX6_sort_39 : decode cX6_sort 39 = .ok (.iload_n 2, 1) := by decide +kernel
theorem dX6_sort_40 : decode cX6_sort 40 = .ok (.iload_n 3, 1) := by decide +kernel
theorem dX6_sort_41 : decode cX6_sort 41 = .ok (.iconst 1, 1) := by decide +kernel
theorem dX6_sort_42 : decode cX6_sort 42 = .ok (.if_icmp .ne 7, 3) := by decide +kernel
theorem dX6_sort_45 : decode cX6_sort 45 = .ok (.iconst 1, 1) := by decide +kernel
theorem dX6_sort_46 : decode cX6_sort 46 = .ok (.goto 4, 3) := by decide +kernel
theorem dX6_sort_49 : decode cX6_sort 49 = .ok (.iconst 0, 1) := by decide +kernel
theorem dX6_sort_50 : decode cX6_sort 50 = .ok (.invokevirtual 94, 3) := by decide +kernel
theorem dX6_sort_53 : decode cX6_sort 53 = .ok (.ireturn, 1) := by decide +kernel
set_option maxRecDepth 20000 in
theorem ggX6_freeze_X1_remember : GoodIn wsX6_freeze wsX1_remember := goodIn_r _ [8, 9, 10, 11, 12, 13, 7, 14, 15, 16, 17, 18, 19, 20, 21, 22, 23, 24, 25, 54, 55, 51, 52] (by decide +kernel) (by decide +kernel)
set_option maxRecDepth 20000 in
theorem gX6_freeze_X1_remember : GoodIn wsX6_freeze (wsV RX6 63 RX1 yX1_remember wsX1_remember) := goodIn_app (goodIn_of _ (by decide +kernel)) ggX6_freeze_X1_remember
set_option maxRecDepth 20000 in
theorem ggX6_freeze_X6_pourAll : GoodIn wsX6_freeze wsX6_pourAll := goodIn_r _ [30, 3, 2, 31, 32, 33, 34, 35, 36, 37, 38, 39, 40, 41, 42, 43, 44, 45, 46, 47, 48, 49, 50, 51, 52, 53] (by decide +kernel) (by decide +kernel)
set_option maxRecDepth 20000 in
theorem gX6_freeze_X6_pourAll : GoodIn wsX6_freeze (wsV RX6 98 RX6 yX6_pourAll wsX6_pourAll) := goodIn_app (goodIn_of _ (by decide +kernel)) ggX6_freeze_X6_pourAll
theorem dX6_freeze_0 : decode cX6_freeze 0 = .ok (.aload_n 0, 1) := by decide +kernel
theorem dX6_freeze_1 : decode cX6_freeze 1 = .ok (.getfield 19, 3) := by decide +kernel
theorem dX6_freeze_4 : decode cX6_freeze 4 = .ok (.aload_n 0, 1) := by decide +kernel
theorem dX6_freeze_5 : decode cX6_freeze 5 = .ok (.getfield 10, 3) := by decide +kernel
theorem dX6_freeze_8 : decode cX6_freeze 8 = .ok (.invokevirtual 63, 3) := by decide +kernel
theorem dX6_freeze_11 : decode cX6_freeze 11 = .ok (.aload_n 0, 1) := by decide +kernel
theorem dX6_freeze_12 : decode cX6_freeze 12 = .ok (.invokevirtual 98, 3) := by decide +kernel
theorem dX6_freeze_15 : decode cX6_freeze 15 = .ok (.istore_n 1, 1) := by decide +kernel
theorem dX6_freeze_16 : decode cX6_freeze 16 = .ok (.iconst 0, 1) := by decide +kernel
theorem dX6_freeze_17 : decode cX6_freeze 17 = .ok (.istore_n 2, 1) := by decide +kernel
theorem dX6_freeze_18 : decode cX6_freeze 18 = .ok (.iload_n 2, 1) := by decide +kernel
theorem dX6_freeze_19 : decode cX6_freeze 19 = .ok (.aload_n 0, 1) := by decide +kernel
theorem dX6_freeze_20 : decode cX6_freeze 20 = .ok (.getfield 10, 3) := by decide +kernel
theorem dX6_freeze_23 : decode cX6_freeze 23 = .ok (.getfield 55, 3) := by decide +kernel
theorem dX6_freeze_26 : decode cX6_freeze 26 = .ok (.if_icmp .ge 30, 3) := by decide +kernel
theorem dX6_freeze_29 : decode cX6_freeze 29 = .ok (.aload_n 0, 1) := by decide +kernel
theorem dX6_freeze_30 : decode cX6_freeze 30 = .ok (.getfield 10, 3) := by decide +kernel
theorem dX6_freeze_33 : decode cX6_freeze 33 = .ok (.getfield 78, 3) := by decide +kernel
theorem dX6_freeze_36 : decode cX6_freeze 36 = .ok (.iload_n 2, 1) := by decide +kernel
theorem dX6_freeze_37 : decode cX6_freeze 37 = .ok (.dup2, 1) := by decide +kernel
theorem dX6_freeze_38 : decode cX6_freeze 38 = .ok (.iaload, 1) := by decide +kernel
theorem dX6_freeze_39 : decode cX6_freeze 39 = .ok (.aload_n 0, 1) := by decide +kernel
theorem dX6_freeze_40 : decode cX6_freeze 40 = .ok (.getfield 30, 3) := by decide +kernel
theorem dX6_freeze_43 : decode cX6_freeze 43 = .ok (.getfield 102, 3) := by decide +kernel
theorem dX6_freeze_46 : decode cX6_freeze 46 = .ok (.iload_n 2, 1) := by decide +kernel
theorem dX6_freeze_47 : decode cX6_freeze 47 = .ok (.iaload, 1) := by decide +kernel
theorem dX6_freeze_48 : decode cX6_freeze 48 = .ok (.iadd, 1) := by decide +kernel
theorem dX6_freeze_49 : decode cX6_freeze 49 = .ok (.iastore, 1) := by decide +kernel
theorem dX6_freeze_50 : decode cX6_freeze 50 = .ok (.iinc 2 1, 3) := by decide +kernel
theorem dX6_freeze_53 : decode cX6_freeze 53 = .ok (.goto (-35), 3) := by decide +kernel
theorem dX6_freeze_56 : decode cX6_freeze 56 = .ok (.iload_n 1, 1) := by decide +kernel
theorem dX6_freeze_57 : decode cX6_freeze 57 = .ok (.ireturn, 1) := by decide +kernel
set_option maxRecDepth 20000 in
theorem ggX6_clear_X1_remember : GoodIn wsX6_clear wsX1_remember := goodIn_r _ [7, 8, 9, 10, 11, 12, 6, 13, 14, 15, 16, 17, 18, 19, 20, 21, 22, 23, 24, 34, 35, 32, 33] (by decide +kernel) (by decide +kernel)
set_option maxRecDepth 20000 in
theorem gX6_clear_X1_remember : GoodIn wsX6_clear (wsV RX6 63 RX1 yX1_remember wsX1_remember) := goodIn_app (goodIn_of _ (by decide +kernel)) ggX6_clear_X1_remember
theorem dX6_clear_0 : decode cX6_clear 0 = .ok (.aload_n 0, 1) := by decide +kernel
theorem dX6_clear_1 : decode cX6_clear 1 = .ok (.getfield 19, 3) := by decide +kernel
theorem dX6_clear_4 : decode cX6_clear 4 = .ok (.aload_n 0, 1) := by decide +kernel
theorem dX6_clear_5 : decode cX6_clear 5 = .ok (.getfield 10, 3) := by decide +kernel
theorem dX6_clear_8 : decode cX6_clear 8 = .ok (.invokevirtual 63, 3) := by decide +kernel
theorem dX6_clear_11 : decode cX6_clear 11 = .ok (.aload_n 0, 1) := by decide +kernel
theorem dX6_clear_12 : decode cX6_clear 12 = .ok (.getfield 10, 3) := by decide +kernel
theorem dX6_clear_15 : decode cX6_clear 15 = .ok (.getfield 55, 3) := by decide +kernel
theorem dX6_clear_18 : decode cX6_clear 18 = .ok (.istore_n 1, 1) := by decide +kernel
theorem dX6_clear_19 : decode cX6_clear 19 = .ok (.aload_n 0, 1) := by decide +kernel
theorem dX6_clear_20 : decode cX6_clear 20 = .ok (.getfield 10, 3) := by decide +kernel
theorem dX6_clear_23 : decode cX6_clear 23 = .ok (.iconst 0, 1) := by decide +kernel
theorem dX6_clear_24 : decode cX6_clear 24 = .ok (.putfield 55, 3) := by decide +kernel
theorem dX6_clear_27 : decode cX6_clear 27 = .ok (.iload_n 1, 1) := by decide +kernel
theorem dX6_clear_28 : decode cX6_clear 28 = .ok (.ireturn, 1) := by decide +kernel
set_option maxRecDepth 20000 in
theorem ggX6_undo_X1_restore : GoodIn wsX6_undo wsX1_restore := goodIn_r _ [7, 8, 9, 10, 11, 12, 13, 14, 15, 16, 17, 18, 19, 20, 28, 29, 30, 31] (by decide +kernel) (by decide +kernel)
set_option maxRecDepth 20000 in
theorem gX6_undo_X1_restore : GoodIn wsX6_undo (wsV RX6 108 RX1 yX1_restore wsX1_restore) := goodIn_app (goodIn_of _ (by decide +kernel)) ggX6_undo_X1_restore
theorem dX6_undo_0 : decode cX6_undo 0 = .ok (.aload_n 0, 1) := by decide +kernel
theorem dX6_undo_1 : decode cX6_undo 1 = .ok (.getfield 19, 3) := by decide +kernel
theorem dX6_undo_4 : decode cX6_undo 4 = .ok (.getfield 105, 3) := by decide +kernel
theorem dX6_undo_7 : decode cX6_undo 7 = .ok (.ifCond .ne 6, 3) := by decide +kernel
theorem dX6_undo_10 : decode cX6_undo 10 = .ok (.bipush (-2), 2) := by decide +kernel
theorem dX6_undo_12 : decode cX6_undo 12 = .ok (.ireturn, 1) := by decide +kernel
theorem dX6_undo_13 : decode cX6_undo 13 = .ok (.aload_n 0, 1) := by decide +kernel
theorem dX6_undo_14 : decode cX6_undo 14 = .ok (.getfield 19, 3) := by decide +kernel
theorem dX6_undo_17 : decode cX6_undo 17 = .ok (.aload_n 0, 1) := by decide +kernel
theorem dX6_undo_18 : decode cX6_undo 18 = .ok (.getfield 10, 3) := by decide +kernel
theorem dX6_undo_21 : decode cX6_undo 21 = .ok (.invokevirtual 108, 3) := by decide +kernel
theorem dX6_undo_24 : decode cX6_undo 24 = .ok (.aload_n 0, 1) := by decide +kernel
theorem dX6_undo_25 : decode cX6_undo 25 = .ok (.getfield 19, 3) := by decide +kernel
theorem dX6_undo_28 : decode cX6_undo 28 = .ok (.getfield 105, 3) := by decide +kernel
theorem dX6_undo_31 : decode cX6_undo 31 = .ok (.ireturn, 1) := by decide +kernel
set_option maxRecDepth 20000 in
theorem ggX6_told_X6_sumOf : GoodIn wsX6_told wsX6_sumOf := goodIn_r _ [7] (by decide +kernel) (by decide +kernel)
set_option maxRecDepth 20000 in
theorem gX6_told_X6_sumOf : GoodIn wsX6_told (va_wsS RX6 111 yX6_sumOf wsX6_sumOf) := goodIn_app (goodIn_of _ (by decide +kernel)) ggX6_told_X6_sumOf
set_option maxRecDepth 20000 in
theorem ggX6_told_X0_greatestHeight : GoodIn wsX6_told wsX0_greatestHeight := goodIn_r _ [12, 13, 14, 15, 6, 16, 137, 138] (by decide +kernel) (by decide +kernel)
set_option maxRecDepth 20000 in
theorem gX6_told_X0_greatestHeight : GoodIn wsX6_told (wsV RX6 115 RX0 yX0_greatestHeight wsX0_greatestHeight) := goodIn_app (goodIn_of _ (by decide +kernel)) ggX6_told_X0_greatestHeight
set_option maxRecDepth 20000 in
theorem ggX6_told_X6_pourAll : GoodIn wsX6_told wsX6_pourAll := goodIn_r _ [20, 21, 1, 22, 23, 24, 25, 26, 27, 28, 29, 30, 31, 32, 33, 34, 130, 131, 132, 133, 134, 135, 136, 137, 138, 141] (by decide +kernel) (by decide +kernel)
set_option maxRecDepth 20000 in
theorem gX6_told_X6_pourAll : GoodIn wsX6_told (wsV RX6 98 RX6 yX6_pourAll wsX6_pourAll) := goodIn_app (goodIn_of _ (by decide +kernel)) ggX6_told_X6_pourAll
set_option maxRecDepth 20000 in
theorem ggX6_told_X6_countPools : GoodIn wsX6_told wsX6_countPools := goodIn_r _ [38, 21, 1, 17, 18, 19, 6, 20, 22, 23, 24, 25, 26, 27, 28, 29, 30, 31, 32, 33, 34, 39, 40, 41, 42, 43, 44, 45, 46, 130, 131, 132, 133, 134, 135, 136, 137, 138, 141] (by decide +kernel) (by decide +kernel)
set_option maxRecDepth 20000 in
theorem gX6_told_X6_countPools : GoodIn wsX6_told (wsV RX6 118 RX6 yX6_countPools wsX6_countPools) := goodIn_app (goodIn_of _ (by decide +kernel)) ggX6_told_X6_countPools
set_option maxRecDepth 20000 in
theorem ggX6_told_X6_countRectangles : GoodIn wsX6_told wsX6_countRectangles := goodIn_r _ [50, 51, 1, 52, 53, 54, 55, 56, 57, 58, 59, 60, 61, 62, 63, 64, 65, 66, 67, 68, 69, 70, 71, 72, 73, 74, 75, 76, 77, 130, 131, 132, 133, 134, 135, 136, 137, 138, 142, 143, 144, 145, 146] (by decide +kernel) (by decide +kernel)
set_option maxRecDepth 20000 in
theorem gX6_told_X6_countRectangles : GoodIn wsX6_told (wsV RX6 121 RX6 yX6_countRectangles wsX6_countRectangles) := goodIn_app (goodIn_of _ (by decide +kernel)) ggX6_told_X6_countRectangles
set_option maxRecDepth 20000 in
theorem ggX6_told_X0_countSeen : GoodIn wsX6_told wsX0_countSeen := goodIn_r _ [81, 13, 14, 137, 138] (by decide +kernel) (by decide +kernel)
set_option maxRecDepth 20000 in
theorem gX6_told_X0_countSeen : GoodIn wsX6_told (wsV RX6 124 RX0 yX0_countSeen wsX0_countSeen) := goodIn_app (goodIn_of _ (by decide +kernel)) ggX6_told_X0_countSeen
set_option maxRecDepth 20000 in
theorem ggX6_told_X6_greatestTreeDepth : GoodIn wsX6_told wsX6_greatestTreeDepth := goodIn_r _ [85, 86, 1, 87, 28, 29, 30, 88, 89, 90, 91, 92, 93, 94, 95, 96, 97, 98, 130, 131, 132, 133, 134, 135, 136, 137, 138, 147, 148] (by decide +kernel) (by decide +kernel)
set_option maxRecDepth 20000 in
theorem gX6_told_X6_greatestTreeDepth : GoodIn wsX6_told (wsV RX6 128 RX6 yX6_greatestTreeDepth wsX6_greatestTreeDepth) := goodIn_app (goodIn_of _ (by decide +kernel)) ggX6_told_X6_greatestTreeDepth
set_option maxRecDepth 20000 in
theorem ggX6_told_X0_countRises : GoodIn wsX6_told wsX0_countRises := goodIn_r _ [102, 13, 14, 103, 28, 29, 30, 137, 138] (by decide +kernel) (by decide +kernel)
set_option maxRecDepth 20000 in
theorem gX6_told_X0_countRises : GoodIn wsX6_told (wsV RX6 131 RX0 yX0_countRises wsX0_countRises) := goodIn_app (goodIn_of _ (by decide +kernel)) ggX6_told_X0_countRises
set_option maxRecDepth 20000 in
theorem ggX6_told_X2_countStrokes : GoodIn wsX6_told wsX2_countStrokes := goodIn_r _ [108, 109, 110, 111, 112, 113, 114, 9, 10, 11, 12, 13, 14, 15, 6, 16, 115, 116, 117, 107, 118, 119, 120, 121, 122, 123, 33, 29, 34, 5, 7, 124, 125, 126, 127, 128, 129, 149, 137, 138] (by decide +kernel) (by decide +kernel)
set_option maxRecDepth 20000 in
theorem gX6_told_X2_countStrokes : GoodIn wsX6_told (wsV RX6 134 RX2 yX2_countStrokes wsX2_countStrokes) := goodIn_app (goodIn_of _ (by decide +kernel)) ggX6_told_X2_countStrokes
theorem dX6_told_0 : decode cX6_told 0 = .ok (.iload_n 1, 1) := by decide +kernel
theorem dX6_told_1 : decode cX6_told 1 = .ok (.tableswitch 166 0 11 #[63, 71, 92, 100, 105, 110, 115, 124, 133, 138, 146, 158], 63) := by decide +kernel
theorem dX6_told_64 : decode cX6_told 64 = .ok (.aload_n 0, 1) := by decide +kernel
theorem dX6_told_65 : decode cX6_told 65 = .ok (.getfield 10, 3) := by decide +kernel
theorem dX6_told_68 : decode cX6_told 68 = .ok (.getfield 55, 3) := by decide +kernel
theorem dX6_told_71 : decode cX6_told 71 = .ok (.ireturn, 1) := by decide +kernel
theorem dX6_told_72 : decode cX6_told 72 = .ok (.aload_n 0, 1) := by decide +kernel
theorem dX6_told_73 : decode cX6_told 73 = .ok (.getfield 10, 3) := by decide +kernel
theorem dX6_told_76 : decode cX6_told 76 = .ok (.getfield 78, 3) := by decide +kernel
theorem dX6_told_79 : decode cX6_told 79 = .ok (.iconst 0, 1) := by decide +kernel
theorem dX6_told_80 : decode cX6_told 80 = .ok (.aload_n 0, 1) := by decide +kernel
theorem dX6_told_81 : decode cX6_told 81 = .ok (.getfield 10, 3) := by decide +kernel
theorem dX6_told_84 : decode cX6_told 84 = .ok (.getfield 55, 3) := by decide +kernel
theorem dX6_told_87 : decode cX6_told 87 = .ok (.iconst 1, 1) := by decide +kernel
theorem dX6_told_88 : decode cX6_told 88 = .ok (.isub, 1) := by decide +kernel
theorem dX6_told_89 : decode cX6_told 89 = .ok (.invokestatic 111, 3) := by decide +kernel
theorem dX6_told_92 : decode cX6_told 92 = .ok (.ireturn, 1) := by decide +kernel
theorem dX6_told_93 : decode cX6_told 93 = .ok (.aload_n 0, 1) := by decide +kernel
theorem dX6_told_94 : decode cX6_told 94 = .ok (.getfield 10, 3) := by decide +kernel
theorem dX6_told_97 : decode cX6_told 97 = .ok (.invokevirtual 115, 3) := by decide +kernel
theorem dX6_told_100 : decode cX6_told 100 = .ok (.ireturn, 1) := by decide +kernel
theorem dX6_told_101 : decode cX6_told 101 = .ok (.aload_n 0, 1) := by decide +kernel
theorem dX6_told_102 : decode cX6_told 102 = .ok (.invokevirtual 98, 3) := by decide +kernel
theorem dX6_told_105 : decode cX6_told 105 = .ok (.ireturn, 1) := by decide +kernel
theorem dX6_told_106 : decode cX6_told 106 = .ok (.aload_n 0, 1) := by decide +kernel
theorem dX6_told_107 : decode cX6_told 107 = .ok (.invokevirtual 118, 3) := by decide +kernel
theorem dX6_told_110 : decode cX6_told 110 = .ok (.ireturn, 1) := by decide +kernel
theorem dX6_told_111 : decode cX6_told 111 = .ok (.aload_n 0, 1) := by decide +kernel
theorem dX6_told_112 : decode cX6_told 112 = .ok (.invokevirtual 121, 3) := by decide +kernel
theorem dX6_told_115 : decode cX6_told 115 = .ok (.ireturn, 1) := by decide +kernel
theorem dX6_told_116 : decode cX6_told 116 = .ok (.aload_n 0, 1) := by decide +kernel
theorem dX6_told_117 : decode cX6_told 117 = .ok (.getfield 10, 3) := by decide +kernel
theorem dX6_told_120 : decode cX6_told 120 = .ok (.iconst 1, 1) := by decide +kernel
theorem dX6_told_121 : decode cX6_told 121 = .ok (.invokevirtual 124, 3) := by decide +kernel
theorem dX6_told_124 : decode cX6_told 124 = .ok (.ireturn, 1) := by decide +kernel
theorem dX6_told_125 : decode cX6_told 125 = .ok (.aload_n 0, 1) := by decide +kernel
theorem dX6_told_126 : decode cX6_told 126 = .ok (.getfield 10, 3) := by decide +kernel
theorem dX6_told_129 : decode cX6_told 129 = .ok (.iconst 0, 1) := by decide +kernel
theorem dX6_told_130 : decode cX6_told 130 = .ok (.invokevirtual 124, 3) := by decide +kernel
theorem dX6_told_133 : decode cX6_told 133 = .ok (.ireturn, 1) := by decide +kernel
theorem dX6_told_134 : decode cX6_told 134 = .ok (.aload_n 0, 1) := by decide +kernel
theorem dX6_told_135 : decode cX6_told 135 = .ok (.invokevirtual 128, 3) := by decide +kernel
theorem dX6_told_138 : decode cX6_told 138 = .ok (.ireturn, 1) := by decide +kernel
theorem dX6_told_139 : decode cX6_told 139 = .ok (.aload_n 0, 1) := by decide +kernel
theorem dX6_told_140 : decode cX6_told 140 = .ok (.getfield 10, 3) := by decide +kernel
theorem dX6_told_143 : decode cX6_told 143 = .ok (.invokevirtual 131, 3) := by decide +kernel
theorem dX6_told_146 : decode cX6_told 146 = .ok (.ireturn, 1) := by decide +kernel
theorem dX6_told_147 : decode cX6_told 147 = .ok (.aload_n 0, 1) := by decide +kernel
theorem dX6_told_148 : decode cX6_told 148 = .ok (.getfield 51, 3) := by decide +kernel
theorem dX6_told_151 : decode cX6_told 151 = .ok (.aload_n 0, 1) := by decide +kernel
theorem dX6_told_152 : decode cX6_told 152 = .ok (.getfield 10, 3) := by decide +kernel
theorem dX6_told_155 : decode cX6_told 155 = .ok (.invokevirtual 134, 3) := by decide +kernel
theorem dX6_told_158 : decode cX6_told 158 = .ok (.ireturn, 1) := by decide +kernel
theorem dX6_told_159 : decode cX6_told 159 = .ok (.aload_n 0, 1) := by decide +kernel
theorem dX6_told_160 : decode cX6_told 160 = .ok (.getfield 19, 3) := by decide +kernel
theorem dX6_told_163 : decode cX6_told 163 = .ok (.getfield 105, 3) := by decide +kernel
theorem dX6_told_166 : decode cX6_told 166 = .ok (.ireturn, 1) := by decide +kernel
theorem dX6_told_167 : decode cX6_told 167 = .ok (.iconst (-1), 1) := by decide +kernel
theorem dX6_told_168 : decode cX6_told 168 = .ok (.ireturn, 1) := by decide +kernel
set_option maxRecDepth 20000 in
theorem ggX6_column_X0_has : GoodIn wsX6_column wsX0_has := goodIn_r _ [6, 7, 85, 86] (by decide +kernel) (by decide +kernel)
set_option maxRecDepth 20000 in
theorem gX6_column_X0_has : GoodIn wsX6_column (wsV RX6 71 RX0 yX0_has wsX0_has) := goodIn_app (goodIn_of _ (by decide +kernel)) ggX6_column_X0_has
set_option maxRecDepth 20000 in
theorem ggX6_column_X0_smallerToLeft : GoodIn wsX6_column wsX0_smallerToLeft := goodIn_r _ [11, 12, 85, 86] (by decide +kernel) (by decide +kernel)
set_option maxRecDepth 20000 in
theorem gX6_column_X0_smallerToLeft : GoodIn wsX6_column (wsV RX6 138 RX0 yX0_smallerToLeft wsX0_smallerToLeft) := goodIn_app (goodIn_of _ (by decide +kernel)) ggX6_column_X0_smallerToLeft
set_option maxRecDepth 20000 in
theorem ggX6_column_X0_smallerToRight : GoodIn wsX6_column wsX0_smallerToRight := goodIn_r _ [16, 7, 12, 85, 86] (by decide +kernel) (by decide +kernel)
set_option maxRecDepth 20000 in
theorem gX6_column_X0_smallerToRight : GoodIn wsX6_column (wsV RX6 141 RX0 yX0_smallerToRight wsX0_smallerToRight) := goodIn_app (goodIn_of _ (by decide +kernel)) ggX6_column_X0_smallerToRight
set_option maxRecDepth 20000 in
theorem ggX6_column_X0_greaterToLeft : GoodIn wsX6_column wsX0_greaterToLeft := goodIn_r _ [20, 12, 85, 86] (by decide +kernel) (by decide +kernel)
set_option maxRecDepth 20000 in
theorem gX6_column_X0_greaterToLeft : GoodIn wsX6_column (wsV RX6 144 RX0 yX0_greaterToLeft wsX0_greaterToLeft) := goodIn_app (goodIn_of _ (by decide +kernel)) ggX6_column_X0_greaterToLeft
set_option maxRecDepth 20000 in
theorem ggX6_column_X0_greaterToRight : GoodIn wsX6_column wsX0_greaterToRight := goodIn_r _ [24, 7, 12, 85, 86] (by decide +kernel) (by decide +kernel)
set_option maxRecDepth 20000 in
theorem gX6_column_X0_greaterToRight : GoodIn wsX6_column (wsV RX6 147 RX0 yX0_greaterToRight wsX0_greaterToRight) := goodIn_app (goodIn_of _ (by decide +kernel)) ggX6_column_X0_greaterToRight
set_option maxRecDepth 20000 in
theorem ggX6_column_X6_depthOfWater : GoodIn wsX6_column wsX6_depthOfWater := goodIn_r _ [29, 30, 31, 32, 33, 28, 34, 1, 35, 36, 37, 38, 39, 40, 41, 42, 43, 44, 45, 46, 47, 78, 79, 80, 81, 82, 83, 84, 87, 85, 86] (by decide +kernel) (by decide +kernel)
set_option maxRecDepth 20000 in
theorem gX6_column_X6_depthOfWater : GoodIn wsX6_column (wsV RX6 150 RX6 yX6_depthOfWater wsX6_depthOfWater) := goodIn_app (goodIn_of _ (by decide +kernel)) ggX6_column_X6_depthOfWater
set_option maxRecDepth 20000 in
theorem ggX6_column_X6_treeParent : GoodIn wsX6_column wsX6_treeParent := goodIn_r _ [51, 52, 1, 53, 54, 55, 56, 57, 58, 59, 78, 79, 80, 81, 82, 83, 84, 88, 89, 85, 86] (by decide +kernel) (by decide +kernel)
set_option maxRecDepth 20000 in
theorem gX6_column_X6_treeParent : GoodIn wsX6_column (wsV RX6 153 RX6 yX6_treeParent wsX6_treeParent) := goodIn_app (goodIn_of _ (by decide +kernel)) ggX6_column_X6_treeParent
set_option maxRecDepth 20000 in
theorem ggX6_column_X6_treeDepth : GoodIn wsX6_column wsX6_treeDepth := goodIn_r _ [63, 52, 1, 53, 54, 55, 56, 57, 58, 59, 64, 65, 66, 67, 78, 79, 80, 81, 82, 83, 84, 85, 86, 88, 89] (by decide +kernel) (by decide +kernel)
set_option maxRecDepth 20000 in
theorem gX6_column_X6_treeDepth : GoodIn wsX6_column (wsV RX6 156 RX6 yX6_treeDepth wsX6_treeDepth) := goodIn_app (goodIn_of _ (by decide +kernel)) ggX6_column_X6_treeDepth
set_option maxRecDepth 20000 in
theorem ggX6_column_X0_span : GoodIn wsX6_column wsX0_span := goodIn_r _ [71, 7, 72, 9, 10, 5, 11, 12, 73, 14, 15, 16, 85, 86] (by decide +kernel) (by decide +kernel)
set_option maxRecDepth 20000 in
theorem gX6_column_X0_span : GoodIn wsX6_column (wsV RX6 159 RX0 yX0_span wsX0_span) := goodIn_app (goodIn_of _ (by decide +kernel)) ggX6_column_X0_span
set_option maxRecDepth 20000 in
theorem ggX6_column_X0_stairLength : GoodIn wsX6_column wsX0_stairLength := goodIn_r _ [77, 12, 85, 86] (by decide +kernel) (by decide +kernel)
set_option maxRecDepth 20000 in
theorem gX6_column_X0_stairLength : GoodIn wsX6_column (wsV RX6 162 RX0 yX0_stairLength wsX0_stairLength) := goodIn_app (goodIn_of _ (by decide +kernel)) ggX6_column_X0_stairLength
theorem dX6_column_0 : decode cX6_column 0 = .ok (.aload_n 0, 1) := by decide +kernel
theorem dX6_column_1 : decode cX6_column 1 = .ok (.getfield 10, 3) := by decide +kernel
theorem dX6_column_4 : decode cX6_column 4 = .ok (.iload_n 1, 1) := by decide +kernel
theorem dX6_column_5 : decode cX6_column 5 = .ok (.invokevirtual 71, 3) := by decide +kernel
theorem dX6_column_8 : decode cX6_column 8 = .ok (.ifCond .ne 5, 3) := by decide +kernel
theorem dX6_column_11 : decode cX6_column 11 = .ok (.iconst (-1), 1) := by decide +kernel
theorem dX6_column_12 : decode cX6_column 12 = .ok (.ireturn, 1) := by decide +kernel
theorem dX6_column_13 : decode cX6_column 13 = .ok (.iload_n 2, 1) := by decide +kernel
theorem dX6_column_14 : decode cX6_column 14 = .ok (.tableswitch 136 0 9 #[54, 64, 73, 82, 91, 100, 106, 112, 118, 127], 54) := by decide +kernel
theorem dX6_column_68 : decode cX6_column 68 = .ok (.aload_n 0, 1) := by decide +kernel
theorem dX6_column_69 : decode cX6_column 69 = .ok (.getfield 10, 3) := by decide +kernel
theorem dX6_column_72 : decode cX6_column 72 = .ok (.getfield 78, 3) := by decide +kernel
theorem dX6_column_75 : decode cX6_column 75 = .ok (.iload_n 1, 1) := by decide +kernel
theorem dX6_column_76 : decode cX6_column 76 = .ok (.iaload, 1) := by decide +kernel
theorem dX6_column_77 : decode cX6_column 77 = .ok (.ireturn, 1) := by decide +kernel
theorem dX6_column_78 : decode cX6_column 78 = .ok (.aload_n 0, 1) := by decide +kernel
theorem dX6_column_79 : decode cX6_column 79 = .ok (.getfield 10, 3) := by decide +kernel
theorem dX6_column_82 : decode cX6_column 82 = .ok (.iload_n 1, 1) := by decide +kernel
theorem dX6_column_83 : decode cX6_column 83 = .ok (.invokevirtual 138, 3) := by decide +kernel
theorem dX6_column_86 : decode cX6_column 86 = .ok (.ireturn, 1) := by decide +kernel
theorem dX6_column_87 : decode cX6_column 87 = .ok (.aload_n 0, 1) := by decide +kernel
theorem dX6_column_88 : decode cX6_column 88 = .ok (.getfield 10, 3) := by decide +kernel
theorem dX6_column_91 : decode cX6_column 91 = .ok (.iload_n 1, 1) := by decide +kernel
theorem dX6_column_92 : decode cX6_column 92 = .ok (.invokevirtual 141, 3) := by decide +kernel
theorem dX6_column_95 : decode cX6_column 95 = .ok (.ireturn, 1) := by decide +kernel
theorem dX6_column_96 : decode cX6_column 96 = .ok (.aload_n 0, 1) := by decide +kernel
theorem dX6_column_97 : decode cX6_column 97 = .ok (.getfield 10, 3) := by decide +kernel
theorem dX6_column_100 : decode cX6_column 100 = .ok (.iload_n 1, 1) := by decide +kernel
theorem dX6_column_101 : decode cX6_column 101 = .ok (.invokevirtual 144, 3) := by decide +kernel
theorem dX6_column_104 : decode cX6_column 104 = .ok (.ireturn, 1) := by decide +kernel
theorem dX6_column_105 : decode cX6_column 105 = .ok (.aload_n 0, 1) := by decide +kernel
theorem dX6_column_106 : decode cX6_column 106 = .ok (.getfield 10, 3) := by decide +kernel
theorem dX6_column_109 : decode cX6_column 109 = .ok (.iload_n 1, 1) := by decide +kernel
theorem dX6_column_110 : decode cX6_column 110 = .ok (.invokevirtual 147, 3) := by decide +kernel
theorem dX6_column_113 : decode cX6_column 113 = .ok (.ireturn, 1) := by decide +kernel
theorem dX6_column_114 : decode cX6_column 114 = .ok (.aload_n 0, 1) := by decide +kernel
theorem dX6_column_115 : decode cX6_column 115 = .ok (.iload_n 1, 1) := by decide +kernel
theorem dX6_column_116 : decode cX6_column 116 = .ok (.invokevirtual 150, 3) := by decide +kernel
theorem dX6_column_119 : decode cX6_column 119 = .ok (.ireturn, 1) := by decide +kernel
theorem dX6_column_120 : decode cX6_column 120 = .ok (.aload_n 0, 1) := by decide +kernel
theorem dX6_column_121 : decode cX6_column 121 = .ok (.iload_n 1, 1) := by decide +kernel
theorem dX6_column_122 : decode cX6_column 122 = .ok (.invokevirtual 153, 3) := by decide +kernel
theorem dX6_column_125 : decode cX6_column 125 = .ok (.ireturn, 1) := by decide +kernel
theorem dX6_column_126 : decode cX6_column 126 = .ok (.aload_n 0, 1) := by decide +kernel
theorem dX6_column_127 : decode cX6_column 127 = .ok (.iload_n 1, 1) := by decide +kernel
theorem dX6_column_128 : decode cX6_column 128 = .ok (.invokevirtual 156, 3) := by decide +kernel
theorem dX6_column_131 : decode cX6_column 131 = .ok (.ireturn, 1) := by decide +kernel
theorem dX6_column_132 : decode cX6_column 132 = .ok (.aload_n 0, 1) := by decide +kernel
theorem dX6_column_133 : decode cX6_column 133 = .ok (.getfield 10, 3) := by decide +kernel
theorem dX6_column_136 : decode cX6_column 136 = .ok (.iload_n 1, 1) := by decide +kernel
theorem dX6_column_137 : decode cX6_column 137 = .ok (.invokevirtual 159, 3) := by decide +kernel
theorem dX6_column_140 : decode cX6_column 140 = .ok (.ireturn, 1) := by decide +kernel
theorem dX6_column_141 : decode cX6_column 141 = .ok (.aload_n 0, 1) := by decide +kernel
theorem dX6_column_142 : decode cX6_column 142 = .ok (.getfield 10, 3) := by decide +kernel
theorem dX6_column_145 : decode cX6_column 145 = .ok (.iload_n 1, 1) := by decide +kernel
theorem dX6_column_146 : decode cX6_column 146 = .ok (.invokevirtual 162, 3) := by decide +kernel
theorem dX6_column_149 : decode cX6_column 149 = .ok (.ireturn, 1) := by decide +kernel
theorem dX6_column_150 : decode cX6_column 150 = .ok (.iconst (-1), 1) := by decide +kernel
theorem dX6_column_151 : decode cX6_column 151 = .ok (.ireturn, 1) := by decide +kernel
set_option maxRecDepth 20000 in
theorem ggX6_stair_X0_has : GoodIn wsX6_stair wsX0_has := goodIn_r _ [6, 7, 20, 21] (by decide +kernel) (by decide +kernel)
set_option maxRecDepth 20000 in
theorem gX6_stair_X0_has : GoodIn wsX6_stair (wsV RX6 71 RX0 yX0_has wsX0_has) := goodIn_app (goodIn_of _ (by decide +kernel)) ggX6_stair_X0_has
set_option maxRecDepth 20000 in
theorem ggX6_stair_X0_stairStep : GoodIn wsX6_stair wsX0_stairStep := goodIn_r _ [11, 12, 20, 21] (by decide +kernel) (by decide +kernel)
set_option maxRecDepth 20000 in
theorem gX6_stair_X0_stairStep : GoodIn wsX6_stair (wsV RX6 165 RX0 yX0_stairStep wsX0_stairStep) := goodIn_app (goodIn_of _ (by decide +kernel)) ggX6_stair_X0_stairStep
theorem dX6_stair_0 : decode cX6_stair 0 = .ok (.aload_n 0, 1) := by decide +kernel
theorem dX6_stair_1 : decode cX6_stair 1 = .ok (.getfield 10, 3) := by decide +kernel
theorem dX6_stair_4 : decode cX6_stair 4 = .ok (.iload_n 1, 1) := by decide +kernel
theorem dX6_stair_5 : decode cX6_stair 5 = .ok (.invokevirtual 71, 3) := by decide +kernel
theorem dX6_stair_8 : decode cX6_stair 8 = .ok (.ifCond .eq 7, 3) := by decide +kernel
theorem dX6_stair_11 : decode cX6_stair 11 = .ok (.iload_n 2, 1) := by decide +kernel
theorem dX6_stair_12 : decode cX6_stair 12 = .ok (.ifCond .ge 5, 3) := by decide +kernel
theorem dX6_stair_15 : decode cX6_stair 15 = .ok (.iconst (-1), 1) := by decide +kernel
theorem dX6_stair_16 : decode cX6_stair 16 = .ok (.ireturn, 1) := by decide +kernel
theorem dX6_stair_17 : decode cX6_stair 17 = .ok (.aload_n 0, 1) := by decide +kernel
theorem dX6_stair_18 : decode cX6_stair 18 = .ok (.getfield 10, 3) := by decide +kernel
theorem dX6_stair_21 : decode cX6_stair 21 = .ok (.iload_n 1, 1) := by decide +kernel
theorem dX6_stair_22 : decode cX6_stair 22 = .ok (.iload_n 2, 1) := by decide +kernel
theorem dX6_stair_23 : decode cX6_stair 23 = .ok (.invokevirtual 165, 3) := by decide +kernel
theorem dX6_stair_26 : decode cX6_stair 26 = .ok (.ireturn, 1) := by decide +kernel
set_option maxRecDepth 20000 in
theorem ggX6_range_X0_hasRange : GoodIn wsX6_range wsX0_hasRange := goodIn_r _ [6, 7, 60, 61] (by decide +kernel) (by decide +kernel)
set_option maxRecDepth 20000 in
theorem gX6_range_X0_hasRange : GoodIn wsX6_range (wsV RX6 82 RX0 yX0_hasRange wsX0_hasRange) := goodIn_app (goodIn_of _ (by decide +kernel)) ggX6_range_X0_hasRange
set_option maxRecDepth 20000 in
theorem ggX6_range_X6_lowestLeast : GoodIn wsX6_range wsX6_lowestLeast := goodIn_r _ [11] (by decide +kernel) (by decide +kernel)
set_option maxRecDepth 20000 in
theorem gX6_range_X6_lowestLeast : GoodIn wsX6_range (va_wsS RX6 168 yX6_lowestLeast wsX6_lowestLeast) := goodIn_app (goodIn_of _ (by decide +kernel)) ggX6_range_X6_lowestLeast
set_option maxRecDepth 20000 in
theorem ggX6_range_X6_lowestGreatest : GoodIn wsX6_range wsX6_lowestGreatest := goodIn_r _ [14] (by decide +kernel) (by decide +kernel)
set_option maxRecDepth 20000 in
theorem gX6_range_X6_lowestGreatest : GoodIn wsX6_range (va_wsS RX6 171 yX6_lowestGreatest wsX6_lowestGreatest) := goodIn_app (goodIn_of _ (by decide +kernel)) ggX6_range_X6_lowestGreatest
set_option maxRecDepth 20000 in
theorem ggX6_range_X6_sumOf : GoodIn wsX6_range wsX6_sumOf := goodIn_r _ [17] (by decide +kernel) (by decide +kernel)
set_option maxRecDepth 20000 in
theorem gX6_range_X6_sumOf : GoodIn wsX6_range (va_wsS RX6 111 yX6_sumOf wsX6_sumOf) := goodIn_app (goodIn_of _ (by decide +kernel)) ggX6_range_X6_sumOf
set_option maxRecDepth 20000 in
theorem ggX6_range_X6_largestRectangle : GoodIn wsX6_range wsX6_largestRectangle := goodIn_r _ [21, 22, 1, 23, 24, 25, 26, 27, 28, 29, 30, 31, 32, 33, 34, 35, 36, 37, 38, 39, 40, 41, 42, 43, 44, 45, 46, 47, 48, 49, 50, 51, 52, 53, 54, 55, 56, 57, 58, 59, 60, 61, 62, 63, 64, 65, 66] (by decide +kernel) (by decide +kernel)
set_option maxRecDepth 20000 in
theorem gX6_range_X6_largestRectangle : GoodIn wsX6_range (wsV RX6 174 RX6 yX6_largestRectangle wsX6_largestRectangle) := goodIn_app (goodIn_of _ (by decide +kernel)) ggX6_range_X6_largestRectangle
theorem dX6_range_0 : decode cX6_range 0 = .ok (.aload_n 0, 1) := by decide +kernel
theorem dX6_range_1 : decode cX6_range 1 = .ok (.getfield 10, 3) := by decide +kernel
theorem dX6_range_4 : decode cX6_range 4 = .ok (.iload_n 1, 1) := by decide +kernel
theorem dX6_range_5 : decode cX6_range 5 = .ok (.iload_n 2, 1) := by decide +kernel
theorem dX6_range_6 : decode cX6_range 6 = .ok (.invokevirtual 82, 3) := by decide +kernel
theorem dX6_range_9 : decode cX6_range 9 = .ok (.ifCond .ne 5, 3) := by decide +kernel
theorem dX6_range_12 : decode cX6_range 12 = .ok (.iconst (-1), 1) := by decide +kernel
theorem dX6_range_13 : decode cX6_range 13 = .ok (.ireturn, 1) := by decide +kernel
theorem dX6_range_14 : decode cX6_range 14 = .ok (.aload_n 0, 1) := by decide +kernel
theorem dX6_range_15 : decode cX6_range 15 = .ok (.getfield 10, 3) := by decide +kernel
theorem dX6_range_18 : decode cX6_range 18 = .ok (.getfield 78, 3) := by decide +kernel
theorem dX6_range_21 : decode cX6_range 21 = .ok (.astore 4, 2) := by decide +kernel
theorem dX6_range_23 : decode cX6_range 23 = .ok (.iload_n 3, 1) := by decide +kernel
theorem dX6_range_24 : decode cX6_range 24 = .ok (.tableswitch 108 0 8 #[52, 63, 71, 82, 90, 98, 98, 98, 98], 52) := by decide +kernel
theorem dX6_range_76 : decode cX6_range 76 = .ok (.aload 4, 2) := by decide +kernel
theorem dX6_range_78 : decode cX6_range 78 = .ok (.aload 4, 2) := by decide +kernel
theorem dX6_range_80 : decode cX6_range 80 = .ok (.iload_n 1, 1) := by decide +kernel
theorem dX6_range_81 : decode cX6_range 81 = .ok (.iload_n 2, 1) := by decide +kernel
theorem dX6_range_82 : decode cX6_range 82 = .ok (.invokestatic 168, 3) := by decide +kernel
theorem dX6_range_85 : decode cX6_range 85 = .ok (.iaload, 1) := by decide +kernel
theorem dX6_range_86 : decode cX6_range 86 = .ok (.ireturn, 1) := by decide +kernel
theorem dX6_range_87 : decode cX6_range 87 = .ok (.aload 4, 2) := by decide +kernel
theorem dX6_range_89 : decode cX6_range 89 = .ok (.iload_n 1, 1) := by decide +kernel
theorem dX6_range_90 : decode cX6_range 90 = .ok (.iload_n 2, 1) := by decide +kernel
theorem dX6_range_91 : decode cX6_range 91 = .ok (.invokestatic 168, 3) := by decide +kernel
theorem dX6_range_94 : decode cX6_range 94 = .ok (.ireturn, 1) := by decide +kernel
theorem dX6_range_95 : decode cX6_range 95 = .ok (.aload 4, 2) := by decide +kernel
theorem dX6_range_97 : decode cX6_range 97 = .ok (.aload 4, 2) := by decide +kernel
theorem dX6_range_99 : decode cX6_range 99 = .ok (.iload_n 1, 1) := by decide +kernel
theorem dX6_range_100 : decode cX6_range 100 = .ok (.iload_n 2, 1) := by decide +kernel
theorem dX6_range_101 : decode cX6_range 101 = .ok (.invokestatic 171, 3) := by decide +kernel
theorem dX6_range_104 : decode cX6_range 104 = .ok (.iaload, 1) := by decide +kernel
theorem dX6_range_105 : decode cX6_range 105 = .ok (.ireturn, 1) := by decide +kernel
theorem dX6_range_106 : decode cX6_range 106 = .ok (.aload 4, 2) := by decide +kernel
theorem dX6_range_108 : decode cX6_range 108 = .ok (.iload_n 1, 1) := by decide +kernel
theorem dX6_range_109 : decode cX6_range 109 = .ok (.iload_n 2, 1) := by decide +kernel
theorem dX6_range_110 : decode cX6_range 110 = .ok (.invokestatic 171, 3) := by decide +kernel
theorem dX6_range_113 : decode cX6_range 113 = .ok (.ireturn, 1) := by decide +kernel
theorem dX6_range_114 : decode cX6_range 114 = .ok (.aload 4, 2) := by decide +kernel
theorem dX6_range_116 : decode cX6_range 116 = .ok (.iload_n 1, 1) := by decide +kernel
theorem dX6_range_117 : decode cX6_range 117 = .ok (.iload_n 2, 1) := by decide +kernel
theorem dX6_range_118 : decode cX6_range 118 = .ok (.invokestatic 111, 3) := by decide +kernel
theorem dX6_range_121 : decode cX6_range 121 = .ok (.ireturn, 1) := by decide +kernel
theorem dX6_range_122 : decode cX6_range 122 = .ok (.aload_n 0, 1) := by decide +kernel
theorem dX6_range_123 : decode cX6_range 123 = .ok (.iload_n 1, 1) := by decide +kernel
theorem dX6_range_124 : decode cX6_range 124 = .ok (.iload_n 2, 1) := by decide +kernel
theorem dX6_range_125 : decode cX6_range 125 = .ok (.iload_n 3, 1) := by decide +kernel
theorem dX6_range_126 : decode cX6_range 126 = .ok (.iconst 5, 1) := by decide +kernel
theorem dX6_range_127 : decode cX6_range 127 = .ok (.isub, 1) := by decide +kernel
theorem dX6_range_128 : decode cX6_range 128 = .ok (.invokevirtual 174, 3) := by decide +kernel
theorem dX6_range_131 : decode cX6_range 131 = .ok (.ireturn, 1) := by decide +kernel
theorem dX6_range_132 : decode cX6_range 132 = .ok (.iconst (-1), 1) := by decide +kernel
theorem dX6_range_133 : decode cX6_range 133 = .ok (.ireturn, 1) := by decide +kernel
set_option maxRecDepth 20000 in
theorem ggX6_rectangle_X3_find : GoodIn wsX6_rectangle wsX3_find := goodIn_r _ [7, 8, 9, 10, 11, 6, 12, 13, 14, 15, 16, 17, 18, 19, 20, 21, 22, 23, 24, 25, 26, 27, 28, 46, 47, 48, 49, 50] (by decide +kernel) (by decide +kernel)
set_option maxRecDepth 20000 in
theorem gX6_rectangle_X3_find : GoodIn wsX6_rectangle (wsV RX6 177 RX3 yX3_find wsX3_find) := goodIn_app (goodIn_of _ (by decide +kernel)) ggX6_rectangle_X3_find
set_option maxRecDepth 20000 in
theorem ggX6_rectangle_X3_countOwners : GoodIn wsX6_rectangle wsX3_countOwners := goodIn_r _ [32, 17, 18, 19, 46, 47, 48, 49, 50] (by decide +kernel) (by decide +kernel)
set_option maxRecDepth 20000 in
theorem gX6_rectangle_X3_countOwners : GoodIn wsX6_rectangle (wsV RX6 182 RX3 yX3_countOwners wsX3_countOwners) := goodIn_app (goodIn_of _ (by decide +kernel)) ggX6_rectangle_X3_countOwners
set_option maxRecDepth 20000 in
theorem ggX6_rectangle_X3_property : GoodIn wsX6_rectangle wsX3_property := goodIn_r _ [36, 17, 18, 19, 25, 26, 27, 6, 28, 46, 47, 48, 49, 50] (by decide +kernel) (by decide +kernel)
set_option maxRecDepth 20000 in
theorem gX6_rectangle_X3_property : GoodIn wsX6_rectangle (wsV RX6 189 RX3 yX3_property wsX3_property) := goodIn_app (goodIn_of _ (by decide +kernel)) ggX6_rectangle_X3_property
theorem dX6_rectangle_0 : decode cX6_rectangle 0 = .ok (.iload_n 1, 1) := by decide +kernel
theorem dX6_rectangle_1 : decode cX6_rectangle 1 = .ok (.ifCond .lt 12, 3) := by decide +kernel
theorem dX6_rectangle_4 : decode cX6_rectangle 4 = .ok (.iload_n 2, 1) := by decide +kernel
theorem dX6_rectangle_5 : decode cX6_rectangle 5 = .ok (.ifCond .lt 8, 3) := by decide +kernel
theorem dX6_rectangle_8 : decode cX6_rectangle 8 = .ok (.iload_n 2, 1) := by decide +kernel
theorem dX6_rectangle_9 : decode cX6_rectangle 9 = .ok (.iconst 5, 1) := by decide +kernel
theorem dX6_rectangle_10 : decode cX6_rectangle 10 = .ok (.if_icmp .le 5, 3) := by decide +kernel
theorem dX6_rectangle_13 : decode cX6_rectangle 13 = .ok (.iconst (-1), 1) := by decide +kernel
theorem dX6_rectangle_14 : decode cX6_rectangle 14 = .ok (.ireturn, 1) := by decide +kernel
theorem dX6_rectangle_15 : decode cX6_rectangle 15 = .ok (.aload_n 0, 1) := by decide +kernel
theorem dX6_rectangle_16 : decode cX6_rectangle 16 = .ok (.getfield 37, 3) := by decide +kernel
theorem dX6_rectangle_19 : decode cX6_rectangle 19 = .ok (.aload_n 0, 1) := by decide +kernel
theorem dX6_rectangle_20 : decode cX6_rectangle 20 = .ok (.getfield 10, 3) := by decide +kernel
theorem dX6_rectangle_23 : decode cX6_rectangle 23 = .ok (.getfield 78, 3) := by decide +kernel
theorem dX6_rectangle_26 : decode cX6_rectangle 26 = .ok (.iconst 0, 1) := by decide +kernel
theorem dX6_rectangle_27 : decode cX6_rectangle 27 = .ok (.aload_n 0, 1) := by decide +kernel
theorem dX6_rectangle_28 : decode cX6_rectangle 28 = .ok (.getfield 10, 3) := by decide +kernel
theorem dX6_rectangle_31 : decode cX6_rectangle 31 = .ok (.getfield 55, 3) := by decide +kernel
theorem dX6_rectangle_34 : decode cX6_rectangle 34 = .ok (.iconst 1, 1) := by decide +kernel
theorem dX6_rectangle_35 : decode cX6_rectangle 35 = .ok (.isub, 1) := by decide +kernel
theorem dX6_rectangle_36 : decode cX6_rectangle 36 = .ok (.invokevirtual 177, 3) := by decide +kernel
theorem dX6_rectangle_39 : decode cX6_rectangle 39 = .ok (.iload_n 1, 1) := by decide +kernel
theorem dX6_rectangle_40 : decode cX6_rectangle 40 = .ok (.aload_n 0, 1) := by decide +kernel
theorem dX6_rectangle_41 : decode cX6_rectangle 41 = .ok (.getfield 37, 3) := by decide +kernel
theorem dX6_rectangle_44 : decode cX6_rectangle 44 = .ok (.getfield 181, 3) := by decide +kernel
theorem dX6_rectangle_47 : decode cX6_rectangle 47 = .ok (.if_icmp .lt 6, 3) := by decide +kernel
theorem dX6_rectangle_50 : decode cX6_rectangle 50 = .ok (.bipush (-9), 2) := by decide +kernel
theorem dX6_rectangle_52 : decode cX6_rectangle 52 = .ok (.ireturn, 1) := by decide +kernel
theorem dX6_rectangle_53 : decode cX6_rectangle 53 = .ok (.iload_n 2, 1) := by decide +kernel
theorem dX6_rectangle_54 : decode cX6_rectangle 54 = .ok (.lookupswitch 52 #[(4, 26), (5, 42)], 26) := by decide +kernel
theorem dX6_rectangle_80 : decode cX6_rectangle 80 = .ok (.aload_n 0, 1) := by decide +kernel
theorem dX6_rectangle_81 : decode cX6_rectangle 81 = .ok (.getfield 37, 3) := by decide +kernel
theorem dX6_rectangle_84 : decode cX6_rectangle 84 = .ok (.iload_n 1, 1) := by decide +kernel
theorem dX6_rectangle_85 : decode cX6_rectangle 85 = .ok (.aload_n 0, 1) := by decide +kernel
theorem dX6_rectangle_86 : decode cX6_rectangle 86 = .ok (.getfield 10, 3) := by decide +kernel
theorem dX6_rectangle_89 : decode cX6_rectangle 89 = .ok (.getfield 78, 3) := by decide +kernel
theorem dX6_rectangle_92 : decode cX6_rectangle 92 = .ok (.invokevirtual 182, 3) := by decide +kernel
theorem dX6_rectangle_95 : decode cX6_rectangle 95 = .ok (.ireturn, 1) := by decide +kernel
theorem dX6_rectangle_96 : decode cX6_rectangle 96 = .ok (.aload_n 0, 1) := by decide +kernel
theorem dX6_rectangle_97 : decode cX6_rectangle 97 = .ok (.getfield 37, 3) := by decide +kernel
theorem dX6_rectangle_100 : decode cX6_rectangle 100 = .ok (.getfield 186, 3) := by decide +kernel
theorem dX6_rectangle_103 : decode cX6_rectangle 103 = .ok (.iload_n 1, 1) := by decide +kernel
theorem dX6_rectangle_104 : decode cX6_rectangle 104 = .ok (.iaload, 1) := by decide +kernel
theorem dX6_rectangle_105 : decode cX6_rectangle 105 = .ok (.ireturn, 1) := by decide +kernel
theorem dX6_rectangle_106 : decode cX6_rectangle 106 = .ok (.aload_n 0, 1) := by decide +kernel
theorem dX6_rectangle_107 : decode cX6_rectangle 107 = .ok (.getfield 37, 3) := by decide +kernel
theorem dX6_rectangle_110 : decode cX6_rectangle 110 = .ok (.iload_n 1, 1) := by decide +kernel
theorem dX6_rectangle_111 : decode cX6_rectangle 111 = .ok (.iload_n 2, 1) := by decide +kernel
theorem dX6_rectangle_112 : decode cX6_rectangle 112 = .ok (.invokevirtual 189, 3) := by decide +kernel
theorem dX6_rectangle_115 : decode cX6_rectangle 115 = .ok (.ireturn, 1) := by decide +kernel
theorem dX6_container_0 : decode cX6_container 0 = .ok (.iload_n 1, 1) := by decide +kernel
theorem dX6_container_1 : decode cX6_container 1 = .ok (.ifCond .lt 8, 3) := by decide +kernel
theorem dX6_container_4 : decode cX6_container 4 = .ok (.iload_n 1, 1) := by decide +kernel
theorem dX6_container_5 : decode cX6_container 5 = .ok (.iconst 2, 1) := by decide +kernel
theorem dX6_container_6 : decode cX6_container 6 = .ok (.if_icmp .le 5, 3) := by decide +kernel
theorem dX6_container_9 : decode cX6_container 9 = .ok (.iconst (-1), 1) := by decide +kernel
theorem dX6_container_10 : decode cX6_container 10 = .ok (.ireturn, 1) := by decide +kernel
theorem dX6_container_11 : decode cX6_container 11 = .ok (.aload_n 0, 1) := by decide +kernel
theorem dX6_container_12 : decode cX6_container 12 = .ok (.getfield 10, 3) := by decide +kernel
theorem dX6_container_15 : decode cX6_container 15 = .ok (.getfield 55, 3) := by decide +kernel
theorem dX6_container_18 : decode cX6_container 18 = .ok (.iconst 2, 1) := by decide +kernel
theorem dX6_container_19 : decode cX6_container 19 = .ok (.if_icmp .ge 6, 3) := by decide +kernel
theorem dX6_container_22 : decode cX6_container 22 = .ok (.bipush (-9), 2) := by decide +kernel
theorem dX6_container_24 : decode cX6_container 24 = .ok (.ireturn, 1) := by decide +kernel
theorem dX6_container_25 : decode cX6_container 25 = .ok (.iconst (-1), 1) := by decide +kernel
theorem dX6_container_26 : decode cX6_container 26 = .ok (.istore_n 2, 1) := by decide +kernel
theorem dX6_container_27 : decode cX6_container 27 = .ok (.iconst 0, 1) := by decide +kernel
theorem dX6_container_28 : decode cX6_container 28 = .ok (.istore_n 3, 1) := by decide +kernel
theorem dX6_container_29 : decode cX6_container 29 = .ok (.iconst 0, 1) := by decide +kernel
theorem dX6_container_30 : decode cX6_container 30 = .ok (.istore 4, 2) := by decide +kernel
theorem dX6_container_32 : decode cX6_container 32 = .ok (.iconst 0, 1) := by decide +kernel
theorem dX6_container_33 : decode cX6_container 33 = .ok (.istore 5, 2) := by decide +kernel
theorem dX6_container_35 : decode cX6_container 35 = .ok (.iload 5, 2) := by decide +kernel
theorem dX6_container_37 : decode cX6_container 37 = .ok (.aload_n 0, 1) := by decide +kernel
theorem dX6_container_38 : decode cX6_container 38 = .ok (.getfield 10, 3) := by decide +kernel
theorem dX6_container_41 : decode cX6_container 41 = .ok (.getfield 55, 3) := by decide +kernel
theorem dX6_container_44 : decode cX6_container 44 = .ok (.if_icmp .ge 80, 3) := by decide +kernel
end
section
theorem dX6_container_47 : decode cX6_container 47 = .ok (.iload 5, 2) := by decide +kernel
theorem dX6_container_49 : decode cX6_container 49 = .ok (.iconst 1, 1) := by decide +kernel
theorem dX6_container_50 : decode cX6_container 50 = .ok (.iadd, 1) := by decide +kernel
theorem dX6_container_51 : decode cX6_container 51 = .ok (.istore 6, 2) := by decide +kernel
theorem dX6_container_53 : decode cX6_container 53 = .ok (.iload 6, 2) := by decide +kernel
theorem dX6_container_55 : decode cX6_container 55 = .ok (.aload_n 0, 1) := by decide +kernel
theorem dX6_container_56 : decode cX6_container 56 = .ok (.getfield 10, 3) := by decide +kernel
theorem dX6_container_59 : decode cX6_container 59 = .ok (.getfield 55, 3) := by decide +kernel
theorem dX6_container_62 : decode cX6_container 62 = .ok (.if_icmp .ge 56, 3) := by decide +kernel
theorem dX6_container_65 : decode cX6_container 65 = .ok (.aload_n 0, 1) := by decide +kernel
theorem dX6_container_66 : decode cX6_container 66 = .ok (.getfield 10, 3) := by decide +kernel
theorem dX6_container_69 : decode cX6_container 69 = .ok (.getfield 78, 3) := by decide +kernel
theorem dX6_container_72 : decode cX6_container 72 = .ok (.iload 5, 2) := by decide +kernel
theorem dX6_container_74 : decode cX6_container 74 = .ok (.iaload, 1) := by decide +kernel
theorem dX6_container_75 : decode cX6_container 75 = .ok (.aload_n 0, 1) := by decide +kernel
theorem dX6_container_76 : decode cX6_container 76 = .ok (.getfield 10, 3) := by decide +kernel
theorem dX6_container_79 : decode cX6_container 79 = .ok (.getfield 78, 3) := by decide +kernel
theorem dX6_container_82 : decode cX6_container 82 = .ok (.iload 6, 2) := by decide +kernel
theorem dX6_container_84 : decode cX6_container 84 = .ok (.iaload, 1) := by decide +kernel
theorem dX6_container_85 : decode cX6_container 85 = .ok (.invokestatic 192, 3) := by decide +kernel
theorem dX6_container_88 : decode cX6_container 88 = .ok (.iload 6, 2) := by decide +kernel
theorem dX6_container_90 : decode cX6_container 90 = .ok (.iload 5, 2) := by decide +kernel
theorem dX6_container_92 : decode cX6_container 92 = .ok (.isub, 1) := by decide +kernel
theorem dX6_container_93 : decode cX6_container 93 = .ok (.imul, 1) := by decide +kernel
theorem dX6_container_94 : decode cX6_container 94 = .ok (.istore 7, 2) := by decide +kernel
theorem dX6_container_96 : decode cX6_container 96 = .ok (.iload 7, 2) := by decide +kernel
theorem dX6_container_98 : decode cX6_container 98 = .ok (.iload_n 2, 1) := by decide +kernel
theorem dX6_container_99 : decode cX6_container 99 = .ok (.if_icmp .le 13, 3) := by decide +kernel
theorem dX6_container_102 : decode cX6_container 102 = .ok (.iload 7, 2) := by decide +kernel
theorem dX6_container_104 : decode cX6_container 104 = .ok (.istore_n 2, 1) := by decide +kernel
theorem dX6_container_105 : decode cX6_container 105 = .ok (.iload 5, 2) := by decide +kernel
theorem dX6_container_107 : decode cX6_container 107 = .ok (.istore_n 3, 1) := by decide +kernel
theorem dX6_container_108 : decode cX6_container 108 = .ok (.iload 6, 2) := by decide +kernel
theorem dX6_container_110 : decode cX6_container 110 = .ok (.istore 4, 2) := by decide +kernel
theorem dX6_container_112 : decode cX6_container 112 = .ok (.iinc 6 1, 3) := by decide +kernel
theorem dX6_container_115 : decode cX6_container 115 = .ok (.goto (-62), 3) := by decide +kernel
theorem dX6_container_118 : decode cX6_container 118 = .ok (.iinc 5 1, 3) := by decide +kernel
theorem dX6_container_121 : decode cX6_container 121 = .ok (.goto (-86), 3) := by decide +kernel
theorem dX6_container_124 : decode cX6_container 124 = .ok (.iload_n 1, 1) := by decide +kernel
theorem dX6_container_125 : decode cX6_container 125 = .ok (.lookupswitch 31 #[(0, 27), (1, 29)], 27) := by decide +kernel
theorem dX6_container_152 : decode cX6_container 152 = .ok (.iload_n 2, 1) := by decide +kernel
theorem dX6_container_153 : decode cX6_container 153 = .ok (.ireturn, 1) := by decide +kernel
theorem dX6_container_154 : decode cX6_container 154 = .ok (.iload_n 3, 1) := by decide +kernel
theorem dX6_container_155 : decode cX6_container 155 = .ok (.ireturn, 1) := by decide +kernel
theorem dX6_container_156 : decode cX6_container 156 = .ok (.iload 4, 2) := by decide +kernel
theorem dX6_container_158 : decode cX6_container 158 = .ok (.ireturn, 1) := by decide +kernel
set_option maxRecDepth 20000 in
theorem ggX6_pool_X6_pourAll : GoodIn wsX6_pool wsX6_pourAll := goodIn_r _ [7, 1, 2, 8, 9, 10, 11, 12, 13, 14, 15, 16, 17, 18, 19, 20, 39, 40, 41, 42, 43, 44, 45, 46, 47, 48] (by decide +kernel) (by decide +kernel)
set_option maxRecDepth 20000 in
theorem gX6_pool_X6_pourAll : GoodIn wsX6_pool (wsV RX6 98 RX6 yX6_pourAll wsX6_pourAll) := goodIn_app (goodIn_of _ (by decide +kernel)) ggX6_pool_X6_pourAll
set_option maxRecDepth 20000 in
theorem ggX6_pool_X5_poolStart : GoodIn wsX6_pool wsX5_poolStart := goodIn_r _ [24, 25, 26, 27, 11, 28, 17, 48] (by decide +kernel) (by decide +kernel)
set_option maxRecDepth 20000 in
theorem gX6_pool_X5_poolStart : GoodIn wsX6_pool (wsV RX6 197 RX5 yX5_poolStart wsX5_poolStart) := goodIn_app (goodIn_of _ (by decide +kernel)) ggX6_pool_X5_poolStart
set_option maxRecDepth 20000 in
theorem ggX6_pool_X5_poolEnd : GoodIn wsX6_pool wsX5_poolEnd := goodIn_r _ [32, 17, 48] (by decide +kernel) (by decide +kernel)
set_option maxRecDepth 20000 in
theorem gX6_pool_X5_poolEnd : GoodIn wsX6_pool (wsV RX6 200 RX5 yX5_poolEnd wsX5_poolEnd) := goodIn_app (goodIn_of _ (by decide +kernel)) ggX6_pool_X5_poolEnd
set_option maxRecDepth 20000 in
theorem ggX6_pool_X6_sumOf : GoodIn wsX6_pool wsX6_sumOf := goodIn_r _ [35] (by decide +kernel) (by decide +kernel)
set_option maxRecDepth 20000 in
theorem gX6_pool_X6_sumOf : GoodIn wsX6_pool (va_wsS RX6 111 yX6_sumOf wsX6_sumOf) := goodIn_app (goodIn_of _ (by decide +kernel)) ggX6_pool_X6_sumOf
set_option maxRecDepth 20000 in
theorem ggX6_pool_X6_lowestGreatest : GoodIn wsX6_pool wsX6_lowestGreatest := goodIn_r _ [38] (by decide +kernel) (by decide +kernel)
set_option maxRecDepth 20000 in
theorem gX6_pool_X6_lowestGreatest : GoodIn wsX6_pool (va_wsS RX6 171 yX6_lowestGreatest wsX6_lowestGreatest) := goodIn_app (goodIn_of _ (by decide +kernel)) ggX6_pool_X6_lowestGreatest
theorem dX6_pool_0 : decode cX6_pool 0 = .ok (.iload_n 1, 1) := by decide +kernel
theorem dX6_pool_1 : decode cX6_pool 1 = .ok (.ifCond .lt 12, 3) := by decide +kernel
theorem dX6_pool_4 : decode cX6_pool 4 = .ok (.iload_n 2, 1) := by decide +kernel
theorem dX6_pool_5 : decode cX6_pool 5 = .ok (.ifCond .lt 8, 3) := by decide +kernel
theorem dX6_pool_8 : decode cX6_pool 8 = .ok (.iload_n 2, 1) := by decide +kernel
theorem dX6_pool_9 : decode cX6_pool 9 = .ok (.iconst 4, 1) := by decide +kernel
theorem dX6_pool_10 : decode cX6_pool 10 = .ok (.if_icmp .le 5, 3) := by decide +kernel
theorem dX6_pool_13 : decode cX6_pool 13 = .ok (.iconst (-1), 1) := by decide +kernel
theorem dX6_pool_14 : decode cX6_pool 14 = .ok (.ireturn, 1) := by decide +kernel
theorem dX6_pool_15 : decode cX6_pool 15 = .ok (.aload_n 0, 1) := by decide +kernel
theorem dX6_pool_16 : decode cX6_pool 16 = .ok (.invokevirtual 98, 3) := by decide +kernel
theorem dX6_pool_19 : decode cX6_pool 19 = .ok (.pop, 1) := by decide +kernel
theorem dX6_pool_20 : decode cX6_pool 20 = .ok (.aload_n 0, 1) := by decide +kernel
theorem dX6_pool_21 : decode cX6_pool 21 = .ok (.getfield 30, 3) := by decide +kernel
theorem dX6_pool_24 : decode cX6_pool 24 = .ok (.iload_n 1, 1) := by decide +kernel
theorem dX6_pool_25 : decode cX6_pool 25 = .ok (.aload_n 0, 1) := by decide +kernel
theorem dX6_pool_26 : decode cX6_pool 26 = .ok (.getfield 10, 3) := by decide +kernel
theorem dX6_pool_29 : decode cX6_pool 29 = .ok (.getfield 55, 3) := by decide +kernel
theorem dX6_pool_32 : decode cX6_pool 32 = .ok (.invokevirtual 197, 3) := by decide +kernel
theorem dX6_pool_35 : decode cX6_pool 35 = .ok (.istore_n 3, 1) := by decide +kernel
theorem dX6_pool_36 : decode cX6_pool 36 = .ok (.iload_n 3, 1) := by decide +kernel
theorem dX6_pool_37 : decode cX6_pool 37 = .ok (.bipush (-9), 2) := by decide +kernel
theorem dX6_pool_39 : decode cX6_pool 39 = .ok (.if_icmp .ne 6, 3) := by decide +kernel
theorem dX6_pool_42 : decode cX6_pool 42 = .ok (.bipush (-9), 2) := by decide +kernel
theorem dX6_pool_44 : decode cX6_pool 44 = .ok (.ireturn, 1) := by decide +kernel
theorem dX6_pool_45 : decode cX6_pool 45 = .ok (.aload_n 0, 1) := by decide +kernel
theorem dX6_pool_46 : decode cX6_pool 46 = .ok (.getfield 30, 3) := by decide +kernel
theorem dX6_pool_49 : decode cX6_pool 49 = .ok (.iload_n 3, 1) := by decide +kernel
theorem dX6_pool_50 : decode cX6_pool 50 = .ok (.aload_n 0, 1) := by decide +kernel
theorem dX6_pool_51 : decode cX6_pool 51 = .ok (.getfield 10, 3) := by decide +kernel
theorem dX6_pool_54 : decode cX6_pool 54 = .ok (.getfield 55, 3) := by decide +kernel
theorem dX6_pool_57 : decode cX6_pool 57 = .ok (.invokevirtual 200, 3) := by decide +kernel
theorem dX6_pool_60 : decode cX6_pool 60 = .ok (.istore 4, 2) := by decide +kernel
theorem dX6_pool_62 : decode cX6_pool 62 = .ok (.iload_n 2, 1) := by decide +kernel
theorem dX6_pool_63 : decode cX6_pool 63 = .ok (.tableswitch 68 0 3 #[29, 31, 34, 48], 29) := by decide +kernel
theorem dX6_pool_92 : decode cX6_pool 92 = .ok (.iload_n 3, 1) := by decide +kernel
theorem dX6_pool_93 : decode cX6_pool 93 = .ok (.ireturn, 1) := by decide +kernel
theorem dX6_pool_94 : decode cX6_pool 94 = .ok (.iload 4, 2) := by decide +kernel
theorem dX6_pool_96 : decode cX6_pool 96 = .ok (.ireturn, 1) := by decide +kernel
theorem dX6_pool_97 : decode cX6_pool 97 = .ok (.aload_n 0, 1) := by decide +kernel
theorem dX6_pool_98 : decode cX6_pool 98 = .ok (.getfield 30, 3) := by decide +kernel
theorem dX6_pool_101 : decode cX6_pool 101 = .ok (.getfield 102, 3) := by decide +kernel
theorem dX6_pool_104 : decode cX6_pool 104 = .ok (.iload_n 3, 1) := by decide +kernel
theorem dX6_pool_105 : decode cX6_pool 105 = .ok (.iload 4, 2) := by decide +kernel
theorem dX6_pool_107 : decode cX6_pool 107 = .ok (.invokestatic 111, 3) := by decide +kernel
theorem dX6_pool_110 : decode cX6_pool 110 = .ok (.ireturn, 1) := by decide +kernel
theorem dX6_pool_111 : decode cX6_pool 111 = .ok (.aload_n 0, 1) := by decide +kernel
theorem dX6_pool_112 : decode cX6_pool 112 = .ok (.getfield 10, 3) := by decide +kernel
theorem dX6_pool_115 : decode cX6_pool 115 = .ok (.getfield 78, 3) := by decide +kernel
theorem dX6_pool_118 : decode cX6_pool 118 = .ok (.iload_n 3, 1) := by decide +kernel
theorem dX6_pool_119 : decode cX6_pool 119 = .ok (.iaload, 1) := by decide +kernel
theorem dX6_pool_120 : decode cX6_pool 120 = .ok (.aload_n 0, 1) := by decide +kernel
theorem dX6_pool_121 : decode cX6_pool 121 = .ok (.getfield 30, 3) := by decide +kernel
theorem dX6_pool_124 : decode cX6_pool 124 = .ok (.getfield 102, 3) := by decide +kernel
theorem dX6_pool_127 : decode cX6_pool 127 = .ok (.iload_n 3, 1) := by decide +kernel
theorem dX6_pool_128 : decode cX6_pool 128 = .ok (.iaload, 1) := by decide +kernel
theorem dX6_pool_129 : decode cX6_pool 129 = .ok (.iadd, 1) := by decide +kernel
theorem dX6_pool_130 : decode cX6_pool 130 = .ok (.ireturn, 1) := by decide +kernel
theorem dX6_pool_131 : decode cX6_pool 131 = .ok (.aload_n 0, 1) := by decide +kernel
theorem dX6_pool_132 : decode cX6_pool 132 = .ok (.getfield 30, 3) := by decide +kernel
theorem dX6_pool_135 : decode cX6_pool 135 = .ok (.getfield 102, 3) := by decide +kernel
theorem dX6_pool_138 : decode cX6_pool 138 = .ok (.aload_n 0, 1) := by decide +kernel
theorem dX6_pool_139 : decode cX6_pool 139 = .ok (.getfield 30, 3) := by decide +kernel
theorem dX6_pool_142 : decode cX6_pool 142 = .ok (.getfield 102, 3) := by decide +kernel
theorem dX6_pool_145 : decode cX6_pool 145 = .ok (.iload_n 3, 1) := by decide +kernel
theorem dX6_pool_146 : decode cX6_pool 146 = .ok (.iload 4, 2) := by decide +kernel
theorem dX6_pool_148 : decode cX6_pool 148 = .ok (.invokestatic 171, 3) := by decide +kernel
theorem dX6_pool_151 : decode cX6_pool 151 = .ok (.iaload, 1) := by decide +kernel
theorem dX6_pool_152 : decode cX6_pool 152 = .ok (.ireturn, 1) := by decide +kernel
set_option maxRecDepth 20000 in
theorem ggX6_drained_X0_has : GoodIn wsX6_drained wsX0_has := goodIn_r _ [7, 8, 34, 35] (by decide +kernel) (by decide +kernel)
set_option maxRecDepth 20000 in
theorem gX6_drained_X0_has : GoodIn wsX6_drained (wsV RX6 71 RX0 yX0_has wsX0_has) := goodIn_app (goodIn_of _ (by decide +kernel)) ggX6_drained_X0_has
set_option maxRecDepth 20000 in
theorem ggX6_drained_X5_pour : GoodIn wsX6_drained wsX5_pour := goodIn_r _ [13, 14, 15, 16, 17, 18, 19, 20, 21, 36] (by decide +kernel) (by decide +kernel)
set_option maxRecDepth 20000 in
theorem gX6_drained_X5_pour : GoodIn wsX6_drained (wsV RX6 203 RX5 yX5_pour wsX5_pour) := goodIn_app (goodIn_of _ (by decide +kernel)) ggX6_drained_X5_pour
set_option maxRecDepth 20000 in
theorem ggX6_drained_X6_pourAll : GoodIn wsX6_drained wsX6_pourAll := goodIn_r _ [26, 2, 1, 9, 10, 11, 12, 13, 14, 15, 16, 17, 18, 19, 20, 21, 27, 28, 29, 30, 31, 32, 33, 34, 35, 36] (by decide +kernel) (by decide +kernel)
set_option maxRecDepth 20000 in
theorem gX6_drained_X6_pourAll : GoodIn wsX6_drained (wsV RX6 98 RX6 yX6_pourAll wsX6_pourAll) := goodIn_app (goodIn_of _ (by decide +kernel)) ggX6_drained_X6_pourAll
theorem dX6_drained_0 : decode cX6_drained 0 = .ok (.aload_n 0, 1) := by decide +kernel
theorem dX6_drained_1 : decode cX6_drained 1 = .ok (.getfield 10, 3) := by decide +kernel
theorem dX6_drained_4 : decode cX6_drained 4 = .ok (.iload_n 1, 1) := by decide +kernel
theorem dX6_drained_5 : decode cX6_drained 5 = .ok (.invokevirtual 71, 3) := by decide +kernel
theorem dX6_drained_8 : decode cX6_drained 8 = .ok (.ifCond .ne 5, 3) := by decide +kernel
theorem dX6_drained_11 : decode cX6_drained 11 = .ok (.iconst (-1), 1) := by decide +kernel
theorem dX6_drained_12 : decode cX6_drained 12 = .ok (.ireturn, 1) := by decide +kernel
theorem dX6_drained_13 : decode cX6_drained 13 = .ok (.aload_n 0, 1) := by decide +kernel
theorem dX6_drained_14 : decode cX6_drained 14 = .ok (.getfield 30, 3) := by decide +kernel
theorem dX6_drained_17 : decode cX6_drained 17 = .ok (.aload_n 0, 1) := by decide +kernel
theorem dX6_drained_18 : decode cX6_drained 18 = .ok (.getfield 10, 3) := by decide +kernel
theorem dX6_drained_21 : decode cX6_drained 21 = .ok (.getfield 78, 3) := by decide +kernel
theorem dX6_drained_24 : decode cX6_drained 24 = .ok (.iconst 0, 1) := by decide +kernel
theorem dX6_drained_25 : decode cX6_drained 25 = .ok (.iload_n 1, 1) := by decide +kernel
theorem dX6_drained_26 : decode cX6_drained 26 = .ok (.invokevirtual 203, 3) := by decide +kernel
theorem dX6_drained_29 : decode cX6_drained 29 = .ok (.istore_n 2, 1) := by decide +kernel
theorem dX6_drained_30 : decode cX6_drained 30 = .ok (.aload_n 0, 1) := by decide +kernel
theorem dX6_drained_31 : decode cX6_drained 31 = .ok (.getfield 30, 3) := by decide +kernel
theorem dX6_drained_34 : decode cX6_drained 34 = .ok (.aload_n 0, 1) := by decide +kernel
theorem dX6_drained_35 : decode cX6_drained 35 = .ok (.getfield 10, 3) := by decide +kernel
theorem dX6_drained_38 : decode cX6_drained 38 = .ok (.getfield 78, 3) := by decide +kernel
theorem dX6_drained_41 : decode cX6_drained 41 = .ok (.iload_n 1, 1) := by decide +kernel
theorem dX6_drained_42 : decode cX6_drained 42 = .ok (.aload_n 0, 1) := by decide +kernel
theorem dX6_drained_43 : decode cX6_drained 43 = .ok (.getfield 10, 3) := by decide +kernel
theorem dX6_drained_46 : decode cX6_drained 46 = .ok (.getfield 55, 3) := by decide +kernel
theorem dX6_drained_49 : decode cX6_drained 49 = .ok (.iconst 1, 1) := by decide +kernel
theorem dX6_drained_50 : decode cX6_drained 50 = .ok (.isub, 1) := by decide +kernel
theorem dX6_drained_51 : decode cX6_drained 51 = .ok (.invokevirtual 203, 3) := by decide +kernel
theorem dX6_drained_54 : decode cX6_drained 54 = .ok (.istore_n 3, 1) := by decide +kernel
theorem dX6_drained_55 : decode cX6_drained 55 = .ok (.aload_n 0, 1) := by decide +kernel
theorem dX6_drained_56 : decode cX6_drained 56 = .ok (.invokevirtual 98, 3) := by decide +kernel
theorem dX6_drained_59 : decode cX6_drained 59 = .ok (.iload_n 2, 1) := by decide +kernel
theorem dX6_drained_60 : decode cX6_drained 60 = .ok (.isub, 1) := by decide +kernel
theorem dX6_drained_61 : decode cX6_drained 61 = .ok (.iload_n 3, 1) := by decide +kernel
theorem dX6_drained_62 : decode cX6_drained 62 = .ok (.isub, 1) := by decide +kernel
theorem dX6_drained_63 : decode cX6_drained 63 = .ok (.ireturn, 1) := by decide +kernel
set_option maxRecDepth 20000 in
theorem ggX6_dam_X6_waterWithDam : GoodIn wsX6_dam wsX6_waterWithDam := goodIn_r _ [6, 1, 7, 8, 9, 10, 11, 12, 13, 5, 14, 15, 16, 17, 18, 19, 20, 21, 22, 23, 24, 25, 26, 27, 28, 29, 30, 31, 32, 33, 34, 35] (by decide +kernel) (by decide +kernel)
set_option maxRecDepth 20000 in
theorem gX6_dam_X6_waterWithDam : GoodIn wsX6_dam (wsV RX6 206 RX6 yX6_waterWithDam wsX6_waterWithDam) := goodIn_app (goodIn_of _ (by decide +kernel)) ggX6_dam_X6_waterWithDam
theorem dX6_dam_0 : decode cX6_dam 0 = .ok (.iload_n 1, 1) := by decide +kernel
theorem dX6_dam_1 : decode cX6_dam 1 = .ok (.iconst 1, 1) := by decide +kernel
theorem dX6_dam_2 : decode cX6_dam 2 = .ok (.if_icmp .lt 18, 3) := by decide +kernel
theorem dX6_dam_5 : decode cX6_dam 5 = .ok (.iload_n 1, 1) := by decide +kernel
theorem dX6_dam_6 : decode cX6_dam 6 = .ok (.bipush 50, 2) := by decide +kernel
theorem dX6_dam_8 : decode cX6_dam 8 = .ok (.if_icmp .gt 12, 3) := by decide +kernel
theorem dX6_dam_11 : decode cX6_dam 11 = .ok (.iload_n 2, 1) := by decide +kernel
theorem dX6_dam_12 : decode cX6_dam 12 = .ok (.ifCond .lt 8, 3) := by decide +kernel
theorem dX6_dam_15 : decode cX6_dam 15 = .ok (.iload_n 2, 1) := by decide +kernel
theorem dX6_dam_16 : decode cX6_dam 16 = .ok (.iconst 1, 1) := by decide +kernel
theorem dX6_dam_17 : decode cX6_dam 17 = .ok (.if_icmp .le 5, 3) := by decide +kernel
theorem dX6_dam_20 : decode cX6_dam 20 = .ok (.iconst (-1), 1) := by decide +kernel
theorem dX6_dam_21 : decode cX6_dam 21 = .ok (.ireturn, 1) := by decide +kernel
theorem dX6_dam_22 : decode cX6_dam 22 = .ok (.aload_n 0, 1) := by decide +kernel
theorem dX6_dam_23 : decode cX6_dam 23 = .ok (.getfield 10, 3) := by decide +kernel
theorem dX6_dam_26 : decode cX6_dam 26 = .ok (.getfield 55, 3) := by decide +kernel
theorem dX6_dam_29 : decode cX6_dam 29 = .ok (.ifCond .ne 6, 3) := by decide +kernel
theorem dX6_dam_32 : decode cX6_dam 32 = .ok (.bipush (-2), 2) := by decide +kernel
theorem dX6_dam_34 : decode cX6_dam 34 = .ok (.ireturn, 1) := by decide +kernel
theorem dX6_dam_35 : decode cX6_dam 35 = .ok (.iconst 0, 1) := by decide +kernel
theorem dX6_dam_36 : decode cX6_dam 36 = .ok (.istore_n 3, 1) := by decide +kernel
theorem dX6_dam_37 : decode cX6_dam 37 = .ok (.iconst (-1), 1) := by decide +kernel
theorem dX6_dam_38 : decode cX6_dam 38 = .ok (.istore 4, 2) := by decide +kernel
theorem dX6_dam_40 : decode cX6_dam 40 = .ok (.iconst 0, 1) := by decide +kernel
theorem dX6_dam_41 : decode cX6_dam 41 = .ok (.istore 5, 2) := by decide +kernel
theorem dX6_dam_43 : decode cX6_dam 43 = .ok (.iload 5, 2) := by decide +kernel
theorem dX6_dam_45 : decode cX6_dam 45 = .ok (.aload_n 0, 1) := by decide +kernel
theorem dX6_dam_46 : decode cX6_dam 46 = .ok (.getfield 10, 3) := by decide +kernel
theorem dX6_dam_49 : decode cX6_dam 49 = .ok (.getfield 55, 3) := by decide +kernel
theorem dX6_dam_52 : decode cX6_dam 52 = .ok (.if_icmp .ge 32, 3) := by decide +kernel
theorem dX6_dam_55 : decode cX6_dam 55 = .ok (.aload_n 0, 1) := by decide +kernel
theorem dX6_dam_56 : decode cX6_dam 56 = .ok (.iload 5, 2) := by decide +kernel
theorem dX6_dam_58 : decode cX6_dam 58 = .ok (.iload_n 1, 1) := by decide +kernel
theorem dX6_dam_59 : decode cX6_dam 59 = .ok (.invokevirtual 206, 3) := by decide +kernel
theorem dX6_dam_62 : decode cX6_dam 62 = .ok (.istore 6, 2) := by decide +kernel
theorem dX6_dam_64 : decode cX6_dam 64 = .ok (.iload 6, 2) := by decide +kernel
theorem dX6_dam_66 : decode cX6_dam 66 = .ok (.iload 4, 2) := by decide +kernel
theorem dX6_dam_68 : decode cX6_dam 68 = .ok (.if_icmp .le 10, 3) := by decide +kernel
theorem dX6_dam_71 : decode cX6_dam 71 = .ok (.iload 6, 2) := by decide +kernel
theorem dX6_dam_73 : decode cX6_dam 73 = .ok (.istore 4, 2) := by decide +kernel
theorem dX6_dam_75 : decode cX6_dam 75 = .ok (.iload 5, 2) := by decide +kernel
theorem dX6_dam_77 : decode cX6_dam 77 = .ok (.istore_n 3, 1) := by decide +kernel
theorem dX6_dam_78 : decode cX6_dam 78 = .ok (.iinc 5 1, 3) := by decide +kernel
theorem dX6_dam_81 : decode cX6_dam 81 = .ok (.goto (-38), 3) := by decide +kernel
theorem dX6_dam_84 : decode cX6_dam 84 = .ok (.iload_n 2, 1) := by decide +kernel
theorem dX6_dam_85 : decode cX6_dam 85 = .ok (.ifCond .ne 7, 3) := by decide +kernel
theorem dX6_dam_88 : decode cX6_dam 88 = .ok (.iload_n 3, 1) := by decide +kernel
theorem dX6_dam_89 : decode cX6_dam 89 = .ok (.goto 5, 3) := by decide +kernel
theorem dX6_dam_92 : decode cX6_dam 92 = .ok (.iload 4, 2) := by decide +kernel
theorem dX6_dam_94 : decode cX6_dam 94 = .ok (.ireturn, 1) := by decide +kernel
theorem dX6_sumOfMinima_0 : decode cX6_sumOfMinima 0 = .ok (.iconst 0, 1) := by decide +kernel
theorem dX6_sumOfMinima_1 : decode cX6_sumOfMinima 1 = .ok (.istore_n 1, 1) := by decide +kernel
theorem dX6_sumOfMinima_2 : decode cX6_sumOfMinima 2 = .ok (.iconst 0, 1) := by decide +kernel
theorem dX6_sumOfMinima_3 : decode cX6_sumOfMinima 3 = .ok (.istore_n 2, 1) := by decide +kernel
theorem dX6_sumOfMinima_4 : decode cX6_sumOfMinima 4 = .ok (.iload_n 2, 1) := by decide +kernel
theorem dX6_sumOfMinima_5 : decode cX6_sumOfMinima 5 = .ok (.aload_n 0, 1) := by decide +kernel
theorem dX6_sumOfMinima_6 : decode cX6_sumOfMinima 6 = .ok (.getfield 10, 3) := by decide +kernel
theorem dX6_sumOfMinima_9 : decode cX6_sumOfMinima 9 = .ok (.getfield 55, 3) := by decide +kernel
theorem dX6_sumOfMinima_12 : decode cX6_sumOfMinima 12 = .ok (.if_icmp .ge 52, 3) := by decide +kernel
theorem dX6_sumOfMinima_15 : decode cX6_sumOfMinima 15 = .ok (.bipush 50, 2) := by decide +kernel
theorem dX6_sumOfMinima_17 : decode cX6_sumOfMinima 17 = .ok (.istore_n 3, 1) := by decide +kernel
theorem dX6_sumOfMinima_18 : decode cX6_sumOfMinima 18 = .ok (.iload_n 2, 1) := by decide +kernel
theorem dX6_sumOfMinima_19 : decode cX6_sumOfMinima 19 = .ok (.istore 4, 2) := by decide +kernel
theorem dX6_sumOfMinima_21 : decode cX6_sumOfMinima 21 = .ok (.iload 4, 2) := by decide +kernel
theorem dX6_sumOfMinima_23 : decode cX6_sumOfMinima 23 = .ok (.aload_n 0, 1) := by decide +kernel
theorem dX6_sumOfMinima_24 : decode cX6_sumOfMinima 24 = .ok (.getfield 10, 3) := by decide +kernel
theorem dX6_sumOfMinima_27 : decode cX6_sumOfMinima 27 = .ok (.getfield 55, 3) := by decide +kernel
theorem dX6_sumOfMinima_30 : decode cX6_sumOfMinima 30 = .ok (.if_icmp .ge 28, 3) := by decide +kernel
theorem dX6_sumOfMinima_33 : decode cX6_sumOfMinima 33 = .ok (.iload_n 3, 1) := by decide +kernel
theorem dX6_sumOfMinima_34 : decode cX6_sumOfMinima 34 = .ok (.aload_n 0, 1) := by decide +kernel
theorem dX6_sumOfMinima_35 : decode cX6_sumOfMinima 35 = .ok (.getfield 10, 3) := by decide +kernel
theorem dX6_sumOfMinima_38 : decode cX6_sumOfMinima 38 = .ok (.getfield 78, 3) := by decide +kernel
theorem dX6_sumOfMinima_41 : decode cX6_sumOfMinima 41 = .ok (.iload 4, 2) := by decide +kernel
theorem dX6_sumOfMinima_43 : decode cX6_sumOfMinima 43 = .ok (.iaload, 1) := by decide +kernel
theorem dX6_sumOfMinima_44 : decode cX6_sumOfMinima 44 = .ok (.invokestatic 192, 3) := by decide +kernel
theorem dX6_sumOfMinima_47 : decode cX6_sumOfMinima 47 = .ok (.istore_n 3, 1) := by decide +kernel
theorem dX6_sumOfMinima_48 : decode cX6_sumOfMinima 48 = .ok (.iload_n 1, 1) := by decide +kernel
theorem dX6_sumOfMinima_49 : decode cX6_sumOfMinima 49 = .ok (.iload_n 3, 1) := by decide +kernel
theorem dX6_sumOfMinima_50 : decode cX6_sumOfMinima 50 = .ok (.iadd, 1) := by decide +kernel
theorem dX6_sumOfMinima_51 : decode cX6_sumOfMinima 51 = .ok (.istore_n 1, 1) := by decide +kernel
theorem dX6_sumOfMinima_52 : decode cX6_sumOfMinima 52 = .ok (.iinc 4 1, 3) := by decide +kernel
theorem dX6_sumOfMinima_55 : decode cX6_sumOfMinima 55 = .ok (.goto (-34), 3) := by decide +kernel
theorem dX6_sumOfMinima_58 : decode cX6_sumOfMinima 58 = .ok (.iinc 2 1, 3) := by decide +kernel
theorem dX6_sumOfMinima_61 : decode cX6_sumOfMinima 61 = .ok (.goto (-57), 3) := by decide +kernel
theorem dX6_sumOfMinima_64 : decode cX6_sumOfMinima 64 = .ok (.iload_n 1, 1) := by decide +kernel
theorem dX6_sumOfMinima_65 : decode cX6_sumOfMinima 65 = .ok (.ireturn, 1) := by decide +kernel
set_option maxRecDepth 20000 in
theorem ggX6_ranges_X6_isHeight : GoodIn wsX6_ranges wsX6_isHeight := goodIn_r _ [5] (by decide +kernel) (by decide +kernel)
set_option maxRecDepth 20000 in
theorem gX6_ranges_X6_isHeight : GoodIn wsX6_ranges (va_wsS RX6 59 yX6_isHeight wsX6_isHeight) := goodIn_app (goodIn_of _ (by decide +kernel)) ggX6_ranges_X6_isHeight
theorem dX6_ranges_0 : decode cX6_ranges 0 = .ok (.iload_n 1, 1) := by decide +kernel
theorem dX6_ranges_1 : decode cX6_ranges 1 = .ok (.invokestatic 59, 3) := by decide +kernel
theorem dX6_ranges_4 : decode cX6_ranges 4 = .ok (.ifCond .ne 5, 3) := by decide +kernel
theorem dX6_ranges_7 : decode cX6_ranges 7 = .ok (.iconst (-1), 1) := by decide +kernel
theorem dX6_ranges_8 : decode cX6_ranges 8 = .ok (.ireturn, 1) := by decide +kernel
theorem dX6_ranges_9 : decode cX6_ranges 9 = .ok (.iconst 0, 1) := by decide +kernel
theorem dX6_ranges_10 : decode cX6_ranges 10 = .ok (.istore_n 2, 1) := by decide +kernel
theorem dX6_ranges_11 : decode cX6_ranges 11 = .ok (.iconst 0, 1) := by decide +kernel
theorem dX6_ranges_12 : decode cX6_ranges 12 = .ok (.istore_n 3, 1) := by decide +kernel
theorem dX6_ranges_13 : decode cX6_ranges 13 = .ok (.iconst 0, 1) := by decide +kernel
theorem dX6_ranges_14 : decode cX6_ranges 14 = .ok (.istore 4, 2) := by decide +kernel
theorem dX6_ranges_16 : decode cX6_ranges 16 = .ok (.iload 4, 2) := by decide +kernel
theorem dX6_ranges_18 : decode cX6_ranges 18 = .ok (.aload_n 0, 1) := by decide +kernel
theorem dX6_ranges_19 : decode cX6_ranges 19 = .ok (.getfield 10, 3) := by decide +kernel
theorem dX6_ranges_22 : decode cX6_ranges 22 = .ok (.getfield 55, 3) := by decide +kernel
theorem dX6_ranges_25 : decode cX6_ranges 25 = .ok (.if_icmp .ge 35, 3) := by decide +kernel
theorem dX6_ranges_28 : decode cX6_ranges 28 = .ok (.aload_n 0, 1) := by decide +kernel
theorem dX6_ranges_29 : decode cX6_ranges 29 = .ok (.getfield 10, 3) := by decide +kernel
theorem dX6_ranges_32 : decode cX6_ranges 32 = .ok (.getfield 78, 3) := by decide +kernel
theorem dX6_ranges_35 : decode cX6_ranges 35 = .ok (.iload 4, 2) := by decide +kernel
theorem dX6_ranges_37 : decode cX6_ranges 37 = .ok (.iaload, 1) := by decide +kernel
theorem dX6_ranges_38 : decode cX6_ranges 38 = .ok (.iload_n 1, 1) := by decide +kernel
theorem dX6_ranges_39 : decode cX6_ranges 39 = .ok (.if_icmp .lt 9, 3) := by decide +kernel
theorem dX6_ranges_42 : decode cX6_ranges 42 = .ok (.iload_n 3, 1) := by decide +kernel
theorem dX6_ranges_43 : decode cX6_ranges 43 = .ok (.iconst 1, 1) := by decide +kernel
theorem dX6_ranges_44 : decode cX6_ranges 44 = .ok (.iadd, 1) := by decide +kernel
theorem dX6_ranges_45 : decode cX6_ranges 45 = .ok (.goto 4, 3) := by decide +kernel
theorem dX6_ranges_48 : decode cX6_ranges 48 = .ok (.iconst 0, 1) := by decide +kernel
theorem dX6_ranges_49 : decode cX6_ranges 49 = .ok (.istore_n 3, 1) := by decide +kernel
theorem dX6_ranges_50 : decode cX6_ranges 50 = .ok (.iload_n 2, 1) := by decide +kernel
theorem dX6_ranges_51 : decode cX6_ranges 51 = .ok (.iload_n 3, 1) := by decide +kernel
theorem dX6_ranges_52 : decode cX6_ranges 52 = .ok (.iadd, 1) := by decide +kernel
theorem dX6_ranges_53 : decode cX6_ranges 53 = .ok (.istore_n 2, 1) := by decide +kernel
theorem dX6_ranges_54 : decode cX6_ranges 54 = .ok (.iinc 4 1, 3) := by decide +kernel
theorem dX6_ranges_57 : decode cX6_ranges 57 = .ok (.goto (-41), 3) := by decide +kernel
theorem dX6_ranges_60 : decode cX6_ranges 60 = .ok (.iload_n 2, 1) := by decide +kernel
theorem dX6_ranges_61 : decode cX6_ranges 61 = .ok (.ireturn, 1) := by decide +kernel
set_option maxRecDepth 20000 in
theorem ggX6_keep_X6_isImage : GoodIn wsX6_keep wsX6_isImage := goodIn_r _ [9] (by decide +kernel) (by decide +kernel)
set_option maxRecDepth 20000 in
theorem gX6_keep_X6_isImage : GoodIn wsX6_keep (va_wsS RX6 209 yX6_isImage wsX6_isImage) := goodIn_app (goodIn_of _ (by decide +kernel)) ggX6_keep_X6_isImage
set_option maxRecDepth 20000 in
theorem ggX6_keep_X0_init : GoodIn wsX6_keep wsX0_init := goodIn_r _ [11, 12, 13, 14, 15, 16, 17, 33, 34] (by decide +kernel) (by decide +kernel)
set_option maxRecDepth 20000 in
theorem gX6_keep_X0_init_n9 : GoodIn wsX6_keep (wsX0_init) := ggX6_keep_X0_init
set_option maxRecDepth 20000 in
theorem ggX6_keep_X0_copyFrom : GoodIn wsX6_keep wsX0_copyFrom := goodIn_r _ [21, 16, 17, 22, 23, 24, 25, 33, 34] (by decide +kernel) (by decide +kernel)
set_option maxRecDepth 20000 in
theorem gX6_keep_X0_copyFrom : GoodIn wsX6_keep (wsV RX6 212 RX0 yX0_copyFrom wsX0_copyFrom) := goodIn_app (goodIn_of _ (by decide +kernel)) ggX6_keep_X0_copyFrom
theorem dX6_keep_0 : decode cX6_keep 0 = .ok (.iload_n 1, 1) := by decide +kernel
theorem dX6_keep_1 : decode cX6_keep 1 = .ok (.invokestatic 209, 3) := by decide +kernel
theorem dX6_keep_4 : decode cX6_keep 4 = .ok (.ifCond .ne 5, 3) := by decide +kernel
theorem dX6_keep_7 : decode cX6_keep 7 = .ok (.iconst (-1), 1) := by decide +kernel
theorem dX6_keep_8 : decode cX6_keep 8 = .ok (.ireturn, 1) := by decide +kernel
theorem dX6_keep_9 : decode cX6_keep 9 = .ok (.aload_n 0, 1) := by decide +kernel
theorem dX6_keep_10 : decode cX6_keep 10 = .ok (.getfield 23, 3) := by decide +kernel
theorem dX6_keep_13 : decode cX6_keep 13 = .ok (.iload_n 1, 1) := by decide +kernel
theorem dX6_keep_14 : decode cX6_keep 14 = .ok (.aaload, 1) := by decide +kernel
theorem dX6_keep_15 : decode cX6_keep 15 = .ok (.astore_n 2, 1) := by decide +kernel
theorem dX6_keep_16 : decode cX6_keep 16 = .ok (.aload_n 2, 1) := by decide +kernel
theorem dX6_keep_17 : decode cX6_keep 17 = .ok (.ifnonnull 18, 3) := by decide +kernel
theorem dX6_keep_20 : decode cX6_keep 20 = .ok (.new 7, 3) := by decide +kernel
theorem dX6_keep_23 : decode cX6_keep 23 = .ok (.dup, 1) := by decide +kernel
theorem dX6_keep_24 : decode cX6_keep 24 = .ok (.invokespecial 9, 3) := by decide +kernel
theorem dX6_keep_27 : decode cX6_keep 27 = .ok (.astore_n 2, 1) := by decide +kernel
theorem dX6_keep_28 : decode cX6_keep 28 = .ok (.aload_n 0, 1) := by decide +kernel
theorem dX6_keep_29 : decode cX6_keep 29 = .ok (.getfield 23, 3) := by decide +kernel
theorem dX6_keep_32 : decode cX6_keep 32 = .ok (.iload_n 1, 1) := by decide +kernel
theorem dX6_keep_33 : decode cX6_keep 33 = .ok (.aload_n 2, 1) := by decide +kernel
theorem dX6_keep_34 : decode cX6_keep 34 = .ok (.aastore, 1) := by decide +kernel
theorem dX6_keep_35 : decode cX6_keep 35 = .ok (.aload_n 2, 1) := by decide +kernel
theorem dX6_keep_36 : decode cX6_keep 36 = .ok (.aload_n 0, 1) := by decide +kernel
theorem dX6_keep_37 : decode cX6_keep 37 = .ok (.getfield 10, 3) := by decide +kernel
theorem dX6_keep_40 : decode cX6_keep 40 = .ok (.invokevirtual 212, 3) := by decide +kernel
theorem dX6_keep_43 : decode cX6_keep 43 = .ok (.aload_n 0, 1) := by decide +kernel
theorem dX6_keep_44 : decode cX6_keep 44 = .ok (.getfield 10, 3) := by decide +kernel
theorem dX6_keep_47 : decode cX6_keep 47 = .ok (.getfield 55, 3) := by decide +kernel
theorem dX6_keep_50 : decode cX6_keep 50 = .ok (.ireturn, 1) := by decide +kernel
set_option maxRecDepth 20000 in
theorem ggX6_back_X6_isImage : GoodIn wsX6_back wsX6_isImage := goodIn_r _ [7] (by decide +kernel) (by decide +kernel)
set_option maxRecDepth 20000 in
theorem gX6_back_X6_isImage : GoodIn wsX6_back (va_wsS RX6 209 yX6_isImage wsX6_isImage) := goodIn_app (goodIn_of _ (by decide +kernel)) ggX6_back_X6_isImage
set_option maxRecDepth 20000 in
theorem ggX6_back_X1_remember : GoodIn wsX6_back wsX1_remember := goodIn_r _ [12, 13, 14, 15, 16, 17, 11, 18, 19, 20, 21, 22, 23, 24, 25, 26, 27, 28, 29, 40, 41, 38, 39] (by decide +kernel) (by decide +kernel)
set_option maxRecDepth 20000 in
theorem gX6_back_X1_remember : GoodIn wsX6_back (wsV RX6 63 RX1 yX1_remember wsX1_remember) := goodIn_app (goodIn_of _ (by decide +kernel)) ggX6_back_X1_remember
set_option maxRecDepth 20000 in
theorem ggX6_back_X0_copyFrom : GoodIn wsX6_back wsX0_copyFrom := goodIn_r _ [23, 24, 25, 26, 27, 28, 29, 38, 39] (by decide +kernel) (by decide +kernel)
set_option maxRecDepth 20000 in
theorem gX6_back_X0_copyFrom : GoodIn wsX6_back (wsV RX6 212 RX0 yX0_copyFrom wsX0_copyFrom) := goodIn_app (goodIn_of _ (by decide +kernel)) ggX6_back_X0_copyFrom
theorem dX6_back_0 : decode cX6_back 0 = .ok (.iload_n 1, 1) := by decide +kernel
theorem dX6_back_1 : decode cX6_back 1 = .ok (.invokestatic 209, 3) := by decide +kernel
theorem dX6_back_4 : decode cX6_back 4 = .ok (.ifCond .ne 5, 3) := by decide +kernel
theorem dX6_back_7 : decode cX6_back 7 = .ok (.iconst (-1), 1) := by decide +kernel
theorem dX6_back_8 : decode cX6_back 8 = .ok (.ireturn, 1) := by decide +kernel
theorem dX6_back_9 : decode cX6_back 9 = .ok (.aload_n 0, 1) := by decide +kernel
theorem dX6_back_10 : decode cX6_back 10 = .ok (.getfield 23, 3) := by decide +kernel
theorem dX6_back_13 : decode cX6_back 13 = .ok (.iload_n 1, 1) := by decide +kernel
theorem dX6_back_14 : decode cX6_back 14 = .ok (.aaload, 1) := by decide +kernel
theorem dX6_back_15 : decode cX6_back 15 = .ok (.astore_n 2, 1) := by decide +kernel
theorem dX6_back_16 : decode cX6_back 16 = .ok (.aload_n 2, 1) := by decide +kernel
theorem dX6_back_17 : decode cX6_back 17 = .ok (.ifnonnull 6, 3) := by decide +kernel
theorem dX6_back_20 : decode cX6_back 20 = .ok (.bipush (-2), 2) := by decide +kernel
theorem dX6_back_22 : decode cX6_back 22 = .ok (.ireturn, 1) := by decide +kernel
theorem dX6_back_23 : decode cX6_back 23 = .ok (.aload_n 0, 1) := by decide +kernel
theorem dX6_back_24 : decode cX6_back 24 = .ok (.getfield 19, 3) := by decide +kernel
theorem dX6_back_27 : decode cX6_back 27 = .ok (.aload_n 0, 1) := by decide +kernel
theorem dX6_back_28 : decode cX6_back 28 = .ok (.getfield 10, 3) := by decide +kernel
theorem dX6_back_31 : decode cX6_back 31 = .ok (.invokevirtual 63, 3) := by decide +kernel
theorem dX6_back_34 : decode cX6_back 34 = .ok (.aload_n 0, 1) := by decide +kernel
theorem dX6_back_35 : decode cX6_back 35 = .ok (.getfield 10, 3) := by decide +kernel
theorem dX6_back_38 : decode cX6_back 38 = .ok (.aload_n 2, 1) := by decide +kernel
theorem dX6_back_39 : decode cX6_back 39 = .ok (.invokevirtual 212, 3) := by decide +kernel
theorem dX6_back_42 : decode cX6_back 42 = .ok (.aload_n 0, 1) := by decide +kernel
theorem dX6_back_43 : decode cX6_back 43 = .ok (.getfield 10, 3) := by decide +kernel
theorem dX6_back_46 : decode cX6_back 46 = .ok (.getfield 55, 3) := by decide +kernel
theorem dX6_back_49 : decode cX6_back 49 = .ok (.ireturn, 1) := by decide +kernel
set_option maxRecDepth 20000 in
theorem ggX6_parting_X6_isImage : GoodIn wsX6_parting wsX6_isImage := goodIn_r _ [6] (by decide +kernel) (by decide +kernel)
set_option maxRecDepth 20000 in
theorem gX6_parting_X6_isImage : GoodIn wsX6_parting (va_wsS RX6 209 yX6_isImage wsX6_isImage) := goodIn_app (goodIn_of _ (by decide +kernel)) ggX6_parting_X6_isImage
set_option maxRecDepth 20000 in
theorem ggX6_parting_X0_firstDifference : GoodIn wsX6_parting wsX0_firstDifference := goodIn_r _ [11, 12, 13, 14, 15, 16, 17, 25, 26] (by decide +kernel) (by decide +kernel)
set_option maxRecDepth 20000 in
theorem gX6_parting_X0_firstDifference : GoodIn wsX6_parting (wsV RX6 215 RX0 yX0_firstDifference wsX0_firstDifference) := goodIn_app (goodIn_of _ (by decide +kernel)) ggX6_parting_X0_firstDifference
theorem dX6_parting_0 : decode cX6_parting 0 = .ok (.iload_n 1, 1) := by decide +kernel
theorem dX6_parting_1 : decode cX6_parting 1 = .ok (.invokestatic 209, 3) := by decide +kernel
theorem dX6_parting_4 : decode cX6_parting 4 = .ok (.ifCond .ne 5, 3) := by decide +kernel
theorem dX6_parting_7 : decode cX6_parting 7 = .ok (.iconst (-1), 1) := by decide +kernel
theorem dX6_parting_8 : decode cX6_parting 8 = .ok (.ireturn, 1) := by decide +kernel
theorem dX6_parting_9 : decode cX6_parting 9 = .ok (.aload_n 0, 1) := by decide +kernel
theorem dX6_parting_10 : decode cX6_parting 10 = .ok (.getfield 23, 3) := by decide +kernel
theorem dX6_parting_13 : decode cX6_parting 13 = .ok (.iload_n 1, 1) := by decide +kernel
theorem dX6_parting_14 : decode cX6_parting 14 = .ok (.aaload, 1) := by decide +kernel
theorem dX6_parting_15 : decode cX6_parting 15 = .ok (.astore_n 2, 1) := by decide +kernel
theorem dX6_parting_16 : decode cX6_parting 16 = .ok (.aload_n 2, 1) := by decide +kernel
theorem dX6_parting_17 : decode cX6_parting 17 = .ok (.ifnonnull 6, 3) := by decide +kernel
theorem dX6_parting_20 : decode cX6_parting 20 = .ok (.bipush (-2), 2) := by decide +kernel
theorem dX6_parting_22 : decode cX6_parting 22 = .ok (.ireturn, 1) := by decide +kernel
theorem dX6_parting_23 : decode cX6_parting 23 = .ok (.aload_n 0, 1) := by decide +kernel
theorem dX6_parting_24 : decode cX6_parting 24 = .ok (.getfield 10, 3) := by decide +kernel
theorem dX6_parting_27 : decode cX6_parting 27 = .ok (.aload_n 2, 1) := by decide +kernel
theorem dX6_parting_28 : decode cX6_parting 28 = .ok (.invokevirtual 215, 3) := by decide +kernel
theorem dX6_parting_31 : decode cX6_parting 31 = .ok (.ireturn, 1) := by decide +kernel
theorem dX6_isHeight_0 : decode cX6_isHeight 0 = .ok (.iload_n 0, 1) := by decide +kernel
theorem dX6_isHeight_1 : decode cX6_isHeight 1 = .ok (.ifCond .lt 13, 3) := by decide +kernel
theorem dX6_isHeight_4 : decode cX6_isHeight 4 = .ok (.iload_n 0, 1) := by decide +kernel
theorem dX6_isHeight_5 : decode cX6_isHeight 5 = .ok (.bipush 50, 2) := by decide +kernel
theorem dX6_isHeight_7 : decode cX6_isHeight 7 = .ok (.if_icmp .gt 7, 3) := by decide +kernel
theorem dX6_isHeight_10 : decode cX6_isHeight 10 = .ok (.iconst 1, 1) := by decide +kernel
theorem dX6_isHeight_11 : decode cX6_isHeight 11 = .ok (.goto 4, 3) := by decide +kernel
theorem dX6_isHeight_14 : decode cX6_isHeight 14 = .ok (.iconst 0, 1) := by decide +kernel
theorem dX6_isHeight_15 : decode cX6_isHeight 15 = .ok (.ireturn, 1) := by decide +kernel
theorem dX6_isImage_0 : decode cX6_isImage 0 = .ok (.iload_n 0, 1) := by decide +kernel
theorem dX6_isImage_1 : decode cX6_isImage 1 = .ok (.ifCond .lt 12, 3) := by decide +kernel
theorem dX6_isImage_4 : decode cX6_isImage 4 = .ok (.iload_n 0, 1) := by decide +kernel
theorem dX6_isImage_5 : decode cX6_isImage 5 = .ok (.iconst 2, 1) := by decide +kernel
theorem dX6_isImage_6 : decode cX6_isImage 6 = .ok (.if_icmp .ge 7, 3) := by decide +kernel
theorem dX6_isImage_9 : decode cX6_isImage 9 = .ok (.iconst 1, 1) := by decide +kernel
theorem dX6_isImage_10 : decode cX6_isImage 10 = .ok (.goto 4, 3) := by decide +kernel
theorem dX6_isImage_13 : decode cX6_isImage 13 = .ok (.iconst 0, 1) := by decide +kernel
theorem dX6_isImage_14 : decode cX6_isImage 14 = .ok (.ireturn, 1) := by decide +kernel
set_option maxRecDepth 20000 in
theorem ggX6_pourAll_X5_pour : GoodIn wsX6_pourAll wsX5_pour := goodIn_r _ [7, 8, 9, 10, 11, 12, 13, 14, 15, 25] (by decide +kernel) (by decide +kernel)
set_option maxRecDepth 20000 in
theorem gX6_pourAll_X5_pour : GoodIn wsX6_pourAll (wsV RX6 203 RX5 yX5_pour wsX5_pour) := goodIn_app (goodIn_of _ (by decide +kernel)) ggX6_pourAll_X5_pour
theorem dX6_pourAll_0 : decode cX6_pourAll 0 = .ok (.aload_n 0, 1) := by decide +kernel
theorem dX6_pourAll_1 : decode cX6_pourAll 1 = .ok (.getfield 30, 3) := by decide +kernel
theorem dX6_pourAll_4 : decode cX6_pourAll 4 = .ok (.aload_n 0, 1) := by decide +kernel
theorem dX6_pourAll_5 : decode cX6_pourAll 5 = .ok (.getfield 10, 3) := by decide +kernel
theorem dX6_pourAll_8 : decode cX6_pourAll 8 = .ok (.getfield 78, 3) := by decide +kernel
theorem dX6_pourAll_11 : decode cX6_pourAll 11 = .ok (.iconst 0, 1) := by decide +kernel
theorem dX6_pourAll_12 : decode cX6_pourAll 12 = .ok (.aload_n 0, 1) := by decide +kernel
theorem dX6_pourAll_13 : decode cX6_pourAll 13 = .ok (.getfield 10, 3) := by decide +kernel
theorem dX6_pourAll_16 : decode cX6_pourAll 16 = .ok (.getfield 55, 3) := by decide +kernel
theorem dX6_pourAll_19 : decode cX6_pourAll 19 = .ok (.iconst 1, 1) := by decide +kernel
theorem dX6_pourAll_20 : decode cX6_pourAll 20 = .ok (.isub, 1) := by decide +kernel
theorem dX6_pourAll_21 : decode cX6_pourAll 21 = .ok (.invokevirtual 203, 3) := by decide +kernel
theorem dX6_pourAll_24 : decode cX6_pourAll 24 = .ok (.ireturn, 1) := by decide +kernel
set_option maxRecDepth 20000 in
theorem ggX6_countPools_X6_pourAll : GoodIn wsX6_countPools wsX6_pourAll := goodIn_r _ [7, 1, 2, 8, 9, 10, 11, 12, 13, 14, 15, 16, 17, 18, 19, 20, 29, 30, 31, 32, 33, 34, 35, 36, 37, 38] (by decide +kernel) (by decide +kernel)
set_option maxRecDepth 20000 in
theorem gX6_countPools_X6_pourAll : GoodIn wsX6_countPools (wsV RX6 98 RX6 yX6_pourAll wsX6_pourAll) := goodIn_app (goodIn_of _ (by decide +kernel)) ggX6_countPools_X6_pourAll
set_option maxRecDepth 20000 in
theorem ggX6_countPools_X5_poolCount : GoodIn wsX6_countPools wsX5_poolCount := goodIn_r _ [24, 25, 26, 27, 11, 28, 17, 38] (by decide +kernel) (by decide +kernel)
set_option maxRecDepth 20000 in
theorem gX6_countPools_X5_poolCount : GoodIn wsX6_countPools (wsV RX6 218 RX5 yX5_poolCount wsX5_poolCount) := goodIn_app (goodIn_of _ (by decide +kernel)) ggX6_countPools_X5_poolCount
theorem dX6_countPools_0 : decode cX6_countPools 0 = .ok (.aload_n 0, 1) := by decide +kernel
theorem dX6_countPools_1 : decode cX6_countPools 1 = .ok (.invokevirtual 98, 3) := by decide +kernel
theorem dX6_countPools_4 : decode cX6_countPools 4 = .ok (.pop, 1) := by decide +kernel
theorem dX6_countPools_5 : decode cX6_countPools 5 = .ok (.aload_n 0, 1) := by decide +kernel
theorem dX6_countPools_6 : decode cX6_countPools 6 = .ok (.getfield 30, 3) := by decide +kernel
theorem dX6_countPools_9 : decode cX6_countPools 9 = .ok (.aload_n 0, 1) := by decide +kernel
theorem dX6_countPools_10 : decode cX6_countPools 10 = .ok (.getfield 10, 3) := by decide +kernel
theorem dX6_countPools_13 : decode cX6_countPools 13 = .ok (.getfield 55, 3) := by decide +kernel
theorem dX6_countPools_16 : decode cX6_countPools 16 = .ok (.invokevirtual 218, 3) := by decide +kernel
theorem dX6_countPools_19 : decode cX6_countPools 19 = .ok (.ireturn, 1) := by decide +kernel
set_option maxRecDepth 20000 in
theorem ggX6_depthOfWater_X6_pourAll : GoodIn wsX6_depthOfWater wsX6_pourAll := goodIn_r _ [6, 1, 7, 8, 9, 10, 11, 12, 13, 14, 15, 16, 17, 18, 19, 20, 21, 22, 23, 24, 25, 26, 27, 29, 30, 28] (by decide +kernel) (by decide +kernel)
set_option maxRecDepth 20000 in
theorem gX6_depthOfWater_X6_pourAll : GoodIn wsX6_depthOfWater (wsV RX6 98 RX6 yX6_pourAll wsX6_pourAll) := goodIn_app (goodIn_of _ (by decide +kernel)) ggX6_depthOfWater_X6_pourAll
theorem dX6_depthOfWater_0 : decode cX6_depthOfWater 0 = .ok (.aload_n 0, 1) := by decide +kernel
theorem dX6_depthOfWater_1 : decode cX6_depthOfWater 1 = .ok (.invokevirtual 98, 3) := by decide +kernel
theorem dX6_depthOfWater_4 : decode cX6_depthOfWater 4 = .ok (.pop, 1) := by decide +kernel
theorem dX6_depthOfWater_5 : decode cX6_depthOfWater 5 = .ok (.aload_n 0, 1) := by decide +kernel
theorem dX6_depthOfWater_6 : decode cX6_depthOfWater 6 = .ok (.getfield 30, 3) := by decide +kernel
theorem dX6_depthOfWater_9 : decode cX6_depthOfWater 9 = .ok (.getfield 102, 3) := by decide +kernel
theorem dX6_depthOfWater_12 : decode cX6_depthOfWater 12 = .ok (.iload_n 1, 1) := by decide +kernel
theorem dX6_depthOfWater_13 : decode cX6_depthOfWater 13 = .ok (.iaload, 1) := by decide +kernel
theorem dX6_depthOfWater_14 : decode cX6_depthOfWater 14 = .ok (.ireturn, 1) := by decide +kernel
set_option maxRecDepth 20000 in
theorem ggX6_waterWithDam_X6_pourAll : GoodIn wsX6_waterWithDam wsX6_pourAll := goodIn_r _ [10, 11, 1, 12, 13, 14, 15, 16, 17, 18, 4, 19, 20, 21, 3, 5, 22, 23, 24, 25, 26, 27, 28, 29, 30, 31] (by decide +kernel) (by decide +kernel)
set_option maxRecDepth 20000 in
theorem gX6_waterWithDam_X6_pourAll : GoodIn wsX6_waterWithDam (wsV RX6 98 RX6 yX6_pourAll wsX6_pourAll) := goodIn_app (goodIn_of _ (by decide +kernel)) ggX6_waterWithDam_X6_pourAll
theorem dX6_waterWithDam_0 : decode cX6_waterWithDam 0 = .ok (.aload_n 0, 1) := by decide +kernel
theorem dX6_waterWithDam_1 : decode cX6_waterWithDam 1 = .ok (.getfield 10, 3) := by decide +kernel
theorem dX6_waterWithDam_4 : decode cX6_waterWithDam 4 = .ok (.getfield 78, 3) := by decide +kernel
theorem dX6_waterWithDam_7 : decode cX6_waterWithDam 7 = .ok (.iload_n 1, 1) := by decide +kernel
theorem dX6_waterWithDam_8 : decode cX6_waterWithDam 8 = .ok (.iaload, 1) := by decide +kernel
theorem dX6_waterWithDam_9 : decode cX6_waterWithDam 9 = .ok (.istore_n 3, 1) := by decide +kernel
theorem dX6_waterWithDam_10 : decode cX6_waterWithDam 10 = .ok (.aload_n 0, 1) := by decide +kernel
theorem dX6_waterWithDam_11 : decode cX6_waterWithDam 11 = .ok (.getfield 10, 3) := by decide +kernel
theorem dX6_waterWithDam_14 : decode cX6_waterWithDam 14 = .ok (.getfield 78, 3) := by decide +kernel
theorem dX6_waterWithDam_17 : decode cX6_waterWithDam 17 = .ok (.iload_n 1, 1) := by decide +kernel
theorem dX6_waterWithDam_18 : decode cX6_waterWithDam 18 = .ok (.iload_n 3, 1) := by decide +kernel
theorem dX6_waterWithDam_19 : decode cX6_waterWithDam 19 = .ok (.iload_n 2, 1) := by decide +kernel
theorem dX6_waterWithDam_20 : decode cX6_waterWithDam 20 = .ok (.iadd, 1) := by decide +kernel
theorem dX6_waterWithDam_21 : decode cX6_waterWithDam 21 = .ok (.bipush 50, 2) := by decide +kernel
theorem dX6_waterWithDam_23 : decode cX6_waterWithDam 23 = .ok (.invokestatic 192, 3) := by decide +kernel
theorem dX6_waterWithDam_26 : decode cX6_waterWithDam 26 = .ok (.iastore, 1) := by decide +kernel
theorem dX6_waterWithDam_27 : decode cX6_waterWithDam 27 = .ok (.aload_n 0, 1) := by decide +kernel
theorem dX6_waterWithDam_28 : decode cX6_waterWithDam 28 = .ok (.invokevirtual 98, 3) := by decide +kernel
theorem dX6_waterWithDam_31 : decode cX6_waterWithDam 31 = .ok (.istore 4, 2) := by decide +kernel
theorem dX6_waterWithDam_33 : decode cX6_waterWithDam 33 = .ok (.aload_n 0, 1) := by decide +kernel
theorem dX6_waterWithDam_34 : decode cX6_waterWithDam 34 = .ok (.getfield 10, 3) := by decide +kernel
theorem dX6_waterWithDam_37 : decode cX6_waterWithDam 37 = .ok (.getfield 78, 3) := by decide +kernel
theorem dX6_waterWithDam_40 : decode cX6_waterWithDam 40 = .ok (.iload_n 1, 1) := by decide +kernel
theorem dX6_waterWithDam_41 : decode cX6_waterWithDam 41 = .ok (.iload_n 3, 1) := by decide +kernel
theorem dX6_waterWithDam_42 : decode cX6_waterWithDam 42 = .ok (.iastore, 1) := by decide +kernel
theorem dX6_waterWithDam_43 : decode cX6_waterWithDam 43 = .ok (.iload 4, 2) := by decide +kernel
theorem dX6_waterWithDam_45 : decode cX6_waterWithDam 45 = .ok (.ireturn, 1) := by decide +kernel
set_option maxRecDepth 20000 in
theorem ggX6_countRectangles_X3_find : GoodIn wsX6_countRectangles wsX3_find := goodIn_r _ [7, 8, 9, 10, 11, 6, 12, 13, 14, 15, 16, 17, 18, 19, 20, 21, 22, 23, 24, 25, 26, 27, 28, 38, 39, 40, 41, 42] (by decide +kernel) (by decide +kernel)
set_option maxRecDepth 20000 in
theorem gX6_countRectangles_X3_find : GoodIn wsX6_countRectangles (wsV RX6 177 RX3 yX3_find wsX3_find) := goodIn_app (goodIn_of _ (by decide +kernel)) ggX6_countRectangles_X3_find
theorem dX6_countRectangles_0 : decode cX6_countRectangles 0 = .ok (.aload_n 0, 1) := by decide +kernel
theorem dX6_countRectangles_1 : decode cX6_countRectangles 1 = .ok (.getfield 37, 3) := by decide +kernel
theorem dX6_countRectangles_4 : decode cX6_countRectangles 4 = .ok (.aload_n 0, 1) := by decide +kernel
theorem dX6_countRectangles_5 : decode cX6_countRectangles 5 = .ok (.getfield 10, 3) := by decide +kernel
theorem dX6_countRectangles_8 : decode cX6_countRectangles 8 = .ok (.getfield 78, 3) := by decide +kernel
theorem dX6_countRectangles_11 : decode cX6_countRectangles 11 = .ok (.iconst 0, 1) := by decide +kernel
theorem dX6_countRectangles_12 : decode cX6_countRectangles 12 = .ok (.aload_n 0, 1) := by decide +kernel
theorem dX6_countRectangles_13 : decode cX6_countRectangles 13 = .ok (.getfield 10, 3) := by decide +kernel
theorem dX6_countRectangles_16 : decode cX6_countRectangles 16 = .ok (.getfield 55, 3) := by decide +kernel
theorem dX6_countRectangles_19 : decode cX6_countRectangles 19 = .ok (.iconst 1, 1) := by decide +kernel
theorem dX6_countRectangles_20 : decode cX6_countRectangles 20 = .ok (.isub, 1) := by decide +kernel
theorem dX6_countRectangles_21 : decode cX6_countRectangles 21 = .ok (.invokevirtual 177, 3) := by decide +kernel
theorem dX6_countRectangles_24 : decode cX6_countRectangles 24 = .ok (.aload_n 0, 1) := by decide +kernel
theorem dX6_countRectangles_25 : decode cX6_countRectangles 25 = .ok (.getfield 37, 3) := by decide +kernel
theorem dX6_countRectangles_28 : decode cX6_countRectangles 28 = .ok (.getfield 181, 3) := by decide +kernel
theorem dX6_countRectangles_31 : decode cX6_countRectangles 31 = .ok (.ireturn, 1) := by decide +kernel
set_option maxRecDepth 20000 in
theorem ggX6_largestRectangle_X3_find : GoodIn wsX6_largestRectangle wsX3_find := goodIn_r _ [7, 8, 9, 10, 11, 6, 12, 13, 14, 15, 16, 17, 18, 19, 20, 21, 22, 23, 24, 25, 26, 27, 28, 42, 43, 44, 45, 46] (by decide +kernel) (by decide +kernel)
set_option maxRecDepth 20000 in
theorem gX6_largestRectangle_X3_find : GoodIn wsX6_largestRectangle (wsV RX6 177 RX3 yX3_find wsX3_find) := goodIn_app (goodIn_of _ (by decide +kernel)) ggX6_largestRectangle_X3_find
set_option maxRecDepth 20000 in
theorem ggX6_largestRectangle_X3_property : GoodIn wsX6_largestRectangle wsX3_property := goodIn_r _ [32, 17, 18, 19, 25, 26, 27, 6, 28, 42, 43, 44, 45, 46] (by decide +kernel) (by decide +kernel)
set_option maxRecDepth 20000 in
theorem gX6_largestRectangle_X3_property : GoodIn wsX6_largestRectangle (wsV RX6 189 RX3 yX3_property wsX3_property) := goodIn_app (goodIn_of _ (by decide +kernel)) ggX6_largestRectangle_X3_property
theorem dX6_largestRectangle_0 : decode cX6_largestRectangle 0 = .ok (.aload_n 0, 1) := by decide +kernel
theorem dX6_largestRectangle_1 : decode cX6_largestRectangle 1 = .ok (.getfield 37, 3) := by decide +kernel
theorem dX6_largestRectangle_4 : decode cX6_largestRectangle 4 = .ok (.aload_n 0, 1) := by decide +kernel
theorem dX6_largestRectangle_5 : decode cX6_largestRectangle 5 = .ok (.getfield 10, 3) := by decide +kernel
theorem dX6_largestRectangle_8 : decode cX6_largestRectangle 8 = .ok (.getfield 78, 3) := by decide +kernel
theorem dX6_largestRectangle_11 : decode cX6_largestRectangle 11 = .ok (.iload_n 1, 1) := by decide +kernel
theorem dX6_largestRectangle_12 : decode cX6_largestRectangle 12 = .ok (.iload_n 2, 1) := by decide +kernel
theorem dX6_largestRectangle_13 : decode cX6_largestRectangle 13 = .ok (.invokevirtual 177, 3) := by decide +kernel
theorem dX6_largestRectangle_16 : decode cX6_largestRectangle 16 = .ok (.aload_n 0, 1) := by decide +kernel
theorem dX6_largestRectangle_17 : decode cX6_largestRectangle 17 = .ok (.getfield 37, 3) := by decide +kernel
theorem dX6_largestRectangle_20 : decode cX6_largestRectangle 20 = .ok (.getfield 181, 3) := by decide +kernel
theorem dX6_largestRectangle_23 : decode cX6_largestRectangle 23 = .ok (.ifCond .ne 14, 3) := by decide +kernel
theorem dX6_largestRectangle_26 : decode cX6_largestRectangle 26 = .ok (.iload_n 3, 1) := by decide +kernel
theorem dX6_largestRectangle_27 : decode cX6_largestRectangle 27 = .ok (.ifCond .ne 7, 3) := by decide +kernel
theorem dX6_largestRectangle_30 : decode cX6_largestRectangle 30 = .ok (.iconst 0, 1) := by decide +kernel
theorem dX6_largestRectangle_31 : decode cX6_largestRectangle 31 = .ok (.goto 5, 3) := by decide +kernel
theorem dX6_largestRectangle_34 : decode cX6_largestRectangle 34 = .ok (.bipush (-9), 2) := by decide +kernel
theorem dX6_largestRectangle_36 : decode cX6_largestRectangle 36 = .ok (.ireturn, 1) := by decide +kernel
theorem dX6_largestRectangle_37 : decode cX6_largestRectangle 37 = .ok (.aload_n 0, 1) := by decide +kernel
theorem dX6_largestRectangle_38 : decode cX6_largestRectangle 38 = .ok (.getfield 37, 3) := by decide +kernel
theorem dX6_largestRectangle_41 : decode cX6_largestRectangle 41 = .ok (.iconst 0, 1) := by decide +kernel
theorem dX6_largestRectangle_42 : decode cX6_largestRectangle 42 = .ok (.iload_n 3, 1) := by decide +kernel
theorem dX6_largestRectangle_43 : decode cX6_largestRectangle 43 = .ok (.invokevirtual 189, 3) := by decide +kernel
theorem dX6_largestRectangle_46 : decode cX6_largestRectangle 46 = .ok (.ireturn, 1) := by decide +kernel
set_option maxRecDepth 20000 in
theorem ggX6_treeParent_X4_grow : GoodIn wsX6_treeParent wsX4_grow := goodIn_r _ [7, 8, 9, 19, 20, 17, 18] (by decide +kernel) (by decide +kernel)
set_option maxRecDepth 20000 in
theorem gX6_treeParent_X4_grow : GoodIn wsX6_treeParent (wsV RX6 221 RX4 yX4_grow wsX4_grow) := goodIn_app (goodIn_of _ (by decide +kernel)) ggX6_treeParent_X4_grow
theorem dX6_treeParent_0 : decode cX6_treeParent 0 = .ok (.aload_n 0, 1) := by decide +kernel
theorem dX6_treeParent_1 : decode cX6_treeParent 1 = .ok (.getfield 44, 3) := by decide +kernel
theorem dX6_treeParent_4 : decode cX6_treeParent 4 = .ok (.aload_n 0, 1) := by decide +kernel
theorem dX6_treeParent_5 : decode cX6_treeParent 5 = .ok (.getfield 10, 3) := by decide +kernel
theorem dX6_treeParent_8 : decode cX6_treeParent 8 = .ok (.invokevirtual 221, 3) := by decide +kernel
theorem dX6_treeParent_11 : decode cX6_treeParent 11 = .ok (.aload_n 0, 1) := by decide +kernel
theorem dX6_treeParent_12 : decode cX6_treeParent 12 = .ok (.getfield 44, 3) := by decide +kernel
theorem dX6_treeParent_15 : decode cX6_treeParent 15 = .ok (.getfield 224, 3) := by decide +kernel
theorem dX6_treeParent_18 : decode cX6_treeParent 18 = .ok (.iload_n 1, 1) := by decide +kernel
theorem dX6_treeParent_19 : decode cX6_treeParent 19 = .ok (.iaload, 1) := by decide +kernel
theorem dX6_treeParent_20 : decode cX6_treeParent 20 = .ok (.ireturn, 1) := by decide +kernel
set_option maxRecDepth 20000 in
theorem ggX6_treeDepth_X4_grow : GoodIn wsX6_treeDepth wsX4_grow := goodIn_r _ [7, 8, 9, 21, 22, 23, 24] (by decide +kernel) (by decide +kernel)
set_option maxRecDepth 20000 in
theorem gX6_treeDepth_X4_grow : GoodIn wsX6_treeDepth (wsV RX6 221 RX4 yX4_grow wsX4_grow) := goodIn_app (goodIn_of _ (by decide +kernel)) ggX6_treeDepth_X4_grow
set_option maxRecDepth 20000 in
theorem ggX6_treeDepth_X4_depthOf : GoodIn wsX6_treeDepth wsX4_depthOf := goodIn_r _ [13, 9, 23, 24] (by decide +kernel) (by decide +kernel)
set_option maxRecDepth 20000 in
theorem gX6_treeDepth_X4_depthOf : GoodIn wsX6_treeDepth (wsV RX6 227 RX4 yX4_depthOf wsX4_depthOf) := goodIn_app (goodIn_of _ (by decide +kernel)) ggX6_treeDepth_X4_depthOf
theorem dX6_treeDepth_0 : decode cX6_treeDepth 0 = .ok (.aload_n 0, 1) := by decide +kernel
theorem dX6_treeDepth_1 : decode cX6_treeDepth 1 = .ok (.getfield 44, 3) := by decide +kernel
theorem dX6_treeDepth_4 : decode cX6_treeDepth 4 = .ok (.aload_n 0, 1) := by decide +kernel
theorem dX6_treeDepth_5 : decode cX6_treeDepth 5 = .ok (.getfield 10, 3) := by decide +kernel
theorem dX6_treeDepth_8 : decode cX6_treeDepth 8 = .ok (.invokevirtual 221, 3) := by decide +kernel
theorem dX6_treeDepth_11 : decode cX6_treeDepth 11 = .ok (.aload_n 0, 1) := by decide +kernel
theorem dX6_treeDepth_12 : decode cX6_treeDepth 12 = .ok (.getfield 44, 3) := by decide +kernel
theorem dX6_treeDepth_15 : decode cX6_treeDepth 15 = .ok (.iload_n 1, 1) := by decide +kernel
theorem dX6_treeDepth_16 : decode cX6_treeDepth 16 = .ok (.invokevirtual 227, 3) := by decide +kernel
theorem dX6_treeDepth_19 : decode cX6_treeDepth 19 = .ok (.ireturn, 1) := by decide +kernel
set_option maxRecDepth 20000 in
theorem ggX6_greatestTreeDepth_X4_grow : GoodIn wsX6_greatestTreeDepth wsX4_grow := goodIn_r _ [11, 12, 13, 25, 26, 27, 28] (by decide +kernel) (by decide +kernel)
set_option maxRecDepth 20000 in
theorem gX6_greatestTreeDepth_X4_grow : GoodIn wsX6_greatestTreeDepth (wsV RX6 221 RX4 yX4_grow wsX4_grow) := goodIn_app (goodIn_of _ (by decide +kernel)) ggX6_greatestTreeDepth_X4_grow
set_option maxRecDepth 20000 in
theorem ggX6_greatestTreeDepth_X4_depthOf : GoodIn wsX6_greatestTreeDepth wsX4_depthOf := goodIn_r _ [17, 13, 27, 28] (by decide +kernel) (by decide +kernel)
set_option maxRecDepth 20000 in
theorem gX6_greatestTreeDepth_X4_depthOf : GoodIn wsX6_greatestTreeDepth (wsV RX6 227 RX4 yX4_depthOf wsX4_depthOf) := goodIn_app (goodIn_of _ (by decide +kernel)) ggX6_greatestTreeDepth_X4_depthOf
theorem dX6_greatestTreeDepth_0 : decode cX6_greatestTreeDepth 0 = .ok (.aload_n 0, 1) := by decide +kernel
theorem dX6_greatestTreeDepth_1 : decode cX6_greatestTreeDepth 1 = .ok (.getfield 44, 3) := by decide +kernel
theorem dX6_greatestTreeDepth_4 : decode cX6_greatestTreeDepth 4 = .ok (.aload_n 0, 1) := by decide +kernel
theorem dX6_greatestTreeDepth_5 : decode cX6_greatestTreeDepth 5 = .ok (.getfield 10, 3) := by decide +kernel
theorem dX6_greatestTreeDepth_8 : decode cX6_greatestTreeDepth 8 = .ok (.invokevirtual 221, 3) := by decide +kernel
theorem dX6_greatestTreeDepth_11 : decode cX6_greatestTreeDepth 11 = .ok (.bipush (-9), 2) := by decide +kernel
theorem dX6_greatestTreeDepth_13 : decode cX6_greatestTreeDepth 13 = .ok (.istore_n 1, 1) := by decide +kernel
theorem dX6_greatestTreeDepth_14 : decode cX6_greatestTreeDepth 14 = .ok (.iconst 0, 1) := by decide +kernel
theorem dX6_greatestTreeDepth_15 : decode cX6_greatestTreeDepth 15 = .ok (.istore_n 2, 1) := by decide +kernel
theorem dX6_greatestTreeDepth_16 : decode cX6_greatestTreeDepth 16 = .ok (.iload_n 2, 1) := by decide +kernel
theorem dX6_greatestTreeDepth_17 : decode cX6_greatestTreeDepth 17 = .ok (.aload_n 0, 1) := by decide +kernel
theorem dX6_greatestTreeDepth_18 : decode cX6_greatestTreeDepth 18 = .ok (.getfield 10, 3) := by decide +kernel
theorem dX6_greatestTreeDepth_21 : decode cX6_greatestTreeDepth 21 = .ok (.getfield 55, 3) := by decide +kernel
theorem dX6_greatestTreeDepth_24 : decode cX6_greatestTreeDepth 24 = .ok (.if_icmp .ge 22, 3) := by decide +kernel
theorem dX6_greatestTreeDepth_27 : decode cX6_greatestTreeDepth 27 = .ok (.iload_n 1, 1) := by decide +kernel
theorem dX6_greatestTreeDepth_28 : decode cX6_greatestTreeDepth 28 = .ok (.aload_n 0, 1) := by decide +kernel
theorem dX6_greatestTreeDepth_29 : decode cX6_greatestTreeDepth 29 = .ok (.getfield 44, 3) := by decide +kernel
theorem dX6_greatestTreeDepth_32 : decode cX6_greatestTreeDepth 32 = .ok (.iload_n 2, 1) := by decide +kernel
theorem dX6_greatestTreeDepth_33 : decode cX6_greatestTreeDepth 33 = .ok (.invokevirtual 227, 3) := by decide +kernel
theorem dX6_greatestTreeDepth_36 : decode cX6_greatestTreeDepth 36 = .ok (.invokestatic 230, 3) := by decide +kernel
theorem dX6_greatestTreeDepth_39 : decode cX6_greatestTreeDepth 39 = .ok (.istore_n 1, 1) := by decide +kernel
theorem dX6_greatestTreeDepth_40 : decode cX6_greatestTreeDepth 40 = .ok (.iinc 2 1, 3) := by decide +kernel
theorem dX6_greatestTreeDepth_43 : decode cX6_greatestTreeDepth 43 = .ok (.goto (-27), 3) := by decide +kernel
theorem dX6_greatestTreeDepth_46 : decode cX6_greatestTreeDepth 46 = .ok (.iload_n 1, 1) := by decide +kernel
theorem dX6_greatestTreeDepth_47 : decode cX6_greatestTreeDepth 47 = .ok (.ireturn, 1) := by decide +kernel
theorem dX6_sumOf_0 : decode cX6_sumOf 0 = .ok (.iconst 0, 1) := by decide +kernel
theorem dX6_sumOf_1 : decode cX6_sumOf 1 = .ok (.istore_n 3, 1) := by decide +kernel
theorem dX6_sumOf_2 : decode cX6_sumOf 2 = .ok (.iload_n 1, 1) := by decide +kernel
theorem dX6_sumOf_3 : decode cX6_sumOf 3 = .ok (.istore 4, 2) := by decide +kernel
theorem dX6_sumOf_5 : decode cX6_sumOf 5 = .ok (.iload 4, 2) := by decide +kernel
theorem dX6_sumOf_7 : decode cX6_sumOf 7 = .ok (.iload_n 2, 1) := by decide +kernel
theorem dX6_sumOf_8 : decode cX6_sumOf 8 = .ok (.if_icmp .gt 16, 3) := by decide +kernel
theorem dX6_sumOf_11 : decode cX6_sumOf 11 = .ok (.iload_n 3, 1) := by decide +kernel
theorem dX6_sumOf_12 : decode cX6_sumOf 12 = .ok (.aload_n 0, 1) := by decide +kernel
theorem dX6_sumOf_13 : decode cX6_sumOf 13 = .ok (.iload 4, 2) := by decide +kernel
theorem dX6_sumOf_15 : decode cX6_sumOf 15 = .ok (.iaload, 1) := by decide +kernel
theorem dX6_sumOf_16 : decode cX6_sumOf 16 = .ok (.iadd, 1) := by decide +kernel
theorem dX6_sumOf_17 : decode cX6_sumOf 17 = .ok (.istore_n 3, 1) := by decide +kernel
theorem dX6_sumOf_18 : decode cX6_sumOf 18 = .ok (.iinc 4 1, 3) := by decide +kernel
theorem dX6_sumOf_21 : decode cX6_sumOf 21 = .ok (.goto (-16), 3) := by decide +kernel
theorem dX6_sumOf_24 : decode cX6_sumOf 24 = .ok (.iload_n 3, 1) := by decide +kernel
theorem dX6_sumOf_25 : decode cX6_sumOf 25 = .ok (.ireturn, 1) := by decide +kernel
theorem dX6_lowestLeast_0 : decode cX6_lowestLeast 0 = .ok (.iload_n 1, 1) := by decide +kernel
theorem dX6_lowestLeast_1 : decode cX6_lowestLeast 1 = .ok (.istore_n 3, 1) := by decide +kernel
theorem dX6_lowestLeast_2 : decode cX6_lowestLeast 2 = .ok (.iload_n 1, 1) := by decide +kernel
theorem dX6_lowestLeast_3 : decode cX6_lowestLeast 3 = .ok (.iconst 1, 1) := by decide +kernel
theorem dX6_lowestLeast_4 : decode cX6_lowestLeast 4 = .ok (.iadd, 1) := by decide +kernel
theorem dX6_lowestLeast_5 : decode cX6_lowestLeast 5 = .ok (.istore 4, 2) := by decide +kernel
theorem dX6_lowestLeast_7 : decode cX6_lowestLeast 7 = .ok (.iload 4, 2) := by decide +kernel
theorem dX6_lowestLeast_9 : decode cX6_lowestLeast 9 = .ok (.iload_n 2, 1) := by decide +kernel
theorem dX6_lowestLeast_10 : decode cX6_lowestLeast 10 = .ok (.if_icmp .gt 22, 3) := by decide +kernel
theorem dX6_lowestLeast_13 : decode cX6_lowestLeast 13 = .ok (.aload_n 0, 1) := by decide +kernel
theorem dX6_lowestLeast_14 : decode cX6_lowestLeast 14 = .ok (.iload 4, 2) := by decide +kernel
theorem dX6_lowestLeast_16 : decode cX6_lowestLeast 16 = .ok (.iaload, 1) := by decide +kernel
theorem dX6_lowestLeast_17 : decode cX6_lowestLeast 17 = .ok (.aload_n 0, 1) := by decide +kernel
theorem dX6_lowestLeast_18 : decode cX6_lowestLeast 18 = .ok (.iload_n 3, 1) := by decide +kernel
theorem dX6_lowestLeast_19 : decode cX6_lowestLeast 19 = .ok (.iaload, 1) := by decide +kernel
theorem dX6_lowestLeast_20 : decode cX6_lowestLeast 20 = .ok (.if_icmp .ge 6, 3) := by decide +kernel
theorem dX6_lowestLeast_23 : decode cX6_lowestLeast 23 = .ok (.iload 4, 2) := by decide +kernel
theorem dX6_lowestLeast_25 : decode cX6_lowestLeast 25 = .ok (.istore_n 3, 1) := by decide +kernel
theorem dX6_lowestLeast_26 : decode cX6_lowestLeast 26 = .ok (.iinc 4 1, 3) := by decide +kernel
theorem dX6_lowestLeast_29 : decode cX6_lowestLeast 29 = .ok (.goto (-22), 3) := by decide +kernel
theorem dX6_lowestLeast_32 : decode cX6_lowestLeast 32 = .ok (.iload_n 3, 1) := by decide +kernel
theorem dX6_lowestLeast_33 : decode cX6_lowestLeast 33 = .ok (.ireturn, 1) := by decide +kernel
theorem dX6_lowestGreatest_0 : decode cX6_lowestGreatest 0 = .ok (.iload_n 1, 1) := by decide +kernel
theorem dX6_lowestGreatest_1 : decode cX6_lowestGreatest 1 = .ok (.istore_n 3, 1) := by decide +kernel
theorem dX6_lowestGreatest_2 : decode cX6_lowestGreatest 2 = .ok (.iload_n 1, 1) := by decide +kernel
theorem dX6_lowestGreatest_3 : decode cX6_lowestGreatest 3 = .ok (.iconst 1, 1) := by decide +kernel
theorem dX6_lowestGreatest_4 : decode cX6_lowestGreatest 4 = .ok (.iadd, 1) := by decide +kernel
theorem dX6_lowestGreatest_5 : decode cX6_lowestGreatest 5 = .ok (.istore 4, 2) := by decide +kernel
theorem dX6_lowestGreatest_7 : decode cX6_lowestGreatest 7 = .ok (.iload 4, 2) := by decide +kernel
theorem dX6_lowestGreatest_9 : decode cX6_lowestGreatest 9 = .ok (.iload_n 2, 1) := by decide +kernel
theorem dX6_lowestGreatest_10 : decode cX6_lowestGreatest 10 = .ok (.if_icmp .gt 22, 3) := by decide +kernel
theorem dX6_lowestGreatest_13 : decode cX6_lowestGreatest 13 = .ok (.aload_n 0, 1) := by decide +kernel
theorem dX6_lowestGreatest_14 : decode cX6_lowestGreatest 14 = .ok (.iload 4, 2) := by decide +kernel
theorem dX6_lowestGreatest_16 : decode cX6_lowestGreatest 16 = .ok (.iaload, 1) := by decide +kernel
theorem dX6_lowestGreatest_17 : decode cX6_lowestGreatest 17 = .ok (.aload_n 0, 1) := by decide +kernel
theorem dX6_lowestGreatest_18 : decode cX6_lowestGreatest 18 = .ok (.iload_n 3, 1) := by decide +kernel
theorem dX6_lowestGreatest_19 : decode cX6_lowestGreatest 19 = .ok (.iaload, 1) := by decide +kernel
theorem dX6_lowestGreatest_20 : decode cX6_lowestGreatest 20 = .ok (.if_icmp .le 6, 3) := by decide +kernel
theorem dX6_lowestGreatest_23 : decode cX6_lowestGreatest 23 = .ok (.iload 4, 2) := by decide +kernel
theorem dX6_lowestGreatest_25 : decode cX6_lowestGreatest 25 = .ok (.istore_n 3, 1) := by decide +kernel
theorem dX6_lowestGreatest_26 : decode cX6_lowestGreatest 26 = .ok (.iinc 4 1, 3) := by decide +kernel
theorem dX6_lowestGreatest_29 : decode cX6_lowestGreatest 29 = .ok (.goto (-22), 3) := by decide +kernel
theorem dX6_lowestGreatest_32 : decode cX6_lowestGreatest 32 = .ok (.iload_n 3, 1) := by decide +kernel
theorem dX6_lowestGreatest_33 : decode cX6_lowestGreatest 33 = .ok (.ireturn, 1) := by decide +kernel
theorem dX7_init_0 : decode cX7_init 0 = .ok (.aload_n 0, 1) := by decide +kernel
theorem dX7_init_1 : decode cX7_init 1 = .ok (.invokespecial 1, 3) := by decide +kernel
theorem dX7_init_4 : decode cX7_init 4 = .ok (.aload_n 0, 1) := by decide +kernel
theorem dX7_init_5 : decode cX7_init 5 = .ok (.bipush 41, 2) := by decide +kernel
theorem dX7_init_7 : decode cX7_init 7 = .ok (.newarray .int, 2) := by decide +kernel
theorem dX7_init_9 : decode cX7_init 9 = .ok (.putfield 7, 3) := by decide +kernel
theorem dX7_init_12 : decode cX7_init 12 = .ok (.aload_n 0, 1) := by decide +kernel
theorem dX7_init_13 : decode cX7_init 13 = .ok (.sipush 328, 3) := by decide +kernel
theorem dX7_init_16 : decode cX7_init 16 = .ok (.newarray .int, 2) := by decide +kernel
theorem dX7_init_18 : decode cX7_init 18 = .ok (.putfield 13, 3) := by decide +kernel
theorem dX7_init_21 : decode cX7_init 21 = .ok (.aload_n 0, 1) := by decide +kernel
theorem dX7_init_22 : decode cX7_init 22 = .ok (.bipush 82, 2) := by decide +kernel
theorem dX7_init_24 : decode cX7_init 24 = .ok (.newarray .int, 2) := by decide +kernel
theorem dX7_init_26 : decode cX7_init 26 = .ok (.putfield 16, 3) := by decide +kernel
theorem dX7_init_29 : decode cX7_init 29 = .ok (.aload_n 0, 1) := by decide +kernel
theorem dX7_init_30 : decode cX7_init 30 = .ok (.bipush 40, 2) := by decide +kernel
theorem dX7_init_32 : decode cX7_init 32 = .ok (.newarray .int, 2) := by decide +kernel
theorem dX7_init_34 : decode cX7_init 34 = .ok (.putfield 19, 3) := by decide +kernel
theorem dX7_init_37 : decode cX7_init 37 = .ok (.aload_n 0, 1) := by decide +kernel
theorem dX7_init_38 : decode cX7_init 38 = .ok (.bipush 60, 2) := by decide +kernel
theorem dX7_init_40 : decode cX7_init 40 = .ok (.newarray .int, 2) := by decide +kernel
theorem dX7_init_42 : decode cX7_init 42 = .ok (.putfield 22, 3) := by decide +kernel
theorem dX7_init_45 : decode cX7_init 45 = .ok (.aload_n 0, 1) := by decide +kernel
theorem dX7_init_46 : decode cX7_init 46 = .ok (.bipush 60, 2) := by decide +kernel
theorem dX7_init_48 : decode cX7_init 48 = .ok (.newarray .int, 2) := by decide +kernel
theorem dX7_init_50 : decode cX7_init 50 = .ok (.putfield 25, 3) := by decide +kernel
theorem dX7_init_53 : decode cX7_init 53 = .ok (.aload_n 0, 1) := by decide +kernel
theorem dX7_init_54 : decode cX7_init 54 = .ok (.bipush 60, 2) := by decide +kernel
theorem dX7_init_56 : decode cX7_init 56 = .ok (.newarray .int, 2) := by decide +kernel
theorem dX7_init_58 : decode cX7_init 58 = .ok (.putfield 28, 3) := by decide +kernel
theorem dX7_init_61 : decode cX7_init 61 = .ok (.aload_n 0, 1) := by decide +kernel
theorem dX7_init_62 : decode cX7_init 62 = .ok (.bipush 41, 2) := by decide +kernel
theorem dX7_init_64 : decode cX7_init 64 = .ok (.newarray .int, 2) := by decide +kernel
theorem dX7_init_66 : decode cX7_init 66 = .ok (.putfield 31, 3) := by decide +kernel
theorem dX7_init_69 : decode cX7_init 69 = .ok (.aload_n 0, 1) := by decide +kernel
theorem dX7_init_70 : decode cX7_init 70 = .ok (.bipush 41, 2) := by decide +kernel
theorem dX7_init_72 : decode cX7_init 72 = .ok (.newarray .int, 2) := by decide +kernel
theorem dX7_init_74 : decode cX7_init 74 = .ok (.putfield 34, 3) := by decide +kernel
theorem dX7_init_77 : decode cX7_init 77 = .ok (.aload_n 0, 1) := by decide +kernel
theorem dX7_init_78 : decode cX7_init 78 = .ok (.getfield 7, 3) := by decide +kernel
theorem dX7_init_81 : decode cX7_init 81 = .ok (.bipush 40, 2) := by decide +kernel
theorem dX7_init_83 : decode cX7_init 83 = .ok (.iconst 0, 1) := by decide +kernel
theorem dX7_init_84 : decode cX7_init 84 = .ok (.iastore, 1) := by decide +kernel
theorem dX7_init_85 : decode cX7_init 85 = .ok (.return_, 1) := by decide +kernel
theorem dX7_isIn_0 : decode cX7_isIn 0 = .ok (.iload_n 0, 1) := by decide +kernel
theorem dX7_isIn_1 : decode cX7_isIn 1 = .ok (.iload_n 1, 1) := by decide +kernel
theorem dX7_isIn_2 : decode cX7_isIn 2 = .ok (.if_icmp .lt 12, 3) := by decide +kernel
theorem dX7_isIn_5 : decode cX7_isIn 5 = .ok (.iload_n 0, 1) := by decide +kernel
theorem dX7_isIn_6 : decode cX7_isIn 6 = .ok (.iload_n 2, 1) := by decide +kernel
theorem dX7_isIn_7 : decode cX7_isIn 7 = .ok (.if_icmp .gt 7, 3) := by decide +kernel
theorem dX7_isIn_10 : decode cX7_isIn 10 = .ok (.iconst 1, 1) := by decide +kernel
theorem dX7_isIn_11 : decode cX7_isIn 11 = .ok (.goto 4, 3) := by decide +kernel
theorem dX7_isIn_14 : decode cX7_isIn 14 = .ok (.iconst 0, 1) := by decide +kernel
theorem dX7_isIn_15 : decode cX7_isIn 15 = .ok (.ireturn, 1) := by decide +kernel
theorem dX7_many_0 : decode cX7_many 0 = .ok (.aload_n 0, 1) := by decide +kernel
theorem dX7_many_1 : decode cX7_many 1 = .ok (.getfield 7, 3) := by decide +kernel
theorem dX7_many_4 : decode cX7_many 4 = .ok (.bipush 40, 2) := by decide +kernel
theorem dX7_many_6 : decode cX7_many 6 = .ok (.iaload, 1) := by decide +kernel
theorem dX7_many_7 : decode cX7_many 7 = .ok (.ireturn, 1) := by decide +kernel
set_option maxRecDepth 20000 in
theorem ggX7_isColumn_X7_many : GoodIn wsX7_isColumn wsX7_many := goodIn_r _ [5, 6, 10, 11, 12, 13, 14, 15, 16, 17, 18, 19, 20, 21] (by decide +kernel) (by decide +kernel)
set_option maxRecDepth 20000 in
theorem gX7_isColumn_X7_many : GoodIn wsX7_isColumn (wsV RX7 37 RX7 yX7_many wsX7_many) := goodIn_app (goodIn_of _ (by decide +kernel)) ggX7_isColumn_X7_many
set_option maxRecDepth 20000 in
theorem ggX7_isColumn_X7_isIn : GoodIn wsX7_isColumn wsX7_isIn := goodIn_r _ [9] (by decide +kernel) (by decide +kernel)
set_option maxRecDepth 20000 in
theorem gX7_isColumn_X7_isIn : GoodIn wsX7_isColumn (va_wsS RX7 41 yX7_isIn wsX7_isIn) := goodIn_app (goodIn_of _ (by decide +kernel)) ggX7_isColumn_X7_isIn
theorem dX7_isColumn_0 : decode cX7_isColumn 0 = .ok (.iload_n 1, 1) := by decide +kernel
theorem dX7_isColumn_1 : decode cX7_isColumn 1 = .ok (.iconst 0, 1) := by decide +kernel
theorem dX7_isColumn_2 : decode cX7_isColumn 2 = .ok (.aload_n 0, 1) := by decide +kernel
theorem dX7_isColumn_3 : decode cX7_isColumn 3 = .ok (.invokevirtual 37, 3) := by decide +kernel
theorem dX7_isColumn_6 : decode cX7_isColumn 6 = .ok (.iconst 1, 1) := by decide +kernel
theorem dX7_isColumn_7 : decode cX7_isColumn 7 = .ok (.isub, 1) := by decide +kernel
theorem dX7_isColumn_8 : decode cX7_isColumn 8 = .ok (.invokestatic 41, 3) := by decide +kernel
theorem dX7_isColumn_11 : decode cX7_isColumn 11 = .ok (.ireturn, 1) := by decide +kernel
set_option maxRecDepth 20000 in
theorem ggX7_isRange_X7_isColumn : GoodIn wsX7_isRange wsX7_isColumn := goodIn_r _ [5, 6, 7, 8, 4, 9, 10, 11, 12, 13, 14, 15, 16, 17, 18, 19, 20, 21, 22, 23, 24, 25] (by decide +kernel) (by decide +kernel)
set_option maxRecDepth 20000 in
theorem gX7_isRange_X7_isColumn : GoodIn wsX7_isRange (wsV RX7 45 RX7 yX7_isColumn wsX7_isColumn) := goodIn_app (goodIn_of _ (by decide +kernel)) ggX7_isRange_X7_isColumn
theorem dX7_isRange_0 : decode cX7_isRange 0 = .ok (.aload_n 0, 1) := by decide +kernel
theorem dX7_isRange_1 : decode cX7_isRange 1 = .ok (.iload_n 1, 1) := by decide +kernel
theorem dX7_isRange_2 : decode cX7_isRange 2 = .ok (.invokevirtual 45, 3) := by decide +kernel
theorem dX7_isRange_5 : decode cX7_isRange 5 = .ok (.ifCond .eq 20, 3) := by decide +kernel
theorem dX7_isRange_8 : decode cX7_isRange 8 = .ok (.aload_n 0, 1) := by decide +kernel
theorem dX7_isRange_9 : decode cX7_isRange 9 = .ok (.iload_n 2, 1) := by decide +kernel
theorem dX7_isRange_10 : decode cX7_isRange 10 = .ok (.invokevirtual 45, 3) := by decide +kernel
theorem dX7_isRange_13 : decode cX7_isRange 13 = .ok (.ifCond .eq 12, 3) := by decide +kernel
theorem dX7_isRange_16 : decode cX7_isRange 16 = .ok (.iload_n 1, 1) := by decide +kernel
theorem dX7_isRange_17 : decode cX7_isRange 17 = .ok (.iload_n 2, 1) := by decide +kernel
theorem dX7_isRange_18 : decode cX7_isRange 18 = .ok (.if_icmp .gt 7, 3) := by decide +kernel
theorem dX7_isRange_21 : decode cX7_isRange 21 = .ok (.iconst 1, 1) := by decide +kernel
theorem dX7_isRange_22 : decode cX7_isRange 22 = .ok (.goto 4, 3) := by decide +kernel
theorem dX7_isRange_25 : decode cX7_isRange 25 = .ok (.iconst 0, 1) := by decide +kernel
theorem dX7_isRange_26 : decode cX7_isRange 26 = .ok (.ireturn, 1) := by decide +kernel
theorem dX7_remember_0 : decode cX7_remember 0 = .ok (.aload_n 0, 1) := by decide +kernel
theorem dX7_remember_1 : decode cX7_remember 1 = .ok (.getfield 49, 3) := by decide +kernel
theorem dX7_remember_4 : decode cX7_remember 4 = .ok (.bipush 8, 2) := by decide +kernel
theorem dX7_remember_6 : decode cX7_remember 6 = .ok (.if_icmp .ne 43, 3) := by decide +kernel
theorem dX7_remember_9 : decode cX7_remember 9 = .ok (.iconst 0, 1) := by decide +kernel
theorem dX7_remember_10 : decode cX7_remember 10 = .ok (.istore_n 1, 1) := by decide +kernel
theorem dX7_remember_11 : decode cX7_remember 11 = .ok (.iload_n 1, 1) := by decide +kernel
theorem dX7_remember_12 : decode cX7_remember 12 = .ok (.sipush 287, 3) := by decide +kernel
theorem dX7_remember_15 : decode cX7_remember 15 = .ok (.if_icmp .ge 24, 3) := by decide +kernel
theorem dX7_remember_18 : decode cX7_remember 18 = .ok (.aload_n 0, 1) := by decide +kernel
theorem dX7_remember_19 : decode cX7_remember 19 = .ok (.getfield 13, 3) := by decide +kernel
theorem dX7_remember_22 : decode cX7_remember 22 = .ok (.iload_n 1, 1) := by decide +kernel
theorem dX7_remember_23 : decode cX7_remember 23 = .ok (.aload_n 0, 1) := by decide +kernel
theorem dX7_remember_24 : decode cX7_remember 24 = .ok (.getfield 13, 3) := by decide +kernel
theorem dX7_remember_27 : decode cX7_remember 27 = .ok (.iload_n 1, 1) := by decide +kernel
theorem dX7_remember_28 : decode cX7_remember 28 = .ok (.bipush 41, 2) := by decide +kernel
theorem dX7_remember_30 : decode cX7_remember 30 = .ok (.iadd, 1) := by decide +kernel
theorem dX7_remember_31 : decode cX7_remember 31 = .ok (.iaload, 1) := by decide +kernel
theorem dX7_remember_32 : decode cX7_remember 32 = .ok (.iastore, 1) := by decide +kernel
theorem dX7_remember_33 : decode cX7_remember 33 = .ok (.iinc 1 1, 3) := by decide +kernel
theorem dX7_remember_36 : decode cX7_remember 36 = .ok (.goto (-25), 3) := by decide +kernel
theorem dX7_remember_39 : decode cX7_remember 39 = .ok (.aload_n 0, 1) := by decide +kernel
theorem dX7_remember_40 : decode cX7_remember 40 = .ok (.dup, 1) := by decide +kernel
theorem dX7_remember_41 : decode cX7_remember 41 = .ok (.getfield 49, 3) := by decide +kernel
theorem dX7_remember_44 : decode cX7_remember 44 = .ok (.iconst 1, 1) := by decide +kernel
theorem dX7_remember_45 : decode cX7_remember 45 = .ok (.isub, 1) := by decide +kernel
theorem dX7_remember_46 : decode cX7_remember 46 = .ok (.putfield 49, 3) := by decide +kernel
theorem dX7_remember_49 : decode cX7_remember 49 = .ok (.iconst 0, 1) := by decide +kernel
theorem dX7_remember_50 : decode cX7_remember 50 = .ok (.istore_n 1, 1) := by decide +kernel
theorem dX7_remember_51 : decode cX7_remember 51 = .ok (.iload_n 1, 1) := by decide +kernel
theorem dX7_remember_52 : decode cX7_remember 52 = .ok (.bipush 41, 2) := by decide +kernel
theorem dX7_remember_54 : decode cX7_remember 54 = .ok (.if_icmp .ge 29, 3) := by decide +kernel
theorem dX7_remember_57 : decode cX7_remember 57 = .ok (.aload_n 0, 1) := by decide +kernel
theorem dX7_remember_58 : decode cX7_remember 58 = .ok (.getfield 13, 3) := by decide +kernel
theorem dX7_remember_61 : decode cX7_remember 61 = .ok (.bipush 41, 2) := by decide +kernel
theorem dX7_remember_63 : decode cX7_remember 63 = .ok (.aload_n 0, 1) := by decide +kernel
theorem dX7_remember_64 : decode cX7_remember 64 = .ok (.getfield 49, 3) := by decide +kernel
theorem dX7_remember_67 : decode cX7_remember 67 = .ok (.imul, 1) := by decide +kernel
theorem dX7_remember_68 : decode cX7_remember 68 = .ok (.iload_n 1, 1) := by decide +kernel
theorem dX7_remember_69 : decode cX7_remember 69 = .ok (.iadd, 1) := by decide +kernel
theorem dX7_remember_70 : decode cX7_remember 70 = .ok (.aload_n 0, 1) := by decide +kernel
theorem dX7_remember_71 : decode cX7_remember 71 = .ok (.getfield 7, 3) := by decide +kernel
theorem dX7_remember_74 : decode cX7_remember 74 = .ok (.iload_n 1, 1) := by decide +kernel
theorem dX7_remember_75 : decode cX7_remember 75 = .ok (.iaload, 1) := by decide +kernel
theorem dX7_remember_76 : decode cX7_remember 76 = .ok (.iastore, 1) := by decide +kernel
theorem dX7_remember_77 : decode cX7_remember 77 = .ok (.iinc 1 1, 3) := by decide +kernel
theorem dX7_remember_80 : decode cX7_remember 80 = .ok (.goto (-29), 3) := by decide +kernel
theorem dX7_remember_83 : decode cX7_remember 83 = .ok (.aload_n 0, 1) := by decide +kernel
theorem dX7_remember_84 : decode cX7_remember 84 = .ok (.dup, 1) := by decide +kernel
theorem dX7_remember_85 : decode cX7_remember 85 = .ok (.getfield 49, 3) := by decide +kernel
theorem dX7_remember_88 : decode cX7_remember 88 = .ok (.iconst 1, 1) := by decide +kernel
theorem dX7_remember_89 : decode cX7_remember 89 = .ok (.iadd, 1) := by decide +kernel
theorem dX7_remember_90 : decode cX7_remember 90 = .ok (.putfield 49, 3) := by decide +kernel
theorem dX7_remember_93 : decode cX7_remember 93 = .ok (.return_, 1) := by decide +kernel
theorem dX7_before_0 : decode cX7_before 0 = .ok (.aload_n 0, 1) := by decide +kernel
theorem dX7_before_1 : decode cX7_before 1 = .ok (.getfield 13, 3) := by decide +kernel
theorem dX7_before_4 : decode cX7_before 4 = .ok (.bipush 41, 2) := by decide +kernel
theorem dX7_before_6 : decode cX7_before 6 = .ok (.aload_n 0, 1) := by decide +kernel
theorem dX7_before_7 : decode cX7_before 7 = .ok (.getfield 49, 3) := by decide +kernel
theorem dX7_before_10 : decode cX7_before 10 = .ok (.iconst 1, 1) := by decide +kernel
theorem dX7_before_11 : decode cX7_before 11 = .ok (.isub, 1) := by decide +kernel
theorem dX7_before_12 : decode cX7_before 12 = .ok (.imul, 1) := by decide +kernel
theorem dX7_before_13 : decode cX7_before 13 = .ok (.iload_n 1, 1) := by decide +kernel
theorem dX7_before_14 : decode cX7_before 14 = .ok (.iadd, 1) := by decide +kernel
theorem dX7_before_15 : decode cX7_before 15 = .ok (.iaload, 1) := by decide +kernel
theorem dX7_before_16 : decode cX7_before 16 = .ok (.ireturn, 1) := by decide +kernel
set_option maxRecDepth 20000 in
theorem ggX7_changed_X7_before : GoodIn wsX7_changed wsX7_before := goodIn_r _ [6, 7, 8, 9, 10, 11, 12, 13, 14, 15, 16, 17, 18, 19, 20] (by decide +kernel) (by decide +kernel)
set_option maxRecDepth 20000 in
theorem gX7_changed_X7_before : GoodIn wsX7_changed (wsV RX7 53 RX7 yX7_before wsX7_before) := goodIn_app (goodIn_of _ (by decide +kernel)) ggX7_changed_X7_before
theorem dX7_changed_0 : decode cX7_changed 0 = .ok (.iconst 0, 1) := by decide +kernel
theorem dX7_changed_1 : decode cX7_changed 1 = .ok (.istore_n 3, 1) := by decide +kernel
theorem dX7_changed_2 : decode cX7_changed 2 = .ok (.iload_n 1, 1) := by decide +kernel
theorem dX7_changed_3 : decode cX7_changed 3 = .ok (.istore 4, 2) := by decide +kernel
theorem dX7_changed_5 : decode cX7_changed 5 = .ok (.iload 4, 2) := by decide +kernel
theorem dX7_changed_7 : decode cX7_changed 7 = .ok (.iload_n 2, 1) := by decide +kernel
theorem dX7_changed_8 : decode cX7_changed 8 = .ok (.if_icmp .gt 33, 3) := by decide +kernel
theorem dX7_changed_11 : decode cX7_changed 11 = .ok (.iload_n 3, 1) := by decide +kernel
theorem dX7_changed_12 : decode cX7_changed 12 = .ok (.aload_n 0, 1) := by decide +kernel
theorem dX7_changed_13 : decode cX7_changed 13 = .ok (.getfield 7, 3) := by decide +kernel
theorem dX7_changed_16 : decode cX7_changed 16 = .ok (.iload 4, 2) := by decide +kernel
theorem dX7_changed_18 : decode cX7_changed 18 = .ok (.iaload, 1) := by decide +kernel
theorem dX7_changed_19 : decode cX7_changed 19 = .ok (.aload_n 0, 1) := by decide +kernel
theorem dX7_changed_20 : decode cX7_changed 20 = .ok (.iload 4, 2) := by decide +kernel
theorem dX7_changed_22 : decode cX7_changed 22 = .ok (.invokevirtual 53, 3) := by decide +kernel
theorem dX7_changed_25 : decode cX7_changed 25 = .ok (.if_icmp .eq 7, 3) := by decide +kernel
theorem dX7_changed_28 : decode cX7_changed 28 = .ok (.iconst 1, 1) := by decide +kernel
theorem dX7_changed_29 : decode cX7_changed 29 = .ok (.goto 4, 3) := by decide +kernel
theorem dX7_changed_32 : decode cX7_changed 32 = .ok (.iconst 0, 1) := by decide +kernel
theorem dX7_changed_33 : decode cX7_changed 33 = .ok (.iadd, 1) := by decide +kernel
theorem dX7_changed_34 : decode cX7_changed 34 = .ok (.istore_n 3, 1) := by decide +kernel
theorem dX7_changed_35 : decode cX7_changed 35 = .ok (.iinc 4 1, 3) := by decide +kernel
theorem dX7_changed_38 : decode cX7_changed 38 = .ok (.goto (-33), 3) := by decide +kernel
theorem dX7_changed_41 : decode cX7_changed 41 = .ok (.iload_n 3, 1) := by decide +kernel
theorem dX7_changed_42 : decode cX7_changed 42 = .ok (.ireturn, 1) := by decide +kernel
set_option maxRecDepth 20000 in
theorem ggX7_insert_X7_many : GoodIn wsX7_insert wsX7_many := goodIn_r _ [6, 1, 20, 21, 22, 23, 24, 25, 26, 27, 28, 29, 30, 31] (by decide +kernel) (by decide +kernel)
set_option maxRecDepth 20000 in
theorem gX7_insert_X7_many : GoodIn wsX7_insert (wsV RX7 37 RX7 yX7_many wsX7_many) := goodIn_app (goodIn_of _ (by decide +kernel)) ggX7_insert_X7_many
set_option maxRecDepth 20000 in
theorem ggX7_insert_X7_isIn : GoodIn wsX7_insert wsX7_isIn := goodIn_r _ [9] (by decide +kernel) (by decide +kernel)
set_option maxRecDepth 20000 in
theorem gX7_insert_X7_isIn : GoodIn wsX7_insert (va_wsS RX7 41 yX7_isIn wsX7_isIn) := goodIn_app (goodIn_of _ (by decide +kernel)) ggX7_insert_X7_isIn
set_option maxRecDepth 20000 in
theorem ggX7_insert_X7_remember : GoodIn wsX7_insert wsX7_remember := goodIn_r _ [13, 14, 15, 1, 20, 21, 22, 23, 24, 25, 26, 27, 28, 29, 30, 31] (by decide +kernel) (by decide +kernel)
set_option maxRecDepth 20000 in
theorem gX7_insert_X7_remember : GoodIn wsX7_insert (wsV RX7 57 RX7 yX7_remember wsX7_remember) := goodIn_app (goodIn_of _ (by decide +kernel)) ggX7_insert_X7_remember
set_option maxRecDepth 20000 in
theorem ggX7_insert_X7_before : GoodIn wsX7_insert wsX7_before := goodIn_r _ [19, 15, 14, 20, 21, 22, 23, 24, 25, 26, 27, 28, 29, 30, 31] (by decide +kernel) (by decide +kernel)
set_option maxRecDepth 20000 in
theorem gX7_insert_X7_before : GoodIn wsX7_insert (wsV RX7 53 RX7 yX7_before wsX7_before) := goodIn_app (goodIn_of _ (by decide +kernel)) ggX7_insert_X7_before
theorem dX7_insert_0 : decode cX7_insert 0 = .ok (.iload_n 1, 1) := by decide +kernel
theorem dX7_insert_1 : decode cX7_insert 1 = .ok (.iconst 0, 1) := by decide +kernel
theorem dX7_insert_2 : decode cX7_insert 2 = .ok (.aload_n 0, 1) := by decide +kernel
theorem dX7_insert_3 : decode cX7_insert 3 = .ok (.invokevirtual 37, 3) := by decide +kernel
theorem dX7_insert_6 : decode cX7_insert 6 = .ok (.invokestatic 41, 3) := by decide +kernel
theorem dX7_insert_9 : decode cX7_insert 9 = .ok (.ifCond .eq 13, 3) := by decide +kernel
theorem dX7_insert_12 : decode cX7_insert 12 = .ok (.iload_n 2, 1) := by decide +kernel
theorem dX7_insert_13 : decode cX7_insert 13 = .ok (.iconst 0, 1) := by decide +kernel
theorem dX7_insert_14 : decode cX7_insert 14 = .ok (.bipush 50, 2) := by decide +kernel
theorem dX7_insert_16 : decode cX7_insert 16 = .ok (.invokestatic 41, 3) := by decide +kernel
theorem dX7_insert_19 : decode cX7_insert 19 = .ok (.ifCond .ne 5, 3) := by decide +kernel
theorem dX7_insert_22 : decode cX7_insert 22 = .ok (.iconst (-1), 1) := by decide +kernel
theorem dX7_insert_23 : decode cX7_insert 23 = .ok (.ireturn, 1) := by decide +kernel
theorem dX7_insert_24 : decode cX7_insert 24 = .ok (.aload_n 0, 1) := by decide +kernel
theorem dX7_insert_25 : decode cX7_insert 25 = .ok (.invokevirtual 37, 3) := by decide +kernel
theorem dX7_insert_28 : decode cX7_insert 28 = .ok (.bipush 40, 2) := by decide +kernel
theorem dX7_insert_30 : decode cX7_insert 30 = .ok (.if_icmp .ne 6, 3) := by decide +kernel
theorem dX7_insert_33 : decode cX7_insert 33 = .ok (.bipush (-3), 2) := by decide +kernel
theorem dX7_insert_35 : decode cX7_insert 35 = .ok (.ireturn, 1) := by decide +kernel
theorem dX7_insert_36 : decode cX7_insert 36 = .ok (.aload_n 0, 1) := by decide +kernel
theorem dX7_insert_37 : decode cX7_insert 37 = .ok (.invokevirtual 57, 3) := by decide +kernel
theorem dX7_insert_40 : decode cX7_insert 40 = .ok (.aload_n 0, 1) := by decide +kernel
theorem dX7_insert_41 : decode cX7_insert 41 = .ok (.invokevirtual 37, 3) := by decide +kernel
theorem dX7_insert_44 : decode cX7_insert 44 = .ok (.istore_n 3, 1) := by decide +kernel
theorem dX7_insert_45 : decode cX7_insert 45 = .ok (.iload_n 3, 1) := by decide +kernel
theorem dX7_insert_46 : decode cX7_insert 46 = .ok (.iload_n 1, 1) := by decide +kernel
theorem dX7_insert_47 : decode cX7_insert 47 = .ok (.if_icmp .le 22, 3) := by decide +kernel
theorem dX7_insert_50 : decode cX7_insert 50 = .ok (.aload_n 0, 1) := by decide +kernel
theorem dX7_insert_51 : decode cX7_insert 51 = .ok (.getfield 7, 3) := by decide +kernel
theorem dX7_insert_54 : decode cX7_insert 54 = .ok (.iload_n 3, 1) := by decide +kernel
theorem dX7_insert_55 : decode cX7_insert 55 = .ok (.aload_n 0, 1) := by decide +kernel
theorem dX7_insert_56 : decode cX7_insert 56 = .ok (.iload_n 3, 1) := by decide +kernel
theorem dX7_insert_57 : decode cX7_insert 57 = .ok (.iconst 1, 1) := by decide +kernel
theorem dX7_insert_58 : decode cX7_insert 58 = .ok (.isub, 1) := by decide +kernel
theorem dX7_insert_59 : decode cX7_insert 59 = .ok (.invokevirtual 53, 3) := by decide +kernel
theorem dX7_insert_62 : decode cX7_insert 62 = .ok (.iastore, 1) := by decide +kernel
theorem dX7_insert_63 : decode cX7_insert 63 = .ok (.iinc 3 (-1), 3) := by decide +kernel
theorem dX7_insert_66 : decode cX7_insert 66 = .ok (.goto (-21), 3) := by decide +kernel
theorem dX7_insert_69 : decode cX7_insert 69 = .ok (.aload_n 0, 1) := by decide +kernel
theorem dX7_insert_70 : decode cX7_insert 70 = .ok (.getfield 7, 3) := by decide +kernel
theorem dX7_insert_73 : decode cX7_insert 73 = .ok (.bipush 40, 2) := by decide +kernel
theorem dX7_insert_75 : decode cX7_insert 75 = .ok (.aload_n 0, 1) := by decide +kernel
theorem dX7_insert_76 : decode cX7_insert 76 = .ok (.bipush 40, 2) := by decide +kernel
theorem dX7_insert_78 : decode cX7_insert 78 = .ok (.invokevirtual 53, 3) := by decide +kernel
theorem dX7_insert_81 : decode cX7_insert 81 = .ok (.iconst 1, 1) := by decide +kernel
theorem dX7_insert_82 : decode cX7_insert 82 = .ok (.iadd, 1) := by decide +kernel
theorem dX7_insert_83 : decode cX7_insert 83 = .ok (.iastore, 1) := by decide +kernel
theorem dX7_insert_84 : decode cX7_insert 84 = .ok (.aload_n 0, 1) := by decide +kernel
theorem dX7_insert_85 : decode cX7_insert 85 = .ok (.getfield 7, 3) := by decide +kernel
theorem dX7_insert_88 : decode cX7_insert 88 = .ok (.iload_n 1, 1) := by decide +kernel
theorem dX7_insert_89 : decode cX7_insert 89 = .ok (.iload_n 2, 1) := by decide +kernel
theorem dX7_insert_90 : decode cX7_insert 90 = .ok (.iastore, 1) := by decide +kernel
theorem dX7_insert_91 : decode cX7_insert 91 = .ok (.aload_n 0, 1) := by decide +kernel
theorem dX7_insert_92 : decode cX7_insert 92 = .ok (.invokevirtual 37, 3) := by decide +kernel
theorem dX7_insert_95 : decode cX7_insert 95 = .ok (.ireturn, 1) := by decide +kernel
set_option maxRecDepth 20000 in
theorem ggX7_remove_X7_isColumn : GoodIn wsX7_remove wsX7_isColumn := goodIn_r _ [6, 7, 8, 9, 5, 10, 1, 11, 12, 13, 24, 25, 26, 27, 28, 29, 30, 31, 32, 33, 34, 35] (by decide +kernel) (by decide +kernel)
set_option maxRecDepth 20000 in
theorem gX7_remove_X7_isColumn : GoodIn wsX7_remove (wsV RX7 45 RX7 yX7_isColumn wsX7_isColumn) := goodIn_app (goodIn_of _ (by decide +kernel)) ggX7_remove_X7_isColumn
set_option maxRecDepth 20000 in
theorem ggX7_remove_X7_remember : GoodIn wsX7_remove wsX7_remember := goodIn_r _ [17, 18, 19, 1, 24, 25, 26, 27, 28, 29, 30, 31, 32, 33, 34, 35] (by decide +kernel) (by decide +kernel)
set_option maxRecDepth 20000 in
theorem gX7_remove_X7_remember : GoodIn wsX7_remove (wsV RX7 57 RX7 yX7_remember wsX7_remember) := goodIn_app (goodIn_of _ (by decide +kernel)) ggX7_remove_X7_remember
set_option maxRecDepth 20000 in
theorem ggX7_remove_X7_many : GoodIn wsX7_remove wsX7_many := goodIn_r _ [10, 1, 24, 25, 26, 27, 28, 29, 30, 31, 32, 33, 34, 35] (by decide +kernel) (by decide +kernel)
set_option maxRecDepth 20000 in
theorem gX7_remove_X7_many : GoodIn wsX7_remove (wsV RX7 37 RX7 yX7_many wsX7_many) := goodIn_app (goodIn_of _ (by decide +kernel)) ggX7_remove_X7_many
set_option maxRecDepth 20000 in
theorem ggX7_remove_X7_before : GoodIn wsX7_remove wsX7_before := goodIn_r _ [23, 19, 18, 24, 25, 26, 27, 28, 29, 30, 31, 32, 33, 34, 35] (by decide +kernel) (by decide +kernel)
set_option maxRecDepth 20000 in
theorem gX7_remove_X7_before : GoodIn wsX7_remove (wsV RX7 53 RX7 yX7_before wsX7_before) := goodIn_app (goodIn_of _ (by decide +kernel)) ggX7_remove_X7_before
theorem dX7_remove_0 : decode cX7_remove 0 = .ok (.aload_n 0, 1) := by decide +kernel
theorem dX7_remove_1 : decode cX7_remove 1 = .ok (.iload_n 1, 1) := by decide +kernel
theorem dX7_remove_2 : decode cX7_remove 2 = .ok (.invokevirtual 45, 3) := by decide +kernel
theorem dX7_remove_5 : decode cX7_remove 5 = .ok (.ifCond .ne 5, 3) := by decide +kernel
theorem dX7_remove_8 : decode cX7_remove 8 = .ok (.iconst (-1), 1) := by decide +kernel
theorem dX7_remove_9 : decode cX7_remove 9 = .ok (.ireturn, 1) := by decide +kernel
theorem dX7_remove_10 : decode cX7_remove 10 = .ok (.aload_n 0, 1) := by decide +kernel
theorem dX7_remove_11 : decode cX7_remove 11 = .ok (.invokevirtual 57, 3) := by decide +kernel
theorem dX7_remove_14 : decode cX7_remove 14 = .ok (.aload_n 0, 1) := by decide +kernel
theorem dX7_remove_15 : decode cX7_remove 15 = .ok (.getfield 7, 3) := by decide +kernel
theorem dX7_remove_18 : decode cX7_remove 18 = .ok (.bipush 40, 2) := by decide +kernel
theorem dX7_remove_20 : decode cX7_remove 20 = .ok (.dup2, 1) := by decide +kernel
theorem dX7_remove_21 : decode cX7_remove 21 = .ok (.iaload, 1) := by decide +kernel
theorem dX7_remove_22 : decode cX7_remove 22 = .ok (.iconst 1, 1) := by decide +kernel
theorem dX7_remove_23 : decode cX7_remove 23 = .ok (.isub, 1) := by decide +kernel
theorem dX7_remove_24 : decode cX7_remove 24 = .ok (.iastore, 1) := by decide +kernel
theorem dX7_remove_25 : decode cX7_remove 25 = .ok (.iload_n 1, 1) := by decide +kernel
theorem dX7_remove_26 : decode cX7_remove 26 = .ok (.istore_n 2, 1) := by decide +kernel
theorem dX7_remove_27 : decode cX7_remove 27 = .ok (.iload_n 2, 1) := by decide +kernel
theorem dX7_remove_28 : decode cX7_remove 28 = .ok (.aload_n 0, 1) := by decide +kernel
theorem dX7_remove_29 : decode cX7_remove 29 = .ok (.invokevirtual 37, 3) := by decide +kernel
theorem dX7_remove_32 : decode cX7_remove 32 = .ok (.if_icmp .ge 23, 3) := by decide +kernel
theorem dX7_remove_35 : decode cX7_remove 35 = .ok (.aload_n 0, 1) := by decide +kernel
theorem dX7_remove_36 : decode cX7_remove 36 = .ok (.getfield 7, 3) := by decide +kernel
theorem dX7_remove_39 : decode cX7_remove 39 = .ok (.iload_n 2, 1) := by decide +kernel
theorem dX7_remove_40 : decode cX7_remove 40 = .ok (.aload_n 0, 1) := by decide +kernel
theorem dX7_remove_41 : decode cX7_remove 41 = .ok (.getfield 7, 3) := by decide +kernel
theorem dX7_remove_44 : decode cX7_remove 44 = .ok (.iload_n 2, 1) := by decide +kernel
theorem dX7_remove_45 : decode cX7_remove 45 = .ok (.iconst 1, 1) := by decide +kernel
theorem dX7_remove_46 : decode cX7_remove 46 = .ok (.iadd, 1) := by decide +kernel
theorem dX7_remove_47 : decode cX7_remove 47 = .ok (.iaload, 1) := by decide +kernel
theorem dX7_remove_48 : decode cX7_remove 48 = .ok (.iastore, 1) := by decide +kernel
theorem dX7_remove_49 : decode cX7_remove 49 = .ok (.iinc 2 1, 3) := by decide +kernel
theorem dX7_remove_52 : decode cX7_remove 52 = .ok (.goto (-25), 3) := by decide +kernel
theorem dX7_remove_55 : decode cX7_remove 55 = .ok (.aload_n 0, 1) := by decide +kernel
theorem dX7_remove_56 : decode cX7_remove 56 = .ok (.iload_n 1, 1) := by decide +kernel
theorem dX7_remove_57 : decode cX7_remove 57 = .ok (.invokevirtual 53, 3) := by decide +kernel
theorem dX7_remove_60 : decode cX7_remove 60 = .ok (.ireturn, 1) := by decide +kernel
set_option maxRecDepth 20000 in
theorem ggX7_set_X7_isColumn : GoodIn wsX7_set wsX7_isColumn := goodIn_r _ [6, 7, 8, 9, 5, 10, 1, 11, 12, 13, 24, 25, 26, 27, 28, 29, 30, 31, 32, 33, 34, 35] (by decide +kernel) (by decide +kernel)
set_option maxRecDepth 20000 in
theorem gX7_set_X7_isColumn : GoodIn wsX7_set (wsV RX7 45 RX7 yX7_isColumn wsX7_isColumn) := goodIn_app (goodIn_of _ (by decide +kernel)) ggX7_set_X7_isColumn
set_option maxRecDepth 20000 in
theorem ggX7_set_X7_isIn : GoodIn wsX7_set wsX7_isIn := goodIn_r _ [13] (by decide +kernel) (by decide +kernel)
set_option maxRecDepth 20000 in
theorem gX7_set_X7_isIn : GoodIn wsX7_set (va_wsS RX7 41 yX7_isIn wsX7_isIn) := goodIn_app (goodIn_of _ (by decide +kernel)) ggX7_set_X7_isIn
set_option maxRecDepth 20000 in
theorem ggX7_set_X7_remember : GoodIn wsX7_set wsX7_remember := goodIn_r _ [17, 18, 19, 1, 24, 25, 26, 27, 28, 29, 30, 31, 32, 33, 34, 35] (by decide +kernel) (by decide +kernel)
set_option maxRecDepth 20000 in
theorem gX7_set_X7_remember : GoodIn wsX7_set (wsV RX7 57 RX7 yX7_remember wsX7_remember) := goodIn_app (goodIn_of _ (by decide +kernel)) ggX7_set_X7_remember
set_option maxRecDepth 20000 in
theorem ggX7_set_X7_before : GoodIn wsX7_set wsX7_before := goodIn_r _ [23, 19, 18, 24, 25, 26, 27, 28, 29, 30, 31, 32, 33, 34, 35] (by decide +kernel) (by decide +kernel)
set_option maxRecDepth 20000 in
theorem gX7_set_X7_before : GoodIn wsX7_set (wsV RX7 53 RX7 yX7_before wsX7_before) := goodIn_app (goodIn_of _ (by decide +kernel)) ggX7_set_X7_before
theorem dX7_set_0 : decode cX7_set 0 = .ok (.aload_n 0, 1) := by decide +kernel
theorem dX7_set_1 : decode cX7_set 1 = .ok (.iload_n 1, 1) := by decide +kernel
theorem dX7_set_2 : decode cX7_set 2 = .ok (.invokevirtual 45, 3) := by decide +kernel
theorem dX7_set_5 : decode cX7_set 5 = .ok (.ifCond .eq 13, 3) := by decide +kernel
theorem dX7_set_8 : decode cX7_set 8 = .ok (.iload_n 2, 1) := by decide +kernel
theorem dX7_set_9 : decode cX7_set 9 = .ok (.iconst 0, 1) := by decide +kernel
theorem dX7_set_10 : decode cX7_set 10 = .ok (.bipush 50, 2) := by decide +kernel
theorem dX7_set_12 : decode cX7_set 12 = .ok (.invokestatic 41, 3) := by decide +kernel
theorem dX7_set_15 : decode cX7_set 15 = .ok (.ifCond .ne 5, 3) := by decide +kernel
theorem dX7_set_18 : decode cX7_set 18 = .ok (.iconst (-1), 1) := by decide +kernel
theorem dX7_set_19 : decode cX7_set 19 = .ok (.ireturn, 1) := by decide +kernel
theorem dX7_set_20 : decode cX7_set 20 = .ok (.aload_n 0, 1) := by decide +kernel
theorem dX7_set_21 : decode cX7_set 21 = .ok (.invokevirtual 57, 3) := by decide +kernel
theorem dX7_set_24 : decode cX7_set 24 = .ok (.aload_n 0, 1) := by decide +kernel
theorem dX7_set_25 : decode cX7_set 25 = .ok (.getfield 7, 3) := by decide +kernel
theorem dX7_set_28 : decode cX7_set 28 = .ok (.iload_n 1, 1) := by decide +kernel
theorem dX7_set_29 : decode cX7_set 29 = .ok (.iload_n 2, 1) := by decide +kernel
theorem dX7_set_30 : decode cX7_set 30 = .ok (.iastore, 1) := by decide +kernel
theorem dX7_set_31 : decode cX7_set 31 = .ok (.aload_n 0, 1) := by decide +kernel
theorem dX7_set_32 : decode cX7_set 32 = .ok (.iload_n 1, 1) := by decide +kernel
theorem dX7_set_33 : decode cX7_set 33 = .ok (.invokevirtual 53, 3) := by decide +kernel
theorem dX7_set_36 : decode cX7_set 36 = .ok (.ireturn, 1) := by decide +kernel
theorem dX7_capped_0 : decode cX7_capped 0 = .ok (.iload_n 0, 1) := by decide +kernel
end
section
theorem dX7_capped_1 : decode cX7_capped 1 = .ok (.ifCond .ge 7, 3) := by decide +kernel
theorem dX7_capped_4 : decode cX7_capped 4 = .ok (.iconst 0, 1) := by decide +kernel
theorem dX7_capped_5 : decode cX7_capped 5 = .ok (.goto 15, 3) := by decide +kernel
theorem dX7_capped_8 : decode cX7_capped 8 = .ok (.iload_n 0, 1) := by decide +kernel
theorem dX7_capped_9 : decode cX7_capped 9 = .ok (.bipush 50, 2) := by decide +kernel
theorem dX7_capped_11 : decode cX7_capped 11 = .ok (.if_icmp .le 8, 3) := by decide +kernel
theorem dX7_capped_14 : decode cX7_capped 14 = .ok (.bipush 50, 2) := by decide +kernel
theorem dX7_capped_16 : decode cX7_capped 16 = .ok (.goto 4, 3) := by decide +kernel
theorem dX7_capped_19 : decode cX7_capped 19 = .ok (.iload_n 0, 1) := by decide +kernel
theorem dX7_capped_20 : decode cX7_capped 20 = .ok (.ireturn, 1) := by decide +kernel
set_option maxRecDepth 20000 in
theorem ggX7_raise_X7_isRange : GoodIn wsX7_raise wsX7_isRange := goodIn_r _ [6, 7, 8, 9, 5, 10, 11, 12, 13, 14, 1, 15, 16, 17, 35, 36, 37, 38, 39, 40, 41, 42, 43, 44, 45, 46] (by decide +kernel) (by decide +kernel)
set_option maxRecDepth 20000 in
theorem gX7_raise_X7_isRange : GoodIn wsX7_raise (wsV RX7 60 RX7 yX7_isRange wsX7_isRange) := goodIn_app (goodIn_of _ (by decide +kernel)) ggX7_raise_X7_isRange
set_option maxRecDepth 20000 in
theorem ggX7_raise_X7_isIn : GoodIn wsX7_raise wsX7_isIn := goodIn_r _ [17] (by decide +kernel) (by decide +kernel)
set_option maxRecDepth 20000 in
theorem gX7_raise_X7_isIn : GoodIn wsX7_raise (va_wsS RX7 41 yX7_isIn wsX7_isIn) := goodIn_app (goodIn_of _ (by decide +kernel)) ggX7_raise_X7_isIn
set_option maxRecDepth 20000 in
theorem ggX7_raise_X7_remember : GoodIn wsX7_raise wsX7_remember := goodIn_r _ [21, 22, 23, 1, 35, 36, 37, 38, 39, 40, 41, 42, 43, 44, 45, 46] (by decide +kernel) (by decide +kernel)
set_option maxRecDepth 20000 in
theorem gX7_raise_X7_remember : GoodIn wsX7_raise (wsV RX7 57 RX7 yX7_remember wsX7_remember) := goodIn_app (goodIn_of _ (by decide +kernel)) ggX7_raise_X7_remember
set_option maxRecDepth 20000 in
theorem ggX7_raise_X7_capped : GoodIn wsX7_raise wsX7_capped := goodIn_r _ [26] (by decide +kernel) (by decide +kernel)
set_option maxRecDepth 20000 in
theorem gX7_raise_X7_capped : GoodIn wsX7_raise (va_wsS RX7 64 yX7_capped wsX7_capped) := goodIn_app (goodIn_of _ (by decide +kernel)) ggX7_raise_X7_capped
set_option maxRecDepth 20000 in
theorem ggX7_raise_X7_changed : GoodIn wsX7_raise wsX7_changed := goodIn_r _ [30, 1, 31, 32, 33, 5, 34, 23, 22, 35, 36, 37, 38, 39, 40, 41, 42, 43, 44, 45, 46] (by decide +kernel) (by decide +kernel)
set_option maxRecDepth 20000 in
theorem gX7_raise_X7_changed : GoodIn wsX7_raise (wsV RX7 67 RX7 yX7_changed wsX7_changed) := goodIn_app (goodIn_of _ (by decide +kernel)) ggX7_raise_X7_changed
theorem dX7_raise_0 : decode cX7_raise 0 = .ok (.aload_n 0, 1) := by decide +kernel
theorem dX7_raise_1 : decode cX7_raise 1 = .ok (.iload_n 1, 1) := by decide +kernel
theorem dX7_raise_2 : decode cX7_raise 2 = .ok (.iload_n 2, 1) := by decide +kernel
theorem dX7_raise_3 : decode cX7_raise 3 = .ok (.invokevirtual 60, 3) := by decide +kernel
theorem dX7_raise_6 : decode cX7_raise 6 = .ok (.ifCond .eq 14, 3) := by decide +kernel
theorem dX7_raise_9 : decode cX7_raise 9 = .ok (.iload_n 3, 1) := by decide +kernel
theorem dX7_raise_10 : decode cX7_raise 10 = .ok (.bipush (-50), 2) := by decide +kernel
theorem dX7_raise_12 : decode cX7_raise 12 = .ok (.bipush 50, 2) := by decide +kernel
theorem dX7_raise_14 : decode cX7_raise 14 = .ok (.invokestatic 41, 3) := by decide +kernel
theorem dX7_raise_17 : decode cX7_raise 17 = .ok (.ifCond .ne 5, 3) := by decide +kernel
theorem dX7_raise_20 : decode cX7_raise 20 = .ok (.iconst (-1), 1) := by decide +kernel
theorem dX7_raise_21 : decode cX7_raise 21 = .ok (.ireturn, 1) := by decide +kernel
theorem dX7_raise_22 : decode cX7_raise 22 = .ok (.aload_n 0, 1) := by decide +kernel
theorem dX7_raise_23 : decode cX7_raise 23 = .ok (.invokevirtual 57, 3) := by decide +kernel
theorem dX7_raise_26 : decode cX7_raise 26 = .ok (.iload_n 1, 1) := by decide +kernel
theorem dX7_raise_27 : decode cX7_raise 27 = .ok (.istore 4, 2) := by decide +kernel
theorem dX7_raise_29 : decode cX7_raise 29 = .ok (.iload 4, 2) := by decide +kernel
theorem dX7_raise_31 : decode cX7_raise 31 = .ok (.iload_n 2, 1) := by decide +kernel
theorem dX7_raise_32 : decode cX7_raise 32 = .ok (.if_icmp .gt 28, 3) := by decide +kernel
theorem dX7_raise_35 : decode cX7_raise 35 = .ok (.aload_n 0, 1) := by decide +kernel
theorem dX7_raise_36 : decode cX7_raise 36 = .ok (.getfield 7, 3) := by decide +kernel
theorem dX7_raise_39 : decode cX7_raise 39 = .ok (.iload 4, 2) := by decide +kernel
theorem dX7_raise_41 : decode cX7_raise 41 = .ok (.aload_n 0, 1) := by decide +kernel
theorem dX7_raise_42 : decode cX7_raise 42 = .ok (.getfield 7, 3) := by decide +kernel
theorem dX7_raise_45 : decode cX7_raise 45 = .ok (.iload 4, 2) := by decide +kernel
theorem dX7_raise_47 : decode cX7_raise 47 = .ok (.iaload, 1) := by decide +kernel
theorem dX7_raise_48 : decode cX7_raise 48 = .ok (.iload_n 3, 1) := by decide +kernel
theorem dX7_raise_49 : decode cX7_raise 49 = .ok (.iadd, 1) := by decide +kernel
theorem dX7_raise_50 : decode cX7_raise 50 = .ok (.invokestatic 64, 3) := by decide +kernel
theorem dX7_raise_53 : decode cX7_raise 53 = .ok (.iastore, 1) := by decide +kernel
theorem dX7_raise_54 : decode cX7_raise 54 = .ok (.iinc 4 1, 3) := by decide +kernel
theorem dX7_raise_57 : decode cX7_raise 57 = .ok (.goto (-28), 3) := by decide +kernel
theorem dX7_raise_60 : decode cX7_raise 60 = .ok (.aload_n 0, 1) := by decide +kernel
theorem dX7_raise_61 : decode cX7_raise 61 = .ok (.iload_n 1, 1) := by decide +kernel
theorem dX7_raise_62 : decode cX7_raise 62 = .ok (.iload_n 2, 1) := by decide +kernel
theorem dX7_raise_63 : decode cX7_raise 63 = .ok (.invokevirtual 67, 3) := by decide +kernel
theorem dX7_raise_66 : decode cX7_raise 66 = .ok (.ireturn, 1) := by decide +kernel
set_option maxRecDepth 20000 in
theorem ggX7_reverse_X7_isRange : GoodIn wsX7_reverse wsX7_isRange := goodIn_r _ [6, 7, 8, 9, 5, 10, 11, 12, 13, 14, 1, 15, 16, 17, 32, 33, 34, 35, 36, 37, 38, 39, 40, 41, 42, 43] (by decide +kernel) (by decide +kernel)
set_option maxRecDepth 20000 in
theorem gX7_reverse_X7_isRange : GoodIn wsX7_reverse (wsV RX7 60 RX7 yX7_isRange wsX7_isRange) := goodIn_app (goodIn_of _ (by decide +kernel)) ggX7_reverse_X7_isRange
set_option maxRecDepth 20000 in
theorem ggX7_reverse_X7_remember : GoodIn wsX7_reverse wsX7_remember := goodIn_r _ [21, 22, 23, 1, 32, 33, 34, 35, 36, 37, 38, 39, 40, 41, 42, 43] (by decide +kernel) (by decide +kernel)
set_option maxRecDepth 20000 in
theorem gX7_reverse_X7_remember : GoodIn wsX7_reverse (wsV RX7 57 RX7 yX7_remember wsX7_remember) := goodIn_app (goodIn_of _ (by decide +kernel)) ggX7_reverse_X7_remember
set_option maxRecDepth 20000 in
theorem ggX7_reverse_X7_before : GoodIn wsX7_reverse wsX7_before := goodIn_r _ [27, 23, 22, 32, 33, 34, 35, 36, 37, 38, 39, 40, 41, 42, 43] (by decide +kernel) (by decide +kernel)
set_option maxRecDepth 20000 in
theorem gX7_reverse_X7_before : GoodIn wsX7_reverse (wsV RX7 53 RX7 yX7_before wsX7_before) := goodIn_app (goodIn_of _ (by decide +kernel)) ggX7_reverse_X7_before
set_option maxRecDepth 20000 in
theorem ggX7_reverse_X7_changed : GoodIn wsX7_reverse wsX7_changed := goodIn_r _ [31, 1, 24, 25, 26, 5, 27, 23, 22, 32, 33, 34, 35, 36, 37, 38, 39, 40, 41, 42, 43] (by decide +kernel) (by decide +kernel)
set_option maxRecDepth 20000 in
theorem gX7_reverse_X7_changed : GoodIn wsX7_reverse (wsV RX7 67 RX7 yX7_changed wsX7_changed) := goodIn_app (goodIn_of _ (by decide +kernel)) ggX7_reverse_X7_changed
theorem dX7_reverse_0 : decode cX7_reverse 0 = .ok (.aload_n 0, 1) := by decide +kernel
theorem dX7_reverse_1 : decode cX7_reverse 1 = .ok (.iload_n 1, 1) := by decide +kernel
theorem dX7_reverse_2 : decode cX7_reverse 2 = .ok (.iload_n 2, 1) := by decide +kernel
theorem dX7_reverse_3 : decode cX7_reverse 3 = .ok (.invokevirtual 60, 3) := by decide +kernel
theorem dX7_reverse_6 : decode cX7_reverse 6 = .ok (.ifCond .ne 5, 3) := by decide +kernel
theorem dX7_reverse_9 : decode cX7_reverse 9 = .ok (.iconst (-1), 1) := by decide +kernel
theorem dX7_reverse_10 : decode cX7_reverse 10 = .ok (.ireturn, 1) := by decide +kernel
theorem dX7_reverse_11 : decode cX7_reverse 11 = .ok (.aload_n 0, 1) := by decide +kernel
theorem dX7_reverse_12 : decode cX7_reverse 12 = .ok (.invokevirtual 57, 3) := by decide +kernel
theorem dX7_reverse_15 : decode cX7_reverse 15 = .ok (.iload_n 1, 1) := by decide +kernel
theorem dX7_reverse_16 : decode cX7_reverse 16 = .ok (.istore_n 3, 1) := by decide +kernel
theorem dX7_reverse_17 : decode cX7_reverse 17 = .ok (.iload_n 3, 1) := by decide +kernel
theorem dX7_reverse_18 : decode cX7_reverse 18 = .ok (.iload_n 2, 1) := by decide +kernel
theorem dX7_reverse_19 : decode cX7_reverse 19 = .ok (.if_icmp .gt 24, 3) := by decide +kernel
theorem dX7_reverse_22 : decode cX7_reverse 22 = .ok (.aload_n 0, 1) := by decide +kernel
theorem dX7_reverse_23 : decode cX7_reverse 23 = .ok (.getfield 7, 3) := by decide +kernel
theorem dX7_reverse_26 : decode cX7_reverse 26 = .ok (.iload_n 3, 1) := by decide +kernel
theorem dX7_reverse_27 : decode cX7_reverse 27 = .ok (.aload_n 0, 1) := by decide +kernel
theorem dX7_reverse_28 : decode cX7_reverse 28 = .ok (.iload_n 1, 1) := by decide +kernel
theorem dX7_reverse_29 : decode cX7_reverse 29 = .ok (.iload_n 2, 1) := by decide +kernel
theorem dX7_reverse_30 : decode cX7_reverse 30 = .ok (.iadd, 1) := by decide +kernel
theorem dX7_reverse_31 : decode cX7_reverse 31 = .ok (.iload_n 3, 1) := by decide +kernel
theorem dX7_reverse_32 : decode cX7_reverse 32 = .ok (.isub, 1) := by decide +kernel
theorem dX7_reverse_33 : decode cX7_reverse 33 = .ok (.invokevirtual 53, 3) := by decide +kernel
theorem dX7_reverse_36 : decode cX7_reverse 36 = .ok (.iastore, 1) := by decide +kernel
theorem dX7_reverse_37 : decode cX7_reverse 37 = .ok (.iinc 3 1, 3) := by decide +kernel
theorem dX7_reverse_40 : decode cX7_reverse 40 = .ok (.goto (-23), 3) := by decide +kernel
theorem dX7_reverse_43 : decode cX7_reverse 43 = .ok (.aload_n 0, 1) := by decide +kernel
theorem dX7_reverse_44 : decode cX7_reverse 44 = .ok (.iload_n 1, 1) := by decide +kernel
theorem dX7_reverse_45 : decode cX7_reverse 45 = .ok (.iload_n 2, 1) := by decide +kernel
theorem dX7_reverse_46 : decode cX7_reverse 46 = .ok (.invokevirtual 67, 3) := by decide +kernel
theorem dX7_reverse_49 : decode cX7_reverse 49 = .ok (.ireturn, 1) := by decide +kernel
set_option maxRecDepth 20000 in
theorem ggX7_sort_X7_isRange : GoodIn wsX7_sort wsX7_isRange := goodIn_r _ [6, 7, 8, 9, 5, 10, 11, 12, 13, 14, 1, 15, 16, 17, 24, 25, 26, 27, 28, 29, 30, 31, 32, 33, 34, 35] (by decide +kernel) (by decide +kernel)
set_option maxRecDepth 20000 in
theorem gX7_sort_X7_isRange : GoodIn wsX7_sort (wsV RX7 60 RX7 yX7_isRange wsX7_isRange) := goodIn_app (goodIn_of _ (by decide +kernel)) ggX7_sort_X7_isRange
set_option maxRecDepth 20000 in
theorem ggX7_sort_X7_isIn : GoodIn wsX7_sort wsX7_isIn := goodIn_r _ [17] (by decide +kernel) (by decide +kernel)
set_option maxRecDepth 20000 in
theorem gX7_sort_X7_isIn : GoodIn wsX7_sort (va_wsS RX7 41 yX7_isIn wsX7_isIn) := goodIn_app (goodIn_of _ (by decide +kernel)) ggX7_sort_X7_isIn
set_option maxRecDepth 20000 in
theorem ggX7_sort_X7_remember : GoodIn wsX7_sort wsX7_remember := goodIn_r _ [21, 22, 23, 1, 24, 25, 26, 27, 28, 29, 30, 31, 32, 33, 34, 35] (by decide +kernel) (by decide +kernel)
set_option maxRecDepth 20000 in
theorem gX7_sort_X7_remember : GoodIn wsX7_sort (wsV RX7 57 RX7 yX7_remember wsX7_remember) := goodIn_app (goodIn_of _ (by decide +kernel)) ggX7_sort_X7_remember
theorem dX7_sort_0 : decode cX7_sort 0 = .ok (.aload_n 0, 1) := by decide +kernel
theorem dX7_sort_1 : decode cX7_sort 1 = .ok (.iload_n 1, 1) := by decide +kernel
theorem dX7_sort_2 : decode cX7_sort 2 = .ok (.iload_n 2, 1) := by decide +kernel
theorem dX7_sort_3 : decode cX7_sort 3 = .ok (.invokevirtual 60, 3) := by decide +kernel
theorem dX7_sort_6 : decode cX7_sort 6 = .ok (.ifCond .eq 12, 3) := by decide +kernel
theorem dX7_sort_9 : decode cX7_sort 9 = .ok (.iload_n 3, 1) := by decide +kernel
theorem dX7_sort_10 : decode cX7_sort 10 = .ok (.iconst 0, 1) := by decide +kernel
theorem dX7_sort_11 : decode cX7_sort 11 = .ok (.iconst 1, 1) := by decide +kernel
theorem dX7_sort_12 : decode cX7_sort 12 = .ok (.invokestatic 41, 3) := by decide +kernel
theorem dX7_sort_15 : decode cX7_sort 15 = .ok (.ifCond .ne 5, 3) := by decide +kernel
theorem dX7_sort_18 : decode cX7_sort 18 = .ok (.iconst (-1), 1) := by decide +kernel
theorem dX7_sort_19 : decode cX7_sort 19 = .ok (.ireturn, 1) := by decide +kernel
theorem dX7_sort_20 : decode cX7_sort 20 = .ok (.aload_n 0, 1) := by decide +kernel
theorem dX7_sort_21 : decode cX7_sort 21 = .ok (.invokevirtual 57, 3) := by decide +kernel
theorem dX7_sort_24 : decode cX7_sort 24 = .ok (.iconst 0, 1) := by decide +kernel
theorem dX7_sort_25 : decode cX7_sort 25 = .ok (.istore 4, 2) := by decide +kernel
theorem dX7_sort_27 : decode cX7_sort 27 = .ok (.iload_n 1, 1) := by decide +kernel
theorem dX7_sort_28 : decode cX7_sort 28 = .ok (.istore 5, 2) := by decide +kernel
theorem dX7_sort_30 : decode cX7_sort 30 = .ok (.iload 5, 2) := by decide +kernel
theorem dX7_sort_32 : decode cX7_sort 32 = .ok (.iload_n 2, 1) := by decide +kernel
theorem dX7_sort_33 : decode cX7_sort 33 = .ok (.if_icmp .gt 110, 3) := by decide +kernel
theorem dX7_sort_36 : decode cX7_sort 36 = .ok (.iload 5, 2) := by decide +kernel
theorem dX7_sort_38 : decode cX7_sort 38 = .ok (.istore 6, 2) := by decide +kernel
theorem dX7_sort_40 : decode cX7_sort 40 = .ok (.iload 6, 2) := by decide +kernel
theorem dX7_sort_42 : decode cX7_sort 42 = .ok (.iload_n 1, 1) := by decide +kernel
theorem dX7_sort_43 : decode cX7_sort 43 = .ok (.if_icmp .le 94, 3) := by decide +kernel
theorem dX7_sort_46 : decode cX7_sort 46 = .ok (.iload_n 3, 1) := by decide +kernel
theorem dX7_sort_47 : decode cX7_sort 47 = .ok (.iconst 1, 1) := by decide +kernel
theorem dX7_sort_48 : decode cX7_sort 48 = .ok (.if_icmp .ne 25, 3) := by decide +kernel
theorem dX7_sort_51 : decode cX7_sort 51 = .ok (.aload_n 0, 1) := by decide +kernel
theorem dX7_sort_52 : decode cX7_sort 52 = .ok (.getfield 7, 3) := by decide +kernel
theorem dX7_sort_55 : decode cX7_sort 55 = .ok (.iload 6, 2) := by decide +kernel
theorem dX7_sort_57 : decode cX7_sort 57 = .ok (.iconst 1, 1) := by decide +kernel
theorem dX7_sort_58 : decode cX7_sort 58 = .ok (.isub, 1) := by decide +kernel
theorem dX7_sort_59 : decode cX7_sort 59 = .ok (.iaload, 1) := by decide +kernel
theorem dX7_sort_60 : decode cX7_sort 60 = .ok (.aload_n 0, 1) := by decide +kernel
theorem dX7_sort_61 : decode cX7_sort 61 = .ok (.getfield 7, 3) := by decide +kernel
theorem dX7_sort_64 : decode cX7_sort 64 = .ok (.iload 6, 2) := by decide +kernel
theorem dX7_sort_66 : decode cX7_sort 66 = .ok (.iaload, 1) := by decide +kernel
theorem dX7_sort_67 : decode cX7_sort 67 = .ok (.if_icmp .le 70, 3) := by decide +kernel
theorem dX7_sort_70 : decode cX7_sort 70 = .ok (.goto 22, 3) := by decide +kernel
theorem dX7_sort_73 : decode cX7_sort 73 = .ok (.aload_n 0, 1) := by decide +kernel
theorem dX7_sort_74 : decode cX7_sort 74 = .ok (.getfield 7, 3) := by decide +kernel
theorem dX7_sort_77 : decode cX7_sort 77 = .ok (.iload 6, 2) := by decide +kernel
theorem dX7_sort_79 : decode cX7_sort 79 = .ok (.iconst 1, 1) := by decide +kernel
theorem dX7_sort_80 : decode cX7_sort 80 = .ok (.isub, 1) := by decide +kernel
theorem dX7_sort_81 : decode cX7_sort 81 = .ok (.iaload, 1) := by decide +kernel
theorem dX7_sort_82 : decode cX7_sort 82 = .ok (.aload_n 0, 1) := by decide +kernel
theorem dX7_sort_83 : decode cX7_sort 83 = .ok (.getfield 7, 3) := by decide +kernel
theorem dX7_sort_86 : decode cX7_sort 86 = .ok (.iload 6, 2) := by decide +kernel
theorem dX7_sort_88 : decode cX7_sort 88 = .ok (.iaload, 1) := by decide +kernel
theorem dX7_sort_89 : decode cX7_sort 89 = .ok (.if_icmp .ge 48, 3) := by decide +kernel
theorem dX7_sort_92 : decode cX7_sort 92 = .ok (.aload_n 0, 1) := by decide +kernel
theorem dX7_sort_93 : decode cX7_sort 93 = .ok (.getfield 7, 3) := by decide +kernel
theorem dX7_sort_96 : decode cX7_sort 96 = .ok (.iload 6, 2) := by decide +kernel
theorem dX7_sort_98 : decode cX7_sort 98 = .ok (.iaload, 1) := by decide +kernel
theorem dX7_sort_99 : decode cX7_sort 99 = .ok (.istore 7, 2) := by decide +kernel
theorem dX7_sort_101 : decode cX7_sort 101 = .ok (.aload_n 0, 1) := by decide +kernel
theorem dX7_sort_102 : decode cX7_sort 102 = .ok (.getfield 7, 3) := by decide +kernel
theorem dX7_sort_105 : decode cX7_sort 105 = .ok (.iload 6, 2) := by decide +kernel
theorem dX7_sort_107 : decode cX7_sort 107 = .ok (.aload_n 0, 1) := by decide +kernel
theorem dX7_sort_108 : decode cX7_sort 108 = .ok (.getfield 7, 3) := by decide +kernel
theorem dX7_sort_111 : decode cX7_sort 111 = .ok (.iload 6, 2) := by decide +kernel
theorem dX7_sort_113 : decode cX7_sort 113 = .ok (.iconst 1, 1) := by decide +kernel
theorem dX7_sort_114 : decode cX7_sort 114 = .ok (.isub, 1) := by decide +kernel
theorem dX7_sort_115 : decode cX7_sort 115 = .ok (.iaload, 1) := by decide +kernel
theorem dX7_sort_116 : decode cX7_sort 116 = .ok (.iastore, 1) := by decide +kernel
theorem dX7_sort_117 : decode cX7_sort 117 = .ok (.aload_n 0, 1) := by decide +kernel
theorem dX7_sort_118 : decode cX7_sort 118 = .ok (.getfield 7, 3) := by decide +kernel
theorem dX7_sort_121 : decode cX7_sort 121 = .ok (.iload 6, 2) := by decide +kernel
theorem dX7_sort_123 : decode cX7_sort 123 = .ok (.iconst 1, 1) := by decide +kernel
theorem dX7_sort_124 : decode cX7_sort 124 = .ok (.isub, 1) := by decide +kernel
theorem dX7_sort_125 : decode cX7_sort 125 = .ok (.iload 7, 2) := by decide +kernel
theorem dX7_sort_127 : decode cX7_sort 127 = .ok (.iastore, 1) := by decide +kernel
theorem dX7_sort_128 : decode cX7_sort 128 = .ok (.iinc 6 (-1), 3) := by decide +kernel
theorem dX7_sort_131 : decode cX7_sort 131 = .ok (.iinc 4 1, 3) := by decide +kernel
theorem dX7_sort_134 : decode cX7_sort 134 = .ok (.goto (-94), 3) := by decide +kernel
theorem dX7_sort_137 : decode cX7_sort 137 = .ok (.iinc 5 1, 3) := by decide +kernel
theorem dX7_sort_140 : decode cX7_sort 140 = .ok (.goto (-110), 3) := by decide +kernel
theorem dX7_sort_143 : decode cX7_sort 143 = .ok (.iload 4, 2) := by decide +kernel
theorem dX7_sort_145 : decode cX7_sort 145 = .ok (.ireturn, 1) := by decide +kernel
set_option maxRecDepth 20000 in
theorem ggX7_freeze_X7_remember : GoodIn wsX7_freeze wsX7_remember := goodIn_r _ [7, 8, 9, 2, 26, 27, 28, 29, 30, 31, 32, 33, 34, 35, 36, 37] (by decide +kernel) (by decide +kernel)
set_option maxRecDepth 20000 in
theorem gX7_freeze_X7_remember : GoodIn wsX7_freeze (wsV RX7 57 RX7 yX7_remember wsX7_remember) := goodIn_app (goodIn_of _ (by decide +kernel)) ggX7_freeze_X7_remember
set_option maxRecDepth 20000 in
theorem ggX7_freeze_X7_many : GoodIn wsX7_freeze wsX7_many := goodIn_r _ [13, 2, 26, 27, 28, 29, 30, 31, 32, 33, 34, 35, 36, 37] (by decide +kernel) (by decide +kernel)
set_option maxRecDepth 20000 in
theorem gX7_freeze_X7_many : GoodIn wsX7_freeze (wsV RX7 37 RX7 yX7_many wsX7_many) := goodIn_app (goodIn_of _ (by decide +kernel)) ggX7_freeze_X7_many
set_option maxRecDepth 20000 in
theorem ggX7_freeze_X7_water : GoodIn wsX7_freeze wsX7_water := goodIn_r _ [17, 18, 19, 20, 6, 21, 2, 22, 23, 24, 25, 26, 27, 28, 29, 30, 31, 32, 33, 34, 35, 36, 37] (by decide +kernel) (by decide +kernel)
set_option maxRecDepth 20000 in
theorem gX7_freeze_X7_water : GoodIn wsX7_freeze (wsV RX7 71 RX7 yX7_water wsX7_water) := goodIn_app (goodIn_of _ (by decide +kernel)) ggX7_freeze_X7_water
set_option maxRecDepth 20000 in
theorem ggX7_freeze_X7_depth : GoodIn wsX7_freeze wsX7_depth := goodIn_r _ [21, 2, 22, 23, 24, 6, 25, 26, 27, 28, 29, 30, 31, 32, 33, 34, 35, 36, 37] (by decide +kernel) (by decide +kernel)
set_option maxRecDepth 20000 in
theorem gX7_freeze_X7_depth : GoodIn wsX7_freeze (wsV RX7 74 RX7 yX7_depth wsX7_depth) := goodIn_app (goodIn_of _ (by decide +kernel)) ggX7_freeze_X7_depth
theorem dX7_freeze_0 : decode cX7_freeze 0 = .ok (.aload_n 0, 1) := by decide +kernel
theorem dX7_freeze_1 : decode cX7_freeze 1 = .ok (.invokevirtual 57, 3) := by decide +kernel
theorem dX7_freeze_4 : decode cX7_freeze 4 = .ok (.aload_n 0, 1) := by decide +kernel
theorem dX7_freeze_5 : decode cX7_freeze 5 = .ok (.iconst 0, 1) := by decide +kernel
theorem dX7_freeze_6 : decode cX7_freeze 6 = .ok (.aload_n 0, 1) := by decide +kernel
theorem dX7_freeze_7 : decode cX7_freeze 7 = .ok (.invokevirtual 37, 3) := by decide +kernel
theorem dX7_freeze_10 : decode cX7_freeze 10 = .ok (.iconst 1, 1) := by decide +kernel
theorem dX7_freeze_11 : decode cX7_freeze 11 = .ok (.isub, 1) := by decide +kernel
theorem dX7_freeze_12 : decode cX7_freeze 12 = .ok (.invokevirtual 71, 3) := by decide +kernel
theorem dX7_freeze_15 : decode cX7_freeze 15 = .ok (.istore_n 1, 1) := by decide +kernel
theorem dX7_freeze_16 : decode cX7_freeze 16 = .ok (.iconst 0, 1) := by decide +kernel
theorem dX7_freeze_17 : decode cX7_freeze 17 = .ok (.istore_n 2, 1) := by decide +kernel
theorem dX7_freeze_18 : decode cX7_freeze 18 = .ok (.iload_n 2, 1) := by decide +kernel
theorem dX7_freeze_19 : decode cX7_freeze 19 = .ok (.aload_n 0, 1) := by decide +kernel
theorem dX7_freeze_20 : decode cX7_freeze 20 = .ok (.invokevirtual 37, 3) := by decide +kernel
theorem dX7_freeze_23 : decode cX7_freeze 23 = .ok (.if_icmp .ge 27, 3) := by decide +kernel
theorem dX7_freeze_26 : decode cX7_freeze 26 = .ok (.aload_n 0, 1) := by decide +kernel
theorem dX7_freeze_27 : decode cX7_freeze 27 = .ok (.getfield 19, 3) := by decide +kernel
theorem dX7_freeze_30 : decode cX7_freeze 30 = .ok (.iload_n 2, 1) := by decide +kernel
theorem dX7_freeze_31 : decode cX7_freeze 31 = .ok (.aload_n 0, 1) := by decide +kernel
theorem dX7_freeze_32 : decode cX7_freeze 32 = .ok (.iconst 0, 1) := by decide +kernel
theorem dX7_freeze_33 : decode cX7_freeze 33 = .ok (.aload_n 0, 1) := by decide +kernel
theorem dX7_freeze_34 : decode cX7_freeze 34 = .ok (.invokevirtual 37, 3) := by decide +kernel
theorem dX7_freeze_37 : decode cX7_freeze 37 = .ok (.iconst 1, 1) := by decide +kernel
theorem dX7_freeze_38 : decode cX7_freeze 38 = .ok (.isub, 1) := by decide +kernel
theorem dX7_freeze_39 : decode cX7_freeze 39 = .ok (.iload_n 2, 1) := by decide +kernel
theorem dX7_freeze_40 : decode cX7_freeze 40 = .ok (.invokevirtual 74, 3) := by decide +kernel
theorem dX7_freeze_43 : decode cX7_freeze 43 = .ok (.iastore, 1) := by decide +kernel
theorem dX7_freeze_44 : decode cX7_freeze 44 = .ok (.iinc 2 1, 3) := by decide +kernel
theorem dX7_freeze_47 : decode cX7_freeze 47 = .ok (.goto (-29), 3) := by decide +kernel
theorem dX7_freeze_50 : decode cX7_freeze 50 = .ok (.iconst 0, 1) := by decide +kernel
theorem dX7_freeze_51 : decode cX7_freeze 51 = .ok (.istore_n 2, 1) := by decide +kernel
theorem dX7_freeze_52 : decode cX7_freeze 52 = .ok (.iload_n 2, 1) := by decide +kernel
theorem dX7_freeze_53 : decode cX7_freeze 53 = .ok (.aload_n 0, 1) := by decide +kernel
theorem dX7_freeze_54 : decode cX7_freeze 54 = .ok (.invokevirtual 37, 3) := by decide +kernel
theorem dX7_freeze_57 : decode cX7_freeze 57 = .ok (.if_icmp .ge 24, 3) := by decide +kernel
theorem dX7_freeze_60 : decode cX7_freeze 60 = .ok (.aload_n 0, 1) := by decide +kernel
theorem dX7_freeze_61 : decode cX7_freeze 61 = .ok (.getfield 7, 3) := by decide +kernel
theorem dX7_freeze_64 : decode cX7_freeze 64 = .ok (.iload_n 2, 1) := by decide +kernel
theorem dX7_freeze_65 : decode cX7_freeze 65 = .ok (.dup2, 1) := by decide +kernel
theorem dX7_freeze_66 : decode cX7_freeze 66 = .ok (.iaload, 1) := by decide +kernel
theorem dX7_freeze_67 : decode cX7_freeze 67 = .ok (.aload_n 0, 1) := by decide +kernel
theorem dX7_freeze_68 : decode cX7_freeze 68 = .ok (.getfield 19, 3) := by decide +kernel
theorem dX7_freeze_71 : decode cX7_freeze 71 = .ok (.iload_n 2, 1) := by decide +kernel
theorem dX7_freeze_72 : decode cX7_freeze 72 = .ok (.iaload, 1) := by decide +kernel
theorem dX7_freeze_73 : decode cX7_freeze 73 = .ok (.iadd, 1) := by decide +kernel
theorem dX7_freeze_74 : decode cX7_freeze 74 = .ok (.iastore, 1) := by decide +kernel
theorem dX7_freeze_75 : decode cX7_freeze 75 = .ok (.iinc 2 1, 3) := by decide +kernel
theorem dX7_freeze_78 : decode cX7_freeze 78 = .ok (.goto (-26), 3) := by decide +kernel
theorem dX7_freeze_81 : decode cX7_freeze 81 = .ok (.iload_n 1, 1) := by decide +kernel
theorem dX7_freeze_82 : decode cX7_freeze 82 = .ok (.ireturn, 1) := by decide +kernel
set_option maxRecDepth 20000 in
theorem ggX7_clear_X7_remember : GoodIn wsX7_clear wsX7_remember := goodIn_r _ [6, 7, 8, 1, 13, 14, 15, 16, 17, 18, 19, 20, 21, 22, 23, 24] (by decide +kernel) (by decide +kernel)
set_option maxRecDepth 20000 in
theorem gX7_clear_X7_remember : GoodIn wsX7_clear (wsV RX7 57 RX7 yX7_remember wsX7_remember) := goodIn_app (goodIn_of _ (by decide +kernel)) ggX7_clear_X7_remember
set_option maxRecDepth 20000 in
theorem ggX7_clear_X7_before : GoodIn wsX7_clear wsX7_before := goodIn_r _ [12, 8, 7, 13, 14, 15, 16, 17, 18, 19, 20, 21, 22, 23, 24] (by decide +kernel) (by decide +kernel)
set_option maxRecDepth 20000 in
theorem gX7_clear_X7_before : GoodIn wsX7_clear (wsV RX7 53 RX7 yX7_before wsX7_before) := goodIn_app (goodIn_of _ (by decide +kernel)) ggX7_clear_X7_before
theorem dX7_clear_0 : decode cX7_clear 0 = .ok (.aload_n 0, 1) := by decide +kernel
theorem dX7_clear_1 : decode cX7_clear 1 = .ok (.invokevirtual 57, 3) := by decide +kernel
theorem dX7_clear_4 : decode cX7_clear 4 = .ok (.aload_n 0, 1) := by decide +kernel
theorem dX7_clear_5 : decode cX7_clear 5 = .ok (.getfield 7, 3) := by decide +kernel
theorem dX7_clear_8 : decode cX7_clear 8 = .ok (.bipush 40, 2) := by decide +kernel
theorem dX7_clear_10 : decode cX7_clear 10 = .ok (.iconst 0, 1) := by decide +kernel
theorem dX7_clear_11 : decode cX7_clear 11 = .ok (.iastore, 1) := by decide +kernel
theorem dX7_clear_12 : decode cX7_clear 12 = .ok (.aload_n 0, 1) := by decide +kernel
theorem dX7_clear_13 : decode cX7_clear 13 = .ok (.bipush 40, 2) := by decide +kernel
theorem dX7_clear_15 : decode cX7_clear 15 = .ok (.invokevirtual 53, 3) := by decide +kernel
theorem dX7_clear_18 : decode cX7_clear 18 = .ok (.ireturn, 1) := by decide +kernel
theorem dX7_undo_0 : decode cX7_undo 0 = .ok (.aload_n 0, 1) := by decide +kernel
theorem dX7_undo_1 : decode cX7_undo 1 = .ok (.getfield 49, 3) := by decide +kernel
theorem dX7_undo_4 : decode cX7_undo 4 = .ok (.ifCond .ne 6, 3) := by decide +kernel
theorem dX7_undo_7 : decode cX7_undo 7 = .ok (.bipush (-2), 2) := by decide +kernel
theorem dX7_undo_9 : decode cX7_undo 9 = .ok (.ireturn, 1) := by decide +kernel
theorem dX7_undo_10 : decode cX7_undo 10 = .ok (.aload_n 0, 1) := by decide +kernel
theorem dX7_undo_11 : decode cX7_undo 11 = .ok (.dup, 1) := by decide +kernel
theorem dX7_undo_12 : decode cX7_undo 12 = .ok (.getfield 49, 3) := by decide +kernel
theorem dX7_undo_15 : decode cX7_undo 15 = .ok (.iconst 1, 1) := by decide +kernel
theorem dX7_undo_16 : decode cX7_undo 16 = .ok (.isub, 1) := by decide +kernel
theorem dX7_undo_17 : decode cX7_undo 17 = .ok (.putfield 49, 3) := by decide +kernel
theorem dX7_undo_20 : decode cX7_undo 20 = .ok (.iconst 0, 1) := by decide +kernel
theorem dX7_undo_21 : decode cX7_undo 21 = .ok (.istore_n 1, 1) := by decide +kernel
theorem dX7_undo_22 : decode cX7_undo 22 = .ok (.iload_n 1, 1) := by decide +kernel
theorem dX7_undo_23 : decode cX7_undo 23 = .ok (.bipush 41, 2) := by decide +kernel
theorem dX7_undo_25 : decode cX7_undo 25 = .ok (.if_icmp .ge 29, 3) := by decide +kernel
theorem dX7_undo_28 : decode cX7_undo 28 = .ok (.aload_n 0, 1) := by decide +kernel
theorem dX7_undo_29 : decode cX7_undo 29 = .ok (.getfield 7, 3) := by decide +kernel
theorem dX7_undo_32 : decode cX7_undo 32 = .ok (.iload_n 1, 1) := by decide +kernel
theorem dX7_undo_33 : decode cX7_undo 33 = .ok (.aload_n 0, 1) := by decide +kernel
theorem dX7_undo_34 : decode cX7_undo 34 = .ok (.getfield 13, 3) := by decide +kernel
theorem dX7_undo_37 : decode cX7_undo 37 = .ok (.bipush 41, 2) := by decide +kernel
theorem dX7_undo_39 : decode cX7_undo 39 = .ok (.aload_n 0, 1) := by decide +kernel
theorem dX7_undo_40 : decode cX7_undo 40 = .ok (.getfield 49, 3) := by decide +kernel
theorem dX7_undo_43 : decode cX7_undo 43 = .ok (.imul, 1) := by decide +kernel
theorem dX7_undo_44 : decode cX7_undo 44 = .ok (.iload_n 1, 1) := by decide +kernel
theorem dX7_undo_45 : decode cX7_undo 45 = .ok (.iadd, 1) := by decide +kernel
theorem dX7_undo_46 : decode cX7_undo 46 = .ok (.iaload, 1) := by decide +kernel
theorem dX7_undo_47 : decode cX7_undo 47 = .ok (.iastore, 1) := by decide +kernel
theorem dX7_undo_48 : decode cX7_undo 48 = .ok (.iinc 1 1, 3) := by decide +kernel
theorem dX7_undo_51 : decode cX7_undo 51 = .ok (.goto (-29), 3) := by decide +kernel
theorem dX7_undo_54 : decode cX7_undo 54 = .ok (.aload_n 0, 1) := by decide +kernel
theorem dX7_undo_55 : decode cX7_undo 55 = .ok (.getfield 49, 3) := by decide +kernel
theorem dX7_undo_58 : decode cX7_undo 58 = .ok (.ireturn, 1) := by decide +kernel
theorem dX7_least_0 : decode cX7_least 0 = .ok (.aload_n 0, 1) := by decide +kernel
theorem dX7_least_1 : decode cX7_least 1 = .ok (.getfield 7, 3) := by decide +kernel
theorem dX7_least_4 : decode cX7_least 4 = .ok (.iload_n 1, 1) := by decide +kernel
theorem dX7_least_5 : decode cX7_least 5 = .ok (.iaload, 1) := by decide +kernel
theorem dX7_least_6 : decode cX7_least 6 = .ok (.istore_n 3, 1) := by decide +kernel
theorem dX7_least_7 : decode cX7_least 7 = .ok (.iload_n 1, 1) := by decide +kernel
theorem dX7_least_8 : decode cX7_least 8 = .ok (.istore 4, 2) := by decide +kernel
theorem dX7_least_10 : decode cX7_least 10 = .ok (.iload 4, 2) := by decide +kernel
theorem dX7_least_12 : decode cX7_least 12 = .ok (.iload_n 2, 1) := by decide +kernel
theorem dX7_least_13 : decode cX7_least 13 = .ok (.if_icmp .gt 32, 3) := by decide +kernel
theorem dX7_least_16 : decode cX7_least 16 = .ok (.aload_n 0, 1) := by decide +kernel
theorem dX7_least_17 : decode cX7_least 17 = .ok (.getfield 7, 3) := by decide +kernel
theorem dX7_least_20 : decode cX7_least 20 = .ok (.iload 4, 2) := by decide +kernel
theorem dX7_least_22 : decode cX7_least 22 = .ok (.iaload, 1) := by decide +kernel
theorem dX7_least_23 : decode cX7_least 23 = .ok (.iload_n 3, 1) := by decide +kernel
theorem dX7_least_24 : decode cX7_least 24 = .ok (.if_icmp .ge 13, 3) := by decide +kernel
theorem dX7_least_27 : decode cX7_least 27 = .ok (.aload_n 0, 1) := by decide +kernel
theorem dX7_least_28 : decode cX7_least 28 = .ok (.getfield 7, 3) := by decide +kernel
theorem dX7_least_31 : decode cX7_least 31 = .ok (.iload 4, 2) := by decide +kernel
theorem dX7_least_33 : decode cX7_least 33 = .ok (.iaload, 1) := by decide +kernel
theorem dX7_least_34 : decode cX7_least 34 = .ok (.goto 4, 3) := by decide +kernel
theorem dX7_least_37 : decode cX7_least 37 = .ok (.iload_n 3, 1) := by decide +kernel
theorem dX7_least_38 : decode cX7_least 38 = .ok (.istore_n 3, 1) := by decide +kernel
theorem dX7_least_39 : decode cX7_least 39 = .ok (.iinc 4 1, 3) := by decide +kernel
theorem dX7_least_42 : decode cX7_least 42 = .ok (.goto (-32), 3) := by decide +kernel
theorem dX7_least_45 : decode cX7_least 45 = .ok (.iload_n 3, 1) := by decide +kernel
theorem dX7_least_46 : decode cX7_least 46 = .ok (.ireturn, 1) := by decide +kernel
theorem dX7_greatest_0 : decode cX7_greatest 0 = .ok (.aload_n 0, 1) := by decide +kernel
theorem dX7_greatest_1 : decode cX7_greatest 1 = .ok (.getfield 7, 3) := by decide +kernel
theorem dX7_greatest_4 : decode cX7_greatest 4 = .ok (.iload_n 1, 1) := by decide +kernel
theorem dX7_greatest_5 : decode cX7_greatest 5 = .ok (.iaload, 1) := by decide +kernel
theorem dX7_greatest_6 : decode cX7_greatest 6 = .ok (.istore_n 3, 1) := by decide +kernel
theorem dX7_greatest_7 : decode cX7_greatest 7 = .ok (.iload_n 1, 1) := by decide +kernel
theorem dX7_greatest_8 : decode cX7_greatest 8 = .ok (.istore 4, 2) := by decide +kernel
theorem dX7_greatest_10 : decode cX7_greatest 10 = .ok (.iload 4, 2) := by decide +kernel
theorem dX7_greatest_12 : decode cX7_greatest 12 = .ok (.iload_n 2, 1) := by decide +kernel
theorem dX7_greatest_13 : decode cX7_greatest 13 = .ok (.if_icmp .gt 32, 3) := by decide +kernel
theorem dX7_greatest_16 : decode cX7_greatest 16 = .ok (.aload_n 0, 1) := by decide +kernel
theorem dX7_greatest_17 : decode cX7_greatest 17 = .ok (.getfield 7, 3) := by decide +kernel
theorem dX7_greatest_20 : decode cX7_greatest 20 = .ok (.iload 4, 2) := by decide +kernel
theorem dX7_greatest_22 : decode cX7_greatest 22 = .ok (.iaload, 1) := by decide +kernel
theorem dX7_greatest_23 : decode cX7_greatest 23 = .ok (.iload_n 3, 1) := by decide +kernel
theorem dX7_greatest_24 : decode cX7_greatest 24 = .ok (.if_icmp .le 13, 3) := by decide +kernel
theorem dX7_greatest_27 : decode cX7_greatest 27 = .ok (.aload_n 0, 1) := by decide +kernel
theorem dX7_greatest_28 : decode cX7_greatest 28 = .ok (.getfield 7, 3) := by decide +kernel
theorem dX7_greatest_31 : decode cX7_greatest 31 = .ok (.iload 4, 2) := by decide +kernel
theorem dX7_greatest_33 : decode cX7_greatest 33 = .ok (.iaload, 1) := by decide +kernel
theorem dX7_greatest_34 : decode cX7_greatest 34 = .ok (.goto 4, 3) := by decide +kernel
theorem dX7_greatest_37 : decode cX7_greatest 37 = .ok (.iload_n 3, 1) := by decide +kernel
theorem dX7_greatest_38 : decode cX7_greatest 38 = .ok (.istore_n 3, 1) := by decide +kernel
theorem dX7_greatest_39 : decode cX7_greatest 39 = .ok (.iinc 4 1, 3) := by decide +kernel
theorem dX7_greatest_42 : decode cX7_greatest 42 = .ok (.goto (-32), 3) := by decide +kernel
theorem dX7_greatest_45 : decode cX7_greatest 45 = .ok (.iload_n 3, 1) := by decide +kernel
theorem dX7_greatest_46 : decode cX7_greatest 46 = .ok (.ireturn, 1) := by decide +kernel
theorem dX7_firstWith_0 : decode cX7_firstWith 0 = .ok (.iload_n 1, 1) := by decide +kernel
theorem dX7_firstWith_1 : decode cX7_firstWith 1 = .ok (.istore_n 3, 1) := by decide +kernel
theorem dX7_firstWith_2 : decode cX7_firstWith 2 = .ok (.aload_n 0, 1) := by decide +kernel
theorem dX7_firstWith_3 : decode cX7_firstWith 3 = .ok (.getfield 7, 3) := by decide +kernel
theorem dX7_firstWith_6 : decode cX7_firstWith 6 = .ok (.iload_n 3, 1) := by decide +kernel
theorem dX7_firstWith_7 : decode cX7_firstWith 7 = .ok (.iaload, 1) := by decide +kernel
theorem dX7_firstWith_8 : decode cX7_firstWith 8 = .ok (.iload_n 2, 1) := by decide +kernel
theorem dX7_firstWith_9 : decode cX7_firstWith 9 = .ok (.if_icmp .eq 9, 3) := by decide +kernel
theorem dX7_firstWith_12 : decode cX7_firstWith 12 = .ok (.iinc 3 1, 3) := by decide +kernel
theorem dX7_firstWith_15 : decode cX7_firstWith 15 = .ok (.goto (-13), 3) := by decide +kernel
theorem dX7_firstWith_18 : decode cX7_firstWith 18 = .ok (.iload_n 3, 1) := by decide +kernel
theorem dX7_firstWith_19 : decode cX7_firstWith 19 = .ok (.ireturn, 1) := by decide +kernel
theorem dX7_sum_0 : decode cX7_sum 0 = .ok (.iconst 0, 1) := by decide +kernel
theorem dX7_sum_1 : decode cX7_sum 1 = .ok (.istore_n 3, 1) := by decide +kernel
theorem dX7_sum_2 : decode cX7_sum 2 = .ok (.iload_n 1, 1) := by decide +kernel
theorem dX7_sum_3 : decode cX7_sum 3 = .ok (.istore 4, 2) := by decide +kernel
theorem dX7_sum_5 : decode cX7_sum 5 = .ok (.iload 4, 2) := by decide +kernel
theorem dX7_sum_7 : decode cX7_sum 7 = .ok (.iload_n 2, 1) := by decide +kernel
theorem dX7_sum_8 : decode cX7_sum 8 = .ok (.if_icmp .gt 19, 3) := by decide +kernel
theorem dX7_sum_11 : decode cX7_sum 11 = .ok (.iload_n 3, 1) := by decide +kernel
theorem dX7_sum_12 : decode cX7_sum 12 = .ok (.aload_n 0, 1) := by decide +kernel
theorem dX7_sum_13 : decode cX7_sum 13 = .ok (.getfield 7, 3) := by decide +kernel
theorem dX7_sum_16 : decode cX7_sum 16 = .ok (.iload 4, 2) := by decide +kernel
theorem dX7_sum_18 : decode cX7_sum 18 = .ok (.iaload, 1) := by decide +kernel
theorem dX7_sum_19 : decode cX7_sum 19 = .ok (.iadd, 1) := by decide +kernel
theorem dX7_sum_20 : decode cX7_sum 20 = .ok (.istore_n 3, 1) := by decide +kernel
theorem dX7_sum_21 : decode cX7_sum 21 = .ok (.iinc 4 1, 3) := by decide +kernel
theorem dX7_sum_24 : decode cX7_sum 24 = .ok (.goto (-19), 3) := by decide +kernel
theorem dX7_sum_27 : decode cX7_sum 27 = .ok (.iload_n 3, 1) := by decide +kernel
theorem dX7_sum_28 : decode cX7_sum 28 = .ok (.ireturn, 1) := by decide +kernel
set_option maxRecDepth 20000 in
theorem ggX7_depth_X7_greatest : GoodIn wsX7_depth wsX7_greatest := goodIn_r _ [6, 1, 7, 8, 9, 10, 11, 12, 13, 14, 15, 16, 17, 18] (by decide +kernel) (by decide +kernel)
set_option maxRecDepth 20000 in
theorem gX7_depth_X7_greatest : GoodIn wsX7_depth (wsV RX7 78 RX7 yX7_greatest wsX7_greatest) := goodIn_app (goodIn_of _ (by decide +kernel)) ggX7_depth_X7_greatest
theorem dX7_depth_0 : decode cX7_depth 0 = .ok (.aload_n 0, 1) := by decide +kernel
theorem dX7_depth_1 : decode cX7_depth 1 = .ok (.iload_n 1, 1) := by decide +kernel
theorem dX7_depth_2 : decode cX7_depth 2 = .ok (.iload_n 3, 1) := by decide +kernel
theorem dX7_depth_3 : decode cX7_depth 3 = .ok (.invokevirtual 78, 3) := by decide +kernel
theorem dX7_depth_6 : decode cX7_depth 6 = .ok (.istore 4, 2) := by decide +kernel
theorem dX7_depth_8 : decode cX7_depth 8 = .ok (.aload_n 0, 1) := by decide +kernel
theorem dX7_depth_9 : decode cX7_depth 9 = .ok (.iload_n 3, 1) := by decide +kernel
theorem dX7_depth_10 : decode cX7_depth 10 = .ok (.iload_n 2, 1) := by decide +kernel
theorem dX7_depth_11 : decode cX7_depth 11 = .ok (.invokevirtual 78, 3) := by decide +kernel
theorem dX7_depth_14 : decode cX7_depth 14 = .ok (.istore 5, 2) := by decide +kernel
theorem dX7_depth_16 : decode cX7_depth 16 = .ok (.iload 4, 2) := by decide +kernel
theorem dX7_depth_18 : decode cX7_depth 18 = .ok (.iload 5, 2) := by decide +kernel
theorem dX7_depth_20 : decode cX7_depth 20 = .ok (.if_icmp .ge 8, 3) := by decide +kernel
theorem dX7_depth_23 : decode cX7_depth 23 = .ok (.iload 4, 2) := by decide +kernel
theorem dX7_depth_25 : decode cX7_depth 25 = .ok (.goto 5, 3) := by decide +kernel
theorem dX7_depth_28 : decode cX7_depth 28 = .ok (.iload 5, 2) := by decide +kernel
theorem dX7_depth_30 : decode cX7_depth 30 = .ok (.aload_n 0, 1) := by decide +kernel
theorem dX7_depth_31 : decode cX7_depth 31 = .ok (.getfield 7, 3) := by decide +kernel
theorem dX7_depth_34 : decode cX7_depth 34 = .ok (.iload_n 3, 1) := by decide +kernel
theorem dX7_depth_35 : decode cX7_depth 35 = .ok (.iaload, 1) := by decide +kernel
theorem dX7_depth_36 : decode cX7_depth 36 = .ok (.isub, 1) := by decide +kernel
theorem dX7_depth_37 : decode cX7_depth 37 = .ok (.ireturn, 1) := by decide +kernel
set_option maxRecDepth 20000 in
theorem ggX7_water_X7_depth : GoodIn wsX7_water wsX7_depth := goodIn_r _ [5, 6, 7, 8, 9, 4, 10, 11, 12, 13, 14, 15, 16, 17, 18, 19, 20, 21, 22] (by decide +kernel) (by decide +kernel)
set_option maxRecDepth 20000 in
theorem gX7_water_X7_depth : GoodIn wsX7_water (wsV RX7 74 RX7 yX7_depth wsX7_depth) := goodIn_app (goodIn_of _ (by decide +kernel)) ggX7_water_X7_depth
theorem dX7_water_0 : decode cX7_water 0 = .ok (.iconst 0, 1) := by decide +kernel
theorem dX7_water_1 : decode cX7_water 1 = .ok (.istore_n 3, 1) := by decide +kernel
theorem dX7_water_2 : decode cX7_water 2 = .ok (.iload_n 1, 1) := by decide +kernel
theorem dX7_water_3 : decode cX7_water 3 = .ok (.istore 4, 2) := by decide +kernel
theorem dX7_water_5 : decode cX7_water 5 = .ok (.iload 4, 2) := by decide +kernel
theorem dX7_water_7 : decode cX7_water 7 = .ok (.iload_n 2, 1) := by decide +kernel
theorem dX7_water_8 : decode cX7_water 8 = .ok (.if_icmp .gt 20, 3) := by decide +kernel
theorem dX7_water_11 : decode cX7_water 11 = .ok (.iload_n 3, 1) := by decide +kernel
theorem dX7_water_12 : decode cX7_water 12 = .ok (.aload_n 0, 1) := by decide +kernel
theorem dX7_water_13 : decode cX7_water 13 = .ok (.iload_n 1, 1) := by decide +kernel
theorem dX7_water_14 : decode cX7_water 14 = .ok (.iload_n 2, 1) := by decide +kernel
theorem dX7_water_15 : decode cX7_water 15 = .ok (.iload 4, 2) := by decide +kernel
theorem dX7_water_17 : decode cX7_water 17 = .ok (.invokevirtual 74, 3) := by decide +kernel
theorem dX7_water_20 : decode cX7_water 20 = .ok (.iadd, 1) := by decide +kernel
theorem dX7_water_21 : decode cX7_water 21 = .ok (.istore_n 3, 1) := by decide +kernel
theorem dX7_water_22 : decode cX7_water 22 = .ok (.iinc 4 1, 3) := by decide +kernel
theorem dX7_water_25 : decode cX7_water 25 = .ok (.goto (-20), 3) := by decide +kernel
theorem dX7_water_28 : decode cX7_water 28 = .ok (.iload_n 3, 1) := by decide +kernel
theorem dX7_water_29 : decode cX7_water 29 = .ok (.ireturn, 1) := by decide +kernel
set_option maxRecDepth 20000 in
theorem ggX7_isWet_X7_isColumn : GoodIn wsX7_isWet wsX7_isColumn := goodIn_r _ [5, 6, 7, 8, 4, 9, 10, 11, 12, 13, 22, 23, 24, 25, 26, 27, 28, 29, 30, 31, 32, 33] (by decide +kernel) (by decide +kernel)
set_option maxRecDepth 20000 in
theorem gX7_isWet_X7_isColumn : GoodIn wsX7_isWet (wsV RX7 45 RX7 yX7_isColumn wsX7_isColumn) := goodIn_app (goodIn_of _ (by decide +kernel)) ggX7_isWet_X7_isColumn
set_option maxRecDepth 20000 in
theorem ggX7_isWet_X7_many : GoodIn wsX7_isWet wsX7_many := goodIn_r _ [9, 10, 22, 23, 24, 25, 26, 27, 28, 29, 30, 31, 32, 33] (by decide +kernel) (by decide +kernel)
set_option maxRecDepth 20000 in
theorem gX7_isWet_X7_many : GoodIn wsX7_isWet (wsV RX7 37 RX7 yX7_many wsX7_many) := goodIn_app (goodIn_of _ (by decide +kernel)) ggX7_isWet_X7_many
set_option maxRecDepth 20000 in
theorem ggX7_isWet_X7_depth : GoodIn wsX7_isWet wsX7_depth := goodIn_r _ [17, 10, 18, 19, 20, 4, 21, 22, 23, 24, 25, 26, 27, 28, 29, 30, 31, 32, 33] (by decide +kernel) (by decide +kernel)
set_option maxRecDepth 20000 in
theorem gX7_isWet_X7_depth : GoodIn wsX7_isWet (wsV RX7 74 RX7 yX7_depth wsX7_depth) := goodIn_app (goodIn_of _ (by decide +kernel)) ggX7_isWet_X7_depth
theorem dX7_isWet_0 : decode cX7_isWet 0 = .ok (.aload_n 0, 1) := by decide +kernel
theorem dX7_isWet_1 : decode cX7_isWet 1 = .ok (.iload_n 1, 1) := by decide +kernel
theorem dX7_isWet_2 : decode cX7_isWet 2 = .ok (.invokevirtual 45, 3) := by decide +kernel
theorem dX7_isWet_5 : decode cX7_isWet 5 = .ok (.ifCond .eq 22, 3) := by decide +kernel
theorem dX7_isWet_8 : decode cX7_isWet 8 = .ok (.aload_n 0, 1) := by decide +kernel
theorem dX7_isWet_9 : decode cX7_isWet 9 = .ok (.iconst 0, 1) := by decide +kernel
theorem dX7_isWet_10 : decode cX7_isWet 10 = .ok (.aload_n 0, 1) := by decide +kernel
theorem dX7_isWet_11 : decode cX7_isWet 11 = .ok (.invokevirtual 37, 3) := by decide +kernel
theorem dX7_isWet_14 : decode cX7_isWet 14 = .ok (.iconst 1, 1) := by decide +kernel
theorem dX7_isWet_15 : decode cX7_isWet 15 = .ok (.isub, 1) := by decide +kernel
theorem dX7_isWet_16 : decode cX7_isWet 16 = .ok (.iload_n 1, 1) := by decide +kernel
theorem dX7_isWet_17 : decode cX7_isWet 17 = .ok (.invokevirtual 74, 3) := by decide +kernel
theorem dX7_isWet_20 : decode cX7_isWet 20 = .ok (.ifCond .le 7, 3) := by decide +kernel
theorem dX7_isWet_23 : decode cX7_isWet 23 = .ok (.iconst 1, 1) := by decide +kernel
theorem dX7_isWet_24 : decode cX7_isWet 24 = .ok (.goto 4, 3) := by decide +kernel
theorem dX7_isWet_27 : decode cX7_isWet 27 = .ok (.iconst 0, 1) := by decide +kernel
theorem dX7_isWet_28 : decode cX7_isWet 28 = .ok (.ireturn, 1) := by decide +kernel
set_option maxRecDepth 20000 in
theorem ggX7_beginsPool_X7_isWet : GoodIn wsX7_beginsPool wsX7_isWet := goodIn_r _ [5, 6, 7, 8, 4, 9, 10, 11, 12, 13, 14, 15, 16, 17, 18, 19, 20, 21, 22, 23, 24, 25, 26, 27, 28, 29, 30, 31, 32, 33, 34, 35, 36, 37] (by decide +kernel) (by decide +kernel)
set_option maxRecDepth 20000 in
theorem gX7_beginsPool_X7_isWet : GoodIn wsX7_beginsPool (wsV RX7 81 RX7 yX7_isWet wsX7_isWet) := goodIn_app (goodIn_of _ (by decide +kernel)) ggX7_beginsPool_X7_isWet
theorem dX7_beginsPool_0 : decode cX7_beginsPool 0 = .ok (.aload_n 0, 1) := by decide +kernel
theorem dX7_beginsPool_1 : decode cX7_beginsPool 1 = .ok (.iload_n 1, 1) := by decide +kernel
theorem dX7_beginsPool_2 : decode cX7_beginsPool 2 = .ok (.invokevirtual 81, 3) := by decide +kernel
theorem dX7_beginsPool_5 : decode cX7_beginsPool 5 = .ok (.ifCond .eq 17, 3) := by decide +kernel
theorem dX7_beginsPool_8 : decode cX7_beginsPool 8 = .ok (.aload_n 0, 1) := by decide +kernel
theorem dX7_beginsPool_9 : decode cX7_beginsPool 9 = .ok (.iload_n 1, 1) := by decide +kernel
theorem dX7_beginsPool_10 : decode cX7_beginsPool 10 = .ok (.iconst 1, 1) := by decide +kernel
theorem dX7_beginsPool_11 : decode cX7_beginsPool 11 = .ok (.isub, 1) := by decide +kernel
theorem dX7_beginsPool_12 : decode cX7_beginsPool 12 = .ok (.invokevirtual 81, 3) := by decide +kernel
theorem dX7_beginsPool_15 : decode cX7_beginsPool 15 = .ok (.ifCond .ne 7, 3) := by decide +kernel
theorem dX7_beginsPool_18 : decode cX7_beginsPool 18 = .ok (.iconst 1, 1) := by decide +kernel
theorem dX7_beginsPool_19 : decode cX7_beginsPool 19 = .ok (.goto 4, 3) := by decide +kernel
theorem dX7_beginsPool_22 : decode cX7_beginsPool 22 = .ok (.iconst 0, 1) := by decide +kernel
theorem dX7_beginsPool_23 : decode cX7_beginsPool 23 = .ok (.ireturn, 1) := by decide +kernel
set_option maxRecDepth 20000 in
theorem ggX7_pools_X7_many : GoodIn wsX7_pools wsX7_many := goodIn_r _ [5, 6, 30, 31, 32, 33, 34, 35, 36, 37, 38, 39, 40, 41] (by decide +kernel) (by decide +kernel)
set_option maxRecDepth 20000 in
theorem gX7_pools_X7_many : GoodIn wsX7_pools (wsV RX7 37 RX7 yX7_many wsX7_many) := goodIn_app (goodIn_of _ (by decide +kernel)) ggX7_pools_X7_many
set_option maxRecDepth 20000 in
theorem ggX7_pools_X7_beginsPool : GoodIn wsX7_pools wsX7_beginsPool := goodIn_r _ [10, 11, 12, 13, 4, 14, 15, 16, 17, 18, 1, 2, 3, 5, 6, 19, 20, 21, 22, 23, 24, 25, 26, 27, 28, 29, 30, 31, 32, 33, 34, 35, 36, 37, 38, 39, 40, 41] (by decide +kernel) (by decide +kernel)
set_option maxRecDepth 20000 in
theorem gX7_pools_X7_beginsPool : GoodIn wsX7_pools (wsV RX7 84 RX7 yX7_beginsPool wsX7_beginsPool) := goodIn_app (goodIn_of _ (by decide +kernel)) ggX7_pools_X7_beginsPool
theorem dX7_pools_0 : decode cX7_pools 0 = .ok (.iconst 0, 1) := by decide +kernel
theorem dX7_pools_1 : decode cX7_pools 1 = .ok (.istore_n 1, 1) := by decide +kernel
theorem dX7_pools_2 : decode cX7_pools 2 = .ok (.iconst 0, 1) := by decide +kernel
theorem dX7_pools_3 : decode cX7_pools 3 = .ok (.istore_n 2, 1) := by decide +kernel
theorem dX7_pools_4 : decode cX7_pools 4 = .ok (.iload_n 2, 1) := by decide +kernel
theorem dX7_pools_5 : decode cX7_pools 5 = .ok (.aload_n 0, 1) := by decide +kernel
theorem dX7_pools_6 : decode cX7_pools 6 = .ok (.invokevirtual 37, 3) := by decide +kernel
theorem dX7_pools_9 : decode cX7_pools 9 = .ok (.if_icmp .ge 25, 3) := by decide +kernel
theorem dX7_pools_12 : decode cX7_pools 12 = .ok (.iload_n 1, 1) := by decide +kernel
theorem dX7_pools_13 : decode cX7_pools 13 = .ok (.aload_n 0, 1) := by decide +kernel
theorem dX7_pools_14 : decode cX7_pools 14 = .ok (.iload_n 2, 1) := by decide +kernel
theorem dX7_pools_15 : decode cX7_pools 15 = .ok (.invokevirtual 84, 3) := by decide +kernel
theorem dX7_pools_18 : decode cX7_pools 18 = .ok (.ifCond .eq 7, 3) := by decide +kernel
theorem dX7_pools_21 : decode cX7_pools 21 = .ok (.iconst 1, 1) := by decide +kernel
theorem dX7_pools_22 : decode cX7_pools 22 = .ok (.goto 4, 3) := by decide +kernel
theorem dX7_pools_25 : decode cX7_pools 25 = .ok (.iconst 0, 1) := by decide +kernel
theorem dX7_pools_26 : decode cX7_pools 26 = .ok (.iadd, 1) := by decide +kernel
theorem dX7_pools_27 : decode cX7_pools 27 = .ok (.istore_n 1, 1) := by decide +kernel
theorem dX7_pools_28 : decode cX7_pools 28 = .ok (.iinc 2 1, 3) := by decide +kernel
theorem dX7_pools_31 : decode cX7_pools 31 = .ok (.goto (-27), 3) := by decide +kernel
theorem dX7_pools_34 : decode cX7_pools 34 = .ok (.iload_n 1, 1) := by decide +kernel
theorem dX7_pools_35 : decode cX7_pools 35 = .ok (.ireturn, 1) := by decide +kernel
set_option maxRecDepth 20000 in
theorem ggX7_isMaximal_X7_least : GoodIn wsX7_isMaximal wsX7_least := goodIn_r _ [6, 1, 11, 12, 13, 14, 15, 16, 17, 18, 19, 20, 21, 22] (by decide +kernel) (by decide +kernel)
set_option maxRecDepth 20000 in
theorem gX7_isMaximal_X7_least : GoodIn wsX7_isMaximal (wsV RX7 87 RX7 yX7_least wsX7_least) := goodIn_app (goodIn_of _ (by decide +kernel)) ggX7_isMaximal_X7_least
set_option maxRecDepth 20000 in
theorem ggX7_isMaximal_X7_many : GoodIn wsX7_isMaximal wsX7_many := goodIn_r _ [10, 1, 11, 12, 13, 14, 15, 16, 17, 18, 19, 20, 21, 22] (by decide +kernel) (by decide +kernel)
set_option maxRecDepth 20000 in
theorem gX7_isMaximal_X7_many : GoodIn wsX7_isMaximal (wsV RX7 37 RX7 yX7_many wsX7_many) := goodIn_app (goodIn_of _ (by decide +kernel)) ggX7_isMaximal_X7_many
theorem dX7_isMaximal_0 : decode cX7_isMaximal 0 = .ok (.aload_n 0, 1) := by decide +kernel
theorem dX7_isMaximal_1 : decode cX7_isMaximal 1 = .ok (.iload_n 1, 1) := by decide +kernel
theorem dX7_isMaximal_2 : decode cX7_isMaximal 2 = .ok (.iload_n 2, 1) := by decide +kernel
theorem dX7_isMaximal_3 : decode cX7_isMaximal 3 = .ok (.invokevirtual 87, 3) := by decide +kernel
theorem dX7_isMaximal_6 : decode cX7_isMaximal 6 = .ok (.istore_n 3, 1) := by decide +kernel
theorem dX7_isMaximal_7 : decode cX7_isMaximal 7 = .ok (.iload_n 1, 1) := by decide +kernel
theorem dX7_isMaximal_8 : decode cX7_isMaximal 8 = .ok (.ifCond .eq 15, 3) := by decide +kernel
theorem dX7_isMaximal_11 : decode cX7_isMaximal 11 = .ok (.aload_n 0, 1) := by decide +kernel
theorem dX7_isMaximal_12 : decode cX7_isMaximal 12 = .ok (.getfield 7, 3) := by decide +kernel
theorem dX7_isMaximal_15 : decode cX7_isMaximal 15 = .ok (.iload_n 1, 1) := by decide +kernel
theorem dX7_isMaximal_16 : decode cX7_isMaximal 16 = .ok (.iconst 1, 1) := by decide +kernel
theorem dX7_isMaximal_17 : decode cX7_isMaximal 17 = .ok (.isub, 1) := by decide +kernel
theorem dX7_isMaximal_18 : decode cX7_isMaximal 18 = .ok (.iaload, 1) := by decide +kernel
theorem dX7_isMaximal_19 : decode cX7_isMaximal 19 = .ok (.iload_n 3, 1) := by decide +kernel
theorem dX7_isMaximal_20 : decode cX7_isMaximal 20 = .ok (.if_icmp .ge 7, 3) := by decide +kernel
theorem dX7_isMaximal_23 : decode cX7_isMaximal 23 = .ok (.iconst 1, 1) := by decide +kernel
theorem dX7_isMaximal_24 : decode cX7_isMaximal 24 = .ok (.goto 4, 3) := by decide +kernel
theorem dX7_isMaximal_27 : decode cX7_isMaximal 27 = .ok (.iconst 0, 1) := by decide +kernel
theorem dX7_isMaximal_28 : decode cX7_isMaximal 28 = .ok (.istore 4, 2) := by decide +kernel
theorem dX7_isMaximal_30 : decode cX7_isMaximal 30 = .ok (.iload_n 2, 1) := by decide +kernel
theorem dX7_isMaximal_31 : decode cX7_isMaximal 31 = .ok (.aload_n 0, 1) := by decide +kernel
theorem dX7_isMaximal_32 : decode cX7_isMaximal 32 = .ok (.invokevirtual 37, 3) := by decide +kernel
theorem dX7_isMaximal_35 : decode cX7_isMaximal 35 = .ok (.iconst 1, 1) := by decide +kernel
theorem dX7_isMaximal_36 : decode cX7_isMaximal 36 = .ok (.isub, 1) := by decide +kernel
theorem dX7_isMaximal_37 : decode cX7_isMaximal 37 = .ok (.if_icmp .eq 15, 3) := by decide +kernel
theorem dX7_isMaximal_40 : decode cX7_isMaximal 40 = .ok (.aload_n 0, 1) := by decide +kernel
theorem dX7_isMaximal_41 : decode cX7_isMaximal 41 = .ok (.getfield 7, 3) := by decide +kernel
theorem dX7_isMaximal_44 : decode cX7_isMaximal 44 = .ok (.iload_n 2, 1) := by decide +kernel
theorem dX7_isMaximal_45 : decode cX7_isMaximal 45 = .ok (.iconst 1, 1) := by decide +kernel
theorem dX7_isMaximal_46 : decode cX7_isMaximal 46 = .ok (.iadd, 1) := by decide +kernel
theorem dX7_isMaximal_47 : decode cX7_isMaximal 47 = .ok (.iaload, 1) := by decide +kernel
theorem dX7_isMaximal_48 : decode cX7_isMaximal 48 = .ok (.iload_n 3, 1) := by decide +kernel
theorem dX7_isMaximal_49 : decode cX7_isMaximal 49 = .ok (.if_icmp .ge 7, 3) := by decide +kernel
theorem dX7_isMaximal_52 : decode cX7_isMaximal 52 = .ok (.iconst 1, 1) := by decide +kernel
theorem dX7_isMaximal_53 : decode cX7_isMaximal 53 = .ok (.goto 4, 3) := by decide +kernel
theorem dX7_isMaximal_56 : decode cX7_isMaximal 56 = .ok (.iconst 0, 1) := by decide +kernel
theorem dX7_isMaximal_57 : decode cX7_isMaximal 57 = .ok (.istore 5, 2) := by decide +kernel
theorem dX7_isMaximal_59 : decode cX7_isMaximal 59 = .ok (.iload_n 3, 1) := by decide +kernel
theorem dX7_isMaximal_60 : decode cX7_isMaximal 60 = .ok (.ifCond .le 17, 3) := by decide +kernel
theorem dX7_isMaximal_63 : decode cX7_isMaximal 63 = .ok (.iload 4, 2) := by decide +kernel
theorem dX7_isMaximal_65 : decode cX7_isMaximal 65 = .ok (.ifCond .eq 12, 3) := by decide +kernel
theorem dX7_isMaximal_68 : decode cX7_isMaximal 68 = .ok (.iload 5, 2) := by decide +kernel
theorem dX7_isMaximal_70 : decode cX7_isMaximal 70 = .ok (.ifCond .eq 7, 3) := by decide +kernel
theorem dX7_isMaximal_73 : decode cX7_isMaximal 73 = .ok (.iconst 1, 1) := by decide +kernel
theorem dX7_isMaximal_74 : decode cX7_isMaximal 74 = .ok (.goto 4, 3) := by decide +kernel
theorem dX7_isMaximal_77 : decode cX7_isMaximal 77 = .ok (.iconst 0, 1) := by decide +kernel
theorem dX7_isMaximal_78 : decode cX7_isMaximal 78 = .ok (.ireturn, 1) := by decide +kernel
set_option maxRecDepth 20000 in
theorem ggX7_area_X7_least : GoodIn wsX7_area wsX7_least := goodIn_r _ [5, 6, 7, 8, 9, 10, 11, 12, 13, 14, 15, 16, 17, 18] (by decide +kernel) (by decide +kernel)
set_option maxRecDepth 20000 in
theorem gX7_area_X7_least : GoodIn wsX7_area (wsV RX7 87 RX7 yX7_least wsX7_least) := goodIn_app (goodIn_of _ (by decide +kernel)) ggX7_area_X7_least
theorem dX7_area_0 : decode cX7_area 0 = .ok (.aload_n 0, 1) := by decide +kernel
theorem dX7_area_1 : decode cX7_area 1 = .ok (.iload_n 1, 1) := by decide +kernel
theorem dX7_area_2 : decode cX7_area 2 = .ok (.iload_n 2, 1) := by decide +kernel
theorem dX7_area_3 : decode cX7_area 3 = .ok (.invokevirtual 87, 3) := by decide +kernel
theorem dX7_area_6 : decode cX7_area 6 = .ok (.iload_n 2, 1) := by decide +kernel
theorem dX7_area_7 : decode cX7_area 7 = .ok (.iload_n 1, 1) := by decide +kernel
theorem dX7_area_8 : decode cX7_area 8 = .ok (.isub, 1) := by decide +kernel
theorem dX7_area_9 : decode cX7_area 9 = .ok (.iconst 1, 1) := by decide +kernel
theorem dX7_area_10 : decode cX7_area 10 = .ok (.iadd, 1) := by decide +kernel
theorem dX7_area_11 : decode cX7_area 11 = .ok (.imul, 1) := by decide +kernel
theorem dX7_area_12 : decode cX7_area 12 = .ok (.ireturn, 1) := by decide +kernel
set_option maxRecDepth 20000 in
theorem ggX7_layRectangles_X7_many : GoodIn wsX7_layRectangles wsX7_many := goodIn_r _ [8, 9, 22, 23, 24, 25, 26, 27, 28, 29, 30, 31, 32, 33] (by decide +kernel) (by decide +kernel)
set_option maxRecDepth 20000 in
theorem gX7_layRectangles_X7_many : GoodIn wsX7_layRectangles (wsV RX7 37 RX7 yX7_many wsX7_many) := goodIn_app (goodIn_of _ (by decide +kernel)) ggX7_layRectangles_X7_many
set_option maxRecDepth 20000 in
theorem ggX7_layRectangles_X7_isMaximal : GoodIn wsX7_layRectangles wsX7_isMaximal := goodIn_r _ [13, 9, 14, 15, 16, 7, 17, 4, 5, 6, 8, 22, 23, 24, 25, 26, 27, 28, 29, 30, 31, 32, 33] (by decide +kernel) (by decide +kernel)
set_option maxRecDepth 20000 in
theorem gX7_layRectangles_X7_isMaximal : GoodIn wsX7_layRectangles (wsV RX7 90 RX7 yX7_isMaximal wsX7_isMaximal) := goodIn_app (goodIn_of _ (by decide +kernel)) ggX7_layRectangles_X7_isMaximal
set_option maxRecDepth 20000 in
theorem ggX7_layRectangles_X7_area : GoodIn wsX7_layRectangles wsX7_area := goodIn_r _ [21, 14, 15, 16, 7, 17, 9, 22, 23, 24, 25, 26, 27, 28, 29, 30, 31, 32, 33] (by decide +kernel) (by decide +kernel)
set_option maxRecDepth 20000 in
theorem gX7_layRectangles_X7_area : GoodIn wsX7_layRectangles (wsV RX7 93 RX7 yX7_area wsX7_area) := goodIn_app (goodIn_of _ (by decide +kernel)) ggX7_layRectangles_X7_area
theorem dX7_layRectangles_0 : decode cX7_layRectangles 0 = .ok (.iconst 0, 1) := by decide +kernel
theorem dX7_layRectangles_1 : decode cX7_layRectangles 1 = .ok (.istore_n 1, 1) := by decide +kernel
theorem dX7_layRectangles_2 : decode cX7_layRectangles 2 = .ok (.iconst 0, 1) := by decide +kernel
theorem dX7_layRectangles_3 : decode cX7_layRectangles 3 = .ok (.istore_n 2, 1) := by decide +kernel
theorem dX7_layRectangles_4 : decode cX7_layRectangles 4 = .ok (.iload_n 2, 1) := by decide +kernel
theorem dX7_layRectangles_5 : decode cX7_layRectangles 5 = .ok (.aload_n 0, 1) := by decide +kernel
theorem dX7_layRectangles_6 : decode cX7_layRectangles 6 = .ok (.invokevirtual 37, 3) := by decide +kernel
theorem dX7_layRectangles_9 : decode cX7_layRectangles 9 = .ok (.if_icmp .ge 146, 3) := by decide +kernel
theorem dX7_layRectangles_12 : decode cX7_layRectangles 12 = .ok (.iload_n 2, 1) := by decide +kernel
theorem dX7_layRectangles_13 : decode cX7_layRectangles 13 = .ok (.istore_n 3, 1) := by decide +kernel
theorem dX7_layRectangles_14 : decode cX7_layRectangles 14 = .ok (.iload_n 3, 1) := by decide +kernel
theorem dX7_layRectangles_15 : decode cX7_layRectangles 15 = .ok (.aload_n 0, 1) := by decide +kernel
theorem dX7_layRectangles_16 : decode cX7_layRectangles 16 = .ok (.invokevirtual 37, 3) := by decide +kernel
theorem dX7_layRectangles_19 : decode cX7_layRectangles 19 = .ok (.if_icmp .ge 130, 3) := by decide +kernel
theorem dX7_layRectangles_22 : decode cX7_layRectangles 22 = .ok (.aload_n 0, 1) := by decide +kernel
theorem dX7_layRectangles_23 : decode cX7_layRectangles 23 = .ok (.iload_n 2, 1) := by decide +kernel
theorem dX7_layRectangles_24 : decode cX7_layRectangles 24 = .ok (.iload_n 3, 1) := by decide +kernel
theorem dX7_layRectangles_25 : decode cX7_layRectangles 25 = .ok (.invokevirtual 90, 3) := by decide +kernel
theorem dX7_layRectangles_28 : decode cX7_layRectangles 28 = .ok (.ifCond .eq 115, 3) := by decide +kernel
theorem dX7_layRectangles_31 : decode cX7_layRectangles 31 = .ok (.aload_n 0, 1) := by decide +kernel
theorem dX7_layRectangles_32 : decode cX7_layRectangles 32 = .ok (.iload_n 2, 1) := by decide +kernel
theorem dX7_layRectangles_33 : decode cX7_layRectangles 33 = .ok (.iload_n 3, 1) := by decide +kernel
theorem dX7_layRectangles_34 : decode cX7_layRectangles 34 = .ok (.invokevirtual 93, 3) := by decide +kernel
theorem dX7_layRectangles_37 : decode cX7_layRectangles 37 = .ok (.istore 4, 2) := by decide +kernel
theorem dX7_layRectangles_39 : decode cX7_layRectangles 39 = .ok (.iload_n 1, 1) := by decide +kernel
theorem dX7_layRectangles_40 : decode cX7_layRectangles 40 = .ok (.istore 5, 2) := by decide +kernel
theorem dX7_layRectangles_42 : decode cX7_layRectangles 42 = .ok (.iload 5, 2) := by decide +kernel
theorem dX7_layRectangles_44 : decode cX7_layRectangles 44 = .ok (.ifCond .le 71, 3) := by decide +kernel
theorem dX7_layRectangles_47 : decode cX7_layRectangles 47 = .ok (.aload_n 0, 1) := by decide +kernel
theorem dX7_layRectangles_48 : decode cX7_layRectangles 48 = .ok (.getfield 22, 3) := by decide +kernel
theorem dX7_layRectangles_51 : decode cX7_layRectangles 51 = .ok (.iload 5, 2) := by decide +kernel
theorem dX7_layRectangles_53 : decode cX7_layRectangles 53 = .ok (.iconst 1, 1) := by decide +kernel
theorem dX7_layRectangles_54 : decode cX7_layRectangles 54 = .ok (.isub, 1) := by decide +kernel
theorem dX7_layRectangles_55 : decode cX7_layRectangles 55 = .ok (.iaload, 1) := by decide +kernel
theorem dX7_layRectangles_56 : decode cX7_layRectangles 56 = .ok (.iload 4, 2) := by decide +kernel
theorem dX7_layRectangles_58 : decode cX7_layRectangles 58 = .ok (.if_icmp .ge 57, 3) := by decide +kernel
theorem dX7_layRectangles_61 : decode cX7_layRectangles 61 = .ok (.aload_n 0, 1) := by decide +kernel
theorem dX7_layRectangles_62 : decode cX7_layRectangles 62 = .ok (.getfield 22, 3) := by decide +kernel
theorem dX7_layRectangles_65 : decode cX7_layRectangles 65 = .ok (.iload 5, 2) := by decide +kernel
theorem dX7_layRectangles_67 : decode cX7_layRectangles 67 = .ok (.aload_n 0, 1) := by decide +kernel
theorem dX7_layRectangles_68 : decode cX7_layRectangles 68 = .ok (.getfield 22, 3) := by decide +kernel
theorem dX7_layRectangles_71 : decode cX7_layRectangles 71 = .ok (.iload 5, 2) := by decide +kernel
theorem dX7_layRectangles_73 : decode cX7_layRectangles 73 = .ok (.iconst 1, 1) := by decide +kernel
theorem dX7_layRectangles_74 : decode cX7_layRectangles 74 = .ok (.isub, 1) := by decide +kernel
theorem dX7_layRectangles_75 : decode cX7_layRectangles 75 = .ok (.iaload, 1) := by decide +kernel
theorem dX7_layRectangles_76 : decode cX7_layRectangles 76 = .ok (.iastore, 1) := by decide +kernel
theorem dX7_layRectangles_77 : decode cX7_layRectangles 77 = .ok (.aload_n 0, 1) := by decide +kernel
theorem dX7_layRectangles_78 : decode cX7_layRectangles 78 = .ok (.getfield 25, 3) := by decide +kernel
theorem dX7_layRectangles_81 : decode cX7_layRectangles 81 = .ok (.iload 5, 2) := by decide +kernel
theorem dX7_layRectangles_83 : decode cX7_layRectangles 83 = .ok (.aload_n 0, 1) := by decide +kernel
theorem dX7_layRectangles_84 : decode cX7_layRectangles 84 = .ok (.getfield 25, 3) := by decide +kernel
theorem dX7_layRectangles_87 : decode cX7_layRectangles 87 = .ok (.iload 5, 2) := by decide +kernel
theorem dX7_layRectangles_89 : decode cX7_layRectangles 89 = .ok (.iconst 1, 1) := by decide +kernel
theorem dX7_layRectangles_90 : decode cX7_layRectangles 90 = .ok (.isub, 1) := by decide +kernel
theorem dX7_layRectangles_91 : decode cX7_layRectangles 91 = .ok (.iaload, 1) := by decide +kernel
theorem dX7_layRectangles_92 : decode cX7_layRectangles 92 = .ok (.iastore, 1) := by decide +kernel
theorem dX7_layRectangles_93 : decode cX7_layRectangles 93 = .ok (.aload_n 0, 1) := by decide +kernel
theorem dX7_layRectangles_94 : decode cX7_layRectangles 94 = .ok (.getfield 28, 3) := by decide +kernel
theorem dX7_layRectangles_97 : decode cX7_layRectangles 97 = .ok (.iload 5, 2) := by decide +kernel
theorem dX7_layRectangles_99 : decode cX7_layRectangles 99 = .ok (.aload_n 0, 1) := by decide +kernel
theorem dX7_layRectangles_100 : decode cX7_layRectangles 100 = .ok (.getfield 28, 3) := by decide +kernel
theorem dX7_layRectangles_103 : decode cX7_layRectangles 103 = .ok (.iload 5, 2) := by decide +kernel
theorem dX7_layRectangles_105 : decode cX7_layRectangles 105 = .ok (.iconst 1, 1) := by decide +kernel
theorem dX7_layRectangles_106 : decode cX7_layRectangles 106 = .ok (.isub, 1) := by decide +kernel
theorem dX7_layRectangles_107 : decode cX7_layRectangles 107 = .ok (.iaload, 1) := by decide +kernel
theorem dX7_layRectangles_108 : decode cX7_layRectangles 108 = .ok (.iastore, 1) := by decide +kernel
theorem dX7_layRectangles_109 : decode cX7_layRectangles 109 = .ok (.iinc 5 (-1), 3) := by decide +kernel
theorem dX7_layRectangles_112 : decode cX7_layRectangles 112 = .ok (.goto (-70), 3) := by decide +kernel
theorem dX7_layRectangles_115 : decode cX7_layRectangles 115 = .ok (.aload_n 0, 1) := by decide +kernel
theorem dX7_layRectangles_116 : decode cX7_layRectangles 116 = .ok (.getfield 22, 3) := by decide +kernel
theorem dX7_layRectangles_119 : decode cX7_layRectangles 119 = .ok (.iload 5, 2) := by decide +kernel
theorem dX7_layRectangles_121 : decode cX7_layRectangles 121 = .ok (.iload 4, 2) := by decide +kernel
theorem dX7_layRectangles_123 : decode cX7_layRectangles 123 = .ok (.iastore, 1) := by decide +kernel
theorem dX7_layRectangles_124 : decode cX7_layRectangles 124 = .ok (.aload_n 0, 1) := by decide +kernel
theorem dX7_layRectangles_125 : decode cX7_layRectangles 125 = .ok (.getfield 25, 3) := by decide +kernel
theorem dX7_layRectangles_128 : decode cX7_layRectangles 128 = .ok (.iload 5, 2) := by decide +kernel
theorem dX7_layRectangles_130 : decode cX7_layRectangles 130 = .ok (.iload_n 2, 1) := by decide +kernel
theorem dX7_layRectangles_131 : decode cX7_layRectangles 131 = .ok (.iastore, 1) := by decide +kernel
theorem dX7_layRectangles_132 : decode cX7_layRectangles 132 = .ok (.aload_n 0, 1) := by decide +kernel
theorem dX7_layRectangles_133 : decode cX7_layRectangles 133 = .ok (.getfield 28, 3) := by decide +kernel
theorem dX7_layRectangles_136 : decode cX7_layRectangles 136 = .ok (.iload 5, 2) := by decide +kernel
theorem dX7_layRectangles_138 : decode cX7_layRectangles 138 = .ok (.iload_n 3, 1) := by decide +kernel
theorem dX7_layRectangles_139 : decode cX7_layRectangles 139 = .ok (.iastore, 1) := by decide +kernel
theorem dX7_layRectangles_140 : decode cX7_layRectangles 140 = .ok (.iinc 1 1, 3) := by decide +kernel
theorem dX7_layRectangles_143 : decode cX7_layRectangles 143 = .ok (.iinc 3 1, 3) := by decide +kernel
theorem dX7_layRectangles_146 : decode cX7_layRectangles 146 = .ok (.goto (-132), 3) := by decide +kernel
theorem dX7_layRectangles_149 : decode cX7_layRectangles 149 = .ok (.iinc 2 1, 3) := by decide +kernel
theorem dX7_layRectangles_152 : decode cX7_layRectangles 152 = .ok (.goto (-148), 3) := by decide +kernel
theorem dX7_layRectangles_155 : decode cX7_layRectangles 155 = .ok (.iload_n 1, 1) := by decide +kernel
theorem dX7_layRectangles_156 : decode cX7_layRectangles 156 = .ok (.ireturn, 1) := by decide +kernel
set_option maxRecDepth 20000 in
theorem ggX7_rootOf_X7_least : GoodIn wsX7_rootOf wsX7_least := goodIn_r _ [5, 6, 11, 12, 13, 14, 15, 16, 17, 18, 19, 20, 21, 22] (by decide +kernel) (by decide +kernel)
set_option maxRecDepth 20000 in
theorem gX7_rootOf_X7_least : GoodIn wsX7_rootOf (wsV RX7 87 RX7 yX7_least wsX7_least) := goodIn_app (goodIn_of _ (by decide +kernel)) ggX7_rootOf_X7_least
set_option maxRecDepth 20000 in
theorem ggX7_rootOf_X7_firstWith : GoodIn wsX7_rootOf wsX7_firstWith := goodIn_r _ [10, 6, 11, 12, 13, 14, 15, 16, 17, 18, 19, 20, 21, 22] (by decide +kernel) (by decide +kernel)
set_option maxRecDepth 20000 in
theorem gX7_rootOf_X7_firstWith : GoodIn wsX7_rootOf (wsV RX7 96 RX7 yX7_firstWith wsX7_firstWith) := goodIn_app (goodIn_of _ (by decide +kernel)) ggX7_rootOf_X7_firstWith
theorem dX7_rootOf_0 : decode cX7_rootOf 0 = .ok (.aload_n 0, 1) := by decide +kernel
theorem dX7_rootOf_1 : decode cX7_rootOf 1 = .ok (.iload_n 1, 1) := by decide +kernel
theorem dX7_rootOf_2 : decode cX7_rootOf 2 = .ok (.aload_n 0, 1) := by decide +kernel
theorem dX7_rootOf_3 : decode cX7_rootOf 3 = .ok (.iload_n 1, 1) := by decide +kernel
theorem dX7_rootOf_4 : decode cX7_rootOf 4 = .ok (.iload_n 2, 1) := by decide +kernel
theorem dX7_rootOf_5 : decode cX7_rootOf 5 = .ok (.invokevirtual 87, 3) := by decide +kernel
theorem dX7_rootOf_8 : decode cX7_rootOf 8 = .ok (.invokevirtual 96, 3) := by decide +kernel
theorem dX7_rootOf_11 : decode cX7_rootOf 11 = .ok (.ireturn, 1) := by decide +kernel
set_option maxRecDepth 20000 in
theorem ggX7_treeDepth_X7_many : GoodIn wsX7_treeDepth wsX7_many := goodIn_r _ [6, 7, 20, 21, 22, 23, 24, 25, 26, 27, 28, 29, 30, 31] (by decide +kernel) (by decide +kernel)
set_option maxRecDepth 20000 in
theorem gX7_treeDepth_X7_many : GoodIn wsX7_treeDepth (wsV RX7 37 RX7 yX7_many wsX7_many) := goodIn_app (goodIn_of _ (by decide +kernel)) ggX7_treeDepth_X7_many
set_option maxRecDepth 20000 in
theorem ggX7_treeDepth_X7_rootOf : GoodIn wsX7_treeDepth wsX7_rootOf := goodIn_r _ [11, 12, 13, 14, 5, 15, 7, 16, 17, 18, 19, 20, 21, 22, 23, 24, 25, 26, 27, 28, 29, 30, 31] (by decide +kernel) (by decide +kernel)
set_option maxRecDepth 20000 in
theorem gX7_treeDepth_X7_rootOf : GoodIn wsX7_treeDepth (wsV RX7 102 RX7 yX7_rootOf wsX7_rootOf) := goodIn_app (goodIn_of _ (by decide +kernel)) ggX7_treeDepth_X7_rootOf
theorem dX7_treeDepth_0 : decode cX7_treeDepth 0 = .ok (.iconst 0, 1) := by decide +kernel
theorem dX7_treeDepth_1 : decode cX7_treeDepth 1 = .ok (.istore_n 2, 1) := by decide +kernel
theorem dX7_treeDepth_2 : decode cX7_treeDepth 2 = .ok (.aload_n 0, 1) := by decide +kernel
theorem dX7_treeDepth_3 : decode cX7_treeDepth 3 = .ok (.invokevirtual 37, 3) := by decide +kernel
theorem dX7_treeDepth_6 : decode cX7_treeDepth 6 = .ok (.iconst 1, 1) := by decide +kernel
theorem dX7_treeDepth_7 : decode cX7_treeDepth 7 = .ok (.isub, 1) := by decide +kernel
theorem dX7_treeDepth_8 : decode cX7_treeDepth 8 = .ok (.istore_n 3, 1) := by decide +kernel
theorem dX7_treeDepth_9 : decode cX7_treeDepth 9 = .ok (.iconst 0, 1) := by decide +kernel
theorem dX7_treeDepth_10 : decode cX7_treeDepth 10 = .ok (.istore 4, 2) := by decide +kernel
theorem dX7_treeDepth_12 : decode cX7_treeDepth 12 = .ok (.aload_n 0, 1) := by decide +kernel
theorem dX7_treeDepth_13 : decode cX7_treeDepth 13 = .ok (.bipush (-9), 2) := by decide +kernel
theorem dX7_treeDepth_15 : decode cX7_treeDepth 15 = .ok (.putfield 99, 3) := by decide +kernel
theorem dX7_treeDepth_18 : decode cX7_treeDepth 18 = .ok (.aload_n 0, 1) := by decide +kernel
theorem dX7_treeDepth_19 : decode cX7_treeDepth 19 = .ok (.iload_n 2, 1) := by decide +kernel
theorem dX7_treeDepth_20 : decode cX7_treeDepth 20 = .ok (.iload_n 3, 1) := by decide +kernel
theorem dX7_treeDepth_21 : decode cX7_treeDepth 21 = .ok (.invokevirtual 102, 3) := by decide +kernel
theorem dX7_treeDepth_24 : decode cX7_treeDepth 24 = .ok (.istore 5, 2) := by decide +kernel
theorem dX7_treeDepth_26 : decode cX7_treeDepth 26 = .ok (.iload 5, 2) := by decide +kernel
theorem dX7_treeDepth_28 : decode cX7_treeDepth 28 = .ok (.iload_n 1, 1) := by decide +kernel
theorem dX7_treeDepth_29 : decode cX7_treeDepth 29 = .ok (.if_icmp .eq 53, 3) := by decide +kernel
theorem dX7_treeDepth_32 : decode cX7_treeDepth 32 = .ok (.aload_n 0, 1) := by decide +kernel
theorem dX7_treeDepth_33 : decode cX7_treeDepth 33 = .ok (.iload 5, 2) := by decide +kernel
theorem dX7_treeDepth_35 : decode cX7_treeDepth 35 = .ok (.putfield 99, 3) := by decide +kernel
theorem dX7_treeDepth_38 : decode cX7_treeDepth 38 = .ok (.iload_n 1, 1) := by decide +kernel
theorem dX7_treeDepth_39 : decode cX7_treeDepth 39 = .ok (.iload 5, 2) := by decide +kernel
theorem dX7_treeDepth_41 : decode cX7_treeDepth 41 = .ok (.if_icmp .le 10, 3) := by decide +kernel
theorem dX7_treeDepth_44 : decode cX7_treeDepth 44 = .ok (.iload 5, 2) := by decide +kernel
theorem dX7_treeDepth_46 : decode cX7_treeDepth 46 = .ok (.iconst 1, 1) := by decide +kernel
theorem dX7_treeDepth_47 : decode cX7_treeDepth 47 = .ok (.iadd, 1) := by decide +kernel
theorem dX7_treeDepth_48 : decode cX7_treeDepth 48 = .ok (.goto 4, 3) := by decide +kernel
theorem dX7_treeDepth_51 : decode cX7_treeDepth 51 = .ok (.iload_n 2, 1) := by decide +kernel
theorem dX7_treeDepth_52 : decode cX7_treeDepth 52 = .ok (.istore_n 2, 1) := by decide +kernel
theorem dX7_treeDepth_53 : decode cX7_treeDepth 53 = .ok (.iload_n 1, 1) := by decide +kernel
theorem dX7_treeDepth_54 : decode cX7_treeDepth 54 = .ok (.iload 5, 2) := by decide +kernel
theorem dX7_treeDepth_56 : decode cX7_treeDepth 56 = .ok (.if_icmp .ge 10, 3) := by decide +kernel
theorem dX7_treeDepth_59 : decode cX7_treeDepth 59 = .ok (.iload 5, 2) := by decide +kernel
theorem dX7_treeDepth_61 : decode cX7_treeDepth 61 = .ok (.iconst 1, 1) := by decide +kernel
theorem dX7_treeDepth_62 : decode cX7_treeDepth 62 = .ok (.isub, 1) := by decide +kernel
theorem dX7_treeDepth_63 : decode cX7_treeDepth 63 = .ok (.goto 4, 3) := by decide +kernel
theorem dX7_treeDepth_66 : decode cX7_treeDepth 66 = .ok (.iload_n 3, 1) := by decide +kernel
theorem dX7_treeDepth_67 : decode cX7_treeDepth 67 = .ok (.istore_n 3, 1) := by decide +kernel
theorem dX7_treeDepth_68 : decode cX7_treeDepth 68 = .ok (.aload_n 0, 1) := by decide +kernel
theorem dX7_treeDepth_69 : decode cX7_treeDepth 69 = .ok (.iload_n 2, 1) := by decide +kernel
theorem dX7_treeDepth_70 : decode cX7_treeDepth 70 = .ok (.iload_n 3, 1) := by decide +kernel
theorem dX7_treeDepth_71 : decode cX7_treeDepth 71 = .ok (.invokevirtual 102, 3) := by decide +kernel
theorem dX7_treeDepth_74 : decode cX7_treeDepth 74 = .ok (.istore 5, 2) := by decide +kernel
theorem dX7_treeDepth_76 : decode cX7_treeDepth 76 = .ok (.iinc 4 1, 3) := by decide +kernel
theorem dX7_treeDepth_79 : decode cX7_treeDepth 79 = .ok (.goto (-53), 3) := by decide +kernel
theorem dX7_treeDepth_82 : decode cX7_treeDepth 82 = .ok (.iload 4, 2) := by decide +kernel
theorem dX7_treeDepth_84 : decode cX7_treeDepth 84 = .ok (.ireturn, 1) := by decide +kernel
set_option maxRecDepth 20000 in
theorem ggX7_parentOf_X7_treeDepth : GoodIn wsX7_parentOf wsX7_treeDepth := goodIn_r _ [6, 1, 7, 8, 9, 5, 10, 11, 12, 13, 14, 15, 16, 17, 18, 19, 20, 21, 22, 23, 24, 25, 26, 27, 28, 29, 30, 31, 32, 33, 34, 35] (by decide +kernel) (by decide +kernel)
set_option maxRecDepth 20000 in
theorem gX7_parentOf_X7_treeDepth : GoodIn wsX7_parentOf (wsV RX7 105 RX7 yX7_treeDepth wsX7_treeDepth) := goodIn_app (goodIn_of _ (by decide +kernel)) ggX7_parentOf_X7_treeDepth
theorem dX7_parentOf_0 : decode cX7_parentOf 0 = .ok (.aload_n 0, 1) := by decide +kernel
theorem dX7_parentOf_1 : decode cX7_parentOf 1 = .ok (.iload_n 1, 1) := by decide +kernel
theorem dX7_parentOf_2 : decode cX7_parentOf 2 = .ok (.invokevirtual 105, 3) := by decide +kernel
theorem dX7_parentOf_5 : decode cX7_parentOf 5 = .ok (.istore_n 2, 1) := by decide +kernel
theorem dX7_parentOf_6 : decode cX7_parentOf 6 = .ok (.aload_n 0, 1) := by decide +kernel
theorem dX7_parentOf_7 : decode cX7_parentOf 7 = .ok (.getfield 99, 3) := by decide +kernel
theorem dX7_parentOf_10 : decode cX7_parentOf 10 = .ok (.ireturn, 1) := by decide +kernel
set_option maxRecDepth 20000 in
theorem ggX7_deepest_X7_many : GoodIn wsX7_deepest wsX7_many := goodIn_r _ [5, 6, 24, 25, 26, 27, 28, 29, 30, 31, 32, 33, 34, 35] (by decide +kernel) (by decide +kernel)
set_option maxRecDepth 20000 in
theorem gX7_deepest_X7_many : GoodIn wsX7_deepest (wsV RX7 37 RX7 yX7_many wsX7_many) := goodIn_app (goodIn_of _ (by decide +kernel)) ggX7_deepest_X7_many
set_option maxRecDepth 20000 in
theorem ggX7_deepest_X7_treeDepth : GoodIn wsX7_deepest wsX7_treeDepth := goodIn_r _ [10, 11, 1, 2, 3, 4, 5, 6, 12, 13, 14, 15, 16, 17, 18, 19, 20, 21, 22, 23, 24, 25, 26, 27, 28, 29, 30, 31, 32, 33, 34, 35] (by decide +kernel) (by decide +kernel)
set_option maxRecDepth 20000 in
theorem gX7_deepest_X7_treeDepth : GoodIn wsX7_deepest (wsV RX7 105 RX7 yX7_treeDepth wsX7_treeDepth) := goodIn_app (goodIn_of _ (by decide +kernel)) ggX7_deepest_X7_treeDepth
theorem dX7_deepest_0 : decode cX7_deepest 0 = .ok (.bipush (-9), 2) := by decide +kernel
theorem dX7_deepest_2 : decode cX7_deepest 2 = .ok (.istore_n 1, 1) := by decide +kernel
theorem dX7_deepest_3 : decode cX7_deepest 3 = .ok (.iconst 0, 1) := by decide +kernel
theorem dX7_deepest_4 : decode cX7_deepest 4 = .ok (.istore_n 2, 1) := by decide +kernel
theorem dX7_deepest_5 : decode cX7_deepest 5 = .ok (.iload_n 2, 1) := by decide +kernel
theorem dX7_deepest_6 : decode cX7_deepest 6 = .ok (.aload_n 0, 1) := by decide +kernel
theorem dX7_deepest_7 : decode cX7_deepest 7 = .ok (.invokevirtual 37, 3) := by decide +kernel
theorem dX7_deepest_10 : decode cX7_deepest 10 = .ok (.if_icmp .ge 26, 3) := by decide +kernel
theorem dX7_deepest_13 : decode cX7_deepest 13 = .ok (.aload_n 0, 1) := by decide +kernel
theorem dX7_deepest_14 : decode cX7_deepest 14 = .ok (.iload_n 2, 1) := by decide +kernel
theorem dX7_deepest_15 : decode cX7_deepest 15 = .ok (.invokevirtual 105, 3) := by decide +kernel
theorem dX7_deepest_18 : decode cX7_deepest 18 = .ok (.istore_n 3, 1) := by decide +kernel
theorem dX7_deepest_19 : decode cX7_deepest 19 = .ok (.iload_n 3, 1) := by decide +kernel
theorem dX7_deepest_20 : decode cX7_deepest 20 = .ok (.iload_n 1, 1) := by decide +kernel
theorem dX7_deepest_21 : decode cX7_deepest 21 = .ok (.if_icmp .le 7, 3) := by decide +kernel
theorem dX7_deepest_24 : decode cX7_deepest 24 = .ok (.iload_n 3, 1) := by decide +kernel
theorem dX7_deepest_25 : decode cX7_deepest 25 = .ok (.goto 4, 3) := by decide +kernel
theorem dX7_deepest_28 : decode cX7_deepest 28 = .ok (.iload_n 1, 1) := by decide +kernel
theorem dX7_deepest_29 : decode cX7_deepest 29 = .ok (.istore_n 1, 1) := by decide +kernel
theorem dX7_deepest_30 : decode cX7_deepest 30 = .ok (.iinc 2 1, 3) := by decide +kernel
theorem dX7_deepest_33 : decode cX7_deepest 33 = .ok (.goto (-28), 3) := by decide +kernel
theorem dX7_deepest_36 : decode cX7_deepest 36 = .ok (.iload_n 1, 1) := by decide +kernel
theorem dX7_deepest_37 : decode cX7_deepest 37 = .ok (.ireturn, 1) := by decide +kernel
set_option maxRecDepth 20000 in
theorem ggX7_horizontal_X7_many : GoodIn wsX7_horizontal wsX7_many := goodIn_r _ [6, 1, 7, 8, 9, 10, 11, 12, 13, 14, 15, 16, 17, 18] (by decide +kernel) (by decide +kernel)
set_option maxRecDepth 20000 in
theorem gX7_horizontal_X7_many : GoodIn wsX7_horizontal (wsV RX7 37 RX7 yX7_many wsX7_many) := goodIn_app (goodIn_of _ (by decide +kernel)) ggX7_horizontal_X7_many
theorem dX7_horizontal_0 : decode cX7_horizontal 0 = .ok (.iconst 0, 1) := by decide +kernel
theorem dX7_horizontal_1 : decode cX7_horizontal 1 = .ok (.istore_n 1, 1) := by decide +kernel
theorem dX7_horizontal_2 : decode cX7_horizontal 2 = .ok (.iconst 0, 1) := by decide +kernel
theorem dX7_horizontal_3 : decode cX7_horizontal 3 = .ok (.istore_n 2, 1) := by decide +kernel
theorem dX7_horizontal_4 : decode cX7_horizontal 4 = .ok (.iload_n 2, 1) := by decide +kernel
theorem dX7_horizontal_5 : decode cX7_horizontal 5 = .ok (.aload_n 0, 1) := by decide +kernel
theorem dX7_horizontal_6 : decode cX7_horizontal 6 = .ok (.invokevirtual 37, 3) := by decide +kernel
theorem dX7_horizontal_9 : decode cX7_horizontal 9 = .ok (.if_icmp .ge 51, 3) := by decide +kernel
theorem dX7_horizontal_12 : decode cX7_horizontal 12 = .ok (.iload_n 2, 1) := by decide +kernel
theorem dX7_horizontal_13 : decode cX7_horizontal 13 = .ok (.ifCond .ne 7, 3) := by decide +kernel
theorem dX7_horizontal_16 : decode cX7_horizontal 16 = .ok (.iconst 0, 1) := by decide +kernel
theorem dX7_horizontal_17 : decode cX7_horizontal 17 = .ok (.goto 11, 3) := by decide +kernel
theorem dX7_horizontal_20 : decode cX7_horizontal 20 = .ok (.aload_n 0, 1) := by decide +kernel
theorem dX7_horizontal_21 : decode cX7_horizontal 21 = .ok (.getfield 7, 3) := by decide +kernel
theorem dX7_horizontal_24 : decode cX7_horizontal 24 = .ok (.iload_n 2, 1) := by decide +kernel
theorem dX7_horizontal_25 : decode cX7_horizontal 25 = .ok (.iconst 1, 1) := by decide +kernel
theorem dX7_horizontal_26 : decode cX7_horizontal 26 = .ok (.isub, 1) := by decide +kernel
theorem dX7_horizontal_27 : decode cX7_horizontal 27 = .ok (.iaload, 1) := by decide +kernel
theorem dX7_horizontal_28 : decode cX7_horizontal 28 = .ok (.istore_n 3, 1) := by decide +kernel
theorem dX7_horizontal_29 : decode cX7_horizontal 29 = .ok (.iload_n 1, 1) := by decide +kernel
theorem dX7_horizontal_30 : decode cX7_horizontal 30 = .ok (.aload_n 0, 1) := by decide +kernel
theorem dX7_horizontal_31 : decode cX7_horizontal 31 = .ok (.getfield 7, 3) := by decide +kernel
theorem dX7_horizontal_34 : decode cX7_horizontal 34 = .ok (.iload_n 2, 1) := by decide +kernel
theorem dX7_horizontal_35 : decode cX7_horizontal 35 = .ok (.iaload, 1) := by decide +kernel
theorem dX7_horizontal_36 : decode cX7_horizontal 36 = .ok (.iload_n 3, 1) := by decide +kernel
theorem dX7_horizontal_37 : decode cX7_horizontal 37 = .ok (.if_icmp .le 14, 3) := by decide +kernel
theorem dX7_horizontal_40 : decode cX7_horizontal 40 = .ok (.aload_n 0, 1) := by decide +kernel
theorem dX7_horizontal_41 : decode cX7_horizontal 41 = .ok (.getfield 7, 3) := by decide +kernel
theorem dX7_horizontal_44 : decode cX7_horizontal 44 = .ok (.iload_n 2, 1) := by decide +kernel
theorem dX7_horizontal_45 : decode cX7_horizontal 45 = .ok (.iaload, 1) := by decide +kernel
theorem dX7_horizontal_46 : decode cX7_horizontal 46 = .ok (.iload_n 3, 1) := by decide +kernel
theorem dX7_horizontal_47 : decode cX7_horizontal 47 = .ok (.isub, 1) := by decide +kernel
theorem dX7_horizontal_48 : decode cX7_horizontal 48 = .ok (.goto 4, 3) := by decide +kernel
theorem dX7_horizontal_51 : decode cX7_horizontal 51 = .ok (.iconst 0, 1) := by decide +kernel
theorem dX7_horizontal_52 : decode cX7_horizontal 52 = .ok (.iadd, 1) := by decide +kernel
theorem dX7_horizontal_53 : decode cX7_horizontal 53 = .ok (.istore_n 1, 1) := by decide +kernel
theorem dX7_horizontal_54 : decode cX7_horizontal 54 = .ok (.iinc 2 1, 3) := by decide +kernel
theorem dX7_horizontal_57 : decode cX7_horizontal 57 = .ok (.goto (-53), 3) := by decide +kernel
theorem dX7_horizontal_60 : decode cX7_horizontal 60 = .ok (.iload_n 1, 1) := by decide +kernel
theorem dX7_horizontal_61 : decode cX7_horizontal 61 = .ok (.ireturn, 1) := by decide +kernel
set_option maxRecDepth 20000 in
theorem ggX7_endAbove_X7_many : GoodIn wsX7_endAbove wsX7_many := goodIn_r _ [6, 1, 7, 8, 9, 10, 11, 12, 13, 14, 15, 16, 17, 18] (by decide +kernel) (by decide +kernel)
set_option maxRecDepth 20000 in
theorem gX7_endAbove_X7_many : GoodIn wsX7_endAbove (wsV RX7 37 RX7 yX7_many wsX7_many) := goodIn_app (goodIn_of _ (by decide +kernel)) ggX7_endAbove_X7_many
theorem dX7_endAbove_0 : decode cX7_endAbove 0 = .ok (.iload_n 1, 1) := by decide +kernel
theorem dX7_endAbove_1 : decode cX7_endAbove 1 = .ok (.istore_n 3, 1) := by decide +kernel
theorem dX7_endAbove_2 : decode cX7_endAbove 2 = .ok (.iload_n 3, 1) := by decide +kernel
theorem dX7_endAbove_3 : decode cX7_endAbove 3 = .ok (.iconst 1, 1) := by decide +kernel
theorem dX7_endAbove_4 : decode cX7_endAbove 4 = .ok (.iadd, 1) := by decide +kernel
theorem dX7_endAbove_5 : decode cX7_endAbove 5 = .ok (.aload_n 0, 1) := by decide +kernel
theorem dX7_endAbove_6 : decode cX7_endAbove 6 = .ok (.invokevirtual 37, 3) := by decide +kernel
theorem dX7_endAbove_9 : decode cX7_endAbove 9 = .ok (.if_icmp .ge 21, 3) := by decide +kernel
theorem dX7_endAbove_12 : decode cX7_endAbove 12 = .ok (.aload_n 0, 1) := by decide +kernel
theorem dX7_endAbove_13 : decode cX7_endAbove 13 = .ok (.getfield 7, 3) := by decide +kernel
theorem dX7_endAbove_16 : decode cX7_endAbove 16 = .ok (.iload_n 3, 1) := by decide +kernel
theorem dX7_endAbove_17 : decode cX7_endAbove 17 = .ok (.iconst 1, 1) := by decide +kernel
theorem dX7_endAbove_18 : decode cX7_endAbove 18 = .ok (.iadd, 1) := by decide +kernel
theorem dX7_endAbove_19 : decode cX7_endAbove 19 = .ok (.iaload, 1) := by decide +kernel
theorem dX7_endAbove_20 : decode cX7_endAbove 20 = .ok (.iload_n 2, 1) := by decide +kernel
theorem dX7_endAbove_21 : decode cX7_endAbove 21 = .ok (.if_icmp .le 9, 3) := by decide +kernel
theorem dX7_endAbove_24 : decode cX7_endAbove 24 = .ok (.iinc 3 1, 3) := by decide +kernel
theorem dX7_endAbove_27 : decode cX7_endAbove 27 = .ok (.goto (-25), 3) := by decide +kernel
theorem dX7_endAbove_30 : decode cX7_endAbove 30 = .ok (.iload_n 3, 1) := by decide +kernel
theorem dX7_endAbove_31 : decode cX7_endAbove 31 = .ok (.ireturn, 1) := by decide +kernel
set_option maxRecDepth 20000 in
theorem ggX7_layLevel_X7_many : GoodIn wsX7_layLevel wsX7_many := goodIn_r _ [8, 2, 13, 14, 15, 16, 17, 18, 19, 20, 21, 22, 23, 24] (by decide +kernel) (by decide +kernel)
set_option maxRecDepth 20000 in
theorem gX7_layLevel_X7_many : GoodIn wsX7_layLevel (wsV RX7 37 RX7 yX7_many wsX7_many) := goodIn_app (goodIn_of _ (by decide +kernel)) ggX7_layLevel_X7_many
set_option maxRecDepth 20000 in
theorem ggX7_layLevel_X7_endAbove : GoodIn wsX7_layLevel wsX7_endAbove := goodIn_r _ [12, 2, 4, 5, 6, 7, 8, 13, 14, 15, 16, 17, 18, 19, 20, 21, 22, 23, 24] (by decide +kernel) (by decide +kernel)
set_option maxRecDepth 20000 in
theorem gX7_layLevel_X7_endAbove : GoodIn wsX7_layLevel (wsV RX7 108 RX7 yX7_endAbove wsX7_endAbove) := goodIn_app (goodIn_of _ (by decide +kernel)) ggX7_layLevel_X7_endAbove
theorem dX7_layLevel_0 : decode cX7_layLevel 0 = .ok (.iconst 0, 1) := by decide +kernel
theorem dX7_layLevel_1 : decode cX7_layLevel 1 = .ok (.istore_n 2, 1) := by decide +kernel
theorem dX7_layLevel_2 : decode cX7_layLevel 2 = .ok (.iload_n 2, 1) := by decide +kernel
theorem dX7_layLevel_3 : decode cX7_layLevel 3 = .ok (.aload_n 0, 1) := by decide +kernel
theorem dX7_layLevel_4 : decode cX7_layLevel 4 = .ok (.invokevirtual 37, 3) := by decide +kernel
theorem dX7_layLevel_7 : decode cX7_layLevel 7 = .ok (.if_icmp .ge 105, 3) := by decide +kernel
theorem dX7_layLevel_10 : decode cX7_layLevel 10 = .ok (.aload_n 0, 1) := by decide +kernel
theorem dX7_layLevel_11 : decode cX7_layLevel 11 = .ok (.getfield 34, 3) := by decide +kernel
theorem dX7_layLevel_14 : decode cX7_layLevel 14 = .ok (.iload_n 2, 1) := by decide +kernel
theorem dX7_layLevel_15 : decode cX7_layLevel 15 = .ok (.iconst 0, 1) := by decide +kernel
theorem dX7_layLevel_16 : decode cX7_layLevel 16 = .ok (.iastore, 1) := by decide +kernel
theorem dX7_layLevel_17 : decode cX7_layLevel 17 = .ok (.aload_n 0, 1) := by decide +kernel
theorem dX7_layLevel_18 : decode cX7_layLevel 18 = .ok (.getfield 7, 3) := by decide +kernel
theorem dX7_layLevel_21 : decode cX7_layLevel 21 = .ok (.iload_n 2, 1) := by decide +kernel
theorem dX7_layLevel_22 : decode cX7_layLevel 22 = .ok (.iaload, 1) := by decide +kernel
theorem dX7_layLevel_23 : decode cX7_layLevel 23 = .ok (.iload_n 1, 1) := by decide +kernel
theorem dX7_layLevel_24 : decode cX7_layLevel 24 = .ok (.if_icmp .le 82, 3) := by decide +kernel
theorem dX7_layLevel_27 : decode cX7_layLevel 27 = .ok (.iload_n 2, 1) := by decide +kernel
theorem dX7_layLevel_28 : decode cX7_layLevel 28 = .ok (.ifCond .eq 15, 3) := by decide +kernel
theorem dX7_layLevel_31 : decode cX7_layLevel 31 = .ok (.aload_n 0, 1) := by decide +kernel
theorem dX7_layLevel_32 : decode cX7_layLevel 32 = .ok (.getfield 7, 3) := by decide +kernel
theorem dX7_layLevel_35 : decode cX7_layLevel 35 = .ok (.iload_n 2, 1) := by decide +kernel
theorem dX7_layLevel_36 : decode cX7_layLevel 36 = .ok (.iconst 1, 1) := by decide +kernel
theorem dX7_layLevel_37 : decode cX7_layLevel 37 = .ok (.isub, 1) := by decide +kernel
theorem dX7_layLevel_38 : decode cX7_layLevel 38 = .ok (.iaload, 1) := by decide +kernel
theorem dX7_layLevel_39 : decode cX7_layLevel 39 = .ok (.iload_n 1, 1) := by decide +kernel
theorem dX7_layLevel_40 : decode cX7_layLevel 40 = .ok (.if_icmp .gt 66, 3) := by decide +kernel
theorem dX7_layLevel_43 : decode cX7_layLevel 43 = .ok (.aload_n 0, 1) := by decide +kernel
theorem dX7_layLevel_44 : decode cX7_layLevel 44 = .ok (.iload_n 2, 1) := by decide +kernel
theorem dX7_layLevel_45 : decode cX7_layLevel 45 = .ok (.iload_n 1, 1) := by decide +kernel
theorem dX7_layLevel_46 : decode cX7_layLevel 46 = .ok (.invokevirtual 108, 3) := by decide +kernel
theorem dX7_layLevel_49 : decode cX7_layLevel 49 = .ok (.istore_n 3, 1) := by decide +kernel
theorem dX7_layLevel_50 : decode cX7_layLevel 50 = .ok (.iconst 1, 1) := by decide +kernel
theorem dX7_layLevel_51 : decode cX7_layLevel 51 = .ok (.istore 4, 2) := by decide +kernel
theorem dX7_layLevel_53 : decode cX7_layLevel 53 = .ok (.iload_n 2, 1) := by decide +kernel
theorem dX7_layLevel_54 : decode cX7_layLevel 54 = .ok (.istore 5, 2) := by decide +kernel
theorem dX7_layLevel_56 : decode cX7_layLevel 56 = .ok (.iload 5, 2) := by decide +kernel
theorem dX7_layLevel_58 : decode cX7_layLevel 58 = .ok (.iload_n 3, 1) := by decide +kernel
theorem dX7_layLevel_59 : decode cX7_layLevel 59 = .ok (.if_icmp .gt 21, 3) := by decide +kernel
theorem dX7_layLevel_62 : decode cX7_layLevel 62 = .ok (.iload 4, 2) := by decide +kernel
theorem dX7_layLevel_64 : decode cX7_layLevel 64 = .ok (.aload_n 0, 1) := by decide +kernel
theorem dX7_layLevel_65 : decode cX7_layLevel 65 = .ok (.getfield 31, 3) := by decide +kernel
theorem dX7_layLevel_68 : decode cX7_layLevel 68 = .ok (.iload 5, 2) := by decide +kernel
theorem dX7_layLevel_70 : decode cX7_layLevel 70 = .ok (.iaload, 1) := by decide +kernel
theorem dX7_layLevel_71 : decode cX7_layLevel 71 = .ok (.iadd, 1) := by decide +kernel
theorem dX7_layLevel_72 : decode cX7_layLevel 72 = .ok (.istore 4, 2) := by decide +kernel
theorem dX7_layLevel_74 : decode cX7_layLevel 74 = .ok (.iinc 5 1, 3) := by decide +kernel
theorem dX7_layLevel_77 : decode cX7_layLevel 77 = .ok (.goto (-21), 3) := by decide +kernel
theorem dX7_layLevel_80 : decode cX7_layLevel 80 = .ok (.aload_n 0, 1) := by decide +kernel
theorem dX7_layLevel_81 : decode cX7_layLevel 81 = .ok (.getfield 34, 3) := by decide +kernel
theorem dX7_layLevel_84 : decode cX7_layLevel 84 = .ok (.iload_n 2, 1) := by decide +kernel
theorem dX7_layLevel_85 : decode cX7_layLevel 85 = .ok (.iload 4, 2) := by decide +kernel
theorem dX7_layLevel_87 : decode cX7_layLevel 87 = .ok (.iload_n 3, 1) := by decide +kernel
theorem dX7_layLevel_88 : decode cX7_layLevel 88 = .ok (.iload_n 2, 1) := by decide +kernel
theorem dX7_layLevel_89 : decode cX7_layLevel 89 = .ok (.isub, 1) := by decide +kernel
theorem dX7_layLevel_90 : decode cX7_layLevel 90 = .ok (.iconst 1, 1) := by decide +kernel
theorem dX7_layLevel_91 : decode cX7_layLevel 91 = .ok (.iadd, 1) := by decide +kernel
theorem dX7_layLevel_92 : decode cX7_layLevel 92 = .ok (.if_icmp .ge 8, 3) := by decide +kernel
theorem dX7_layLevel_95 : decode cX7_layLevel 95 = .ok (.iload 4, 2) := by decide +kernel
theorem dX7_layLevel_97 : decode cX7_layLevel 97 = .ok (.goto 8, 3) := by decide +kernel
theorem dX7_layLevel_100 : decode cX7_layLevel 100 = .ok (.iload_n 3, 1) := by decide +kernel
theorem dX7_layLevel_101 : decode cX7_layLevel 101 = .ok (.iload_n 2, 1) := by decide +kernel
theorem dX7_layLevel_102 : decode cX7_layLevel 102 = .ok (.isub, 1) := by decide +kernel
theorem dX7_layLevel_103 : decode cX7_layLevel 103 = .ok (.iconst 1, 1) := by decide +kernel
theorem dX7_layLevel_104 : decode cX7_layLevel 104 = .ok (.iadd, 1) := by decide +kernel
theorem dX7_layLevel_105 : decode cX7_layLevel 105 = .ok (.iastore, 1) := by decide +kernel
theorem dX7_layLevel_106 : decode cX7_layLevel 106 = .ok (.iinc 2 1, 3) := by decide +kernel
theorem dX7_layLevel_109 : decode cX7_layLevel 109 = .ok (.goto (-107), 3) := by decide +kernel
theorem dX7_layLevel_112 : decode cX7_layLevel 112 = .ok (.iconst 0, 1) := by decide +kernel
theorem dX7_layLevel_113 : decode cX7_layLevel 113 = .ok (.istore_n 2, 1) := by decide +kernel
theorem dX7_layLevel_114 : decode cX7_layLevel 114 = .ok (.iload_n 2, 1) := by decide +kernel
theorem dX7_layLevel_115 : decode cX7_layLevel 115 = .ok (.aload_n 0, 1) := by decide +kernel
theorem dX7_layLevel_116 : decode cX7_layLevel 116 = .ok (.invokevirtual 37, 3) := by decide +kernel
theorem dX7_layLevel_119 : decode cX7_layLevel 119 = .ok (.if_icmp .ge 21, 3) := by decide +kernel
theorem dX7_layLevel_122 : decode cX7_layLevel 122 = .ok (.aload_n 0, 1) := by decide +kernel
theorem dX7_layLevel_123 : decode cX7_layLevel 123 = .ok (.getfield 31, 3) := by decide +kernel
theorem dX7_layLevel_126 : decode cX7_layLevel 126 = .ok (.iload_n 2, 1) := by decide +kernel
theorem dX7_layLevel_127 : decode cX7_layLevel 127 = .ok (.aload_n 0, 1) := by decide +kernel
theorem dX7_layLevel_128 : decode cX7_layLevel 128 = .ok (.getfield 34, 3) := by decide +kernel
theorem dX7_layLevel_131 : decode cX7_layLevel 131 = .ok (.iload_n 2, 1) := by decide +kernel
theorem dX7_layLevel_132 : decode cX7_layLevel 132 = .ok (.iaload, 1) := by decide +kernel
theorem dX7_layLevel_133 : decode cX7_layLevel 133 = .ok (.iastore, 1) := by decide +kernel
theorem dX7_layLevel_134 : decode cX7_layLevel 134 = .ok (.iinc 2 1, 3) := by decide +kernel
theorem dX7_layLevel_137 : decode cX7_layLevel 137 = .ok (.goto (-23), 3) := by decide +kernel
theorem dX7_layLevel_140 : decode cX7_layLevel 140 = .ok (.return_, 1) := by decide +kernel
set_option maxRecDepth 20000 in
theorem ggX7_strokes_X7_layLevel : GoodIn wsX7_strokes wsX7_layLevel := goodIn_r _ [6, 7, 8, 1, 9, 10, 11, 5, 12, 13, 14, 15, 16, 17, 18, 19, 20, 21, 22, 23, 24, 25, 26, 27, 28] (by decide +kernel) (by decide +kernel)
set_option maxRecDepth 20000 in
theorem gX7_strokes_X7_layLevel : GoodIn wsX7_strokes (wsV RX7 111 RX7 yX7_layLevel wsX7_layLevel) := goodIn_app (goodIn_of _ (by decide +kernel)) ggX7_strokes_X7_layLevel
set_option maxRecDepth 20000 in
theorem ggX7_strokes_X7_many : GoodIn wsX7_strokes wsX7_many := goodIn_r _ [12, 8, 17, 18, 19, 20, 21, 22, 23, 24, 25, 26, 27, 28] (by decide +kernel) (by decide +kernel)
set_option maxRecDepth 20000 in
theorem gX7_strokes_X7_many : GoodIn wsX7_strokes (wsV RX7 37 RX7 yX7_many wsX7_many) := goodIn_app (goodIn_of _ (by decide +kernel)) ggX7_strokes_X7_many
theorem dX7_strokes_0 : decode cX7_strokes 0 = .ok (.iconst 0, 1) := by decide +kernel
theorem dX7_strokes_1 : decode cX7_strokes 1 = .ok (.istore_n 1, 1) := by decide +kernel
theorem dX7_strokes_2 : decode cX7_strokes 2 = .ok (.iload_n 1, 1) := by decide +kernel
theorem dX7_strokes_3 : decode cX7_strokes 3 = .ok (.bipush 40, 2) := by decide +kernel
theorem dX7_strokes_5 : decode cX7_strokes 5 = .ok (.if_icmp .gt 16, 3) := by decide +kernel
theorem dX7_strokes_8 : decode cX7_strokes 8 = .ok (.aload_n 0, 1) := by decide +kernel
theorem dX7_strokes_9 : decode cX7_strokes 9 = .ok (.getfield 31, 3) := by decide +kernel
theorem dX7_strokes_12 : decode cX7_strokes 12 = .ok (.iload_n 1, 1) := by decide +kernel
theorem dX7_strokes_13 : decode cX7_strokes 13 = .ok (.iconst 0, 1) := by decide +kernel
theorem dX7_strokes_14 : decode cX7_strokes 14 = .ok (.iastore, 1) := by decide +kernel
theorem dX7_strokes_15 : decode cX7_strokes 15 = .ok (.iinc 1 1, 3) := by decide +kernel
theorem dX7_strokes_18 : decode cX7_strokes 18 = .ok (.goto (-16), 3) := by decide +kernel
theorem dX7_strokes_21 : decode cX7_strokes 21 = .ok (.bipush 49, 2) := by decide +kernel
theorem dX7_strokes_23 : decode cX7_strokes 23 = .ok (.istore_n 1, 1) := by decide +kernel
theorem dX7_strokes_24 : decode cX7_strokes 24 = .ok (.iload_n 1, 1) := by decide +kernel
theorem dX7_strokes_25 : decode cX7_strokes 25 = .ok (.ifCond .lt 14, 3) := by decide +kernel
theorem dX7_strokes_28 : decode cX7_strokes 28 = .ok (.aload_n 0, 1) := by decide +kernel
theorem dX7_strokes_29 : decode cX7_strokes 29 = .ok (.iload_n 1, 1) := by decide +kernel
theorem dX7_strokes_30 : decode cX7_strokes 30 = .ok (.invokevirtual 111, 3) := by decide +kernel
theorem dX7_strokes_33 : decode cX7_strokes 33 = .ok (.iinc 1 (-1), 3) := by decide +kernel
theorem dX7_strokes_36 : decode cX7_strokes 36 = .ok (.goto (-12), 3) := by decide +kernel
theorem dX7_strokes_39 : decode cX7_strokes 39 = .ok (.iconst 0, 1) := by decide +kernel
theorem dX7_strokes_40 : decode cX7_strokes 40 = .ok (.istore_n 1, 1) := by decide +kernel
theorem dX7_strokes_41 : decode cX7_strokes 41 = .ok (.iconst 0, 1) := by decide +kernel
theorem dX7_strokes_42 : decode cX7_strokes 42 = .ok (.istore_n 2, 1) := by decide +kernel
theorem dX7_strokes_43 : decode cX7_strokes 43 = .ok (.iload_n 2, 1) := by decide +kernel
theorem dX7_strokes_44 : decode cX7_strokes 44 = .ok (.aload_n 0, 1) := by decide +kernel
theorem dX7_strokes_45 : decode cX7_strokes 45 = .ok (.invokevirtual 37, 3) := by decide +kernel
theorem dX7_strokes_48 : decode cX7_strokes 48 = .ok (.if_icmp .ge 18, 3) := by decide +kernel
theorem dX7_strokes_51 : decode cX7_strokes 51 = .ok (.iload_n 1, 1) := by decide +kernel
theorem dX7_strokes_52 : decode cX7_strokes 52 = .ok (.aload_n 0, 1) := by decide +kernel
theorem dX7_strokes_53 : decode cX7_strokes 53 = .ok (.getfield 31, 3) := by decide +kernel
theorem dX7_strokes_56 : decode cX7_strokes 56 = .ok (.iload_n 2, 1) := by decide +kernel
theorem dX7_strokes_57 : decode cX7_strokes 57 = .ok (.iaload, 1) := by decide +kernel
theorem dX7_strokes_58 : decode cX7_strokes 58 = .ok (.iadd, 1) := by decide +kernel
theorem dX7_strokes_59 : decode cX7_strokes 59 = .ok (.istore_n 1, 1) := by decide +kernel
theorem dX7_strokes_60 : decode cX7_strokes 60 = .ok (.iinc 2 1, 3) := by decide +kernel
theorem dX7_strokes_63 : decode cX7_strokes 63 = .ok (.goto (-20), 3) := by decide +kernel
theorem dX7_strokes_66 : decode cX7_strokes 66 = .ok (.iload_n 1, 1) := by decide +kernel
theorem dX7_strokes_67 : decode cX7_strokes 67 = .ok (.ireturn, 1) := by decide +kernel
set_option maxRecDepth 20000 in
theorem ggX7_standing_X7_many : GoodIn wsX7_standing wsX7_many := goodIn_r _ [6, 1, 11, 12, 13, 14, 15, 16, 17, 18, 19, 20, 21, 22] (by decide +kernel) (by decide +kernel)
set_option maxRecDepth 20000 in
theorem gX7_standing_X7_many : GoodIn wsX7_standing (wsV RX7 37 RX7 yX7_many wsX7_many) := goodIn_app (goodIn_of _ (by decide +kernel)) ggX7_standing_X7_many
set_option maxRecDepth 20000 in
theorem ggX7_standing_X7_greatest : GoodIn wsX7_standing wsX7_greatest := goodIn_r _ [10, 1, 11, 12, 13, 14, 15, 16, 17, 18, 19, 20, 21, 22] (by decide +kernel) (by decide +kernel)
set_option maxRecDepth 20000 in
theorem gX7_standing_X7_greatest : GoodIn wsX7_standing (wsV RX7 78 RX7 yX7_greatest wsX7_greatest) := goodIn_app (goodIn_of _ (by decide +kernel)) ggX7_standing_X7_greatest
theorem dX7_standing_0 : decode cX7_standing 0 = .ok (.iconst 0, 1) := by decide +kernel
theorem dX7_standing_1 : decode cX7_standing 1 = .ok (.istore_n 2, 1) := by decide +kernel
theorem dX7_standing_2 : decode cX7_standing 2 = .ok (.iconst 0, 1) := by decide +kernel
theorem dX7_standing_3 : decode cX7_standing 3 = .ok (.istore_n 3, 1) := by decide +kernel
theorem dX7_standing_4 : decode cX7_standing 4 = .ok (.iload_n 3, 1) := by decide +kernel
theorem dX7_standing_5 : decode cX7_standing 5 = .ok (.aload_n 0, 1) := by decide +kernel
theorem dX7_standing_6 : decode cX7_standing 6 = .ok (.invokevirtual 37, 3) := by decide +kernel
end
section
theorem dX7_standing_9 : decode cX7_standing 9 = .ok (.if_icmp .ge 94, 3) := by decide +kernel
theorem dX7_standing_12 : decode cX7_standing 12 = .ok (.iload_n 1, 1) := by decide +kernel
theorem dX7_standing_13 : decode cX7_standing 13 = .ok (.ifCond .eq 32, 3) := by decide +kernel
theorem dX7_standing_16 : decode cX7_standing 16 = .ok (.iload_n 3, 1) := by decide +kernel
theorem dX7_standing_17 : decode cX7_standing 17 = .ok (.ifCond .eq 20, 3) := by decide +kernel
theorem dX7_standing_20 : decode cX7_standing 20 = .ok (.aload_n 0, 1) := by decide +kernel
theorem dX7_standing_21 : decode cX7_standing 21 = .ok (.iconst 0, 1) := by decide +kernel
theorem dX7_standing_22 : decode cX7_standing 22 = .ok (.iload_n 3, 1) := by decide +kernel
theorem dX7_standing_23 : decode cX7_standing 23 = .ok (.iconst 1, 1) := by decide +kernel
theorem dX7_standing_24 : decode cX7_standing 24 = .ok (.isub, 1) := by decide +kernel
theorem dX7_standing_25 : decode cX7_standing 25 = .ok (.invokevirtual 78, 3) := by decide +kernel
theorem dX7_standing_28 : decode cX7_standing 28 = .ok (.aload_n 0, 1) := by decide +kernel
theorem dX7_standing_29 : decode cX7_standing 29 = .ok (.getfield 7, 3) := by decide +kernel
theorem dX7_standing_32 : decode cX7_standing 32 = .ok (.iload_n 3, 1) := by decide +kernel
theorem dX7_standing_33 : decode cX7_standing 33 = .ok (.iaload, 1) := by decide +kernel
theorem dX7_standing_34 : decode cX7_standing 34 = .ok (.if_icmp .ge 7, 3) := by decide +kernel
theorem dX7_standing_37 : decode cX7_standing 37 = .ok (.iconst 1, 1) := by decide +kernel
theorem dX7_standing_38 : decode cX7_standing 38 = .ok (.goto 44, 3) := by decide +kernel
theorem dX7_standing_41 : decode cX7_standing 41 = .ok (.iconst 0, 1) := by decide +kernel
theorem dX7_standing_42 : decode cX7_standing 42 = .ok (.goto 40, 3) := by decide +kernel
theorem dX7_standing_45 : decode cX7_standing 45 = .ok (.iload_n 3, 1) := by decide +kernel
theorem dX7_standing_46 : decode cX7_standing 46 = .ok (.aload_n 0, 1) := by decide +kernel
theorem dX7_standing_47 : decode cX7_standing 47 = .ok (.invokevirtual 37, 3) := by decide +kernel
theorem dX7_standing_50 : decode cX7_standing 50 = .ok (.iconst 1, 1) := by decide +kernel
theorem dX7_standing_51 : decode cX7_standing 51 = .ok (.isub, 1) := by decide +kernel
theorem dX7_standing_52 : decode cX7_standing 52 = .ok (.if_icmp .eq 25, 3) := by decide +kernel
theorem dX7_standing_55 : decode cX7_standing 55 = .ok (.aload_n 0, 1) := by decide +kernel
theorem dX7_standing_56 : decode cX7_standing 56 = .ok (.iload_n 3, 1) := by decide +kernel
theorem dX7_standing_57 : decode cX7_standing 57 = .ok (.iconst 1, 1) := by decide +kernel
theorem dX7_standing_58 : decode cX7_standing 58 = .ok (.iadd, 1) := by decide +kernel
theorem dX7_standing_59 : decode cX7_standing 59 = .ok (.aload_n 0, 1) := by decide +kernel
theorem dX7_standing_60 : decode cX7_standing 60 = .ok (.invokevirtual 37, 3) := by decide +kernel
theorem dX7_standing_63 : decode cX7_standing 63 = .ok (.iconst 1, 1) := by decide +kernel
theorem dX7_standing_64 : decode cX7_standing 64 = .ok (.isub, 1) := by decide +kernel
theorem dX7_standing_65 : decode cX7_standing 65 = .ok (.invokevirtual 78, 3) := by decide +kernel
theorem dX7_standing_68 : decode cX7_standing 68 = .ok (.aload_n 0, 1) := by decide +kernel
theorem dX7_standing_69 : decode cX7_standing 69 = .ok (.getfield 7, 3) := by decide +kernel
theorem dX7_standing_72 : decode cX7_standing 72 = .ok (.iload_n 3, 1) := by decide +kernel
theorem dX7_standing_73 : decode cX7_standing 73 = .ok (.iaload, 1) := by decide +kernel
theorem dX7_standing_74 : decode cX7_standing 74 = .ok (.if_icmp .ge 7, 3) := by decide +kernel
theorem dX7_standing_77 : decode cX7_standing 77 = .ok (.iconst 1, 1) := by decide +kernel
theorem dX7_standing_78 : decode cX7_standing 78 = .ok (.goto 4, 3) := by decide +kernel
theorem dX7_standing_81 : decode cX7_standing 81 = .ok (.iconst 0, 1) := by decide +kernel
theorem dX7_standing_82 : decode cX7_standing 82 = .ok (.istore 4, 2) := by decide +kernel
theorem dX7_standing_84 : decode cX7_standing 84 = .ok (.iload_n 2, 1) := by decide +kernel
theorem dX7_standing_85 : decode cX7_standing 85 = .ok (.iload 4, 2) := by decide +kernel
theorem dX7_standing_87 : decode cX7_standing 87 = .ok (.ifCond .eq 7, 3) := by decide +kernel
theorem dX7_standing_90 : decode cX7_standing 90 = .ok (.iconst 1, 1) := by decide +kernel
theorem dX7_standing_91 : decode cX7_standing 91 = .ok (.goto 4, 3) := by decide +kernel
theorem dX7_standing_94 : decode cX7_standing 94 = .ok (.iconst 0, 1) := by decide +kernel
theorem dX7_standing_95 : decode cX7_standing 95 = .ok (.iadd, 1) := by decide +kernel
theorem dX7_standing_96 : decode cX7_standing 96 = .ok (.istore_n 2, 1) := by decide +kernel
theorem dX7_standing_97 : decode cX7_standing 97 = .ok (.iinc 3 1, 3) := by decide +kernel
theorem dX7_standing_100 : decode cX7_standing 100 = .ok (.goto (-96), 3) := by decide +kernel
theorem dX7_standing_103 : decode cX7_standing 103 = .ok (.iload_n 2, 1) := by decide +kernel
theorem dX7_standing_104 : decode cX7_standing 104 = .ok (.ireturn, 1) := by decide +kernel
set_option maxRecDepth 20000 in
theorem ggX7_told_X7_many : GoodIn wsX7_told wsX7_many := goodIn_r _ [6, 7, 101, 102, 103, 104, 105, 106, 107, 108, 109, 110, 111, 112] (by decide +kernel) (by decide +kernel)
set_option maxRecDepth 20000 in
theorem gX7_told_X7_many : GoodIn wsX7_told (wsV RX7 37 RX7 yX7_many wsX7_many) := goodIn_app (goodIn_of _ (by decide +kernel)) ggX7_told_X7_many
set_option maxRecDepth 20000 in
theorem ggX7_told_X7_sum : GoodIn wsX7_told wsX7_sum := goodIn_r _ [11, 7, 101, 102, 103, 104, 105, 106, 107, 108, 109, 110, 111, 112] (by decide +kernel) (by decide +kernel)
set_option maxRecDepth 20000 in
theorem gX7_told_X7_sum : GoodIn wsX7_told (wsV RX7 115 RX7 yX7_sum wsX7_sum) := goodIn_app (goodIn_of _ (by decide +kernel)) ggX7_told_X7_sum
set_option maxRecDepth 20000 in
theorem ggX7_told_X7_greatest : GoodIn wsX7_told wsX7_greatest := goodIn_r _ [15, 7, 101, 102, 103, 104, 105, 106, 107, 108, 109, 110, 111, 112] (by decide +kernel) (by decide +kernel)
set_option maxRecDepth 20000 in
theorem gX7_told_X7_greatest : GoodIn wsX7_told (wsV RX7 78 RX7 yX7_greatest wsX7_greatest) := goodIn_app (goodIn_of _ (by decide +kernel)) ggX7_told_X7_greatest
set_option maxRecDepth 20000 in
theorem ggX7_told_X7_water : GoodIn wsX7_told wsX7_water := goodIn_r _ [19, 20, 21, 22, 5, 23, 7, 12, 13, 14, 15, 101, 102, 103, 104, 105, 106, 107, 108, 109, 110, 111, 112] (by decide +kernel) (by decide +kernel)
set_option maxRecDepth 20000 in
theorem gX7_told_X7_water : GoodIn wsX7_told (wsV RX7 71 RX7 yX7_water wsX7_water) := goodIn_app (goodIn_of _ (by decide +kernel)) ggX7_told_X7_water
set_option maxRecDepth 20000 in
theorem ggX7_told_X7_pools : GoodIn wsX7_told wsX7_pools := goodIn_r _ [27, 2, 3, 4, 5, 6, 7, 28, 29, 30, 31, 32, 33, 34, 35, 36, 37, 38, 39, 40, 41, 42, 20, 21, 22, 23, 12, 13, 14, 15, 101, 102, 103, 104, 105, 106, 107, 108, 109, 110, 111, 112] (by decide +kernel) (by decide +kernel)
set_option maxRecDepth 20000 in
theorem gX7_told_X7_pools : GoodIn wsX7_told (wsV RX7 118 RX7 yX7_pools wsX7_pools) := goodIn_app (goodIn_of _ (by decide +kernel)) ggX7_told_X7_pools
set_option maxRecDepth 20000 in
theorem ggX7_told_X7_layRectangles : GoodIn wsX7_told wsX7_layRectangles := goodIn_r _ [46, 47, 48, 49, 2, 3, 4, 5, 6, 7, 50, 51, 52, 53, 54, 55, 56, 57, 58, 59, 60, 61, 101, 102, 103, 104, 105, 106, 107, 108, 109, 110, 111, 112] (by decide +kernel) (by decide +kernel)
set_option maxRecDepth 20000 in
theorem gX7_told_X7_layRectangles : GoodIn wsX7_told (wsV RX7 121 RX7 yX7_layRectangles wsX7_layRectangles) := goodIn_app (goodIn_of _ (by decide +kernel)) ggX7_told_X7_layRectangles
set_option maxRecDepth 20000 in
theorem ggX7_told_X7_standing : GoodIn wsX7_told wsX7_standing := goodIn_r _ [65, 7, 2, 3, 4, 5, 6, 12, 13, 14, 15, 101, 102, 103, 104, 105, 106, 107, 108, 109, 110, 111, 112] (by decide +kernel) (by decide +kernel)
set_option maxRecDepth 20000 in
theorem gX7_told_X7_standing : GoodIn wsX7_told (wsV RX7 124 RX7 yX7_standing wsX7_standing) := goodIn_app (goodIn_of _ (by decide +kernel)) ggX7_told_X7_standing
set_option maxRecDepth 20000 in
theorem ggX7_told_X7_deepest : GoodIn wsX7_told wsX7_deepest := goodIn_r _ [69, 2, 3, 4, 5, 6, 7, 70, 71, 72, 73, 74, 75, 76, 77, 78, 54, 55, 56, 57, 79, 80, 81, 82, 101, 102, 103, 104, 105, 106, 107, 108, 109, 110, 111, 112] (by decide +kernel) (by decide +kernel)
set_option maxRecDepth 20000 in
theorem gX7_told_X7_deepest : GoodIn wsX7_told (wsV RX7 128 RX7 yX7_deepest wsX7_deepest) := goodIn_app (goodIn_of _ (by decide +kernel)) ggX7_told_X7_deepest
set_option maxRecDepth 20000 in
theorem ggX7_told_X7_horizontal : GoodIn wsX7_told wsX7_horizontal := goodIn_r _ [86, 7, 2, 3, 4, 5, 6, 101, 102, 103, 104, 105, 106, 107, 108, 109, 110, 111, 112] (by decide +kernel) (by decide +kernel)
set_option maxRecDepth 20000 in
theorem gX7_told_X7_horizontal : GoodIn wsX7_told (wsV RX7 131 RX7 yX7_horizontal wsX7_horizontal) := goodIn_app (goodIn_of _ (by decide +kernel)) ggX7_told_X7_horizontal
set_option maxRecDepth 20000 in
theorem ggX7_told_X7_strokes : GoodIn wsX7_told wsX7_strokes := goodIn_r _ [90, 91, 92, 93, 94, 5, 95, 96, 7, 2, 3, 4, 6, 97, 98, 99, 100, 101, 102, 103, 104, 105, 106, 107, 108, 109, 110, 111, 112] (by decide +kernel) (by decide +kernel)
set_option maxRecDepth 20000 in
theorem gX7_told_X7_strokes : GoodIn wsX7_told (wsV RX7 134 RX7 yX7_strokes wsX7_strokes) := goodIn_app (goodIn_of _ (by decide +kernel)) ggX7_told_X7_strokes
theorem dX7_told_0 : decode cX7_told 0 = .ok (.iload_n 1, 1) := by decide +kernel
theorem dX7_told_1 : decode cX7_told 1 = .ok (.tableswitch 157 0 11 #[63, 68, 80, 103, 115, 120, 125, 131, 137, 142, 147, 152], 63) := by decide +kernel
theorem dX7_told_64 : decode cX7_told 64 = .ok (.aload_n 0, 1) := by decide +kernel
theorem dX7_told_65 : decode cX7_told 65 = .ok (.invokevirtual 37, 3) := by decide +kernel
theorem dX7_told_68 : decode cX7_told 68 = .ok (.ireturn, 1) := by decide +kernel
theorem dX7_told_69 : decode cX7_told 69 = .ok (.aload_n 0, 1) := by decide +kernel
theorem dX7_told_70 : decode cX7_told 70 = .ok (.iconst 0, 1) := by decide +kernel
theorem dX7_told_71 : decode cX7_told 71 = .ok (.aload_n 0, 1) := by decide +kernel
theorem dX7_told_72 : decode cX7_told 72 = .ok (.invokevirtual 37, 3) := by decide +kernel
theorem dX7_told_75 : decode cX7_told 75 = .ok (.iconst 1, 1) := by decide +kernel
theorem dX7_told_76 : decode cX7_told 76 = .ok (.isub, 1) := by decide +kernel
theorem dX7_told_77 : decode cX7_told 77 = .ok (.invokevirtual 115, 3) := by decide +kernel
theorem dX7_told_80 : decode cX7_told 80 = .ok (.ireturn, 1) := by decide +kernel
theorem dX7_told_81 : decode cX7_told 81 = .ok (.aload_n 0, 1) := by decide +kernel
theorem dX7_told_82 : decode cX7_told 82 = .ok (.invokevirtual 37, 3) := by decide +kernel
theorem dX7_told_85 : decode cX7_told 85 = .ok (.ifCond .ne 7, 3) := by decide +kernel
theorem dX7_told_88 : decode cX7_told 88 = .ok (.iconst 0, 1) := by decide +kernel
theorem dX7_told_89 : decode cX7_told 89 = .ok (.goto 14, 3) := by decide +kernel
theorem dX7_told_92 : decode cX7_told 92 = .ok (.aload_n 0, 1) := by decide +kernel
theorem dX7_told_93 : decode cX7_told 93 = .ok (.iconst 0, 1) := by decide +kernel
theorem dX7_told_94 : decode cX7_told 94 = .ok (.aload_n 0, 1) := by decide +kernel
theorem dX7_told_95 : decode cX7_told 95 = .ok (.invokevirtual 37, 3) := by decide +kernel
theorem dX7_told_98 : decode cX7_told 98 = .ok (.iconst 1, 1) := by decide +kernel
theorem dX7_told_99 : decode cX7_told 99 = .ok (.isub, 1) := by decide +kernel
theorem dX7_told_100 : decode cX7_told 100 = .ok (.invokevirtual 78, 3) := by decide +kernel
theorem dX7_told_103 : decode cX7_told 103 = .ok (.ireturn, 1) := by decide +kernel
theorem dX7_told_104 : decode cX7_told 104 = .ok (.aload_n 0, 1) := by decide +kernel
theorem dX7_told_105 : decode cX7_told 105 = .ok (.iconst 0, 1) := by decide +kernel
theorem dX7_told_106 : decode cX7_told 106 = .ok (.aload_n 0, 1) := by decide +kernel
theorem dX7_told_107 : decode cX7_told 107 = .ok (.invokevirtual 37, 3) := by decide +kernel
theorem dX7_told_110 : decode cX7_told 110 = .ok (.iconst 1, 1) := by decide +kernel
theorem dX7_told_111 : decode cX7_told 111 = .ok (.isub, 1) := by decide +kernel
theorem dX7_told_112 : decode cX7_told 112 = .ok (.invokevirtual 71, 3) := by decide +kernel
theorem dX7_told_115 : decode cX7_told 115 = .ok (.ireturn, 1) := by decide +kernel
theorem dX7_told_116 : decode cX7_told 116 = .ok (.aload_n 0, 1) := by decide +kernel
theorem dX7_told_117 : decode cX7_told 117 = .ok (.invokevirtual 118, 3) := by decide +kernel
theorem dX7_told_120 : decode cX7_told 120 = .ok (.ireturn, 1) := by decide +kernel
theorem dX7_told_121 : decode cX7_told 121 = .ok (.aload_n 0, 1) := by decide +kernel
theorem dX7_told_122 : decode cX7_told 122 = .ok (.invokevirtual 121, 3) := by decide +kernel
theorem dX7_told_125 : decode cX7_told 125 = .ok (.ireturn, 1) := by decide +kernel
theorem dX7_told_126 : decode cX7_told 126 = .ok (.aload_n 0, 1) := by decide +kernel
theorem dX7_told_127 : decode cX7_told 127 = .ok (.iconst 1, 1) := by decide +kernel
theorem dX7_told_128 : decode cX7_told 128 = .ok (.invokevirtual 124, 3) := by decide +kernel
theorem dX7_told_131 : decode cX7_told 131 = .ok (.ireturn, 1) := by decide +kernel
theorem dX7_told_132 : decode cX7_told 132 = .ok (.aload_n 0, 1) := by decide +kernel
theorem dX7_told_133 : decode cX7_told 133 = .ok (.iconst 0, 1) := by decide +kernel
theorem dX7_told_134 : decode cX7_told 134 = .ok (.invokevirtual 124, 3) := by decide +kernel
theorem dX7_told_137 : decode cX7_told 137 = .ok (.ireturn, 1) := by decide +kernel
theorem dX7_told_138 : decode cX7_told 138 = .ok (.aload_n 0, 1) := by decide +kernel
theorem dX7_told_139 : decode cX7_told 139 = .ok (.invokevirtual 128, 3) := by decide +kernel
theorem dX7_told_142 : decode cX7_told 142 = .ok (.ireturn, 1) := by decide +kernel
theorem dX7_told_143 : decode cX7_told 143 = .ok (.aload_n 0, 1) := by decide +kernel
theorem dX7_told_144 : decode cX7_told 144 = .ok (.invokevirtual 131, 3) := by decide +kernel
theorem dX7_told_147 : decode cX7_told 147 = .ok (.ireturn, 1) := by decide +kernel
theorem dX7_told_148 : decode cX7_told 148 = .ok (.aload_n 0, 1) := by decide +kernel
theorem dX7_told_149 : decode cX7_told 149 = .ok (.invokevirtual 134, 3) := by decide +kernel
theorem dX7_told_152 : decode cX7_told 152 = .ok (.ireturn, 1) := by decide +kernel
theorem dX7_told_153 : decode cX7_told 153 = .ok (.aload_n 0, 1) := by decide +kernel
theorem dX7_told_154 : decode cX7_told 154 = .ok (.getfield 49, 3) := by decide +kernel
theorem dX7_told_157 : decode cX7_told 157 = .ok (.ireturn, 1) := by decide +kernel
theorem dX7_told_158 : decode cX7_told 158 = .ok (.iconst (-1), 1) := by decide +kernel
theorem dX7_told_159 : decode cX7_told 159 = .ok (.ireturn, 1) := by decide +kernel
set_option maxRecDepth 20000 in
theorem ggX7_nearest_X7_isColumn : GoodIn wsX7_nearest wsX7_isColumn := goodIn_r _ [6, 7, 8, 9, 5, 10, 1, 11, 12, 13, 14, 15, 16, 17, 18, 19, 20, 21, 22, 23, 24, 25] (by decide +kernel) (by decide +kernel)
set_option maxRecDepth 20000 in
theorem gX7_nearest_X7_isColumn : GoodIn wsX7_nearest (wsV RX7 45 RX7 yX7_isColumn wsX7_isColumn) := goodIn_app (goodIn_of _ (by decide +kernel)) ggX7_nearest_X7_isColumn
theorem dX7_nearest_0 : decode cX7_nearest 0 = .ok (.iload_n 1, 1) := by decide +kernel
theorem dX7_nearest_1 : decode cX7_nearest 1 = .ok (.iload_n 2, 1) := by decide +kernel
theorem dX7_nearest_2 : decode cX7_nearest 2 = .ok (.iadd, 1) := by decide +kernel
theorem dX7_nearest_3 : decode cX7_nearest 3 = .ok (.istore 4, 2) := by decide +kernel
theorem dX7_nearest_5 : decode cX7_nearest 5 = .ok (.aload_n 0, 1) := by decide +kernel
theorem dX7_nearest_6 : decode cX7_nearest 6 = .ok (.iload 4, 2) := by decide +kernel
theorem dX7_nearest_8 : decode cX7_nearest 8 = .ok (.invokevirtual 45, 3) := by decide +kernel
theorem dX7_nearest_11 : decode cX7_nearest 11 = .ok (.ifCond .eq 51, 3) := by decide +kernel
theorem dX7_nearest_14 : decode cX7_nearest 14 = .ok (.iload_n 3, 1) := by decide +kernel
theorem dX7_nearest_15 : decode cX7_nearest 15 = .ok (.ifCond .eq 22, 3) := by decide +kernel
theorem dX7_nearest_18 : decode cX7_nearest 18 = .ok (.aload_n 0, 1) := by decide +kernel
theorem dX7_nearest_19 : decode cX7_nearest 19 = .ok (.getfield 7, 3) := by decide +kernel
theorem dX7_nearest_22 : decode cX7_nearest 22 = .ok (.iload 4, 2) := by decide +kernel
theorem dX7_nearest_24 : decode cX7_nearest 24 = .ok (.iaload, 1) := by decide +kernel
theorem dX7_nearest_25 : decode cX7_nearest 25 = .ok (.aload_n 0, 1) := by decide +kernel
theorem dX7_nearest_26 : decode cX7_nearest 26 = .ok (.getfield 7, 3) := by decide +kernel
theorem dX7_nearest_29 : decode cX7_nearest 29 = .ok (.iload_n 1, 1) := by decide +kernel
theorem dX7_nearest_30 : decode cX7_nearest 30 = .ok (.iaload, 1) := by decide +kernel
theorem dX7_nearest_31 : decode cX7_nearest 31 = .ok (.if_icmp .lt 31, 3) := by decide +kernel
theorem dX7_nearest_34 : decode cX7_nearest 34 = .ok (.goto 19, 3) := by decide +kernel
theorem dX7_nearest_37 : decode cX7_nearest 37 = .ok (.aload_n 0, 1) := by decide +kernel
theorem dX7_nearest_38 : decode cX7_nearest 38 = .ok (.getfield 7, 3) := by decide +kernel
theorem dX7_nearest_41 : decode cX7_nearest 41 = .ok (.iload 4, 2) := by decide +kernel
theorem dX7_nearest_43 : decode cX7_nearest 43 = .ok (.iaload, 1) := by decide +kernel
theorem dX7_nearest_44 : decode cX7_nearest 44 = .ok (.aload_n 0, 1) := by decide +kernel
theorem dX7_nearest_45 : decode cX7_nearest 45 = .ok (.getfield 7, 3) := by decide +kernel
theorem dX7_nearest_48 : decode cX7_nearest 48 = .ok (.iload_n 1, 1) := by decide +kernel
theorem dX7_nearest_49 : decode cX7_nearest 49 = .ok (.iaload, 1) := by decide +kernel
theorem dX7_nearest_50 : decode cX7_nearest 50 = .ok (.if_icmp .gt 12, 3) := by decide +kernel
theorem dX7_nearest_53 : decode cX7_nearest 53 = .ok (.iload 4, 2) := by decide +kernel
theorem dX7_nearest_55 : decode cX7_nearest 55 = .ok (.iload_n 2, 1) := by decide +kernel
theorem dX7_nearest_56 : decode cX7_nearest 56 = .ok (.iadd, 1) := by decide +kernel
theorem dX7_nearest_57 : decode cX7_nearest 57 = .ok (.istore 4, 2) := by decide +kernel
theorem dX7_nearest_59 : decode cX7_nearest 59 = .ok (.goto (-54), 3) := by decide +kernel
theorem dX7_nearest_62 : decode cX7_nearest 62 = .ok (.aload_n 0, 1) := by decide +kernel
theorem dX7_nearest_63 : decode cX7_nearest 63 = .ok (.iload 4, 2) := by decide +kernel
theorem dX7_nearest_65 : decode cX7_nearest 65 = .ok (.invokevirtual 45, 3) := by decide +kernel
theorem dX7_nearest_68 : decode cX7_nearest 68 = .ok (.ifCond .eq 8, 3) := by decide +kernel
theorem dX7_nearest_71 : decode cX7_nearest 71 = .ok (.iload 4, 2) := by decide +kernel
theorem dX7_nearest_73 : decode cX7_nearest 73 = .ok (.goto 5, 3) := by decide +kernel
theorem dX7_nearest_76 : decode cX7_nearest 76 = .ok (.bipush (-9), 2) := by decide +kernel
theorem dX7_nearest_78 : decode cX7_nearest 78 = .ok (.ireturn, 1) := by decide +kernel
set_option maxRecDepth 20000 in
theorem ggX7_reach_X7_many : GoodIn wsX7_reach wsX7_many := goodIn_r _ [6, 1, 7, 8, 9, 10, 11, 12, 13, 14, 15, 16, 17, 18] (by decide +kernel) (by decide +kernel)
set_option maxRecDepth 20000 in
theorem gX7_reach_X7_many : GoodIn wsX7_reach (wsV RX7 37 RX7 yX7_many wsX7_many) := goodIn_app (goodIn_of _ (by decide +kernel)) ggX7_reach_X7_many
theorem dX7_reach_0 : decode cX7_reach 0 = .ok (.iload_n 1, 1) := by decide +kernel
theorem dX7_reach_1 : decode cX7_reach 1 = .ok (.istore_n 2, 1) := by decide +kernel
theorem dX7_reach_2 : decode cX7_reach 2 = .ok (.iload_n 1, 1) := by decide +kernel
theorem dX7_reach_3 : decode cX7_reach 3 = .ok (.istore_n 3, 1) := by decide +kernel
theorem dX7_reach_4 : decode cX7_reach 4 = .ok (.iload_n 2, 1) := by decide +kernel
theorem dX7_reach_5 : decode cX7_reach 5 = .ok (.ifCond .le 26, 3) := by decide +kernel
theorem dX7_reach_8 : decode cX7_reach 8 = .ok (.aload_n 0, 1) := by decide +kernel
theorem dX7_reach_9 : decode cX7_reach 9 = .ok (.getfield 7, 3) := by decide +kernel
theorem dX7_reach_12 : decode cX7_reach 12 = .ok (.iload_n 2, 1) := by decide +kernel
theorem dX7_reach_13 : decode cX7_reach 13 = .ok (.iconst 1, 1) := by decide +kernel
theorem dX7_reach_14 : decode cX7_reach 14 = .ok (.isub, 1) := by decide +kernel
theorem dX7_reach_15 : decode cX7_reach 15 = .ok (.iaload, 1) := by decide +kernel
theorem dX7_reach_16 : decode cX7_reach 16 = .ok (.aload_n 0, 1) := by decide +kernel
theorem dX7_reach_17 : decode cX7_reach 17 = .ok (.getfield 7, 3) := by decide +kernel
theorem dX7_reach_20 : decode cX7_reach 20 = .ok (.iload_n 1, 1) := by decide +kernel
theorem dX7_reach_21 : decode cX7_reach 21 = .ok (.iaload, 1) := by decide +kernel
theorem dX7_reach_22 : decode cX7_reach 22 = .ok (.if_icmp .lt 9, 3) := by decide +kernel
theorem dX7_reach_25 : decode cX7_reach 25 = .ok (.iinc 2 (-1), 3) := by decide +kernel
theorem dX7_reach_28 : decode cX7_reach 28 = .ok (.goto (-24), 3) := by decide +kernel
theorem dX7_reach_31 : decode cX7_reach 31 = .ok (.iload_n 3, 1) := by decide +kernel
theorem dX7_reach_32 : decode cX7_reach 32 = .ok (.aload_n 0, 1) := by decide +kernel
theorem dX7_reach_33 : decode cX7_reach 33 = .ok (.invokevirtual 37, 3) := by decide +kernel
theorem dX7_reach_36 : decode cX7_reach 36 = .ok (.iconst 1, 1) := by decide +kernel
theorem dX7_reach_37 : decode cX7_reach 37 = .ok (.isub, 1) := by decide +kernel
theorem dX7_reach_38 : decode cX7_reach 38 = .ok (.if_icmp .ge 26, 3) := by decide +kernel
theorem dX7_reach_41 : decode cX7_reach 41 = .ok (.aload_n 0, 1) := by decide +kernel
theorem dX7_reach_42 : decode cX7_reach 42 = .ok (.getfield 7, 3) := by decide +kernel
theorem dX7_reach_45 : decode cX7_reach 45 = .ok (.iload_n 3, 1) := by decide +kernel
theorem dX7_reach_46 : decode cX7_reach 46 = .ok (.iconst 1, 1) := by decide +kernel
theorem dX7_reach_47 : decode cX7_reach 47 = .ok (.iadd, 1) := by decide +kernel
theorem dX7_reach_48 : decode cX7_reach 48 = .ok (.iaload, 1) := by decide +kernel
theorem dX7_reach_49 : decode cX7_reach 49 = .ok (.aload_n 0, 1) := by decide +kernel
theorem dX7_reach_50 : decode cX7_reach 50 = .ok (.getfield 7, 3) := by decide +kernel
theorem dX7_reach_53 : decode cX7_reach 53 = .ok (.iload_n 1, 1) := by decide +kernel
theorem dX7_reach_54 : decode cX7_reach 54 = .ok (.iaload, 1) := by decide +kernel
theorem dX7_reach_55 : decode cX7_reach 55 = .ok (.if_icmp .lt 9, 3) := by decide +kernel
theorem dX7_reach_58 : decode cX7_reach 58 = .ok (.iinc 3 1, 3) := by decide +kernel
theorem dX7_reach_61 : decode cX7_reach 61 = .ok (.goto (-30), 3) := by decide +kernel
theorem dX7_reach_64 : decode cX7_reach 64 = .ok (.iload_n 3, 1) := by decide +kernel
theorem dX7_reach_65 : decode cX7_reach 65 = .ok (.iload_n 2, 1) := by decide +kernel
theorem dX7_reach_66 : decode cX7_reach 66 = .ok (.isub, 1) := by decide +kernel
theorem dX7_reach_67 : decode cX7_reach 67 = .ok (.iconst 1, 1) := by decide +kernel
theorem dX7_reach_68 : decode cX7_reach 68 = .ok (.iadd, 1) := by decide +kernel
theorem dX7_reach_69 : decode cX7_reach 69 = .ok (.ireturn, 1) := by decide +kernel
set_option maxRecDepth 20000 in
theorem ggX7_stairLength_X7_nearest : GoodIn wsX7_stairLength wsX7_nearest := goodIn_r _ [5, 6, 7, 8, 9, 4, 10, 11, 12, 13, 14, 15, 16, 17, 18, 19, 20, 21, 22, 23, 24, 25, 26, 27, 28, 29] (by decide +kernel) (by decide +kernel)
set_option maxRecDepth 20000 in
theorem gX7_stairLength_X7_nearest : GoodIn wsX7_stairLength (wsV RX7 137 RX7 yX7_nearest wsX7_nearest) := goodIn_app (goodIn_of _ (by decide +kernel)) ggX7_stairLength_X7_nearest
theorem dX7_stairLength_0 : decode cX7_stairLength 0 = .ok (.iconst 0, 1) := by decide +kernel
theorem dX7_stairLength_1 : decode cX7_stairLength 1 = .ok (.istore_n 2, 1) := by decide +kernel
theorem dX7_stairLength_2 : decode cX7_stairLength 2 = .ok (.iload_n 1, 1) := by decide +kernel
theorem dX7_stairLength_3 : decode cX7_stairLength 3 = .ok (.istore_n 3, 1) := by decide +kernel
theorem dX7_stairLength_4 : decode cX7_stairLength 4 = .ok (.iload_n 3, 1) := by decide +kernel
theorem dX7_stairLength_5 : decode cX7_stairLength 5 = .ok (.bipush (-9), 2) := by decide +kernel
theorem dX7_stairLength_7 : decode cX7_stairLength 7 = .ok (.if_icmp .eq 17, 3) := by decide +kernel
theorem dX7_stairLength_10 : decode cX7_stairLength 10 = .ok (.iinc 2 1, 3) := by decide +kernel
theorem dX7_stairLength_13 : decode cX7_stairLength 13 = .ok (.aload_n 0, 1) := by decide +kernel
theorem dX7_stairLength_14 : decode cX7_stairLength 14 = .ok (.iload_n 3, 1) := by decide +kernel
theorem dX7_stairLength_15 : decode cX7_stairLength 15 = .ok (.iconst (-1), 1) := by decide +kernel
theorem dX7_stairLength_16 : decode cX7_stairLength 16 = .ok (.iconst 1, 1) := by decide +kernel
theorem dX7_stairLength_17 : decode cX7_stairLength 17 = .ok (.invokevirtual 137, 3) := by decide +kernel
theorem dX7_stairLength_20 : decode cX7_stairLength 20 = .ok (.istore_n 3, 1) := by decide +kernel
theorem dX7_stairLength_21 : decode cX7_stairLength 21 = .ok (.goto (-17), 3) := by decide +kernel
theorem dX7_stairLength_24 : decode cX7_stairLength 24 = .ok (.iload_n 2, 1) := by decide +kernel
theorem dX7_stairLength_25 : decode cX7_stairLength 25 = .ok (.ireturn, 1) := by decide +kernel
set_option maxRecDepth 20000 in
theorem ggX7_column_X7_isColumn : GoodIn wsX7_column wsX7_isColumn := goodIn_r _ [6, 7, 8, 9, 5, 10, 1, 11, 12, 13, 55, 56, 57, 58, 59, 60, 61, 62, 63, 64, 65, 66] (by decide +kernel) (by decide +kernel)
set_option maxRecDepth 20000 in
theorem gX7_column_X7_isColumn : GoodIn wsX7_column (wsV RX7 45 RX7 yX7_isColumn wsX7_isColumn) := goodIn_app (goodIn_of _ (by decide +kernel)) ggX7_column_X7_isColumn
set_option maxRecDepth 20000 in
theorem ggX7_column_X7_nearest : GoodIn wsX7_column wsX7_nearest := goodIn_r _ [17, 1, 2, 3, 4, 5, 6, 7, 8, 9, 10, 11, 12, 13, 55, 56, 57, 58, 59, 60, 61, 62, 63, 64, 65, 66] (by decide +kernel) (by decide +kernel)
set_option maxRecDepth 20000 in
theorem gX7_column_X7_nearest : GoodIn wsX7_column (wsV RX7 137 RX7 yX7_nearest wsX7_nearest) := goodIn_app (goodIn_of _ (by decide +kernel)) ggX7_column_X7_nearest
set_option maxRecDepth 20000 in
theorem ggX7_column_X7_many : GoodIn wsX7_column wsX7_many := goodIn_r _ [10, 1, 55, 56, 57, 58, 59, 60, 61, 62, 63, 64, 65, 66] (by decide +kernel) (by decide +kernel)
set_option maxRecDepth 20000 in
theorem gX7_column_X7_many : GoodIn wsX7_column (wsV RX7 37 RX7 yX7_many wsX7_many) := goodIn_app (goodIn_of _ (by decide +kernel)) ggX7_column_X7_many
set_option maxRecDepth 20000 in
theorem ggX7_column_X7_depth : GoodIn wsX7_column wsX7_depth := goodIn_r _ [21, 1, 22, 23, 24, 5, 25, 55, 56, 57, 58, 59, 60, 61, 62, 63, 64, 65, 66] (by decide +kernel) (by decide +kernel)
set_option maxRecDepth 20000 in
theorem gX7_column_X7_depth : GoodIn wsX7_column (wsV RX7 74 RX7 yX7_depth wsX7_depth) := goodIn_app (goodIn_of _ (by decide +kernel)) ggX7_column_X7_depth
set_option maxRecDepth 20000 in
theorem ggX7_column_X7_parentOf : GoodIn wsX7_column wsX7_parentOf := goodIn_r _ [29, 30, 31, 32, 33, 5, 34, 7, 8, 9, 10, 1, 35, 36, 37, 38, 39, 40, 41, 42, 43, 44, 45, 46, 55, 56, 57, 58, 59, 60, 61, 62, 63, 64, 65, 66] (by decide +kernel) (by decide +kernel)
set_option maxRecDepth 20000 in
theorem gX7_column_X7_parentOf : GoodIn wsX7_column (wsV RX7 141 RX7 yX7_parentOf wsX7_parentOf) := goodIn_app (goodIn_of _ (by decide +kernel)) ggX7_column_X7_parentOf
set_option maxRecDepth 20000 in
theorem ggX7_column_X7_treeDepth : GoodIn wsX7_column wsX7_treeDepth := goodIn_r _ [34, 30, 7, 8, 9, 5, 10, 1, 35, 36, 37, 38, 39, 40, 41, 42, 43, 44, 45, 46, 55, 56, 57, 58, 59, 60, 61, 62, 63, 64, 65, 66] (by decide +kernel) (by decide +kernel)
set_option maxRecDepth 20000 in
theorem gX7_column_X7_treeDepth : GoodIn wsX7_column (wsV RX7 105 RX7 yX7_treeDepth wsX7_treeDepth) := goodIn_app (goodIn_of _ (by decide +kernel)) ggX7_column_X7_treeDepth
set_option maxRecDepth 20000 in
theorem ggX7_column_X7_reach : GoodIn wsX7_column wsX7_reach := goodIn_r _ [50, 1, 7, 8, 9, 5, 10, 55, 56, 57, 58, 59, 60, 61, 62, 63, 64, 65, 66] (by decide +kernel) (by decide +kernel)
set_option maxRecDepth 20000 in
theorem gX7_column_X7_reach : GoodIn wsX7_column (wsV RX7 144 RX7 yX7_reach wsX7_reach) := goodIn_app (goodIn_of _ (by decide +kernel)) ggX7_column_X7_reach
set_option maxRecDepth 20000 in
theorem ggX7_column_X7_stairLength : GoodIn wsX7_column wsX7_stairLength := goodIn_r _ [54, 14, 15, 16, 5, 17, 1, 2, 3, 4, 6, 7, 8, 9, 10, 11, 12, 13, 55, 56, 57, 58, 59, 60, 61, 62, 63, 64, 65, 66] (by decide +kernel) (by decide +kernel)
set_option maxRecDepth 20000 in
theorem gX7_column_X7_stairLength : GoodIn wsX7_column (wsV RX7 147 RX7 yX7_stairLength wsX7_stairLength) := goodIn_app (goodIn_of _ (by decide +kernel)) ggX7_column_X7_stairLength
theorem dX7_column_0 : decode cX7_column 0 = .ok (.aload_n 0, 1) := by decide +kernel
theorem dX7_column_1 : decode cX7_column 1 = .ok (.iload_n 1, 1) := by decide +kernel
theorem dX7_column_2 : decode cX7_column 2 = .ok (.invokevirtual 45, 3) := by decide +kernel
theorem dX7_column_5 : decode cX7_column 5 = .ok (.ifCond .ne 5, 3) := by decide +kernel
theorem dX7_column_8 : decode cX7_column 8 = .ok (.iconst (-1), 1) := by decide +kernel
theorem dX7_column_9 : decode cX7_column 9 = .ok (.ireturn, 1) := by decide +kernel
theorem dX7_column_10 : decode cX7_column 10 = .ok (.iload_n 2, 1) := by decide +kernel
theorem dX7_column_11 : decode cX7_column 11 = .ok (.tableswitch 129 0 9 #[53, 60, 68, 76, 84, 92, 105, 111, 117, 123], 53) := by decide +kernel
theorem dX7_column_64 : decode cX7_column 64 = .ok (.aload_n 0, 1) := by decide +kernel
theorem dX7_column_65 : decode cX7_column 65 = .ok (.getfield 7, 3) := by decide +kernel
theorem dX7_column_68 : decode cX7_column 68 = .ok (.iload_n 1, 1) := by decide +kernel
theorem dX7_column_69 : decode cX7_column 69 = .ok (.iaload, 1) := by decide +kernel
theorem dX7_column_70 : decode cX7_column 70 = .ok (.ireturn, 1) := by decide +kernel
theorem dX7_column_71 : decode cX7_column 71 = .ok (.aload_n 0, 1) := by decide +kernel
theorem dX7_column_72 : decode cX7_column 72 = .ok (.iload_n 1, 1) := by decide +kernel
theorem dX7_column_73 : decode cX7_column 73 = .ok (.iconst (-1), 1) := by decide +kernel
theorem dX7_column_74 : decode cX7_column 74 = .ok (.iconst 1, 1) := by decide +kernel
theorem dX7_column_75 : decode cX7_column 75 = .ok (.invokevirtual 137, 3) := by decide +kernel
theorem dX7_column_78 : decode cX7_column 78 = .ok (.ireturn, 1) := by decide +kernel
theorem dX7_column_79 : decode cX7_column 79 = .ok (.aload_n 0, 1) := by decide +kernel
theorem dX7_column_80 : decode cX7_column 80 = .ok (.iload_n 1, 1) := by decide +kernel
theorem dX7_column_81 : decode cX7_column 81 = .ok (.iconst 1, 1) := by decide +kernel
theorem dX7_column_82 : decode cX7_column 82 = .ok (.iconst 1, 1) := by decide +kernel
theorem dX7_column_83 : decode cX7_column 83 = .ok (.invokevirtual 137, 3) := by decide +kernel
theorem dX7_column_86 : decode cX7_column 86 = .ok (.ireturn, 1) := by decide +kernel
theorem dX7_column_87 : decode cX7_column 87 = .ok (.aload_n 0, 1) := by decide +kernel
theorem dX7_column_88 : decode cX7_column 88 = .ok (.iload_n 1, 1) := by decide +kernel
theorem dX7_column_89 : decode cX7_column 89 = .ok (.iconst (-1), 1) := by decide +kernel
theorem dX7_column_90 : decode cX7_column 90 = .ok (.iconst 0, 1) := by decide +kernel
theorem dX7_column_91 : decode cX7_column 91 = .ok (.invokevirtual 137, 3) := by decide +kernel
theorem dX7_column_94 : decode cX7_column 94 = .ok (.ireturn, 1) := by decide +kernel
theorem dX7_column_95 : decode cX7_column 95 = .ok (.aload_n 0, 1) := by decide +kernel
theorem dX7_column_96 : decode cX7_column 96 = .ok (.iload_n 1, 1) := by decide +kernel
theorem dX7_column_97 : decode cX7_column 97 = .ok (.iconst 1, 1) := by decide +kernel
theorem dX7_column_98 : decode cX7_column 98 = .ok (.iconst 0, 1) := by decide +kernel
theorem dX7_column_99 : decode cX7_column 99 = .ok (.invokevirtual 137, 3) := by decide +kernel
theorem dX7_column_102 : decode cX7_column 102 = .ok (.ireturn, 1) := by decide +kernel
theorem dX7_column_103 : decode cX7_column 103 = .ok (.aload_n 0, 1) := by decide +kernel
theorem dX7_column_104 : decode cX7_column 104 = .ok (.iconst 0, 1) := by decide +kernel
theorem dX7_column_105 : decode cX7_column 105 = .ok (.aload_n 0, 1) := by decide +kernel
theorem dX7_column_106 : decode cX7_column 106 = .ok (.invokevirtual 37, 3) := by decide +kernel
theorem dX7_column_109 : decode cX7_column 109 = .ok (.iconst 1, 1) := by decide +kernel
theorem dX7_column_110 : decode cX7_column 110 = .ok (.isub, 1) := by decide +kernel
theorem dX7_column_111 : decode cX7_column 111 = .ok (.iload_n 1, 1) := by decide +kernel
theorem dX7_column_112 : decode cX7_column 112 = .ok (.invokevirtual 74, 3) := by decide +kernel
theorem dX7_column_115 : decode cX7_column 115 = .ok (.ireturn, 1) := by decide +kernel
theorem dX7_column_116 : decode cX7_column 116 = .ok (.aload_n 0, 1) := by decide +kernel
theorem dX7_column_117 : decode cX7_column 117 = .ok (.iload_n 1, 1) := by decide +kernel
theorem dX7_column_118 : decode cX7_column 118 = .ok (.invokevirtual 141, 3) := by decide +kernel
theorem dX7_column_121 : decode cX7_column 121 = .ok (.ireturn, 1) := by decide +kernel
theorem dX7_column_122 : decode cX7_column 122 = .ok (.aload_n 0, 1) := by decide +kernel
theorem dX7_column_123 : decode cX7_column 123 = .ok (.iload_n 1, 1) := by decide +kernel
theorem dX7_column_124 : decode cX7_column 124 = .ok (.invokevirtual 105, 3) := by decide +kernel
theorem dX7_column_127 : decode cX7_column 127 = .ok (.ireturn, 1) := by decide +kernel
theorem dX7_column_128 : decode cX7_column 128 = .ok (.aload_n 0, 1) := by decide +kernel
theorem dX7_column_129 : decode cX7_column 129 = .ok (.iload_n 1, 1) := by decide +kernel
theorem dX7_column_130 : decode cX7_column 130 = .ok (.invokevirtual 144, 3) := by decide +kernel
theorem dX7_column_133 : decode cX7_column 133 = .ok (.ireturn, 1) := by decide +kernel
theorem dX7_column_134 : decode cX7_column 134 = .ok (.aload_n 0, 1) := by decide +kernel
theorem dX7_column_135 : decode cX7_column 135 = .ok (.iload_n 1, 1) := by decide +kernel
theorem dX7_column_136 : decode cX7_column 136 = .ok (.invokevirtual 147, 3) := by decide +kernel
theorem dX7_column_139 : decode cX7_column 139 = .ok (.ireturn, 1) := by decide +kernel
theorem dX7_column_140 : decode cX7_column 140 = .ok (.iconst (-1), 1) := by decide +kernel
theorem dX7_column_141 : decode cX7_column 141 = .ok (.ireturn, 1) := by decide +kernel
set_option maxRecDepth 20000 in
theorem ggX7_stair_X7_isColumn : GoodIn wsX7_stair wsX7_isColumn := goodIn_r _ [5, 6, 7, 8, 4, 9, 10, 11, 12, 13, 18, 19, 20, 21, 22, 23, 24, 25, 26, 27, 28, 29] (by decide +kernel) (by decide +kernel)
set_option maxRecDepth 20000 in
theorem gX7_stair_X7_isColumn : GoodIn wsX7_stair (wsV RX7 45 RX7 yX7_isColumn wsX7_isColumn) := goodIn_app (goodIn_of _ (by decide +kernel)) ggX7_stair_X7_isColumn
set_option maxRecDepth 20000 in
theorem ggX7_stair_X7_nearest : GoodIn wsX7_stair wsX7_nearest := goodIn_r _ [17, 10, 1, 2, 3, 4, 5, 6, 7, 8, 9, 11, 12, 13, 18, 19, 20, 21, 22, 23, 24, 25, 26, 27, 28, 29] (by decide +kernel) (by decide +kernel)
set_option maxRecDepth 20000 in
theorem gX7_stair_X7_nearest : GoodIn wsX7_stair (wsV RX7 137 RX7 yX7_nearest wsX7_nearest) := goodIn_app (goodIn_of _ (by decide +kernel)) ggX7_stair_X7_nearest
theorem dX7_stair_0 : decode cX7_stair 0 = .ok (.aload_n 0, 1) := by decide +kernel
theorem dX7_stair_1 : decode cX7_stair 1 = .ok (.iload_n 1, 1) := by decide +kernel
theorem dX7_stair_2 : decode cX7_stair 2 = .ok (.invokevirtual 45, 3) := by decide +kernel
theorem dX7_stair_5 : decode cX7_stair 5 = .ok (.ifCond .eq 7, 3) := by decide +kernel
theorem dX7_stair_8 : decode cX7_stair 8 = .ok (.iload_n 2, 1) := by decide +kernel
theorem dX7_stair_9 : decode cX7_stair 9 = .ok (.ifCond .ge 5, 3) := by decide +kernel
theorem dX7_stair_12 : decode cX7_stair 12 = .ok (.iconst (-1), 1) := by decide +kernel
theorem dX7_stair_13 : decode cX7_stair 13 = .ok (.ireturn, 1) := by decide +kernel
theorem dX7_stair_14 : decode cX7_stair 14 = .ok (.iload_n 1, 1) := by decide +kernel
theorem dX7_stair_15 : decode cX7_stair 15 = .ok (.istore_n 3, 1) := by decide +kernel
theorem dX7_stair_16 : decode cX7_stair 16 = .ok (.iconst 0, 1) := by decide +kernel
theorem dX7_stair_17 : decode cX7_stair 17 = .ok (.istore 4, 2) := by decide +kernel
theorem dX7_stair_19 : decode cX7_stair 19 = .ok (.iload 4, 2) := by decide +kernel
theorem dX7_stair_21 : decode cX7_stair 21 = .ok (.iload_n 2, 1) := by decide +kernel
theorem dX7_stair_22 : decode cX7_stair 22 = .ok (.if_icmp .ge 23, 3) := by decide +kernel
theorem dX7_stair_25 : decode cX7_stair 25 = .ok (.iload_n 3, 1) := by decide +kernel
theorem dX7_stair_26 : decode cX7_stair 26 = .ok (.bipush (-9), 2) := by decide +kernel
theorem dX7_stair_28 : decode cX7_stair 28 = .ok (.if_icmp .eq 17, 3) := by decide +kernel
theorem dX7_stair_31 : decode cX7_stair 31 = .ok (.aload_n 0, 1) := by decide +kernel
theorem dX7_stair_32 : decode cX7_stair 32 = .ok (.iload_n 3, 1) := by decide +kernel
theorem dX7_stair_33 : decode cX7_stair 33 = .ok (.iconst (-1), 1) := by decide +kernel
theorem dX7_stair_34 : decode cX7_stair 34 = .ok (.iconst 1, 1) := by decide +kernel
theorem dX7_stair_35 : decode cX7_stair 35 = .ok (.invokevirtual 137, 3) := by decide +kernel
theorem dX7_stair_38 : decode cX7_stair 38 = .ok (.istore_n 3, 1) := by decide +kernel
theorem dX7_stair_39 : decode cX7_stair 39 = .ok (.iinc 4 1, 3) := by decide +kernel
theorem dX7_stair_42 : decode cX7_stair 42 = .ok (.goto (-23), 3) := by decide +kernel
theorem dX7_stair_45 : decode cX7_stair 45 = .ok (.iload_n 3, 1) := by decide +kernel
theorem dX7_stair_46 : decode cX7_stair 46 = .ok (.ireturn, 1) := by decide +kernel
set_option maxRecDepth 20000 in
theorem ggX7_largest_X7_area : GoodIn wsX7_largest wsX7_area := goodIn_r _ [5, 6, 7, 8, 4, 9, 10, 11, 12, 13, 14, 15, 16, 17, 18, 19, 20, 21, 22] (by decide +kernel) (by decide +kernel)
set_option maxRecDepth 20000 in
theorem gX7_largest_X7_area : GoodIn wsX7_largest (wsV RX7 93 RX7 yX7_area wsX7_area) := goodIn_app (goodIn_of _ (by decide +kernel)) ggX7_largest_X7_area
set_option maxRecDepth 20000 in
theorem ggX7_largest_X7_least : GoodIn wsX7_largest wsX7_least := goodIn_r _ [9, 10, 11, 12, 13, 14, 15, 16, 17, 18, 19, 20, 21, 22] (by decide +kernel) (by decide +kernel)
set_option maxRecDepth 20000 in
theorem gX7_largest_X7_least : GoodIn wsX7_largest (wsV RX7 87 RX7 yX7_least wsX7_least) := goodIn_app (goodIn_of _ (by decide +kernel)) ggX7_largest_X7_least
theorem dX7_largest_0 : decode cX7_largest 0 = .ok (.iconst 0, 1) := by decide +kernel
theorem dX7_largest_1 : decode cX7_largest 1 = .ok (.istore 4, 2) := by decide +kernel
theorem dX7_largest_3 : decode cX7_largest 3 = .ok (.bipush (-9), 2) := by decide +kernel
theorem dX7_largest_5 : decode cX7_largest 5 = .ok (.istore 5, 2) := by decide +kernel
theorem dX7_largest_7 : decode cX7_largest 7 = .ok (.bipush (-9), 2) := by decide +kernel
theorem dX7_largest_9 : decode cX7_largest 9 = .ok (.istore 6, 2) := by decide +kernel
theorem dX7_largest_11 : decode cX7_largest 11 = .ok (.iload_n 1, 1) := by decide +kernel
theorem dX7_largest_12 : decode cX7_largest 12 = .ok (.istore 7, 2) := by decide +kernel
theorem dX7_largest_14 : decode cX7_largest 14 = .ok (.iload 7, 2) := by decide +kernel
theorem dX7_largest_16 : decode cX7_largest 16 = .ok (.iload_n 2, 1) := by decide +kernel
theorem dX7_largest_17 : decode cX7_largest 17 = .ok (.if_icmp .gt 56, 3) := by decide +kernel
theorem dX7_largest_20 : decode cX7_largest 20 = .ok (.iload 7, 2) := by decide +kernel
theorem dX7_largest_22 : decode cX7_largest 22 = .ok (.istore 8, 2) := by decide +kernel
theorem dX7_largest_24 : decode cX7_largest 24 = .ok (.iload 8, 2) := by decide +kernel
theorem dX7_largest_26 : decode cX7_largest 26 = .ok (.iload_n 2, 1) := by decide +kernel
theorem dX7_largest_27 : decode cX7_largest 27 = .ok (.if_icmp .gt 40, 3) := by decide +kernel
theorem dX7_largest_30 : decode cX7_largest 30 = .ok (.aload_n 0, 1) := by decide +kernel
theorem dX7_largest_31 : decode cX7_largest 31 = .ok (.iload 7, 2) := by decide +kernel
theorem dX7_largest_33 : decode cX7_largest 33 = .ok (.iload 8, 2) := by decide +kernel
theorem dX7_largest_35 : decode cX7_largest 35 = .ok (.invokevirtual 93, 3) := by decide +kernel
theorem dX7_largest_38 : decode cX7_largest 38 = .ok (.iload 4, 2) := by decide +kernel
theorem dX7_largest_40 : decode cX7_largest 40 = .ok (.if_icmp .le 21, 3) := by decide +kernel
theorem dX7_largest_43 : decode cX7_largest 43 = .ok (.aload_n 0, 1) := by decide +kernel
theorem dX7_largest_44 : decode cX7_largest 44 = .ok (.iload 7, 2) := by decide +kernel
theorem dX7_largest_46 : decode cX7_largest 46 = .ok (.iload 8, 2) := by decide +kernel
theorem dX7_largest_48 : decode cX7_largest 48 = .ok (.invokevirtual 93, 3) := by decide +kernel
theorem dX7_largest_51 : decode cX7_largest 51 = .ok (.istore 4, 2) := by decide +kernel
theorem dX7_largest_53 : decode cX7_largest 53 = .ok (.iload 7, 2) := by decide +kernel
theorem dX7_largest_55 : decode cX7_largest 55 = .ok (.istore 5, 2) := by decide +kernel
theorem dX7_largest_57 : decode cX7_largest 57 = .ok (.iload 8, 2) := by decide +kernel
theorem dX7_largest_59 : decode cX7_largest 59 = .ok (.istore 6, 2) := by decide +kernel
theorem dX7_largest_61 : decode cX7_largest 61 = .ok (.iinc 8 1, 3) := by decide +kernel
theorem dX7_largest_64 : decode cX7_largest 64 = .ok (.goto (-40), 3) := by decide +kernel
theorem dX7_largest_67 : decode cX7_largest 67 = .ok (.iinc 7 1, 3) := by decide +kernel
theorem dX7_largest_70 : decode cX7_largest 70 = .ok (.goto (-56), 3) := by decide +kernel
theorem dX7_largest_73 : decode cX7_largest 73 = .ok (.iload_n 3, 1) := by decide +kernel
theorem dX7_largest_74 : decode cX7_largest 74 = .ok (.tableswitch 35 5 7 #[26, 29, 32], 26) := by decide +kernel
theorem dX7_largest_100 : decode cX7_largest 100 = .ok (.iload 4, 2) := by decide +kernel
theorem dX7_largest_102 : decode cX7_largest 102 = .ok (.ireturn, 1) := by decide +kernel
theorem dX7_largest_103 : decode cX7_largest 103 = .ok (.iload 5, 2) := by decide +kernel
theorem dX7_largest_105 : decode cX7_largest 105 = .ok (.ireturn, 1) := by decide +kernel
theorem dX7_largest_106 : decode cX7_largest 106 = .ok (.iload 6, 2) := by decide +kernel
theorem dX7_largest_108 : decode cX7_largest 108 = .ok (.ireturn, 1) := by decide +kernel
theorem dX7_largest_109 : decode cX7_largest 109 = .ok (.iload 5, 2) := by decide +kernel
theorem dX7_largest_111 : decode cX7_largest 111 = .ok (.bipush (-9), 2) := by decide +kernel
theorem dX7_largest_113 : decode cX7_largest 113 = .ok (.if_icmp .ne 8, 3) := by decide +kernel
theorem dX7_largest_116 : decode cX7_largest 116 = .ok (.bipush (-9), 2) := by decide +kernel
theorem dX7_largest_118 : decode cX7_largest 118 = .ok (.goto 11, 3) := by decide +kernel
theorem dX7_largest_121 : decode cX7_largest 121 = .ok (.aload_n 0, 1) := by decide +kernel
theorem dX7_largest_122 : decode cX7_largest 122 = .ok (.iload 5, 2) := by decide +kernel
theorem dX7_largest_124 : decode cX7_largest 124 = .ok (.iload 6, 2) := by decide +kernel
theorem dX7_largest_126 : decode cX7_largest 126 = .ok (.invokevirtual 87, 3) := by decide +kernel
theorem dX7_largest_129 : decode cX7_largest 129 = .ok (.ireturn, 1) := by decide +kernel
set_option maxRecDepth 20000 in
theorem ggX7_range_X7_isRange : GoodIn wsX7_range wsX7_isRange := goodIn_r _ [5, 6, 7, 8, 4, 9, 10, 11, 12, 13, 14, 15, 16, 17, 42, 43, 44, 45, 46, 47, 48, 49, 50, 51, 52, 53] (by decide +kernel) (by decide +kernel)
set_option maxRecDepth 20000 in
theorem gX7_range_X7_isRange : GoodIn wsX7_range (wsV RX7 60 RX7 yX7_isRange wsX7_isRange) := goodIn_app (goodIn_of _ (by decide +kernel)) ggX7_range_X7_isRange
set_option maxRecDepth 20000 in
theorem ggX7_range_X7_isIn : GoodIn wsX7_range wsX7_isIn := goodIn_r _ [17] (by decide +kernel) (by decide +kernel)
set_option maxRecDepth 20000 in
theorem gX7_range_X7_isIn : GoodIn wsX7_range (va_wsS RX7 41 yX7_isIn wsX7_isIn) := goodIn_app (goodIn_of _ (by decide +kernel)) ggX7_range_X7_isIn
set_option maxRecDepth 20000 in
theorem ggX7_range_X7_least : GoodIn wsX7_range wsX7_least := goodIn_r _ [21, 14, 42, 43, 44, 45, 46, 47, 48, 49, 50, 51, 52, 53] (by decide +kernel) (by decide +kernel)
set_option maxRecDepth 20000 in
theorem gX7_range_X7_least : GoodIn wsX7_range (wsV RX7 87 RX7 yX7_least wsX7_least) := goodIn_app (goodIn_of _ (by decide +kernel)) ggX7_range_X7_least
set_option maxRecDepth 20000 in
theorem ggX7_range_X7_firstWith : GoodIn wsX7_range wsX7_firstWith := goodIn_r _ [25, 14, 42, 43, 44, 45, 46, 47, 48, 49, 50, 51, 52, 53] (by decide +kernel) (by decide +kernel)
set_option maxRecDepth 20000 in
theorem gX7_range_X7_firstWith : GoodIn wsX7_range (wsV RX7 96 RX7 yX7_firstWith wsX7_firstWith) := goodIn_app (goodIn_of _ (by decide +kernel)) ggX7_range_X7_firstWith
set_option maxRecDepth 20000 in
theorem ggX7_range_X7_greatest : GoodIn wsX7_range wsX7_greatest := goodIn_r _ [29, 14, 42, 43, 44, 45, 46, 47, 48, 49, 50, 51, 52, 53] (by decide +kernel) (by decide +kernel)
set_option maxRecDepth 20000 in
theorem gX7_range_X7_greatest : GoodIn wsX7_range (wsV RX7 78 RX7 yX7_greatest wsX7_greatest) := goodIn_app (goodIn_of _ (by decide +kernel)) ggX7_range_X7_greatest
set_option maxRecDepth 20000 in
theorem ggX7_range_X7_sum : GoodIn wsX7_range wsX7_sum := goodIn_r _ [33, 14, 42, 43, 44, 45, 46, 47, 48, 49, 50, 51, 52, 53] (by decide +kernel) (by decide +kernel)
set_option maxRecDepth 20000 in
theorem gX7_range_X7_sum : GoodIn wsX7_range (wsV RX7 115 RX7 yX7_sum wsX7_sum) := goodIn_app (goodIn_of _ (by decide +kernel)) ggX7_range_X7_sum
set_option maxRecDepth 20000 in
theorem ggX7_range_X7_largest : GoodIn wsX7_range wsX7_largest := goodIn_r _ [37, 38, 39, 40, 4, 41, 18, 19, 20, 21, 14, 42, 43, 44, 45, 46, 47, 48, 49, 50, 51, 52, 53] (by decide +kernel) (by decide +kernel)
set_option maxRecDepth 20000 in
theorem gX7_range_X7_largest : GoodIn wsX7_range (wsV RX7 150 RX7 yX7_largest wsX7_largest) := goodIn_app (goodIn_of _ (by decide +kernel)) ggX7_range_X7_largest
theorem dX7_range_0 : decode cX7_range 0 = .ok (.aload_n 0, 1) := by decide +kernel
theorem dX7_range_1 : decode cX7_range 1 = .ok (.iload_n 1, 1) := by decide +kernel
theorem dX7_range_2 : decode cX7_range 2 = .ok (.iload_n 2, 1) := by decide +kernel
theorem dX7_range_3 : decode cX7_range 3 = .ok (.invokevirtual 60, 3) := by decide +kernel
theorem dX7_range_6 : decode cX7_range 6 = .ok (.ifCond .eq 13, 3) := by decide +kernel
theorem dX7_range_9 : decode cX7_range 9 = .ok (.iload_n 3, 1) := by decide +kernel
theorem dX7_range_10 : decode cX7_range 10 = .ok (.iconst 0, 1) := by decide +kernel
theorem dX7_range_11 : decode cX7_range 11 = .ok (.bipush 8, 2) := by decide +kernel
theorem dX7_range_13 : decode cX7_range 13 = .ok (.invokestatic 41, 3) := by decide +kernel
theorem dX7_range_16 : decode cX7_range 16 = .ok (.ifCond .ne 5, 3) := by decide +kernel
theorem dX7_range_19 : decode cX7_range 19 = .ok (.iconst (-1), 1) := by decide +kernel
theorem dX7_range_20 : decode cX7_range 20 = .ok (.ireturn, 1) := by decide +kernel
theorem dX7_range_21 : decode cX7_range 21 = .ok (.iload_n 3, 1) := by decide +kernel
theorem dX7_range_22 : decode cX7_range 22 = .ok (.tableswitch 79 0 4 #[34, 41, 53, 60, 72], 34) := by decide +kernel
theorem dX7_range_56 : decode cX7_range 56 = .ok (.aload_n 0, 1) := by decide +kernel
theorem dX7_range_57 : decode cX7_range 57 = .ok (.iload_n 1, 1) := by decide +kernel
theorem dX7_range_58 : decode cX7_range 58 = .ok (.iload_n 2, 1) := by decide +kernel
theorem dX7_range_59 : decode cX7_range 59 = .ok (.invokevirtual 87, 3) := by decide +kernel
theorem dX7_range_62 : decode cX7_range 62 = .ok (.ireturn, 1) := by decide +kernel
theorem dX7_range_63 : decode cX7_range 63 = .ok (.aload_n 0, 1) := by decide +kernel
theorem dX7_range_64 : decode cX7_range 64 = .ok (.iload_n 1, 1) := by decide +kernel
theorem dX7_range_65 : decode cX7_range 65 = .ok (.aload_n 0, 1) := by decide +kernel
theorem dX7_range_66 : decode cX7_range 66 = .ok (.iload_n 1, 1) := by decide +kernel
theorem dX7_range_67 : decode cX7_range 67 = .ok (.iload_n 2, 1) := by decide +kernel
theorem dX7_range_68 : decode cX7_range 68 = .ok (.invokevirtual 87, 3) := by decide +kernel
theorem dX7_range_71 : decode cX7_range 71 = .ok (.invokevirtual 96, 3) := by decide +kernel
theorem dX7_range_74 : decode cX7_range 74 = .ok (.ireturn, 1) := by decide +kernel
theorem dX7_range_75 : decode cX7_range 75 = .ok (.aload_n 0, 1) := by decide +kernel
theorem dX7_range_76 : decode cX7_range 76 = .ok (.iload_n 1, 1) := by decide +kernel
theorem dX7_range_77 : decode cX7_range 77 = .ok (.iload_n 2, 1) := by decide +kernel
theorem dX7_range_78 : decode cX7_range 78 = .ok (.invokevirtual 78, 3) := by decide +kernel
theorem dX7_range_81 : decode cX7_range 81 = .ok (.ireturn, 1) := by decide +kernel
theorem dX7_range_82 : decode cX7_range 82 = .ok (.aload_n 0, 1) := by decide +kernel
theorem dX7_range_83 : decode cX7_range 83 = .ok (.iload_n 1, 1) := by decide +kernel
theorem dX7_range_84 : decode cX7_range 84 = .ok (.aload_n 0, 1) := by decide +kernel
theorem dX7_range_85 : decode cX7_range 85 = .ok (.iload_n 1, 1) := by decide +kernel
theorem dX7_range_86 : decode cX7_range 86 = .ok (.iload_n 2, 1) := by decide +kernel
theorem dX7_range_87 : decode cX7_range 87 = .ok (.invokevirtual 78, 3) := by decide +kernel
theorem dX7_range_90 : decode cX7_range 90 = .ok (.invokevirtual 96, 3) := by decide +kernel
theorem dX7_range_93 : decode cX7_range 93 = .ok (.ireturn, 1) := by decide +kernel
theorem dX7_range_94 : decode cX7_range 94 = .ok (.aload_n 0, 1) := by decide +kernel
theorem dX7_range_95 : decode cX7_range 95 = .ok (.iload_n 1, 1) := by decide +kernel
theorem dX7_range_96 : decode cX7_range 96 = .ok (.iload_n 2, 1) := by decide +kernel
theorem dX7_range_97 : decode cX7_range 97 = .ok (.invokevirtual 115, 3) := by decide +kernel
theorem dX7_range_100 : decode cX7_range 100 = .ok (.ireturn, 1) := by decide +kernel
theorem dX7_range_101 : decode cX7_range 101 = .ok (.aload_n 0, 1) := by decide +kernel
theorem dX7_range_102 : decode cX7_range 102 = .ok (.iload_n 1, 1) := by decide +kernel
theorem dX7_range_103 : decode cX7_range 103 = .ok (.iload_n 2, 1) := by decide +kernel
theorem dX7_range_104 : decode cX7_range 104 = .ok (.iload_n 3, 1) := by decide +kernel
theorem dX7_range_105 : decode cX7_range 105 = .ok (.invokevirtual 150, 3) := by decide +kernel
theorem dX7_range_108 : decode cX7_range 108 = .ok (.ireturn, 1) := by decide +kernel
set_option maxRecDepth 20000 in
theorem ggX7_owners_X7_least : GoodIn wsX7_owners wsX7_least := goodIn_r _ [8, 3, 9, 10, 11, 12, 13, 14, 15, 16, 17, 18, 19, 20] (by decide +kernel) (by decide +kernel)
set_option maxRecDepth 20000 in
theorem gX7_owners_X7_least : GoodIn wsX7_owners (wsV RX7 87 RX7 yX7_least wsX7_least) := goodIn_app (goodIn_of _ (by decide +kernel)) ggX7_owners_X7_least
theorem dX7_owners_0 : decode cX7_owners 0 = .ok (.iconst 0, 1) := by decide +kernel
theorem dX7_owners_1 : decode cX7_owners 1 = .ok (.istore_n 2, 1) := by decide +kernel
theorem dX7_owners_2 : decode cX7_owners 2 = .ok (.aload_n 0, 1) := by decide +kernel
theorem dX7_owners_3 : decode cX7_owners 3 = .ok (.getfield 25, 3) := by decide +kernel
theorem dX7_owners_6 : decode cX7_owners 6 = .ok (.iload_n 1, 1) := by decide +kernel
theorem dX7_owners_7 : decode cX7_owners 7 = .ok (.iaload, 1) := by decide +kernel
theorem dX7_owners_8 : decode cX7_owners 8 = .ok (.istore_n 3, 1) := by decide +kernel
theorem dX7_owners_9 : decode cX7_owners 9 = .ok (.iload_n 3, 1) := by decide +kernel
theorem dX7_owners_10 : decode cX7_owners 10 = .ok (.aload_n 0, 1) := by decide +kernel
theorem dX7_owners_11 : decode cX7_owners 11 = .ok (.getfield 28, 3) := by decide +kernel
theorem dX7_owners_14 : decode cX7_owners 14 = .ok (.iload_n 1, 1) := by decide +kernel
theorem dX7_owners_15 : decode cX7_owners 15 = .ok (.iaload, 1) := by decide +kernel
theorem dX7_owners_16 : decode cX7_owners 16 = .ok (.if_icmp .gt 42, 3) := by decide +kernel
theorem dX7_owners_19 : decode cX7_owners 19 = .ok (.iload_n 2, 1) := by decide +kernel
theorem dX7_owners_20 : decode cX7_owners 20 = .ok (.aload_n 0, 1) := by decide +kernel
theorem dX7_owners_21 : decode cX7_owners 21 = .ok (.getfield 7, 3) := by decide +kernel
theorem dX7_owners_24 : decode cX7_owners 24 = .ok (.iload_n 3, 1) := by decide +kernel
theorem dX7_owners_25 : decode cX7_owners 25 = .ok (.iaload, 1) := by decide +kernel
theorem dX7_owners_26 : decode cX7_owners 26 = .ok (.aload_n 0, 1) := by decide +kernel
theorem dX7_owners_27 : decode cX7_owners 27 = .ok (.aload_n 0, 1) := by decide +kernel
theorem dX7_owners_28 : decode cX7_owners 28 = .ok (.getfield 25, 3) := by decide +kernel
theorem dX7_owners_31 : decode cX7_owners 31 = .ok (.iload_n 1, 1) := by decide +kernel
theorem dX7_owners_32 : decode cX7_owners 32 = .ok (.iaload, 1) := by decide +kernel
theorem dX7_owners_33 : decode cX7_owners 33 = .ok (.aload_n 0, 1) := by decide +kernel
theorem dX7_owners_34 : decode cX7_owners 34 = .ok (.getfield 28, 3) := by decide +kernel
theorem dX7_owners_37 : decode cX7_owners 37 = .ok (.iload_n 1, 1) := by decide +kernel
theorem dX7_owners_38 : decode cX7_owners 38 = .ok (.iaload, 1) := by decide +kernel
theorem dX7_owners_39 : decode cX7_owners 39 = .ok (.invokevirtual 87, 3) := by decide +kernel
theorem dX7_owners_42 : decode cX7_owners 42 = .ok (.if_icmp .ne 7, 3) := by decide +kernel
theorem dX7_owners_45 : decode cX7_owners 45 = .ok (.iconst 1, 1) := by decide +kernel
theorem dX7_owners_46 : decode cX7_owners 46 = .ok (.goto 4, 3) := by decide +kernel
theorem dX7_owners_49 : decode cX7_owners 49 = .ok (.iconst 0, 1) := by decide +kernel
theorem dX7_owners_50 : decode cX7_owners 50 = .ok (.iadd, 1) := by decide +kernel
theorem dX7_owners_51 : decode cX7_owners 51 = .ok (.istore_n 2, 1) := by decide +kernel
theorem dX7_owners_52 : decode cX7_owners 52 = .ok (.iinc 3 1, 3) := by decide +kernel
theorem dX7_owners_55 : decode cX7_owners 55 = .ok (.goto (-46), 3) := by decide +kernel
theorem dX7_owners_58 : decode cX7_owners 58 = .ok (.iload_n 2, 1) := by decide +kernel
theorem dX7_owners_59 : decode cX7_owners 59 = .ok (.ireturn, 1) := by decide +kernel
set_option maxRecDepth 20000 in
theorem ggX7_rectangle_X7_isIn : GoodIn wsX7_rectangle wsX7_isIn := goodIn_r _ [7] (by decide +kernel) (by decide +kernel)
set_option maxRecDepth 20000 in
theorem gX7_rectangle_X7_isIn : GoodIn wsX7_rectangle (va_wsS RX7 41 yX7_isIn wsX7_isIn) := goodIn_app (goodIn_of _ (by decide +kernel)) ggX7_rectangle_X7_isIn
set_option maxRecDepth 20000 in
theorem ggX7_rectangle_X7_layRectangles : GoodIn wsX7_rectangle wsX7_layRectangles := goodIn_r _ [11, 3, 1, 2, 12, 13, 14, 6, 15, 16, 17, 18, 19, 20, 21, 22, 23, 24, 25, 26, 27, 28, 37, 38, 39, 40, 41, 42, 43, 44, 45, 46, 47, 48] (by decide +kernel) (by decide +kernel)
set_option maxRecDepth 20000 in
theorem gX7_rectangle_X7_layRectangles : GoodIn wsX7_rectangle (wsV RX7 121 RX7 yX7_layRectangles wsX7_layRectangles) := goodIn_app (goodIn_of _ (by decide +kernel)) ggX7_rectangle_X7_layRectangles
set_option maxRecDepth 20000 in
theorem ggX7_rectangle_X7_least : GoodIn wsX7_rectangle wsX7_least := goodIn_r _ [24, 16, 37, 38, 39, 40, 41, 42, 43, 44, 45, 46, 47, 48] (by decide +kernel) (by decide +kernel)
set_option maxRecDepth 20000 in
theorem gX7_rectangle_X7_least : GoodIn wsX7_rectangle (wsV RX7 87 RX7 yX7_least wsX7_least) := goodIn_app (goodIn_of _ (by decide +kernel)) ggX7_rectangle_X7_least
set_option maxRecDepth 20000 in
theorem ggX7_rectangle_X7_owners : GoodIn wsX7_rectangle wsX7_owners := goodIn_r _ [32, 1, 2, 16, 21, 22, 23, 6, 24, 37, 38, 39, 40, 41, 42, 43, 44, 45, 46, 47, 48] (by decide +kernel) (by decide +kernel)
set_option maxRecDepth 20000 in
theorem gX7_rectangle_X7_owners : GoodIn wsX7_rectangle (wsV RX7 153 RX7 yX7_owners wsX7_owners) := goodIn_app (goodIn_of _ (by decide +kernel)) ggX7_rectangle_X7_owners
set_option maxRecDepth 20000 in
theorem ggX7_rectangle_X7_firstWith : GoodIn wsX7_rectangle wsX7_firstWith := goodIn_r _ [36, 16, 37, 38, 39, 40, 41, 42, 43, 44, 45, 46, 47, 48] (by decide +kernel) (by decide +kernel)
set_option maxRecDepth 20000 in
theorem gX7_rectangle_X7_firstWith : GoodIn wsX7_rectangle (wsV RX7 96 RX7 yX7_firstWith wsX7_firstWith) := goodIn_app (goodIn_of _ (by decide +kernel)) ggX7_rectangle_X7_firstWith
theorem dX7_rectangle_0 : decode cX7_rectangle 0 = .ok (.iload_n 1, 1) := by decide +kernel
theorem dX7_rectangle_1 : decode cX7_rectangle 1 = .ok (.ifCond .lt 12, 3) := by decide +kernel
theorem dX7_rectangle_4 : decode cX7_rectangle 4 = .ok (.iload_n 2, 1) := by decide +kernel
theorem dX7_rectangle_5 : decode cX7_rectangle 5 = .ok (.iconst 0, 1) := by decide +kernel
theorem dX7_rectangle_6 : decode cX7_rectangle 6 = .ok (.iconst 5, 1) := by decide +kernel
theorem dX7_rectangle_7 : decode cX7_rectangle 7 = .ok (.invokestatic 41, 3) := by decide +kernel
theorem dX7_rectangle_10 : decode cX7_rectangle 10 = .ok (.ifCond .ne 5, 3) := by decide +kernel
theorem dX7_rectangle_13 : decode cX7_rectangle 13 = .ok (.iconst (-1), 1) := by decide +kernel
theorem dX7_rectangle_14 : decode cX7_rectangle 14 = .ok (.ireturn, 1) := by decide +kernel
theorem dX7_rectangle_15 : decode cX7_rectangle 15 = .ok (.iload_n 1, 1) := by decide +kernel
theorem dX7_rectangle_16 : decode cX7_rectangle 16 = .ok (.aload_n 0, 1) := by decide +kernel
theorem dX7_rectangle_17 : decode cX7_rectangle 17 = .ok (.invokevirtual 121, 3) := by decide +kernel
theorem dX7_rectangle_20 : decode cX7_rectangle 20 = .ok (.if_icmp .lt 6, 3) := by decide +kernel
theorem dX7_rectangle_23 : decode cX7_rectangle 23 = .ok (.bipush (-9), 2) := by decide +kernel
theorem dX7_rectangle_25 : decode cX7_rectangle 25 = .ok (.ireturn, 1) := by decide +kernel
theorem dX7_rectangle_26 : decode cX7_rectangle 26 = .ok (.aload_n 0, 1) := by decide +kernel
theorem dX7_rectangle_27 : decode cX7_rectangle 27 = .ok (.aload_n 0, 1) := by decide +kernel
theorem dX7_rectangle_28 : decode cX7_rectangle 28 = .ok (.getfield 25, 3) := by decide +kernel
theorem dX7_rectangle_31 : decode cX7_rectangle 31 = .ok (.iload_n 1, 1) := by decide +kernel
theorem dX7_rectangle_32 : decode cX7_rectangle 32 = .ok (.iaload, 1) := by decide +kernel
theorem dX7_rectangle_33 : decode cX7_rectangle 33 = .ok (.aload_n 0, 1) := by decide +kernel
theorem dX7_rectangle_34 : decode cX7_rectangle 34 = .ok (.getfield 28, 3) := by decide +kernel
theorem dX7_rectangle_37 : decode cX7_rectangle 37 = .ok (.iload_n 1, 1) := by decide +kernel
theorem dX7_rectangle_38 : decode cX7_rectangle 38 = .ok (.iaload, 1) := by decide +kernel
theorem dX7_rectangle_39 : decode cX7_rectangle 39 = .ok (.invokevirtual 87, 3) := by decide +kernel
theorem dX7_rectangle_42 : decode cX7_rectangle 42 = .ok (.istore_n 3, 1) := by decide +kernel
theorem dX7_rectangle_43 : decode cX7_rectangle 43 = .ok (.iload_n 2, 1) := by decide +kernel
theorem dX7_rectangle_44 : decode cX7_rectangle 44 = .ok (.tableswitch 65 0 4 #[36, 43, 50, 57, 59], 36) := by decide +kernel
theorem dX7_rectangle_80 : decode cX7_rectangle 80 = .ok (.aload_n 0, 1) := by decide +kernel
theorem dX7_rectangle_81 : decode cX7_rectangle 81 = .ok (.getfield 22, 3) := by decide +kernel
theorem dX7_rectangle_84 : decode cX7_rectangle 84 = .ok (.iload_n 1, 1) := by decide +kernel
theorem dX7_rectangle_85 : decode cX7_rectangle 85 = .ok (.iaload, 1) := by decide +kernel
theorem dX7_rectangle_86 : decode cX7_rectangle 86 = .ok (.ireturn, 1) := by decide +kernel
theorem dX7_rectangle_87 : decode cX7_rectangle 87 = .ok (.aload_n 0, 1) := by decide +kernel
theorem dX7_rectangle_88 : decode cX7_rectangle 88 = .ok (.getfield 25, 3) := by decide +kernel
theorem dX7_rectangle_91 : decode cX7_rectangle 91 = .ok (.iload_n 1, 1) := by decide +kernel
theorem dX7_rectangle_92 : decode cX7_rectangle 92 = .ok (.iaload, 1) := by decide +kernel
theorem dX7_rectangle_93 : decode cX7_rectangle 93 = .ok (.ireturn, 1) := by decide +kernel
theorem dX7_rectangle_94 : decode cX7_rectangle 94 = .ok (.aload_n 0, 1) := by decide +kernel
theorem dX7_rectangle_95 : decode cX7_rectangle 95 = .ok (.getfield 28, 3) := by decide +kernel
theorem dX7_rectangle_98 : decode cX7_rectangle 98 = .ok (.iload_n 1, 1) := by decide +kernel
theorem dX7_rectangle_99 : decode cX7_rectangle 99 = .ok (.iaload, 1) := by decide +kernel
theorem dX7_rectangle_100 : decode cX7_rectangle 100 = .ok (.ireturn, 1) := by decide +kernel
theorem dX7_rectangle_101 : decode cX7_rectangle 101 = .ok (.iload_n 3, 1) := by decide +kernel
theorem dX7_rectangle_102 : decode cX7_rectangle 102 = .ok (.ireturn, 1) := by decide +kernel
theorem dX7_rectangle_103 : decode cX7_rectangle 103 = .ok (.aload_n 0, 1) := by decide +kernel
theorem dX7_rectangle_104 : decode cX7_rectangle 104 = .ok (.iload_n 1, 1) := by decide +kernel
theorem dX7_rectangle_105 : decode cX7_rectangle 105 = .ok (.invokevirtual 153, 3) := by decide +kernel
theorem dX7_rectangle_108 : decode cX7_rectangle 108 = .ok (.ireturn, 1) := by decide +kernel
theorem dX7_rectangle_109 : decode cX7_rectangle 109 = .ok (.aload_n 0, 1) := by decide +kernel
theorem dX7_rectangle_110 : decode cX7_rectangle 110 = .ok (.aload_n 0, 1) := by decide +kernel
theorem dX7_rectangle_111 : decode cX7_rectangle 111 = .ok (.getfield 25, 3) := by decide +kernel
theorem dX7_rectangle_114 : decode cX7_rectangle 114 = .ok (.iload_n 1, 1) := by decide +kernel
theorem dX7_rectangle_115 : decode cX7_rectangle 115 = .ok (.iaload, 1) := by decide +kernel
theorem dX7_rectangle_116 : decode cX7_rectangle 116 = .ok (.iload_n 3, 1) := by decide +kernel
theorem dX7_rectangle_117 : decode cX7_rectangle 117 = .ok (.invokevirtual 96, 3) := by decide +kernel
theorem dX7_rectangle_120 : decode cX7_rectangle 120 = .ok (.ireturn, 1) := by decide +kernel
set_option maxRecDepth 20000 in
theorem ggX7_container_X7_isIn : GoodIn wsX7_container wsX7_isIn := goodIn_r _ [5] (by decide +kernel) (by decide +kernel)
set_option maxRecDepth 20000 in
theorem gX7_container_X7_isIn : GoodIn wsX7_container (va_wsS RX7 41 yX7_isIn wsX7_isIn) := goodIn_app (goodIn_of _ (by decide +kernel)) ggX7_container_X7_isIn
set_option maxRecDepth 20000 in
theorem ggX7_container_X7_many : GoodIn wsX7_container wsX7_many := goodIn_r _ [9, 1, 10, 11, 12, 13, 14, 15, 16, 17, 18, 19, 20, 21] (by decide +kernel) (by decide +kernel)
set_option maxRecDepth 20000 in
theorem gX7_container_X7_many : GoodIn wsX7_container (wsV RX7 37 RX7 yX7_many wsX7_many) := goodIn_app (goodIn_of _ (by decide +kernel)) ggX7_container_X7_many
theorem dX7_container_0 : decode cX7_container 0 = .ok (.iload_n 1, 1) := by decide +kernel
theorem dX7_container_1 : decode cX7_container 1 = .ok (.iconst 0, 1) := by decide +kernel
theorem dX7_container_2 : decode cX7_container 2 = .ok (.iconst 2, 1) := by decide +kernel
theorem dX7_container_3 : decode cX7_container 3 = .ok (.invokestatic 41, 3) := by decide +kernel
theorem dX7_container_6 : decode cX7_container 6 = .ok (.ifCond .ne 5, 3) := by decide +kernel
theorem dX7_container_9 : decode cX7_container 9 = .ok (.iconst (-1), 1) := by decide +kernel
theorem dX7_container_10 : decode cX7_container 10 = .ok (.ireturn, 1) := by decide +kernel
theorem dX7_container_11 : decode cX7_container 11 = .ok (.bipush (-9), 2) := by decide +kernel
theorem dX7_container_13 : decode cX7_container 13 = .ok (.istore_n 2, 1) := by decide +kernel
theorem dX7_container_14 : decode cX7_container 14 = .ok (.bipush (-9), 2) := by decide +kernel
theorem dX7_container_16 : decode cX7_container 16 = .ok (.istore_n 3, 1) := by decide +kernel
theorem dX7_container_17 : decode cX7_container 17 = .ok (.bipush (-9), 2) := by decide +kernel
theorem dX7_container_19 : decode cX7_container 19 = .ok (.istore 4, 2) := by decide +kernel
theorem dX7_container_21 : decode cX7_container 21 = .ok (.iconst 0, 1) := by decide +kernel
theorem dX7_container_22 : decode cX7_container 22 = .ok (.istore 5, 2) := by decide +kernel
theorem dX7_container_24 : decode cX7_container 24 = .ok (.iload 5, 2) := by decide +kernel
theorem dX7_container_26 : decode cX7_container 26 = .ok (.aload_n 0, 1) := by decide +kernel
theorem dX7_container_27 : decode cX7_container 27 = .ok (.invokevirtual 37, 3) := by decide +kernel
theorem dX7_container_30 : decode cX7_container 30 = .ok (.if_icmp .ge 88, 3) := by decide +kernel
theorem dX7_container_33 : decode cX7_container 33 = .ok (.iload 5, 2) := by decide +kernel
theorem dX7_container_35 : decode cX7_container 35 = .ok (.iconst 1, 1) := by decide +kernel
theorem dX7_container_36 : decode cX7_container 36 = .ok (.iadd, 1) := by decide +kernel
theorem dX7_container_37 : decode cX7_container 37 = .ok (.istore 6, 2) := by decide +kernel
theorem dX7_container_39 : decode cX7_container 39 = .ok (.iload 6, 2) := by decide +kernel
theorem dX7_container_41 : decode cX7_container 41 = .ok (.aload_n 0, 1) := by decide +kernel
theorem dX7_container_42 : decode cX7_container 42 = .ok (.invokevirtual 37, 3) := by decide +kernel
theorem dX7_container_45 : decode cX7_container 45 = .ok (.if_icmp .ge 67, 3) := by decide +kernel
theorem dX7_container_48 : decode cX7_container 48 = .ok (.aload_n 0, 1) := by decide +kernel
theorem dX7_container_49 : decode cX7_container 49 = .ok (.getfield 7, 3) := by decide +kernel
theorem dX7_container_52 : decode cX7_container 52 = .ok (.iload 5, 2) := by decide +kernel
theorem dX7_container_54 : decode cX7_container 54 = .ok (.iaload, 1) := by decide +kernel
theorem dX7_container_55 : decode cX7_container 55 = .ok (.aload_n 0, 1) := by decide +kernel
theorem dX7_container_56 : decode cX7_container 56 = .ok (.getfield 7, 3) := by decide +kernel
theorem dX7_container_59 : decode cX7_container 59 = .ok (.iload 6, 2) := by decide +kernel
theorem dX7_container_61 : decode cX7_container 61 = .ok (.iaload, 1) := by decide +kernel
theorem dX7_container_62 : decode cX7_container 62 = .ok (.if_icmp .ge 13, 3) := by decide +kernel
theorem dX7_container_65 : decode cX7_container 65 = .ok (.aload_n 0, 1) := by decide +kernel
theorem dX7_container_66 : decode cX7_container 66 = .ok (.getfield 7, 3) := by decide +kernel
theorem dX7_container_69 : decode cX7_container 69 = .ok (.iload 5, 2) := by decide +kernel
theorem dX7_container_71 : decode cX7_container 71 = .ok (.iaload, 1) := by decide +kernel
theorem dX7_container_72 : decode cX7_container 72 = .ok (.goto 10, 3) := by decide +kernel
theorem dX7_container_75 : decode cX7_container 75 = .ok (.aload_n 0, 1) := by decide +kernel
theorem dX7_container_76 : decode cX7_container 76 = .ok (.getfield 7, 3) := by decide +kernel
theorem dX7_container_79 : decode cX7_container 79 = .ok (.iload 6, 2) := by decide +kernel
theorem dX7_container_81 : decode cX7_container 81 = .ok (.iaload, 1) := by decide +kernel
theorem dX7_container_82 : decode cX7_container 82 = .ok (.iload 6, 2) := by decide +kernel
theorem dX7_container_84 : decode cX7_container 84 = .ok (.iload 5, 2) := by decide +kernel
theorem dX7_container_86 : decode cX7_container 86 = .ok (.isub, 1) := by decide +kernel
theorem dX7_container_87 : decode cX7_container 87 = .ok (.imul, 1) := by decide +kernel
theorem dX7_container_88 : decode cX7_container 88 = .ok (.istore 7, 2) := by decide +kernel
theorem dX7_container_90 : decode cX7_container 90 = .ok (.iload 7, 2) := by decide +kernel
theorem dX7_container_92 : decode cX7_container 92 = .ok (.iload_n 2, 1) := by decide +kernel
theorem dX7_container_93 : decode cX7_container 93 = .ok (.if_icmp .le 13, 3) := by decide +kernel
theorem dX7_container_96 : decode cX7_container 96 = .ok (.iload 7, 2) := by decide +kernel
theorem dX7_container_98 : decode cX7_container 98 = .ok (.istore_n 2, 1) := by decide +kernel
theorem dX7_container_99 : decode cX7_container 99 = .ok (.iload 5, 2) := by decide +kernel
theorem dX7_container_101 : decode cX7_container 101 = .ok (.istore_n 3, 1) := by decide +kernel
theorem dX7_container_102 : decode cX7_container 102 = .ok (.iload 6, 2) := by decide +kernel
theorem dX7_container_104 : decode cX7_container 104 = .ok (.istore 4, 2) := by decide +kernel
theorem dX7_container_106 : decode cX7_container 106 = .ok (.iinc 6 1, 3) := by decide +kernel
theorem dX7_container_109 : decode cX7_container 109 = .ok (.goto (-70), 3) := by decide +kernel
theorem dX7_container_112 : decode cX7_container 112 = .ok (.iinc 5 1, 3) := by decide +kernel
theorem dX7_container_115 : decode cX7_container 115 = .ok (.goto (-91), 3) := by decide +kernel
theorem dX7_container_118 : decode cX7_container 118 = .ok (.iload_n 1, 1) := by decide +kernel
theorem dX7_container_119 : decode cX7_container 119 = .ok (.ifCond .ne 7, 3) := by decide +kernel
theorem dX7_container_122 : decode cX7_container 122 = .ok (.iload_n 2, 1) := by decide +kernel
theorem dX7_container_123 : decode cX7_container 123 = .ok (.goto 14, 3) := by decide +kernel
theorem dX7_container_126 : decode cX7_container 126 = .ok (.iload_n 1, 1) := by decide +kernel
theorem dX7_container_127 : decode cX7_container 127 = .ok (.iconst 1, 1) := by decide +kernel
theorem dX7_container_128 : decode cX7_container 128 = .ok (.if_icmp .ne 7, 3) := by decide +kernel
theorem dX7_container_131 : decode cX7_container 131 = .ok (.iload_n 3, 1) := by decide +kernel
theorem dX7_container_132 : decode cX7_container 132 = .ok (.goto 5, 3) := by decide +kernel
theorem dX7_container_135 : decode cX7_container 135 = .ok (.iload 4, 2) := by decide +kernel
theorem dX7_container_137 : decode cX7_container 137 = .ok (.ireturn, 1) := by decide +kernel
set_option maxRecDepth 20000 in
theorem ggX7_poolBegin_X7_many : GoodIn wsX7_poolBegin wsX7_many := goodIn_r _ [5, 6, 30, 31, 32, 33, 34, 35, 36, 37, 38, 39, 40, 41] (by decide +kernel) (by decide +kernel)
set_option maxRecDepth 20000 in
theorem gX7_poolBegin_X7_many : GoodIn wsX7_poolBegin (wsV RX7 37 RX7 yX7_many wsX7_many) := goodIn_app (goodIn_of _ (by decide +kernel)) ggX7_poolBegin_X7_many
set_option maxRecDepth 20000 in
theorem ggX7_poolBegin_X7_beginsPool : GoodIn wsX7_poolBegin wsX7_beginsPool := goodIn_r _ [10, 11, 12, 13, 4, 14, 15, 16, 17, 18, 1, 2, 3, 5, 6, 19, 20, 21, 22, 23, 24, 25, 26, 27, 28, 29, 30, 31, 32, 33, 34, 35, 36, 37, 38, 39, 40, 41] (by decide +kernel) (by decide +kernel)
set_option maxRecDepth 20000 in
theorem gX7_poolBegin_X7_beginsPool : GoodIn wsX7_poolBegin (wsV RX7 84 RX7 yX7_beginsPool wsX7_beginsPool) := goodIn_app (goodIn_of _ (by decide +kernel)) ggX7_poolBegin_X7_beginsPool
theorem dX7_poolBegin_0 : decode cX7_poolBegin 0 = .ok (.iload_n 1, 1) := by decide +kernel
theorem dX7_poolBegin_1 : decode cX7_poolBegin 1 = .ok (.istore_n 2, 1) := by decide +kernel
theorem dX7_poolBegin_2 : decode cX7_poolBegin 2 = .ok (.iconst 0, 1) := by decide +kernel
theorem dX7_poolBegin_3 : decode cX7_poolBegin 3 = .ok (.istore_n 3, 1) := by decide +kernel
theorem dX7_poolBegin_4 : decode cX7_poolBegin 4 = .ok (.iload_n 3, 1) := by decide +kernel
theorem dX7_poolBegin_5 : decode cX7_poolBegin 5 = .ok (.aload_n 0, 1) := by decide +kernel
theorem dX7_poolBegin_6 : decode cX7_poolBegin 6 = .ok (.invokevirtual 37, 3) := by decide +kernel
theorem dX7_poolBegin_9 : decode cX7_poolBegin 9 = .ok (.if_icmp .ge 26, 3) := by decide +kernel
theorem dX7_poolBegin_12 : decode cX7_poolBegin 12 = .ok (.aload_n 0, 1) := by decide +kernel
theorem dX7_poolBegin_13 : decode cX7_poolBegin 13 = .ok (.iload_n 3, 1) := by decide +kernel
theorem dX7_poolBegin_14 : decode cX7_poolBegin 14 = .ok (.invokevirtual 84, 3) := by decide +kernel
theorem dX7_poolBegin_17 : decode cX7_poolBegin 17 = .ok (.ifCond .eq 12, 3) := by decide +kernel
theorem dX7_poolBegin_20 : decode cX7_poolBegin 20 = .ok (.iload_n 2, 1) := by decide +kernel
theorem dX7_poolBegin_21 : decode cX7_poolBegin 21 = .ok (.ifCond .ne 5, 3) := by decide +kernel
theorem dX7_poolBegin_24 : decode cX7_poolBegin 24 = .ok (.iload_n 3, 1) := by decide +kernel
theorem dX7_poolBegin_25 : decode cX7_poolBegin 25 = .ok (.ireturn, 1) := by decide +kernel
theorem dX7_poolBegin_26 : decode cX7_poolBegin 26 = .ok (.iinc 2 (-1), 3) := by decide +kernel
theorem dX7_poolBegin_29 : decode cX7_poolBegin 29 = .ok (.iinc 3 1, 3) := by decide +kernel
theorem dX7_poolBegin_32 : decode cX7_poolBegin 32 = .ok (.goto (-28), 3) := by decide +kernel
theorem dX7_poolBegin_35 : decode cX7_poolBegin 35 = .ok (.bipush (-9), 2) := by decide +kernel
theorem dX7_poolBegin_37 : decode cX7_poolBegin 37 = .ok (.ireturn, 1) := by decide +kernel
set_option maxRecDepth 20000 in
theorem ggX7_pool_X7_isIn : GoodIn wsX7_pool wsX7_isIn := goodIn_r _ [5] (by decide +kernel) (by decide +kernel)
set_option maxRecDepth 20000 in
theorem gX7_pool_X7_isIn : GoodIn wsX7_pool (va_wsS RX7 41 yX7_isIn wsX7_isIn) := goodIn_app (goodIn_of _ (by decide +kernel)) ggX7_pool_X7_isIn
set_option maxRecDepth 20000 in
theorem ggX7_pool_X7_poolBegin : GoodIn wsX7_pool wsX7_poolBegin := goodIn_r _ [9, 10, 11, 12, 4, 13, 1, 14, 15, 16, 17, 18, 19, 20, 21, 22, 23, 24, 25, 2, 3, 5, 26, 27, 28, 29, 30, 31, 32, 33, 34, 35, 36, 37, 38, 39, 40, 41, 42, 43, 44, 45] (by decide +kernel) (by decide +kernel)
set_option maxRecDepth 20000 in
theorem gX7_pool_X7_poolBegin : GoodIn wsX7_pool (wsV RX7 156 RX7 yX7_poolBegin wsX7_poolBegin) := goodIn_app (goodIn_of _ (by decide +kernel)) ggX7_pool_X7_poolBegin
set_option maxRecDepth 20000 in
theorem ggX7_pool_X7_isWet : GoodIn wsX7_pool wsX7_isWet := goodIn_r _ [21, 22, 23, 24, 4, 25, 10, 11, 12, 13, 1, 2, 3, 5, 26, 27, 28, 29, 30, 31, 32, 33, 34, 35, 36, 37, 38, 39, 40, 41, 42, 43, 44, 45] (by decide +kernel) (by decide +kernel)
set_option maxRecDepth 20000 in
theorem gX7_pool_X7_isWet : GoodIn wsX7_pool (wsV RX7 81 RX7 yX7_isWet wsX7_isWet) := goodIn_app (goodIn_of _ (by decide +kernel)) ggX7_pool_X7_isWet
set_option maxRecDepth 20000 in
theorem ggX7_pool_X7_many : GoodIn wsX7_pool wsX7_many := goodIn_r _ [13, 1, 34, 35, 36, 37, 38, 39, 40, 41, 42, 43, 44, 45] (by decide +kernel) (by decide +kernel)
set_option maxRecDepth 20000 in
theorem gX7_pool_X7_many : GoodIn wsX7_pool (wsV RX7 37 RX7 yX7_many wsX7_many) := goodIn_app (goodIn_of _ (by decide +kernel)) ggX7_pool_X7_many
set_option maxRecDepth 20000 in
theorem ggX7_pool_X7_depth : GoodIn wsX7_pool wsX7_depth := goodIn_r _ [29, 1, 30, 31, 32, 4, 33, 34, 35, 36, 37, 38, 39, 40, 41, 42, 43, 44, 45] (by decide +kernel) (by decide +kernel)
set_option maxRecDepth 20000 in
theorem gX7_pool_X7_depth : GoodIn wsX7_pool (wsV RX7 74 RX7 yX7_depth wsX7_depth) := goodIn_app (goodIn_of _ (by decide +kernel)) ggX7_pool_X7_depth
theorem dX7_pool_0 : decode cX7_pool 0 = .ok (.iload_n 1, 1) := by decide +kernel
theorem dX7_pool_1 : decode cX7_pool 1 = .ok (.ifCond .lt 12, 3) := by decide +kernel
theorem dX7_pool_4 : decode cX7_pool 4 = .ok (.iload_n 2, 1) := by decide +kernel
theorem dX7_pool_5 : decode cX7_pool 5 = .ok (.iconst 0, 1) := by decide +kernel
theorem dX7_pool_6 : decode cX7_pool 6 = .ok (.iconst 4, 1) := by decide +kernel
theorem dX7_pool_7 : decode cX7_pool 7 = .ok (.invokestatic 41, 3) := by decide +kernel
theorem dX7_pool_10 : decode cX7_pool 10 = .ok (.ifCond .ne 5, 3) := by decide +kernel
theorem dX7_pool_13 : decode cX7_pool 13 = .ok (.iconst (-1), 1) := by decide +kernel
theorem dX7_pool_14 : decode cX7_pool 14 = .ok (.ireturn, 1) := by decide +kernel
theorem dX7_pool_15 : decode cX7_pool 15 = .ok (.aload_n 0, 1) := by decide +kernel
theorem dX7_pool_16 : decode cX7_pool 16 = .ok (.iload_n 1, 1) := by decide +kernel
theorem dX7_pool_17 : decode cX7_pool 17 = .ok (.invokevirtual 156, 3) := by decide +kernel
theorem dX7_pool_20 : decode cX7_pool 20 = .ok (.istore_n 3, 1) := by decide +kernel
theorem dX7_pool_21 : decode cX7_pool 21 = .ok (.iload_n 3, 1) := by decide +kernel
theorem dX7_pool_22 : decode cX7_pool 22 = .ok (.bipush (-9), 2) := by decide +kernel
theorem dX7_pool_24 : decode cX7_pool 24 = .ok (.if_icmp .ne 6, 3) := by decide +kernel
theorem dX7_pool_27 : decode cX7_pool 27 = .ok (.bipush (-9), 2) := by decide +kernel
theorem dX7_pool_29 : decode cX7_pool 29 = .ok (.ireturn, 1) := by decide +kernel
theorem dX7_pool_30 : decode cX7_pool 30 = .ok (.iload_n 3, 1) := by decide +kernel
theorem dX7_pool_31 : decode cX7_pool 31 = .ok (.istore 4, 2) := by decide +kernel
theorem dX7_pool_33 : decode cX7_pool 33 = .ok (.iconst 0, 1) := by decide +kernel
theorem dX7_pool_34 : decode cX7_pool 34 = .ok (.istore 5, 2) := by decide +kernel
theorem dX7_pool_36 : decode cX7_pool 36 = .ok (.iconst 0, 1) := by decide +kernel
theorem dX7_pool_37 : decode cX7_pool 37 = .ok (.istore 6, 2) := by decide +kernel
theorem dX7_pool_39 : decode cX7_pool 39 = .ok (.aload_n 0, 1) := by decide +kernel
theorem dX7_pool_40 : decode cX7_pool 40 = .ok (.iload 4, 2) := by decide +kernel
theorem dX7_pool_42 : decode cX7_pool 42 = .ok (.invokevirtual 81, 3) := by decide +kernel
theorem dX7_pool_45 : decode cX7_pool 45 = .ok (.ifCond .eq 47, 3) := by decide +kernel
theorem dX7_pool_48 : decode cX7_pool 48 = .ok (.aload_n 0, 1) := by decide +kernel
theorem dX7_pool_49 : decode cX7_pool 49 = .ok (.iconst 0, 1) := by decide +kernel
theorem dX7_pool_50 : decode cX7_pool 50 = .ok (.aload_n 0, 1) := by decide +kernel
theorem dX7_pool_51 : decode cX7_pool 51 = .ok (.invokevirtual 37, 3) := by decide +kernel
theorem dX7_pool_54 : decode cX7_pool 54 = .ok (.iconst 1, 1) := by decide +kernel
theorem dX7_pool_55 : decode cX7_pool 55 = .ok (.isub, 1) := by decide +kernel
theorem dX7_pool_56 : decode cX7_pool 56 = .ok (.iload 4, 2) := by decide +kernel
theorem dX7_pool_58 : decode cX7_pool 58 = .ok (.invokevirtual 74, 3) := by decide +kernel
theorem dX7_pool_61 : decode cX7_pool 61 = .ok (.istore 7, 2) := by decide +kernel
theorem dX7_pool_63 : decode cX7_pool 63 = .ok (.iload 5, 2) := by decide +kernel
theorem dX7_pool_65 : decode cX7_pool 65 = .ok (.iload 7, 2) := by decide +kernel
theorem dX7_pool_67 : decode cX7_pool 67 = .ok (.iadd, 1) := by decide +kernel
theorem dX7_pool_68 : decode cX7_pool 68 = .ok (.istore 5, 2) := by decide +kernel
theorem dX7_pool_70 : decode cX7_pool 70 = .ok (.iload 7, 2) := by decide +kernel
theorem dX7_pool_72 : decode cX7_pool 72 = .ok (.iload 6, 2) := by decide +kernel
theorem dX7_pool_74 : decode cX7_pool 74 = .ok (.if_icmp .le 8, 3) := by decide +kernel
theorem dX7_pool_77 : decode cX7_pool 77 = .ok (.iload 7, 2) := by decide +kernel
theorem dX7_pool_79 : decode cX7_pool 79 = .ok (.goto 5, 3) := by decide +kernel
theorem dX7_pool_82 : decode cX7_pool 82 = .ok (.iload 6, 2) := by decide +kernel
theorem dX7_pool_84 : decode cX7_pool 84 = .ok (.istore 6, 2) := by decide +kernel
theorem dX7_pool_86 : decode cX7_pool 86 = .ok (.iinc 4 1, 3) := by decide +kernel
theorem dX7_pool_89 : decode cX7_pool 89 = .ok (.goto (-50), 3) := by decide +kernel
theorem dX7_pool_92 : decode cX7_pool 92 = .ok (.iload_n 2, 1) := by decide +kernel
theorem dX7_pool_93 : decode cX7_pool 93 = .ok (.tableswitch 61 0 3 #[31, 33, 38, 41], 31) := by decide +kernel
theorem dX7_pool_124 : decode cX7_pool 124 = .ok (.iload_n 3, 1) := by decide +kernel
theorem dX7_pool_125 : decode cX7_pool 125 = .ok (.ireturn, 1) := by decide +kernel
theorem dX7_pool_126 : decode cX7_pool 126 = .ok (.iload 4, 2) := by decide +kernel
theorem dX7_pool_128 : decode cX7_pool 128 = .ok (.iconst 1, 1) := by decide +kernel
theorem dX7_pool_129 : decode cX7_pool 129 = .ok (.isub, 1) := by decide +kernel
theorem dX7_pool_130 : decode cX7_pool 130 = .ok (.ireturn, 1) := by decide +kernel
theorem dX7_pool_131 : decode cX7_pool 131 = .ok (.iload 5, 2) := by decide +kernel
theorem dX7_pool_133 : decode cX7_pool 133 = .ok (.ireturn, 1) := by decide +kernel
theorem dX7_pool_134 : decode cX7_pool 134 = .ok (.aload_n 0, 1) := by decide +kernel
theorem dX7_pool_135 : decode cX7_pool 135 = .ok (.getfield 7, 3) := by decide +kernel
theorem dX7_pool_138 : decode cX7_pool 138 = .ok (.iload_n 3, 1) := by decide +kernel
theorem dX7_pool_139 : decode cX7_pool 139 = .ok (.iaload, 1) := by decide +kernel
theorem dX7_pool_140 : decode cX7_pool 140 = .ok (.aload_n 0, 1) := by decide +kernel
theorem dX7_pool_141 : decode cX7_pool 141 = .ok (.iconst 0, 1) := by decide +kernel
theorem dX7_pool_142 : decode cX7_pool 142 = .ok (.aload_n 0, 1) := by decide +kernel
theorem dX7_pool_143 : decode cX7_pool 143 = .ok (.invokevirtual 37, 3) := by decide +kernel
theorem dX7_pool_146 : decode cX7_pool 146 = .ok (.iconst 1, 1) := by decide +kernel
theorem dX7_pool_147 : decode cX7_pool 147 = .ok (.isub, 1) := by decide +kernel
theorem dX7_pool_148 : decode cX7_pool 148 = .ok (.iload_n 3, 1) := by decide +kernel
theorem dX7_pool_149 : decode cX7_pool 149 = .ok (.invokevirtual 74, 3) := by decide +kernel
theorem dX7_pool_152 : decode cX7_pool 152 = .ok (.iadd, 1) := by decide +kernel
theorem dX7_pool_153 : decode cX7_pool 153 = .ok (.ireturn, 1) := by decide +kernel
theorem dX7_pool_154 : decode cX7_pool 154 = .ok (.iload 6, 2) := by decide +kernel
theorem dX7_pool_156 : decode cX7_pool 156 = .ok (.ireturn, 1) := by decide +kernel
set_option maxRecDepth 20000 in
theorem ggX7_drained_X7_isColumn : GoodIn wsX7_drained wsX7_isColumn := goodIn_r _ [5, 6, 7, 8, 4, 9, 10, 11, 12, 13, 26, 27, 28, 29, 30, 31, 32, 33, 34, 35, 36, 37] (by decide +kernel) (by decide +kernel)
set_option maxRecDepth 20000 in
theorem gX7_drained_X7_isColumn : GoodIn wsX7_drained (wsV RX7 45 RX7 yX7_isColumn wsX7_isColumn) := goodIn_app (goodIn_of _ (by decide +kernel)) ggX7_drained_X7_isColumn
set_option maxRecDepth 20000 in
theorem ggX7_drained_X7_many : GoodIn wsX7_drained wsX7_many := goodIn_r _ [9, 10, 26, 27, 28, 29, 30, 31, 32, 33, 34, 35, 36, 37] (by decide +kernel) (by decide +kernel)
set_option maxRecDepth 20000 in
theorem gX7_drained_X7_many : GoodIn wsX7_drained (wsV RX7 37 RX7 yX7_many wsX7_many) := goodIn_app (goodIn_of _ (by decide +kernel)) ggX7_drained_X7_many
set_option maxRecDepth 20000 in
theorem ggX7_drained_X7_water : GoodIn wsX7_drained wsX7_water := goodIn_r _ [17, 18, 19, 20, 4, 21, 10, 22, 23, 24, 25, 26, 27, 28, 29, 30, 31, 32, 33, 34, 35, 36, 37] (by decide +kernel) (by decide +kernel)
set_option maxRecDepth 20000 in
theorem gX7_drained_X7_water : GoodIn wsX7_drained (wsV RX7 71 RX7 yX7_water wsX7_water) := goodIn_app (goodIn_of _ (by decide +kernel)) ggX7_drained_X7_water
theorem dX7_drained_0 : decode cX7_drained 0 = .ok (.aload_n 0, 1) := by decide +kernel
theorem dX7_drained_1 : decode cX7_drained 1 = .ok (.iload_n 1, 1) := by decide +kernel
theorem dX7_drained_2 : decode cX7_drained 2 = .ok (.invokevirtual 45, 3) := by decide +kernel
theorem dX7_drained_5 : decode cX7_drained 5 = .ok (.ifCond .eq 36, 3) := by decide +kernel
theorem dX7_drained_8 : decode cX7_drained 8 = .ok (.aload_n 0, 1) := by decide +kernel
theorem dX7_drained_9 : decode cX7_drained 9 = .ok (.iconst 0, 1) := by decide +kernel
theorem dX7_drained_10 : decode cX7_drained 10 = .ok (.aload_n 0, 1) := by decide +kernel
theorem dX7_drained_11 : decode cX7_drained 11 = .ok (.invokevirtual 37, 3) := by decide +kernel
theorem dX7_drained_14 : decode cX7_drained 14 = .ok (.iconst 1, 1) := by decide +kernel
theorem dX7_drained_15 : decode cX7_drained 15 = .ok (.isub, 1) := by decide +kernel
theorem dX7_drained_16 : decode cX7_drained 16 = .ok (.invokevirtual 71, 3) := by decide +kernel
theorem dX7_drained_19 : decode cX7_drained 19 = .ok (.aload_n 0, 1) := by decide +kernel
theorem dX7_drained_20 : decode cX7_drained 20 = .ok (.iconst 0, 1) := by decide +kernel
theorem dX7_drained_21 : decode cX7_drained 21 = .ok (.iload_n 1, 1) := by decide +kernel
theorem dX7_drained_22 : decode cX7_drained 22 = .ok (.invokevirtual 71, 3) := by decide +kernel
theorem dX7_drained_25 : decode cX7_drained 25 = .ok (.isub, 1) := by decide +kernel
theorem dX7_drained_26 : decode cX7_drained 26 = .ok (.aload_n 0, 1) := by decide +kernel
theorem dX7_drained_27 : decode cX7_drained 27 = .ok (.iload_n 1, 1) := by decide +kernel
theorem dX7_drained_28 : decode cX7_drained 28 = .ok (.aload_n 0, 1) := by decide +kernel
theorem dX7_drained_29 : decode cX7_drained 29 = .ok (.invokevirtual 37, 3) := by decide +kernel
theorem dX7_drained_32 : decode cX7_drained 32 = .ok (.iconst 1, 1) := by decide +kernel
theorem dX7_drained_33 : decode cX7_drained 33 = .ok (.isub, 1) := by decide +kernel
theorem dX7_drained_34 : decode cX7_drained 34 = .ok (.invokevirtual 71, 3) := by decide +kernel
theorem dX7_drained_37 : decode cX7_drained 37 = .ok (.isub, 1) := by decide +kernel
theorem dX7_drained_38 : decode cX7_drained 38 = .ok (.goto 4, 3) := by decide +kernel
theorem dX7_drained_41 : decode cX7_drained 41 = .ok (.iconst (-1), 1) := by decide +kernel
theorem dX7_drained_42 : decode cX7_drained 42 = .ok (.ireturn, 1) := by decide +kernel
set_option maxRecDepth 20000 in
theorem ggX7_dam_X7_isIn : GoodIn wsX7_dam wsX7_isIn := goodIn_r _ [5] (by decide +kernel) (by decide +kernel)
set_option maxRecDepth 20000 in
theorem gX7_dam_X7_isIn : GoodIn wsX7_dam (va_wsS RX7 41 yX7_isIn wsX7_isIn) := goodIn_app (goodIn_of _ (by decide +kernel)) ggX7_dam_X7_isIn
set_option maxRecDepth 20000 in
theorem ggX7_dam_X7_many : GoodIn wsX7_dam wsX7_many := goodIn_r _ [9, 1, 25, 26, 27, 28, 29, 30, 31, 32, 33, 34, 35, 36] (by decide +kernel) (by decide +kernel)
set_option maxRecDepth 20000 in
theorem gX7_dam_X7_many : GoodIn wsX7_dam (wsV RX7 37 RX7 yX7_many wsX7_many) := goodIn_app (goodIn_of _ (by decide +kernel)) ggX7_dam_X7_many
set_option maxRecDepth 20000 in
theorem ggX7_dam_X7_capped : GoodIn wsX7_dam wsX7_capped := goodIn_r _ [12] (by decide +kernel) (by decide +kernel)
set_option maxRecDepth 20000 in
theorem gX7_dam_X7_capped : GoodIn wsX7_dam (va_wsS RX7 64 yX7_capped wsX7_capped) := goodIn_app (goodIn_of _ (by decide +kernel)) ggX7_dam_X7_capped
set_option maxRecDepth 20000 in
theorem ggX7_dam_X7_water : GoodIn wsX7_dam wsX7_water := goodIn_r _ [16, 17, 18, 19, 4, 20, 1, 21, 22, 23, 24, 25, 26, 27, 28, 29, 30, 31, 32, 33, 34, 35, 36] (by decide +kernel) (by decide +kernel)
set_option maxRecDepth 20000 in
theorem gX7_dam_X7_water : GoodIn wsX7_dam (wsV RX7 71 RX7 yX7_water wsX7_water) := goodIn_app (goodIn_of _ (by decide +kernel)) ggX7_dam_X7_water
theorem dX7_dam_0 : decode cX7_dam 0 = .ok (.iload_n 1, 1) := by decide +kernel
theorem dX7_dam_1 : decode cX7_dam 1 = .ok (.iconst 1, 1) := by decide +kernel
theorem dX7_dam_2 : decode cX7_dam 2 = .ok (.bipush 50, 2) := by decide +kernel
theorem dX7_dam_4 : decode cX7_dam 4 = .ok (.invokestatic 41, 3) := by decide +kernel
theorem dX7_dam_7 : decode cX7_dam 7 = .ok (.ifCond .eq 12, 3) := by decide +kernel
theorem dX7_dam_10 : decode cX7_dam 10 = .ok (.iload_n 2, 1) := by decide +kernel
theorem dX7_dam_11 : decode cX7_dam 11 = .ok (.iconst 0, 1) := by decide +kernel
theorem dX7_dam_12 : decode cX7_dam 12 = .ok (.iconst 1, 1) := by decide +kernel
theorem dX7_dam_13 : decode cX7_dam 13 = .ok (.invokestatic 41, 3) := by decide +kernel
theorem dX7_dam_16 : decode cX7_dam 16 = .ok (.ifCond .ne 5, 3) := by decide +kernel
theorem dX7_dam_19 : decode cX7_dam 19 = .ok (.iconst (-1), 1) := by decide +kernel
theorem dX7_dam_20 : decode cX7_dam 20 = .ok (.ireturn, 1) := by decide +kernel
theorem dX7_dam_21 : decode cX7_dam 21 = .ok (.aload_n 0, 1) := by decide +kernel
theorem dX7_dam_22 : decode cX7_dam 22 = .ok (.invokevirtual 37, 3) := by decide +kernel
theorem dX7_dam_25 : decode cX7_dam 25 = .ok (.ifCond .ne 6, 3) := by decide +kernel
theorem dX7_dam_28 : decode cX7_dam 28 = .ok (.bipush (-2), 2) := by decide +kernel
theorem dX7_dam_30 : decode cX7_dam 30 = .ok (.ireturn, 1) := by decide +kernel
theorem dX7_dam_31 : decode cX7_dam 31 = .ok (.bipush (-9), 2) := by decide +kernel
theorem dX7_dam_33 : decode cX7_dam 33 = .ok (.istore_n 3, 1) := by decide +kernel
theorem dX7_dam_34 : decode cX7_dam 34 = .ok (.bipush (-9), 2) := by decide +kernel
theorem dX7_dam_36 : decode cX7_dam 36 = .ok (.istore 4, 2) := by decide +kernel
theorem dX7_dam_38 : decode cX7_dam 38 = .ok (.iconst 0, 1) := by decide +kernel
theorem dX7_dam_39 : decode cX7_dam 39 = .ok (.istore 5, 2) := by decide +kernel
theorem dX7_dam_41 : decode cX7_dam 41 = .ok (.iload 5, 2) := by decide +kernel
theorem dX7_dam_43 : decode cX7_dam 43 = .ok (.aload_n 0, 1) := by decide +kernel
theorem dX7_dam_44 : decode cX7_dam 44 = .ok (.invokevirtual 37, 3) := by decide +kernel
theorem dX7_dam_47 : decode cX7_dam 47 = .ok (.if_icmp .ge 68, 3) := by decide +kernel
theorem dX7_dam_50 : decode cX7_dam 50 = .ok (.aload_n 0, 1) := by decide +kernel
theorem dX7_dam_51 : decode cX7_dam 51 = .ok (.getfield 7, 3) := by decide +kernel
theorem dX7_dam_54 : decode cX7_dam 54 = .ok (.iload 5, 2) := by decide +kernel
theorem dX7_dam_56 : decode cX7_dam 56 = .ok (.iaload, 1) := by decide +kernel
theorem dX7_dam_57 : decode cX7_dam 57 = .ok (.istore 6, 2) := by decide +kernel
theorem dX7_dam_59 : decode cX7_dam 59 = .ok (.aload_n 0, 1) := by decide +kernel
theorem dX7_dam_60 : decode cX7_dam 60 = .ok (.getfield 7, 3) := by decide +kernel
theorem dX7_dam_63 : decode cX7_dam 63 = .ok (.iload 5, 2) := by decide +kernel
theorem dX7_dam_65 : decode cX7_dam 65 = .ok (.iload 6, 2) := by decide +kernel
theorem dX7_dam_67 : decode cX7_dam 67 = .ok (.iload_n 1, 1) := by decide +kernel
theorem dX7_dam_68 : decode cX7_dam 68 = .ok (.iadd, 1) := by decide +kernel
theorem dX7_dam_69 : decode cX7_dam 69 = .ok (.invokestatic 64, 3) := by decide +kernel
theorem dX7_dam_72 : decode cX7_dam 72 = .ok (.iastore, 1) := by decide +kernel
theorem dX7_dam_73 : decode cX7_dam 73 = .ok (.aload_n 0, 1) := by decide +kernel
theorem dX7_dam_74 : decode cX7_dam 74 = .ok (.iconst 0, 1) := by decide +kernel
theorem dX7_dam_75 : decode cX7_dam 75 = .ok (.aload_n 0, 1) := by decide +kernel
theorem dX7_dam_76 : decode cX7_dam 76 = .ok (.invokevirtual 37, 3) := by decide +kernel
theorem dX7_dam_79 : decode cX7_dam 79 = .ok (.iconst 1, 1) := by decide +kernel
theorem dX7_dam_80 : decode cX7_dam 80 = .ok (.isub, 1) := by decide +kernel
theorem dX7_dam_81 : decode cX7_dam 81 = .ok (.invokevirtual 71, 3) := by decide +kernel
theorem dX7_dam_84 : decode cX7_dam 84 = .ok (.istore 7, 2) := by decide +kernel
theorem dX7_dam_86 : decode cX7_dam 86 = .ok (.aload_n 0, 1) := by decide +kernel
theorem dX7_dam_87 : decode cX7_dam 87 = .ok (.getfield 7, 3) := by decide +kernel
theorem dX7_dam_90 : decode cX7_dam 90 = .ok (.iload 5, 2) := by decide +kernel
theorem dX7_dam_92 : decode cX7_dam 92 = .ok (.iload 6, 2) := by decide +kernel
theorem dX7_dam_94 : decode cX7_dam 94 = .ok (.iastore, 1) := by decide +kernel
theorem dX7_dam_95 : decode cX7_dam 95 = .ok (.iload 7, 2) := by decide +kernel
theorem dX7_dam_97 : decode cX7_dam 97 = .ok (.iload 4, 2) := by decide +kernel
theorem dX7_dam_99 : decode cX7_dam 99 = .ok (.if_icmp .le 10, 3) := by decide +kernel
theorem dX7_dam_102 : decode cX7_dam 102 = .ok (.iload 5, 2) := by decide +kernel
theorem dX7_dam_104 : decode cX7_dam 104 = .ok (.istore_n 3, 1) := by decide +kernel
theorem dX7_dam_105 : decode cX7_dam 105 = .ok (.iload 7, 2) := by decide +kernel
theorem dX7_dam_107 : decode cX7_dam 107 = .ok (.istore 4, 2) := by decide +kernel
theorem dX7_dam_109 : decode cX7_dam 109 = .ok (.iinc 5 1, 3) := by decide +kernel
theorem dX7_dam_112 : decode cX7_dam 112 = .ok (.goto (-71), 3) := by decide +kernel
theorem dX7_dam_115 : decode cX7_dam 115 = .ok (.iload_n 2, 1) := by decide +kernel
theorem dX7_dam_116 : decode cX7_dam 116 = .ok (.ifCond .ne 7, 3) := by decide +kernel
theorem dX7_dam_119 : decode cX7_dam 119 = .ok (.iload_n 3, 1) := by decide +kernel
theorem dX7_dam_120 : decode cX7_dam 120 = .ok (.goto 5, 3) := by decide +kernel
theorem dX7_dam_123 : decode cX7_dam 123 = .ok (.iload 4, 2) := by decide +kernel
theorem dX7_dam_125 : decode cX7_dam 125 = .ok (.ireturn, 1) := by decide +kernel
set_option maxRecDepth 20000 in
theorem ggX7_sumOfMinima_X7_many : GoodIn wsX7_sumOfMinima wsX7_many := goodIn_r _ [5, 6, 11, 12, 13, 14, 15, 16, 17, 18, 19, 20, 21, 22] (by decide +kernel) (by decide +kernel)
set_option maxRecDepth 20000 in
theorem gX7_sumOfMinima_X7_many : GoodIn wsX7_sumOfMinima (wsV RX7 37 RX7 yX7_many wsX7_many) := goodIn_app (goodIn_of _ (by decide +kernel)) ggX7_sumOfMinima_X7_many
set_option maxRecDepth 20000 in
theorem ggX7_sumOfMinima_X7_least : GoodIn wsX7_sumOfMinima wsX7_least := goodIn_r _ [10, 6, 11, 12, 13, 14, 15, 16, 17, 18, 19, 20, 21, 22] (by decide +kernel) (by decide +kernel)
set_option maxRecDepth 20000 in
theorem gX7_sumOfMinima_X7_least : GoodIn wsX7_sumOfMinima (wsV RX7 87 RX7 yX7_least wsX7_least) := goodIn_app (goodIn_of _ (by decide +kernel)) ggX7_sumOfMinima_X7_least
theorem dX7_sumOfMinima_0 : decode cX7_sumOfMinima 0 = .ok (.iconst 0, 1) := by decide +kernel
theorem dX7_sumOfMinima_1 : decode cX7_sumOfMinima 1 = .ok (.istore_n 1, 1) := by decide +kernel
theorem dX7_sumOfMinima_2 : decode cX7_sumOfMinima 2 = .ok (.iconst 0, 1) := by decide +kernel
theorem dX7_sumOfMinima_3 : decode cX7_sumOfMinima 3 = .ok (.istore_n 2, 1) := by decide +kernel
theorem dX7_sumOfMinima_4 : decode cX7_sumOfMinima 4 = .ok (.iload_n 2, 1) := by decide +kernel
theorem dX7_sumOfMinima_5 : decode cX7_sumOfMinima 5 = .ok (.aload_n 0, 1) := by decide +kernel
theorem dX7_sumOfMinima_6 : decode cX7_sumOfMinima 6 = .ok (.invokevirtual 37, 3) := by decide +kernel
theorem dX7_sumOfMinima_9 : decode cX7_sumOfMinima 9 = .ok (.if_icmp .ge 34, 3) := by decide +kernel
theorem dX7_sumOfMinima_12 : decode cX7_sumOfMinima 12 = .ok (.iload_n 2, 1) := by decide +kernel
theorem dX7_sumOfMinima_13 : decode cX7_sumOfMinima 13 = .ok (.istore_n 3, 1) := by decide +kernel
theorem dX7_sumOfMinima_14 : decode cX7_sumOfMinima 14 = .ok (.iload_n 3, 1) := by decide +kernel
theorem dX7_sumOfMinima_15 : decode cX7_sumOfMinima 15 = .ok (.aload_n 0, 1) := by decide +kernel
theorem dX7_sumOfMinima_16 : decode cX7_sumOfMinima 16 = .ok (.invokevirtual 37, 3) := by decide +kernel
theorem dX7_sumOfMinima_19 : decode cX7_sumOfMinima 19 = .ok (.if_icmp .ge 18, 3) := by decide +kernel
theorem dX7_sumOfMinima_22 : decode cX7_sumOfMinima 22 = .ok (.iload_n 1, 1) := by decide +kernel
theorem dX7_sumOfMinima_23 : decode cX7_sumOfMinima 23 = .ok (.aload_n 0, 1) := by decide +kernel
theorem dX7_sumOfMinima_24 : decode cX7_sumOfMinima 24 = .ok (.iload_n 2, 1) := by decide +kernel
theorem dX7_sumOfMinima_25 : decode cX7_sumOfMinima 25 = .ok (.iload_n 3, 1) := by decide +kernel
theorem dX7_sumOfMinima_26 : decode cX7_sumOfMinima 26 = .ok (.invokevirtual 87, 3) := by decide +kernel
theorem dX7_sumOfMinima_29 : decode cX7_sumOfMinima 29 = .ok (.iadd, 1) := by decide +kernel
theorem dX7_sumOfMinima_30 : decode cX7_sumOfMinima 30 = .ok (.istore_n 1, 1) := by decide +kernel
theorem dX7_sumOfMinima_31 : decode cX7_sumOfMinima 31 = .ok (.iinc 3 1, 3) := by decide +kernel
theorem dX7_sumOfMinima_34 : decode cX7_sumOfMinima 34 = .ok (.goto (-20), 3) := by decide +kernel
theorem dX7_sumOfMinima_37 : decode cX7_sumOfMinima 37 = .ok (.iinc 2 1, 3) := by decide +kernel
theorem dX7_sumOfMinima_40 : decode cX7_sumOfMinima 40 = .ok (.goto (-36), 3) := by decide +kernel
theorem dX7_sumOfMinima_43 : decode cX7_sumOfMinima 43 = .ok (.iload_n 1, 1) := by decide +kernel
theorem dX7_sumOfMinima_44 : decode cX7_sumOfMinima 44 = .ok (.ireturn, 1) := by decide +kernel
set_option maxRecDepth 20000 in
theorem ggX7_ranges_X7_isIn : GoodIn wsX7_ranges wsX7_isIn := goodIn_r _ [4] (by decide +kernel) (by decide +kernel)
set_option maxRecDepth 20000 in
theorem gX7_ranges_X7_isIn : GoodIn wsX7_ranges (va_wsS RX7 41 yX7_isIn wsX7_isIn) := goodIn_app (goodIn_of _ (by decide +kernel)) ggX7_ranges_X7_isIn
set_option maxRecDepth 20000 in
theorem ggX7_ranges_X7_many : GoodIn wsX7_ranges wsX7_many := goodIn_r _ [8, 9, 14, 15, 16, 17, 18, 19, 20, 21, 22, 23, 24, 25] (by decide +kernel) (by decide +kernel)
set_option maxRecDepth 20000 in
theorem gX7_ranges_X7_many : GoodIn wsX7_ranges (wsV RX7 37 RX7 yX7_many wsX7_many) := goodIn_app (goodIn_of _ (by decide +kernel)) ggX7_ranges_X7_many
set_option maxRecDepth 20000 in
theorem ggX7_ranges_X7_least : GoodIn wsX7_ranges wsX7_least := goodIn_r _ [13, 9, 14, 15, 16, 17, 18, 19, 20, 21, 22, 23, 24, 25] (by decide +kernel) (by decide +kernel)
set_option maxRecDepth 20000 in
theorem gX7_ranges_X7_least : GoodIn wsX7_ranges (wsV RX7 87 RX7 yX7_least wsX7_least) := goodIn_app (goodIn_of _ (by decide +kernel)) ggX7_ranges_X7_least
theorem dX7_ranges_0 : decode cX7_ranges 0 = .ok (.iload_n 1, 1) := by decide +kernel
theorem dX7_ranges_1 : decode cX7_ranges 1 = .ok (.iconst 0, 1) := by decide +kernel
theorem dX7_ranges_2 : decode cX7_ranges 2 = .ok (.bipush 50, 2) := by decide +kernel
theorem dX7_ranges_4 : decode cX7_ranges 4 = .ok (.invokestatic 41, 3) := by decide +kernel
theorem dX7_ranges_7 : decode cX7_ranges 7 = .ok (.ifCond .ne 5, 3) := by decide +kernel
theorem dX7_ranges_10 : decode cX7_ranges 10 = .ok (.iconst (-1), 1) := by decide +kernel
theorem dX7_ranges_11 : decode cX7_ranges 11 = .ok (.ireturn, 1) := by decide +kernel
theorem dX7_ranges_12 : decode cX7_ranges 12 = .ok (.iconst 0, 1) := by decide +kernel
theorem dX7_ranges_13 : decode cX7_ranges 13 = .ok (.istore_n 2, 1) := by decide +kernel
end
section
theorem dX7_ranges_14 : decode cX7_ranges 14 = .ok (.iconst 0, 1) := by decide +kernel
theorem dX7_ranges_15 : decode cX7_ranges 15 = .ok (.istore_n 3, 1) := by decide +kernel
theorem dX7_ranges_16 : decode cX7_ranges 16 = .ok (.iload_n 3, 1) := by decide +kernel
theorem dX7_ranges_17 : decode cX7_ranges 17 = .ok (.aload_n 0, 1) := by decide +kernel
theorem dX7_ranges_18 : decode cX7_ranges 18 = .ok (.invokevirtual 37, 3) := by decide +kernel
theorem dX7_ranges_21 : decode cX7_ranges 21 = .ok (.if_icmp .ge 46, 3) := by decide +kernel
theorem dX7_ranges_24 : decode cX7_ranges 24 = .ok (.iload_n 3, 1) := by decide +kernel
theorem dX7_ranges_25 : decode cX7_ranges 25 = .ok (.istore 4, 2) := by decide +kernel
theorem dX7_ranges_27 : decode cX7_ranges 27 = .ok (.iload 4, 2) := by decide +kernel
theorem dX7_ranges_29 : decode cX7_ranges 29 = .ok (.aload_n 0, 1) := by decide +kernel
theorem dX7_ranges_30 : decode cX7_ranges 30 = .ok (.invokevirtual 37, 3) := by decide +kernel
theorem dX7_ranges_33 : decode cX7_ranges 33 = .ok (.if_icmp .ge 28, 3) := by decide +kernel
theorem dX7_ranges_36 : decode cX7_ranges 36 = .ok (.iload_n 2, 1) := by decide +kernel
theorem dX7_ranges_37 : decode cX7_ranges 37 = .ok (.aload_n 0, 1) := by decide +kernel
theorem dX7_ranges_38 : decode cX7_ranges 38 = .ok (.iload_n 3, 1) := by decide +kernel
theorem dX7_ranges_39 : decode cX7_ranges 39 = .ok (.iload 4, 2) := by decide +kernel
theorem dX7_ranges_41 : decode cX7_ranges 41 = .ok (.invokevirtual 87, 3) := by decide +kernel
theorem dX7_ranges_44 : decode cX7_ranges 44 = .ok (.iload_n 1, 1) := by decide +kernel
theorem dX7_ranges_45 : decode cX7_ranges 45 = .ok (.if_icmp .lt 7, 3) := by decide +kernel
theorem dX7_ranges_48 : decode cX7_ranges 48 = .ok (.iconst 1, 1) := by decide +kernel
theorem dX7_ranges_49 : decode cX7_ranges 49 = .ok (.goto 4, 3) := by decide +kernel
theorem dX7_ranges_52 : decode cX7_ranges 52 = .ok (.iconst 0, 1) := by decide +kernel
theorem dX7_ranges_53 : decode cX7_ranges 53 = .ok (.iadd, 1) := by decide +kernel
theorem dX7_ranges_54 : decode cX7_ranges 54 = .ok (.istore_n 2, 1) := by decide +kernel
theorem dX7_ranges_55 : decode cX7_ranges 55 = .ok (.iinc 4 1, 3) := by decide +kernel
theorem dX7_ranges_58 : decode cX7_ranges 58 = .ok (.goto (-31), 3) := by decide +kernel
theorem dX7_ranges_61 : decode cX7_ranges 61 = .ok (.iinc 3 1, 3) := by decide +kernel
theorem dX7_ranges_64 : decode cX7_ranges 64 = .ok (.goto (-48), 3) := by decide +kernel
theorem dX7_ranges_67 : decode cX7_ranges 67 = .ok (.iload_n 2, 1) := by decide +kernel
theorem dX7_ranges_68 : decode cX7_ranges 68 = .ok (.ireturn, 1) := by decide +kernel
set_option maxRecDepth 20000 in
theorem ggX7_isImage_X7_isIn : GoodIn wsX7_isImage wsX7_isIn := goodIn_r _ [4] (by decide +kernel) (by decide +kernel)
set_option maxRecDepth 20000 in
theorem gX7_isImage_X7_isIn : GoodIn wsX7_isImage (va_wsS RX7 41 yX7_isIn wsX7_isIn) := goodIn_app (goodIn_of _ (by decide +kernel)) ggX7_isImage_X7_isIn
theorem dX7_isImage_0 : decode cX7_isImage 0 = .ok (.iload_n 0, 1) := by decide +kernel
theorem dX7_isImage_1 : decode cX7_isImage 1 = .ok (.iconst 0, 1) := by decide +kernel
theorem dX7_isImage_2 : decode cX7_isImage 2 = .ok (.iconst 1, 1) := by decide +kernel
theorem dX7_isImage_3 : decode cX7_isImage 3 = .ok (.invokestatic 41, 3) := by decide +kernel
theorem dX7_isImage_6 : decode cX7_isImage 6 = .ok (.ireturn, 1) := by decide +kernel
set_option maxRecDepth 20000 in
theorem ggX7_keep_X7_isImage : GoodIn wsX7_keep wsX7_isImage := goodIn_r _ [7, 8, 9, 6, 10] (by decide +kernel) (by decide +kernel)
set_option maxRecDepth 20000 in
theorem gX7_keep_X7_isImage : GoodIn wsX7_keep (va_wsS RX7 159 yX7_isImage wsX7_isImage) := goodIn_app (goodIn_of _ (by decide +kernel)) ggX7_keep_X7_isImage
set_option maxRecDepth 20000 in
theorem ggX7_keep_X7_many : GoodIn wsX7_keep wsX7_many := goodIn_r _ [14, 2, 15, 16, 17, 18, 19, 20, 21, 22, 23, 24, 25, 26] (by decide +kernel) (by decide +kernel)
set_option maxRecDepth 20000 in
theorem gX7_keep_X7_many : GoodIn wsX7_keep (wsV RX7 37 RX7 yX7_many wsX7_many) := goodIn_app (goodIn_of _ (by decide +kernel)) ggX7_keep_X7_many
theorem dX7_keep_0 : decode cX7_keep 0 = .ok (.iload_n 1, 1) := by decide +kernel
theorem dX7_keep_1 : decode cX7_keep 1 = .ok (.invokestatic 159, 3) := by decide +kernel
theorem dX7_keep_4 : decode cX7_keep 4 = .ok (.ifCond .ne 5, 3) := by decide +kernel
theorem dX7_keep_7 : decode cX7_keep 7 = .ok (.iconst (-1), 1) := by decide +kernel
theorem dX7_keep_8 : decode cX7_keep 8 = .ok (.ireturn, 1) := by decide +kernel
theorem dX7_keep_9 : decode cX7_keep 9 = .ok (.iconst 0, 1) := by decide +kernel
theorem dX7_keep_10 : decode cX7_keep 10 = .ok (.istore_n 2, 1) := by decide +kernel
theorem dX7_keep_11 : decode cX7_keep 11 = .ok (.iload_n 2, 1) := by decide +kernel
theorem dX7_keep_12 : decode cX7_keep 12 = .ok (.bipush 41, 2) := by decide +kernel
theorem dX7_keep_14 : decode cX7_keep 14 = .ok (.if_icmp .ge 26, 3) := by decide +kernel
theorem dX7_keep_17 : decode cX7_keep 17 = .ok (.aload_n 0, 1) := by decide +kernel
theorem dX7_keep_18 : decode cX7_keep 18 = .ok (.getfield 16, 3) := by decide +kernel
theorem dX7_keep_21 : decode cX7_keep 21 = .ok (.bipush 41, 2) := by decide +kernel
theorem dX7_keep_23 : decode cX7_keep 23 = .ok (.iload_n 1, 1) := by decide +kernel
theorem dX7_keep_24 : decode cX7_keep 24 = .ok (.imul, 1) := by decide +kernel
theorem dX7_keep_25 : decode cX7_keep 25 = .ok (.iload_n 2, 1) := by decide +kernel
theorem dX7_keep_26 : decode cX7_keep 26 = .ok (.iadd, 1) := by decide +kernel
theorem dX7_keep_27 : decode cX7_keep 27 = .ok (.aload_n 0, 1) := by decide +kernel
theorem dX7_keep_28 : decode cX7_keep 28 = .ok (.getfield 7, 3) := by decide +kernel
theorem dX7_keep_31 : decode cX7_keep 31 = .ok (.iload_n 2, 1) := by decide +kernel
theorem dX7_keep_32 : decode cX7_keep 32 = .ok (.iaload, 1) := by decide +kernel
theorem dX7_keep_33 : decode cX7_keep 33 = .ok (.iastore, 1) := by decide +kernel
theorem dX7_keep_34 : decode cX7_keep 34 = .ok (.iinc 2 1, 3) := by decide +kernel
theorem dX7_keep_37 : decode cX7_keep 37 = .ok (.goto (-26), 3) := by decide +kernel
theorem dX7_keep_40 : decode cX7_keep 40 = .ok (.aload_n 0, 1) := by decide +kernel
theorem dX7_keep_41 : decode cX7_keep 41 = .ok (.dup, 1) := by decide +kernel
theorem dX7_keep_42 : decode cX7_keep 42 = .ok (.getfield 162, 3) := by decide +kernel
theorem dX7_keep_45 : decode cX7_keep 45 = .ok (.iconst 1, 1) := by decide +kernel
theorem dX7_keep_46 : decode cX7_keep 46 = .ok (.iload_n 1, 1) := by decide +kernel
theorem dX7_keep_47 : decode cX7_keep 47 = .ok (.ishl, 1) := by decide +kernel
theorem dX7_keep_48 : decode cX7_keep 48 = .ok (.ior, 1) := by decide +kernel
theorem dX7_keep_49 : decode cX7_keep 49 = .ok (.putfield 162, 3) := by decide +kernel
theorem dX7_keep_52 : decode cX7_keep 52 = .ok (.aload_n 0, 1) := by decide +kernel
theorem dX7_keep_53 : decode cX7_keep 53 = .ok (.invokevirtual 37, 3) := by decide +kernel
theorem dX7_keep_56 : decode cX7_keep 56 = .ok (.ireturn, 1) := by decide +kernel
theorem dX7_isKept_0 : decode cX7_isKept 0 = .ok (.aload_n 0, 1) := by decide +kernel
theorem dX7_isKept_1 : decode cX7_isKept 1 = .ok (.getfield 162, 3) := by decide +kernel
theorem dX7_isKept_4 : decode cX7_isKept 4 = .ok (.iload_n 1, 1) := by decide +kernel
theorem dX7_isKept_5 : decode cX7_isKept 5 = .ok (.ishr, 1) := by decide +kernel
theorem dX7_isKept_6 : decode cX7_isKept 6 = .ok (.iconst 1, 1) := by decide +kernel
theorem dX7_isKept_7 : decode cX7_isKept 7 = .ok (.iand, 1) := by decide +kernel
theorem dX7_isKept_8 : decode cX7_isKept 8 = .ok (.iconst 1, 1) := by decide +kernel
theorem dX7_isKept_9 : decode cX7_isKept 9 = .ok (.if_icmp .ne 7, 3) := by decide +kernel
theorem dX7_isKept_12 : decode cX7_isKept 12 = .ok (.iconst 1, 1) := by decide +kernel
theorem dX7_isKept_13 : decode cX7_isKept 13 = .ok (.goto 4, 3) := by decide +kernel
theorem dX7_isKept_16 : decode cX7_isKept 16 = .ok (.iconst 0, 1) := by decide +kernel
theorem dX7_isKept_17 : decode cX7_isKept 17 = .ok (.ireturn, 1) := by decide +kernel
set_option maxRecDepth 20000 in
theorem ggX7_back_X7_isImage : GoodIn wsX7_back wsX7_isImage := goodIn_r _ [6, 7, 8, 5, 9] (by decide +kernel) (by decide +kernel)
set_option maxRecDepth 20000 in
theorem gX7_back_X7_isImage : GoodIn wsX7_back (va_wsS RX7 159 yX7_isImage wsX7_isImage) := goodIn_app (goodIn_of _ (by decide +kernel)) ggX7_back_X7_isImage
set_option maxRecDepth 20000 in
theorem ggX7_back_X7_isKept : GoodIn wsX7_back wsX7_isKept := goodIn_r _ [13, 14, 25, 26, 27, 28, 29, 30, 31, 32, 33, 34, 35, 36] (by decide +kernel) (by decide +kernel)
set_option maxRecDepth 20000 in
theorem gX7_back_X7_isKept : GoodIn wsX7_back (wsV RX7 165 RX7 yX7_isKept wsX7_isKept) := goodIn_app (goodIn_of _ (by decide +kernel)) ggX7_back_X7_isKept
set_option maxRecDepth 20000 in
theorem ggX7_back_X7_remember : GoodIn wsX7_back wsX7_remember := goodIn_r _ [18, 19, 20, 1, 25, 26, 27, 28, 29, 30, 31, 32, 33, 34, 35, 36] (by decide +kernel) (by decide +kernel)
set_option maxRecDepth 20000 in
theorem gX7_back_X7_remember : GoodIn wsX7_back (wsV RX7 57 RX7 yX7_remember wsX7_remember) := goodIn_app (goodIn_of _ (by decide +kernel)) ggX7_back_X7_remember
set_option maxRecDepth 20000 in
theorem ggX7_back_X7_many : GoodIn wsX7_back wsX7_many := goodIn_r _ [24, 1, 25, 26, 27, 28, 29, 30, 31, 32, 33, 34, 35, 36] (by decide +kernel) (by decide +kernel)
set_option maxRecDepth 20000 in
theorem gX7_back_X7_many : GoodIn wsX7_back (wsV RX7 37 RX7 yX7_many wsX7_many) := goodIn_app (goodIn_of _ (by decide +kernel)) ggX7_back_X7_many
theorem dX7_back_0 : decode cX7_back 0 = .ok (.iload_n 1, 1) := by decide +kernel
theorem dX7_back_1 : decode cX7_back 1 = .ok (.invokestatic 159, 3) := by decide +kernel
theorem dX7_back_4 : decode cX7_back 4 = .ok (.ifCond .ne 5, 3) := by decide +kernel
theorem dX7_back_7 : decode cX7_back 7 = .ok (.iconst (-1), 1) := by decide +kernel
theorem dX7_back_8 : decode cX7_back 8 = .ok (.ireturn, 1) := by decide +kernel
theorem dX7_back_9 : decode cX7_back 9 = .ok (.aload_n 0, 1) := by decide +kernel
theorem dX7_back_10 : decode cX7_back 10 = .ok (.iload_n 1, 1) := by decide +kernel
theorem dX7_back_11 : decode cX7_back 11 = .ok (.invokevirtual 165, 3) := by decide +kernel
theorem dX7_back_14 : decode cX7_back 14 = .ok (.ifCond .ne 6, 3) := by decide +kernel
theorem dX7_back_17 : decode cX7_back 17 = .ok (.bipush (-2), 2) := by decide +kernel
theorem dX7_back_19 : decode cX7_back 19 = .ok (.ireturn, 1) := by decide +kernel
theorem dX7_back_20 : decode cX7_back 20 = .ok (.aload_n 0, 1) := by decide +kernel
theorem dX7_back_21 : decode cX7_back 21 = .ok (.invokevirtual 57, 3) := by decide +kernel
theorem dX7_back_24 : decode cX7_back 24 = .ok (.iconst 0, 1) := by decide +kernel
theorem dX7_back_25 : decode cX7_back 25 = .ok (.istore_n 2, 1) := by decide +kernel
theorem dX7_back_26 : decode cX7_back 26 = .ok (.iload_n 2, 1) := by decide +kernel
theorem dX7_back_27 : decode cX7_back 27 = .ok (.bipush 41, 2) := by decide +kernel
theorem dX7_back_29 : decode cX7_back 29 = .ok (.if_icmp .ge 26, 3) := by decide +kernel
theorem dX7_back_32 : decode cX7_back 32 = .ok (.aload_n 0, 1) := by decide +kernel
theorem dX7_back_33 : decode cX7_back 33 = .ok (.getfield 7, 3) := by decide +kernel
theorem dX7_back_36 : decode cX7_back 36 = .ok (.iload_n 2, 1) := by decide +kernel
theorem dX7_back_37 : decode cX7_back 37 = .ok (.aload_n 0, 1) := by decide +kernel
theorem dX7_back_38 : decode cX7_back 38 = .ok (.getfield 16, 3) := by decide +kernel
theorem dX7_back_41 : decode cX7_back 41 = .ok (.bipush 41, 2) := by decide +kernel
theorem dX7_back_43 : decode cX7_back 43 = .ok (.iload_n 1, 1) := by decide +kernel
theorem dX7_back_44 : decode cX7_back 44 = .ok (.imul, 1) := by decide +kernel
theorem dX7_back_45 : decode cX7_back 45 = .ok (.iload_n 2, 1) := by decide +kernel
theorem dX7_back_46 : decode cX7_back 46 = .ok (.iadd, 1) := by decide +kernel
theorem dX7_back_47 : decode cX7_back 47 = .ok (.iaload, 1) := by decide +kernel
theorem dX7_back_48 : decode cX7_back 48 = .ok (.iastore, 1) := by decide +kernel
theorem dX7_back_49 : decode cX7_back 49 = .ok (.iinc 2 1, 3) := by decide +kernel
theorem dX7_back_52 : decode cX7_back 52 = .ok (.goto (-26), 3) := by decide +kernel
theorem dX7_back_55 : decode cX7_back 55 = .ok (.aload_n 0, 1) := by decide +kernel
theorem dX7_back_56 : decode cX7_back 56 = .ok (.invokevirtual 37, 3) := by decide +kernel
theorem dX7_back_59 : decode cX7_back 59 = .ok (.ireturn, 1) := by decide +kernel
set_option maxRecDepth 20000 in
theorem ggX7_parting_X7_isImage : GoodIn wsX7_parting wsX7_isImage := goodIn_r _ [6, 7, 8, 5, 9] (by decide +kernel) (by decide +kernel)
set_option maxRecDepth 20000 in
theorem gX7_parting_X7_isImage : GoodIn wsX7_parting (va_wsS RX7 159 yX7_isImage wsX7_isImage) := goodIn_app (goodIn_of _ (by decide +kernel)) ggX7_parting_X7_isImage
set_option maxRecDepth 20000 in
theorem ggX7_parting_X7_isKept : GoodIn wsX7_parting wsX7_isKept := goodIn_r _ [13, 14, 19, 20, 21, 22, 23, 24, 25, 26, 27, 28, 29, 30] (by decide +kernel) (by decide +kernel)
set_option maxRecDepth 20000 in
theorem gX7_parting_X7_isKept : GoodIn wsX7_parting (wsV RX7 165 RX7 yX7_isKept wsX7_isKept) := goodIn_app (goodIn_of _ (by decide +kernel)) ggX7_parting_X7_isKept
set_option maxRecDepth 20000 in
theorem ggX7_parting_X7_many : GoodIn wsX7_parting wsX7_many := goodIn_r _ [18, 2, 19, 20, 21, 22, 23, 24, 25, 26, 27, 28, 29, 30] (by decide +kernel) (by decide +kernel)
set_option maxRecDepth 20000 in
theorem gX7_parting_X7_many : GoodIn wsX7_parting (wsV RX7 37 RX7 yX7_many wsX7_many) := goodIn_app (goodIn_of _ (by decide +kernel)) ggX7_parting_X7_many
theorem dX7_parting_0 : decode cX7_parting 0 = .ok (.iload_n 1, 1) := by decide +kernel
theorem dX7_parting_1 : decode cX7_parting 1 = .ok (.invokestatic 159, 3) := by decide +kernel
theorem dX7_parting_4 : decode cX7_parting 4 = .ok (.ifCond .ne 5, 3) := by decide +kernel
theorem dX7_parting_7 : decode cX7_parting 7 = .ok (.iconst (-1), 1) := by decide +kernel
theorem dX7_parting_8 : decode cX7_parting 8 = .ok (.ireturn, 1) := by decide +kernel
theorem dX7_parting_9 : decode cX7_parting 9 = .ok (.aload_n 0, 1) := by decide +kernel
theorem dX7_parting_10 : decode cX7_parting 10 = .ok (.iload_n 1, 1) := by decide +kernel
theorem dX7_parting_11 : decode cX7_parting 11 = .ok (.invokevirtual 165, 3) := by decide +kernel
theorem dX7_parting_14 : decode cX7_parting 14 = .ok (.ifCond .ne 6, 3) := by decide +kernel
theorem dX7_parting_17 : decode cX7_parting 17 = .ok (.bipush (-2), 2) := by decide +kernel
theorem dX7_parting_19 : decode cX7_parting 19 = .ok (.ireturn, 1) := by decide +kernel
theorem dX7_parting_20 : decode cX7_parting 20 = .ok (.aload_n 0, 1) := by decide +kernel
theorem dX7_parting_21 : decode cX7_parting 21 = .ok (.getfield 16, 3) := by decide +kernel
theorem dX7_parting_24 : decode cX7_parting 24 = .ok (.bipush 41, 2) := by decide +kernel
theorem dX7_parting_26 : decode cX7_parting 26 = .ok (.iload_n 1, 1) := by decide +kernel
theorem dX7_parting_27 : decode cX7_parting 27 = .ok (.imul, 1) := by decide +kernel
theorem dX7_parting_28 : decode cX7_parting 28 = .ok (.bipush 40, 2) := by decide +kernel
theorem dX7_parting_30 : decode cX7_parting 30 = .ok (.iadd, 1) := by decide +kernel
theorem dX7_parting_31 : decode cX7_parting 31 = .ok (.iaload, 1) := by decide +kernel
theorem dX7_parting_32 : decode cX7_parting 32 = .ok (.istore_n 2, 1) := by decide +kernel
theorem dX7_parting_33 : decode cX7_parting 33 = .ok (.iconst 0, 1) := by decide +kernel
theorem dX7_parting_34 : decode cX7_parting 34 = .ok (.istore_n 3, 1) := by decide +kernel
theorem dX7_parting_35 : decode cX7_parting 35 = .ok (.iload_n 3, 1) := by decide +kernel
theorem dX7_parting_36 : decode cX7_parting 36 = .ok (.aload_n 0, 1) := by decide +kernel
theorem dX7_parting_37 : decode cX7_parting 37 = .ok (.invokevirtual 37, 3) := by decide +kernel
theorem dX7_parting_40 : decode cX7_parting 40 = .ok (.if_icmp .ge 34, 3) := by decide +kernel
theorem dX7_parting_43 : decode cX7_parting 43 = .ok (.iload_n 3, 1) := by decide +kernel
theorem dX7_parting_44 : decode cX7_parting 44 = .ok (.iload_n 2, 1) := by decide +kernel
theorem dX7_parting_45 : decode cX7_parting 45 = .ok (.if_icmp .ge 29, 3) := by decide +kernel
theorem dX7_parting_48 : decode cX7_parting 48 = .ok (.aload_n 0, 1) := by decide +kernel
theorem dX7_parting_49 : decode cX7_parting 49 = .ok (.getfield 7, 3) := by decide +kernel
theorem dX7_parting_52 : decode cX7_parting 52 = .ok (.iload_n 3, 1) := by decide +kernel
theorem dX7_parting_53 : decode cX7_parting 53 = .ok (.iaload, 1) := by decide +kernel
theorem dX7_parting_54 : decode cX7_parting 54 = .ok (.aload_n 0, 1) := by decide +kernel
theorem dX7_parting_55 : decode cX7_parting 55 = .ok (.getfield 16, 3) := by decide +kernel
theorem dX7_parting_58 : decode cX7_parting 58 = .ok (.bipush 41, 2) := by decide +kernel
theorem dX7_parting_60 : decode cX7_parting 60 = .ok (.iload_n 1, 1) := by decide +kernel
theorem dX7_parting_61 : decode cX7_parting 61 = .ok (.imul, 1) := by decide +kernel
theorem dX7_parting_62 : decode cX7_parting 62 = .ok (.iload_n 3, 1) := by decide +kernel
theorem dX7_parting_63 : decode cX7_parting 63 = .ok (.iadd, 1) := by decide +kernel
theorem dX7_parting_64 : decode cX7_parting 64 = .ok (.iaload, 1) := by decide +kernel
theorem dX7_parting_65 : decode cX7_parting 65 = .ok (.if_icmp .ne 9, 3) := by decide +kernel
theorem dX7_parting_68 : decode cX7_parting 68 = .ok (.iinc 3 1, 3) := by decide +kernel
theorem dX7_parting_71 : decode cX7_parting 71 = .ok (.goto (-36), 3) := by decide +kernel
theorem dX7_parting_74 : decode cX7_parting 74 = .ok (.iload_n 3, 1) := by decide +kernel
theorem dX7_parting_75 : decode cX7_parting 75 = .ok (.aload_n 0, 1) := by decide +kernel
theorem dX7_parting_76 : decode cX7_parting 76 = .ok (.invokevirtual 37, 3) := by decide +kernel
theorem dX7_parting_79 : decode cX7_parting 79 = .ok (.if_icmp .ne 13, 3) := by decide +kernel
theorem dX7_parting_82 : decode cX7_parting 82 = .ok (.iload_n 3, 1) := by decide +kernel
theorem dX7_parting_83 : decode cX7_parting 83 = .ok (.iload_n 2, 1) := by decide +kernel
theorem dX7_parting_84 : decode cX7_parting 84 = .ok (.if_icmp .ne 8, 3) := by decide +kernel
theorem dX7_parting_87 : decode cX7_parting 87 = .ok (.bipush (-9), 2) := by decide +kernel
theorem dX7_parting_89 : decode cX7_parting 89 = .ok (.goto 4, 3) := by decide +kernel
theorem dX7_parting_92 : decode cX7_parting 92 = .ok (.iload_n 3, 1) := by decide +kernel
theorem dX7_parting_93 : decode cX7_parting 93 = .ok (.ireturn, 1) := by decide +kernel
theorem dJ9_max_7cf53_0 : decode cJ9_max_7cf53 0 = .ok (.iload_n 0, 1) := by decide +kernel
theorem dJ9_max_7cf53_1 : decode cJ9_max_7cf53 1 = .ok (.iload_n 1, 1) := by decide +kernel
theorem dJ9_max_7cf53_2 : decode cJ9_max_7cf53 2 = .ok (.if_icmp .lt 7, 3) := by decide +kernel
theorem dJ9_max_7cf53_5 : decode cJ9_max_7cf53 5 = .ok (.iload_n 0, 1) := by decide +kernel
theorem dJ9_max_7cf53_6 : decode cJ9_max_7cf53 6 = .ok (.goto 4, 3) := by decide +kernel
theorem dJ9_max_7cf53_9 : decode cJ9_max_7cf53 9 = .ok (.iload_n 1, 1) := by decide +kernel
theorem dJ9_max_7cf53_10 : decode cJ9_max_7cf53 10 = .ok (.ireturn, 1) := by decide +kernel
theorem dJ9_min_7cf53_0 : decode cJ9_min_7cf53 0 = .ok (.iload_n 0, 1) := by decide +kernel
theorem dJ9_min_7cf53_1 : decode cJ9_min_7cf53 1 = .ok (.iload_n 1, 1) := by decide +kernel
theorem dJ9_min_7cf53_2 : decode cJ9_min_7cf53 2 = .ok (.if_icmp .gt 7, 3) := by decide +kernel
theorem dJ9_min_7cf53_5 : decode cJ9_min_7cf53 5 = .ok (.iload_n 0, 1) := by decide +kernel
theorem dJ9_min_7cf53_6 : decode cJ9_min_7cf53 6 = .ok (.goto 4, 3) := by decide +kernel
theorem dJ9_min_7cf53_9 : decode cJ9_min_7cf53 9 = .ok (.iload_n 1, 1) := by decide +kernel
theorem dJ9_min_7cf53_10 : decode cJ9_min_7cf53 10 = .ok (.ireturn, 1) := by decide +kernel
theorem dJ7_rangeCheck_23922_0 : decode cJ7_rangeCheck_23922 0 = .ok (.iload_n 1, 1) := by decide +kernel
theorem dJ7_rangeCheck_23922_1 : decode cJ7_rangeCheck_23922 1 = .ok (.iload_n 2, 1) := by decide +kernel
theorem dJ7_rangeCheck_23922_2 : decode cJ7_rangeCheck_23922 2 = .ok (.if_icmp .le 44, 3) := by decide +kernel
theorem dJ7_rangeCheck_23922_5 : decode cJ7_rangeCheck_23922 5 = .ok (.new 43, 3) := by decide +kernel
theorem dJ7_rangeCheck_23922_8 : decode cJ7_rangeCheck_23922 8 = .ok (.dup, 1) := by decide +kernel
theorem dJ7_rangeCheck_23922_9 : decode cJ7_rangeCheck_23922 9 = .ok (.new 45, 3) := by decide +kernel
theorem dJ7_rangeCheck_23922_12 : decode cJ7_rangeCheck_23922 12 = .ok (.dup, 1) := by decide +kernel
theorem dJ7_rangeCheck_23922_13 : decode cJ7_rangeCheck_23922 13 = .ok (.invokespecial 47, 3) := by decide +kernel
theorem dJ7_rangeCheck_23922_16 : decode cJ7_rangeCheck_23922 16 = .ok (.ldc 48, 2) := by decide +kernel
theorem dJ7_rangeCheck_23922_18 : decode cJ7_rangeCheck_23922 18 = .ok (.invokevirtual 50, 3) := by decide +kernel
theorem dJ7_rangeCheck_23922_21 : decode cJ7_rangeCheck_23922 21 = .ok (.iload_n 1, 1) := by decide +kernel
theorem dJ7_rangeCheck_23922_22 : decode cJ7_rangeCheck_23922 22 = .ok (.invokevirtual 54, 3) := by decide +kernel
theorem dJ7_rangeCheck_23922_25 : decode cJ7_rangeCheck_23922 25 = .ok (.ldc 57, 2) := by decide +kernel
theorem dJ7_rangeCheck_23922_27 : decode cJ7_rangeCheck_23922 27 = .ok (.invokevirtual 50, 3) := by decide +kernel
theorem dJ7_rangeCheck_23922_30 : decode cJ7_rangeCheck_23922 30 = .ok (.iload_n 2, 1) := by decide +kernel
theorem dJ7_rangeCheck_23922_31 : decode cJ7_rangeCheck_23922 31 = .ok (.invokevirtual 54, 3) := by decide +kernel
theorem dJ7_rangeCheck_23922_34 : decode cJ7_rangeCheck_23922 34 = .ok (.ldc 59, 2) := by decide +kernel
theorem dJ7_rangeCheck_23922_36 : decode cJ7_rangeCheck_23922 36 = .ok (.invokevirtual 50, 3) := by decide +kernel
theorem dJ7_rangeCheck_23922_39 : decode cJ7_rangeCheck_23922 39 = .ok (.invokevirtual 61, 3) := by decide +kernel
theorem dJ7_rangeCheck_23922_42 : decode cJ7_rangeCheck_23922 42 = .ok (.invokespecial 65, 3) := by decide +kernel
theorem dJ7_rangeCheck_23922_45 : decode cJ7_rangeCheck_23922 45 = .ok (.athrow, 1) := by decide +kernel
theorem dJ7_rangeCheck_23922_46 : decode cJ7_rangeCheck_23922 46 = .ok (.iload_n 1, 1) := by decide +kernel
theorem dJ7_rangeCheck_23922_47 : decode cJ7_rangeCheck_23922 47 = .ok (.ifCond .ge 12, 3) := by decide +kernel
theorem dJ7_rangeCheck_23922_50 : decode cJ7_rangeCheck_23922 50 = .ok (.new 68, 3) := by decide +kernel
theorem dJ7_rangeCheck_23922_53 : decode cJ7_rangeCheck_23922 53 = .ok (.dup, 1) := by decide +kernel
theorem dJ7_rangeCheck_23922_54 : decode cJ7_rangeCheck_23922 54 = .ok (.iload_n 1, 1) := by decide +kernel
theorem dJ7_rangeCheck_23922_55 : decode cJ7_rangeCheck_23922 55 = .ok (.invokespecial 70, 3) := by decide +kernel
theorem dJ7_rangeCheck_23922_58 : decode cJ7_rangeCheck_23922 58 = .ok (.athrow, 1) := by decide +kernel
theorem dJ7_rangeCheck_23922_59 : decode cJ7_rangeCheck_23922 59 = .ok (.iload_n 2, 1) := by decide +kernel
theorem dJ7_rangeCheck_23922_60 : decode cJ7_rangeCheck_23922 60 = .ok (.iload_n 0, 1) := by decide +kernel
theorem dJ7_rangeCheck_23922_61 : decode cJ7_rangeCheck_23922 61 = .ok (.if_icmp .le 12, 3) := by decide +kernel
theorem dJ7_rangeCheck_23922_64 : decode cJ7_rangeCheck_23922 64 = .ok (.new 68, 3) := by decide +kernel
theorem dJ7_rangeCheck_23922_67 : decode cJ7_rangeCheck_23922 67 = .ok (.dup, 1) := by decide +kernel
theorem dJ7_rangeCheck_23922_68 : decode cJ7_rangeCheck_23922 68 = .ok (.iload_n 2, 1) := by decide +kernel
theorem dJ7_rangeCheck_23922_69 : decode cJ7_rangeCheck_23922 69 = .ok (.invokespecial 70, 3) := by decide +kernel
theorem dJ7_rangeCheck_23922_72 : decode cJ7_rangeCheck_23922 72 = .ok (.athrow, 1) := by decide +kernel
theorem dJ7_rangeCheck_23922_73 : decode cJ7_rangeCheck_23922 73 = .ok (.return_, 1) := by decide +kernel
theorem dJ7_fill_53178_0 : decode cJ7_fill_53178 0 = .ok (.iconst 0, 1) := by decide +kernel
theorem dJ7_fill_53178_1 : decode cJ7_fill_53178 1 = .ok (.istore_n 2, 1) := by decide +kernel
theorem dJ7_fill_53178_2 : decode cJ7_fill_53178 2 = .ok (.aload_n 0, 1) := by decide +kernel
theorem dJ7_fill_53178_3 : decode cJ7_fill_53178 3 = .ok (.arraylength, 1) := by decide +kernel
theorem dJ7_fill_53178_4 : decode cJ7_fill_53178 4 = .ok (.istore_n 3, 1) := by decide +kernel
theorem dJ7_fill_53178_5 : decode cJ7_fill_53178 5 = .ok (.iload_n 2, 1) := by decide +kernel
theorem dJ7_fill_53178_6 : decode cJ7_fill_53178 6 = .ok (.iload_n 3, 1) := by decide +kernel
theorem dJ7_fill_53178_7 : decode cJ7_fill_53178 7 = .ok (.if_icmp .ge 13, 3) := by decide +kernel
theorem dJ7_fill_53178_10 : decode cJ7_fill_53178 10 = .ok (.aload_n 0, 1) := by decide +kernel
theorem dJ7_fill_53178_11 : decode cJ7_fill_53178 11 = .ok (.iload_n 2, 1) := by decide +kernel
theorem dJ7_fill_53178_12 : decode cJ7_fill_53178 12 = .ok (.iload_n 1, 1) := by decide +kernel
theorem dJ7_fill_53178_13 : decode cJ7_fill_53178 13 = .ok (.iastore, 1) := by decide +kernel
theorem dJ7_fill_53178_14 : decode cJ7_fill_53178 14 = .ok (.iinc 2 1, 3) := by decide +kernel
theorem dJ7_fill_53178_17 : decode cJ7_fill_53178 17 = .ok (.goto (-12), 3) := by decide +kernel
theorem dJ7_fill_53178_20 : decode cJ7_fill_53178 20 = .ok (.return_, 1) := by decide +kernel
set_option maxRecDepth 20000 in
theorem ggJ7_fill_fda19_J7_rangeCheck_23922 : GoodIn wsJ7_fill_fda19 wsJ7_rangeCheck_23922 := goodIn_r _ [4] (by decide +kernel) (by decide +kernel)
set_option maxRecDepth 20000 in
theorem gJ7_fill_fda19_J7_rangeCheck_23922 : GoodIn wsJ7_fill_fda19 (va_wsS RJ7 13 yJ7_rangeCheck_23922 wsJ7_rangeCheck_23922) := goodIn_app (goodIn_of _ (by decide +kernel)) ggJ7_fill_fda19_J7_rangeCheck_23922
theorem dJ7_fill_fda19_0 : decode cJ7_fill_fda19 0 = .ok (.aload_n 0, 1) := by decide +kernel
theorem dJ7_fill_fda19_1 : decode cJ7_fill_fda19 1 = .ok (.arraylength, 1) := by decide +kernel
theorem dJ7_fill_fda19_2 : decode cJ7_fill_fda19 2 = .ok (.iload_n 1, 1) := by decide +kernel
theorem dJ7_fill_fda19_3 : decode cJ7_fill_fda19 3 = .ok (.iload_n 2, 1) := by decide +kernel
theorem dJ7_fill_fda19_4 : decode cJ7_fill_fda19 4 = .ok (.invokestatic 13, 3) := by decide +kernel
theorem dJ7_fill_fda19_7 : decode cJ7_fill_fda19 7 = .ok (.iload_n 1, 1) := by decide +kernel
theorem dJ7_fill_fda19_8 : decode cJ7_fill_fda19 8 = .ok (.istore 4, 2) := by decide +kernel
theorem dJ7_fill_fda19_10 : decode cJ7_fill_fda19 10 = .ok (.iload 4, 2) := by decide +kernel
theorem dJ7_fill_fda19_12 : decode cJ7_fill_fda19 12 = .ok (.iload_n 2, 1) := by decide +kernel
theorem dJ7_fill_fda19_13 : decode cJ7_fill_fda19 13 = .ok (.if_icmp .ge 14, 3) := by decide +kernel
theorem dJ7_fill_fda19_16 : decode cJ7_fill_fda19 16 = .ok (.aload_n 0, 1) := by decide +kernel
theorem dJ7_fill_fda19_17 : decode cJ7_fill_fda19 17 = .ok (.iload 4, 2) := by decide +kernel
theorem dJ7_fill_fda19_19 : decode cJ7_fill_fda19 19 = .ok (.iload_n 3, 1) := by decide +kernel
theorem dJ7_fill_fda19_20 : decode cJ7_fill_fda19 20 = .ok (.iastore, 1) := by decide +kernel
theorem dJ7_fill_fda19_21 : decode cJ7_fill_fda19 21 = .ok (.iinc 4 1, 3) := by decide +kernel
theorem dJ7_fill_fda19_24 : decode cJ7_fill_fda19 24 = .ok (.goto (-14), 3) := by decide +kernel
theorem dJ7_fill_fda19_27 : decode cJ7_fill_fda19 27 = .ok (.return_, 1) := by decide +kernel
abbrev vwCl : List vw_C := [(RX0, TX0, 2), (RX1, TX1, 2), (RX2, TX2, 1), (RX3, TX3, 5), (RX4, TX4, 2), (RX5, TX5, 1), (RX6, TX6, 7), (RX7, TX7, 12)]
end
section
/-! THE LAYER: values are whole numbers z, held as hs_I z; an array of ints holds a function g : Int → Int; hs_J: the walk with heap, locals' array and locations hidden -/
def hs_I (z : Int) : Int32 := Int32.ofInt z
abbrev hs_in (z : Int) : Prop := -2147483648 ≤ z ∧ z ≤ 2147483647
theorem hs_toInt {z : Int} (h : hs_in z) : (hs_I z).toInt = z := Int32.toInt_ofInt_of_le (by have := h.1; omega) (by have := h.2; omega)
theorem hs_ofInt (x : Int32) : hs_I x.toInt = x := Int32.ofInt_toInt x
theorem hs_inOf (x : Int32) : hs_in x.toInt := ⟨by have := x.le_toInt; omega, by have := x.toInt_lt; omega⟩
theorem hs_add (a b : Int) : hs_I a + hs_I b = hs_I (a + b) := (Int32.ofInt_add a b).symm
theorem hs_sub (a b : Int) : hs_I a - hs_I b = hs_I (a - b) := (Int32.ofInt_sub a b).symm
theorem hs_mul (a b : Int) : hs_I a * hs_I b = hs_I (a * b) := (Int32.ofInt_mul a b).symm
theorem hs_eq {a b : Int} (ha : hs_in a) (hb : hs_in b) : hs_I a = hs_I b ↔ a = b := by rw [← Int32.toInt_inj, hs_toInt ha, hs_toInt hb]
theorem hs_lt {a b : Int} (ha : hs_in a) (hb : hs_in b) : hs_I a < hs_I b ↔ a < b := by rw [Int32.lt_iff_toInt_lt, hs_toInt ha, hs_toInt hb]
theorem hs_le {a b : Int} (ha : hs_in a) (hb : hs_in b) : hs_I a ≤ hs_I b ↔ a ≤ b := by rw [Int32.le_iff_toInt_le, hs_toInt ha, hs_toInt hb]
theorem hs_nat {z : Int} (h : hs_in z) : (hs_I z).toNatClampNeg = z.toNat := Int32.toNatClampNeg_ofInt_of_le (by have := h.1; omega) (by have := h.2; omega)
theorem hs_I0 : hs_I 0 = 0 := rfl
theorem hs_in0 : hs_in 0 := by omega
def hs_f (g : Int → Int) : Nat → Int32 := fun k => hs_I (g k)
def hs_u (g : Int → Int) (i v : Int) : Int → Int := fun k => if k = i then v else g k
theorem hs_u_self (g : Int → Int) (i v : Int) : hs_u g i v i = v := by simp [hs_u]
theorem hs_u_ne {g : Int → Int} {i v k : Int} (h : k ≠ i) : hs_u g i v k = g k := by simp [hs_u, h]
theorem hs_u_bd {g : Int → Int} {i v lo hi : Int} (hg : ∀ k, lo ≤ g k ∧ g k ≤ hi) (hv : lo ≤ v ∧ v ≤ hi) : ∀ k, lo ≤ hs_u g i v k ∧ hs_u g i v k ≤ hi := by
  intro k
  by_cases h : k = i
  · rw [h, hs_u_self]; exact hv
  · rw [hs_u_ne h]; exact hg k
/-- System.arraycopy over whole numbers -/
def hs_cp (f g : Int → Int) (sp dp n : Int) : Int → Int := fun k => if dp ≤ k ∧ k < dp + n then f (sp + (k - dp)) else g k
theorem hs_cp_bd {f g : Int → Int} {sp dp n lo hi : Int} (hf : ∀ k, lo ≤ f k ∧ f k ≤ hi) (hg : ∀ k, lo ≤ g k ∧ g k ≤ hi) : ∀ k, lo ≤ hs_cp f g sp dp n k ∧ hs_cp f g sp dp n k ≤ hi := by
  intro k
  unfold hs_cp
  split
  · exact hf _
  · exact hg k
theorem hs_fu {g : Int → Int} {z v : Int} (h : 0 ≤ z) : upd (hs_f g) z.toNat (hs_I v) = hs_f (hs_u g z v) := by
  funext k
  unfold upd hs_f hs_u
  by_cases hk : (k : Int) = z
  · rw [if_pos (by omega), if_pos hk]
  · rw [if_neg (by omega), if_neg hk]
theorem hs_fcp {f g : Int → Int} {sp dp n : Int} (h1 : 0 ≤ sp) (h2 : 0 ≤ dp) (h3 : 0 ≤ n) : va_cpy (hs_f f) (hs_f g) sp.toNat dp.toNat n.toNat = hs_f (hs_cp f g sp dp n) := by
  funext k
  unfold va_cpy hs_f hs_cp
  by_cases hk : dp ≤ (k : Int) ∧ (k : Int) < dp + n
  · rw [if_pos (by omega), if_pos hk]
    congr 1
    congr 1
    omega
  · rw [if_neg (by omega), if_neg hk]
theorem hs_vin {z : Int} {n : Nat} (h0 : 0 ≤ z) (h1 : z < n) (h2 : n ≤ 2147483647) : vp_in (hs_I z) n := by
  have hz : hs_in z := ⟨by omega, by omega⟩
  intro h
  rcases h with h | h
  · rw [← hs_I0, hs_lt hz hs_in0] at h; omega
  · rw [hs_nat hz] at h; omega
/-- which words of nest mates, and of the array of columns, every contract takes with it -/
def hs_nf : List (String × Nat × String × String × String) := [(RX4, 24, RX0, "heights", "[I"), (RX2, 39, RX0, "heights", "[I"), (RX6, 78, RX0, "heights", "[I"), (RX4, 18, RX0, "size", "I"), (RX6, 55, RX0, "size", "I"), (RX2, 31, RX0, "size", "I"), (RX6, 105, RX1, "count", "I"), (RX6, 102, RX5, "depths", "[I"), (RX6, 186, RX3, "owners", "[I"), (RX6, 181, RX3, "count", "I"), (RX6, 224, RX4, "parents", "[I")]
def hs_nm : List (String × Nat × MethodName) := [(RX6, 9, yX0_init), (RX1, 21, yX0_init), (RX6, 29, yX5_init), (RX6, 36, yX3_init), (RX6, 43, yX4_init), (RX6, 50, yX2_init), (RX0, 42, yX6_lowestGreatest), (RX2, 35, yX6_sumOf)]
def hs_N (U : State) : Prop := (∀ q ∈ hs_nf, va_Nw (.fieldLinkNest q.1 q.2.1 q.2.2.1 q.2.2.2.1 q.2.2.2.2 RX6) U) ∧ (∀ q ∈ hs_nm, va_Nw (.methodLinkNest q.1 q.2.1 q.2.2 RX6) U) ∧ va_AO RX0 U
theorem hs_N.warm {s U : State} (hW : s.WarmedH U.vm) (h : hs_N s) : hs_N U := ⟨fun q hq => va_Nw.warmF hW (h.1 q hq), fun q hq => va_Nw.warmM hW (h.2.1 q hq), va_AO.moved hW.alike h.2.2⟩
theorem hs_N.same {s U : State} (hW : s.vm = U.vm) (h : hs_N s) : hs_N U := ⟨fun q hq => va_Nw.same rfl hW (h.1 q hq), fun q hq => va_Nw.same rfl hW (h.2.1 q hq), va_AO.moved (by rw [hW]; exact Vm.Alike.refl U.vm) h.2.2⟩
theorem hs_Pm {D : va_G} {ws : va_W} {H : Heap} : va_P D vwCl ws H ↔ ∀ q ∈ ws, va_at D vwCl q H := by
  constructor
  · intro h q hq
    obtain ⟨i, hi⟩ := List.getElem?_of_mem hq
    exact h i q hi
  · intro h k q hk
    exact h q (List.mem_of_getElem? hk)
theorem hs_Dm {A : Nat → Prop} {ws : va_W} : va_D A ws ↔ (ws.map Prod.fst).Nodup ∧ ∀ q ∈ ws, A q.1 := by
  constructor
  · intro h
    refine ⟨?_, fun q hq => ?_⟩
    · unfold List.Nodup
      rw [List.pairwise_iff_getElem]
      intro i j hi hj hij e
      rw [List.length_map] at hi hj
      rw [List.getElem_map, List.getElem_map] at e
      have := h.1 i j ws[i] ws[j] (List.getElem?_eq_getElem hi) (List.getElem?_eq_getElem hj) e
      omega
    · obtain ⟨i, hi⟩ := List.getElem?_of_mem hq
      exact h.2 i q hi
  · intro h
    refine ⟨fun i j a b hi hj e => ?_, fun k q hk => h.2 q (List.mem_of_getElem? hk)⟩
    have hn := h.1
    unfold List.Nodup at hn
    rw [List.pairwise_iff_getElem] at hn
    obtain ⟨hi1, hi2⟩ := List.getElem?_eq_some_iff.mp hi
    obtain ⟨hj1, hj2⟩ := List.getElem?_eq_some_iff.mp hj
    rcases Nat.lt_trichotomy i j with g | g | g
    · exact absurd (by rw [List.getElem_map, List.getElem_map, hi2, hj2]; exact e) (hn i j (by rw [List.length_map]; exact hi1) (by rw [List.length_map]; exact hj1) g)
    · exact g
    · exact absurd (by rw [List.getElem_map, List.getElem_map, hi2, hj2]; exact e.symm) (hn j i (by rw [List.length_map]; exact hj1) (by rw [List.length_map]; exact hi1) g)
theorem hs_DL {A : Nat → Prop} {w1 w2 : va_W} (h : va_D A (w1 ++ w2)) : va_D A w1 := by
  rw [hs_Dm] at h ⊢
  rw [List.map_append, List.nodup_append] at h
  exact ⟨h.1.1, fun q hq => h.2 q (List.mem_append_left _ hq)⟩
theorem hs_PL {D : va_G} {w1 w2 : va_W} {H : Heap} (h : va_P D vwCl (w1 ++ w2) H) : va_P D vwCl w1 H := by
  rw [hs_Pm] at h ⊢
  exact fun q hq => h q (List.mem_append_left _ hq)
/-- behind a call: the callee's world ahead of the rest, which is unchanged -/
theorem hs_join {A : Nat → Prop} {D : va_G} {w1 w2 wr : va_W} {H H1 : Heap} (hP : va_P D vwCl (w1 ++ wr) H) (hD : va_D A (w1 ++ wr)) (hk : ∀ q : Nat, q < H.size → ¬ va_A w1 H.size q → H1[q]? = H[q]?) (hF : ∀ q, va_A w1 H.size q → A q) (hP1 : va_P D vwCl w2 H1) (hD1 : va_D (va_A w1 H.size) w2) : va_P D vwCl (w2 ++ wr) H1 ∧ va_D A (w2 ++ wr) := by
  have hlt : ∀ q ∈ wr, q.1 < H.size := fun q hq => (hs_Pm.mp hP q (List.mem_append_right _ hq)).lt
  have hnot : ∀ q ∈ wr, ¬ va_A w1 H.size q.1 := by
    intro q hq h
    rcases h with ⟨k, e, h⟩ | h
    · have hn := (hs_Dm.mp hD).1
      rw [List.map_append, List.nodup_append] at hn
      exact hn.2.2 q.1 (List.mem_map.mpr ⟨(q.1, e), List.mem_of_getElem? h, rfl⟩) q.1 (List.mem_map.mpr ⟨q, hq, rfl⟩) rfl
    · have := hlt q hq; omega
  constructor
  · rw [hs_Pm] at hP hP1 ⊢
    intro q hq
    rcases List.mem_append.mp hq with h | h
    · exact hP1 q h
    · exact (hP q (List.mem_append_right _ h)).kept (hk q.1 (hlt q h) (hnot q h))
  · rw [hs_Dm] at hD hD1 ⊢
    rw [List.map_append, List.nodup_append] at hD ⊢
    refine ⟨⟨hD1.1, hD.1.2.1, fun a ha b hb e => ?_⟩, fun q hq => ?_⟩
    · obtain ⟨x, hx, rfl⟩ := List.mem_map.mp ha
      obtain ⟨y, hy, rfl⟩ := List.mem_map.mp hb
      exact hnot y hy (by rw [← e]; exact hD1.2 x hx)
    · rcases List.mem_append.mp hq with h | h
      · exact hF q.1 (hD1.2 q h)
      · exact hD.2 q (List.mem_append_right _ h)
theorem hs_reP {D : va_G} {A : Nat → Prop} {w w' wi : va_W} {H : Heap} (pl : List Nat) (hpl : pl.map (fun i => w[i]?) = w'.map some) (hnd : va_nd pl = true) (hP : va_P D vwCl (w ++ wi) H) (hD : va_D A (w ++ wi)) : va_P D vwCl (w' ++ wi) H ∧ va_D A (w' ++ wi) := by
  have hm : ∀ q ∈ w', q ∈ w := by
    intro q hq
    have h1 : some q ∈ w'.map some := List.mem_map.mpr ⟨q, hq, rfl⟩
    rw [← hpl] at h1
    obtain ⟨i, -, hi⟩ := List.mem_map.mp h1
    exact List.mem_of_getElem? hi
  have hDw : va_D A w' := (hs_DL hD).sub pl hnd hpl
  constructor
  · rw [hs_Pm] at hP ⊢
    intro q hq
    rcases List.mem_append.mp hq with h | h
    · exact hP q (List.mem_append_left _ (hm q h))
    · exact hP q (List.mem_append_right _ h)
  · rw [hs_Dm] at hD hDw ⊢
    rw [List.map_append, List.nodup_append] at hD ⊢
    refine ⟨⟨hDw.1, hD.1.2.1, fun a ha b hb e => ?_⟩, fun q hq => ?_⟩
    · obtain ⟨x, hx, rfl⟩ := List.mem_map.mp ha
      exact hD.1.2.2 x.1 (List.mem_map.mpr ⟨x, hm x hx, rfl⟩) b hb e
    · rcases List.mem_append.mp hq with h | h
      · exact hDw.2 q h
      · exact hD.2 q (List.mem_append_right _ h)
/-- the array classes: of ints, of columns -/
abbrev hs_t (cI cO : ClassId) : List (ClassId × FieldType) := [(cI, .int), (cO, .object RX0)]
/-- cells: an array of ints, an array of columns, an object -/
abbrev hs_ia (cI : ClassId) (a n : Nat) (g : Int → Int) : Nat × va_E := (a, .inl (cI, n, .inl (hs_f g)))
abbrev hs_ra (cO : ClassId) (a n : Nat) (f : Nat → Option Nat) : Nat × va_E := (a, .inl (cO, n, .inr (.inr (.inr (.inr f)))))
abbrev hs_ob (a ci : Nat) (fs : List Value) : Nat × va_E := (a, .inr (ci, fs))
abbrev hs_V (z : Int) : Value := .int (hs_I z)
def hs_J (p : Program) (l : Launch) (e : Env) (R : Room) (s : State) (m : MethodId) (args : Array Value) (below : List Frame) (meth : Method) (c : Code) (D : va_G) (A : Nat → Prop) (H0 : Heap) (nL cells slots : Nat) (Q : State → Prop) (pc : Nat) (lv : List (Nat × Value)) (st : List Value) (ws : va_W) : Prop :=
  ∀ (H : Heap) (locs : List Loc) (ls : Array Slot), va_P D vwCl ws H → va_D A ws → va_S A H0 H locs → lv_has ls nL lv → W p l e R s m args below meth c H locs cells slots Q (F0 m pc ls st)
def hs_C (p : Program) (s : State) (m : MethodId) (args : Array Value) (c : Code) (cc : ByteArray) (nL : Nat) (Ts : List Cond) (own : String) (D : va_G) (cI cO : ClassId) (A : Nat → Prop) (H0 : Heap) : Prop :=
  CallFix p m c cc nL s args Ts own ∧ va_K D vwCl (hs_t cI cO) s ∧ hs_N s ∧ ∀ q, H0.size ≤ q → A q
section JL
variable {p : Program} {l : Launch} {e : Env} {R : Room} {s : State} {m : MethodId} {args : Array Value} {below : List Frame} {meth : Method} {c : Code} {D : va_G} {A : Nat → Prop} {H0 : Heap} {nL cells slots : Nat} {Q : State → Prop} {pc : Nat} {lv : List (Nat × Value)} {st : List Value} {ws : va_W}
variable {cc : ByteArray} {Ts : List Cond} {own : String} {cI cO : ClassId}

theorem hs_iconst (C : hs_C p s m args c cc nL Ts own D cI cO A H0) {n : Int} (d : decode cc pc = .ok (.iconst n, 1)) (k : hs_J p l e R s m args below meth c D A H0 nL cells slots Q (pc + 1) lv (hs_V n :: st) ws) : hs_J p l e R s m args below meth c D A H0 nL cells slots Q pc lv st ws := fun H locs ls hP hD hS hl => lv_iconst C.1.1 C.1.2.1 d rfl (k H locs ls hP hD hS hl)
theorem hs_bipush (C : hs_C p s m args c cc nL Ts own D cI cO A H0) {n : Int} (d : decode cc pc = .ok (.bipush n, 2)) (hv : (Int8.ofInt n).toInt32 = hs_I n) (k : hs_J p l e R s m args below meth c D A H0 nL cells slots Q (pc + 2) lv (hs_V n :: st) ws) : hs_J p l e R s m args below meth c D A H0 nL cells slots Q pc lv st ws := fun H locs ls hP hD hS hl => lv_bipush C.1.1 C.1.2.1 d hv (k H locs ls hP hD hS hl)
theorem hs_sipush (C : hs_C p s m args c cc nL Ts own D cI cO A H0) {n : Int} (d : decode cc pc = .ok (.sipush n, 3)) (hv : (Int16.ofInt n).toInt32 = hs_I n) (k : hs_J p l e R s m args below meth c D A H0 nL cells slots Q (pc + 3) lv (hs_V n :: st) ws) : hs_J p l e R s m args below meth c D A H0 nL cells slots Q pc lv st ws := fun H locs ls hP hD hS hl => lv_sipush C.1.1 C.1.2.1 d hv (k H locs ls hP hD hS hl)
theorem hs_iload_n (C : hs_C p s m args c cc nL Ts own D cI cO A H0) {j : Fin 4} {i : Nat} {x : Int32} (d : decode cc pc = .ok (.iload_n j, 1)) (hi : (j : Nat) = i) (q : Nat) (hq : lv[q]? = some (i, .int x)) (k : hs_J p l e R s m args below meth c D A H0 nL cells slots Q (pc + 1) lv (.int x :: st) ws) : hs_J p l e R s m args below meth c D A H0 nL cells slots Q pc lv st ws := fun H locs ls hP hD hS hl => lv_iload_n C.1.1 C.1.2.1 d hi (lv_at hl q hq) (k H locs ls hP hD hS hl)
theorem hs_iload (C : hs_C p s m args c cc nL Ts own D cI cO A H0) {i : Nat} {x : Int32} (d : decode cc pc = .ok (.iload i, 2)) (q : Nat) (hq : lv[q]? = some (i, .int x)) (k : hs_J p l e R s m args below meth c D A H0 nL cells slots Q (pc + 2) lv (.int x :: st) ws) : hs_J p l e R s m args below meth c D A H0 nL cells slots Q pc lv st ws := fun H locs ls hP hD hS hl => lv_iload C.1.1 C.1.2.1 d (lv_at hl q hq) (k H locs ls hP hD hS hl)
theorem hs_istore_n (C : hs_C p s m args c cc nL Ts own D cI cO A H0) {j : Fin 4} {i : Nat} {x : Int32} {lv' : List (Nat × Value)} (d : decode cc pc = .ok (.istore_n j, 1)) (hi : (j : Nat) = i) (hn : i < nL) (ks : List Nat) (hks : lv_pick ((i, (.int x : Value)) :: lv.filter (fun q => !(q.1 == i) && !(q.1 + 1 == i && q.2.category == 2))) ks = lv') (k : hs_J p l e R s m args below meth c D A H0 nL cells slots Q (pc + 1) lv' st ws) : hs_J p l e R s m args below meth c D A H0 nL cells slots Q pc lv (.int x :: st) ws := fun H locs ls hP hD hS hl => lv_istore_n C.1.1 C.1.2.1 d hi hl hn rfl (fun ls hl => k H locs ls hP hD hS (lv_sub hl ks hks))
theorem hs_istore (C : hs_C p s m args c cc nL Ts own D cI cO A H0) {i : Nat} {x : Int32} {lv' : List (Nat × Value)} (d : decode cc pc = .ok (.istore i, 2)) (hn : i < nL) (ks : List Nat) (hks : lv_pick ((i, (.int x : Value)) :: lv.filter (fun q => !(q.1 == i) && !(q.1 + 1 == i && q.2.category == 2))) ks = lv') (k : hs_J p l e R s m args below meth c D A H0 nL cells slots Q (pc + 2) lv' st ws) : hs_J p l e R s m args below meth c D A H0 nL cells slots Q pc lv (.int x :: st) ws := fun H locs ls hP hD hS hl => lv_istore C.1.1 C.1.2.1 d hl hn rfl (fun ls hl => k H locs ls hP hD hS (lv_sub hl ks hks))
theorem hs_aload_n (C : hs_C p s m args c cc nL Ts own D cI cO A H0) {j : Fin 4} {i : Nat} {x : Nat} (d : decode cc pc = .ok (.aload_n j, 1)) (hi : (j : Nat) = i) (q : Nat) (hq : lv[q]? = some (i, .ref x)) (k : hs_J p l e R s m args below meth c D A H0 nL cells slots Q (pc + 1) lv (.ref x :: st) ws) : hs_J p l e R s m args below meth c D A H0 nL cells slots Q pc lv st ws := fun H locs ls hP hD hS hl => lv_aload_n C.1.1 C.1.2.1 d hi (lv_at hl q hq) (k H locs ls hP hD hS hl)
theorem hs_aload (C : hs_C p s m args c cc nL Ts own D cI cO A H0) {i : Nat} {x : Nat} (d : decode cc pc = .ok (.aload i, 2)) (q : Nat) (hq : lv[q]? = some (i, .ref x)) (k : hs_J p l e R s m args below meth c D A H0 nL cells slots Q (pc + 2) lv (.ref x :: st) ws) : hs_J p l e R s m args below meth c D A H0 nL cells slots Q pc lv st ws := fun H locs ls hP hD hS hl => lv_aload C.1.1 C.1.2.1 d (lv_at hl q hq) (k H locs ls hP hD hS hl)
theorem hs_astore_n (C : hs_C p s m args c cc nL Ts own D cI cO A H0) {j : Fin 4} {i : Nat} {x : Nat} {lv' : List (Nat × Value)} (d : decode cc pc = .ok (.astore_n j, 1)) (hi : (j : Nat) = i) (hn : i < nL) (ks : List Nat) (hks : lv_pick ((i, (.ref x : Value)) :: lv.filter (fun q => !(q.1 == i) && !(q.1 + 1 == i && q.2.category == 2))) ks = lv') (k : hs_J p l e R s m args below meth c D A H0 nL cells slots Q (pc + 1) lv' st ws) : hs_J p l e R s m args below meth c D A H0 nL cells slots Q pc lv (.ref x :: st) ws := fun H locs ls hP hD hS hl => lv_astore_n C.1.1 C.1.2.1 d hi hl hn rfl (fun ls hl => k H locs ls hP hD hS (lv_sub hl ks hks))
theorem hs_astore (C : hs_C p s m args c cc nL Ts own D cI cO A H0) {i : Nat} {x : Nat} {lv' : List (Nat × Value)} (d : decode cc pc = .ok (.astore i, 2)) (hn : i < nL) (ks : List Nat) (hks : lv_pick ((i, (.ref x : Value)) :: lv.filter (fun q => !(q.1 == i) && !(q.1 + 1 == i && q.2.category == 2))) ks = lv') (k : hs_J p l e R s m args below meth c D A H0 nL cells slots Q (pc + 2) lv' st ws) : hs_J p l e R s m args below meth c D A H0 nL cells slots Q pc lv (.ref x :: st) ws := fun H locs ls hP hD hS hl => lv_astore C.1.1 C.1.2.1 d hl hn rfl (fun ls hl => k H locs ls hP hD hS (lv_sub hl ks hks))
theorem hs_aload_nN (C : hs_C p s m args c cc nL Ts own D cI cO A H0) {j : Fin 4} {i : Nat} (d : decode cc pc = .ok (.aload_n j, 1)) (hi : (j : Nat) = i) (q : Nat) (hq : lv[q]? = some (i, .null)) (k : hs_J p l e R s m args below meth c D A H0 nL cells slots Q (pc + 1) lv (.null :: st) ws) : hs_J p l e R s m args below meth c D A H0 nL cells slots Q pc lv st ws := fun H locs ls hP hD hS hl => lv_aload_nN C.1.1 C.1.2.1 d hi (lv_at hl q hq) (k H locs ls hP hD hS hl)
theorem hs_astore_nN (C : hs_C p s m args c cc nL Ts own D cI cO A H0) {j : Fin 4} {i : Nat} {lv' : List (Nat × Value)} (d : decode cc pc = .ok (.astore_n j, 1)) (hi : (j : Nat) = i) (hn : i < nL) (ks : List Nat) (hks : lv_pick ((i, (Value.null)) :: lv.filter (fun q => !(q.1 == i) && !(q.1 + 1 == i && q.2.category == 2))) ks = lv') (k : hs_J p l e R s m args below meth c D A H0 nL cells slots Q (pc + 1) lv' st ws) : hs_J p l e R s m args below meth c D A H0 nL cells slots Q pc lv (.null :: st) ws := fun H locs ls hP hD hS hl => lv_astore_nN C.1.1 C.1.2.1 d hi hl hn rfl (fun ls hl => k H locs ls hP hD hS (lv_sub hl ks hks))
theorem hs_iinc (C : hs_C p s m args c cc nL Ts own D cI cO A H0) {i : Nat} {n x : Int} {lv' : List (Nat × Value)} (d : decode cc pc = .ok (.iinc i n, 3)) (q : Nat) (hq : lv[q]? = some (i, hs_V x)) (hn : i < nL) (ks : List Nat) (hks : lv_pick ((i, hs_V (x + n)) :: lv.filter (fun q => !(q.1 == i) && !(q.1 + 1 == i && q.2.category == 2))) ks = lv') (k : hs_J p l e R s m args below meth c D A H0 nL cells slots Q (pc + 3) lv' st ws) : hs_J p l e R s m args below meth c D A H0 nL cells slots Q pc lv st ws := fun H locs ls hP hD hS hl => lv_iinc (v := hs_I (x + n)) C.1.1 C.1.2.1 d hl hq (hs_add x n) hn rfl (fun ls hl => k H locs ls hP hD hS (lv_sub hl ks hks))
theorem hs_iadd (C : hs_C p s m args c cc nL Ts own D cI cO A H0) {x y : Int} (d : decode cc pc = .ok (.iadd, 1)) (k : hs_J p l e R s m args below meth c D A H0 nL cells slots Q (pc + 1) lv (hs_V (x + y) :: st) ws) : hs_J p l e R s m args below meth c D A H0 nL cells slots Q pc lv (hs_V y :: hs_V x :: st) ws := fun H locs ls hP hD hS hl => lv_iadd C.1.1 C.1.2.1 d (by rw [hs_add]; exact k H locs ls hP hD hS hl)
theorem hs_isub (C : hs_C p s m args c cc nL Ts own D cI cO A H0) {x y : Int} (d : decode cc pc = .ok (.isub, 1)) (k : hs_J p l e R s m args below meth c D A H0 nL cells slots Q (pc + 1) lv (hs_V (x - y) :: st) ws) : hs_J p l e R s m args below meth c D A H0 nL cells slots Q pc lv (hs_V y :: hs_V x :: st) ws := fun H locs ls hP hD hS hl => lv_isub C.1.1 C.1.2.1 d (by rw [hs_sub]; exact k H locs ls hP hD hS hl)
theorem hs_imul (C : hs_C p s m args c cc nL Ts own D cI cO A H0) {x y : Int} (d : decode cc pc = .ok (.imul, 1)) (k : hs_J p l e R s m args below meth c D A H0 nL cells slots Q (pc + 1) lv (hs_V (x * y) :: st) ws) : hs_J p l e R s m args below meth c D A H0 nL cells slots Q pc lv (hs_V y :: hs_V x :: st) ws := fun H locs ls hP hD hS hl => lv_imul C.1.1 C.1.2.1 d (by rw [hs_mul]; exact k H locs ls hP hD hS hl)
theorem hs_dup (C : hs_C p s m args c cc nL Ts own D cI cO A H0) {v : Value} (d : decode cc pc = .ok (.dup, 1)) (hv : v.category = 1) (k : hs_J p l e R s m args below meth c D A H0 nL cells slots Q (pc + 1) lv (v :: v :: st) ws) : hs_J p l e R s m args below meth c D A H0 nL cells slots Q pc lv (v :: st) ws := fun H locs ls hP hD hS hl => lv_dup C.1.1 C.1.2.1 d hv (k H locs ls hP hD hS hl)
theorem hs_pop (C : hs_C p s m args c cc nL Ts own D cI cO A H0) {v : Value} (d : decode cc pc = .ok (.pop, 1)) (hv : v.category = 1) (k : hs_J p l e R s m args below meth c D A H0 nL cells slots Q (pc + 1) lv st ws) : hs_J p l e R s m args below meth c D A H0 nL cells slots Q pc lv (v :: st) ws := fun H locs ls hP hD hS hl => lv_pop C.1.1 C.1.2.1 d hv (k H locs ls hP hD hS hl)
theorem hs_dup2 (C : hs_C p s m args c cc nL Ts own D cI cO A H0) {v u : Value} (d : decode cc pc = .ok (.dup2, 1)) (hv : v.category = 1) (hu : u.category = 1) (k : hs_J p l e R s m args below meth c D A H0 nL cells slots Q (pc + 1) lv (v :: u :: v :: u :: st) ws) : hs_J p l e R s m args below meth c D A H0 nL cells slots Q pc lv (v :: u :: st) ws := fun H locs ls hP hD hS hl => lv_dup2_11 C.1.1 C.1.2.1 d hv hu (k H locs ls hP hD hS hl)
theorem hs_goto (C : hs_C p s m args c cc nL Ts own D cI cO A H0) {off : Int} {tgt : Nat} (d : decode cc pc = .ok (.goto off, 3)) (ht : (pc : Int) + off = (tgt : Int)) (k : hs_J p l e R s m args below meth c D A H0 nL cells slots Q tgt lv st ws) : hs_J p l e R s m args below meth c D A H0 nL cells slots Q pc lv st ws := fun H locs ls hP hD hS hl => lv_goto C.1.1 C.1.2.1 d ht (k H locs ls hP hD hS hl)
theorem hs_icmp_eq (C : hs_C p s m args c cc nL Ts own D cI cO A H0) {x y : Int} {off : Int} {tgt : Nat} (d : decode cc pc = .ok (.if_icmp .eq off, 3)) (ht : (pc : Int) + off = (tgt : Int)) (hx : hs_in x) (hy : hs_in y) (kt : x = y → hs_J p l e R s m args below meth c D A H0 nL cells slots Q tgt lv st ws) (kf : ¬ x = y → hs_J p l e R s m args below meth c D A H0 nL cells slots Q (pc + 3) lv st ws) : hs_J p l e R s m args below meth c D A H0 nL cells slots Q pc lv (hs_V y :: hs_V x :: st) ws := fun H locs ls hP hD hS hl => lv_icmp_eq C.1.1 C.1.2.1 d ht (fun h => kt ((hs_eq hx hy).mp h) H locs ls hP hD hS hl) (fun h => kf (fun z => h ((hs_eq hx hy).mpr z)) H locs ls hP hD hS hl)
theorem hs_if_eq (C : hs_C p s m args c cc nL Ts own D cI cO A H0) {x : Int} {off : Int} {tgt : Nat} (d : decode cc pc = .ok (.ifCond .eq off, 3)) (ht : (pc : Int) + off = (tgt : Int)) (hx : hs_in x) (kt : x = 0 → hs_J p l e R s m args below meth c D A H0 nL cells slots Q tgt lv st ws) (kf : ¬ x = 0 → hs_J p l e R s m args below meth c D A H0 nL cells slots Q (pc + 3) lv st ws) : hs_J p l e R s m args below meth c D A H0 nL cells slots Q pc lv (hs_V x :: st) ws := fun H locs ls hP hD hS hl => lv_if_eq C.1.1 C.1.2.1 d ht (fun h => kt ((hs_eq hx hs_in0).mp h) H locs ls hP hD hS hl) (fun h => kf (fun z => h ((hs_eq hx hs_in0).mpr z)) H locs ls hP hD hS hl)
theorem hs_icmp_ne (C : hs_C p s m args c cc nL Ts own D cI cO A H0) {x y : Int} {off : Int} {tgt : Nat} (d : decode cc pc = .ok (.if_icmp .ne off, 3)) (ht : (pc : Int) + off = (tgt : Int)) (hx : hs_in x) (hy : hs_in y) (kt : ¬ x = y → hs_J p l e R s m args below meth c D A H0 nL cells slots Q tgt lv st ws) (kf : x = y → hs_J p l e R s m args below meth c D A H0 nL cells slots Q (pc + 3) lv st ws) : hs_J p l e R s m args below meth c D A H0 nL cells slots Q pc lv (hs_V y :: hs_V x :: st) ws := fun H locs ls hP hD hS hl => lv_icmp_ne C.1.1 C.1.2.1 d ht (fun h => kt ((not_congr (hs_eq hx hy)).mp h) H locs ls hP hD hS hl) (fun h => kf ((hs_eq hx hy).mp h) H locs ls hP hD hS hl)
theorem hs_if_ne (C : hs_C p s m args c cc nL Ts own D cI cO A H0) {x : Int} {off : Int} {tgt : Nat} (d : decode cc pc = .ok (.ifCond .ne off, 3)) (ht : (pc : Int) + off = (tgt : Int)) (hx : hs_in x) (kt : ¬ x = 0 → hs_J p l e R s m args below meth c D A H0 nL cells slots Q tgt lv st ws) (kf : x = 0 → hs_J p l e R s m args below meth c D A H0 nL cells slots Q (pc + 3) lv st ws) : hs_J p l e R s m args below meth c D A H0 nL cells slots Q pc lv (hs_V x :: st) ws := fun H locs ls hP hD hS hl => lv_if_ne C.1.1 C.1.2.1 d ht (fun h => kt ((not_congr (hs_eq hx hs_in0)).mp h) H locs ls hP hD hS hl) (fun h => kf ((hs_eq hx hs_in0).mp h) H locs ls hP hD hS hl)
theorem hs_icmp_lt (C : hs_C p s m args c cc nL Ts own D cI cO A H0) {x y : Int} {off : Int} {tgt : Nat} (d : decode cc pc = .ok (.if_icmp .lt off, 3)) (ht : (pc : Int) + off = (tgt : Int)) (hx : hs_in x) (hy : hs_in y) (kt : x < y → hs_J p l e R s m args below meth c D A H0 nL cells slots Q tgt lv st ws) (kf : ¬ x < y → hs_J p l e R s m args below meth c D A H0 nL cells slots Q (pc + 3) lv st ws) : hs_J p l e R s m args below meth c D A H0 nL cells slots Q pc lv (hs_V y :: hs_V x :: st) ws := fun H locs ls hP hD hS hl => lv_icmp_lt C.1.1 C.1.2.1 d ht (fun h => kt ((hs_lt hx hy).mp h) H locs ls hP hD hS hl) (fun h => kf (fun z => h ((hs_lt hx hy).mpr z)) H locs ls hP hD hS hl)
theorem hs_if_lt (C : hs_C p s m args c cc nL Ts own D cI cO A H0) {x : Int} {off : Int} {tgt : Nat} (d : decode cc pc = .ok (.ifCond .lt off, 3)) (ht : (pc : Int) + off = (tgt : Int)) (hx : hs_in x) (kt : x < 0 → hs_J p l e R s m args below meth c D A H0 nL cells slots Q tgt lv st ws) (kf : ¬ x < 0 → hs_J p l e R s m args below meth c D A H0 nL cells slots Q (pc + 3) lv st ws) : hs_J p l e R s m args below meth c D A H0 nL cells slots Q pc lv (hs_V x :: st) ws := fun H locs ls hP hD hS hl => lv_if_lt C.1.1 C.1.2.1 d ht (fun h => kt ((hs_lt hx hs_in0).mp h) H locs ls hP hD hS hl) (fun h => kf (fun z => h ((hs_lt hx hs_in0).mpr z)) H locs ls hP hD hS hl)
theorem hs_icmp_ge (C : hs_C p s m args c cc nL Ts own D cI cO A H0) {x y : Int} {off : Int} {tgt : Nat} (d : decode cc pc = .ok (.if_icmp .ge off, 3)) (ht : (pc : Int) + off = (tgt : Int)) (hx : hs_in x) (hy : hs_in y) (kt : y ≤ x → hs_J p l e R s m args below meth c D A H0 nL cells slots Q tgt lv st ws) (kf : ¬ y ≤ x → hs_J p l e R s m args below meth c D A H0 nL cells slots Q (pc + 3) lv st ws) : hs_J p l e R s m args below meth c D A H0 nL cells slots Q pc lv (hs_V y :: hs_V x :: st) ws := fun H locs ls hP hD hS hl => lv_icmp_ge C.1.1 C.1.2.1 d ht (fun h => kt ((hs_le hy hx).mp h) H locs ls hP hD hS hl) (fun h => kf (fun z => h ((hs_le hy hx).mpr z)) H locs ls hP hD hS hl)
theorem hs_if_ge (C : hs_C p s m args c cc nL Ts own D cI cO A H0) {x : Int} {off : Int} {tgt : Nat} (d : decode cc pc = .ok (.ifCond .ge off, 3)) (ht : (pc : Int) + off = (tgt : Int)) (hx : hs_in x) (kt : 0 ≤ x → hs_J p l e R s m args below meth c D A H0 nL cells slots Q tgt lv st ws) (kf : ¬ 0 ≤ x → hs_J p l e R s m args below meth c D A H0 nL cells slots Q (pc + 3) lv st ws) : hs_J p l e R s m args below meth c D A H0 nL cells slots Q pc lv (hs_V x :: st) ws := fun H locs ls hP hD hS hl => lv_if_ge C.1.1 C.1.2.1 d ht (fun h => kt ((hs_le hs_in0 hx).mp h) H locs ls hP hD hS hl) (fun h => kf (fun z => h ((hs_le hs_in0 hx).mpr z)) H locs ls hP hD hS hl)
theorem hs_icmp_gt (C : hs_C p s m args c cc nL Ts own D cI cO A H0) {x y : Int} {off : Int} {tgt : Nat} (d : decode cc pc = .ok (.if_icmp .gt off, 3)) (ht : (pc : Int) + off = (tgt : Int)) (hx : hs_in x) (hy : hs_in y) (kt : y < x → hs_J p l e R s m args below meth c D A H0 nL cells slots Q tgt lv st ws) (kf : ¬ y < x → hs_J p l e R s m args below meth c D A H0 nL cells slots Q (pc + 3) lv st ws) : hs_J p l e R s m args below meth c D A H0 nL cells slots Q pc lv (hs_V y :: hs_V x :: st) ws := fun H locs ls hP hD hS hl => lv_icmp_gt C.1.1 C.1.2.1 d ht (fun h => kt ((hs_lt hy hx).mp h) H locs ls hP hD hS hl) (fun h => kf (fun z => h ((hs_lt hy hx).mpr z)) H locs ls hP hD hS hl)
theorem hs_if_gt (C : hs_C p s m args c cc nL Ts own D cI cO A H0) {x : Int} {off : Int} {tgt : Nat} (d : decode cc pc = .ok (.ifCond .gt off, 3)) (ht : (pc : Int) + off = (tgt : Int)) (hx : hs_in x) (kt : 0 < x → hs_J p l e R s m args below meth c D A H0 nL cells slots Q tgt lv st ws) (kf : ¬ 0 < x → hs_J p l e R s m args below meth c D A H0 nL cells slots Q (pc + 3) lv st ws) : hs_J p l e R s m args below meth c D A H0 nL cells slots Q pc lv (hs_V x :: st) ws := fun H locs ls hP hD hS hl => lv_if_gt C.1.1 C.1.2.1 d ht (fun h => kt ((hs_lt hs_in0 hx).mp h) H locs ls hP hD hS hl) (fun h => kf (fun z => h ((hs_lt hs_in0 hx).mpr z)) H locs ls hP hD hS hl)
theorem hs_icmp_le (C : hs_C p s m args c cc nL Ts own D cI cO A H0) {x y : Int} {off : Int} {tgt : Nat} (d : decode cc pc = .ok (.if_icmp .le off, 3)) (ht : (pc : Int) + off = (tgt : Int)) (hx : hs_in x) (hy : hs_in y) (kt : x ≤ y → hs_J p l e R s m args below meth c D A H0 nL cells slots Q tgt lv st ws) (kf : ¬ x ≤ y → hs_J p l e R s m args below meth c D A H0 nL cells slots Q (pc + 3) lv st ws) : hs_J p l e R s m args below meth c D A H0 nL cells slots Q pc lv (hs_V y :: hs_V x :: st) ws := fun H locs ls hP hD hS hl => lv_icmp_le C.1.1 C.1.2.1 d ht (fun h => kt ((hs_le hx hy).mp h) H locs ls hP hD hS hl) (fun h => kf (fun z => h ((hs_le hx hy).mpr z)) H locs ls hP hD hS hl)
theorem hs_if_le (C : hs_C p s m args c cc nL Ts own D cI cO A H0) {x : Int} {off : Int} {tgt : Nat} (d : decode cc pc = .ok (.ifCond .le off, 3)) (ht : (pc : Int) + off = (tgt : Int)) (hx : hs_in x) (kt : x ≤ 0 → hs_J p l e R s m args below meth c D A H0 nL cells slots Q tgt lv st ws) (kf : ¬ x ≤ 0 → hs_J p l e R s m args below meth c D A H0 nL cells slots Q (pc + 3) lv st ws) : hs_J p l e R s m args below meth c D A H0 nL cells slots Q pc lv (hs_V x :: st) ws := fun H locs ls hP hD hS hl => lv_if_le C.1.1 C.1.2.1 d ht (fun h => kt ((hs_le hx hs_in0).mp h) H locs ls hP hD hS hl) (fun h => kf (fun z => h ((hs_le hx hs_in0).mpr z)) H locs ls hP hD hS hl)
theorem hs_ifeq_b (C : hs_C p s m args c cc nL Ts own D cI cO A H0) {P : Prop} [Decidable P] {off : Int} {tgt : Nat} (d : decode cc pc = .ok (.ifCond .eq off, 3)) (ht : (pc : Int) + off = (tgt : Int)) (kt : ¬ P → hs_J p l e R s m args below meth c D A H0 nL cells slots Q tgt lv st ws) (kf : P → hs_J p l e R s m args below meth c D A H0 nL cells slots Q (pc + 3) lv st ws) : hs_J p l e R s m args below meth c D A H0 nL cells slots Q pc lv (hs_V (if P then 1 else 0) :: st) ws := fun H locs ls hP hD hS hl => lv_if_eq C.1.1 C.1.2.1 d ht (fun h => kt (fun z => by rw [if_pos z] at h; exact absurd h (by decide)) H locs ls hP hD hS hl) (fun h => kf (Classical.byContradiction fun z => h (by rw [if_neg z]; rfl)) H locs ls hP hD hS hl)
theorem hs_ifne_b (C : hs_C p s m args c cc nL Ts own D cI cO A H0) {P : Prop} [Decidable P] {off : Int} {tgt : Nat} (d : decode cc pc = .ok (.ifCond .ne off, 3)) (ht : (pc : Int) + off = (tgt : Int)) (kt : P → hs_J p l e R s m args below meth c D A H0 nL cells slots Q tgt lv st ws) (kf : ¬ P → hs_J p l e R s m args below meth c D A H0 nL cells slots Q (pc + 3) lv st ws) : hs_J p l e R s m args below meth c D A H0 nL cells slots Q pc lv (hs_V (if P then 1 else 0) :: st) ws := fun H locs ls hP hD hS hl => lv_if_ne C.1.1 C.1.2.1 d ht (fun h => kt (Classical.byContradiction fun z => h (by rw [if_neg z]; rfl)) H locs ls hP hD hS hl) (fun h => kf (fun z => by rw [if_pos z] at h; exact absurd h (by decide)) H locs ls hP hD hS hl)
theorem hs_ifnonnull (C : hs_C p s m args c cc nL Ts own D cI cO A H0) {x : Nat} {off : Int} {tgt : Nat} (d : decode cc pc = .ok (.ifnonnull off, 3)) (ht : (pc : Int) + off = (tgt : Int)) (k : hs_J p l e R s m args below meth c D A H0 nL cells slots Q tgt lv st ws) : hs_J p l e R s m args below meth c D A H0 nL cells slots Q pc lv (.ref x :: st) ws := fun H locs ls hP hD hS hl => lv_ifnonnull C.1.1 C.1.2.1 d ht (k H locs ls hP hD hS hl)
theorem hs_ifnonnullN (C : hs_C p s m args c cc nL Ts own D cI cO A H0) {off : Int} (d : decode cc pc = .ok (.ifnonnull off, 3)) (k : hs_J p l e R s m args below meth c D A H0 nL cells slots Q (pc + 3) lv st ws) : hs_J p l e R s m args below meth c D A H0 nL cells slots Q pc lv (.null :: st) ws := fun H locs ls hP hD hS hl => lv_ifnonnullN C.1.1 C.1.2.1 d (k H locs ls hP hD hS hl)
theorem hs_tableOut (C : hs_C p s m args c cc nL Ts own D cI cO A H0) {dflt lo hi : Int} {offs : Array Int} {len : Nat} {x : Int} {tgt : Nat} (d : decode cc pc = .ok (.tableswitch dflt lo hi offs, len)) (hx : hs_in x) (h : x < lo ∨ hi < x) (ht : (pc : Int) + dflt = (tgt : Int)) (k : hs_J p l e R s m args below meth c D A H0 nL cells slots Q tgt lv st ws) : hs_J p l e R s m args below meth c D A H0 nL cells slots Q pc lv (hs_V x :: st) ws := fun H locs ls hP hD hS hl => lv_tableOut C.1.1 C.1.2.1 d (by rw [hs_toInt hx]; exact h) ht (k H locs ls hP hD hS hl)
theorem hs_tableIn (C : hs_C p s m args c cc nL Ts own D cI cO A H0) {dflt lo hi : Int} {offs : Array Int} {len : Nat} {x off : Int} {tgt : Nat} (d : decode cc pc = .ok (.tableswitch dflt lo hi offs, len)) (hx : hs_in x) (h1 : ¬ x < lo) (h2 : ¬ hi < x) (ho : offs[(x - lo).toNat]? = some off) (ht : (pc : Int) + off = (tgt : Int)) (k : hs_J p l e R s m args below meth c D A H0 nL cells slots Q tgt lv st ws) : hs_J p l e R s m args below meth c D A H0 nL cells slots Q pc lv (hs_V x :: st) ws := fun H locs ls hP hD hS hl => lv_tableIn C.1.1 C.1.2.1 d (by rw [hs_toInt hx]; exact h1) (by rw [hs_toInt hx]; exact h2) (by rw [hs_toInt hx]; exact ho) ht (k H locs ls hP hD hS hl)
theorem hs_lookup (C : hs_C p s m args c cc nL Ts own D cI cO A H0) {dflt : Int} {ps : Array (Int × Int)} {len : Nat} {x off : Int} {tgt : Nat} (d : decode cc pc = .ok (.lookupswitch dflt ps, len)) (hp : (ps.toList.zip (ps.toList.drop 1)).all (fun (a, next) => a.1 < next.1) = true) (hx : hs_in x) (ho : Op.lookupswitch.offset ps.toList dflt x = off) (ht : (pc : Int) + off = (tgt : Int)) (k : hs_J p l e R s m args below meth c D A H0 nL cells slots Q tgt lv st ws) : hs_J p l e R s m args below meth c D A H0 nL cells slots Q pc lv (hs_V x :: st) ws := fun H locs ls hP hD hS hl => lv_lookup C.1.1 C.1.2.1 d hp (by rw [hs_toInt hx]; exact ho) ht (k H locs ls hP hD hS hl)
theorem hs_get (C : hs_C p s m args c cc nL Ts own D cI cO A H0) {ref Cn : String} {T : u_T} {N ci index a : Nat} (hin : ∀ w ∈ u_ws Cn T N, w ∈ Ts) (q0 : Nat) {fs : List Value} (he : ws[q0]? = some (a, .inr (ci, fs))) (hc : vwCl[ci]? = some (Cn, T, N)) (j : Nat) (hj : j < N) (hlink : (Cond.fieldLink own index ref (T j).2.1 (T j).2.2.1).before args s = true) (hsame : (T j).1 = ref) {v : Value} (hv : fs[j]? = some v) (d : decode cc pc = .ok (.getfield index, 3)) (k : hs_J p l e R s m args below meth c D A H0 nL cells slots Q (pc + 3) lv (v :: st) ws) : hs_J p l e R s m args below meth c D A H0 nL cells slots Q pc lv (.ref a :: st) ws := fun H locs ls hP hD hS hl => va_get C.1.1 C.1.2.1 C.1.2.2.2.2 hin C.1.2.2.2.1 C.2.1 hP q0 he hc j hj hlink (fun _ h => by rw [← hsame]; exact h) hv d (k H locs ls hP hD hS hl)
theorem hs_getN (C : hs_C p s m args c cc nL Ts own D cI cO A H0) {ref Cn host : String} {T : u_T} {N ci index a : Nat} (hin : ∀ w ∈ u_ws Cn T N, w ∈ Ts) (q0 : Nat) {fs : List Value} (he : ws[q0]? = some (a, .inr (ci, fs))) (hc : vwCl[ci]? = some (Cn, T, N)) (j : Nat) (hj : j < N) (hlink : (Cond.fieldLinkNest own index ref (T j).2.1 (T j).2.2.1 host).before args s = true) (hsame : (T j).1 = ref) {v : Value} (hv : fs[j]? = some v) (d : decode cc pc = .ok (.getfield index, 3)) (k : hs_J p l e R s m args below meth c D A H0 nL cells slots Q (pc + 3) lv (v :: st) ws) : hs_J p l e R s m args below meth c D A H0 nL cells slots Q pc lv (.ref a :: st) ws := fun H locs ls hP hD hS hl => va_getN C.1.1 C.1.2.1 C.1.2.2.2.2 hin C.1.2.2.2.1 C.2.1 hP q0 he hc j hj hlink (fun _ h => by rw [← hsame]; exact h) hv d (k H locs ls hP hD hS hl)
theorem hs_put (C : hs_C p s m args c cc nL Ts own D cI cO A H0) {ref Cn : String} {T : u_T} {N ci index a : Nat} (hin : ∀ w ∈ u_ws Cn T N, w ∈ Ts) (ty0 : Nat → FieldType) (hty : ∀ k, k < N → parseFieldDescriptor (T k).2.2.1 = some (ty0 k)) (hnm : ∀ a, a < N → ∀ b, b < N → a ≠ b → (T a).2.1 ≠ (T b).2.1) (q0 : Nat) {fs : List Value} (he : ws[q0]? = some (a, .inr (ci, fs))) (hc : vwCl[ci]? = some (Cn, T, N)) (j : Nat) (hj : j < N) (hlink : (Cond.fieldLink own index ref (T j).2.1 (T j).2.2.1).before args s = true) (hsame : (T j).1 = ref) (hfin : (T j).2.2.2 = false) {v : Value} {ty : FieldType} (hd : parseFieldDescriptor (T j).2.2.1 = some ty) (hn : narrow ty v = v) (hfit : fits ty v = true) (hl0 : j < fs.length) {ws' : va_W} (hws : ws.set q0 (a, .inr (ci, fs.set j v)) = ws') (d : decode cc pc = .ok (.putfield index, 3)) (k : hs_J p l e R s m args below meth c D A H0 nL cells slots Q (pc + 3) lv st ws') : hs_J p l e R s m args below meth c D A H0 nL cells slots Q pc lv (v :: .ref a :: st) ws := fun H locs ls hP hD hS hl => va_put C.1.1 C.1.2.1 C.1.2.2.2.2 hin ty0 hty hnm C.1.2.2.2.1 C.2.1 hP hD hS q0 he hc j hj hlink (fun _ h => by rw [← hsame]; exact h) hfin hd hn hfit hl0 d (fun H locs hP hD hS => k H locs ls (hws ▸ hP) (hws ▸ hD) hS hl)
theorem hs_putN (C : hs_C p s m args c cc nL Ts own D cI cO A H0) {ref Cn : String} {host : String} {T : u_T} {N ci index a : Nat} (hin : ∀ w ∈ u_ws Cn T N, w ∈ Ts) (ty0 : Nat → FieldType) (hty : ∀ k, k < N → parseFieldDescriptor (T k).2.2.1 = some (ty0 k)) (hnm : ∀ a, a < N → ∀ b, b < N → a ≠ b → (T a).2.1 ≠ (T b).2.1) (q0 : Nat) {fs : List Value} (he : ws[q0]? = some (a, .inr (ci, fs))) (hc : vwCl[ci]? = some (Cn, T, N)) (j : Nat) (hj : j < N) (hlink : (Cond.fieldLinkNest own index ref (T j).2.1 (T j).2.2.1 host).before args s = true) (hsame : (T j).1 = ref) (hfin : (T j).2.2.2 = false) {v : Value} {ty : FieldType} (hd : parseFieldDescriptor (T j).2.2.1 = some ty) (hn : narrow ty v = v) (hfit : fits ty v = true) (hl0 : j < fs.length) {ws' : va_W} (hws : ws.set q0 (a, .inr (ci, fs.set j v)) = ws') (d : decode cc pc = .ok (.putfield index, 3)) (k : hs_J p l e R s m args below meth c D A H0 nL cells slots Q (pc + 3) lv st ws') : hs_J p l e R s m args below meth c D A H0 nL cells slots Q pc lv (v :: .ref a :: st) ws := fun H locs ls hP hD hS hl => va_putN C.1.1 C.1.2.1 C.1.2.2.2.2 hin ty0 hty hnm C.1.2.2.2.1 C.2.1 hP hD hS q0 he hc j hj hlink (fun _ h => by rw [← hsame]; exact h) hfin hd hn hfit hl0 d (fun H locs hP hD hS => k H locs ls (hws ▸ hP) (hws ▸ hD) hS hl)
theorem hs_putF (C : hs_C p s m args c cc nL Ts own D cI cO A H0) {ref Cn : String} {T : u_T} {N ci index a : Nat} (hin : ∀ w ∈ u_ws Cn T N, w ∈ Ts) (ty0 : Nat → FieldType) (hty : ∀ k, k < N → parseFieldDescriptor (T k).2.2.1 = some (ty0 k)) (hnm : ∀ a, a < N → ∀ b, b < N → a ≠ b → (T a).2.1 ≠ (T b).2.1) (q0 : Nat) {fs : List Value} (he : ws[q0]? = some (a, .inr (ci, fs))) (hc : vwCl[ci]? = some (Cn, T, N)) (j : Nat) (hj : j < N) (hlink : (Cond.fieldLink own index ref (T j).2.1 (T j).2.2.1).before args s = true) (hsame : (T j).1 = ref) (hfin : (T j).2.2.2 = true) (hin2 : meth.name = "<init>") (hdecl : (T j).1 = own) {v : Value} {ty : FieldType} (hd : parseFieldDescriptor (T j).2.2.1 = some ty) (hn : narrow ty v = v) (hfit : fits ty v = true) (hl0 : j < fs.length) {ws' : va_W} (hws : ws.set q0 (a, .inr (ci, fs.set j v)) = ws') (d : decode cc pc = .ok (.putfield index, 3)) (k : hs_J p l e R s m args below meth c D A H0 nL cells slots Q (pc + 3) lv st ws') : hs_J p l e R s m args below meth c D A H0 nL cells slots Q pc lv (v :: .ref a :: st) ws := fun H locs ls hP hD hS hl => va_putF C.1.1 C.1.2.1 C.1.2.2.2.2 hin ty0 hty hnm C.1.2.2.2.1 C.2.1 hP hD hS q0 he hc j hj hlink (fun _ h => by rw [← hsame]; exact h) hfin hin2 hdecl hd hn hfit hl0 d (fun H locs hP hD hS => k H locs ls (hws ▸ hP) (hws ▸ hD) hS hl)
theorem hs_iald (C : hs_C p s m args c cc nL Ts own D cI cO A H0) {a n : Nat} {g : Int → Int} {z : Int} (q0 : Nat) (he : ws[q0]? = some (hs_ia cI a n g)) (hz : 0 ≤ z ∧ z < (n : Int) ∧ (n : Int) ≤ 2147483647) (d : decode cc pc = .ok (.iaload, 1)) (k : hs_J p l e R s m args below meth c D A H0 nL cells slots Q (pc + 1) lv (hs_V (g z) :: st) ws) : hs_J p l e R s m args below meth c D A H0 nL cells slots Q pc lv (hs_V z :: .ref a :: st) ws := fun H locs ls hP hD hS hl => va_iald C.1.1 C.1.2.1 C.2.1 hP q0 0 he rfl (hs_vin hz.1 hz.2.1 (by omega)) d (by
  have e : hs_f g (hs_I z).toNatClampNeg = hs_I (g z) := by
    rw [hs_nat ⟨by omega, by omega⟩]
    show hs_I (g ((z.toNat : Nat) : Int)) = _
    rw [Int.toNat_of_nonneg hz.1]
  rw [e]; exact k H locs ls hP hD hS hl)
theorem hs_iast (C : hs_C p s m args c cc nL Ts own D cI cO A H0) {a n : Nat} {g : Int → Int} {z v : Int} (q0 : Nat) (he : ws[q0]? = some (hs_ia cI a n g)) (hz : 0 ≤ z ∧ z < (n : Int) ∧ (n : Int) ≤ 2147483647) {ws' : va_W} (hws : ws.set q0 (hs_ia cI a n (hs_u g z v)) = ws') (d : decode cc pc = .ok (.iastore, 1)) (k : hs_J p l e R s m args below meth c D A H0 nL cells slots Q (pc + 1) lv st ws') : hs_J p l e R s m args below meth c D A H0 nL cells slots Q pc lv (hs_V v :: hs_V z :: .ref a :: st) ws := fun H locs ls hP hD hS hl => va_iast C.1.1 C.1.2.1 C.2.1 hP hD hS q0 0 he rfl (hs_vin hz.1 hz.2.1 (by omega)) d (fun H locs hP hD hS => by
  rw [hs_nat ⟨by omega, by omega⟩, hs_fu hz.1] at hP hD
  exact k H locs ls (hws ▸ hP) (hws ▸ hD) hS hl)
theorem hs_aald (C : hs_C p s m args c cc nL Ts own D cI cO A H0) {a n : Nat} {f : Nat → Option Nat} {z : Int} {v : Value} (q0 : Nat) (he : ws[q0]? = some (hs_ra cO a n f)) (hz : 0 ≤ z ∧ z < (n : Int) ∧ (n : Int) ≤ 2147483647) (hv : va_rf (f z.toNat) = v) (d : decode cc pc = .ok (.aaload, 1)) (k : hs_J p l e R s m args below meth c D A H0 nL cells slots Q (pc + 1) lv (v :: st) ws) : hs_J p l e R s m args below meth c D A H0 nL cells slots Q pc lv (hs_V z :: .ref a :: st) ws := fun H locs ls hP hD hS hl => va_aldq (C := RX0) C.1.1 C.1.2.1 C.2.1 hP q0 1 he rfl (hs_vin hz.1 hz.2.1 (by omega)) d (by
  rw [hs_nat ⟨by omega, by omega⟩, hv]; exact k H locs ls hP hD hS hl)
theorem hs_aast (C : hs_C p s m args c cc nL Ts own D cI cO A H0) {a n : Nat} {f : Nat → Option Nat} {z : Int} {v : Nat} {vs : List Value} (q0 qk : Nat) (he : ws[q0]? = some (hs_ra cO a n f)) (hk : ws[qk]? = some (v, .inr (0, vs))) (hz : 0 ≤ z ∧ z < (n : Int) ∧ (n : Int) ≤ 2147483647) {f' : Nat → Option Nat} (hf : va_up f z.toNat (some v) = f') {ws' : va_W} (hws : ws.set q0 (hs_ra cO a n f') = ws') (d : decode cc pc = .ok (.aastore, 1)) (k : hs_J p l e R s m args below meth c D A H0 nL cells slots Q (pc + 1) lv st ws') : hs_J p l e R s m args below meth c D A H0 nL cells slots Q pc lv (.ref v :: hs_V z :: .ref a :: st) ws := fun H locs ls hP hD hS hl => va_astq C.1.1 C.1.2.1 C.2.1 hP hD hS q0 1 qk 0 (r := (RX0, TX0, 2)) he rfl hk rfl (hs_vin hz.1 hz.2.1 (by omega)) d (fun H locs hP hD hS => by
  rw [hs_nat ⟨by omega, by omega⟩, hf] at hP hD
  exact k H locs ls (hws ▸ hP) (hws ▸ hD) hS hl)
theorem hs_alen (C : hs_C p s m args c cc nL Ts own D cI cO A H0) {a n : Nat} {g : Int → Int} (q0 : Nat) (he : ws[q0]? = some (hs_ia cI a n g)) (d : decode cc pc = .ok (.arraylength, 1)) (k : hs_J p l e R s m args below meth c D A H0 nL cells slots Q (pc + 1) lv (hs_V (n : Int) :: st) ws) : hs_J p l e R s m args below meth c D A H0 nL cells slots Q pc lv (.ref a :: st) ws := fun H locs ls hP hD hS hl => va_alen C.1.1 C.1.2.1 C.2.1 hP q0 0 he rfl (v := hs_I (n : Int)) rfl d (k H locs ls hP hD hS hl)
theorem hs_copy (C : hs_C p s m args c cc nL Ts own D cI cO A H0) {index : Nat} (hlink : (Cond.methodLink own index arraycopyName).before args s = true) (hnat : (Cond.native arraycopyName).before args s = true) (hstat : (Cond.static arraycopyName).before args s = true) (hini : (Cond.initialized "java/lang/System").before args s = true) {a0 a1 n0 n1 : Nat} {f g : Int → Int} {sp dp n : Int} (q0 q1 : Nat) (he0 : ws[q0]? = some (hs_ia cI a0 n0 f)) (he1 : ws[q1]? = some (hs_ia cI a1 n1 g)) (hz : 0 ≤ sp ∧ 0 ≤ dp ∧ 0 ≤ n ∧ sp + n ≤ (n0 : Int) ∧ dp + n ≤ (n1 : Int) ∧ (n0 : Int) ≤ 2147483647 ∧ (n1 : Int) ≤ 2147483647) (hfr : 1 ≤ R.frames) (hlo : (st.map fun v => v.category).sum + (nativeFrameWords "java/lang/System" "arraycopy" 5 + 11) ≤ R.locals) {ws' : va_W} (hws : ws.set q1 (hs_ia cI a1 n1 (hs_cp f g sp dp n)) = ws') (d : decode cc pc = .ok (.invokestatic index, 3)) (k : hs_J p l e R s m args below meth c D A H0 nL cells slots Q (pc + 3) lv st ws') : hs_J p l e R s m args below meth c D A H0 nL cells slots Q pc lv (hs_V n :: hs_V dp :: .ref a1 :: hs_V sp :: .ref a0 :: st) ws := fun H locs ls hP hD hS hl => by
  have i1 : hs_in sp := ⟨by omega, by omega⟩
  have i2 : hs_in dp := ⟨by omega, by omega⟩
  have i3 : hs_in n := ⟨by omega, by omega⟩
  refine va_copyi C.1.1 C.1.2.1 (C.1.2.2.1.trans hl.1.symm) C.1.2.2.2.1 hlink hnat hstat hini C.2.1 hP hD hS q0 q1 0 0 he0 he1 rfl rfl rfl (by rw [← hs_I0, hs_lt i1 hs_in0]; omega) (by rw [← hs_I0, hs_lt i2 hs_in0]; omega) (by rw [← hs_I0, hs_lt i3 hs_in0]; omega) (by rw [hs_nat i1, hs_nat i3]; omega) (by rw [hs_nat i2, hs_nat i3]; omega) (fun i hi => rfl) hfr hlo d (fun H locs hP hD hS => ?_)
  rw [hs_nat i1, hs_nat i2, hs_nat i3, hs_fcp hz.1 hz.2.1 hz.2.2.1] at hP hD
  exact k H locs ls (hws ▸ hP) (hws ▸ hD) hS hl
theorem hs_max (C : hs_C p s m args c cc nL Ts own D cI cO A H0) {index : Nat} (hlink : (Cond.methodLink own index Lib.Math.max.name).before args s = true) (hstat : (Cond.static Lib.Math.max.name).before args s = true) (hini : (Cond.initialized "java/lang/Math").before args s = true) (hcode : (Cond.code Lib.Math.max.name Lib.Math.max.code 2 (some .int)).before args s = true) (hfr : 1 ≤ R.frames) (hlo : (st.map fun v => v.category).sum + 13 ≤ R.locals) (hc : cells ≤ R.cells) (hs : slots ≤ R.slots) {x y : Int} (hx : hs_in x) (hy : hs_in y) (d : decode cc pc = .ok (.invokestatic index, 3)) (k : hs_J p l e R s m args below meth c D A H0 nL cells slots Q (pc + 3) lv (hs_V (max x y) :: st) ws) : hs_J p l e R s m args below meth c D A H0 nL cells slots Q pc lv (hs_V y :: hs_V x :: st) ws := fun H locs ls hP hD hS hl => va_mmax C.1.1 C.1.2.1 (C.1.2.2.1.trans hl.1.symm) C.1.2.2.2.1 hlink hstat hini hcode hfr hlo hc hs d (by
  have e : (if hs_I x < hs_I y then hs_I y else hs_I x) = hs_I (max x y) := by
    by_cases h : x < y
    · rw [if_pos ((hs_lt hx hy).mpr h), Int.max_eq_right (by omega)]
    · rw [if_neg (fun z => h ((hs_lt hx hy).mp z)), Int.max_eq_left (by omega)]
  rw [e]; exact k H locs ls hP hD hS hl)
theorem hs_min (C : hs_C p s m args c cc nL Ts own D cI cO A H0) {index : Nat} (hlink : (Cond.methodLink own index Lib.Math.min.name).before args s = true) (hstat : (Cond.static Lib.Math.min.name).before args s = true) (hini : (Cond.initialized "java/lang/Math").before args s = true) (hcode : (Cond.code Lib.Math.min.name Lib.Math.min.code 2 (some .int)).before args s = true) (hfr : 1 ≤ R.frames) (hlo : (st.map fun v => v.category).sum + 13 ≤ R.locals) (hc : cells ≤ R.cells) (hs : slots ≤ R.slots) {x y : Int} (hx : hs_in x) (hy : hs_in y) (d : decode cc pc = .ok (.invokestatic index, 3)) (k : hs_J p l e R s m args below meth c D A H0 nL cells slots Q (pc + 3) lv (hs_V (min x y) :: st) ws) : hs_J p l e R s m args below meth c D A H0 nL cells slots Q pc lv (hs_V y :: hs_V x :: st) ws := fun H locs ls hP hD hS hl => va_mmin C.1.1 C.1.2.1 (C.1.2.2.1.trans hl.1.symm) C.1.2.2.2.1 hlink hstat hini hcode hfr hlo hc hs d (by
  have e : (if hs_I y < hs_I x then hs_I y else hs_I x) = hs_I (min x y) := by
    by_cases h : y < x
    · rw [if_pos ((hs_lt hy hx).mpr h), Int.min_eq_right (by omega)]
    · rw [if_neg (fun z => h ((hs_lt hy hx).mp z)), Int.min_eq_left (by omega)]
  rw [e]; exact k H locs ls hP hD hS hl)

theorem hs_re {w w' wi : va_W} (pl : List Nat) (hpl : pl.map (fun i => w[i]?) = w'.map some) (hnd : va_nd pl = true) (k : hs_J p l e R s m args below meth c D A H0 nL cells slots Q pc lv st (w' ++ wi)) : hs_J p l e R s m args below meth c D A H0 nL cells slots Q pc lv st (w ++ wi) := fun H locs ls hP hD hS hl => by
  obtain ⟨h1, h2⟩ := hs_reP pl hpl hnd hP hD
  exact k H locs ls h1 h2 hS hl
theorem hs_re0 {w w' : va_W} (pl : List Nat) (hpl : pl.map (fun i => w[i]?) = w'.map some) (hnd : va_nd pl = true) (k : hs_J p l e R s m args below meth c D A H0 nL cells slots Q pc lv st w') : hs_J p l e R s m args below meth c D A H0 nL cells slots Q pc lv st w := fun H locs ls hP hD hS hl => by
  obtain ⟨h1, h2⟩ := hs_reP (wi := []) pl hpl hnd (by rw [List.append_nil]; exact hP) (by rw [List.append_nil]; exact hD)
  rw [List.append_nil] at h1 h2
  exact k H locs ls h1 h2 hS hl
theorem hs_lvs {lv' : List (Nat × Value)} (ks : List Nat) (hks : lv_pick lv ks = lv') (k : hs_J p l e R s m args below meth c D A H0 nL cells slots Q pc lv' st ws) : hs_J p l e R s m args below meth c D A H0 nL cells slots Q pc lv st ws := fun H locs ls hP hD hS hl => k H locs ls hP hD hS (lv_sub hl ks hks)
theorem hs_widen {cells' slots' : Nat} (h1 : cells ≤ cells') (h2 : slots ≤ slots') (k : hs_J p l e R s m args below meth c D A H0 nL cells' slots' Q pc lv st ws) : hs_J p l e R s m args below meth c D A H0 nL cells slots Q pc lv st ws := fun H locs ls hP hD hS hl => W.widen h1 h2 (k H locs ls hP hD hS hl)
theorem hs_cast {pc' : Nat} {lv' : List (Nat × Value)} {st' : List Value} {ws' : va_W} (k : hs_J p l e R s m args below meth c D A H0 nL cells slots Q pc' lv' st' ws') (h1 : pc' = pc) (h2 : lv' = lv) (h3 : st' = st) (h4 : ws' = ws) : hs_J p l e R s m args below meth c D A H0 nL cells slots Q pc lv st ws := by subst h1; subst h2; subst h3; subst h4; exact k
end JL
/-- A CONTRACT that answers an int: from any heap that holds the cells win; behind it the cells out u, and post answer u -/
def hs_M (l : Launch) (D : va_G) (cI cO : ClassId) (y : MethodName) (wsy : List Cond) (rm : Room) (av : List Value) (win : va_W) {S : Type} (post : Int32 → S → Prop) (out : S → va_W) (mc ms : Nat) : Prop :=
  ∀ sz : Nat, Met l y wsy rm (va_Pc av (fun U => U.heap.size = sz ∧ va_P D vwCl win U.heap ∧ (va_K D vwCl (hs_t cI cO) U ∧ hs_N U) ∧ va_D (fun _ => True) win)) (va_Qi post (fun u t => va_P D vwCl (out u) t.heap ∧ va_D (va_A win sz) (out u)) (va_A win sz)) mc ms (va_A win sz)
def hs_Mv (l : Launch) (D : va_G) (cI cO : ClassId) (y : MethodName) (wsy : List Cond) (rm : Room) (av : List Value) (win : va_W) {S : Type} (post : S → Prop) (out : S → va_W) (mc ms : Nat) : Prop :=
  ∀ sz : Nat, Met l y wsy rm (va_Pc av (fun U => U.heap.size = sz ∧ va_P D vwCl win U.heap ∧ (va_K D vwCl (hs_t cI cO) U ∧ hs_N U) ∧ va_D (fun _ => True) win)) (va_Qv post (fun u t => va_P D vwCl (out u) t.heap ∧ va_D (va_A win sz) (out u)) (va_A win sz)) mc ms (va_A win sz)
theorem hs_blind {sz : Nat} {D : va_G} {cI cO : ClassId} {av : List Value} {win : va_W} : FrameBlind (va_Pc av (fun U => U.heap.size = sz ∧ va_P D vwCl win U.heap ∧ (va_K D vwCl (hs_t cI cO) U ∧ hs_N U) ∧ va_D (fun _ => True) win)) := fun a U g mk q => by
  obtain ⟨q0, q1, qP, ⟨qK, qN⟩, qD⟩ := q
  exact ⟨q0, q1, qP, ⟨va_K.moved (u := U) (U := U.calling g mk a) (Vm.Alike.refl U.vm) qK, hs_N.same (s := U) (U := U.calling g mk a) rfl qN⟩, qD⟩
section JE
variable {l : Launch} {D : va_G} {cI cO : ClassId} {y : MethodName} {wsy ws' : List Cond} {rm : Room} {av : List Value} {win : va_W} {S : Type} {out : S → va_W} {mc ms : Nat} {cc : ByteArray} {maxL : Nat}
theorem hs_enter {post : Int32 → S → Prop} {ret : FieldType} (hy : plainName y.cls = true) (hw : wsy = Cond.code y cc maxL (some ret) :: ws') (hlen : (lg_sl av).length ≤ maxL)
    (body : ∀ (p : Program) (e : Env) (s : State) (m : MethodId) (args : Array Value) (below : List Frame) (meth : Method) (c : Code) (A : Nat → Prop) (H0 : Heap) (Q : State → Prop), hs_C p s m args c cc maxL wsy y.cls D cI cO A H0 →
      (∀ (pc : Nat) (lv : List (Nat × Value)) (v : Int32) (u : S), post v u → decode cc pc = .ok (.ireturn, 1) → narrow ret (.int v) = .int v → hs_J p l e rm s m args below meth c D A H0 maxL mc ms Q pc lv [.int v] (out u)) →
      hs_J p l e rm s m args below meth c D A H0 maxL 0 0 Q 0 (lv_args 0 av) [] win) : hs_M l D cI cO y wsy rm av win post out mc ms := by
  intro sz
  refine Met.ofW (cc := cc) (maxL := maxL) (ret := some ret) hy hw ?_
  intro p e s m args below meth c s₁ B hml hv
  obtain ⟨rfl, hsz, hP, ⟨hK, hN⟩, hD0⟩ := hv
  subst hsz
  have hts := atoms_spec (ws := wsy) B.pre
  have hown : s.vm.findClass y.cls = some m.cls := findClass_of_methodNamed B.named
  have hl := lv_entry av (n := maxL) hlen
  have hr := B.returns
  have hlk := B.notSynchronized
  rw [lg_entry_eq]
  exact body p e s m av.toArray below meth c (va_A win s.heap.size) s.heap _ ⟨⟨B.exec, B.bytes, hml, hown, hts⟩, hK, hN, fun q h => Or.inr h⟩ (fun pc lv v u hp d hn H locs ls hP hD hS hl => W.zret (v := v) B.exec B.bytes hr hn (fun t ht hW => ⟨⟨v, u, rfl, hp, by rw [ht]; exact hP, hD⟩, hS.F ht⟩) hS.2.2 d hlk) s.heap [] _ hP (hD0.self (sz := s.heap.size)) va_S.rf hl
theorem hs_enterV {post : S → Prop} (hy : plainName y.cls = true) (hw : wsy = Cond.code y cc maxL none :: ws') (hlen : (lg_sl av).length ≤ maxL)
    (body : ∀ (p : Program) (e : Env) (s : State) (m : MethodId) (args : Array Value) (below : List Frame) (meth : Method) (c : Code) (A : Nat → Prop) (H0 : Heap) (Q : State → Prop), hs_C p s m args c cc maxL wsy y.cls D cI cO A H0 → meth.name = y.name →
      (∀ (pc : Nat) (lv : List (Nat × Value)) (u : S), post u → decode cc pc = .ok (.return_, 1) → hs_J p l e rm s m args below meth c D A H0 maxL mc ms Q pc lv [] (out u)) →
      hs_J p l e rm s m args below meth c D A H0 maxL 0 0 Q 0 (lv_args 0 av) [] win) : hs_Mv l D cI cO y wsy rm av win post out mc ms := by
  intro sz
  refine Met.ofW (cc := cc) (maxL := maxL) (ret := none) hy hw ?_
  intro p e s m args below meth c s₁ B hml hv
  obtain ⟨rfl, hsz, hP, ⟨hK, hN⟩, hD0⟩ := hv
  subst hsz
  have hts := atoms_spec (ws := wsy) B.pre
  have hown : s.vm.findClass y.cls = some m.cls := findClass_of_methodNamed B.named
  have hl := lv_entry av (n := maxL) hlen
  have hr := B.returns
  have hlk := B.notSynchronized
  rw [lg_entry_eq]
  exact body p e s m av.toArray below meth c (va_A win s.heap.size) s.heap _ ⟨⟨B.exec, B.bytes, hml, hown, hts⟩, hK, hN, fun q h => Or.inr h⟩ (name_of_methodNamed B.named B.method).1 (fun pc lv u hp d H locs ls hP hD hS hl => W.vret B.exec B.bytes hr (fun t ht hW => ⟨⟨u, rfl, hp, by rw [ht]; exact hP, hD⟩, hS.F ht⟩) hS.2.2 d hlk) s.heap [] _ hP (hD0.self (sz := s.heap.size)) va_S.rf hl
end JE

section JC
variable {p : Program} {l : Launch} {e : Env} {R : Room} {s : State} {m : MethodId} {args : Array Value} {below : List Frame} {meth : Method} {c : Code} {D : va_G} {A : Nat → Prop} {H0 : Heap} {nL cells slots : Nat} {Q : State → Prop} {pc : Nat} {lv : List (Nat × Value)} {st : List Value}
variable {cc : ByteArray} {Ts : List Cond} {own : String} {cI cO : ClassId}
variable {y : MethodName} {wsy : List Cond} {rm : Room} {win wr : va_W} {S : Type} {out : S → va_W} {mc ms n index maxL : Nat} {bytes : ByteArray} {As rest : List Value} {b : Nat}
theorem hs_AF (C : hs_C p s m args c cc nL Ts own D cI cO A H0) {H : Heap} {locs : List Loc} (hD : va_D A (win ++ wr)) (hS : va_S A H0 H locs) : ∀ q, va_A win H.size q → A q := by
  intro q h
  rcases h with ⟨k, e, h⟩ | h
  · exact (hs_Dm.mp hD).2 (q, e) (List.mem_append_left _ (List.mem_of_getElem? h))
  · exact C.2.2.2 q (Nat.le_trans hS.1 h)
theorem hs_pc (C : hs_C p s m args c cc nL Ts own D cI cO A H0) {H : Heap} {av : List Value} (hP : va_P D vwCl (win ++ wr) H) (hD : va_D A (win ++ wr)) : ∀ U : State, U.heap = H → s.WarmedH U.vm → va_Pc av (fun U => U.heap.size = H.size ∧ va_P D vwCl win U.heap ∧ (va_K D vwCl (hs_t cI cO) U ∧ hs_N U) ∧ va_D (fun _ => True) win) av.toArray U := fun U hU hW =>
  ⟨rfl, by rw [hU], by rw [hU]; exact hs_PL hP, ⟨va_K.moved hW.alike C.2.1, hs_N.warm hW C.2.2.1⟩, (hs_DL hD).weaken (fun _ _ _ _ => trivial)⟩

theorem hs_callVi {post : Int32 → S → Prop} {ty : FieldType} (C : hs_C p s m args c cc nL Ts own D cI cO A H0) (hM : hs_M l D cI cO y wsy rm (.ref b :: As) win post out mc ms) {Cn : String} {q : vw_C} {fs : List Value} (ci q0 : Nat) (hcl : vwCl[ci]? = some q) (hq : q.1 = Cn) (hrv : win[q0]? = some (b, .inr (ci, fs))) (cw : CallW R s args own Cn index y bytes maxL (some ty) wsy rm mc ms n) (hn : As.length = n) (hst : st = As.reverse ++ .ref b :: rest) (hro : (rest.map fun v => v.category).sum ≤ 8) (d : decode cc pc = .ok (.invokevirtual index, 3)) (hf : cells + mc ≤ R.cells ∧ slots + ms ≤ R.slots) (kk : ∀ (r : Int32) (u : S), post r u → hs_J p l e R s m args below meth c D A H0 nL (cells + mc) (slots + ms) Q (pc + 3) lv (.int r :: rest) (out u ++ wr)) : hs_J p l e R s m args below meth c D A H0 nL cells slots Q pc lv st (win ++ wr) := fun H locs ls hP hD hS hl => by
  have hFc := hs_AF C hD hS
  refine va_calli (va_runV (As := As) (rest := rest) C.1 (hM H.size) cw ⟨hs_blind, by rw [← hq]; exact va_recv C.2.1 (hs_PL hP) hcl hrv, hs_pc C hP hD⟩ rfl hn hl.1 hst (lv_room hro) d hf) hS (fun q _ h => hFc q h) hFc (fun r u t H1 locs1 ht hvm hp hB hz hk hS1 => ?_)
  obtain ⟨hP1, hD1⟩ := hB
  rw [ht] at hP1
  obtain ⟨h1, h2⟩ := hs_join hP hD hk hFc hP1 hD1
  exact kk r u hp H1 locs1 ls h1 h2 hS1 hl
theorem hs_callVv {post : S → Prop} (C : hs_C p s m args c cc nL Ts own D cI cO A H0) (hM : hs_Mv l D cI cO y wsy rm (.ref b :: As) win post out mc ms) {Cn : String} {q : vw_C} {fs : List Value} (ci q0 : Nat) (hcl : vwCl[ci]? = some q) (hq : q.1 = Cn) (hrv : win[q0]? = some (b, .inr (ci, fs))) (cw : CallW R s args own Cn index y bytes maxL none wsy rm mc ms n) (hn : As.length = n) (hst : st = As.reverse ++ .ref b :: rest) (hro : (rest.map fun v => v.category).sum ≤ 8) (d : decode cc pc = .ok (.invokevirtual index, 3)) (hf : cells + mc ≤ R.cells ∧ slots + ms ≤ R.slots) (kk : ∀ (u : S), post u → hs_J p l e R s m args below meth c D A H0 nL (cells + mc) (slots + ms) Q (pc + 3) lv rest (out u ++ wr)) : hs_J p l e R s m args below meth c D A H0 nL cells slots Q pc lv st (win ++ wr) := fun H locs ls hP hD hS hl => by
  have hFc := hs_AF C hD hS
  refine va_callv (va_runV (As := As) (rest := rest) C.1 (hM H.size) cw ⟨hs_blind, by rw [← hq]; exact va_recv C.2.1 (hs_PL hP) hcl hrv, hs_pc C hP hD⟩ rfl hn hl.1 hst (lv_room hro) d hf) hS (fun q _ h => hFc q h) hFc (fun u t H1 locs1 ht hvm hp hB hz hk hS1 => ?_)
  obtain ⟨hP1, hD1⟩ := hB
  rw [ht] at hP1
  obtain ⟨h1, h2⟩ := hs_join hP hD hk hFc hP1 hD1
  exact kk u hp H1 locs1 ls h1 h2 hS1 hl
theorem hs_callSi {post : Int32 → S → Prop} {ty : FieldType} (C : hs_C p s m args c cc nL Ts own D cI cO A H0) (hM : hs_M l D cI cO y wsy rm As win post out mc ms) (cw : CallB R s args own index y bytes maxL (some ty) wsy rm mc ms n ∧ (Cond.static y).before args s = true) (hn : As.length = n) (hst : st = As.reverse ++ rest) (hro : (rest.map fun v => v.category).sum ≤ 8) (d : decode cc pc = .ok (.invokestatic index, 3)) (hf : cells + mc ≤ R.cells ∧ slots + ms ≤ R.slots) (kk : ∀ (r : Int32) (u : S), post r u → hs_J p l e R s m args below meth c D A H0 nL (cells + mc) (slots + ms) Q (pc + 3) lv (.int r :: rest) (out u ++ wr)) : hs_J p l e R s m args below meth c D A H0 nL cells slots Q pc lv st (win ++ wr) := fun H locs ls hP hD hS hl => by
  have hFc := hs_AF C hD hS
  refine va_calli (va_runS (As := As) (rest := rest) C.1 (hM H.size) cw ⟨hs_blind, hs_pc C hP hD⟩ rfl hn hl.1 hst (lv_room hro) d hf) hS (fun q _ h => hFc q h) hFc (fun r u t H1 locs1 ht hvm hp hB hz hk hS1 => ?_)
  obtain ⟨hP1, hD1⟩ := hB
  rw [ht] at hP1
  obtain ⟨h1, h2⟩ := hs_join hP hD hk hFc hP1 hD1
  exact kk r u hp H1 locs1 ls h1 h2 hS1 hl
theorem hs_callSv {post : S → Prop} (C : hs_C p s m args c cc nL Ts own D cI cO A H0) (hM : hs_Mv l D cI cO y wsy rm As win post out mc ms) (cw : CallB R s args own index y bytes maxL none wsy rm mc ms n ∧ (Cond.static y).before args s = true) (hn : As.length = n) (hst : st = As.reverse ++ rest) (hro : (rest.map fun v => v.category).sum ≤ 8) (d : decode cc pc = .ok (.invokestatic index, 3)) (hf : cells + mc ≤ R.cells ∧ slots + ms ≤ R.slots) (kk : ∀ (u : S), post u → hs_J p l e R s m args below meth c D A H0 nL (cells + mc) (slots + ms) Q (pc + 3) lv rest (out u ++ wr)) : hs_J p l e R s m args below meth c D A H0 nL cells slots Q pc lv st (win ++ wr) := fun H locs ls hP hD hS hl => by
  have hFc := hs_AF C hD hS
  refine va_callv (va_runS (As := As) (rest := rest) C.1 (hM H.size) cw ⟨hs_blind, hs_pc C hP hD⟩ rfl hn hl.1 hst (lv_room hro) d hf) hS (fun q _ h => hFc q h) hFc (fun u t H1 locs1 ht hvm hp hB hz hk hS1 => ?_)
  obtain ⟨hP1, hD1⟩ := hB
  rw [ht] at hP1
  obtain ⟨h1, h2⟩ := hs_join hP hD hk hFc hP1 hD1
  exact kk u hp H1 locs1 ls h1 h2 hS1 hl
theorem hs_callSNi {post : Int32 → S → Prop} {ty : FieldType}  {host : String}(C : hs_C p s m args c cc nL Ts own D cI cO A H0) (hM : hs_M l D cI cO y wsy rm As win post out mc ms) (cw : va_CN R s args own index y host bytes maxL (some ty) wsy rm mc ms n ∧ (Cond.static y).before args s = true ∧ True) (hn : As.length = n) (hst : st = As.reverse ++ rest) (hro : (rest.map fun v => v.category).sum ≤ 8) (d : decode cc pc = .ok (.invokestatic index, 3)) (hf : cells + mc ≤ R.cells ∧ slots + ms ≤ R.slots) (kk : ∀ (r : Int32) (u : S), post r u → hs_J p l e R s m args below meth c D A H0 nL (cells + mc) (slots + ms) Q (pc + 3) lv (.int r :: rest) (out u ++ wr)) : hs_J p l e R s m args below meth c D A H0 nL cells slots Q pc lv st (win ++ wr) := fun H locs ls hP hD hS hl => by
  have hFc := hs_AF C hD hS
  refine va_calli (va_runSN (As := As) (rest := rest) C.1 (hM H.size) cw ⟨hs_blind, hs_pc C hP hD⟩ rfl hn hl.1 hst (lv_room hro) d hf) hS (fun q _ h => hFc q h) hFc (fun r u t H1 locs1 ht hvm hp hB hz hk hS1 => ?_)
  obtain ⟨hP1, hD1⟩ := hB
  rw [ht] at hP1
  obtain ⟨h1, h2⟩ := hs_join hP hD hk hFc hP1 hD1
  exact kk r u hp H1 locs1 ls h1 h2 hS1 hl
theorem hs_callSNv {post : S → Prop}  {host : String}(C : hs_C p s m args c cc nL Ts own D cI cO A H0) (hM : hs_Mv l D cI cO y wsy rm As win post out mc ms) (cw : va_CN R s args own index y host bytes maxL none wsy rm mc ms n ∧ (Cond.static y).before args s = true ∧ True) (hn : As.length = n) (hst : st = As.reverse ++ rest) (hro : (rest.map fun v => v.category).sum ≤ 8) (d : decode cc pc = .ok (.invokestatic index, 3)) (hf : cells + mc ≤ R.cells ∧ slots + ms ≤ R.slots) (kk : ∀ (u : S), post u → hs_J p l e R s m args below meth c D A H0 nL (cells + mc) (slots + ms) Q (pc + 3) lv rest (out u ++ wr)) : hs_J p l e R s m args below meth c D A H0 nL cells slots Q pc lv st (win ++ wr) := fun H locs ls hP hD hS hl => by
  have hFc := hs_AF C hD hS
  refine va_callv (va_runSN (As := As) (rest := rest) C.1 (hM H.size) cw ⟨hs_blind, hs_pc C hP hD⟩ rfl hn hl.1 hst (lv_room hro) d hf) hS (fun q _ h => hFc q h) hFc (fun u t H1 locs1 ht hvm hp hB hz hk hS1 => ?_)
  obtain ⟨hP1, hD1⟩ := hB
  rw [ht] at hP1
  obtain ⟨h1, h2⟩ := hs_join hP hD hk hFc hP1 hD1
  exact kk u hp H1 locs1 ls h1 h2 hS1 hl
theorem hs_callIv {post : S → Prop} (C : hs_C p s m args c cc nL Ts own D cI cO A H0) (hM : hs_Mv l D cI cO y wsy rm (.ref b :: As) win post out mc ms) (cw : CallB R s args own index y bytes maxL none wsy rm mc ms n ∧ y.name = "<init>" ∧ (Cond.instanceMethod y).before args s = true) (hn : As.length = n) (hst : st = As.reverse ++ .ref b :: rest) (hro : (rest.map fun v => v.category).sum ≤ 8) (d : decode cc pc = .ok (.invokespecial index, 3)) (hf : cells + mc ≤ R.cells ∧ slots + ms ≤ R.slots) (kk : ∀ (u : S), post u → hs_J p l e R s m args below meth c D A H0 nL (cells + mc) (slots + ms) Q (pc + 3) lv rest (out u ++ wr)) : hs_J p l e R s m args below meth c D A H0 nL cells slots Q pc lv st (win ++ wr) := fun H locs ls hP hD hS hl => by
  have hFc := hs_AF C hD hS
  refine va_callv (va_runI (As := As) (rest := rest) C.1 (hM H.size) cw ⟨hs_blind, hs_pc C hP hD⟩ rfl hn hl.1 hst (lv_room hro) d hf) hS (fun q _ h => hFc q h) hFc (fun u t H1 locs1 ht hvm hp hB hz hk hS1 => ?_)
  obtain ⟨hP1, hD1⟩ := hB
  rw [ht] at hP1
  obtain ⟨h1, h2⟩ := hs_join hP hD hk hFc hP1 hD1
  exact kk u hp H1 locs1 ls h1 h2 hS1 hl
theorem hs_callINv {post : S → Prop}  {host : String}(C : hs_C p s m args c cc nL Ts own D cI cO A H0) (hM : hs_Mv l D cI cO y wsy rm (.ref b :: As) win post out mc ms) (cw : va_CN R s args own index y host bytes maxL none wsy rm mc ms n ∧ y.name = "<init>" ∧ (Cond.instanceMethod y).before args s = true) (hn : As.length = n) (hst : st = As.reverse ++ .ref b :: rest) (hro : (rest.map fun v => v.category).sum ≤ 8) (d : decode cc pc = .ok (.invokespecial index, 3)) (hf : cells + mc ≤ R.cells ∧ slots + ms ≤ R.slots) (kk : ∀ (u : S), post u → hs_J p l e R s m args below meth c D A H0 nL (cells + mc) (slots + ms) Q (pc + 3) lv rest (out u ++ wr)) : hs_J p l e R s m args below meth c D A H0 nL cells slots Q pc lv st (win ++ wr) := fun H locs ls hP hD hS hl => by
  have hFc := hs_AF C hD hS
  refine va_callv (va_runIN (As := As) (rest := rest) C.1 (hM H.size) cw ⟨hs_blind, hs_pc C hP hD⟩ rfl hn hl.1 hst (lv_room hro) d hf) hS (fun q _ h => hFc q h) hFc (fun u t H1 locs1 ht hvm hp hB hz hk hS1 => ?_)
  obtain ⟨hP1, hD1⟩ := hB
  rw [ht] at hP1
  obtain ⟨h1, h2⟩ := hs_join hP hD hk hFc hP1 hD1
  exact kk u hp H1 locs1 ls h1 h2 hS1 hl
end JC
end
section
/-! PURE: loops as functions over whole numbers -/
def hs_for {σ : Type} (f : Int → σ → σ) : Nat → Int → σ → σ
  | 0, _, x => x
  | n + 1, i, x => hs_for f n (i + 1) (f i x)
/-- for (i; i < e; i++) x = f i x -/
def hs_up {σ : Type} (f : Int → σ → σ) (i e : Int) (x : σ) : σ := hs_for f (e - i).toNat i x
theorem hs_up_step {σ : Type} {f : Int → σ → σ} {i e : Int} {x : σ} (h : i < e) : hs_up f i e x = hs_up f (i + 1) e (f i x) := by
  unfold hs_up
  rw [show (e - i).toNat = (e - (i + 1)).toNat + 1 by omega]
  rfl
theorem hs_up_done {σ : Type} {f : Int → σ → σ} {i e : Int} {x : σ} (h : e ≤ i) : hs_up f i e x = x := by
  unfold hs_up
  rw [show (e - i).toNat = 0 by omega]
  rfl
def hs_forD {σ : Type} (f : Int → σ → σ) : Nat → Int → σ → σ
  | 0, _, x => x
  | n + 1, i, x => hs_forD f n (i + (-1)) (f i x)
/-- for (i; i >= e; i--) x = f i x -/
def hs_dn {σ : Type} (f : Int → σ → σ) (i e : Int) (x : σ) : σ := hs_forD f (i + 1 - e).toNat i x
theorem hs_dn_step {σ : Type} {f : Int → σ → σ} {i e : Int} {x : σ} (h : e ≤ i) : hs_dn f i e x = hs_dn f (i + (-1)) e (f i x) := by
  unfold hs_dn
  rw [show (i + 1 - e).toNat = (i + (-1) + 1 - e).toNat + 1 by omega]
  rfl
theorem hs_dn_done {σ : Type} {f : Int → σ → σ} {i e : Int} {x : σ} (h : i < e) : hs_dn f i e x = x := by
  unfold hs_dn
  rw [show (i + 1 - e).toNat = 0 by omega]
  rfl
/-- while (P x) x = f x, with fuel -/
def hs_wh {σ : Type} (P : σ → Prop) [DecidablePred P] (f : σ → σ) : Nat → σ → σ
  | 0, x => x
  | n + 1, x => if P x then hs_wh P f n (f x) else x
theorem hs_wh_step {σ : Type} {P : σ → Prop} [DecidablePred P] {f : σ → σ} {n : Nat} {x : σ} (h : P x) : hs_wh P f (n + 1) x = hs_wh P f n (f x) := by
  show (if P x then hs_wh P f n (f x) else x) = _
  rw [if_pos h]
theorem hs_wh_done {σ : Type} {P : σ → Prop} [DecidablePred P] {f : σ → σ} {n : Nat} {x : σ} (h : ¬ P x) : hs_wh P f n x = x := by
  cases n with
  | zero => rfl
  | succ n =>
    show (if P x then hs_wh P f n (f x) else x) = _
    rw [if_neg h]
/-- fuel beyond a measure doesn't matter -/
theorem hs_wh_fuel {σ : Type} {P : σ → Prop} [DecidablePred P] {f : σ → σ} (Z : σ → Prop) (μ : σ → Int) (hZ : ∀ x, Z x → P x → Z (f x) ∧ μ (f x) < μ x ∧ 0 ≤ μ (f x)) : ∀ (n m : Nat) (x : σ), Z x → μ x < n → μ x < m → 0 ≤ μ x → hs_wh P f n x = hs_wh P f m x := by
  intro n
  induction n with
  | zero => intro m x _ h _ h0; omega
  | succ n ih =>
    intro m x hx h1 h2 h0
    by_cases hP : P x
    · obtain ⟨a, b, c⟩ := hZ x hx hP
      cases m with
      | zero => omega
      | succ m => rw [hs_wh_step hP, hs_wh_step hP]; exact ih m (f x) a (by omega) (by omega) c
    · rw [hs_wh_done hP, hs_wh_done hP]
def hs_fi (P : Int → Prop) [DecidablePred P] : Nat → Int → Int
  | 0, _ => -9
  | n + 1, i => if P i then i else hs_fi P n (i + 1)
/-- the first i from i on, below e, with P, or NONE -/
def hs_fu1 (P : Int → Prop) [DecidablePred P] (i e : Int) : Int := hs_fi P (e - i).toNat i
theorem hs_fu1_step {P : Int → Prop} [DecidablePred P] {i e : Int} (h : i < e) : hs_fu1 P i e = if P i then i else hs_fu1 P (i + 1) e := by
  unfold hs_fu1
  rw [show (e - i).toNat = (e - (i + 1)).toNat + 1 by omega]
  rfl
theorem hs_fu1_done {P : Int → Prop} [DecidablePred P] {i e : Int} (h : e ≤ i) : hs_fu1 P i e = -9 := by
  unfold hs_fu1
  rw [show (e - i).toNat = 0 by omega]
  rfl
def hs_fiD (P : Int → Prop) [DecidablePred P] : Nat → Int → Int
  | 0, _ => -9
  | n + 1, i => if P i then i else hs_fiD P n (i + (-1))
/-- the first i from i on downwards to 0, with P, or NONE -/
def hs_fd1 (P : Int → Prop) [DecidablePred P] (i : Int) : Int := hs_fiD P (i + 1).toNat i
theorem hs_fd1_step {P : Int → Prop} [DecidablePred P] {i : Int} (h : 0 ≤ i) : hs_fd1 P i = if P i then i else hs_fd1 P (i + (-1)) := by
  unfold hs_fd1
  rw [show (i + 1).toNat = (i + (-1) + 1).toNat + 1 by omega]
  rfl
theorem hs_fd1_done {P : Int → Prop} [DecidablePred P] {i : Int} (h : i < 0) : hs_fd1 P i = -9 := by
  unfold hs_fd1
  rw [show (i + 1).toNat = 0 by omega]
  rfl
theorem hs_fu1_range {P : Int → Prop} [DecidablePred P] {e : Int} : ∀ (n : Nat) (i : Int), (e - i).toNat ≤ n → (hs_fu1 P i e = -9 ∧ ∀ j, i ≤ j → j < e → ¬ P j) ∨ (i ≤ hs_fu1 P i e ∧ hs_fu1 P i e < e ∧ P (hs_fu1 P i e) ∧ ∀ j, i ≤ j → j < hs_fu1 P i e → ¬ P j) := by
  intro n
  induction n with
  | zero => intro i h; exact Or.inl ⟨hs_fu1_done (by omega), fun j h1 h2 => by omega⟩
  | succ n ih =>
    intro i h
    by_cases hi : i < e
    · by_cases hP : P i
      · rw [hs_fu1_step hi, if_pos hP]; exact Or.inr ⟨by omega, hi, hP, fun j h1 h2 => by omega⟩
      · rw [hs_fu1_step hi, if_neg hP]
        rcases ih (i + 1) (by omega) with ⟨a, b⟩ | ⟨a, b, c, d⟩
        · exact Or.inl ⟨a, fun j h1 h2 => by
            by_cases hj : j = i
            · rw [hj]; exact hP
            · exact b j (by omega) h2⟩
        · exact Or.inr ⟨by omega, b, c, fun j h1 h2 => by
            by_cases hj : j = i
            · rw [hj]; exact hP
            · exact d j (by omega) h2⟩
    · exact Or.inl ⟨hs_fu1_done (by omega), fun j h1 h2 => by omega⟩
theorem hs_fd1_range {P : Int → Prop} [DecidablePred P] : ∀ (n : Nat) (i : Int), (i + 1).toNat ≤ n → (hs_fd1 P i = -9 ∧ ∀ j, 0 ≤ j → j ≤ i → ¬ P j) ∨ (0 ≤ hs_fd1 P i ∧ hs_fd1 P i ≤ i ∧ P (hs_fd1 P i) ∧ ∀ j, hs_fd1 P i < j → j ≤ i → ¬ P j) := by
  intro n
  induction n with
  | zero => intro i h; exact Or.inl ⟨hs_fd1_done (by omega), fun j h1 h2 => by omega⟩
  | succ n ih =>
    intro i h
    by_cases hi : 0 ≤ i
    · by_cases hP : P i
      · rw [hs_fd1_step hi, if_pos hP]; exact Or.inr ⟨hi, by omega, hP, fun j h1 h2 => by omega⟩
      · rw [hs_fd1_step hi, if_neg hP]
        rcases ih (i + (-1)) (by omega) with ⟨a, b⟩ | ⟨a, b, c, d⟩
        · exact Or.inl ⟨a, fun j h1 h2 => by
            by_cases hj : j = i
            · rw [hj]; exact hP
            · exact b j h1 (by omega)⟩
        · exact Or.inr ⟨a, by omega, c, fun j h1 h2 => by
            by_cases hj : j = i
            · rw [hj]; exact hP
            · exact d j h1 (by omega)⟩
    · exact Or.inl ⟨hs_fd1_done (by omega), fun j h1 h2 => by omega⟩
/-- an invariant of an upward loop -/
theorem hs_up_inv {σ : Type} {f : Int → σ → σ} (Z : Int → σ → Prop) {e : Int} : ∀ (n : Nat) (i : Int) (x : σ), (e - i).toNat ≤ n → i ≤ e → Z i x → (∀ j y, i ≤ j → j < e → Z j y → Z (j + 1) (f j y)) → Z e (hs_up f i e x) := by
  intro n
  induction n with
  | zero =>
    intro i x h hi hx _
    rw [hs_up_done (by omega)]
    rw [show e = i by omega]; exact hx
  | succ n ih =>
    intro i x h hi hx hs
    by_cases hlt : i < e
    · rw [hs_up_step hlt]
      exact ih (i + 1) (f i x) (by omega) (by omega) (hs i x (by omega) hlt hx) (fun j y h1 h2 => hs j y (by omega) h2)
    · rw [hs_up_done (by omega)]
      rw [show e = i by omega]; exact hx
/-- an upward loop that only counts on a place's value: its answer within a set -/
theorem hs_up_ind {σ : Type} {f : Int → σ → σ} (Z : σ → Prop) {i e : Int} {x : σ} (hx : Z x) (hs : ∀ j y, i ≤ j → j < e → Z y → Z (f j y)) : Z (hs_up f i e x) := by
  by_cases h : i ≤ e
  · exact hs_up_inv (fun _ y => Z y) _ i x (Nat.le_refl _) h hx (fun j y h1 h2 => hs j y h1 h2)
  · rw [hs_up_done (by omega)]; exact hx
theorem hs_up_congr {σ : Type} {f g : Int → σ → σ} {e : Int} : ∀ (n : Nat) (i : Int) (x : σ), (e - i).toNat ≤ n → (∀ j y, i ≤ j → j < e → f j y = g j y) → hs_up f i e x = hs_up g i e x := by
  intro n
  induction n with
  | zero => intro i x h _; rw [hs_up_done (by omega), hs_up_done (by omega)]
  | succ n ih =>
    intro i x h hc
    by_cases hlt : i < e
    · rw [hs_up_step hlt, hs_up_step hlt, hc i x (by omega) hlt]
      exact ih (i + 1) _ (by omega) (fun j y h1 h2 => hc j y (by omega) h2)
    · rw [hs_up_done (by omega), hs_up_done (by omega)]
/-- the last round of an upward loop -/
theorem hs_up_last {σ : Type} {f : Int → σ → σ} {e : Int} : ∀ (n : Nat) (i : Int) (x : σ), (e - i).toNat ≤ n → i ≤ e → hs_up f i (e + 1) x = f e (hs_up f i e x) := by
  intro n
  induction n with
  | zero =>
    intro i x h hi
    have he : i = e := by omega
    subst he
    rw [hs_up_step (by omega), hs_up_done (by omega), hs_up_done (by omega)]
  | succ n ih =>
    intro i x h hi
    by_cases hlt : i < e
    · rw [hs_up_step (show i < e + 1 by omega), hs_up_step hlt]
      exact ih (i + 1) _ (by omega) (by omega)
    · have he : i = e := by omega
      subst he
      rw [hs_up_step (by omega), hs_up_done (by omega), hs_up_done (by omega)]

/-! the class's own functions: HistogramStairs$Columns and the statics -/
def pu_sum (g : Int → Int) (a b : Int) : Int := hs_up (fun i x => x + g i) a (b + 1) 0
def pu_ll (g : Int → Int) (a b : Int) : Int := hs_up (fun i x => if g i < g x then i else x) (a + 1) (b + 1) a
def pu_lg (g : Int → Int) (a b : Int) : Int := hs_up (fun i x => if g i > g x then i else x) (a + 1) (b + 1) a
theorem pu_ll_rg (g : Int → Int) {a b : Int} (h : a ≤ b) : a ≤ pu_ll g a b ∧ pu_ll g a b ≤ b := by
  unfold pu_ll
  refine hs_up_ind (fun x => a ≤ x ∧ x ≤ b) (by omega) (fun j y h1 h2 hy => ?_)
  by_cases hc : g j < g y
  · simp only [if_pos hc]; omega
  · simp only [if_neg hc]; omega
theorem pu_lg_rg (g : Int → Int) {a b : Int} (h : a ≤ b) : a ≤ pu_lg g a b ∧ pu_lg g a b ≤ b := by
  unfold pu_lg
  refine hs_up_ind (fun x => a ≤ x ∧ x ≤ b) (by omega) (fun j y h1 h2 hy => ?_)
  by_cases hc : g j > g y
  · simp only [if_pos hc]; omega
  · simp only [if_neg hc]; omega
def pu_clamp (z : Int) : Int := max 0 (min z 50)
def pu_lift (g : Int → Int) (a b d : Int) : Int × (Int → Int) := hs_up (fun i x => if max 0 (min (x.2 i + d) 50) = x.2 i then x else (x.1 + 1, hs_u x.2 i (max 0 (min (x.2 i + d) 50)))) a (b + 1) (0, g)
def pu_ex (g : Int → Int) (i j : Int) : Int → Int := hs_u (hs_u g i (g j)) j (g i)
theorem pu_ex_bd {g : Int → Int} {i j lo hi : Int} (hg : ∀ k, lo ≤ g k ∧ g k ≤ hi) : ∀ k, lo ≤ pu_ex g i j k ∧ pu_ex g i j k ≤ hi := hs_u_bd (hs_u_bd hg (hg j)) (hg i)
def pu_mir (g : Int → Int) (a b : Int) : Int × (Int → Int) := hs_up (fun i x => if x.2 i = x.2 (a + b - i) then x else (x.1 + 2, pu_ex x.2 i (a + b - i))) a ((a + b + 1) / 2) (0, g)
abbrev pu_w (u x y : Int) : Prop := (u ≠ 0 ∧ y < x) ∨ (u = 0 ∧ x < y)
abbrev pu_insP (a u : Int) : Int × Int × (Int → Int) → Prop := fun x => a < x.1 ∧ pu_w u (x.2.2 (x.1 - 1)) (x.2.2 x.1)
def pu_insF : Int × Int × (Int → Int) → Int × Int × (Int → Int) := fun x => (x.1 + (-1), x.2.1 + 1, pu_ex x.2.2 (x.1 - 1) x.1)
def pu_ins (a u i n : Int) (g : Int → Int) : Int × Int × (Int → Int) := hs_wh (pu_insP a u) pu_insF ((i - a).toNat + 1) (i, n, g)
def pu_arr (g : Int → Int) (a b u : Int) : Int × (Int → Int) := hs_up (fun i x => (pu_ins a u i x.1 x.2).2) (a + 1) (b + 1) (0, g)
def pu_gh (g : Int → Int) (n : Int) : Int := if n = 0 then 0 else g (pu_lg g 0 (n - 1))
def pu_seenL (g : Int → Int) (n : Int) : Int × Int := hs_up (fun q x => if g q ≤ x.2 then x else (x.1 + 1, g q)) 0 n (0, -1)
def pu_seenR (g : Int → Int) (n : Int) : Int × Int := hs_up (fun q x => if g (n - 1 - q) ≤ x.2 then x else (x.1 + 1, g (n - 1 - q))) 0 n (0, -1)
def pu_rises (g : Int → Int) (n : Int) : Int × Int := hs_up (fun i x => (x.1 + max 0 (g i - x.2), g i)) 0 n (0, 0)
def pu_sl (g : Int → Int) (i : Int) : Int := hs_fd1 (fun j => g j < g i) (i - 1)
def pu_sr (g : Int → Int) (n i : Int) : Int := hs_fu1 (fun j => g j < g i) (i + 1) n
def pu_gl (g : Int → Int) (i : Int) : Int := hs_fd1 (fun j => g j > g i) (i - 1)
def pu_gr (g : Int → Int) (n i : Int) : Int := hs_fu1 (fun j => g j > g i) (i + 1) n
theorem pu_sl_rg (g : Int → Int) (i : Int) : pu_sl g i = -9 ∨ (0 ≤ pu_sl g i ∧ pu_sl g i ≤ i - 1) := by
  rcases hs_fd1_range (P := fun j => g j < g i) _ (i - 1) (Nat.le_refl _) with h | h
  · exact Or.inl h.1
  · exact Or.inr ⟨h.1, h.2.1⟩
theorem pu_sr_rg (g : Int → Int) (n i : Int) : pu_sr g n i = -9 ∨ (i + 1 ≤ pu_sr g n i ∧ pu_sr g n i < n) := by
  rcases hs_fu1_range (P := fun j => g j < g i) (e := n) _ (i + 1) (Nat.le_refl _) with h | h
  · exact Or.inl h.1
  · exact Or.inr ⟨h.1, h.2.1⟩
def pu_span (g : Int → Int) (n i : Int) : Int := (if pu_sr g n i = -9 then n - 1 else pu_sr g n i - 1) - (if pu_sl g i = -9 then 0 else pu_sl g i + 1) + 1
def pu_stl (g : Int → Int) (i : Int) : Int × Int := hs_dn (fun j x => if g j < g x.1 then (j, x.2 + 1) else x) (i - 1) 0 (i, 1)
abbrev pu_stP (k : Int) : Int × Int × Int → Prop := fun x => 0 ≤ x.1 ∧ x.2.1 < k
def pu_stF (g : Int → Int) : Int × Int × Int → Int × Int × Int := fun x => if g x.1 < g x.2.2 then (x.1 + (-1), x.2.1 + 1, x.1) else (x.1 + (-1), x.2.1, x.2.2)
def pu_st (g : Int → Int) (i k : Int) : Int × Int × Int := hs_wh (pu_stP k) (pu_stF g) ((i - 1 + 1).toNat + 1) (i - 1, 0, i)
def pu_sts (g : Int → Int) (i k : Int) : Int := if (pu_st g i k).2.1 = k then (pu_st g i k).2.2 else -9
def pu_fdx (g f : Int → Int) (n m : Int) : Int := hs_fu1 (fun i => ¬ g i = f i) 0 (min n m)
def pu_fd (g f : Int → Int) (n m : Int) : Int := if pu_fdx g f n m = -9 then (if n = m then -9 else min n m) else pu_fdx g f n m
/-! HistogramStairs$Water -/
theorem pu_mulb {x y : Int} (hx : -50 ≤ x ∧ x ≤ 50) (hy : -50 ≤ y ∧ y ≤ 50) : -2500 ≤ x * y ∧ x * y ≤ 2500 := by
  have h1 : 0 ≤ (50 - x) * (50 - y) := Int.mul_nonneg (by omega) (by omega)
  have h2 : 0 ≤ (50 + x) * (50 + y) := Int.mul_nonneg (by omega) (by omega)
  have h3 : 0 ≤ (50 - x) * (50 + y) := Int.mul_nonneg (by omega) (by omega)
  have h4 : 0 ≤ (50 + x) * (50 - y) := Int.mul_nonneg (by omega) (by omega)
  simp only [Int.sub_mul, Int.mul_sub, Int.add_mul, Int.mul_add] at h1 h2 h3 h4
  omega
def pu_wall (h : Int → Int) (a b : Int) (d : Int → Int) : Int × (Int → Int) := hs_up (fun i x => (max x.1 (h i), hs_u x.2 i (max x.1 (h i)))) a (b + 1) (0, d)
def pu_pr (h : Int → Int) (a b : Int) (d : Int → Int) : Int × Int × (Int → Int) := hs_dn (fun i x => (max x.1 (h i), x.2.1 + hs_u x.2.2 i (min (x.2.2 i) (max x.1 (h i)) - h i) i, hs_u x.2.2 i (min (x.2.2 i) (max x.1 (h i)) - h i))) b a (0, 0, d)
def pu_pour (h : Int → Int) (a b : Int) (d : Int → Int) : Int × (Int → Int) := (pu_pr h a b (pu_wall h a b d).2).2
abbrev pu_sp (d : Int → Int) (i : Int) : Prop := 0 < d i ∧ (i = 0 ∨ d (i - 1) = 0)
def pu_pc (d : Int → Int) (n : Int) : Int := hs_up (fun i x => if pu_sp d i then x + 1 else x) 0 n 0
def pu_psF (d : Int → Int) (q : Int) : Nat → Int → Int → Int
  | 0, _, _ => -9
  | f + 1, i, x => if pu_sp d i then (if x = q then i else pu_psF d q f (i + 1) (x + 1)) else pu_psF d q f (i + 1) x
def pu_psU (d : Int → Int) (q n i x : Int) : Int := pu_psF d q (n - i).toNat i x
theorem pu_psU_step {d : Int → Int} {q n i x : Int} (h : i < n) : pu_psU d q n i x = if pu_sp d i then (if x = q then i else pu_psU d q n (i + 1) (x + 1)) else pu_psU d q n (i + 1) x := by
  unfold pu_psU
  rw [show (n - i).toNat = (n - (i + 1)).toNat + 1 by omega]
  rfl
theorem pu_psU_done {d : Int → Int} {q n i x : Int} (h : n ≤ i) : pu_psU d q n i x = -9 := by
  unfold pu_psU
  rw [show (n - i).toNat = 0 by omega]
  rfl
def pu_ps (d : Int → Int) (q n : Int) : Int := pu_psU d q n 0 0
abbrev pu_peP (d : Int → Int) (n : Int) : Int → Prop := fun x => x + 1 < n ∧ 0 < d (x + 1)
def pu_pe (d : Int → Int) (z n : Int) : Int := hs_wh (pu_peP d n) (fun x => x + 1) ((n - z).toNat + 1) z
/-! HistogramStairs$Rectangles: count, firsts, lasts, tops, owners -/
abbrev pu_cb (f l t F L T : Int) : Prop := (t * (l - f + 1) ≠ T * (L - F + 1) ∧ T * (L - F + 1) < t * (l - f + 1)) ∨ (t * (l - f + 1) = T * (L - F + 1) ∧ f < F) ∨ (t * (l - f + 1) = T * (L - F + 1) ∧ f = F ∧ l < L)
abbrev pu_R : Type := Int × (Int → Int) × (Int → Int) × (Int → Int) × (Int → Int)
abbrev pu_plP (f l t : Int) : pu_R → Prop := fun x => 0 < x.1 ∧ pu_cb f l t (x.2.1 (x.1 - 1)) (x.2.2.1 (x.1 - 1)) (x.2.2.2.1 (x.1 - 1))
def pu_plF : pu_R → pu_R := fun x => (x.1 + (-1), hs_u x.2.1 x.1 (x.2.1 (x.1 - 1)), hs_u x.2.2.1 x.1 (x.2.2.1 (x.1 - 1)), hs_u x.2.2.2.1 x.1 (x.2.2.2.1 (x.1 - 1)), hs_u x.2.2.2.2 x.1 (x.2.2.2.2 (x.1 - 1)))
/-- the place, and the rows with a gap there -/
def pu_pl (f l t : Int) (x : pu_R) : pu_R := hs_wh (pu_plP f l t) pu_plF ((x.1).toNat + 1) x
def pu_place (f l t o : Int) (x : pu_R) : pu_R := (x.1 + 1, hs_u (pu_pl f l t x).2.1 (pu_pl f l t x).1 f, hs_u (pu_pl f l t x).2.2.1 (pu_pl f l t x).1 l, hs_u (pu_pl f l t x).2.2.2.1 (pu_pl f l t x).1 t, hs_u (pu_pl f l t x).2.2.2.2 (pu_pl f l t x).1 o)
abbrev pu_foP (g : Int → Int) (i a : Int) : Int → Prop := fun x => a < x ∧ g i < g (x - 1)
def pu_fo (g : Int → Int) (i a : Int) : Int := hs_wh (pu_foP g i a) (fun x => x + (-1)) ((i - a).toNat + 1) i
abbrev pu_flP (g : Int → Int) (i b : Int) : Int → Prop := fun x => x < b ∧ g i ≤ g (x + 1)
def pu_fl (g : Int → Int) (i b : Int) : Int := hs_wh (pu_flP g i b) (fun x => x + 1) ((b - i).toNat + 1) i
def pu_fob (g : Int → Int) (i a b : Int) (x : pu_R) : pu_R := if a < pu_fo g i a ∧ g (pu_fo g i a - 1) = g i then x else pu_place (pu_fo g i a) (pu_fl g i b) (g i) i x
def pu_find (g : Int → Int) (a b : Int) (x : pu_R) : pu_R := hs_up (fun i x => if g i ≤ 0 then x else pu_fob g i a b x) a (b + 1) (0, x.2)
def pu_own (g : Int → Int) (x : pu_R) (q : Int) : Int := hs_up (fun i y => if g i = x.2.2.2.1 q then y + 1 else y) (x.2.1 q) (x.2.2.1 q + 1) 0
end
