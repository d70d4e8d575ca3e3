section
-- ===== PART A: goes FIRST, ahead of the names: the tables' words, and 'selects' of the private methods out of them =====
/-- a private method of a class that the tables say can be made, by its rows of tables_1 -/
def lw_okq (q : MethodName × Nat) : Prop := (q.1.cls ≠ "java/lang/invoke/MethodHandle" ∧ q.1.cls ≠ "java/lang/invoke/VarHandle") ∧ Cond.instantiable q.1.cls q.2 ∈ tables_1 ∧ Cond.privateMethod q.1 ∈ tables_1 ∧ Cond.instanceMethod q.1 ∈ tables_1
theorem lw_p0 : lw_okq (⟨"LinearReach", "beginAnew", "()V"⟩, 5) := ⟨⟨by decide +kernel, by decide +kernel⟩, List.mem_of_getElem? (i := 15) (by decide +kernel), List.mem_of_getElem? (i := 252) (by decide +kernel), List.mem_of_getElem? (i := 253) (by decide +kernel)⟩
theorem lw_p1 : lw_okq (⟨"LinearReach", "isName", "(I)Z"⟩, 5) := ⟨⟨by decide +kernel, by decide +kernel⟩, List.mem_of_getElem? (i := 15) (by decide +kernel), List.mem_of_getElem? (i := 276) (by decide +kernel), List.mem_of_getElem? (i := 277) (by decide +kernel)⟩
theorem lw_p2 : lw_okq (⟨"LinearReach", "areDifferentNames", "(IIII)Z"⟩, 5) := ⟨⟨by decide +kernel, by decide +kernel⟩, List.mem_of_getElem? (i := 15) (by decide +kernel), List.mem_of_getElem? (i := 297) (by decide +kernel), List.mem_of_getElem? (i := 298) (by decide +kernel)⟩
theorem lw_p3 : lw_okq (⟨"LinearReach", "isRow", "(I)Z"⟩, 5) := ⟨⟨by decide +kernel, by decide +kernel⟩, List.mem_of_getElem? (i := 15) (by decide +kernel), List.mem_of_getElem? (i := 313) (by decide +kernel), List.mem_of_getElem? (i := 314) (by decide +kernel)⟩
theorem lw_p4 : lw_okq (⟨"LinearReach$Sifter", "sift", "(II)V"⟩, 6) := ⟨⟨by decide +kernel, by decide +kernel⟩, List.mem_of_getElem? (i := 154) (by decide +kernel), List.mem_of_getElem? (i := 337) (by decide +kernel), List.mem_of_getElem? (i := 338) (by decide +kernel)⟩
theorem lw_p5 : lw_okq (⟨"LinearReach$Row", "allowsProduct", "(ILLinearReach$Spans;)Z"⟩, 6) := ⟨⟨by decide +kernel, by decide +kernel⟩, List.mem_of_getElem? (i := 83) (by decide +kernel), List.mem_of_getElem? (i := 358) (by decide +kernel), List.mem_of_getElem? (i := 359) (by decide +kernel)⟩
theorem lw_p6 : lw_okq (⟨"LinearReach$Row", "allowsMultiplier", "(IILLinearReach$Spans;)Z"⟩, 6) := ⟨⟨by decide +kernel, by decide +kernel⟩, List.mem_of_getElem? (i := 83) (by decide +kernel), List.mem_of_getElem? (i := 362) (by decide +kernel), List.mem_of_getElem? (i := 363) (by decide +kernel)⟩
theorem lw_p7 : lw_okq (⟨"LinearReach$Row", "allowsQuotient", "(ILLinearReach$Spans;)Z"⟩, 6) := ⟨⟨by decide +kernel, by decide +kernel⟩, List.mem_of_getElem? (i := 83) (by decide +kernel), List.mem_of_getElem? (i := 382) (by decide +kernel), List.mem_of_getElem? (i := 383) (by decide +kernel)⟩
theorem lw_p8 : lw_okq (⟨"LinearReach$Row", "allowsDividend", "(ILLinearReach$Spans;)Z"⟩, 6) := ⟨⟨by decide +kernel, by decide +kernel⟩, List.mem_of_getElem? (i := 83) (by decide +kernel), List.mem_of_getElem? (i := 386) (by decide +kernel), List.mem_of_getElem? (i := 387) (by decide +kernel)⟩
theorem lw_p9 : lw_okq (⟨"LinearReach$Row", "allowsDivisor", "(ILLinearReach$Spans;)Z"⟩, 6) := ⟨⟨by decide +kernel, by decide +kernel⟩, List.mem_of_getElem? (i := 83) (by decide +kernel), List.mem_of_getElem? (i := 390) (by decide +kernel), List.mem_of_getElem? (i := 391) (by decide +kernel)⟩
theorem lw_p10 : lw_okq (⟨"LinearReach$Row", "allowsGreatest", "(ILLinearReach$Spans;)Z"⟩, 6) := ⟨⟨by decide +kernel, by decide +kernel⟩, List.mem_of_getElem? (i := 83) (by decide +kernel), List.mem_of_getElem? (i := 396) (by decide +kernel), List.mem_of_getElem? (i := 397) (by decide +kernel)⟩
theorem lw_p11 : lw_okq (⟨"LinearReach$Row", "allowsBesideGreatest", "(IILLinearReach$Spans;)Z"⟩, 6) := ⟨⟨by decide +kernel, by decide +kernel⟩, List.mem_of_getElem? (i := 83) (by decide +kernel), List.mem_of_getElem? (i := 400) (by decide +kernel), List.mem_of_getElem? (i := 401) (by decide +kernel)⟩
theorem lw_p12 : lw_okq (⟨"LinearReach$Row", "allowsLeast", "(ILLinearReach$Spans;)Z"⟩, 6) := ⟨⟨by decide +kernel, by decide +kernel⟩, List.mem_of_getElem? (i := 83) (by decide +kernel), List.mem_of_getElem? (i := 404) (by decide +kernel), List.mem_of_getElem? (i := 405) (by decide +kernel)⟩
theorem lw_p13 : lw_okq (⟨"LinearReach$Row", "allowsBesideLeast", "(IILLinearReach$Spans;)Z"⟩, 6) := ⟨⟨by decide +kernel, by decide +kernel⟩, List.mem_of_getElem? (i := 83) (by decide +kernel), List.mem_of_getElem? (i := 408) (by decide +kernel), List.mem_of_getElem? (i := 409) (by decide +kernel)⟩
theorem lw_p14 : lw_okq (⟨"LinearReach$Row", "allowsInCount", "(IILLinearReach$Spans;II)Z"⟩, 6) := ⟨⟨by decide +kernel, by decide +kernel⟩, List.mem_of_getElem? (i := 83) (by decide +kernel), List.mem_of_getElem? (i := 412) (by decide +kernel), List.mem_of_getElem? (i := 413) (by decide +kernel)⟩
theorem lw_p15 : lw_okq (⟨"LinearReach$Sifter", "findReason", "(LLinearReach$Row;II)I"⟩, 6) := ⟨⟨by decide +kernel, by decide +kernel⟩, List.mem_of_getElem? (i := 154) (by decide +kernel), List.mem_of_getElem? (i := 416) (by decide +kernel), List.mem_of_getElem? (i := 417) (by decide +kernel)⟩
def lw_privs_1 : List (MethodName × Nat) := [(⟨"LinearReach", "beginAnew", "()V"⟩, 5), (⟨"LinearReach", "isName", "(I)Z"⟩, 5), (⟨"LinearReach", "areDifferentNames", "(IIII)Z"⟩, 5), (⟨"LinearReach", "isRow", "(I)Z"⟩, 5), (⟨"LinearReach$Sifter", "sift", "(II)V"⟩, 6), (⟨"LinearReach$Row", "allowsProduct", "(ILLinearReach$Spans;)Z"⟩, 6), (⟨"LinearReach$Row", "allowsMultiplier", "(IILLinearReach$Spans;)Z"⟩, 6), (⟨"LinearReach$Row", "allowsQuotient", "(ILLinearReach$Spans;)Z"⟩, 6), (⟨"LinearReach$Row", "allowsDividend", "(ILLinearReach$Spans;)Z"⟩, 6), (⟨"LinearReach$Row", "allowsDivisor", "(ILLinearReach$Spans;)Z"⟩, 6), (⟨"LinearReach$Row", "allowsGreatest", "(ILLinearReach$Spans;)Z"⟩, 6), (⟨"LinearReach$Row", "allowsBesideGreatest", "(IILLinearReach$Spans;)Z"⟩, 6), (⟨"LinearReach$Row", "allowsLeast", "(ILLinearReach$Spans;)Z"⟩, 6), (⟨"LinearReach$Row", "allowsBesideLeast", "(IILLinearReach$Spans;)Z"⟩, 6), (⟨"LinearReach$Row", "allowsInCount", "(IILLinearReach$Spans;II)Z"⟩, 6), (⟨"LinearReach$Sifter", "findReason", "(LLinearReach$Row;II)I"⟩, 6)]
theorem lw_r1 : ∀ q ∈ lw_privs_1, lw_okq q := List.forall_mem_cons.mpr ⟨lw_p0, List.forall_mem_cons.mpr ⟨lw_p1, List.forall_mem_cons.mpr ⟨lw_p2, List.forall_mem_cons.mpr ⟨lw_p3, List.forall_mem_cons.mpr ⟨lw_p4, List.forall_mem_cons.mpr ⟨lw_p5, List.forall_mem_cons.mpr ⟨lw_p6, List.forall_mem_cons.mpr ⟨lw_p7, List.forall_mem_cons.mpr ⟨lw_p8, List.forall_mem_cons.mpr ⟨lw_p9, List.forall_mem_cons.mpr ⟨lw_p10, List.forall_mem_cons.mpr ⟨lw_p11, List.forall_mem_cons.mpr ⟨lw_p12, List.forall_mem_cons.mpr ⟨lw_p13, List.forall_mem_cons.mpr ⟨lw_p14, List.forall_mem_cons.mpr ⟨lw_p15, fun _ h => absurd h List.not_mem_nil⟩⟩⟩⟩⟩⟩⟩⟩⟩⟩⟩⟩⟩⟩⟩⟩
theorem lw_p16 : lw_okq (⟨"LinearReach", "isStep", "(I)Z"⟩, 5) := ⟨⟨by decide +kernel, by decide +kernel⟩, List.mem_of_getElem? (i := 15) (by decide +kernel), List.mem_of_getElem? (i := 465) (by decide +kernel), List.mem_of_getElem? (i := 466) (by decide +kernel)⟩
theorem lw_p17 : lw_okq (⟨"LinearReach", "isPart", "(II)Z"⟩, 5) := ⟨⟨by decide +kernel, by decide +kernel⟩, List.mem_of_getElem? (i := 15) (by decide +kernel), List.mem_of_getElem? (i := 483) (by decide +kernel), List.mem_of_getElem? (i := 484) (by decide +kernel)⟩
theorem lw_p18 : lw_okq (⟨"LinearReach$PlanCounter", "rowsHoldWith", "(I)Z"⟩, 4) := ⟨⟨by decide +kernel, by decide +kernel⟩, List.mem_of_getElem? (i := 182) (by decide +kernel), List.mem_of_getElem? (i := 520) (by decide +kernel), List.mem_of_getElem? (i := 521) (by decide +kernel)⟩
theorem lw_p19 : lw_okq (⟨"LinearReach$Row", "sumOf", "([I)I"⟩, 6) := ⟨⟨by decide +kernel, by decide +kernel⟩, List.mem_of_getElem? (i := 83) (by decide +kernel), List.mem_of_getElem? (i := 528) (by decide +kernel), List.mem_of_getElem? (i := 529) (by decide +kernel)⟩
theorem lw_p20 : lw_okq (⟨"LinearReach$Row", "countOf", "([I)I"⟩, 6) := ⟨⟨by decide +kernel, by decide +kernel⟩, List.mem_of_getElem? (i := 83) (by decide +kernel), List.mem_of_getElem? (i := 532) (by decide +kernel), List.mem_of_getElem? (i := 533) (by decide +kernel)⟩
theorem lw_p21 : lw_okq (⟨"LinearReach$PlanCounter", "countFrom", "(I)I"⟩, 4) := ⟨⟨by decide +kernel, by decide +kernel⟩, List.mem_of_getElem? (i := 182) (by decide +kernel), List.mem_of_getElem? (i := 536) (by decide +kernel), List.mem_of_getElem? (i := 537) (by decide +kernel)⟩
theorem lw_p22 : lw_okq (⟨"LinearReachModel", "anew", "()V"⟩, 19) := ⟨⟨by decide +kernel, by decide +kernel⟩, List.mem_of_getElem? (i := 541) (by decide +kernel), List.mem_of_getElem? (i := 613) (by decide +kernel), List.mem_of_getElem? (i := 614) (by decide +kernel)⟩
theorem lw_p23 : lw_okq (⟨"LinearReachModel", "isName", "(I)Z"⟩, 19) := ⟨⟨by decide +kernel, by decide +kernel⟩, List.mem_of_getElem? (i := 541) (by decide +kernel), List.mem_of_getElem? (i := 621) (by decide +kernel), List.mem_of_getElem? (i := 622) (by decide +kernel)⟩
theorem lw_p24 : lw_okq (⟨"LinearReachModel", "many", "(IZ)I"⟩, 19) := ⟨⟨by decide +kernel, by decide +kernel⟩, List.mem_of_getElem? (i := 541) (by decide +kernel), List.mem_of_getElem? (i := 625) (by decide +kernel), List.mem_of_getElem? (i := 626) (by decide +kernel)⟩
theorem lw_p25 : lw_okq (⟨"LinearReachModel", "isRow", "(I)Z"⟩, 19) := ⟨⟨by decide +kernel, by decide +kernel⟩, List.mem_of_getElem? (i := 541) (by decide +kernel), List.mem_of_getElem? (i := 640) (by decide +kernel), List.mem_of_getElem? (i := 641) (by decide +kernel)⟩
theorem lw_p26 : lw_okq (⟨"LinearReachModel", "bounds", "()V"⟩, 19) := ⟨⟨by decide +kernel, by decide +kernel⟩, List.mem_of_getElem? (i := 541) (by decide +kernel), List.mem_of_getElem? (i := 655) (by decide +kernel), List.mem_of_getElem? (i := 656) (by decide +kernel)⟩
theorem lw_p27 : lw_okq (⟨"LinearReachModel", "least", "(IZ)I"⟩, 19) := ⟨⟨by decide +kernel, by decide +kernel⟩, List.mem_of_getElem? (i := 541) (by decide +kernel), List.mem_of_getElem? (i := 659) (by decide +kernel), List.mem_of_getElem? (i := 660) (by decide +kernel)⟩
theorem lw_p28 : lw_okq (⟨"LinearReachModel", "most", "(IZ)I"⟩, 19) := ⟨⟨by decide +kernel, by decide +kernel⟩, List.mem_of_getElem? (i := 541) (by decide +kernel), List.mem_of_getElem? (i := 663) (by decide +kernel), List.mem_of_getElem? (i := 664) (by decide +kernel)⟩
theorem lw_p29 : lw_okq (⟨"LinearReachModel", "byRow", "(I)V"⟩, 19) := ⟨⟨by decide +kernel, by decide +kernel⟩, List.mem_of_getElem? (i := 541) (by decide +kernel), List.mem_of_getElem? (i := 667) (by decide +kernel), List.mem_of_getElem? (i := 668) (by decide +kernel)⟩
theorem lw_p30 : lw_okq (⟨"LinearReachModel", "isAbout", "(II)Z"⟩, 19) := ⟨⟨by decide +kernel, by decide +kernel⟩, List.mem_of_getElem? (i := 541) (by decide +kernel), List.mem_of_getElem? (i := 671) (by decide +kernel), List.mem_of_getElem? (i := 672) (by decide +kernel)⟩
theorem lw_p31 : lw_okq (⟨"LinearReachModel", "impossible", "(III)Z"⟩, 19) := ⟨⟨by decide +kernel, by decide +kernel⟩, List.mem_of_getElem? (i := 541) (by decide +kernel), List.mem_of_getElem? (i := 675) (by decide +kernel), List.mem_of_getElem? (i := 676) (by decide +kernel)⟩
def lw_privs_2 : List (MethodName × Nat) := [(⟨"LinearReach", "isStep", "(I)Z"⟩, 5), (⟨"LinearReach", "isPart", "(II)Z"⟩, 5), (⟨"LinearReach$PlanCounter", "rowsHoldWith", "(I)Z"⟩, 4), (⟨"LinearReach$Row", "sumOf", "([I)I"⟩, 6), (⟨"LinearReach$Row", "countOf", "([I)I"⟩, 6), (⟨"LinearReach$PlanCounter", "countFrom", "(I)I"⟩, 4), (⟨"LinearReachModel", "anew", "()V"⟩, 19), (⟨"LinearReachModel", "isName", "(I)Z"⟩, 19), (⟨"LinearReachModel", "many", "(IZ)I"⟩, 19), (⟨"LinearReachModel", "isRow", "(I)Z"⟩, 19), (⟨"LinearReachModel", "bounds", "()V"⟩, 19), (⟨"LinearReachModel", "least", "(IZ)I"⟩, 19), (⟨"LinearReachModel", "most", "(IZ)I"⟩, 19), (⟨"LinearReachModel", "byRow", "(I)V"⟩, 19), (⟨"LinearReachModel", "isAbout", "(II)Z"⟩, 19), (⟨"LinearReachModel", "impossible", "(III)Z"⟩, 19)]
theorem lw_r2 : ∀ q ∈ lw_privs_2, lw_okq q := List.forall_mem_cons.mpr ⟨lw_p16, List.forall_mem_cons.mpr ⟨lw_p17, List.forall_mem_cons.mpr ⟨lw_p18, List.forall_mem_cons.mpr ⟨lw_p19, List.forall_mem_cons.mpr ⟨lw_p20, List.forall_mem_cons.mpr ⟨lw_p21, List.forall_mem_cons.mpr ⟨lw_p22, List.forall_mem_cons.mpr ⟨lw_p23, List.forall_mem_cons.mpr ⟨lw_p24, List.forall_mem_cons.mpr ⟨lw_p25, List.forall_mem_cons.mpr ⟨lw_p26, List.forall_mem_cons.mpr ⟨lw_p27, List.forall_mem_cons.mpr ⟨lw_p28, List.forall_mem_cons.mpr ⟨lw_p29, List.forall_mem_cons.mpr ⟨lw_p30, List.forall_mem_cons.mpr ⟨lw_p31, fun _ h => absurd h List.not_mem_nil⟩⟩⟩⟩⟩⟩⟩⟩⟩⟩⟩⟩⟩⟩⟩⟩
theorem lw_p32 : lw_okq (⟨"LinearReachModel", "can", "(I)Z"⟩, 19) := ⟨⟨by decide +kernel, by decide +kernel⟩, List.mem_of_getElem? (i := 541) (by decide +kernel), List.mem_of_getElem? (i := 679) (by decide +kernel), List.mem_of_getElem? (i := 680) (by decide +kernel)⟩
theorem lw_p33 : lw_okq (⟨"LinearReachModel", "leastSum", "(II)I"⟩, 19) := ⟨⟨by decide +kernel, by decide +kernel⟩, List.mem_of_getElem? (i := 541) (by decide +kernel), List.mem_of_getElem? (i := 683) (by decide +kernel), List.mem_of_getElem? (i := 684) (by decide +kernel)⟩
theorem lw_p34 : lw_okq (⟨"LinearReachModel", "byTwo", "(I)Z"⟩, 19) := ⟨⟨by decide +kernel, by decide +kernel⟩, List.mem_of_getElem? (i := 541) (by decide +kernel), List.mem_of_getElem? (i := 687) (by decide +kernel), List.mem_of_getElem? (i := 688) (by decide +kernel)⟩
theorem lw_p35 : lw_okq (⟨"LinearReachModel", "byCount", "(I)Z"⟩, 19) := ⟨⟨by decide +kernel, by decide +kernel⟩, List.mem_of_getElem? (i := 541) (by decide +kernel), List.mem_of_getElem? (i := 691) (by decide +kernel), List.mem_of_getElem? (i := 692) (by decide +kernel)⟩
theorem lw_p36 : lw_okq (⟨"LinearReachModel", "may", "(II)Z"⟩, 19) := ⟨⟨by decide +kernel, by decide +kernel⟩, List.mem_of_getElem? (i := 541) (by decide +kernel), List.mem_of_getElem? (i := 695) (by decide +kernel), List.mem_of_getElem? (i := 696) (by decide +kernel)⟩
theorem lw_p37 : lw_okq (⟨"LinearReachModel", "byThree", "(I)Z"⟩, 19) := ⟨⟨by decide +kernel, by decide +kernel⟩, List.mem_of_getElem? (i := 541) (by decide +kernel), List.mem_of_getElem? (i := 699) (by decide +kernel), List.mem_of_getElem? (i := 700) (by decide +kernel)⟩
theorem lw_p38 : lw_okq (⟨"LinearReachModel", "take", "(III)V"⟩, 19) := ⟨⟨by decide +kernel, by decide +kernel⟩, List.mem_of_getElem? (i := 541) (by decide +kernel), List.mem_of_getElem? (i := 709) (by decide +kernel), List.mem_of_getElem? (i := 710) (by decide +kernel)⟩
theorem lw_p39 : lw_okq (⟨"LinearReachModel", "setBound", "(II)V"⟩, 19) := ⟨⟨by decide +kernel, by decide +kernel⟩, List.mem_of_getElem? (i := 541) (by decide +kernel), List.mem_of_getElem? (i := 713) (by decide +kernel), List.mem_of_getElem? (i := 714) (by decide +kernel)⟩
theorem lw_p40 : lw_okq (⟨"LinearReachModel", "placeOf", "(II)I"⟩, 19) := ⟨⟨by decide +kernel, by decide +kernel⟩, List.mem_of_getElem? (i := 541) (by decide +kernel), List.mem_of_getElem? (i := 749) (by decide +kernel), List.mem_of_getElem? (i := 750) (by decide +kernel)⟩
theorem lw_p41 : lw_okq (⟨"LinearReachModel", "holds", "(I)Z"⟩, 19) := ⟨⟨by decide +kernel, by decide +kernel⟩, List.mem_of_getElem? (i := 541) (by decide +kernel), List.mem_of_getElem? (i := 761) (by decide +kernel), List.mem_of_getElem? (i := 762) (by decide +kernel)⟩
theorem lw_p42 : lw_okq (⟨"LinearReachModel", "nextPlan", "()Z"⟩, 19) := ⟨⟨by decide +kernel, by decide +kernel⟩, List.mem_of_getElem? (i := 541) (by decide +kernel), List.mem_of_getElem? (i := 765) (by decide +kernel), List.mem_of_getElem? (i := 766) (by decide +kernel)⟩
def lw_privs_3 : List (MethodName × Nat) := [(⟨"LinearReachModel", "can", "(I)Z"⟩, 19), (⟨"LinearReachModel", "leastSum", "(II)I"⟩, 19), (⟨"LinearReachModel", "byTwo", "(I)Z"⟩, 19), (⟨"LinearReachModel", "byCount", "(I)Z"⟩, 19), (⟨"LinearReachModel", "may", "(II)Z"⟩, 19), (⟨"LinearReachModel", "byThree", "(I)Z"⟩, 19), (⟨"LinearReachModel", "take", "(III)V"⟩, 19), (⟨"LinearReachModel", "setBound", "(II)V"⟩, 19), (⟨"LinearReachModel", "placeOf", "(II)I"⟩, 19), (⟨"LinearReachModel", "holds", "(I)Z"⟩, 19), (⟨"LinearReachModel", "nextPlan", "()Z"⟩, 19)]
theorem lw_r3 : ∀ q ∈ lw_privs_3, lw_okq q := List.forall_mem_cons.mpr ⟨lw_p32, List.forall_mem_cons.mpr ⟨lw_p33, List.forall_mem_cons.mpr ⟨lw_p34, List.forall_mem_cons.mpr ⟨lw_p35, List.forall_mem_cons.mpr ⟨lw_p36, List.forall_mem_cons.mpr ⟨lw_p37, List.forall_mem_cons.mpr ⟨lw_p38, List.forall_mem_cons.mpr ⟨lw_p39, List.forall_mem_cons.mpr ⟨lw_p40, List.forall_mem_cons.mpr ⟨lw_p41, List.forall_mem_cons.mpr ⟨lw_p42, fun _ h => absurd h List.not_mem_nil⟩⟩⟩⟩⟩⟩⟩⟩⟩⟩⟩
def lw_privs : List (MethodName × Nat) := lw_privs_1 ++ (lw_privs_2 ++ (lw_privs_3))
def lw_tbl : List Cond := k2_sels lw_privs ++ tables_1
theorem lw_privs_ok : ∀ q ∈ lw_privs, lw_okq q := by
  show ∀ q ∈ lw_privs_1 ++ (lw_privs_2 ++ (lw_privs_3)), lw_okq q
  exact List.forall_mem_append.mpr ⟨lw_r1, List.forall_mem_append.mpr ⟨lw_r2, lw_r3⟩⟩
end
section
def RX0 : String := "LinearReach$PlanCounter"
def TX0 : u_T := fun k => match k with
  | 0 => ("LinearReach$PlanCounter", "sets", "LLinearReach$Sets;", true)
  | 1 => ("LinearReach$PlanCounter", "rowList", "LLinearReach$RowList;", true)
  | 2 => ("LinearReach$PlanCounter", "chosen", "[I", true)
  | _ => ("LinearReach$PlanCounter", "lastNames", "[I", true)
def tyX0 : Nat → FieldType := fun k => match k with
  | 0 => .object "LinearReach$Sets"
  | 1 => .object "LinearReach$RowList"
  | 2 => .array .int
  | _ => .array .int
abbrev wsX00 : List Cond := u_ws RX0 TX0 4
theorem nmX0 : ∀ a, a < 4 → ∀ b, b < 4 → a ≠ b → (TX0 a).2.1 ≠ (TX0 b).2.1 := by decide +kernel
theorem tyX0_ok : ∀ k, k < 4 → parseFieldDescriptor (TX0 k).2.2.1 = some (tyX0 k) := by decide +kernel
abbrev cX0_init : ByteArray := prog_2_method_1_code
def yX0_init : MethodName := ⟨RX0, "<init>", "(LLinearReach$Sets;LLinearReach$RowList;)V"⟩
abbrev cX0_countAll : ByteArray := prog_2_method_2_code
def yX0_countAll : MethodName := ⟨RX0, "countAll", "()I"⟩
abbrev cX0_countFrom : ByteArray := prog_2_method_3_code
def yX0_countFrom : MethodName := ⟨RX0, "countFrom", "(I)I"⟩
abbrev cX0_rowsHoldWith : ByteArray := prog_2_method_4_code
def yX0_rowsHoldWith : MethodName := ⟨RX0, "rowsHoldWith", "(I)Z"⟩
def RX1 : String := "LinearReach$Row"
def TX1 : u_T := fun k => match k with
  | 0 => ("LinearReach$Row", "kind", "I", false)
  | 1 => ("LinearReach$Row", "a", "I", false)
  | 2 => ("LinearReach$Row", "b", "I", false)
  | 3 => ("LinearReach$Row", "c", "I", false)
  | 4 => ("LinearReach$Row", "right", "I", false)
  | _ => ("LinearReach$Row", "factors", "[I", true)
def tyX1 : Nat → FieldType := fun k => match k with
  | 0 => .int
  | 1 => .int
  | 2 => .int
  | 3 => .int
  | 4 => .int
  | _ => .array .int
abbrev wsX10 : List Cond := u_ws RX1 TX1 6
theorem nmX1 : ∀ a, a < 6 → ∀ b, b < 6 → a ≠ b → (TX1 a).2.1 ≠ (TX1 b).2.1 := by decide +kernel
theorem tyX1_ok : ∀ k, k < 6 → parseFieldDescriptor (TX1 k).2.2.1 = some (tyX1 k) := by decide +kernel
abbrev cX1_init : ByteArray := prog_3_method_1_code
def yX1_init : MethodName := ⟨RX1, "<init>", "()V"⟩
abbrev cX1_become : ByteArray := prog_3_method_2_code
def yX1_become : MethodName := ⟨RX1, "become", "(II)V"⟩
abbrev cX1_tie : ByteArray := prog_3_method_3_code
def yX1_tie : MethodName := ⟨RX1, "tie", "(III)V"⟩
abbrev cX1_hasFactors : ByteArray := prog_3_method_4_code
def yX1_hasFactors : MethodName := ⟨RX1, "hasFactors", "()Z"⟩
abbrev cX1_isAbout : ByteArray := prog_3_method_5_code
def yX1_isAbout : MethodName := ⟨RX1, "isAbout", "(I)Z"⟩
abbrev cX1_lastName : ByteArray := prog_3_method_6_code
def yX1_lastName : MethodName := ⟨RX1, "lastName", "()I"⟩
abbrev cX1_holds : ByteArray := prog_3_method_7_code
def yX1_holds : MethodName := ⟨RX1, "holds", "([I)Z"⟩
abbrev cX1_sumOf : ByteArray := prog_3_method_8_code
def yX1_sumOf : MethodName := ⟨RX1, "sumOf", "([I)I"⟩
abbrev cX1_countOf : ByteArray := prog_3_method_9_code
def yX1_countOf : MethodName := ⟨RX1, "countOf", "([I)I"⟩
abbrev cX1_allows : ByteArray := prog_3_method_10_code
def yX1_allows : MethodName := ⟨RX1, "allows", "(IILLinearReach$Spans;II)Z"⟩
abbrev cX1_endOfOthers : ByteArray := prog_3_method_11_code
def yX1_endOfOthers : MethodName := ⟨RX1, "endOfOthers", "(ILLinearReach$Spans;Z)I"⟩
abbrev cX1_allowsProduct : ByteArray := prog_3_method_12_code
def yX1_allowsProduct : MethodName := ⟨RX1, "allowsProduct", "(ILLinearReach$Spans;)Z"⟩
abbrev cX1_allowsMultiplier : ByteArray := prog_3_method_13_code
def yX1_allowsMultiplier : MethodName := ⟨RX1, "allowsMultiplier", "(IILLinearReach$Spans;)Z"⟩
abbrev cX1_allowsQuotient : ByteArray := prog_3_method_14_code
def yX1_allowsQuotient : MethodName := ⟨RX1, "allowsQuotient", "(ILLinearReach$Spans;)Z"⟩
abbrev cX1_allowsDividend : ByteArray := prog_3_method_15_code
def yX1_allowsDividend : MethodName := ⟨RX1, "allowsDividend", "(ILLinearReach$Spans;)Z"⟩
abbrev cX1_allowsDivisor : ByteArray := prog_3_method_16_code
def yX1_allowsDivisor : MethodName := ⟨RX1, "allowsDivisor", "(ILLinearReach$Spans;)Z"⟩
abbrev cX1_allowsGreatest : ByteArray := prog_3_method_17_code
def yX1_allowsGreatest : MethodName := ⟨RX1, "allowsGreatest", "(ILLinearReach$Spans;)Z"⟩
abbrev cX1_allowsBesideGreatest : ByteArray := prog_3_method_18_code
def yX1_allowsBesideGreatest : MethodName := ⟨RX1, "allowsBesideGreatest", "(IILLinearReach$Spans;)Z"⟩
abbrev cX1_allowsLeast : ByteArray := prog_3_method_19_code
def yX1_allowsLeast : MethodName := ⟨RX1, "allowsLeast", "(ILLinearReach$Spans;)Z"⟩
abbrev cX1_allowsBesideLeast : ByteArray := prog_3_method_20_code
def yX1_allowsBesideLeast : MethodName := ⟨RX1, "allowsBesideLeast", "(IILLinearReach$Spans;)Z"⟩
abbrev cX1_allowsInCount : ByteArray := prog_3_method_21_code
def yX1_allowsInCount : MethodName := ⟨RX1, "allowsInCount", "(IILLinearReach$Spans;II)Z"⟩
def RX2 : String := "LinearReach$RowList"
def TX2 : u_T := fun k => match k with
  | 0 => ("LinearReach$RowList", "count", "I", false)
  | _ => ("LinearReach$RowList", "all", "[LLinearReach$Row;", true)
def tyX2 : Nat → FieldType := fun k => match k with
  | 0 => .int
  | _ => .array (.object "LinearReach$Row")
abbrev wsX20 : List Cond := u_ws RX2 TX2 2
theorem nmX2 : ∀ a, a < 2 → ∀ b, b < 2 → a ≠ b → (TX2 a).2.1 ≠ (TX2 b).2.1 := by decide +kernel
theorem tyX2_ok : ∀ k, k < 2 → parseFieldDescriptor (TX2 k).2.2.1 = some (tyX2 k) := by decide +kernel
abbrev cX2_init : ByteArray := prog_4_method_1_code
def yX2_init : MethodName := ⟨RX2, "<init>", "()V"⟩
def RX3 : String := "LinearReach$Sets"
def TX3 : u_T := fun k => match k with
  | 0 => ("LinearReach$Sets", "count", "I", false)
  | 1 => ("LinearReach$Sets", "first", "[J", true)
  | 2 => ("LinearReach$Sets", "now", "[J", true)
  | 3 => ("LinearReach$Sets", "firstSpans", "LLinearReach$Spans;", true)
  | _ => ("LinearReach$Sets", "spans", "LLinearReach$Spans;", true)
def tyX3 : Nat → FieldType := fun k => match k with
  | 0 => .int
  | 1 => .array .long
  | 2 => .array .long
  | 3 => .object "LinearReach$Spans"
  | _ => .object "LinearReach$Spans"
abbrev wsX30 : List Cond := u_ws RX3 TX3 5
theorem nmX3 : ∀ a, a < 5 → ∀ b, b < 5 → a ≠ b → (TX3 a).2.1 ≠ (TX3 b).2.1 := by decide +kernel
theorem tyX3_ok : ∀ k, k < 5 → parseFieldDescriptor (TX3 k).2.2.1 = some (tyX3 k) := by decide +kernel
abbrev cX3_init : ByteArray := prog_5_method_1_code
def yX3_init : MethodName := ⟨RX3, "<init>", "()V"⟩
abbrev cX3_add : ByteArray := prog_5_method_2_code
def yX3_add : MethodName := ⟨RX3, "add", "(II)V"⟩
abbrev cX3_leaveOut : ByteArray := prog_5_method_3_code
def yX3_leaveOut : MethodName := ⟨RX3, "leaveOut", "(II)V"⟩
abbrev cX3_takeOut : ByteArray := prog_5_method_4_code
def yX3_takeOut : MethodName := ⟨RX3, "takeOut", "(II)V"⟩
abbrev cX3_restore : ByteArray := prog_5_method_5_code
def yX3_restore : MethodName := ⟨RX3, "restore", "()V"⟩
abbrev cX3_choices : ByteArray := prog_5_method_6_code
def yX3_choices : MethodName := ⟨RX3, "choices", "()J"⟩
def RX4 : String := "LinearReach$Sifter"
def TX4 : u_T := fun k => match k with
  | 0 => ("LinearReach$Sifter", "clashRow", "I", false)
  | 1 => ("LinearReach$Sifter", "round", "I", false)
  | 2 => ("LinearReach$Sifter", "sets", "LLinearReach$Sets;", true)
  | 3 => ("LinearReach$Sifter", "rowList", "LLinearReach$RowList;", true)
  | 4 => ("LinearReach$Sifter", "taken", "LLinearReach$StepList;", true)
  | _ => ("LinearReach$Sifter", "trial", "LLinearReach$Spans;", true)
def tyX4 : Nat → FieldType := fun k => match k with
  | 0 => .int
  | 1 => .int
  | 2 => .object "LinearReach$Sets"
  | 3 => .object "LinearReach$RowList"
  | 4 => .object "LinearReach$StepList"
  | _ => .object "LinearReach$Spans"
abbrev wsX40 : List Cond := u_ws RX4 TX4 6
theorem nmX4 : ∀ a, a < 6 → ∀ b, b < 6 → a ≠ b → (TX4 a).2.1 ≠ (TX4 b).2.1 := by decide +kernel
theorem tyX4_ok : ∀ k, k < 6 → parseFieldDescriptor (TX4 k).2.2.1 = some (tyX4 k) := by decide +kernel
abbrev cX4_init : ByteArray := prog_6_method_1_code
def yX4_init : MethodName := ⟨RX4, "<init>", "(LLinearReach$Sets;LLinearReach$RowList;LLinearReach$StepList;)V"⟩
abbrev cX4_forget : ByteArray := prog_6_method_2_code
def yX4_forget : MethodName := ⟨RX4, "forget", "()V"⟩
abbrev cX4_doOne : ByteArray := prog_6_method_3_code
def yX4_doOne : MethodName := ⟨RX4, "doOne", "(Z)V"⟩
abbrev cX4_sift : ByteArray := prog_6_method_4_code
def yX4_sift : MethodName := ⟨RX4, "sift", "(II)V"⟩
abbrev cX4_findReason : ByteArray := prog_6_method_5_code
def yX4_findReason : MethodName := ⟨RX4, "findReason", "(LLinearReach$Row;II)I"⟩
def RX5 : String := "LinearReach$Spans"
def TX5 : u_T := fun k => match k with
  | 0 => ("LinearReach$Spans", "least", "[I", true)
  | _ => ("LinearReach$Spans", "most", "[I", true)
def tyX5 : Nat → FieldType := fun k => match k with
  | 0 => .array .int
  | _ => .array .int
abbrev wsX50 : List Cond := u_ws RX5 TX5 2
theorem nmX5 : ∀ a, a < 2 → ∀ b, b < 2 → a ≠ b → (TX5 a).2.1 ≠ (TX5 b).2.1 := by decide +kernel
theorem tyX5_ok : ∀ k, k < 2 → parseFieldDescriptor (TX5 k).2.2.1 = some (tyX5 k) := by decide +kernel
abbrev cX5_init : ByteArray := prog_7_method_1_code
def yX5_init : MethodName := ⟨RX5, "<init>", "()V"⟩
abbrev cX5_fit : ByteArray := prog_7_method_2_code
def yX5_fit : MethodName := ⟨RX5, "fit", "(IJ)V"⟩
abbrev cX5_copy : ByteArray := prog_7_method_3_code
def yX5_copy : MethodName := ⟨RX5, "copy", "(LLinearReach$Spans;)V"⟩
abbrev cX5_copyPart : ByteArray := prog_7_method_4_code
def yX5_copyPart : MethodName := ⟨RX5, "copyPart", "(ILLinearReach$Spans;)V"⟩
abbrev cX5_covers : ByteArray := prog_7_method_5_code
def yX5_covers : MethodName := ⟨RX5, "covers", "(II)Z"⟩
abbrev cX5_isOnly : ByteArray := prog_7_method_6_code
def yX5_isOnly : MethodName := ⟨RX5, "isOnly", "(II)Z"⟩
abbrev cX5_meets : ByteArray := prog_7_method_7_code
def yX5_meets : MethodName := ⟨RX5, "meets", "(III)Z"⟩
def RX6 : String := "LinearReach$StepList"
def TX6 : u_T := fun k => match k with
  | 0 => ("LinearReach$StepList", "count", "I", false)
  | 1 => ("LinearReach$StepList", "rows", "[I", true)
  | 2 => ("LinearReach$StepList", "names", "[I", true)
  | 3 => ("LinearReach$StepList", "numbers", "[I", true)
  | 4 => ("LinearReach$StepList", "rounds", "[I", true)
  | _ => ("LinearReach$StepList", "parts", "[I", true)
def tyX6 : Nat → FieldType := fun k => match k with
  | 0 => .int
  | 1 => .array .int
  | 2 => .array .int
  | 3 => .array .int
  | 4 => .array .int
  | _ => .array .int
abbrev wsX60 : List Cond := u_ws RX6 TX6 6
theorem nmX6 : ∀ a, a < 6 → ∀ b, b < 6 → a ≠ b → (TX6 a).2.1 ≠ (TX6 b).2.1 := by decide +kernel
theorem tyX6_ok : ∀ k, k < 6 → parseFieldDescriptor (TX6 k).2.2.1 = some (tyX6 k) := by decide +kernel
abbrev cX6_init : ByteArray := prog_8_method_1_code
def yX6_init : MethodName := ⟨RX6, "<init>", "()V"⟩
abbrev cX6_add : ByteArray := prog_8_method_2_code
def yX6_add : MethodName := ⟨RX6, "add", "(IIIII)V"⟩
abbrev cX6_partAt : ByteArray := prog_8_method_3_code
def yX6_partAt : MethodName := ⟨RX6, "partAt", "(II)I"⟩
abbrev cX6_without : ByteArray := prog_8_method_4_code
def yX6_without : MethodName := ⟨RX6, "without", "(JII)J"⟩
def RX7 : String := "LinearReach"
def TX7 : u_T := fun k => match k with
  | 0 => ("LinearReach", "sets", "LLinearReach$Sets;", true)
  | 1 => ("LinearReach", "rowList", "LLinearReach$RowList;", true)
  | 2 => ("LinearReach", "taken", "LLinearReach$StepList;", true)
  | 3 => ("LinearReach", "sifter", "LLinearReach$Sifter;", true)
  | _ => ("LinearReach", "planCounter", "LLinearReach$PlanCounter;", true)
def tyX7 : Nat → FieldType := fun k => match k with
  | 0 => .object "LinearReach$Sets"
  | 1 => .object "LinearReach$RowList"
  | 2 => .object "LinearReach$StepList"
  | 3 => .object "LinearReach$Sifter"
  | _ => .object "LinearReach$PlanCounter"
abbrev wsX70 : List Cond := u_ws RX7 TX7 5
theorem nmX7 : ∀ a, a < 5 → ∀ b, b < 5 → a ≠ b → (TX7 a).2.1 ≠ (TX7 b).2.1 := by decide +kernel
theorem tyX7_ok : ∀ k, k < 5 → parseFieldDescriptor (TX7 k).2.2.1 = some (tyX7 k) := by decide +kernel
abbrev cX7_init : ByteArray := prog_1_method_1_code
def yX7_init : MethodName := ⟨RX7, "<init>", "()V"⟩
abbrev cX7_name : ByteArray := prog_1_method_2_code
def yX7_name : MethodName := ⟨RX7, "name", "(II)I"⟩
abbrev cX7_leave : ByteArray := prog_1_method_3_code
def yX7_leave : MethodName := ⟨RX7, "leave", "(II)I"⟩
abbrev cX7_row : ByteArray := prog_1_method_4_code
def yX7_row : MethodName := ⟨RX7, "row", "(IIIII)I"⟩
abbrev cX7_factor : ByteArray := prog_1_method_5_code
def yX7_factor : MethodName := ⟨RX7, "factor", "(III)I"⟩
abbrev cX7_clear : ByteArray := prog_1_method_6_code
def yX7_clear : MethodName := ⟨RX7, "clear", "()I"⟩
abbrev cX7_run : ByteArray := prog_1_method_7_code
def yX7_run : MethodName := ⟨RX7, "run", "(II)I"⟩
abbrev cX7_clash : ByteArray := prog_1_method_8_code
def yX7_clash : MethodName := ⟨RX7, "clash", "()I"⟩
abbrev cX7_has : ByteArray := prog_1_method_9_code
def yX7_has : MethodName := ⟨RX7, "has", "(II)I"⟩
abbrev cX7_end : ByteArray := prog_1_method_10_code
def yX7_end : MethodName := ⟨RX7, "end", "(IZ)I"⟩
abbrev cX7_size : ByteArray := prog_1_method_11_code
def yX7_size : MethodName := ⟨RX7, "size", "(I)I"⟩
abbrev cX7_steps : ByteArray := prog_1_method_12_code
def yX7_steps : MethodName := ⟨RX7, "steps", "()I"⟩
abbrev cX7_step : ByteArray := prog_1_method_13_code
def yX7_step : MethodName := ⟨RX7, "step", "(II)I"⟩
abbrev cX7_reason : ByteArray := prog_1_method_14_code
def yX7_reason : MethodName := ⟨RX7, "reason", "(I)I"⟩
abbrev cX7_part : ByteArray := prog_1_method_15_code
def yX7_part : MethodName := ⟨RX7, "part", "(II)I"⟩
abbrev cX7_told : ByteArray := prog_1_method_16_code
def yX7_told : MethodName := ⟨RX7, "told", "(II)I"⟩
abbrev cX7_plans : ByteArray := prog_1_method_17_code
def yX7_plans : MethodName := ⟨RX7, "plans", "()I"⟩
abbrev cX7_beginAnew : ByteArray := prog_1_method_18_code
def yX7_beginAnew : MethodName := ⟨RX7, "beginAnew", "()V"⟩
abbrev cX7_isName : ByteArray := prog_1_method_19_code
def yX7_isName : MethodName := ⟨RX7, "isName", "(I)Z"⟩
abbrev cX7_isRow : ByteArray := prog_1_method_20_code
def yX7_isRow : MethodName := ⟨RX7, "isRow", "(I)Z"⟩
abbrev cX7_isStep : ByteArray := prog_1_method_21_code
def yX7_isStep : MethodName := ⟨RX7, "isStep", "(I)Z"⟩
abbrev cX7_isPart : ByteArray := prog_1_method_22_code
def yX7_isPart : MethodName := ⟨RX7, "isPart", "(II)Z"⟩
abbrev cX7_areDifferentNames : ByteArray := prog_1_method_23_code
def yX7_areDifferentNames : MethodName := ⟨RX7, "areDifferentNames", "(IIII)Z"⟩
abbrev cX7_isNumber : ByteArray := prog_1_method_24_code
def yX7_isNumber : MethodName := ⟨RX7, "isNumber", "(I)Z"⟩
abbrev cX7_bitOf : ByteArray := prog_1_method_25_code
def yX7_bitOf : MethodName := ⟨RX7, "bitOf", "(I)J"⟩
abbrev cX7_hasBit : ByteArray := prog_1_method_26_code
def yX7_hasBit : MethodName := ⟨RX7, "hasBit", "(JI)Z"⟩
abbrev cX7_leastOf : ByteArray := prog_1_method_27_code
def yX7_leastOf : MethodName := ⟨RX7, "leastOf", "(J)I"⟩
abbrev cX7_mostOf : ByteArray := prog_1_method_28_code
def yX7_mostOf : MethodName := ⟨RX7, "mostOf", "(J)I"⟩
def RX8 : String := "LinearReachModel"
def TX8 : u_T := fun k => match k with
  | 0 => ("LinearReachModel", "names", "I", false)
  | 1 => ("LinearReachModel", "rows", "I", false)
  | 2 => ("LinearReachModel", "first", "[Z", true)
  | 3 => ("LinearReachModel", "set", "[Z", true)
  | 4 => ("LinearReachModel", "kinds", "[I", true)
  | 5 => ("LinearReachModel", "abc", "[I", true)
  | 6 => ("LinearReachModel", "rights", "[I", true)
  | 7 => ("LinearReachModel", "factors", "[I", true)
  | 8 => ("LinearReachModel", "rounds", "I", false)
  | 9 => ("LinearReachModel", "clash", "I", false)
  | 10 => ("LinearReachModel", "steps", "I", false)
  | 11 => ("LinearReachModel", "stepRow", "[I", true)
  | 12 => ("LinearReachModel", "stepName", "[I", true)
  | 13 => ("LinearReachModel", "stepNumber", "[I", true)
  | 14 => ("LinearReachModel", "stepRound", "[I", true)
  | 15 => ("LinearReachModel", "isPart", "[Z", true)
  | 16 => ("LinearReachModel", "bound", "[I", true)
  | 17 => ("LinearReachModel", "low", "[I", true)
  | _ => ("LinearReachModel", "high", "[I", true)
def tyX8 : Nat → FieldType := fun k => match k with
  | 0 => .int
  | 1 => .int
  | 2 => .array .boolean
  | 3 => .array .boolean
  | 4 => .array .int
  | 5 => .array .int
  | 6 => .array .int
  | 7 => .array .int
  | 8 => .int
  | 9 => .int
  | 10 => .int
  | 11 => .array .int
  | 12 => .array .int
  | 13 => .array .int
  | 14 => .array .int
  | 15 => .array .boolean
  | 16 => .array .int
  | 17 => .array .int
  | _ => .array .int
abbrev wsX80 : List Cond := u_ws RX8 TX8 19
theorem nmX8 : ∀ a, a < 19 → ∀ b, b < 19 → a ≠ b → (TX8 a).2.1 ≠ (TX8 b).2.1 := by decide +kernel
theorem tyX8_ok : ∀ k, k < 19 → parseFieldDescriptor (TX8 k).2.2.1 = some (tyX8 k) := by decide +kernel
abbrev cX8_init : ByteArray := prog_10_method_1_code
def yX8_init : MethodName := ⟨RX8, "<init>", "()V"⟩
abbrev cX8_in : ByteArray := prog_10_method_2_code
def yX8_in : MethodName := ⟨RX8, "in", "(III)Z"⟩
abbrev cX8_isName : ByteArray := prog_10_method_3_code
def yX8_isName : MethodName := ⟨RX8, "isName", "(I)Z"⟩
abbrev cX8_isRow : ByteArray := prog_10_method_4_code
def yX8_isRow : MethodName := ⟨RX8, "isRow", "(I)Z"⟩
abbrev cX8_anew : ByteArray := prog_10_method_5_code
def yX8_anew : MethodName := ⟨RX8, "anew", "()V"⟩
abbrev cX8_name : ByteArray := prog_10_method_6_code
def yX8_name : MethodName := ⟨RX8, "name", "(II)I"⟩
abbrev cX8_many : ByteArray := prog_10_method_7_code
def yX8_many : MethodName := ⟨RX8, "many", "(IZ)I"⟩
abbrev cX8_leave : ByteArray := prog_10_method_8_code
def yX8_leave : MethodName := ⟨RX8, "leave", "(II)I"⟩
abbrev cX8_owns : ByteArray := prog_10_method_9_code
def yX8_owns : MethodName := ⟨RX8, "owns", "(I)I"⟩
abbrev cX8_hasFactors : ByteArray := prog_10_method_10_code
def yX8_hasFactors : MethodName := ⟨RX8, "hasFactors", "(I)Z"⟩
abbrev cX8_row : ByteArray := prog_10_method_11_code
def yX8_row : MethodName := ⟨RX8, "row", "(IIIII)I"⟩
abbrev cX8_factor : ByteArray := prog_10_method_12_code
def yX8_factor : MethodName := ⟨RX8, "factor", "(III)I"⟩
abbrev cX8_clear : ByteArray := prog_10_method_13_code
def yX8_clear : MethodName := ⟨RX8, "clear", "()I"⟩
abbrev cX8_may : ByteArray := prog_10_method_14_code
def yX8_may : MethodName := ⟨RX8, "may", "(II)Z"⟩
abbrev cX8_leastSum : ByteArray := prog_10_method_15_code
def yX8_leastSum : MethodName := ⟨RX8, "leastSum", "(II)I"⟩
abbrev cX8_down : ByteArray := prog_10_method_16_code
def yX8_down : MethodName := ⟨RX8, "down", "(II)I"⟩
abbrev cX8_come : ByteArray := prog_10_method_17_code
def yX8_come : MethodName := ⟨RX8, "come", "(III)I"⟩
abbrev cX8_byThree : ByteArray := prog_10_method_18_code
def yX8_byThree : MethodName := ⟨RX8, "byThree", "(I)Z"⟩
abbrev cX8_byTwo : ByteArray := prog_10_method_19_code
def yX8_byTwo : MethodName := ⟨RX8, "byTwo", "(I)Z"⟩
abbrev cX8_byCount : ByteArray := prog_10_method_20_code
def yX8_byCount : MethodName := ⟨RX8, "byCount", "(I)Z"⟩
abbrev cX8_can : ByteArray := prog_10_method_21_code
def yX8_can : MethodName := ⟨RX8, "can", "(I)Z"⟩
abbrev cX8_impossible : ByteArray := prog_10_method_22_code
def yX8_impossible : MethodName := ⟨RX8, "impossible", "(III)Z"⟩
abbrev cX8_least : ByteArray := prog_10_method_23_code
def yX8_least : MethodName := ⟨RX8, "least", "(IZ)I"⟩
abbrev cX8_most : ByteArray := prog_10_method_24_code
def yX8_most : MethodName := ⟨RX8, "most", "(IZ)I"⟩
abbrev cX8_isAbout : ByteArray := prog_10_method_25_code
def yX8_isAbout : MethodName := ⟨RX8, "isAbout", "(II)Z"⟩
abbrev cX8_bounds : ByteArray := prog_10_method_26_code
def yX8_bounds : MethodName := ⟨RX8, "bounds", "()V"⟩
abbrev cX8_take : ByteArray := prog_10_method_27_code
def yX8_take : MethodName := ⟨RX8, "take", "(III)V"⟩
abbrev cX8_setBound : ByteArray := prog_10_method_28_code
def yX8_setBound : MethodName := ⟨RX8, "setBound", "(II)V"⟩
abbrev cX8_byRow : ByteArray := prog_10_method_29_code
def yX8_byRow : MethodName := ⟨RX8, "byRow", "(I)V"⟩
abbrev cX8_run : ByteArray := prog_10_method_30_code
def yX8_run : MethodName := ⟨RX8, "run", "(II)I"⟩
abbrev cX8_clash : ByteArray := prog_10_method_31_code
def yX8_clash : MethodName := ⟨RX8, "clash", "()I"⟩
abbrev cX8_has : ByteArray := prog_10_method_32_code
def yX8_has : MethodName := ⟨RX8, "has", "(II)I"⟩
abbrev cX8_end : ByteArray := prog_10_method_33_code
def yX8_end : MethodName := ⟨RX8, "end", "(IZ)I"⟩
abbrev cX8_size : ByteArray := prog_10_method_34_code
def yX8_size : MethodName := ⟨RX8, "size", "(I)I"⟩
abbrev cX8_steps : ByteArray := prog_10_method_35_code
def yX8_steps : MethodName := ⟨RX8, "steps", "()I"⟩
abbrev cX8_step : ByteArray := prog_10_method_36_code
def yX8_step : MethodName := ⟨RX8, "step", "(II)I"⟩
abbrev cX8_reason : ByteArray := prog_10_method_37_code
def yX8_reason : MethodName := ⟨RX8, "reason", "(I)I"⟩
abbrev cX8_placeOf : ByteArray := prog_10_method_38_code
def yX8_placeOf : MethodName := ⟨RX8, "placeOf", "(II)I"⟩
abbrev cX8_part : ByteArray := prog_10_method_39_code
def yX8_part : MethodName := ⟨RX8, "part", "(II)I"⟩
abbrev cX8_told : ByteArray := prog_10_method_40_code
def yX8_told : MethodName := ⟨RX8, "told", "(II)I"⟩
abbrev cX8_nextPlan : ByteArray := prog_10_method_41_code
def yX8_nextPlan : MethodName := ⟨RX8, "nextPlan", "()Z"⟩
abbrev cX8_holds : ByteArray := prog_10_method_42_code
def yX8_holds : MethodName := ⟨RX8, "holds", "(I)Z"⟩
abbrev cX8_plans : ByteArray := prog_10_method_43_code
def yX8_plans : MethodName := ⟨RX8, "plans", "()I"⟩
def RJ6 : String := "java/lang/Integer"
def TJ6 : u_T := fun k => match k with
  | _ => ("", "", "", false)
def tyJ6 : Nat → FieldType := fun k => match k with
  | _ => .int
abbrev wsJ60 : List Cond := u_ws RJ6 TJ6 0
theorem nmJ6 : ∀ a, a < 0 → ∀ b, b < 0 → a ≠ b → (TJ6 a).2.1 ≠ (TJ6 b).2.1 := by decide +kernel
theorem tyJ6_ok : ∀ k, k < 0 → parseFieldDescriptor (TJ6 k).2.2.1 = some (tyJ6 k) := by decide +kernel
abbrev cJ6_numberOfLeadingZeros_0f7a4 : ByteArray := prog_11_method_47_code
def yJ6_numberOfLeadingZeros_0f7a4 : MethodName := ⟨RJ6, "numberOfLeadingZeros", "(I)I"⟩
abbrev cJ6_numberOfTrailingZeros_0f7a4 : ByteArray := prog_11_method_48_code
def yJ6_numberOfTrailingZeros_0f7a4 : MethodName := ⟨RJ6, "numberOfTrailingZeros", "(I)I"⟩
abbrev cJ6_bitCount_0f7a4 : ByteArray := prog_11_method_49_code
def yJ6_bitCount_0f7a4 : MethodName := ⟨RJ6, "bitCount", "(I)I"⟩
def RJ13 : String := "java/lang/Long"
def TJ13 : u_T := fun k => match k with
  | _ => ("", "", "", false)
def tyJ13 : Nat → FieldType := fun k => match k with
  | _ => .int
abbrev wsJ130 : List Cond := u_ws RJ13 TJ13 0
theorem nmJ13 : ∀ a, a < 0 → ∀ b, b < 0 → a ≠ b → (TJ13 a).2.1 ≠ (TJ13 b).2.1 := by decide +kernel
theorem tyJ13_ok : ∀ k, k < 0 → parseFieldDescriptor (TJ13 k).2.2.1 = some (tyJ13 k) := by decide +kernel
abbrev cJ13_numberOfLeadingZeros_95d88 : ByteArray := prog_12_method_48_code
def yJ13_numberOfLeadingZeros_95d88 : MethodName := ⟨RJ13, "numberOfLeadingZeros", "(J)I"⟩
abbrev cJ13_numberOfTrailingZeros_95d88 : ByteArray := prog_12_method_49_code
def yJ13_numberOfTrailingZeros_95d88 : MethodName := ⟨RJ13, "numberOfTrailingZeros", "(J)I"⟩
abbrev cJ13_bitCount_95d88 : ByteArray := prog_12_method_50_code
def yJ13_bitCount_95d88 : MethodName := ⟨RJ13, "bitCount", "(J)I"⟩
def RJ9 : String := "java/lang/Math"
def TJ9 : u_T := fun k => match k with
  | _ => ("", "", "", false)
def tyJ9 : Nat → FieldType := fun k => match k with
  | _ => .int
abbrev wsJ90 : List Cond := u_ws RJ9 TJ9 0
theorem nmJ9 : ∀ a, a < 0 → ∀ b, b < 0 → a ≠ b → (TJ9 a).2.1 ≠ (TJ9 b).2.1 := by decide +kernel
theorem tyJ9_ok : ∀ k, k < 0 → parseFieldDescriptor (TJ9 k).2.2.1 = some (tyJ9 k) := by decide +kernel
abbrev cJ9_floorDiv_7cf53 : ByteArray := prog_13_method_47_code
def yJ9_floorDiv_7cf53 : MethodName := ⟨RJ9, "floorDiv", "(II)I"⟩
abbrev cJ9_abs_0f7a4 : ByteArray := prog_13_method_59_code
def yJ9_abs_0f7a4 : MethodName := ⟨RJ9, "abs", "(I)I"⟩
abbrev cJ9_max_7cf53 : ByteArray := prog_13_method_65_code
def yJ9_max_7cf53 : MethodName := ⟨RJ9, "max", "(II)I"⟩
abbrev cJ9_min_7cf53 : ByteArray := prog_13_method_69_code
def yJ9_min_7cf53 : MethodName := ⟨RJ9, "min", "(II)I"⟩
def RJ10 : String := "java/lang/System"
def TJ10 : u_T := fun k => match k with
  | _ => ("", "", "", false)
def tyJ10 : Nat → FieldType := fun k => match k with
  | _ => .int
abbrev wsJ100 : List Cond := u_ws RJ10 TJ10 0
theorem nmJ10 : ∀ a, a < 0 → ∀ b, b < 0 → a ≠ b → (TJ10 a).2.1 ≠ (TJ10 b).2.1 := by decide +kernel
theorem tyJ10_ok : ∀ k, k < 0 → parseFieldDescriptor (TJ10 k).2.2.1 = some (tyJ10 k) := by decide +kernel
def RL : String := "LinearReachLaw"
abbrev cL_law : ByteArray := code
def yL_law : MethodName := ⟨RL, "law", "([I)Z"⟩
abbrev vwCl : List vw_C := [(RX0, TX0, 4), (RX1, TX1, 6), (RX2, TX2, 2), (RX3, TX3, 5), (RX4, TX4, 6), (RX5, TX5, 2), (RX6, TX6, 6), (RX7, TX7, 5), (RX8, TX8, 19)]
end
section
theorem dX0_init_0 : decode cX0_init 0 = .ok (.aload_n 0, 1) := by decide +kernel
theorem dX0_init_1 : decode cX0_init 1 = .ok (.invokespecial 3, 3) := by decide +kernel
theorem dX0_init_4 : decode cX0_init 4 = .ok (.aload_n 0, 1) := by decide +kernel
theorem dX0_init_5 : decode cX0_init 5 = .ok (.bipush 8, 2) := by decide +kernel
theorem dX0_init_7 : decode cX0_init 7 = .ok (.newarray .int, 2) := by decide +kernel
theorem dX0_init_9 : decode cX0_init 9 = .ok (.putfield 9, 3) := by decide +kernel
theorem dX0_init_12 : decode cX0_init 12 = .ok (.aload_n 0, 1) := by decide +kernel
theorem dX0_init_13 : decode cX0_init 13 = .ok (.bipush 12, 2) := by decide +kernel
theorem dX0_init_15 : decode cX0_init 15 = .ok (.newarray .int, 2) := by decide +kernel
theorem dX0_init_17 : decode cX0_init 17 = .ok (.putfield 15, 3) := by decide +kernel
theorem dX0_init_20 : decode cX0_init 20 = .ok (.aload_n 0, 1) := by decide +kernel
theorem dX0_init_21 : decode cX0_init 21 = .ok (.aload_n 1, 1) := by decide +kernel
theorem dX0_init_22 : decode cX0_init 22 = .ok (.putfield 18, 3) := by decide +kernel
theorem dX0_init_25 : decode cX0_init 25 = .ok (.aload_n 0, 1) := by decide +kernel
theorem dX0_init_26 : decode cX0_init 26 = .ok (.aload_n 2, 1) := by decide +kernel
theorem dX0_init_27 : decode cX0_init 27 = .ok (.putfield 22, 3) := by decide +kernel
theorem dX0_init_30 : decode cX0_init 30 = .ok (.return_, 1) := by decide +kernel
theorem dX0_countAll_0 : decode cX0_countAll 0 = .ok (.iconst 0, 1) := by decide +kernel
theorem dX0_countAll_1 : decode cX0_countAll 1 = .ok (.istore_n 1, 1) := by decide +kernel
theorem dX0_countAll_2 : decode cX0_countAll 2 = .ok (.iload_n 1, 1) := by decide +kernel
theorem dX0_countAll_3 : decode cX0_countAll 3 = .ok (.aload_n 0, 1) := by decide +kernel
theorem dX0_countAll_4 : decode cX0_countAll 4 = .ok (.getfield 22, 3) := by decide +kernel
theorem dX0_countAll_7 : decode cX0_countAll 7 = .ok (.getfield 26, 3) := by decide +kernel
theorem dX0_countAll_10 : decode cX0_countAll 10 = .ok (.if_icmp .ge 27, 3) := by decide +kernel
theorem dX0_countAll_13 : decode cX0_countAll 13 = .ok (.aload_n 0, 1) := by decide +kernel
theorem dX0_countAll_14 : decode cX0_countAll 14 = .ok (.getfield 15, 3) := by decide +kernel
theorem dX0_countAll_17 : decode cX0_countAll 17 = .ok (.iload_n 1, 1) := by decide +kernel
theorem dX0_countAll_18 : decode cX0_countAll 18 = .ok (.aload_n 0, 1) := by decide +kernel
theorem dX0_countAll_19 : decode cX0_countAll 19 = .ok (.getfield 22, 3) := by decide +kernel
theorem dX0_countAll_22 : decode cX0_countAll 22 = .ok (.getfield 32, 3) := by decide +kernel
theorem dX0_countAll_25 : decode cX0_countAll 25 = .ok (.iload_n 1, 1) := by decide +kernel
theorem dX0_countAll_26 : decode cX0_countAll 26 = .ok (.aaload, 1) := by decide +kernel
theorem dX0_countAll_27 : decode cX0_countAll 27 = .ok (.invokevirtual 36, 3) := by decide +kernel
theorem dX0_countAll_30 : decode cX0_countAll 30 = .ok (.iastore, 1) := by decide +kernel
theorem dX0_countAll_31 : decode cX0_countAll 31 = .ok (.iinc 1 1, 3) := by decide +kernel
theorem dX0_countAll_34 : decode cX0_countAll 34 = .ok (.goto (-32), 3) := by decide +kernel
theorem dX0_countAll_37 : decode cX0_countAll 37 = .ok (.aload_n 0, 1) := by decide +kernel
theorem dX0_countAll_38 : decode cX0_countAll 38 = .ok (.iconst (-1), 1) := by decide +kernel
theorem dX0_countAll_39 : decode cX0_countAll 39 = .ok (.invokevirtual 42, 3) := by decide +kernel
theorem dX0_countAll_42 : decode cX0_countAll 42 = .ok (.ifCond .eq 11, 3) := by decide +kernel
theorem dX0_countAll_45 : decode cX0_countAll 45 = .ok (.aload_n 0, 1) := by decide +kernel
theorem dX0_countAll_46 : decode cX0_countAll 46 = .ok (.iconst 0, 1) := by decide +kernel
theorem dX0_countAll_47 : decode cX0_countAll 47 = .ok (.invokevirtual 46, 3) := by decide +kernel
theorem dX0_countAll_50 : decode cX0_countAll 50 = .ok (.goto 4, 3) := by decide +kernel
theorem dX0_countAll_53 : decode cX0_countAll 53 = .ok (.iconst 0, 1) := by decide +kernel
theorem dX0_countAll_54 : decode cX0_countAll 54 = .ok (.ireturn, 1) := by decide +kernel
theorem dX0_countFrom_0 : decode cX0_countFrom 0 = .ok (.iload_n 1, 1) := by decide +kernel
theorem dX0_countFrom_1 : decode cX0_countFrom 1 = .ok (.aload_n 0, 1) := by decide +kernel
theorem dX0_countFrom_2 : decode cX0_countFrom 2 = .ok (.getfield 18, 3) := by decide +kernel
theorem dX0_countFrom_5 : decode cX0_countFrom 5 = .ok (.getfield 50, 3) := by decide +kernel
theorem dX0_countFrom_8 : decode cX0_countFrom 8 = .ok (.if_icmp .lt 5, 3) := by decide +kernel
theorem dX0_countFrom_11 : decode cX0_countFrom 11 = .ok (.iconst 1, 1) := by decide +kernel
theorem dX0_countFrom_12 : decode cX0_countFrom 12 = .ok (.ireturn, 1) := by decide +kernel
theorem dX0_countFrom_13 : decode cX0_countFrom 13 = .ok (.iconst 0, 1) := by decide +kernel
theorem dX0_countFrom_14 : decode cX0_countFrom 14 = .ok (.istore_n 2, 1) := by decide +kernel
theorem dX0_countFrom_15 : decode cX0_countFrom 15 = .ok (.aload_n 0, 1) := by decide +kernel
theorem dX0_countFrom_16 : decode cX0_countFrom 16 = .ok (.getfield 18, 3) := by decide +kernel
theorem dX0_countFrom_19 : decode cX0_countFrom 19 = .ok (.getfield 53, 3) := by decide +kernel
theorem dX0_countFrom_22 : decode cX0_countFrom 22 = .ok (.getfield 57, 3) := by decide +kernel
theorem dX0_countFrom_25 : decode cX0_countFrom 25 = .ok (.iload_n 1, 1) := by decide +kernel
theorem dX0_countFrom_26 : decode cX0_countFrom 26 = .ok (.iaload, 1) := by decide +kernel
theorem dX0_countFrom_27 : decode cX0_countFrom 27 = .ok (.istore_n 3, 1) := by decide +kernel
theorem dX0_countFrom_28 : decode cX0_countFrom 28 = .ok (.iload_n 3, 1) := by decide +kernel
theorem dX0_countFrom_29 : decode cX0_countFrom 29 = .ok (.aload_n 0, 1) := by decide +kernel
theorem dX0_countFrom_30 : decode cX0_countFrom 30 = .ok (.getfield 18, 3) := by decide +kernel
theorem dX0_countFrom_33 : decode cX0_countFrom 33 = .ok (.getfield 53, 3) := by decide +kernel
theorem dX0_countFrom_36 : decode cX0_countFrom 36 = .ok (.getfield 62, 3) := by decide +kernel
theorem dX0_countFrom_39 : decode cX0_countFrom 39 = .ok (.iload_n 1, 1) := by decide +kernel
theorem dX0_countFrom_40 : decode cX0_countFrom 40 = .ok (.iaload, 1) := by decide +kernel
theorem dX0_countFrom_41 : decode cX0_countFrom 41 = .ok (.if_icmp .gt 54, 3) := by decide +kernel
theorem dX0_countFrom_44 : decode cX0_countFrom 44 = .ok (.aload_n 0, 1) := by decide +kernel
theorem dX0_countFrom_45 : decode cX0_countFrom 45 = .ok (.getfield 18, 3) := by decide +kernel
theorem dX0_countFrom_48 : decode cX0_countFrom 48 = .ok (.getfield 65, 3) := by decide +kernel
theorem dX0_countFrom_51 : decode cX0_countFrom 51 = .ok (.iload_n 1, 1) := by decide +kernel
theorem dX0_countFrom_52 : decode cX0_countFrom 52 = .ok (.laload, 1) := by decide +kernel
theorem dX0_countFrom_53 : decode cX0_countFrom 53 = .ok (.iload_n 3, 1) := by decide +kernel
theorem dX0_countFrom_54 : decode cX0_countFrom 54 = .ok (.invokestatic 69, 3) := by decide +kernel
theorem dX0_countFrom_57 : decode cX0_countFrom 57 = .ok (.ifCond .eq 32, 3) := by decide +kernel
theorem dX0_countFrom_60 : decode cX0_countFrom 60 = .ok (.aload_n 0, 1) := by decide +kernel
theorem dX0_countFrom_61 : decode cX0_countFrom 61 = .ok (.getfield 9, 3) := by decide +kernel
theorem dX0_countFrom_64 : decode cX0_countFrom 64 = .ok (.iload_n 1, 1) := by decide +kernel
theorem dX0_countFrom_65 : decode cX0_countFrom 65 = .ok (.iload_n 3, 1) := by decide +kernel
theorem dX0_countFrom_66 : decode cX0_countFrom 66 = .ok (.iastore, 1) := by decide +kernel
theorem dX0_countFrom_67 : decode cX0_countFrom 67 = .ok (.iload_n 2, 1) := by decide +kernel
theorem dX0_countFrom_68 : decode cX0_countFrom 68 = .ok (.aload_n 0, 1) := by decide +kernel
theorem dX0_countFrom_69 : decode cX0_countFrom 69 = .ok (.iload_n 1, 1) := by decide +kernel
theorem dX0_countFrom_70 : decode cX0_countFrom 70 = .ok (.invokevirtual 42, 3) := by decide +kernel
theorem dX0_countFrom_73 : decode cX0_countFrom 73 = .ok (.ifCond .eq 13, 3) := by decide +kernel
theorem dX0_countFrom_76 : decode cX0_countFrom 76 = .ok (.aload_n 0, 1) := by decide +kernel
theorem dX0_countFrom_77 : decode cX0_countFrom 77 = .ok (.iload_n 1, 1) := by decide +kernel
theorem dX0_countFrom_78 : decode cX0_countFrom 78 = .ok (.iconst 1, 1) := by decide +kernel
theorem dX0_countFrom_79 : decode cX0_countFrom 79 = .ok (.iadd, 1) := by decide +kernel
theorem dX0_countFrom_80 : decode cX0_countFrom 80 = .ok (.invokevirtual 46, 3) := by decide +kernel
theorem dX0_countFrom_83 : decode cX0_countFrom 83 = .ok (.goto 4, 3) := by decide +kernel
theorem dX0_countFrom_86 : decode cX0_countFrom 86 = .ok (.iconst 0, 1) := by decide +kernel
theorem dX0_countFrom_87 : decode cX0_countFrom 87 = .ok (.iadd, 1) := by decide +kernel
theorem dX0_countFrom_88 : decode cX0_countFrom 88 = .ok (.istore_n 2, 1) := by decide +kernel
theorem dX0_countFrom_89 : decode cX0_countFrom 89 = .ok (.iinc 3 1, 3) := by decide +kernel
theorem dX0_countFrom_92 : decode cX0_countFrom 92 = .ok (.goto (-64), 3) := by decide +kernel
theorem dX0_countFrom_95 : decode cX0_countFrom 95 = .ok (.iload_n 2, 1) := by decide +kernel
theorem dX0_countFrom_96 : decode cX0_countFrom 96 = .ok (.ireturn, 1) := by decide +kernel
theorem dX0_rowsHoldWith_0 : decode cX0_rowsHoldWith 0 = .ok (.iconst 0, 1) := by decide +kernel
theorem dX0_rowsHoldWith_1 : decode cX0_rowsHoldWith 1 = .ok (.istore_n 2, 1) := by decide +kernel
theorem dX0_rowsHoldWith_2 : decode cX0_rowsHoldWith 2 = .ok (.iload_n 2, 1) := by decide +kernel
theorem dX0_rowsHoldWith_3 : decode cX0_rowsHoldWith 3 = .ok (.aload_n 0, 1) := by decide +kernel
theorem dX0_rowsHoldWith_4 : decode cX0_rowsHoldWith 4 = .ok (.getfield 22, 3) := by decide +kernel
theorem dX0_rowsHoldWith_7 : decode cX0_rowsHoldWith 7 = .ok (.getfield 26, 3) := by decide +kernel
theorem dX0_rowsHoldWith_10 : decode cX0_rowsHoldWith 10 = .ok (.if_icmp .ge 40, 3) := by decide +kernel
theorem dX0_rowsHoldWith_13 : decode cX0_rowsHoldWith 13 = .ok (.aload_n 0, 1) := by decide +kernel
theorem dX0_rowsHoldWith_14 : decode cX0_rowsHoldWith 14 = .ok (.getfield 15, 3) := by decide +kernel
theorem dX0_rowsHoldWith_17 : decode cX0_rowsHoldWith 17 = .ok (.iload_n 2, 1) := by decide +kernel
theorem dX0_rowsHoldWith_18 : decode cX0_rowsHoldWith 18 = .ok (.iaload, 1) := by decide +kernel
theorem dX0_rowsHoldWith_19 : decode cX0_rowsHoldWith 19 = .ok (.iload_n 1, 1) := by decide +kernel
theorem dX0_rowsHoldWith_20 : decode cX0_rowsHoldWith 20 = .ok (.if_icmp .ne 24, 3) := by decide +kernel
theorem dX0_rowsHoldWith_23 : decode cX0_rowsHoldWith 23 = .ok (.aload_n 0, 1) := by decide +kernel
theorem dX0_rowsHoldWith_24 : decode cX0_rowsHoldWith 24 = .ok (.getfield 22, 3) := by decide +kernel
theorem dX0_rowsHoldWith_27 : decode cX0_rowsHoldWith 27 = .ok (.getfield 32, 3) := by decide +kernel
theorem dX0_rowsHoldWith_30 : decode cX0_rowsHoldWith 30 = .ok (.iload_n 2, 1) := by decide +kernel
theorem dX0_rowsHoldWith_31 : decode cX0_rowsHoldWith 31 = .ok (.aaload, 1) := by decide +kernel
theorem dX0_rowsHoldWith_32 : decode cX0_rowsHoldWith 32 = .ok (.aload_n 0, 1) := by decide +kernel
theorem dX0_rowsHoldWith_33 : decode cX0_rowsHoldWith 33 = .ok (.getfield 9, 3) := by decide +kernel
theorem dX0_rowsHoldWith_36 : decode cX0_rowsHoldWith 36 = .ok (.invokevirtual 73, 3) := by decide +kernel
theorem dX0_rowsHoldWith_39 : decode cX0_rowsHoldWith 39 = .ok (.ifCond .ne 5, 3) := by decide +kernel
theorem dX0_rowsHoldWith_42 : decode cX0_rowsHoldWith 42 = .ok (.iconst 0, 1) := by decide +kernel
theorem dX0_rowsHoldWith_43 : decode cX0_rowsHoldWith 43 = .ok (.ireturn, 1) := by decide +kernel
theorem dX0_rowsHoldWith_44 : decode cX0_rowsHoldWith 44 = .ok (.iinc 2 1, 3) := by decide +kernel
theorem dX0_rowsHoldWith_47 : decode cX0_rowsHoldWith 47 = .ok (.goto (-45), 3) := by decide +kernel
theorem dX0_rowsHoldWith_50 : decode cX0_rowsHoldWith 50 = .ok (.iconst 1, 1) := by decide +kernel
theorem dX0_rowsHoldWith_51 : decode cX0_rowsHoldWith 51 = .ok (.ireturn, 1) := by decide +kernel
theorem dX1_init_0 : decode cX1_init 0 = .ok (.aload_n 0, 1) := by decide +kernel
theorem dX1_init_1 : decode cX1_init 1 = .ok (.invokespecial 3, 3) := by decide +kernel
theorem dX1_init_4 : decode cX1_init 4 = .ok (.aload_n 0, 1) := by decide +kernel
theorem dX1_init_5 : decode cX1_init 5 = .ok (.iconst 0, 1) := by decide +kernel
theorem dX1_init_6 : decode cX1_init 6 = .ok (.putfield 9, 3) := by decide +kernel
theorem dX1_init_9 : decode cX1_init 9 = .ok (.aload_n 0, 1) := by decide +kernel
theorem dX1_init_10 : decode cX1_init 10 = .ok (.iconst (-1), 1) := by decide +kernel
theorem dX1_init_11 : decode cX1_init 11 = .ok (.putfield 15, 3) := by decide +kernel
theorem dX1_init_14 : decode cX1_init 14 = .ok (.aload_n 0, 1) := by decide +kernel
theorem dX1_init_15 : decode cX1_init 15 = .ok (.iconst (-1), 1) := by decide +kernel
theorem dX1_init_16 : decode cX1_init 16 = .ok (.putfield 18, 3) := by decide +kernel
theorem dX1_init_19 : decode cX1_init 19 = .ok (.aload_n 0, 1) := by decide +kernel
theorem dX1_init_20 : decode cX1_init 20 = .ok (.iconst (-1), 1) := by decide +kernel
theorem dX1_init_21 : decode cX1_init 21 = .ok (.putfield 21, 3) := by decide +kernel
theorem dX1_init_24 : decode cX1_init 24 = .ok (.aload_n 0, 1) := by decide +kernel
theorem dX1_init_25 : decode cX1_init 25 = .ok (.iconst 0, 1) := by decide +kernel
theorem dX1_init_26 : decode cX1_init 26 = .ok (.putfield 24, 3) := by decide +kernel
theorem dX1_init_29 : decode cX1_init 29 = .ok (.aload_n 0, 1) := by decide +kernel
theorem dX1_init_30 : decode cX1_init 30 = .ok (.bipush 8, 2) := by decide +kernel
theorem dX1_init_32 : decode cX1_init 32 = .ok (.newarray .int, 2) := by decide +kernel
theorem dX1_init_34 : decode cX1_init 34 = .ok (.putfield 27, 3) := by decide +kernel
theorem dX1_init_37 : decode cX1_init 37 = .ok (.return_, 1) := by decide +kernel
theorem dX1_become_0 : decode cX1_become 0 = .ok (.aload_n 0, 1) := by decide +kernel
theorem dX1_become_1 : decode cX1_become 1 = .ok (.iload_n 1, 1) := by decide +kernel
theorem dX1_become_2 : decode cX1_become 2 = .ok (.putfield 9, 3) := by decide +kernel
theorem dX1_become_5 : decode cX1_become 5 = .ok (.aload_n 0, 1) := by decide +kernel
theorem dX1_become_6 : decode cX1_become 6 = .ok (.iload_n 2, 1) := by decide +kernel
theorem dX1_become_7 : decode cX1_become 7 = .ok (.putfield 24, 3) := by decide +kernel
theorem dX1_become_10 : decode cX1_become 10 = .ok (.iconst 0, 1) := by decide +kernel
theorem dX1_become_11 : decode cX1_become 11 = .ok (.istore_n 3, 1) := by decide +kernel
theorem dX1_become_12 : decode cX1_become 12 = .ok (.iload_n 3, 1) := by decide +kernel
theorem dX1_become_13 : decode cX1_become 13 = .ok (.bipush 8, 2) := by decide +kernel
theorem dX1_become_15 : decode cX1_become 15 = .ok (.if_icmp .ge 16, 3) := by decide +kernel
theorem dX1_become_18 : decode cX1_become 18 = .ok (.aload_n 0, 1) := by decide +kernel
theorem dX1_become_19 : decode cX1_become 19 = .ok (.getfield 27, 3) := by decide +kernel
theorem dX1_become_22 : decode cX1_become 22 = .ok (.iload_n 3, 1) := by decide +kernel
theorem dX1_become_23 : decode cX1_become 23 = .ok (.iconst 0, 1) := by decide +kernel
theorem dX1_become_24 : decode cX1_become 24 = .ok (.iastore, 1) := by decide +kernel
theorem dX1_become_25 : decode cX1_become 25 = .ok (.iinc 3 1, 3) := by decide +kernel
theorem dX1_become_28 : decode cX1_become 28 = .ok (.goto (-16), 3) := by decide +kernel
theorem dX1_become_31 : decode cX1_become 31 = .ok (.return_, 1) := by decide +kernel
theorem dX1_tie_0 : decode cX1_tie 0 = .ok (.aload_n 0, 1) := by decide +kernel
theorem dX1_tie_1 : decode cX1_tie 1 = .ok (.iload_n 1, 1) := by decide +kernel
theorem dX1_tie_2 : decode cX1_tie 2 = .ok (.putfield 15, 3) := by decide +kernel
theorem dX1_tie_5 : decode cX1_tie 5 = .ok (.aload_n 0, 1) := by decide +kernel
theorem dX1_tie_6 : decode cX1_tie 6 = .ok (.iload_n 2, 1) := by decide +kernel
theorem dX1_tie_7 : decode cX1_tie 7 = .ok (.putfield 18, 3) := by decide +kernel
theorem dX1_tie_10 : decode cX1_tie 10 = .ok (.aload_n 0, 1) := by decide +kernel
theorem dX1_tie_11 : decode cX1_tie 11 = .ok (.iload_n 3, 1) := by decide +kernel
theorem dX1_tie_12 : decode cX1_tie 12 = .ok (.putfield 21, 3) := by decide +kernel
theorem dX1_tie_15 : decode cX1_tie 15 = .ok (.return_, 1) := by decide +kernel
theorem dX1_hasFactors_0 : decode cX1_hasFactors 0 = .ok (.aload_n 0, 1) := by decide +kernel
theorem dX1_hasFactors_1 : decode cX1_hasFactors 1 = .ok (.getfield 9, 3) := by decide +kernel
theorem dX1_hasFactors_4 : decode cX1_hasFactors 4 = .ok (.ifCond .eq 29, 3) := by decide +kernel
theorem dX1_hasFactors_7 : decode cX1_hasFactors 7 = .ok (.aload_n 0, 1) := by decide +kernel
theorem dX1_hasFactors_8 : decode cX1_hasFactors 8 = .ok (.getfield 9, 3) := by decide +kernel
theorem dX1_hasFactors_11 : decode cX1_hasFactors 11 = .ok (.iconst 1, 1) := by decide +kernel
theorem dX1_hasFactors_12 : decode cX1_hasFactors 12 = .ok (.if_icmp .eq 21, 3) := by decide +kernel
theorem dX1_hasFactors_15 : decode cX1_hasFactors 15 = .ok (.aload_n 0, 1) := by decide +kernel
theorem dX1_hasFactors_16 : decode cX1_hasFactors 16 = .ok (.getfield 9, 3) := by decide +kernel
theorem dX1_hasFactors_19 : decode cX1_hasFactors 19 = .ok (.bipush 8, 2) := by decide +kernel
theorem dX1_hasFactors_21 : decode cX1_hasFactors 21 = .ok (.if_icmp .eq 12, 3) := by decide +kernel
theorem dX1_hasFactors_24 : decode cX1_hasFactors 24 = .ok (.aload_n 0, 1) := by decide +kernel
theorem dX1_hasFactors_25 : decode cX1_hasFactors 25 = .ok (.getfield 9, 3) := by decide +kernel
theorem dX1_hasFactors_28 : decode cX1_hasFactors 28 = .ok (.bipush 9, 2) := by decide +kernel
theorem dX1_hasFactors_30 : decode cX1_hasFactors 30 = .ok (.if_icmp .ne 7, 3) := by decide +kernel
theorem dX1_hasFactors_33 : decode cX1_hasFactors 33 = .ok (.iconst 1, 1) := by decide +kernel
theorem dX1_hasFactors_34 : decode cX1_hasFactors 34 = .ok (.goto 4, 3) := by decide +kernel
theorem dX1_hasFactors_37 : decode cX1_hasFactors 37 = .ok (.iconst 0, 1) := by decide +kernel
theorem dX1_hasFactors_38 : decode cX1_hasFactors 38 = .ok (.ireturn, 1) := by decide +kernel
theorem dX1_isAbout_0 : decode cX1_isAbout 0 = .ok (.iload_n 1, 1) := by decide +kernel
theorem dX1_isAbout_1 : decode cX1_isAbout 1 = .ok (.aload_n 0, 1) := by decide +kernel
theorem dX1_isAbout_2 : decode cX1_isAbout 2 = .ok (.getfield 15, 3) := by decide +kernel
theorem dX1_isAbout_5 : decode cX1_isAbout 5 = .ok (.if_icmp .eq 28, 3) := by decide +kernel
theorem dX1_isAbout_8 : decode cX1_isAbout 8 = .ok (.iload_n 1, 1) := by decide +kernel
theorem dX1_isAbout_9 : decode cX1_isAbout 9 = .ok (.aload_n 0, 1) := by decide +kernel
theorem dX1_isAbout_10 : decode cX1_isAbout 10 = .ok (.getfield 18, 3) := by decide +kernel
theorem dX1_isAbout_13 : decode cX1_isAbout 13 = .ok (.if_icmp .eq 20, 3) := by decide +kernel
theorem dX1_isAbout_16 : decode cX1_isAbout 16 = .ok (.iload_n 1, 1) := by decide +kernel
theorem dX1_isAbout_17 : decode cX1_isAbout 17 = .ok (.aload_n 0, 1) := by decide +kernel
theorem dX1_isAbout_18 : decode cX1_isAbout 18 = .ok (.getfield 21, 3) := by decide +kernel
theorem dX1_isAbout_21 : decode cX1_isAbout 21 = .ok (.if_icmp .eq 12, 3) := by decide +kernel
theorem dX1_isAbout_24 : decode cX1_isAbout 24 = .ok (.aload_n 0, 1) := by decide +kernel
theorem dX1_isAbout_25 : decode cX1_isAbout 25 = .ok (.getfield 27, 3) := by decide +kernel
theorem dX1_isAbout_28 : decode cX1_isAbout 28 = .ok (.iload_n 1, 1) := by decide +kernel
theorem dX1_isAbout_29 : decode cX1_isAbout 29 = .ok (.iaload, 1) := by decide +kernel
theorem dX1_isAbout_30 : decode cX1_isAbout 30 = .ok (.ifCond .eq 7, 3) := by decide +kernel
theorem dX1_isAbout_33 : decode cX1_isAbout 33 = .ok (.iconst 1, 1) := by decide +kernel
theorem dX1_isAbout_34 : decode cX1_isAbout 34 = .ok (.goto 4, 3) := by decide +kernel
theorem dX1_isAbout_37 : decode cX1_isAbout 37 = .ok (.iconst 0, 1) := by decide +kernel
theorem dX1_isAbout_38 : decode cX1_isAbout 38 = .ok (.ireturn, 1) := by decide +kernel
theorem dX1_lastName_0 : decode cX1_lastName 0 = .ok (.iconst (-1), 1) := by decide +kernel
theorem dX1_lastName_1 : decode cX1_lastName 1 = .ok (.istore_n 1, 1) := by decide +kernel
theorem dX1_lastName_2 : decode cX1_lastName 2 = .ok (.iconst 0, 1) := by decide +kernel
theorem dX1_lastName_3 : decode cX1_lastName 3 = .ok (.istore_n 2, 1) := by decide +kernel
theorem dX1_lastName_4 : decode cX1_lastName 4 = .ok (.iload_n 2, 1) := by decide +kernel
theorem dX1_lastName_5 : decode cX1_lastName 5 = .ok (.bipush 8, 2) := by decide +kernel
theorem dX1_lastName_7 : decode cX1_lastName 7 = .ok (.if_icmp .ge 19, 3) := by decide +kernel
theorem dX1_lastName_10 : decode cX1_lastName 10 = .ok (.aload_n 0, 1) := by decide +kernel
theorem dX1_lastName_11 : decode cX1_lastName 11 = .ok (.iload_n 2, 1) := by decide +kernel
theorem dX1_lastName_12 : decode cX1_lastName 12 = .ok (.invokevirtual 31, 3) := by decide +kernel
theorem dX1_lastName_15 : decode cX1_lastName 15 = .ok (.ifCond .eq 5, 3) := by decide +kernel
theorem dX1_lastName_18 : decode cX1_lastName 18 = .ok (.iload_n 2, 1) := by decide +kernel
theorem dX1_lastName_19 : decode cX1_lastName 19 = .ok (.istore_n 1, 1) := by decide +kernel
theorem dX1_lastName_20 : decode cX1_lastName 20 = .ok (.iinc 2 1, 3) := by decide +kernel
theorem dX1_lastName_23 : decode cX1_lastName 23 = .ok (.goto (-19), 3) := by decide +kernel
theorem dX1_lastName_26 : decode cX1_lastName 26 = .ok (.iload_n 1, 1) := by decide +kernel
theorem dX1_lastName_27 : decode cX1_lastName 27 = .ok (.ireturn, 1) := by decide +kernel
theorem dX1_holds_0 : decode cX1_holds 0 = .ok (.aload_n 0, 1) := by decide +kernel
theorem dX1_holds_1 : decode cX1_holds 1 = .ok (.getfield 9, 3) := by decide +kernel
theorem dX1_holds_4 : decode cX1_holds 4 = .ok (.tableswitch 293 0 8 #[52, 70, 88, 116, 155, 179, 209, 239, 265], 52) := by decide +kernel
theorem dX1_holds_56 : decode cX1_holds 56 = .ok (.aload_n 0, 1) := by decide +kernel
theorem dX1_holds_57 : decode cX1_holds 57 = .ok (.aload_n 1, 1) := by decide +kernel
theorem dX1_holds_58 : decode cX1_holds 58 = .ok (.invokevirtual 35, 3) := by decide +kernel
theorem dX1_holds_61 : decode cX1_holds 61 = .ok (.aload_n 0, 1) := by decide +kernel
theorem dX1_holds_62 : decode cX1_holds 62 = .ok (.getfield 24, 3) := by decide +kernel
theorem dX1_holds_65 : decode cX1_holds 65 = .ok (.if_icmp .gt 7, 3) := by decide +kernel
theorem dX1_holds_68 : decode cX1_holds 68 = .ok (.iconst 1, 1) := by decide +kernel
theorem dX1_holds_69 : decode cX1_holds 69 = .ok (.goto 4, 3) := by decide +kernel
theorem dX1_holds_72 : decode cX1_holds 72 = .ok (.iconst 0, 1) := by decide +kernel
theorem dX1_holds_73 : decode cX1_holds 73 = .ok (.ireturn, 1) := by decide +kernel
theorem dX1_holds_74 : decode cX1_holds 74 = .ok (.aload_n 0, 1) := by decide +kernel
theorem dX1_holds_75 : decode cX1_holds 75 = .ok (.aload_n 1, 1) := by decide +kernel
theorem dX1_holds_76 : decode cX1_holds 76 = .ok (.invokevirtual 35, 3) := by decide +kernel
theorem dX1_holds_79 : decode cX1_holds 79 = .ok (.aload_n 0, 1) := by decide +kernel
theorem dX1_holds_80 : decode cX1_holds 80 = .ok (.getfield 24, 3) := by decide +kernel
theorem dX1_holds_83 : decode cX1_holds 83 = .ok (.if_icmp .ne 7, 3) := by decide +kernel
theorem dX1_holds_86 : decode cX1_holds 86 = .ok (.iconst 1, 1) := by decide +kernel
theorem dX1_holds_87 : decode cX1_holds 87 = .ok (.goto 4, 3) := by decide +kernel
theorem dX1_holds_90 : decode cX1_holds 90 = .ok (.iconst 0, 1) := by decide +kernel
theorem dX1_holds_91 : decode cX1_holds 91 = .ok (.ireturn, 1) := by decide +kernel
theorem dX1_holds_92 : decode cX1_holds 92 = .ok (.aload_n 1, 1) := by decide +kernel
theorem dX1_holds_93 : decode cX1_holds 93 = .ok (.aload_n 0, 1) := by decide +kernel
theorem dX1_holds_94 : decode cX1_holds 94 = .ok (.getfield 15, 3) := by decide +kernel
theorem dX1_holds_97 : decode cX1_holds 97 = .ok (.iaload, 1) := by decide +kernel
theorem dX1_holds_98 : decode cX1_holds 98 = .ok (.aload_n 1, 1) := by decide +kernel
theorem dX1_holds_99 : decode cX1_holds 99 = .ok (.aload_n 0, 1) := by decide +kernel
theorem dX1_holds_100 : decode cX1_holds 100 = .ok (.getfield 18, 3) := by decide +kernel
theorem dX1_holds_103 : decode cX1_holds 103 = .ok (.iaload, 1) := by decide +kernel
theorem dX1_holds_104 : decode cX1_holds 104 = .ok (.aload_n 1, 1) := by decide +kernel
theorem dX1_holds_105 : decode cX1_holds 105 = .ok (.aload_n 0, 1) := by decide +kernel
theorem dX1_holds_106 : decode cX1_holds 106 = .ok (.getfield 21, 3) := by decide +kernel
theorem dX1_holds_109 : decode cX1_holds 109 = .ok (.iaload, 1) := by decide +kernel
theorem dX1_holds_110 : decode cX1_holds 110 = .ok (.imul, 1) := by decide +kernel
theorem dX1_holds_111 : decode cX1_holds 111 = .ok (.if_icmp .ne 7, 3) := by decide +kernel
theorem dX1_holds_114 : decode cX1_holds 114 = .ok (.iconst 1, 1) := by decide +kernel
theorem dX1_holds_115 : decode cX1_holds 115 = .ok (.goto 4, 3) := by decide +kernel
theorem dX1_holds_118 : decode cX1_holds 118 = .ok (.iconst 0, 1) := by decide +kernel
theorem dX1_holds_119 : decode cX1_holds 119 = .ok (.ireturn, 1) := by decide +kernel
theorem dX1_holds_120 : decode cX1_holds 120 = .ok (.aload_n 1, 1) := by decide +kernel
theorem dX1_holds_121 : decode cX1_holds 121 = .ok (.aload_n 0, 1) := by decide +kernel
theorem dX1_holds_122 : decode cX1_holds 122 = .ok (.getfield 21, 3) := by decide +kernel
theorem dX1_holds_125 : decode cX1_holds 125 = .ok (.iaload, 1) := by decide +kernel
theorem dX1_holds_126 : decode cX1_holds 126 = .ok (.ifCond .eq 31, 3) := by decide +kernel
theorem dX1_holds_129 : decode cX1_holds 129 = .ok (.aload_n 1, 1) := by decide +kernel
theorem dX1_holds_130 : decode cX1_holds 130 = .ok (.aload_n 0, 1) := by decide +kernel
theorem dX1_holds_131 : decode cX1_holds 131 = .ok (.getfield 15, 3) := by decide +kernel
theorem dX1_holds_134 : decode cX1_holds 134 = .ok (.iaload, 1) := by decide +kernel
theorem dX1_holds_135 : decode cX1_holds 135 = .ok (.aload_n 1, 1) := by decide +kernel
theorem dX1_holds_136 : decode cX1_holds 136 = .ok (.aload_n 0, 1) := by decide +kernel
theorem dX1_holds_137 : decode cX1_holds 137 = .ok (.getfield 18, 3) := by decide +kernel
theorem dX1_holds_140 : decode cX1_holds 140 = .ok (.iaload, 1) := by decide +kernel
theorem dX1_holds_141 : decode cX1_holds 141 = .ok (.aload_n 1, 1) := by decide +kernel
theorem dX1_holds_142 : decode cX1_holds 142 = .ok (.aload_n 0, 1) := by decide +kernel
theorem dX1_holds_143 : decode cX1_holds 143 = .ok (.getfield 21, 3) := by decide +kernel
theorem dX1_holds_146 : decode cX1_holds 146 = .ok (.iaload, 1) := by decide +kernel
theorem dX1_holds_147 : decode cX1_holds 147 = .ok (.invokestatic 39, 3) := by decide +kernel
theorem dX1_holds_150 : decode cX1_holds 150 = .ok (.if_icmp .ne 7, 3) := by decide +kernel
theorem dX1_holds_153 : decode cX1_holds 153 = .ok (.iconst 1, 1) := by decide +kernel
theorem dX1_holds_154 : decode cX1_holds 154 = .ok (.goto 4, 3) := by decide +kernel
theorem dX1_holds_157 : decode cX1_holds 157 = .ok (.iconst 0, 1) := by decide +kernel
theorem dX1_holds_158 : decode cX1_holds 158 = .ok (.ireturn, 1) := by decide +kernel
theorem dX1_holds_159 : decode cX1_holds 159 = .ok (.aload_n 1, 1) := by decide +kernel
theorem dX1_holds_160 : decode cX1_holds 160 = .ok (.aload_n 0, 1) := by decide +kernel
theorem dX1_holds_161 : decode cX1_holds 161 = .ok (.getfield 15, 3) := by decide +kernel
theorem dX1_holds_164 : decode cX1_holds 164 = .ok (.iaload, 1) := by decide +kernel
theorem dX1_holds_165 : decode cX1_holds 165 = .ok (.aload_n 1, 1) := by decide +kernel
theorem dX1_holds_166 : decode cX1_holds 166 = .ok (.aload_n 0, 1) := by decide +kernel
theorem dX1_holds_167 : decode cX1_holds 167 = .ok (.getfield 18, 3) := by decide +kernel
theorem dX1_holds_170 : decode cX1_holds 170 = .ok (.iaload, 1) := by decide +kernel
theorem dX1_holds_171 : decode cX1_holds 171 = .ok (.invokestatic 45, 3) := by decide +kernel
theorem dX1_holds_174 : decode cX1_holds 174 = .ok (.if_icmp .ne 7, 3) := by decide +kernel
theorem dX1_holds_177 : decode cX1_holds 177 = .ok (.iconst 1, 1) := by decide +kernel
theorem dX1_holds_178 : decode cX1_holds 178 = .ok (.goto 4, 3) := by decide +kernel
theorem dX1_holds_181 : decode cX1_holds 181 = .ok (.iconst 0, 1) := by decide +kernel
theorem dX1_holds_182 : decode cX1_holds 182 = .ok (.ireturn, 1) := by decide +kernel
theorem dX1_holds_183 : decode cX1_holds 183 = .ok (.aload_n 1, 1) := by decide +kernel
theorem dX1_holds_184 : decode cX1_holds 184 = .ok (.aload_n 0, 1) := by decide +kernel
theorem dX1_holds_185 : decode cX1_holds 185 = .ok (.getfield 15, 3) := by decide +kernel
theorem dX1_holds_188 : decode cX1_holds 188 = .ok (.iaload, 1) := by decide +kernel
theorem dX1_holds_189 : decode cX1_holds 189 = .ok (.aload_n 1, 1) := by decide +kernel
theorem dX1_holds_190 : decode cX1_holds 190 = .ok (.aload_n 0, 1) := by decide +kernel
theorem dX1_holds_191 : decode cX1_holds 191 = .ok (.getfield 18, 3) := by decide +kernel
theorem dX1_holds_194 : decode cX1_holds 194 = .ok (.iaload, 1) := by decide +kernel
theorem dX1_holds_195 : decode cX1_holds 195 = .ok (.aload_n 1, 1) := by decide +kernel
theorem dX1_holds_196 : decode cX1_holds 196 = .ok (.aload_n 0, 1) := by decide +kernel
theorem dX1_holds_197 : decode cX1_holds 197 = .ok (.getfield 21, 3) := by decide +kernel
theorem dX1_holds_200 : decode cX1_holds 200 = .ok (.iaload, 1) := by decide +kernel
theorem dX1_holds_201 : decode cX1_holds 201 = .ok (.invokestatic 49, 3) := by decide +kernel
theorem dX1_holds_204 : decode cX1_holds 204 = .ok (.if_icmp .ne 7, 3) := by decide +kernel
theorem dX1_holds_207 : decode cX1_holds 207 = .ok (.iconst 1, 1) := by decide +kernel
theorem dX1_holds_208 : decode cX1_holds 208 = .ok (.goto 4, 3) := by decide +kernel
theorem dX1_holds_211 : decode cX1_holds 211 = .ok (.iconst 0, 1) := by decide +kernel
theorem dX1_holds_212 : decode cX1_holds 212 = .ok (.ireturn, 1) := by decide +kernel
theorem dX1_holds_213 : decode cX1_holds 213 = .ok (.aload_n 1, 1) := by decide +kernel
theorem dX1_holds_214 : decode cX1_holds 214 = .ok (.aload_n 0, 1) := by decide +kernel
theorem dX1_holds_215 : decode cX1_holds 215 = .ok (.getfield 15, 3) := by decide +kernel
theorem dX1_holds_218 : decode cX1_holds 218 = .ok (.iaload, 1) := by decide +kernel
theorem dX1_holds_219 : decode cX1_holds 219 = .ok (.aload_n 1, 1) := by decide +kernel
theorem dX1_holds_220 : decode cX1_holds 220 = .ok (.aload_n 0, 1) := by decide +kernel
theorem dX1_holds_221 : decode cX1_holds 221 = .ok (.getfield 18, 3) := by decide +kernel
theorem dX1_holds_224 : decode cX1_holds 224 = .ok (.iaload, 1) := by decide +kernel
theorem dX1_holds_225 : decode cX1_holds 225 = .ok (.aload_n 1, 1) := by decide +kernel
theorem dX1_holds_226 : decode cX1_holds 226 = .ok (.aload_n 0, 1) := by decide +kernel
theorem dX1_holds_227 : decode cX1_holds 227 = .ok (.getfield 21, 3) := by decide +kernel
theorem dX1_holds_230 : decode cX1_holds 230 = .ok (.iaload, 1) := by decide +kernel
theorem dX1_holds_231 : decode cX1_holds 231 = .ok (.invokestatic 52, 3) := by decide +kernel
theorem dX1_holds_234 : decode cX1_holds 234 = .ok (.if_icmp .ne 7, 3) := by decide +kernel
theorem dX1_holds_237 : decode cX1_holds 237 = .ok (.iconst 1, 1) := by decide +kernel
theorem dX1_holds_238 : decode cX1_holds 238 = .ok (.goto 4, 3) := by decide +kernel
theorem dX1_holds_241 : decode cX1_holds 241 = .ok (.iconst 0, 1) := by decide +kernel
theorem dX1_holds_242 : decode cX1_holds 242 = .ok (.ireturn, 1) := by decide +kernel
theorem dX1_holds_243 : decode cX1_holds 243 = .ok (.aload_n 1, 1) := by decide +kernel
theorem dX1_holds_244 : decode cX1_holds 244 = .ok (.aload_n 0, 1) := by decide +kernel
theorem dX1_holds_245 : decode cX1_holds 245 = .ok (.getfield 15, 3) := by decide +kernel
theorem dX1_holds_248 : decode cX1_holds 248 = .ok (.iaload, 1) := by decide +kernel
theorem dX1_holds_249 : decode cX1_holds 249 = .ok (.aload_n 1, 1) := by decide +kernel
theorem dX1_holds_250 : decode cX1_holds 250 = .ok (.aload_n 0, 1) := by decide +kernel
theorem dX1_holds_251 : decode cX1_holds 251 = .ok (.getfield 18, 3) := by decide +kernel
theorem dX1_holds_254 : decode cX1_holds 254 = .ok (.iaload, 1) := by decide +kernel
theorem dX1_holds_255 : decode cX1_holds 255 = .ok (.aload_n 0, 1) := by decide +kernel
theorem dX1_holds_256 : decode cX1_holds 256 = .ok (.getfield 24, 3) := by decide +kernel
theorem dX1_holds_259 : decode cX1_holds 259 = .ok (.iadd, 1) := by decide +kernel
theorem dX1_holds_260 : decode cX1_holds 260 = .ok (.if_icmp .eq 7, 3) := by decide +kernel
theorem dX1_holds_263 : decode cX1_holds 263 = .ok (.iconst 1, 1) := by decide +kernel
theorem dX1_holds_264 : decode cX1_holds 264 = .ok (.goto 4, 3) := by decide +kernel
theorem dX1_holds_267 : decode cX1_holds 267 = .ok (.iconst 0, 1) := by decide +kernel
theorem dX1_holds_268 : decode cX1_holds 268 = .ok (.ireturn, 1) := by decide +kernel
theorem dX1_holds_269 : decode cX1_holds 269 = .ok (.aload_n 1, 1) := by decide +kernel
theorem dX1_holds_270 : decode cX1_holds 270 = .ok (.aload_n 0, 1) := by decide +kernel
theorem dX1_holds_271 : decode cX1_holds 271 = .ok (.getfield 15, 3) := by decide +kernel
theorem dX1_holds_274 : decode cX1_holds 274 = .ok (.iaload, 1) := by decide +kernel
theorem dX1_holds_275 : decode cX1_holds 275 = .ok (.iconst 1, 1) := by decide +kernel
theorem dX1_holds_276 : decode cX1_holds 276 = .ok (.if_icmp .ne 15, 3) := by decide +kernel
theorem dX1_holds_279 : decode cX1_holds 279 = .ok (.aload_n 0, 1) := by decide +kernel
theorem dX1_holds_280 : decode cX1_holds 280 = .ok (.aload_n 1, 1) := by decide +kernel
theorem dX1_holds_281 : decode cX1_holds 281 = .ok (.invokevirtual 35, 3) := by decide +kernel
theorem dX1_holds_284 : decode cX1_holds 284 = .ok (.aload_n 0, 1) := by decide +kernel
theorem dX1_holds_285 : decode cX1_holds 285 = .ok (.getfield 24, 3) := by decide +kernel
theorem dX1_holds_288 : decode cX1_holds 288 = .ok (.if_icmp .gt 7, 3) := by decide +kernel
theorem dX1_holds_291 : decode cX1_holds 291 = .ok (.iconst 1, 1) := by decide +kernel
theorem dX1_holds_292 : decode cX1_holds 292 = .ok (.goto 4, 3) := by decide +kernel
theorem dX1_holds_295 : decode cX1_holds 295 = .ok (.iconst 0, 1) := by decide +kernel
theorem dX1_holds_296 : decode cX1_holds 296 = .ok (.ireturn, 1) := by decide +kernel
theorem dX1_holds_297 : decode cX1_holds 297 = .ok (.aload_n 1, 1) := by decide +kernel
theorem dX1_holds_298 : decode cX1_holds 298 = .ok (.aload_n 0, 1) := by decide +kernel
theorem dX1_holds_299 : decode cX1_holds 299 = .ok (.getfield 15, 3) := by decide +kernel
theorem dX1_holds_302 : decode cX1_holds 302 = .ok (.iaload, 1) := by decide +kernel
theorem dX1_holds_303 : decode cX1_holds 303 = .ok (.aload_n 0, 1) := by decide +kernel
theorem dX1_holds_304 : decode cX1_holds 304 = .ok (.aload_n 1, 1) := by decide +kernel
theorem dX1_holds_305 : decode cX1_holds 305 = .ok (.invokevirtual 55, 3) := by decide +kernel
theorem dX1_holds_308 : decode cX1_holds 308 = .ok (.if_icmp .ne 7, 3) := by decide +kernel
theorem dX1_holds_311 : decode cX1_holds 311 = .ok (.iconst 1, 1) := by decide +kernel
theorem dX1_holds_312 : decode cX1_holds 312 = .ok (.goto 4, 3) := by decide +kernel
theorem dX1_holds_315 : decode cX1_holds 315 = .ok (.iconst 0, 1) := by decide +kernel
theorem dX1_holds_316 : decode cX1_holds 316 = .ok (.ireturn, 1) := by decide +kernel
theorem dX1_sumOf_0 : decode cX1_sumOf 0 = .ok (.iconst 0, 1) := by decide +kernel
theorem dX1_sumOf_1 : decode cX1_sumOf 1 = .ok (.istore_n 2, 1) := by decide +kernel
theorem dX1_sumOf_2 : decode cX1_sumOf 2 = .ok (.iconst 0, 1) := by decide +kernel
theorem dX1_sumOf_3 : decode cX1_sumOf 3 = .ok (.istore_n 3, 1) := by decide +kernel
theorem dX1_sumOf_4 : decode cX1_sumOf 4 = .ok (.iload_n 3, 1) := by decide +kernel
theorem dX1_sumOf_5 : decode cX1_sumOf 5 = .ok (.bipush 8, 2) := by decide +kernel
theorem dX1_sumOf_7 : decode cX1_sumOf 7 = .ok (.if_icmp .ge 22, 3) := by decide +kernel
theorem dX1_sumOf_10 : decode cX1_sumOf 10 = .ok (.iload_n 2, 1) := by decide +kernel
theorem dX1_sumOf_11 : decode cX1_sumOf 11 = .ok (.aload_n 0, 1) := by decide +kernel
theorem dX1_sumOf_12 : decode cX1_sumOf 12 = .ok (.getfield 27, 3) := by decide +kernel
theorem dX1_sumOf_15 : decode cX1_sumOf 15 = .ok (.iload_n 3, 1) := by decide +kernel
theorem dX1_sumOf_16 : decode cX1_sumOf 16 = .ok (.iaload, 1) := by decide +kernel
theorem dX1_sumOf_17 : decode cX1_sumOf 17 = .ok (.aload_n 1, 1) := by decide +kernel
theorem dX1_sumOf_18 : decode cX1_sumOf 18 = .ok (.iload_n 3, 1) := by decide +kernel
theorem dX1_sumOf_19 : decode cX1_sumOf 19 = .ok (.iaload, 1) := by decide +kernel
theorem dX1_sumOf_20 : decode cX1_sumOf 20 = .ok (.imul, 1) := by decide +kernel
theorem dX1_sumOf_21 : decode cX1_sumOf 21 = .ok (.iadd, 1) := by decide +kernel
theorem dX1_sumOf_22 : decode cX1_sumOf 22 = .ok (.istore_n 2, 1) := by decide +kernel
theorem dX1_sumOf_23 : decode cX1_sumOf 23 = .ok (.iinc 3 1, 3) := by decide +kernel
theorem dX1_sumOf_26 : decode cX1_sumOf 26 = .ok (.goto (-22), 3) := by decide +kernel
theorem dX1_sumOf_29 : decode cX1_sumOf 29 = .ok (.iload_n 2, 1) := by decide +kernel
theorem dX1_sumOf_30 : decode cX1_sumOf 30 = .ok (.ireturn, 1) := by decide +kernel
theorem dX1_countOf_0 : decode cX1_countOf 0 = .ok (.iconst 0, 1) := by decide +kernel
theorem dX1_countOf_1 : decode cX1_countOf 1 = .ok (.istore_n 2, 1) := by decide +kernel
theorem dX1_countOf_2 : decode cX1_countOf 2 = .ok (.iconst 0, 1) := by decide +kernel
theorem dX1_countOf_3 : decode cX1_countOf 3 = .ok (.istore_n 3, 1) := by decide +kernel
theorem dX1_countOf_4 : decode cX1_countOf 4 = .ok (.iload_n 3, 1) := by decide +kernel
theorem dX1_countOf_5 : decode cX1_countOf 5 = .ok (.bipush 8, 2) := by decide +kernel
theorem dX1_countOf_7 : decode cX1_countOf 7 = .ok (.if_icmp .ge 31, 3) := by decide +kernel
theorem dX1_countOf_10 : decode cX1_countOf 10 = .ok (.aload_n 0, 1) := by decide +kernel
theorem dX1_countOf_11 : decode cX1_countOf 11 = .ok (.getfield 27, 3) := by decide +kernel
theorem dX1_countOf_14 : decode cX1_countOf 14 = .ok (.iload_n 3, 1) := by decide +kernel
theorem dX1_countOf_15 : decode cX1_countOf 15 = .ok (.iaload, 1) := by decide +kernel
theorem dX1_countOf_16 : decode cX1_countOf 16 = .ok (.ifCond .eq 16, 3) := by decide +kernel
theorem dX1_countOf_19 : decode cX1_countOf 19 = .ok (.aload_n 1, 1) := by decide +kernel
theorem dX1_countOf_20 : decode cX1_countOf 20 = .ok (.iload_n 3, 1) := by decide +kernel
theorem dX1_countOf_21 : decode cX1_countOf 21 = .ok (.iaload, 1) := by decide +kernel
theorem dX1_countOf_22 : decode cX1_countOf 22 = .ok (.aload_n 0, 1) := by decide +kernel
theorem dX1_countOf_23 : decode cX1_countOf 23 = .ok (.getfield 24, 3) := by decide +kernel
theorem dX1_countOf_26 : decode cX1_countOf 26 = .ok (.if_icmp .ne 6, 3) := by decide +kernel
theorem dX1_countOf_29 : decode cX1_countOf 29 = .ok (.iinc 2 1, 3) := by decide +kernel
theorem dX1_countOf_32 : decode cX1_countOf 32 = .ok (.iinc 3 1, 3) := by decide +kernel
theorem dX1_countOf_35 : decode cX1_countOf 35 = .ok (.goto (-31), 3) := by decide +kernel
theorem dX1_countOf_38 : decode cX1_countOf 38 = .ok (.iload_n 2, 1) := by decide +kernel
theorem dX1_countOf_39 : decode cX1_countOf 39 = .ok (.ireturn, 1) := by decide +kernel
theorem dX1_allows_0 : decode cX1_allows 0 = .ok (.aload_n 0, 1) := by decide +kernel
theorem dX1_allows_1 : decode cX1_allows 1 = .ok (.getfield 27, 3) := by decide +kernel
theorem dX1_allows_4 : decode cX1_allows 4 = .ok (.iload_n 1, 1) := by decide +kernel
theorem dX1_allows_5 : decode cX1_allows 5 = .ok (.iaload, 1) := by decide +kernel
theorem dX1_allows_6 : decode cX1_allows 6 = .ok (.iload_n 2, 1) := by decide +kernel
theorem dX1_allows_7 : decode cX1_allows 7 = .ok (.imul, 1) := by decide +kernel
theorem dX1_allows_8 : decode cX1_allows 8 = .ok (.istore 6, 2) := by decide +kernel
theorem dX1_allows_10 : decode cX1_allows 10 = .ok (.aload_n 0, 1) := by decide +kernel
theorem dX1_allows_11 : decode cX1_allows 11 = .ok (.getfield 9, 3) := by decide +kernel
theorem dX1_allows_14 : decode cX1_allows 14 = .ok (.tableswitch 428 0 8 #[50, 68, 98, 141, 182, 240, 283, 326, 382], 50) := by decide +kernel
theorem dX1_allows_64 : decode cX1_allows 64 = .ok (.iload 6, 2) := by decide +kernel
theorem dX1_allows_66 : decode cX1_allows 66 = .ok (.iload 4, 2) := by decide +kernel
theorem dX1_allows_68 : decode cX1_allows 68 = .ok (.iadd, 1) := by decide +kernel
theorem dX1_allows_69 : decode cX1_allows 69 = .ok (.aload_n 0, 1) := by decide +kernel
theorem dX1_allows_70 : decode cX1_allows 70 = .ok (.getfield 24, 3) := by decide +kernel
theorem dX1_allows_73 : decode cX1_allows 73 = .ok (.if_icmp .gt 7, 3) := by decide +kernel
theorem dX1_allows_76 : decode cX1_allows 76 = .ok (.iconst 1, 1) := by decide +kernel
theorem dX1_allows_77 : decode cX1_allows 77 = .ok (.goto 4, 3) := by decide +kernel
theorem dX1_allows_80 : decode cX1_allows 80 = .ok (.iconst 0, 1) := by decide +kernel
theorem dX1_allows_81 : decode cX1_allows 81 = .ok (.ireturn, 1) := by decide +kernel
theorem dX1_allows_82 : decode cX1_allows 82 = .ok (.iload 6, 2) := by decide +kernel
theorem dX1_allows_84 : decode cX1_allows 84 = .ok (.iload 4, 2) := by decide +kernel
theorem dX1_allows_86 : decode cX1_allows 86 = .ok (.iadd, 1) := by decide +kernel
theorem dX1_allows_87 : decode cX1_allows 87 = .ok (.aload_n 0, 1) := by decide +kernel
theorem dX1_allows_88 : decode cX1_allows 88 = .ok (.getfield 24, 3) := by decide +kernel
theorem dX1_allows_91 : decode cX1_allows 91 = .ok (.if_icmp .gt 19, 3) := by decide +kernel
theorem dX1_allows_94 : decode cX1_allows 94 = .ok (.iload 6, 2) := by decide +kernel
theorem dX1_allows_96 : decode cX1_allows 96 = .ok (.iload 5, 2) := by decide +kernel
theorem dX1_allows_98 : decode cX1_allows 98 = .ok (.iadd, 1) := by decide +kernel
theorem dX1_allows_99 : decode cX1_allows 99 = .ok (.aload_n 0, 1) := by decide +kernel
theorem dX1_allows_100 : decode cX1_allows 100 = .ok (.getfield 24, 3) := by decide +kernel
theorem dX1_allows_103 : decode cX1_allows 103 = .ok (.if_icmp .lt 7, 3) := by decide +kernel
theorem dX1_allows_106 : decode cX1_allows 106 = .ok (.iconst 1, 1) := by decide +kernel
theorem dX1_allows_107 : decode cX1_allows 107 = .ok (.goto 4, 3) := by decide +kernel
theorem dX1_allows_110 : decode cX1_allows 110 = .ok (.iconst 0, 1) := by decide +kernel
theorem dX1_allows_111 : decode cX1_allows 111 = .ok (.ireturn, 1) := by decide +kernel
theorem dX1_allows_112 : decode cX1_allows 112 = .ok (.iload_n 1, 1) := by decide +kernel
theorem dX1_allows_113 : decode cX1_allows 113 = .ok (.aload_n 0, 1) := by decide +kernel
theorem dX1_allows_114 : decode cX1_allows 114 = .ok (.getfield 15, 3) := by decide +kernel
theorem dX1_allows_117 : decode cX1_allows 117 = .ok (.if_icmp .ne 12, 3) := by decide +kernel
theorem dX1_allows_120 : decode cX1_allows 120 = .ok (.aload_n 0, 1) := by decide +kernel
theorem dX1_allows_121 : decode cX1_allows 121 = .ok (.iload_n 2, 1) := by decide +kernel
theorem dX1_allows_122 : decode cX1_allows 122 = .ok (.aload_n 3, 1) := by decide +kernel
theorem dX1_allows_123 : decode cX1_allows 123 = .ok (.invokevirtual 58, 3) := by decide +kernel
theorem dX1_allows_126 : decode cX1_allows 126 = .ok (.goto 28, 3) := by decide +kernel
theorem dX1_allows_129 : decode cX1_allows 129 = .ok (.aload_n 0, 1) := by decide +kernel
theorem dX1_allows_130 : decode cX1_allows 130 = .ok (.iload_n 2, 1) := by decide +kernel
theorem dX1_allows_131 : decode cX1_allows 131 = .ok (.iload_n 1, 1) := by decide +kernel
theorem dX1_allows_132 : decode cX1_allows 132 = .ok (.aload_n 0, 1) := by decide +kernel
theorem dX1_allows_133 : decode cX1_allows 133 = .ok (.getfield 18, 3) := by decide +kernel
theorem dX1_allows_136 : decode cX1_allows 136 = .ok (.if_icmp .ne 10, 3) := by decide +kernel
theorem dX1_allows_139 : decode cX1_allows 139 = .ok (.aload_n 0, 1) := by decide +kernel
theorem dX1_allows_140 : decode cX1_allows 140 = .ok (.getfield 21, 3) := by decide +kernel
theorem dX1_allows_143 : decode cX1_allows 143 = .ok (.goto 7, 3) := by decide +kernel
theorem dX1_allows_146 : decode cX1_allows 146 = .ok (.aload_n 0, 1) := by decide +kernel
theorem dX1_allows_147 : decode cX1_allows 147 = .ok (.getfield 18, 3) := by decide +kernel
theorem dX1_allows_150 : decode cX1_allows 150 = .ok (.aload_n 3, 1) := by decide +kernel
theorem dX1_allows_151 : decode cX1_allows 151 = .ok (.invokevirtual 62, 3) := by decide +kernel
theorem dX1_allows_154 : decode cX1_allows 154 = .ok (.ireturn, 1) := by decide +kernel
theorem dX1_allows_155 : decode cX1_allows 155 = .ok (.iload_n 1, 1) := by decide +kernel
theorem dX1_allows_156 : decode cX1_allows 156 = .ok (.aload_n 0, 1) := by decide +kernel
theorem dX1_allows_157 : decode cX1_allows 157 = .ok (.getfield 15, 3) := by decide +kernel
theorem dX1_allows_160 : decode cX1_allows 160 = .ok (.if_icmp .ne 12, 3) := by decide +kernel
theorem dX1_allows_163 : decode cX1_allows 163 = .ok (.aload_n 0, 1) := by decide +kernel
theorem dX1_allows_164 : decode cX1_allows 164 = .ok (.iload_n 2, 1) := by decide +kernel
theorem dX1_allows_165 : decode cX1_allows 165 = .ok (.aload_n 3, 1) := by decide +kernel
theorem dX1_allows_166 : decode cX1_allows 166 = .ok (.invokevirtual 66, 3) := by decide +kernel
theorem dX1_allows_169 : decode cX1_allows 169 = .ok (.goto 26, 3) := by decide +kernel
theorem dX1_allows_172 : decode cX1_allows 172 = .ok (.iload_n 1, 1) := by decide +kernel
theorem dX1_allows_173 : decode cX1_allows 173 = .ok (.aload_n 0, 1) := by decide +kernel
theorem dX1_allows_174 : decode cX1_allows 174 = .ok (.getfield 18, 3) := by decide +kernel
theorem dX1_allows_177 : decode cX1_allows 177 = .ok (.if_icmp .ne 12, 3) := by decide +kernel
theorem dX1_allows_180 : decode cX1_allows 180 = .ok (.aload_n 0, 1) := by decide +kernel
theorem dX1_allows_181 : decode cX1_allows 181 = .ok (.iload_n 2, 1) := by decide +kernel
theorem dX1_allows_182 : decode cX1_allows 182 = .ok (.aload_n 3, 1) := by decide +kernel
theorem dX1_allows_183 : decode cX1_allows 183 = .ok (.invokevirtual 69, 3) := by decide +kernel
theorem dX1_allows_186 : decode cX1_allows 186 = .ok (.goto 9, 3) := by decide +kernel
theorem dX1_allows_189 : decode cX1_allows 189 = .ok (.aload_n 0, 1) := by decide +kernel
theorem dX1_allows_190 : decode cX1_allows 190 = .ok (.iload_n 2, 1) := by decide +kernel
theorem dX1_allows_191 : decode cX1_allows 191 = .ok (.aload_n 3, 1) := by decide +kernel
theorem dX1_allows_192 : decode cX1_allows 192 = .ok (.invokevirtual 72, 3) := by decide +kernel
theorem dX1_allows_195 : decode cX1_allows 195 = .ok (.ireturn, 1) := by decide +kernel
theorem dX1_allows_196 : decode cX1_allows 196 = .ok (.iload_n 1, 1) := by decide +kernel
theorem dX1_allows_197 : decode cX1_allows 197 = .ok (.aload_n 0, 1) := by decide +kernel
theorem dX1_allows_198 : decode cX1_allows 198 = .ok (.getfield 15, 3) := by decide +kernel
theorem dX1_allows_201 : decode cX1_allows 201 = .ok (.if_icmp .ne 40, 3) := by decide +kernel
theorem dX1_allows_204 : decode cX1_allows 204 = .ok (.iload_n 2, 1) := by decide +kernel
theorem dX1_allows_205 : decode cX1_allows 205 = .ok (.ifCond .lt 32, 3) := by decide +kernel
theorem dX1_allows_208 : decode cX1_allows 208 = .ok (.aload_n 3, 1) := by decide +kernel
theorem dX1_allows_209 : decode cX1_allows 209 = .ok (.aload_n 0, 1) := by decide +kernel
theorem dX1_allows_210 : decode cX1_allows 210 = .ok (.getfield 18, 3) := by decide +kernel
theorem dX1_allows_213 : decode cX1_allows 213 = .ok (.iload_n 2, 1) := by decide +kernel
theorem dX1_allows_214 : decode cX1_allows 214 = .ok (.invokevirtual 75, 3) := by decide +kernel
theorem dX1_allows_217 : decode cX1_allows 217 = .ok (.ifCond .ne 16, 3) := by decide +kernel
theorem dX1_allows_220 : decode cX1_allows 220 = .ok (.aload_n 3, 1) := by decide +kernel
theorem dX1_allows_221 : decode cX1_allows 221 = .ok (.aload_n 0, 1) := by decide +kernel
theorem dX1_allows_222 : decode cX1_allows 222 = .ok (.getfield 18, 3) := by decide +kernel
theorem dX1_allows_225 : decode cX1_allows 225 = .ok (.iload_n 2, 1) := by decide +kernel
theorem dX1_allows_226 : decode cX1_allows 226 = .ok (.ineg, 1) := by decide +kernel
theorem dX1_allows_227 : decode cX1_allows 227 = .ok (.invokevirtual 75, 3) := by decide +kernel
theorem dX1_allows_230 : decode cX1_allows 230 = .ok (.ifCond .eq 7, 3) := by decide +kernel
theorem dX1_allows_233 : decode cX1_allows 233 = .ok (.iconst 1, 1) := by decide +kernel
theorem dX1_allows_234 : decode cX1_allows 234 = .ok (.goto 19, 3) := by decide +kernel
theorem dX1_allows_237 : decode cX1_allows 237 = .ok (.iconst 0, 1) := by decide +kernel
theorem dX1_allows_238 : decode cX1_allows 238 = .ok (.goto 15, 3) := by decide +kernel
theorem dX1_allows_241 : decode cX1_allows 241 = .ok (.aload_n 3, 1) := by decide +kernel
theorem dX1_allows_242 : decode cX1_allows 242 = .ok (.aload_n 0, 1) := by decide +kernel
theorem dX1_allows_243 : decode cX1_allows 243 = .ok (.getfield 15, 3) := by decide +kernel
theorem dX1_allows_246 : decode cX1_allows 246 = .ok (.iload_n 2, 1) := by decide +kernel
theorem dX1_allows_247 : decode cX1_allows 247 = .ok (.invokestatic 45, 3) := by decide +kernel
theorem dX1_allows_250 : decode cX1_allows 250 = .ok (.invokevirtual 75, 3) := by decide +kernel
theorem dX1_allows_253 : decode cX1_allows 253 = .ok (.ireturn, 1) := by decide +kernel
theorem dX1_allows_254 : decode cX1_allows 254 = .ok (.iload_n 1, 1) := by decide +kernel
theorem dX1_allows_255 : decode cX1_allows 255 = .ok (.aload_n 0, 1) := by decide +kernel
theorem dX1_allows_256 : decode cX1_allows 256 = .ok (.getfield 15, 3) := by decide +kernel
theorem dX1_allows_259 : decode cX1_allows 259 = .ok (.if_icmp .ne 12, 3) := by decide +kernel
theorem dX1_allows_262 : decode cX1_allows 262 = .ok (.aload_n 0, 1) := by decide +kernel
theorem dX1_allows_263 : decode cX1_allows 263 = .ok (.iload_n 2, 1) := by decide +kernel
theorem dX1_allows_264 : decode cX1_allows 264 = .ok (.aload_n 3, 1) := by decide +kernel
theorem dX1_allows_265 : decode cX1_allows 265 = .ok (.invokevirtual 81, 3) := by decide +kernel
theorem dX1_allows_268 : decode cX1_allows 268 = .ok (.goto 28, 3) := by decide +kernel
theorem dX1_allows_271 : decode cX1_allows 271 = .ok (.aload_n 0, 1) := by decide +kernel
theorem dX1_allows_272 : decode cX1_allows 272 = .ok (.iload_n 2, 1) := by decide +kernel
theorem dX1_allows_273 : decode cX1_allows 273 = .ok (.iload_n 1, 1) := by decide +kernel
theorem dX1_allows_274 : decode cX1_allows 274 = .ok (.aload_n 0, 1) := by decide +kernel
theorem dX1_allows_275 : decode cX1_allows 275 = .ok (.getfield 18, 3) := by decide +kernel
theorem dX1_allows_278 : decode cX1_allows 278 = .ok (.if_icmp .ne 10, 3) := by decide +kernel
theorem dX1_allows_281 : decode cX1_allows 281 = .ok (.aload_n 0, 1) := by decide +kernel
theorem dX1_allows_282 : decode cX1_allows 282 = .ok (.getfield 21, 3) := by decide +kernel
theorem dX1_allows_285 : decode cX1_allows 285 = .ok (.goto 7, 3) := by decide +kernel
theorem dX1_allows_288 : decode cX1_allows 288 = .ok (.aload_n 0, 1) := by decide +kernel
theorem dX1_allows_289 : decode cX1_allows 289 = .ok (.getfield 18, 3) := by decide +kernel
theorem dX1_allows_292 : decode cX1_allows 292 = .ok (.aload_n 3, 1) := by decide +kernel
theorem dX1_allows_293 : decode cX1_allows 293 = .ok (.invokevirtual 84, 3) := by decide +kernel
theorem dX1_allows_296 : decode cX1_allows 296 = .ok (.ireturn, 1) := by decide +kernel
theorem dX1_allows_297 : decode cX1_allows 297 = .ok (.iload_n 1, 1) := by decide +kernel
theorem dX1_allows_298 : decode cX1_allows 298 = .ok (.aload_n 0, 1) := by decide +kernel
theorem dX1_allows_299 : decode cX1_allows 299 = .ok (.getfield 15, 3) := by decide +kernel
theorem dX1_allows_302 : decode cX1_allows 302 = .ok (.if_icmp .ne 12, 3) := by decide +kernel
theorem dX1_allows_305 : decode cX1_allows 305 = .ok (.aload_n 0, 1) := by decide +kernel
theorem dX1_allows_306 : decode cX1_allows 306 = .ok (.iload_n 2, 1) := by decide +kernel
theorem dX1_allows_307 : decode cX1_allows 307 = .ok (.aload_n 3, 1) := by decide +kernel
theorem dX1_allows_308 : decode cX1_allows 308 = .ok (.invokevirtual 87, 3) := by decide +kernel
theorem dX1_allows_311 : decode cX1_allows 311 = .ok (.goto 28, 3) := by decide +kernel
theorem dX1_allows_314 : decode cX1_allows 314 = .ok (.aload_n 0, 1) := by decide +kernel
theorem dX1_allows_315 : decode cX1_allows 315 = .ok (.iload_n 2, 1) := by decide +kernel
theorem dX1_allows_316 : decode cX1_allows 316 = .ok (.iload_n 1, 1) := by decide +kernel
theorem dX1_allows_317 : decode cX1_allows 317 = .ok (.aload_n 0, 1) := by decide +kernel
theorem dX1_allows_318 : decode cX1_allows 318 = .ok (.getfield 18, 3) := by decide +kernel
theorem dX1_allows_321 : decode cX1_allows 321 = .ok (.if_icmp .ne 10, 3) := by decide +kernel
theorem dX1_allows_324 : decode cX1_allows 324 = .ok (.aload_n 0, 1) := by decide +kernel
theorem dX1_allows_325 : decode cX1_allows 325 = .ok (.getfield 21, 3) := by decide +kernel
theorem dX1_allows_328 : decode cX1_allows 328 = .ok (.goto 7, 3) := by decide +kernel
theorem dX1_allows_331 : decode cX1_allows 331 = .ok (.aload_n 0, 1) := by decide +kernel
theorem dX1_allows_332 : decode cX1_allows 332 = .ok (.getfield 18, 3) := by decide +kernel
theorem dX1_allows_335 : decode cX1_allows 335 = .ok (.aload_n 3, 1) := by decide +kernel
theorem dX1_allows_336 : decode cX1_allows 336 = .ok (.invokevirtual 90, 3) := by decide +kernel
theorem dX1_allows_339 : decode cX1_allows 339 = .ok (.ireturn, 1) := by decide +kernel
theorem dX1_allows_340 : decode cX1_allows 340 = .ok (.iload_n 1, 1) := by decide +kernel
theorem dX1_allows_341 : decode cX1_allows 341 = .ok (.aload_n 0, 1) := by decide +kernel
theorem dX1_allows_342 : decode cX1_allows 342 = .ok (.getfield 15, 3) := by decide +kernel
theorem dX1_allows_345 : decode cX1_allows 345 = .ok (.if_icmp .ne 28, 3) := by decide +kernel
theorem dX1_allows_348 : decode cX1_allows 348 = .ok (.aload_n 3, 1) := by decide +kernel
theorem dX1_allows_349 : decode cX1_allows 349 = .ok (.aload_n 0, 1) := by decide +kernel
theorem dX1_allows_350 : decode cX1_allows 350 = .ok (.getfield 18, 3) := by decide +kernel
theorem dX1_allows_353 : decode cX1_allows 353 = .ok (.iload_n 2, 1) := by decide +kernel
theorem dX1_allows_354 : decode cX1_allows 354 = .ok (.aload_n 0, 1) := by decide +kernel
theorem dX1_allows_355 : decode cX1_allows 355 = .ok (.getfield 24, 3) := by decide +kernel
theorem dX1_allows_358 : decode cX1_allows 358 = .ok (.isub, 1) := by decide +kernel
theorem dX1_allows_359 : decode cX1_allows 359 = .ok (.invokevirtual 93, 3) := by decide +kernel
theorem dX1_allows_362 : decode cX1_allows 362 = .ok (.ifCond .ne 7, 3) := by decide +kernel
theorem dX1_allows_365 : decode cX1_allows 365 = .ok (.iconst 1, 1) := by decide +kernel
theorem dX1_allows_366 : decode cX1_allows 366 = .ok (.goto 29, 3) := by decide +kernel
theorem dX1_allows_369 : decode cX1_allows 369 = .ok (.iconst 0, 1) := by decide +kernel
theorem dX1_allows_370 : decode cX1_allows 370 = .ok (.goto 25, 3) := by decide +kernel
theorem dX1_allows_373 : decode cX1_allows 373 = .ok (.aload_n 3, 1) := by decide +kernel
theorem dX1_allows_374 : decode cX1_allows 374 = .ok (.aload_n 0, 1) := by decide +kernel
theorem dX1_allows_375 : decode cX1_allows 375 = .ok (.getfield 15, 3) := by decide +kernel
theorem dX1_allows_378 : decode cX1_allows 378 = .ok (.iload_n 2, 1) := by decide +kernel
theorem dX1_allows_379 : decode cX1_allows 379 = .ok (.aload_n 0, 1) := by decide +kernel
theorem dX1_allows_380 : decode cX1_allows 380 = .ok (.getfield 24, 3) := by decide +kernel
theorem dX1_allows_383 : decode cX1_allows 383 = .ok (.iadd, 1) := by decide +kernel
theorem dX1_allows_384 : decode cX1_allows 384 = .ok (.invokevirtual 93, 3) := by decide +kernel
theorem dX1_allows_387 : decode cX1_allows 387 = .ok (.ifCond .ne 7, 3) := by decide +kernel
theorem dX1_allows_390 : decode cX1_allows 390 = .ok (.iconst 1, 1) := by decide +kernel
theorem dX1_allows_391 : decode cX1_allows 391 = .ok (.goto 4, 3) := by decide +kernel
theorem dX1_allows_394 : decode cX1_allows 394 = .ok (.iconst 0, 1) := by decide +kernel
theorem dX1_allows_395 : decode cX1_allows 395 = .ok (.ireturn, 1) := by decide +kernel
theorem dX1_allows_396 : decode cX1_allows 396 = .ok (.iload_n 1, 1) := by decide +kernel
theorem dX1_allows_397 : decode cX1_allows 397 = .ok (.aload_n 0, 1) := by decide +kernel
theorem dX1_allows_398 : decode cX1_allows 398 = .ok (.getfield 15, 3) := by decide +kernel
theorem dX1_allows_401 : decode cX1_allows 401 = .ok (.if_icmp .ne 11, 3) := by decide +kernel
theorem dX1_allows_404 : decode cX1_allows 404 = .ok (.iload_n 2, 1) := by decide +kernel
theorem dX1_allows_405 : decode cX1_allows 405 = .ok (.iconst 1, 1) := by decide +kernel
theorem dX1_allows_406 : decode cX1_allows 406 = .ok (.if_icmp .eq 18, 3) := by decide +kernel
theorem dX1_allows_409 : decode cX1_allows 409 = .ok (.goto 27, 3) := by decide +kernel
theorem dX1_allows_412 : decode cX1_allows 412 = .ok (.aload_n 3, 1) := by decide +kernel
theorem dX1_allows_413 : decode cX1_allows 413 = .ok (.aload_n 0, 1) := by decide +kernel
theorem dX1_allows_414 : decode cX1_allows 414 = .ok (.getfield 15, 3) := by decide +kernel
theorem dX1_allows_417 : decode cX1_allows 417 = .ok (.iconst 1, 1) := by decide +kernel
theorem dX1_allows_418 : decode cX1_allows 418 = .ok (.invokevirtual 93, 3) := by decide +kernel
theorem dX1_allows_421 : decode cX1_allows 421 = .ok (.ifCond .eq 15, 3) := by decide +kernel
theorem dX1_allows_424 : decode cX1_allows 424 = .ok (.iload 6, 2) := by decide +kernel
theorem dX1_allows_426 : decode cX1_allows 426 = .ok (.iload 4, 2) := by decide +kernel
theorem dX1_allows_428 : decode cX1_allows 428 = .ok (.iadd, 1) := by decide +kernel
theorem dX1_allows_429 : decode cX1_allows 429 = .ok (.aload_n 0, 1) := by decide +kernel
theorem dX1_allows_430 : decode cX1_allows 430 = .ok (.getfield 24, 3) := by decide +kernel
theorem dX1_allows_433 : decode cX1_allows 433 = .ok (.if_icmp .gt 7, 3) := by decide +kernel
theorem dX1_allows_436 : decode cX1_allows 436 = .ok (.iconst 1, 1) := by decide +kernel
theorem dX1_allows_437 : decode cX1_allows 437 = .ok (.goto 4, 3) := by decide +kernel
theorem dX1_allows_440 : decode cX1_allows 440 = .ok (.iconst 0, 1) := by decide +kernel
theorem dX1_allows_441 : decode cX1_allows 441 = .ok (.ireturn, 1) := by decide +kernel
theorem dX1_allows_442 : decode cX1_allows 442 = .ok (.aload_n 0, 1) := by decide +kernel
theorem dX1_allows_443 : decode cX1_allows 443 = .ok (.iload_n 1, 1) := by decide +kernel
theorem dX1_allows_444 : decode cX1_allows 444 = .ok (.iload_n 2, 1) := by decide +kernel
theorem dX1_allows_445 : decode cX1_allows 445 = .ok (.aload_n 3, 1) := by decide +kernel
theorem dX1_allows_446 : decode cX1_allows 446 = .ok (.iload 4, 2) := by decide +kernel
theorem dX1_allows_448 : decode cX1_allows 448 = .ok (.iload 5, 2) := by decide +kernel
theorem dX1_allows_450 : decode cX1_allows 450 = .ok (.invokevirtual 96, 3) := by decide +kernel
theorem dX1_allows_453 : decode cX1_allows 453 = .ok (.ireturn, 1) := by decide +kernel
end
section
theorem dX1_endOfOthers_0 : decode cX1_endOfOthers 0 = .ok (.iconst 0, 1) := by decide +kernel
theorem dX1_endOfOthers_1 : decode cX1_endOfOthers 1 = .ok (.istore 4, 2) := by decide +kernel
theorem dX1_endOfOthers_3 : decode cX1_endOfOthers 3 = .ok (.iconst 0, 1) := by decide +kernel
theorem dX1_endOfOthers_4 : decode cX1_endOfOthers 4 = .ok (.istore 5, 2) := by decide +kernel
theorem dX1_endOfOthers_6 : decode cX1_endOfOthers 6 = .ok (.iload 5, 2) := by decide +kernel
theorem dX1_endOfOthers_8 : decode cX1_endOfOthers 8 = .ok (.bipush 8, 2) := by decide +kernel
theorem dX1_endOfOthers_10 : decode cX1_endOfOthers 10 = .ok (.if_icmp .ge 139, 3) := by decide +kernel
theorem dX1_endOfOthers_13 : decode cX1_endOfOthers 13 = .ok (.aload_n 0, 1) := by decide +kernel
theorem dX1_endOfOthers_14 : decode cX1_endOfOthers 14 = .ok (.getfield 27, 3) := by decide +kernel
theorem dX1_endOfOthers_17 : decode cX1_endOfOthers 17 = .ok (.iload 5, 2) := by decide +kernel
theorem dX1_endOfOthers_19 : decode cX1_endOfOthers 19 = .ok (.iaload, 1) := by decide +kernel
theorem dX1_endOfOthers_20 : decode cX1_endOfOthers 20 = .ok (.istore 6, 2) := by decide +kernel
theorem dX1_endOfOthers_22 : decode cX1_endOfOthers 22 = .ok (.iload 5, 2) := by decide +kernel
theorem dX1_endOfOthers_24 : decode cX1_endOfOthers 24 = .ok (.iload_n 1, 1) := by decide +kernel
theorem dX1_endOfOthers_25 : decode cX1_endOfOthers 25 = .ok (.if_icmp .eq 118, 3) := by decide +kernel
theorem dX1_endOfOthers_28 : decode cX1_endOfOthers 28 = .ok (.iload 6, 2) := by decide +kernel
theorem dX1_endOfOthers_30 : decode cX1_endOfOthers 30 = .ok (.ifCond .ne 6, 3) := by decide +kernel
theorem dX1_endOfOthers_33 : decode cX1_endOfOthers 33 = .ok (.goto 110, 3) := by decide +kernel
theorem dX1_endOfOthers_36 : decode cX1_endOfOthers 36 = .ok (.aload_n 0, 1) := by decide +kernel
theorem dX1_endOfOthers_37 : decode cX1_endOfOthers 37 = .ok (.getfield 9, 3) := by decide +kernel
theorem dX1_endOfOthers_40 : decode cX1_endOfOthers 40 = .ok (.bipush 9, 2) := by decide +kernel
theorem dX1_endOfOthers_42 : decode cX1_endOfOthers 42 = .ok (.if_icmp .ne 50, 3) := by decide +kernel
theorem dX1_endOfOthers_45 : decode cX1_endOfOthers 45 = .ok (.iload_n 3, 1) := by decide +kernel
theorem dX1_endOfOthers_46 : decode cX1_endOfOthers 46 = .ok (.ifCond .eq 16, 3) := by decide +kernel
theorem dX1_endOfOthers_49 : decode cX1_endOfOthers 49 = .ok (.aload_n 2, 1) := by decide +kernel
theorem dX1_endOfOthers_50 : decode cX1_endOfOthers 50 = .ok (.iload 5, 2) := by decide +kernel
theorem dX1_endOfOthers_52 : decode cX1_endOfOthers 52 = .ok (.aload_n 0, 1) := by decide +kernel
theorem dX1_endOfOthers_53 : decode cX1_endOfOthers 53 = .ok (.getfield 24, 3) := by decide +kernel
theorem dX1_endOfOthers_56 : decode cX1_endOfOthers 56 = .ok (.invokevirtual 75, 3) := by decide +kernel
theorem dX1_endOfOthers_59 : decode cX1_endOfOthers 59 = .ok (.goto 13, 3) := by decide +kernel
theorem dX1_endOfOthers_62 : decode cX1_endOfOthers 62 = .ok (.aload_n 2, 1) := by decide +kernel
theorem dX1_endOfOthers_63 : decode cX1_endOfOthers 63 = .ok (.iload 5, 2) := by decide +kernel
theorem dX1_endOfOthers_65 : decode cX1_endOfOthers 65 = .ok (.aload_n 0, 1) := by decide +kernel
theorem dX1_endOfOthers_66 : decode cX1_endOfOthers 66 = .ok (.getfield 24, 3) := by decide +kernel
theorem dX1_endOfOthers_69 : decode cX1_endOfOthers 69 = .ok (.invokevirtual 93, 3) := by decide +kernel
theorem dX1_endOfOthers_72 : decode cX1_endOfOthers 72 = .ok (.istore 7, 2) := by decide +kernel
theorem dX1_endOfOthers_74 : decode cX1_endOfOthers 74 = .ok (.iload 4, 2) := by decide +kernel
theorem dX1_endOfOthers_76 : decode cX1_endOfOthers 76 = .ok (.iload 7, 2) := by decide +kernel
theorem dX1_endOfOthers_78 : decode cX1_endOfOthers 78 = .ok (.ifCond .eq 7, 3) := by decide +kernel
theorem dX1_endOfOthers_81 : decode cX1_endOfOthers 81 = .ok (.iconst 1, 1) := by decide +kernel
theorem dX1_endOfOthers_82 : decode cX1_endOfOthers 82 = .ok (.goto 4, 3) := by decide +kernel
theorem dX1_endOfOthers_85 : decode cX1_endOfOthers 85 = .ok (.iconst 0, 1) := by decide +kernel
theorem dX1_endOfOthers_86 : decode cX1_endOfOthers 86 = .ok (.iadd, 1) := by decide +kernel
theorem dX1_endOfOthers_87 : decode cX1_endOfOthers 87 = .ok (.istore 4, 2) := by decide +kernel
theorem dX1_endOfOthers_89 : decode cX1_endOfOthers 89 = .ok (.goto 54, 3) := by decide +kernel
theorem dX1_endOfOthers_92 : decode cX1_endOfOthers 92 = .ok (.iload_n 3, 1) := by decide +kernel
theorem dX1_endOfOthers_93 : decode cX1_endOfOthers 93 = .ok (.iload 6, 2) := by decide +kernel
theorem dX1_endOfOthers_95 : decode cX1_endOfOthers 95 = .ok (.ifCond .le 7, 3) := by decide +kernel
theorem dX1_endOfOthers_98 : decode cX1_endOfOthers 98 = .ok (.iconst 1, 1) := by decide +kernel
theorem dX1_endOfOthers_99 : decode cX1_endOfOthers 99 = .ok (.goto 4, 3) := by decide +kernel
theorem dX1_endOfOthers_102 : decode cX1_endOfOthers 102 = .ok (.iconst 0, 1) := by decide +kernel
theorem dX1_endOfOthers_103 : decode cX1_endOfOthers 103 = .ok (.if_icmp .ne 7, 3) := by decide +kernel
theorem dX1_endOfOthers_106 : decode cX1_endOfOthers 106 = .ok (.iconst 1, 1) := by decide +kernel
theorem dX1_endOfOthers_107 : decode cX1_endOfOthers 107 = .ok (.goto 4, 3) := by decide +kernel
theorem dX1_endOfOthers_110 : decode cX1_endOfOthers 110 = .ok (.iconst 0, 1) := by decide +kernel
theorem dX1_endOfOthers_111 : decode cX1_endOfOthers 111 = .ok (.istore 7, 2) := by decide +kernel
theorem dX1_endOfOthers_113 : decode cX1_endOfOthers 113 = .ok (.iload 4, 2) := by decide +kernel
theorem dX1_endOfOthers_115 : decode cX1_endOfOthers 115 = .ok (.iload 6, 2) := by decide +kernel
theorem dX1_endOfOthers_117 : decode cX1_endOfOthers 117 = .ok (.iload 7, 2) := by decide +kernel
theorem dX1_endOfOthers_119 : decode cX1_endOfOthers 119 = .ok (.ifCond .eq 13, 3) := by decide +kernel
theorem dX1_endOfOthers_122 : decode cX1_endOfOthers 122 = .ok (.aload_n 2, 1) := by decide +kernel
theorem dX1_endOfOthers_123 : decode cX1_endOfOthers 123 = .ok (.getfield 100, 3) := by decide +kernel
theorem dX1_endOfOthers_126 : decode cX1_endOfOthers 126 = .ok (.iload 5, 2) := by decide +kernel
theorem dX1_endOfOthers_128 : decode cX1_endOfOthers 128 = .ok (.iaload, 1) := by decide +kernel
theorem dX1_endOfOthers_129 : decode cX1_endOfOthers 129 = .ok (.goto 10, 3) := by decide +kernel
theorem dX1_endOfOthers_132 : decode cX1_endOfOthers 132 = .ok (.aload_n 2, 1) := by decide +kernel
theorem dX1_endOfOthers_133 : decode cX1_endOfOthers 133 = .ok (.getfield 103, 3) := by decide +kernel
theorem dX1_endOfOthers_136 : decode cX1_endOfOthers 136 = .ok (.iload 5, 2) := by decide +kernel
theorem dX1_endOfOthers_138 : decode cX1_endOfOthers 138 = .ok (.iaload, 1) := by decide +kernel
theorem dX1_endOfOthers_139 : decode cX1_endOfOthers 139 = .ok (.imul, 1) := by decide +kernel
theorem dX1_endOfOthers_140 : decode cX1_endOfOthers 140 = .ok (.iadd, 1) := by decide +kernel
theorem dX1_endOfOthers_141 : decode cX1_endOfOthers 141 = .ok (.istore 4, 2) := by decide +kernel
theorem dX1_endOfOthers_143 : decode cX1_endOfOthers 143 = .ok (.iinc 5 1, 3) := by decide +kernel
theorem dX1_endOfOthers_146 : decode cX1_endOfOthers 146 = .ok (.goto (-140), 3) := by decide +kernel
theorem dX1_endOfOthers_149 : decode cX1_endOfOthers 149 = .ok (.iload 4, 2) := by decide +kernel
theorem dX1_endOfOthers_151 : decode cX1_endOfOthers 151 = .ok (.ireturn, 1) := by decide +kernel
theorem dX1_allowsProduct_0 : decode cX1_allowsProduct 0 = .ok (.aload_n 2, 1) := by decide +kernel
theorem dX1_allowsProduct_1 : decode cX1_allowsProduct 1 = .ok (.getfield 103, 3) := by decide +kernel
theorem dX1_allowsProduct_4 : decode cX1_allowsProduct 4 = .ok (.aload_n 0, 1) := by decide +kernel
theorem dX1_allowsProduct_5 : decode cX1_allowsProduct 5 = .ok (.getfield 18, 3) := by decide +kernel
theorem dX1_allowsProduct_8 : decode cX1_allowsProduct 8 = .ok (.iaload, 1) := by decide +kernel
theorem dX1_allowsProduct_9 : decode cX1_allowsProduct 9 = .ok (.istore_n 3, 1) := by decide +kernel
theorem dX1_allowsProduct_10 : decode cX1_allowsProduct 10 = .ok (.iload_n 3, 1) := by decide +kernel
theorem dX1_allowsProduct_11 : decode cX1_allowsProduct 11 = .ok (.aload_n 2, 1) := by decide +kernel
theorem dX1_allowsProduct_12 : decode cX1_allowsProduct 12 = .ok (.getfield 100, 3) := by decide +kernel
theorem dX1_allowsProduct_15 : decode cX1_allowsProduct 15 = .ok (.aload_n 0, 1) := by decide +kernel
theorem dX1_allowsProduct_16 : decode cX1_allowsProduct 16 = .ok (.getfield 18, 3) := by decide +kernel
theorem dX1_allowsProduct_19 : decode cX1_allowsProduct 19 = .ok (.iaload, 1) := by decide +kernel
theorem dX1_allowsProduct_20 : decode cX1_allowsProduct 20 = .ok (.if_icmp .gt 42, 3) := by decide +kernel
theorem dX1_allowsProduct_23 : decode cX1_allowsProduct 23 = .ok (.iload_n 3, 1) := by decide +kernel
theorem dX1_allowsProduct_24 : decode cX1_allowsProduct 24 = .ok (.ifCond .ne 10, 3) := by decide +kernel
theorem dX1_allowsProduct_27 : decode cX1_allowsProduct 27 = .ok (.iload_n 1, 1) := by decide +kernel
theorem dX1_allowsProduct_28 : decode cX1_allowsProduct 28 = .ok (.ifCond .ne 28, 3) := by decide +kernel
theorem dX1_allowsProduct_31 : decode cX1_allowsProduct 31 = .ok (.goto 23, 3) := by decide +kernel
theorem dX1_allowsProduct_34 : decode cX1_allowsProduct 34 = .ok (.iload_n 1, 1) := by decide +kernel
theorem dX1_allowsProduct_35 : decode cX1_allowsProduct 35 = .ok (.iload_n 3, 1) := by decide +kernel
theorem dX1_allowsProduct_36 : decode cX1_allowsProduct 36 = .ok (.irem, 1) := by decide +kernel
theorem dX1_allowsProduct_37 : decode cX1_allowsProduct 37 = .ok (.ifCond .ne 19, 3) := by decide +kernel
theorem dX1_allowsProduct_40 : decode cX1_allowsProduct 40 = .ok (.aload_n 2, 1) := by decide +kernel
theorem dX1_allowsProduct_41 : decode cX1_allowsProduct 41 = .ok (.aload_n 0, 1) := by decide +kernel
theorem dX1_allowsProduct_42 : decode cX1_allowsProduct 42 = .ok (.getfield 21, 3) := by decide +kernel
theorem dX1_allowsProduct_45 : decode cX1_allowsProduct 45 = .ok (.iload_n 1, 1) := by decide +kernel
theorem dX1_allowsProduct_46 : decode cX1_allowsProduct 46 = .ok (.iload_n 3, 1) := by decide +kernel
theorem dX1_allowsProduct_47 : decode cX1_allowsProduct 47 = .ok (.idiv, 1) := by decide +kernel
theorem dX1_allowsProduct_48 : decode cX1_allowsProduct 48 = .ok (.invokevirtual 75, 3) := by decide +kernel
theorem dX1_allowsProduct_51 : decode cX1_allowsProduct 51 = .ok (.ifCond .eq 5, 3) := by decide +kernel
theorem dX1_allowsProduct_54 : decode cX1_allowsProduct 54 = .ok (.iconst 1, 1) := by decide +kernel
theorem dX1_allowsProduct_55 : decode cX1_allowsProduct 55 = .ok (.ireturn, 1) := by decide +kernel
theorem dX1_allowsProduct_56 : decode cX1_allowsProduct 56 = .ok (.iinc 3 1, 3) := by decide +kernel
theorem dX1_allowsProduct_59 : decode cX1_allowsProduct 59 = .ok (.goto (-49), 3) := by decide +kernel
theorem dX1_allowsProduct_62 : decode cX1_allowsProduct 62 = .ok (.iconst 0, 1) := by decide +kernel
theorem dX1_allowsProduct_63 : decode cX1_allowsProduct 63 = .ok (.ireturn, 1) := by decide +kernel
theorem dX1_allowsMultiplier_0 : decode cX1_allowsMultiplier 0 = .ok (.iload_n 1, 1) := by decide +kernel
theorem dX1_allowsMultiplier_1 : decode cX1_allowsMultiplier 1 = .ok (.ifCond .ne 13, 3) := by decide +kernel
theorem dX1_allowsMultiplier_4 : decode cX1_allowsMultiplier 4 = .ok (.aload_n 3, 1) := by decide +kernel
theorem dX1_allowsMultiplier_5 : decode cX1_allowsMultiplier 5 = .ok (.aload_n 0, 1) := by decide +kernel
theorem dX1_allowsMultiplier_6 : decode cX1_allowsMultiplier 6 = .ok (.getfield 15, 3) := by decide +kernel
theorem dX1_allowsMultiplier_9 : decode cX1_allowsMultiplier 9 = .ok (.iconst 0, 1) := by decide +kernel
theorem dX1_allowsMultiplier_10 : decode cX1_allowsMultiplier 10 = .ok (.invokevirtual 75, 3) := by decide +kernel
theorem dX1_allowsMultiplier_13 : decode cX1_allowsMultiplier 13 = .ok (.ireturn, 1) := by decide +kernel
theorem dX1_allowsMultiplier_14 : decode cX1_allowsMultiplier 14 = .ok (.iload_n 1, 1) := by decide +kernel
theorem dX1_allowsMultiplier_15 : decode cX1_allowsMultiplier 15 = .ok (.invokestatic 45, 3) := by decide +kernel
theorem dX1_allowsMultiplier_18 : decode cX1_allowsMultiplier 18 = .ok (.istore 4, 2) := by decide +kernel
theorem dX1_allowsMultiplier_20 : decode cX1_allowsMultiplier 20 = .ok (.iload_n 1, 1) := by decide +kernel
theorem dX1_allowsMultiplier_21 : decode cX1_allowsMultiplier 21 = .ok (.ifCond .le 15, 3) := by decide +kernel
theorem dX1_allowsMultiplier_24 : decode cX1_allowsMultiplier 24 = .ok (.aload_n 3, 1) := by decide +kernel
theorem dX1_allowsMultiplier_25 : decode cX1_allowsMultiplier 25 = .ok (.getfield 103, 3) := by decide +kernel
theorem dX1_allowsMultiplier_28 : decode cX1_allowsMultiplier 28 = .ok (.aload_n 0, 1) := by decide +kernel
theorem dX1_allowsMultiplier_29 : decode cX1_allowsMultiplier 29 = .ok (.getfield 15, 3) := by decide +kernel
theorem dX1_allowsMultiplier_32 : decode cX1_allowsMultiplier 32 = .ok (.iaload, 1) := by decide +kernel
theorem dX1_allowsMultiplier_33 : decode cX1_allowsMultiplier 33 = .ok (.goto 13, 3) := by decide +kernel
theorem dX1_allowsMultiplier_36 : decode cX1_allowsMultiplier 36 = .ok (.aload_n 3, 1) := by decide +kernel
theorem dX1_allowsMultiplier_37 : decode cX1_allowsMultiplier 37 = .ok (.getfield 100, 3) := by decide +kernel
theorem dX1_allowsMultiplier_40 : decode cX1_allowsMultiplier 40 = .ok (.aload_n 0, 1) := by decide +kernel
theorem dX1_allowsMultiplier_41 : decode cX1_allowsMultiplier 41 = .ok (.getfield 15, 3) := by decide +kernel
theorem dX1_allowsMultiplier_44 : decode cX1_allowsMultiplier 44 = .ok (.iaload, 1) := by decide +kernel
theorem dX1_allowsMultiplier_45 : decode cX1_allowsMultiplier 45 = .ok (.ineg, 1) := by decide +kernel
theorem dX1_allowsMultiplier_46 : decode cX1_allowsMultiplier 46 = .ok (.istore 5, 2) := by decide +kernel
theorem dX1_allowsMultiplier_48 : decode cX1_allowsMultiplier 48 = .ok (.iload_n 1, 1) := by decide +kernel
theorem dX1_allowsMultiplier_49 : decode cX1_allowsMultiplier 49 = .ok (.ifCond .le 15, 3) := by decide +kernel
theorem dX1_allowsMultiplier_52 : decode cX1_allowsMultiplier 52 = .ok (.aload_n 3, 1) := by decide +kernel
theorem dX1_allowsMultiplier_53 : decode cX1_allowsMultiplier 53 = .ok (.getfield 100, 3) := by decide +kernel
theorem dX1_allowsMultiplier_56 : decode cX1_allowsMultiplier 56 = .ok (.aload_n 0, 1) := by decide +kernel
theorem dX1_allowsMultiplier_57 : decode cX1_allowsMultiplier 57 = .ok (.getfield 15, 3) := by decide +kernel
theorem dX1_allowsMultiplier_60 : decode cX1_allowsMultiplier 60 = .ok (.iaload, 1) := by decide +kernel
theorem dX1_allowsMultiplier_61 : decode cX1_allowsMultiplier 61 = .ok (.goto 13, 3) := by decide +kernel
theorem dX1_allowsMultiplier_64 : decode cX1_allowsMultiplier 64 = .ok (.aload_n 3, 1) := by decide +kernel
theorem dX1_allowsMultiplier_65 : decode cX1_allowsMultiplier 65 = .ok (.getfield 103, 3) := by decide +kernel
theorem dX1_allowsMultiplier_68 : decode cX1_allowsMultiplier 68 = .ok (.aload_n 0, 1) := by decide +kernel
theorem dX1_allowsMultiplier_69 : decode cX1_allowsMultiplier 69 = .ok (.getfield 15, 3) := by decide +kernel
theorem dX1_allowsMultiplier_72 : decode cX1_allowsMultiplier 72 = .ok (.iaload, 1) := by decide +kernel
theorem dX1_allowsMultiplier_73 : decode cX1_allowsMultiplier 73 = .ok (.ineg, 1) := by decide +kernel
theorem dX1_allowsMultiplier_74 : decode cX1_allowsMultiplier 74 = .ok (.istore 6, 2) := by decide +kernel
theorem dX1_allowsMultiplier_76 : decode cX1_allowsMultiplier 76 = .ok (.iload 5, 2) := by decide +kernel
theorem dX1_allowsMultiplier_78 : decode cX1_allowsMultiplier 78 = .ok (.ineg, 1) := by decide +kernel
theorem dX1_allowsMultiplier_79 : decode cX1_allowsMultiplier 79 = .ok (.iload 4, 2) := by decide +kernel
theorem dX1_allowsMultiplier_81 : decode cX1_allowsMultiplier 81 = .ok (.invokestatic 39, 3) := by decide +kernel
theorem dX1_allowsMultiplier_84 : decode cX1_allowsMultiplier 84 = .ok (.ineg, 1) := by decide +kernel
theorem dX1_allowsMultiplier_85 : decode cX1_allowsMultiplier 85 = .ok (.istore 7, 2) := by decide +kernel
theorem dX1_allowsMultiplier_87 : decode cX1_allowsMultiplier 87 = .ok (.aload_n 3, 1) := by decide +kernel
theorem dX1_allowsMultiplier_88 : decode cX1_allowsMultiplier 88 = .ok (.iload_n 2, 1) := by decide +kernel
theorem dX1_allowsMultiplier_89 : decode cX1_allowsMultiplier 89 = .ok (.iload 7, 2) := by decide +kernel
theorem dX1_allowsMultiplier_91 : decode cX1_allowsMultiplier 91 = .ok (.iload 6, 2) := by decide +kernel
theorem dX1_allowsMultiplier_93 : decode cX1_allowsMultiplier 93 = .ok (.iload 4, 2) := by decide +kernel
theorem dX1_allowsMultiplier_95 : decode cX1_allowsMultiplier 95 = .ok (.invokestatic 39, 3) := by decide +kernel
theorem dX1_allowsMultiplier_98 : decode cX1_allowsMultiplier 98 = .ok (.invokevirtual 106, 3) := by decide +kernel
theorem dX1_allowsMultiplier_101 : decode cX1_allowsMultiplier 101 = .ok (.ireturn, 1) := by decide +kernel
theorem dX1_allowsQuotient_0 : decode cX1_allowsQuotient 0 = .ok (.aload_n 2, 1) := by decide +kernel
theorem dX1_allowsQuotient_1 : decode cX1_allowsQuotient 1 = .ok (.getfield 103, 3) := by decide +kernel
theorem dX1_allowsQuotient_4 : decode cX1_allowsQuotient 4 = .ok (.aload_n 0, 1) := by decide +kernel
theorem dX1_allowsQuotient_5 : decode cX1_allowsQuotient 5 = .ok (.getfield 21, 3) := by decide +kernel
theorem dX1_allowsQuotient_8 : decode cX1_allowsQuotient 8 = .ok (.iaload, 1) := by decide +kernel
theorem dX1_allowsQuotient_9 : decode cX1_allowsQuotient 9 = .ok (.istore_n 3, 1) := by decide +kernel
theorem dX1_allowsQuotient_10 : decode cX1_allowsQuotient 10 = .ok (.iload_n 3, 1) := by decide +kernel
theorem dX1_allowsQuotient_11 : decode cX1_allowsQuotient 11 = .ok (.aload_n 2, 1) := by decide +kernel
theorem dX1_allowsQuotient_12 : decode cX1_allowsQuotient 12 = .ok (.getfield 100, 3) := by decide +kernel
theorem dX1_allowsQuotient_15 : decode cX1_allowsQuotient 15 = .ok (.aload_n 0, 1) := by decide +kernel
theorem dX1_allowsQuotient_16 : decode cX1_allowsQuotient 16 = .ok (.getfield 21, 3) := by decide +kernel
theorem dX1_allowsQuotient_19 : decode cX1_allowsQuotient 19 = .ok (.iaload, 1) := by decide +kernel
theorem dX1_allowsQuotient_20 : decode cX1_allowsQuotient 20 = .ok (.if_icmp .gt 68, 3) := by decide +kernel
theorem dX1_allowsQuotient_23 : decode cX1_allowsQuotient 23 = .ok (.iload_n 3, 1) := by decide +kernel
theorem dX1_allowsQuotient_24 : decode cX1_allowsQuotient 24 = .ok (.ifCond .le 9, 3) := by decide +kernel
theorem dX1_allowsQuotient_27 : decode cX1_allowsQuotient 27 = .ok (.iload_n 1, 1) := by decide +kernel
theorem dX1_allowsQuotient_28 : decode cX1_allowsQuotient 28 = .ok (.iload_n 3, 1) := by decide +kernel
theorem dX1_allowsQuotient_29 : decode cX1_allowsQuotient 29 = .ok (.imul, 1) := by decide +kernel
theorem dX1_allowsQuotient_30 : decode cX1_allowsQuotient 30 = .ok (.goto 10, 3) := by decide +kernel
theorem dX1_allowsQuotient_33 : decode cX1_allowsQuotient 33 = .ok (.iload_n 1, 1) := by decide +kernel
theorem dX1_allowsQuotient_34 : decode cX1_allowsQuotient 34 = .ok (.iconst 1, 1) := by decide +kernel
theorem dX1_allowsQuotient_35 : decode cX1_allowsQuotient 35 = .ok (.iadd, 1) := by decide +kernel
theorem dX1_allowsQuotient_36 : decode cX1_allowsQuotient 36 = .ok (.iload_n 3, 1) := by decide +kernel
theorem dX1_allowsQuotient_37 : decode cX1_allowsQuotient 37 = .ok (.imul, 1) := by decide +kernel
theorem dX1_allowsQuotient_38 : decode cX1_allowsQuotient 38 = .ok (.iconst 1, 1) := by decide +kernel
theorem dX1_allowsQuotient_39 : decode cX1_allowsQuotient 39 = .ok (.iadd, 1) := by decide +kernel
theorem dX1_allowsQuotient_40 : decode cX1_allowsQuotient 40 = .ok (.istore 4, 2) := by decide +kernel
theorem dX1_allowsQuotient_42 : decode cX1_allowsQuotient 42 = .ok (.iload_n 3, 1) := by decide +kernel
theorem dX1_allowsQuotient_43 : decode cX1_allowsQuotient 43 = .ok (.ifCond .le 13, 3) := by decide +kernel
theorem dX1_allowsQuotient_46 : decode cX1_allowsQuotient 46 = .ok (.iload_n 1, 1) := by decide +kernel
theorem dX1_allowsQuotient_47 : decode cX1_allowsQuotient 47 = .ok (.iload_n 3, 1) := by decide +kernel
theorem dX1_allowsQuotient_48 : decode cX1_allowsQuotient 48 = .ok (.imul, 1) := by decide +kernel
theorem dX1_allowsQuotient_49 : decode cX1_allowsQuotient 49 = .ok (.iload_n 3, 1) := by decide +kernel
theorem dX1_allowsQuotient_50 : decode cX1_allowsQuotient 50 = .ok (.iadd, 1) := by decide +kernel
theorem dX1_allowsQuotient_51 : decode cX1_allowsQuotient 51 = .ok (.iconst 1, 1) := by decide +kernel
theorem dX1_allowsQuotient_52 : decode cX1_allowsQuotient 52 = .ok (.isub, 1) := by decide +kernel
theorem dX1_allowsQuotient_53 : decode cX1_allowsQuotient 53 = .ok (.goto 6, 3) := by decide +kernel
theorem dX1_allowsQuotient_56 : decode cX1_allowsQuotient 56 = .ok (.iload_n 1, 1) := by decide +kernel
theorem dX1_allowsQuotient_57 : decode cX1_allowsQuotient 57 = .ok (.iload_n 3, 1) := by decide +kernel
theorem dX1_allowsQuotient_58 : decode cX1_allowsQuotient 58 = .ok (.imul, 1) := by decide +kernel
theorem dX1_allowsQuotient_59 : decode cX1_allowsQuotient 59 = .ok (.istore 5, 2) := by decide +kernel
theorem dX1_allowsQuotient_61 : decode cX1_allowsQuotient 61 = .ok (.iload_n 3, 1) := by decide +kernel
theorem dX1_allowsQuotient_62 : decode cX1_allowsQuotient 62 = .ok (.ifCond .eq 20, 3) := by decide +kernel
theorem dX1_allowsQuotient_65 : decode cX1_allowsQuotient 65 = .ok (.aload_n 2, 1) := by decide +kernel
theorem dX1_allowsQuotient_66 : decode cX1_allowsQuotient 66 = .ok (.aload_n 0, 1) := by decide +kernel
theorem dX1_allowsQuotient_67 : decode cX1_allowsQuotient 67 = .ok (.getfield 18, 3) := by decide +kernel
theorem dX1_allowsQuotient_70 : decode cX1_allowsQuotient 70 = .ok (.iload 4, 2) := by decide +kernel
theorem dX1_allowsQuotient_72 : decode cX1_allowsQuotient 72 = .ok (.iload 5, 2) := by decide +kernel
theorem dX1_allowsQuotient_74 : decode cX1_allowsQuotient 74 = .ok (.invokevirtual 106, 3) := by decide +kernel
theorem dX1_allowsQuotient_77 : decode cX1_allowsQuotient 77 = .ok (.ifCond .eq 5, 3) := by decide +kernel
theorem dX1_allowsQuotient_80 : decode cX1_allowsQuotient 80 = .ok (.iconst 1, 1) := by decide +kernel
theorem dX1_allowsQuotient_81 : decode cX1_allowsQuotient 81 = .ok (.ireturn, 1) := by decide +kernel
theorem dX1_allowsQuotient_82 : decode cX1_allowsQuotient 82 = .ok (.iinc 3 1, 3) := by decide +kernel
theorem dX1_allowsQuotient_85 : decode cX1_allowsQuotient 85 = .ok (.goto (-75), 3) := by decide +kernel
theorem dX1_allowsQuotient_88 : decode cX1_allowsQuotient 88 = .ok (.iconst 0, 1) := by decide +kernel
theorem dX1_allowsQuotient_89 : decode cX1_allowsQuotient 89 = .ok (.ireturn, 1) := by decide +kernel
theorem dX1_allowsDividend_0 : decode cX1_allowsDividend 0 = .ok (.aload_n 2, 1) := by decide +kernel
theorem dX1_allowsDividend_1 : decode cX1_allowsDividend 1 = .ok (.getfield 103, 3) := by decide +kernel
theorem dX1_allowsDividend_4 : decode cX1_allowsDividend 4 = .ok (.aload_n 0, 1) := by decide +kernel
theorem dX1_allowsDividend_5 : decode cX1_allowsDividend 5 = .ok (.getfield 21, 3) := by decide +kernel
theorem dX1_allowsDividend_8 : decode cX1_allowsDividend 8 = .ok (.iaload, 1) := by decide +kernel
theorem dX1_allowsDividend_9 : decode cX1_allowsDividend 9 = .ok (.istore_n 3, 1) := by decide +kernel
theorem dX1_allowsDividend_10 : decode cX1_allowsDividend 10 = .ok (.iload_n 3, 1) := by decide +kernel
theorem dX1_allowsDividend_11 : decode cX1_allowsDividend 11 = .ok (.aload_n 2, 1) := by decide +kernel
theorem dX1_allowsDividend_12 : decode cX1_allowsDividend 12 = .ok (.getfield 100, 3) := by decide +kernel
theorem dX1_allowsDividend_15 : decode cX1_allowsDividend 15 = .ok (.aload_n 0, 1) := by decide +kernel
theorem dX1_allowsDividend_16 : decode cX1_allowsDividend 16 = .ok (.getfield 21, 3) := by decide +kernel
theorem dX1_allowsDividend_19 : decode cX1_allowsDividend 19 = .ok (.iaload, 1) := by decide +kernel
theorem dX1_allowsDividend_20 : decode cX1_allowsDividend 20 = .ok (.if_icmp .gt 31, 3) := by decide +kernel
theorem dX1_allowsDividend_23 : decode cX1_allowsDividend 23 = .ok (.iload_n 3, 1) := by decide +kernel
theorem dX1_allowsDividend_24 : decode cX1_allowsDividend 24 = .ok (.ifCond .eq 21, 3) := by decide +kernel
theorem dX1_allowsDividend_27 : decode cX1_allowsDividend 27 = .ok (.aload_n 2, 1) := by decide +kernel
theorem dX1_allowsDividend_28 : decode cX1_allowsDividend 28 = .ok (.aload_n 0, 1) := by decide +kernel
theorem dX1_allowsDividend_29 : decode cX1_allowsDividend 29 = .ok (.getfield 15, 3) := by decide +kernel
theorem dX1_allowsDividend_32 : decode cX1_allowsDividend 32 = .ok (.iload_n 1, 1) := by decide +kernel
theorem dX1_allowsDividend_33 : decode cX1_allowsDividend 33 = .ok (.iload_n 3, 1) := by decide +kernel
theorem dX1_allowsDividend_34 : decode cX1_allowsDividend 34 = .ok (.invokestatic 39, 3) := by decide +kernel
theorem dX1_allowsDividend_37 : decode cX1_allowsDividend 37 = .ok (.invokevirtual 75, 3) := by decide +kernel
theorem dX1_allowsDividend_40 : decode cX1_allowsDividend 40 = .ok (.ifCond .eq 5, 3) := by decide +kernel
theorem dX1_allowsDividend_43 : decode cX1_allowsDividend 43 = .ok (.iconst 1, 1) := by decide +kernel
theorem dX1_allowsDividend_44 : decode cX1_allowsDividend 44 = .ok (.ireturn, 1) := by decide +kernel
theorem dX1_allowsDividend_45 : decode cX1_allowsDividend 45 = .ok (.iinc 3 1, 3) := by decide +kernel
theorem dX1_allowsDividend_48 : decode cX1_allowsDividend 48 = .ok (.goto (-38), 3) := by decide +kernel
theorem dX1_allowsDividend_51 : decode cX1_allowsDividend 51 = .ok (.iconst 0, 1) := by decide +kernel
theorem dX1_allowsDividend_52 : decode cX1_allowsDividend 52 = .ok (.ireturn, 1) := by decide +kernel
theorem dX1_allowsDivisor_0 : decode cX1_allowsDivisor 0 = .ok (.iload_n 1, 1) := by decide +kernel
theorem dX1_allowsDivisor_1 : decode cX1_allowsDivisor 1 = .ok (.ifCond .ne 5, 3) := by decide +kernel
theorem dX1_allowsDivisor_4 : decode cX1_allowsDivisor 4 = .ok (.iconst 0, 1) := by decide +kernel
theorem dX1_allowsDivisor_5 : decode cX1_allowsDivisor 5 = .ok (.ireturn, 1) := by decide +kernel
theorem dX1_allowsDivisor_6 : decode cX1_allowsDivisor 6 = .ok (.aload_n 2, 1) := by decide +kernel
theorem dX1_allowsDivisor_7 : decode cX1_allowsDivisor 7 = .ok (.getfield 103, 3) := by decide +kernel
theorem dX1_allowsDivisor_10 : decode cX1_allowsDivisor 10 = .ok (.aload_n 0, 1) := by decide +kernel
theorem dX1_allowsDivisor_11 : decode cX1_allowsDivisor 11 = .ok (.getfield 18, 3) := by decide +kernel
theorem dX1_allowsDivisor_14 : decode cX1_allowsDivisor 14 = .ok (.iaload, 1) := by decide +kernel
theorem dX1_allowsDivisor_15 : decode cX1_allowsDivisor 15 = .ok (.iload_n 1, 1) := by decide +kernel
theorem dX1_allowsDivisor_16 : decode cX1_allowsDivisor 16 = .ok (.invokestatic 39, 3) := by decide +kernel
theorem dX1_allowsDivisor_19 : decode cX1_allowsDivisor 19 = .ok (.istore_n 3, 1) := by decide +kernel
theorem dX1_allowsDivisor_20 : decode cX1_allowsDivisor 20 = .ok (.aload_n 2, 1) := by decide +kernel
theorem dX1_allowsDivisor_21 : decode cX1_allowsDivisor 21 = .ok (.getfield 100, 3) := by decide +kernel
theorem dX1_allowsDivisor_24 : decode cX1_allowsDivisor 24 = .ok (.aload_n 0, 1) := by decide +kernel
theorem dX1_allowsDivisor_25 : decode cX1_allowsDivisor 25 = .ok (.getfield 18, 3) := by decide +kernel
theorem dX1_allowsDivisor_28 : decode cX1_allowsDivisor 28 = .ok (.iaload, 1) := by decide +kernel
theorem dX1_allowsDivisor_29 : decode cX1_allowsDivisor 29 = .ok (.iload_n 1, 1) := by decide +kernel
theorem dX1_allowsDivisor_30 : decode cX1_allowsDivisor 30 = .ok (.invokestatic 39, 3) := by decide +kernel
theorem dX1_allowsDivisor_33 : decode cX1_allowsDivisor 33 = .ok (.istore 4, 2) := by decide +kernel
theorem dX1_allowsDivisor_35 : decode cX1_allowsDivisor 35 = .ok (.aload_n 2, 1) := by decide +kernel
theorem dX1_allowsDivisor_36 : decode cX1_allowsDivisor 36 = .ok (.aload_n 0, 1) := by decide +kernel
theorem dX1_allowsDivisor_37 : decode cX1_allowsDivisor 37 = .ok (.getfield 15, 3) := by decide +kernel
theorem dX1_allowsDivisor_40 : decode cX1_allowsDivisor 40 = .ok (.iload_n 3, 1) := by decide +kernel
theorem dX1_allowsDivisor_41 : decode cX1_allowsDivisor 41 = .ok (.iload 4, 2) := by decide +kernel
theorem dX1_allowsDivisor_43 : decode cX1_allowsDivisor 43 = .ok (.invokestatic 52, 3) := by decide +kernel
theorem dX1_allowsDivisor_46 : decode cX1_allowsDivisor 46 = .ok (.iload_n 3, 1) := by decide +kernel
theorem dX1_allowsDivisor_47 : decode cX1_allowsDivisor 47 = .ok (.iload 4, 2) := by decide +kernel
theorem dX1_allowsDivisor_49 : decode cX1_allowsDivisor 49 = .ok (.invokestatic 49, 3) := by decide +kernel
theorem dX1_allowsDivisor_52 : decode cX1_allowsDivisor 52 = .ok (.invokevirtual 106, 3) := by decide +kernel
theorem dX1_allowsDivisor_55 : decode cX1_allowsDivisor 55 = .ok (.ireturn, 1) := by decide +kernel
theorem dX1_allowsGreatest_0 : decode cX1_allowsGreatest 0 = .ok (.aload_n 2, 1) := by decide +kernel
theorem dX1_allowsGreatest_1 : decode cX1_allowsGreatest 1 = .ok (.aload_n 0, 1) := by decide +kernel
theorem dX1_allowsGreatest_2 : decode cX1_allowsGreatest 2 = .ok (.getfield 18, 3) := by decide +kernel
theorem dX1_allowsGreatest_5 : decode cX1_allowsGreatest 5 = .ok (.iload_n 1, 1) := by decide +kernel
theorem dX1_allowsGreatest_6 : decode cX1_allowsGreatest 6 = .ok (.invokevirtual 75, 3) := by decide +kernel
theorem dX1_allowsGreatest_9 : decode cX1_allowsGreatest 9 = .ok (.ifCond .eq 16, 3) := by decide +kernel
theorem dX1_allowsGreatest_12 : decode cX1_allowsGreatest 12 = .ok (.aload_n 2, 1) := by decide +kernel
theorem dX1_allowsGreatest_13 : decode cX1_allowsGreatest 13 = .ok (.getfield 103, 3) := by decide +kernel
theorem dX1_allowsGreatest_16 : decode cX1_allowsGreatest 16 = .ok (.aload_n 0, 1) := by decide +kernel
theorem dX1_allowsGreatest_17 : decode cX1_allowsGreatest 17 = .ok (.getfield 21, 3) := by decide +kernel
theorem dX1_allowsGreatest_20 : decode cX1_allowsGreatest 20 = .ok (.iaload, 1) := by decide +kernel
theorem dX1_allowsGreatest_21 : decode cX1_allowsGreatest 21 = .ok (.iload_n 1, 1) := by decide +kernel
theorem dX1_allowsGreatest_22 : decode cX1_allowsGreatest 22 = .ok (.if_icmp .le 28, 3) := by decide +kernel
theorem dX1_allowsGreatest_25 : decode cX1_allowsGreatest 25 = .ok (.aload_n 2, 1) := by decide +kernel
theorem dX1_allowsGreatest_26 : decode cX1_allowsGreatest 26 = .ok (.aload_n 0, 1) := by decide +kernel
theorem dX1_allowsGreatest_27 : decode cX1_allowsGreatest 27 = .ok (.getfield 21, 3) := by decide +kernel
theorem dX1_allowsGreatest_30 : decode cX1_allowsGreatest 30 = .ok (.iload_n 1, 1) := by decide +kernel
theorem dX1_allowsGreatest_31 : decode cX1_allowsGreatest 31 = .ok (.invokevirtual 75, 3) := by decide +kernel
theorem dX1_allowsGreatest_34 : decode cX1_allowsGreatest 34 = .ok (.ifCond .eq 20, 3) := by decide +kernel
theorem dX1_allowsGreatest_37 : decode cX1_allowsGreatest 37 = .ok (.aload_n 2, 1) := by decide +kernel
theorem dX1_allowsGreatest_38 : decode cX1_allowsGreatest 38 = .ok (.getfield 103, 3) := by decide +kernel
theorem dX1_allowsGreatest_41 : decode cX1_allowsGreatest 41 = .ok (.aload_n 0, 1) := by decide +kernel
theorem dX1_allowsGreatest_42 : decode cX1_allowsGreatest 42 = .ok (.getfield 18, 3) := by decide +kernel
theorem dX1_allowsGreatest_45 : decode cX1_allowsGreatest 45 = .ok (.iaload, 1) := by decide +kernel
theorem dX1_allowsGreatest_46 : decode cX1_allowsGreatest 46 = .ok (.iload_n 1, 1) := by decide +kernel
theorem dX1_allowsGreatest_47 : decode cX1_allowsGreatest 47 = .ok (.if_icmp .gt 7, 3) := by decide +kernel
theorem dX1_allowsGreatest_50 : decode cX1_allowsGreatest 50 = .ok (.iconst 1, 1) := by decide +kernel
theorem dX1_allowsGreatest_51 : decode cX1_allowsGreatest 51 = .ok (.goto 4, 3) := by decide +kernel
theorem dX1_allowsGreatest_54 : decode cX1_allowsGreatest 54 = .ok (.iconst 0, 1) := by decide +kernel
theorem dX1_allowsGreatest_55 : decode cX1_allowsGreatest 55 = .ok (.ireturn, 1) := by decide +kernel
theorem dX1_allowsBesideGreatest_0 : decode cX1_allowsBesideGreatest 0 = .ok (.aload_n 3, 1) := by decide +kernel
theorem dX1_allowsBesideGreatest_1 : decode cX1_allowsBesideGreatest 1 = .ok (.aload_n 0, 1) := by decide +kernel
theorem dX1_allowsBesideGreatest_2 : decode cX1_allowsBesideGreatest 2 = .ok (.getfield 15, 3) := by decide +kernel
theorem dX1_allowsBesideGreatest_5 : decode cX1_allowsBesideGreatest 5 = .ok (.iload_n 1, 1) := by decide +kernel
theorem dX1_allowsBesideGreatest_6 : decode cX1_allowsBesideGreatest 6 = .ok (.aload_n 3, 1) := by decide +kernel
theorem dX1_allowsBesideGreatest_7 : decode cX1_allowsBesideGreatest 7 = .ok (.getfield 103, 3) := by decide +kernel
theorem dX1_allowsBesideGreatest_10 : decode cX1_allowsBesideGreatest 10 = .ok (.iload_n 2, 1) := by decide +kernel
theorem dX1_allowsBesideGreatest_11 : decode cX1_allowsBesideGreatest 11 = .ok (.iaload, 1) := by decide +kernel
theorem dX1_allowsBesideGreatest_12 : decode cX1_allowsBesideGreatest 12 = .ok (.invokestatic 49, 3) := by decide +kernel
theorem dX1_allowsBesideGreatest_15 : decode cX1_allowsBesideGreatest 15 = .ok (.iload_n 1, 1) := by decide +kernel
theorem dX1_allowsBesideGreatest_16 : decode cX1_allowsBesideGreatest 16 = .ok (.aload_n 3, 1) := by decide +kernel
theorem dX1_allowsBesideGreatest_17 : decode cX1_allowsBesideGreatest 17 = .ok (.getfield 100, 3) := by decide +kernel
theorem dX1_allowsBesideGreatest_20 : decode cX1_allowsBesideGreatest 20 = .ok (.iload_n 2, 1) := by decide +kernel
theorem dX1_allowsBesideGreatest_21 : decode cX1_allowsBesideGreatest 21 = .ok (.iaload, 1) := by decide +kernel
theorem dX1_allowsBesideGreatest_22 : decode cX1_allowsBesideGreatest 22 = .ok (.invokestatic 49, 3) := by decide +kernel
theorem dX1_allowsBesideGreatest_25 : decode cX1_allowsBesideGreatest 25 = .ok (.invokevirtual 106, 3) := by decide +kernel
theorem dX1_allowsBesideGreatest_28 : decode cX1_allowsBesideGreatest 28 = .ok (.ireturn, 1) := by decide +kernel
theorem dX1_allowsLeast_0 : decode cX1_allowsLeast 0 = .ok (.aload_n 2, 1) := by decide +kernel
theorem dX1_allowsLeast_1 : decode cX1_allowsLeast 1 = .ok (.aload_n 0, 1) := by decide +kernel
theorem dX1_allowsLeast_2 : decode cX1_allowsLeast 2 = .ok (.getfield 18, 3) := by decide +kernel
theorem dX1_allowsLeast_5 : decode cX1_allowsLeast 5 = .ok (.iload_n 1, 1) := by decide +kernel
theorem dX1_allowsLeast_6 : decode cX1_allowsLeast 6 = .ok (.invokevirtual 75, 3) := by decide +kernel
theorem dX1_allowsLeast_9 : decode cX1_allowsLeast 9 = .ok (.ifCond .eq 16, 3) := by decide +kernel
theorem dX1_allowsLeast_12 : decode cX1_allowsLeast 12 = .ok (.aload_n 2, 1) := by decide +kernel
theorem dX1_allowsLeast_13 : decode cX1_allowsLeast 13 = .ok (.getfield 100, 3) := by decide +kernel
theorem dX1_allowsLeast_16 : decode cX1_allowsLeast 16 = .ok (.aload_n 0, 1) := by decide +kernel
theorem dX1_allowsLeast_17 : decode cX1_allowsLeast 17 = .ok (.getfield 21, 3) := by decide +kernel
theorem dX1_allowsLeast_20 : decode cX1_allowsLeast 20 = .ok (.iaload, 1) := by decide +kernel
theorem dX1_allowsLeast_21 : decode cX1_allowsLeast 21 = .ok (.iload_n 1, 1) := by decide +kernel
theorem dX1_allowsLeast_22 : decode cX1_allowsLeast 22 = .ok (.if_icmp .ge 28, 3) := by decide +kernel
theorem dX1_allowsLeast_25 : decode cX1_allowsLeast 25 = .ok (.aload_n 2, 1) := by decide +kernel
theorem dX1_allowsLeast_26 : decode cX1_allowsLeast 26 = .ok (.aload_n 0, 1) := by decide +kernel
theorem dX1_allowsLeast_27 : decode cX1_allowsLeast 27 = .ok (.getfield 21, 3) := by decide +kernel
theorem dX1_allowsLeast_30 : decode cX1_allowsLeast 30 = .ok (.iload_n 1, 1) := by decide +kernel
theorem dX1_allowsLeast_31 : decode cX1_allowsLeast 31 = .ok (.invokevirtual 75, 3) := by decide +kernel
theorem dX1_allowsLeast_34 : decode cX1_allowsLeast 34 = .ok (.ifCond .eq 20, 3) := by decide +kernel
theorem dX1_allowsLeast_37 : decode cX1_allowsLeast 37 = .ok (.aload_n 2, 1) := by decide +kernel
theorem dX1_allowsLeast_38 : decode cX1_allowsLeast 38 = .ok (.getfield 100, 3) := by decide +kernel
theorem dX1_allowsLeast_41 : decode cX1_allowsLeast 41 = .ok (.aload_n 0, 1) := by decide +kernel
theorem dX1_allowsLeast_42 : decode cX1_allowsLeast 42 = .ok (.getfield 18, 3) := by decide +kernel
theorem dX1_allowsLeast_45 : decode cX1_allowsLeast 45 = .ok (.iaload, 1) := by decide +kernel
theorem dX1_allowsLeast_46 : decode cX1_allowsLeast 46 = .ok (.iload_n 1, 1) := by decide +kernel
theorem dX1_allowsLeast_47 : decode cX1_allowsLeast 47 = .ok (.if_icmp .lt 7, 3) := by decide +kernel
theorem dX1_allowsLeast_50 : decode cX1_allowsLeast 50 = .ok (.iconst 1, 1) := by decide +kernel
theorem dX1_allowsLeast_51 : decode cX1_allowsLeast 51 = .ok (.goto 4, 3) := by decide +kernel
theorem dX1_allowsLeast_54 : decode cX1_allowsLeast 54 = .ok (.iconst 0, 1) := by decide +kernel
theorem dX1_allowsLeast_55 : decode cX1_allowsLeast 55 = .ok (.ireturn, 1) := by decide +kernel
theorem dX1_allowsBesideLeast_0 : decode cX1_allowsBesideLeast 0 = .ok (.aload_n 3, 1) := by decide +kernel
theorem dX1_allowsBesideLeast_1 : decode cX1_allowsBesideLeast 1 = .ok (.aload_n 0, 1) := by decide +kernel
theorem dX1_allowsBesideLeast_2 : decode cX1_allowsBesideLeast 2 = .ok (.getfield 15, 3) := by decide +kernel
theorem dX1_allowsBesideLeast_5 : decode cX1_allowsBesideLeast 5 = .ok (.iload_n 1, 1) := by decide +kernel
theorem dX1_allowsBesideLeast_6 : decode cX1_allowsBesideLeast 6 = .ok (.aload_n 3, 1) := by decide +kernel
theorem dX1_allowsBesideLeast_7 : decode cX1_allowsBesideLeast 7 = .ok (.getfield 103, 3) := by decide +kernel
theorem dX1_allowsBesideLeast_10 : decode cX1_allowsBesideLeast 10 = .ok (.iload_n 2, 1) := by decide +kernel
theorem dX1_allowsBesideLeast_11 : decode cX1_allowsBesideLeast 11 = .ok (.iaload, 1) := by decide +kernel
theorem dX1_allowsBesideLeast_12 : decode cX1_allowsBesideLeast 12 = .ok (.invokestatic 52, 3) := by decide +kernel
theorem dX1_allowsBesideLeast_15 : decode cX1_allowsBesideLeast 15 = .ok (.iload_n 1, 1) := by decide +kernel
theorem dX1_allowsBesideLeast_16 : decode cX1_allowsBesideLeast 16 = .ok (.aload_n 3, 1) := by decide +kernel
theorem dX1_allowsBesideLeast_17 : decode cX1_allowsBesideLeast 17 = .ok (.getfield 100, 3) := by decide +kernel
theorem dX1_allowsBesideLeast_20 : decode cX1_allowsBesideLeast 20 = .ok (.iload_n 2, 1) := by decide +kernel
theorem dX1_allowsBesideLeast_21 : decode cX1_allowsBesideLeast 21 = .ok (.iaload, 1) := by decide +kernel
theorem dX1_allowsBesideLeast_22 : decode cX1_allowsBesideLeast 22 = .ok (.invokestatic 52, 3) := by decide +kernel
theorem dX1_allowsBesideLeast_25 : decode cX1_allowsBesideLeast 25 = .ok (.invokevirtual 106, 3) := by decide +kernel
theorem dX1_allowsBesideLeast_28 : decode cX1_allowsBesideLeast 28 = .ok (.ireturn, 1) := by decide +kernel
theorem dX1_allowsInCount_0 : decode cX1_allowsInCount 0 = .ok (.iload_n 1, 1) := by decide +kernel
theorem dX1_allowsInCount_1 : decode cX1_allowsInCount 1 = .ok (.aload_n 0, 1) := by decide +kernel
theorem dX1_allowsInCount_2 : decode cX1_allowsInCount 2 = .ok (.getfield 15, 3) := by decide +kernel
theorem dX1_allowsInCount_5 : decode cX1_allowsInCount 5 = .ok (.if_icmp .ne 21, 3) := by decide +kernel
theorem dX1_allowsInCount_8 : decode cX1_allowsInCount 8 = .ok (.iload 4, 2) := by decide +kernel
theorem dX1_allowsInCount_10 : decode cX1_allowsInCount 10 = .ok (.iload_n 2, 1) := by decide +kernel
theorem dX1_allowsInCount_11 : decode cX1_allowsInCount 11 = .ok (.if_icmp .gt 13, 3) := by decide +kernel
theorem dX1_allowsInCount_14 : decode cX1_allowsInCount 14 = .ok (.iload_n 2, 1) := by decide +kernel
theorem dX1_allowsInCount_15 : decode cX1_allowsInCount 15 = .ok (.iload 5, 2) := by decide +kernel
theorem dX1_allowsInCount_17 : decode cX1_allowsInCount 17 = .ok (.if_icmp .gt 7, 3) := by decide +kernel
theorem dX1_allowsInCount_20 : decode cX1_allowsInCount 20 = .ok (.iconst 1, 1) := by decide +kernel
theorem dX1_allowsInCount_21 : decode cX1_allowsInCount 21 = .ok (.goto 4, 3) := by decide +kernel
theorem dX1_allowsInCount_24 : decode cX1_allowsInCount 24 = .ok (.iconst 0, 1) := by decide +kernel
theorem dX1_allowsInCount_25 : decode cX1_allowsInCount 25 = .ok (.ireturn, 1) := by decide +kernel
theorem dX1_allowsInCount_26 : decode cX1_allowsInCount 26 = .ok (.iload_n 2, 1) := by decide +kernel
theorem dX1_allowsInCount_27 : decode cX1_allowsInCount 27 = .ok (.aload_n 0, 1) := by decide +kernel
theorem dX1_allowsInCount_28 : decode cX1_allowsInCount 28 = .ok (.getfield 24, 3) := by decide +kernel
theorem dX1_allowsInCount_31 : decode cX1_allowsInCount 31 = .ok (.if_icmp .ne 7, 3) := by decide +kernel
theorem dX1_allowsInCount_34 : decode cX1_allowsInCount 34 = .ok (.iconst 1, 1) := by decide +kernel
theorem dX1_allowsInCount_35 : decode cX1_allowsInCount 35 = .ok (.goto 4, 3) := by decide +kernel
theorem dX1_allowsInCount_38 : decode cX1_allowsInCount 38 = .ok (.iconst 0, 1) := by decide +kernel
theorem dX1_allowsInCount_39 : decode cX1_allowsInCount 39 = .ok (.istore 6, 2) := by decide +kernel
theorem dX1_allowsInCount_41 : decode cX1_allowsInCount 41 = .ok (.aload_n 3, 1) := by decide +kernel
theorem dX1_allowsInCount_42 : decode cX1_allowsInCount 42 = .ok (.aload_n 0, 1) := by decide +kernel
theorem dX1_allowsInCount_43 : decode cX1_allowsInCount 43 = .ok (.getfield 15, 3) := by decide +kernel
theorem dX1_allowsInCount_46 : decode cX1_allowsInCount 46 = .ok (.iload 4, 2) := by decide +kernel
theorem dX1_allowsInCount_48 : decode cX1_allowsInCount 48 = .ok (.iload 6, 2) := by decide +kernel
theorem dX1_allowsInCount_50 : decode cX1_allowsInCount 50 = .ok (.iadd, 1) := by decide +kernel
theorem dX1_allowsInCount_51 : decode cX1_allowsInCount 51 = .ok (.iload 5, 2) := by decide +kernel
theorem dX1_allowsInCount_53 : decode cX1_allowsInCount 53 = .ok (.iload 6, 2) := by decide +kernel
theorem dX1_allowsInCount_55 : decode cX1_allowsInCount 55 = .ok (.iadd, 1) := by decide +kernel
theorem dX1_allowsInCount_56 : decode cX1_allowsInCount 56 = .ok (.invokevirtual 106, 3) := by decide +kernel
theorem dX1_allowsInCount_59 : decode cX1_allowsInCount 59 = .ok (.ireturn, 1) := by decide +kernel
theorem dX2_init_0 : decode cX2_init 0 = .ok (.aload_n 0, 1) := by decide +kernel
theorem dX2_init_1 : decode cX2_init 1 = .ok (.invokespecial 3, 3) := by decide +kernel
theorem dX2_init_4 : decode cX2_init 4 = .ok (.aload_n 0, 1) := by decide +kernel
theorem dX2_init_5 : decode cX2_init 5 = .ok (.iconst 0, 1) := by decide +kernel
theorem dX2_init_6 : decode cX2_init 6 = .ok (.putfield 9, 3) := by decide +kernel
theorem dX2_init_9 : decode cX2_init 9 = .ok (.aload_n 0, 1) := by decide +kernel
theorem dX2_init_10 : decode cX2_init 10 = .ok (.bipush 12, 2) := by decide +kernel
theorem dX2_init_12 : decode cX2_init 12 = .ok (.anewarray 15, 3) := by decide +kernel
theorem dX2_init_15 : decode cX2_init 15 = .ok (.putfield 17, 3) := by decide +kernel
theorem dX2_init_18 : decode cX2_init 18 = .ok (.iconst 0, 1) := by decide +kernel
theorem dX2_init_19 : decode cX2_init 19 = .ok (.istore_n 1, 1) := by decide +kernel
theorem dX2_init_20 : decode cX2_init 20 = .ok (.iload_n 1, 1) := by decide +kernel
theorem dX2_init_21 : decode cX2_init 21 = .ok (.bipush 12, 2) := by decide +kernel
theorem dX2_init_23 : decode cX2_init 23 = .ok (.if_icmp .ge 22, 3) := by decide +kernel
theorem dX2_init_26 : decode cX2_init 26 = .ok (.aload_n 0, 1) := by decide +kernel
theorem dX2_init_27 : decode cX2_init 27 = .ok (.getfield 17, 3) := by decide +kernel
theorem dX2_init_30 : decode cX2_init 30 = .ok (.iload_n 1, 1) := by decide +kernel
theorem dX2_init_31 : decode cX2_init 31 = .ok (.new 15, 3) := by decide +kernel
theorem dX2_init_34 : decode cX2_init 34 = .ok (.dup, 1) := by decide +kernel
theorem dX2_init_35 : decode cX2_init 35 = .ok (.invokespecial 21, 3) := by decide +kernel
theorem dX2_init_38 : decode cX2_init 38 = .ok (.aastore, 1) := by decide +kernel
theorem dX2_init_39 : decode cX2_init 39 = .ok (.iinc 1 1, 3) := by decide +kernel
theorem dX2_init_42 : decode cX2_init 42 = .ok (.goto (-22), 3) := by decide +kernel
theorem dX2_init_45 : decode cX2_init 45 = .ok (.return_, 1) := by decide +kernel
theorem dX3_init_0 : decode cX3_init 0 = .ok (.aload_n 0, 1) := by decide +kernel
theorem dX3_init_1 : decode cX3_init 1 = .ok (.invokespecial 3, 3) := by decide +kernel
theorem dX3_init_4 : decode cX3_init 4 = .ok (.aload_n 0, 1) := by decide +kernel
theorem dX3_init_5 : decode cX3_init 5 = .ok (.iconst 0, 1) := by decide +kernel
theorem dX3_init_6 : decode cX3_init 6 = .ok (.putfield 9, 3) := by decide +kernel
theorem dX3_init_9 : decode cX3_init 9 = .ok (.aload_n 0, 1) := by decide +kernel
theorem dX3_init_10 : decode cX3_init 10 = .ok (.bipush 8, 2) := by decide +kernel
theorem dX3_init_12 : decode cX3_init 12 = .ok (.newarray .long, 2) := by decide +kernel
theorem dX3_init_14 : decode cX3_init 14 = .ok (.putfield 15, 3) := by decide +kernel
theorem dX3_init_17 : decode cX3_init 17 = .ok (.aload_n 0, 1) := by decide +kernel
theorem dX3_init_18 : decode cX3_init 18 = .ok (.bipush 8, 2) := by decide +kernel
theorem dX3_init_20 : decode cX3_init 20 = .ok (.newarray .long, 2) := by decide +kernel
theorem dX3_init_22 : decode cX3_init 22 = .ok (.putfield 19, 3) := by decide +kernel
theorem dX3_init_25 : decode cX3_init 25 = .ok (.aload_n 0, 1) := by decide +kernel
theorem dX3_init_26 : decode cX3_init 26 = .ok (.new 22, 3) := by decide +kernel
theorem dX3_init_29 : decode cX3_init 29 = .ok (.dup, 1) := by decide +kernel
theorem dX3_init_30 : decode cX3_init 30 = .ok (.invokespecial 24, 3) := by decide +kernel
theorem dX3_init_33 : decode cX3_init 33 = .ok (.putfield 25, 3) := by decide +kernel
theorem dX3_init_36 : decode cX3_init 36 = .ok (.aload_n 0, 1) := by decide +kernel
theorem dX3_init_37 : decode cX3_init 37 = .ok (.new 22, 3) := by decide +kernel
theorem dX3_init_40 : decode cX3_init 40 = .ok (.dup, 1) := by decide +kernel
theorem dX3_init_41 : decode cX3_init 41 = .ok (.invokespecial 24, 3) := by decide +kernel
theorem dX3_init_44 : decode cX3_init 44 = .ok (.putfield 29, 3) := by decide +kernel
theorem dX3_init_47 : decode cX3_init 47 = .ok (.return_, 1) := by decide +kernel
theorem dX3_add_0 : decode cX3_add 0 = .ok (.ldc2_w 32, 3) := by decide +kernel
theorem dX3_add_3 : decode cX3_add 3 = .ok (.bipush 31, 2) := by decide +kernel
theorem dX3_add_5 : decode cX3_add 5 = .ok (.iload_n 2, 1) := by decide +kernel
theorem dX3_add_6 : decode cX3_add 6 = .ok (.isub, 1) := by decide +kernel
theorem dX3_add_7 : decode cX3_add 7 = .ok (.lushr, 1) := by decide +kernel
theorem dX3_add_8 : decode cX3_add 8 = .ok (.lstore_n 3, 1) := by decide +kernel
theorem dX3_add_9 : decode cX3_add 9 = .ok (.ldc2_w 32, 3) := by decide +kernel
theorem dX3_add_12 : decode cX3_add 12 = .ok (.iload_n 1, 1) := by decide +kernel
theorem dX3_add_13 : decode cX3_add 13 = .ok (.bipush (-32), 2) := by decide +kernel
theorem dX3_add_15 : decode cX3_add 15 = .ok (.isub, 1) := by decide +kernel
theorem dX3_add_16 : decode cX3_add 16 = .ok (.lshl, 1) := by decide +kernel
theorem dX3_add_17 : decode cX3_add 17 = .ok (.lstore 5, 2) := by decide +kernel
theorem dX3_add_19 : decode cX3_add 19 = .ok (.aload_n 0, 1) := by decide +kernel
theorem dX3_add_20 : decode cX3_add 20 = .ok (.getfield 15, 3) := by decide +kernel
theorem dX3_add_23 : decode cX3_add 23 = .ok (.aload_n 0, 1) := by decide +kernel
theorem dX3_add_24 : decode cX3_add 24 = .ok (.getfield 9, 3) := by decide +kernel
theorem dX3_add_27 : decode cX3_add 27 = .ok (.lload_n 3, 1) := by decide +kernel
theorem dX3_add_28 : decode cX3_add 28 = .ok (.lload 5, 2) := by decide +kernel
theorem dX3_add_30 : decode cX3_add 30 = .ok (.land, 1) := by decide +kernel
theorem dX3_add_31 : decode cX3_add 31 = .ok (.lastore, 1) := by decide +kernel
theorem dX3_add_32 : decode cX3_add 32 = .ok (.aload_n 0, 1) := by decide +kernel
theorem dX3_add_33 : decode cX3_add 33 = .ok (.getfield 25, 3) := by decide +kernel
theorem dX3_add_36 : decode cX3_add 36 = .ok (.aload_n 0, 1) := by decide +kernel
theorem dX3_add_37 : decode cX3_add 37 = .ok (.getfield 9, 3) := by decide +kernel
theorem dX3_add_40 : decode cX3_add 40 = .ok (.aload_n 0, 1) := by decide +kernel
theorem dX3_add_41 : decode cX3_add 41 = .ok (.getfield 15, 3) := by decide +kernel
theorem dX3_add_44 : decode cX3_add 44 = .ok (.aload_n 0, 1) := by decide +kernel
theorem dX3_add_45 : decode cX3_add 45 = .ok (.getfield 9, 3) := by decide +kernel
theorem dX3_add_48 : decode cX3_add 48 = .ok (.laload, 1) := by decide +kernel
theorem dX3_add_49 : decode cX3_add 49 = .ok (.invokevirtual 34, 3) := by decide +kernel
theorem dX3_add_52 : decode cX3_add 52 = .ok (.aload_n 0, 1) := by decide +kernel
theorem dX3_add_53 : decode cX3_add 53 = .ok (.dup, 1) := by decide +kernel
theorem dX3_add_54 : decode cX3_add 54 = .ok (.getfield 9, 3) := by decide +kernel
theorem dX3_add_57 : decode cX3_add 57 = .ok (.iconst 1, 1) := by decide +kernel
theorem dX3_add_58 : decode cX3_add 58 = .ok (.iadd, 1) := by decide +kernel
theorem dX3_add_59 : decode cX3_add 59 = .ok (.putfield 9, 3) := by decide +kernel
theorem dX3_add_62 : decode cX3_add 62 = .ok (.return_, 1) := by decide +kernel
theorem dX3_leaveOut_0 : decode cX3_leaveOut 0 = .ok (.aload_n 0, 1) := by decide +kernel
theorem dX3_leaveOut_1 : decode cX3_leaveOut 1 = .ok (.getfield 15, 3) := by decide +kernel
theorem dX3_leaveOut_4 : decode cX3_leaveOut 4 = .ok (.iload_n 1, 1) := by decide +kernel
theorem dX3_leaveOut_5 : decode cX3_leaveOut 5 = .ok (.dup2, 1) := by decide +kernel
theorem dX3_leaveOut_6 : decode cX3_leaveOut 6 = .ok (.laload, 1) := by decide +kernel
theorem dX3_leaveOut_7 : decode cX3_leaveOut 7 = .ok (.iload_n 2, 1) := by decide +kernel
theorem dX3_leaveOut_8 : decode cX3_leaveOut 8 = .ok (.invokestatic 38, 3) := by decide +kernel
theorem dX3_leaveOut_11 : decode cX3_leaveOut 11 = .ok (.ldc2_w 32, 3) := by decide +kernel
theorem dX3_leaveOut_14 : decode cX3_leaveOut 14 = .ok (.lxor, 1) := by decide +kernel
theorem dX3_leaveOut_15 : decode cX3_leaveOut 15 = .ok (.land, 1) := by decide +kernel
theorem dX3_leaveOut_16 : decode cX3_leaveOut 16 = .ok (.lastore, 1) := by decide +kernel
theorem dX3_leaveOut_17 : decode cX3_leaveOut 17 = .ok (.aload_n 0, 1) := by decide +kernel
theorem dX3_leaveOut_18 : decode cX3_leaveOut 18 = .ok (.getfield 25, 3) := by decide +kernel
theorem dX3_leaveOut_21 : decode cX3_leaveOut 21 = .ok (.iload_n 1, 1) := by decide +kernel
theorem dX3_leaveOut_22 : decode cX3_leaveOut 22 = .ok (.aload_n 0, 1) := by decide +kernel
theorem dX3_leaveOut_23 : decode cX3_leaveOut 23 = .ok (.getfield 15, 3) := by decide +kernel
theorem dX3_leaveOut_26 : decode cX3_leaveOut 26 = .ok (.iload_n 1, 1) := by decide +kernel
theorem dX3_leaveOut_27 : decode cX3_leaveOut 27 = .ok (.laload, 1) := by decide +kernel
theorem dX3_leaveOut_28 : decode cX3_leaveOut 28 = .ok (.invokevirtual 34, 3) := by decide +kernel
theorem dX3_leaveOut_31 : decode cX3_leaveOut 31 = .ok (.return_, 1) := by decide +kernel
theorem dX3_takeOut_0 : decode cX3_takeOut 0 = .ok (.aload_n 0, 1) := by decide +kernel
theorem dX3_takeOut_1 : decode cX3_takeOut 1 = .ok (.getfield 19, 3) := by decide +kernel
theorem dX3_takeOut_4 : decode cX3_takeOut 4 = .ok (.iload_n 1, 1) := by decide +kernel
theorem dX3_takeOut_5 : decode cX3_takeOut 5 = .ok (.dup2, 1) := by decide +kernel
theorem dX3_takeOut_6 : decode cX3_takeOut 6 = .ok (.laload, 1) := by decide +kernel
theorem dX3_takeOut_7 : decode cX3_takeOut 7 = .ok (.iload_n 2, 1) := by decide +kernel
theorem dX3_takeOut_8 : decode cX3_takeOut 8 = .ok (.invokestatic 38, 3) := by decide +kernel
theorem dX3_takeOut_11 : decode cX3_takeOut 11 = .ok (.ldc2_w 32, 3) := by decide +kernel
theorem dX3_takeOut_14 : decode cX3_takeOut 14 = .ok (.lxor, 1) := by decide +kernel
theorem dX3_takeOut_15 : decode cX3_takeOut 15 = .ok (.land, 1) := by decide +kernel
theorem dX3_takeOut_16 : decode cX3_takeOut 16 = .ok (.lastore, 1) := by decide +kernel
theorem dX3_takeOut_17 : decode cX3_takeOut 17 = .ok (.aload_n 0, 1) := by decide +kernel
theorem dX3_takeOut_18 : decode cX3_takeOut 18 = .ok (.getfield 29, 3) := by decide +kernel
theorem dX3_takeOut_21 : decode cX3_takeOut 21 = .ok (.iload_n 1, 1) := by decide +kernel
theorem dX3_takeOut_22 : decode cX3_takeOut 22 = .ok (.aload_n 0, 1) := by decide +kernel
theorem dX3_takeOut_23 : decode cX3_takeOut 23 = .ok (.getfield 19, 3) := by decide +kernel
theorem dX3_takeOut_26 : decode cX3_takeOut 26 = .ok (.iload_n 1, 1) := by decide +kernel
theorem dX3_takeOut_27 : decode cX3_takeOut 27 = .ok (.laload, 1) := by decide +kernel
theorem dX3_takeOut_28 : decode cX3_takeOut 28 = .ok (.invokevirtual 34, 3) := by decide +kernel
theorem dX3_takeOut_31 : decode cX3_takeOut 31 = .ok (.return_, 1) := by decide +kernel
theorem dX3_restore_0 : decode cX3_restore 0 = .ok (.aload_n 0, 1) := by decide +kernel
theorem dX3_restore_1 : decode cX3_restore 1 = .ok (.getfield 15, 3) := by decide +kernel
theorem dX3_restore_4 : decode cX3_restore 4 = .ok (.iconst 0, 1) := by decide +kernel
theorem dX3_restore_5 : decode cX3_restore 5 = .ok (.aload_n 0, 1) := by decide +kernel
theorem dX3_restore_6 : decode cX3_restore 6 = .ok (.getfield 19, 3) := by decide +kernel
theorem dX3_restore_9 : decode cX3_restore 9 = .ok (.iconst 0, 1) := by decide +kernel
theorem dX3_restore_10 : decode cX3_restore 10 = .ok (.bipush 8, 2) := by decide +kernel
theorem dX3_restore_12 : decode cX3_restore 12 = .ok (.invokestatic 42, 3) := by decide +kernel
theorem dX3_restore_15 : decode cX3_restore 15 = .ok (.aload_n 0, 1) := by decide +kernel
theorem dX3_restore_16 : decode cX3_restore 16 = .ok (.getfield 29, 3) := by decide +kernel
theorem dX3_restore_19 : decode cX3_restore 19 = .ok (.aload_n 0, 1) := by decide +kernel
theorem dX3_restore_20 : decode cX3_restore 20 = .ok (.getfield 25, 3) := by decide +kernel
theorem dX3_restore_23 : decode cX3_restore 23 = .ok (.invokevirtual 48, 3) := by decide +kernel
theorem dX3_restore_26 : decode cX3_restore 26 = .ok (.return_, 1) := by decide +kernel
theorem dX3_choices_0 : decode cX3_choices 0 = .ok (.lconst 1, 1) := by decide +kernel
theorem dX3_choices_1 : decode cX3_choices 1 = .ok (.lstore_n 1, 1) := by decide +kernel
theorem dX3_choices_2 : decode cX3_choices 2 = .ok (.iconst 0, 1) := by decide +kernel
theorem dX3_choices_3 : decode cX3_choices 3 = .ok (.istore_n 3, 1) := by decide +kernel
theorem dX3_choices_4 : decode cX3_choices 4 = .ok (.iload_n 3, 1) := by decide +kernel
theorem dX3_choices_5 : decode cX3_choices 5 = .ok (.aload_n 0, 1) := by decide +kernel
theorem dX3_choices_6 : decode cX3_choices 6 = .ok (.getfield 9, 3) := by decide +kernel
theorem dX3_choices_9 : decode cX3_choices 9 = .ok (.if_icmp .ge 22, 3) := by decide +kernel
theorem dX3_choices_12 : decode cX3_choices 12 = .ok (.lload_n 1, 1) := by decide +kernel
theorem dX3_choices_13 : decode cX3_choices 13 = .ok (.aload_n 0, 1) := by decide +kernel
theorem dX3_choices_14 : decode cX3_choices 14 = .ok (.getfield 19, 3) := by decide +kernel
theorem dX3_choices_17 : decode cX3_choices 17 = .ok (.iload_n 3, 1) := by decide +kernel
theorem dX3_choices_18 : decode cX3_choices 18 = .ok (.laload, 1) := by decide +kernel
theorem dX3_choices_19 : decode cX3_choices 19 = .ok (.invokestatic 52, 3) := by decide +kernel
theorem dX3_choices_22 : decode cX3_choices 22 = .ok (.i2l, 1) := by decide +kernel
theorem dX3_choices_23 : decode cX3_choices 23 = .ok (.lmul, 1) := by decide +kernel
theorem dX3_choices_24 : decode cX3_choices 24 = .ok (.lstore_n 1, 1) := by decide +kernel
theorem dX3_choices_25 : decode cX3_choices 25 = .ok (.iinc 3 1, 3) := by decide +kernel
theorem dX3_choices_28 : decode cX3_choices 28 = .ok (.goto (-24), 3) := by decide +kernel
theorem dX3_choices_31 : decode cX3_choices 31 = .ok (.lload_n 1, 1) := by decide +kernel
theorem dX3_choices_32 : decode cX3_choices 32 = .ok (.lreturn, 1) := by decide +kernel
theorem dX4_init_0 : decode cX4_init 0 = .ok (.aload_n 0, 1) := by decide +kernel
theorem dX4_init_1 : decode cX4_init 1 = .ok (.invokespecial 3, 3) := by decide +kernel
theorem dX4_init_4 : decode cX4_init 4 = .ok (.aload_n 0, 1) := by decide +kernel
theorem dX4_init_5 : decode cX4_init 5 = .ok (.sipush (-1000), 3) := by decide +kernel
theorem dX4_init_8 : decode cX4_init 8 = .ok (.putfield 9, 3) := by decide +kernel
theorem dX4_init_11 : decode cX4_init 11 = .ok (.aload_n 0, 1) := by decide +kernel
theorem dX4_init_12 : decode cX4_init 12 = .ok (.iconst 0, 1) := by decide +kernel
theorem dX4_init_13 : decode cX4_init 13 = .ok (.putfield 15, 3) := by decide +kernel
theorem dX4_init_16 : decode cX4_init 16 = .ok (.aload_n 0, 1) := by decide +kernel
theorem dX4_init_17 : decode cX4_init 17 = .ok (.new 18, 3) := by decide +kernel
theorem dX4_init_20 : decode cX4_init 20 = .ok (.dup, 1) := by decide +kernel
theorem dX4_init_21 : decode cX4_init 21 = .ok (.invokespecial 20, 3) := by decide +kernel
theorem dX4_init_24 : decode cX4_init 24 = .ok (.putfield 21, 3) := by decide +kernel
theorem dX4_init_27 : decode cX4_init 27 = .ok (.aload_n 0, 1) := by decide +kernel
theorem dX4_init_28 : decode cX4_init 28 = .ok (.aload_n 1, 1) := by decide +kernel
theorem dX4_init_29 : decode cX4_init 29 = .ok (.putfield 25, 3) := by decide +kernel
theorem dX4_init_32 : decode cX4_init 32 = .ok (.aload_n 0, 1) := by decide +kernel
theorem dX4_init_33 : decode cX4_init 33 = .ok (.aload_n 2, 1) := by decide +kernel
theorem dX4_init_34 : decode cX4_init 34 = .ok (.putfield 29, 3) := by decide +kernel
theorem dX4_init_37 : decode cX4_init 37 = .ok (.aload_n 0, 1) := by decide +kernel
theorem dX4_init_38 : decode cX4_init 38 = .ok (.aload_n 3, 1) := by decide +kernel
theorem dX4_init_39 : decode cX4_init 39 = .ok (.putfield 33, 3) := by decide +kernel
theorem dX4_init_42 : decode cX4_init 42 = .ok (.return_, 1) := by decide +kernel
theorem dX4_forget_0 : decode cX4_forget 0 = .ok (.aload_n 0, 1) := by decide +kernel
theorem dX4_forget_1 : decode cX4_forget 1 = .ok (.sipush (-1000), 3) := by decide +kernel
theorem dX4_forget_4 : decode cX4_forget 4 = .ok (.putfield 9, 3) := by decide +kernel
theorem dX4_forget_7 : decode cX4_forget 7 = .ok (.aload_n 0, 1) := by decide +kernel
theorem dX4_forget_8 : decode cX4_forget 8 = .ok (.iconst 0, 1) := by decide +kernel
theorem dX4_forget_9 : decode cX4_forget 9 = .ok (.putfield 15, 3) := by decide +kernel
theorem dX4_forget_12 : decode cX4_forget 12 = .ok (.return_, 1) := by decide +kernel
theorem dX4_doOne_0 : decode cX4_doOne 0 = .ok (.aload_n 0, 1) := by decide +kernel
theorem dX4_doOne_1 : decode cX4_doOne 1 = .ok (.dup, 1) := by decide +kernel
theorem dX4_doOne_2 : decode cX4_doOne 2 = .ok (.getfield 15, 3) := by decide +kernel
theorem dX4_doOne_5 : decode cX4_doOne 5 = .ok (.iconst 1, 1) := by decide +kernel
theorem dX4_doOne_6 : decode cX4_doOne 6 = .ok (.iadd, 1) := by decide +kernel
theorem dX4_doOne_7 : decode cX4_doOne 7 = .ok (.putfield 15, 3) := by decide +kernel
theorem dX4_doOne_10 : decode cX4_doOne 10 = .ok (.iconst 0, 1) := by decide +kernel
theorem dX4_doOne_11 : decode cX4_doOne 11 = .ok (.istore_n 2, 1) := by decide +kernel
theorem dX4_doOne_12 : decode cX4_doOne 12 = .ok (.iload_n 2, 1) := by decide +kernel
theorem dX4_doOne_13 : decode cX4_doOne 13 = .ok (.aload_n 0, 1) := by decide +kernel
theorem dX4_doOne_14 : decode cX4_doOne 14 = .ok (.getfield 29, 3) := by decide +kernel
theorem dX4_doOne_17 : decode cX4_doOne 17 = .ok (.getfield 37, 3) := by decide +kernel
theorem dX4_doOne_20 : decode cX4_doOne 20 = .ok (.if_icmp .ge 85, 3) := by decide +kernel
theorem dX4_doOne_23 : decode cX4_doOne 23 = .ok (.iload_n 1, 1) := by decide +kernel
theorem dX4_doOne_24 : decode cX4_doOne 24 = .ok (.ifCond .eq 17, 3) := by decide +kernel
theorem dX4_doOne_27 : decode cX4_doOne 27 = .ok (.aload_n 0, 1) := by decide +kernel
theorem dX4_doOne_28 : decode cX4_doOne 28 = .ok (.getfield 29, 3) := by decide +kernel
theorem dX4_doOne_31 : decode cX4_doOne 31 = .ok (.getfield 37, 3) := by decide +kernel
theorem dX4_doOne_34 : decode cX4_doOne 34 = .ok (.iconst 1, 1) := by decide +kernel
theorem dX4_doOne_35 : decode cX4_doOne 35 = .ok (.isub, 1) := by decide +kernel
theorem dX4_doOne_36 : decode cX4_doOne 36 = .ok (.iload_n 2, 1) := by decide +kernel
theorem dX4_doOne_37 : decode cX4_doOne 37 = .ok (.isub, 1) := by decide +kernel
theorem dX4_doOne_38 : decode cX4_doOne 38 = .ok (.goto 4, 3) := by decide +kernel
theorem dX4_doOne_41 : decode cX4_doOne 41 = .ok (.iload_n 2, 1) := by decide +kernel
theorem dX4_doOne_42 : decode cX4_doOne 42 = .ok (.istore_n 3, 1) := by decide +kernel
theorem dX4_doOne_43 : decode cX4_doOne 43 = .ok (.iconst 0, 1) := by decide +kernel
theorem dX4_doOne_44 : decode cX4_doOne 44 = .ok (.istore 4, 2) := by decide +kernel
theorem dX4_doOne_46 : decode cX4_doOne 46 = .ok (.iload 4, 2) := by decide +kernel
theorem dX4_doOne_48 : decode cX4_doOne 48 = .ok (.aload_n 0, 1) := by decide +kernel
theorem dX4_doOne_49 : decode cX4_doOne 49 = .ok (.getfield 25, 3) := by decide +kernel
theorem dX4_doOne_52 : decode cX4_doOne 52 = .ok (.getfield 42, 3) := by decide +kernel
theorem dX4_doOne_55 : decode cX4_doOne 55 = .ok (.if_icmp .ge 44, 3) := by decide +kernel
theorem dX4_doOne_58 : decode cX4_doOne 58 = .ok (.aload_n 0, 1) := by decide +kernel
theorem dX4_doOne_59 : decode cX4_doOne 59 = .ok (.getfield 29, 3) := by decide +kernel
theorem dX4_doOne_62 : decode cX4_doOne 62 = .ok (.getfield 45, 3) := by decide +kernel
theorem dX4_doOne_65 : decode cX4_doOne 65 = .ok (.iload_n 3, 1) := by decide +kernel
theorem dX4_doOne_66 : decode cX4_doOne 66 = .ok (.aaload, 1) := by decide +kernel
theorem dX4_doOne_67 : decode cX4_doOne 67 = .ok (.iload 4, 2) := by decide +kernel
theorem dX4_doOne_69 : decode cX4_doOne 69 = .ok (.invokevirtual 49, 3) := by decide +kernel
theorem dX4_doOne_72 : decode cX4_doOne 72 = .ok (.ifCond .eq 10, 3) := by decide +kernel
theorem dX4_doOne_75 : decode cX4_doOne 75 = .ok (.aload_n 0, 1) := by decide +kernel
theorem dX4_doOne_76 : decode cX4_doOne 76 = .ok (.iload_n 3, 1) := by decide +kernel
theorem dX4_doOne_77 : decode cX4_doOne 77 = .ok (.iload 4, 2) := by decide +kernel
theorem dX4_doOne_79 : decode cX4_doOne 79 = .ok (.invokevirtual 55, 3) := by decide +kernel
theorem dX4_doOne_82 : decode cX4_doOne 82 = .ok (.aload_n 0, 1) := by decide +kernel
theorem dX4_doOne_83 : decode cX4_doOne 83 = .ok (.getfield 9, 3) := by decide +kernel
theorem dX4_doOne_86 : decode cX4_doOne 86 = .ok (.sipush (-1000), 3) := by decide +kernel
theorem dX4_doOne_89 : decode cX4_doOne 89 = .ok (.if_icmp .eq 4, 3) := by decide +kernel
theorem dX4_doOne_92 : decode cX4_doOne 92 = .ok (.return_, 1) := by decide +kernel
theorem dX4_doOne_93 : decode cX4_doOne 93 = .ok (.iinc 4 1, 3) := by decide +kernel
theorem dX4_doOne_96 : decode cX4_doOne 96 = .ok (.goto (-50), 3) := by decide +kernel
theorem dX4_doOne_99 : decode cX4_doOne 99 = .ok (.iinc 2 1, 3) := by decide +kernel
theorem dX4_doOne_102 : decode cX4_doOne 102 = .ok (.goto (-90), 3) := by decide +kernel
theorem dX4_doOne_105 : decode cX4_doOne 105 = .ok (.return_, 1) := by decide +kernel
end
section
theorem dX4_sift_0 : decode cX4_sift 0 = .ok (.aload_n 0, 1) := by decide +kernel
theorem dX4_sift_1 : decode cX4_sift 1 = .ok (.getfield 29, 3) := by decide +kernel
theorem dX4_sift_4 : decode cX4_sift 4 = .ok (.getfield 45, 3) := by decide +kernel
theorem dX4_sift_7 : decode cX4_sift 7 = .ok (.iload_n 1, 1) := by decide +kernel
theorem dX4_sift_8 : decode cX4_sift 8 = .ok (.aaload, 1) := by decide +kernel
theorem dX4_sift_9 : decode cX4_sift 9 = .ok (.astore_n 3, 1) := by decide +kernel
theorem dX4_sift_10 : decode cX4_sift 10 = .ok (.aload_n 0, 1) := by decide +kernel
theorem dX4_sift_11 : decode cX4_sift 11 = .ok (.getfield 25, 3) := by decide +kernel
theorem dX4_sift_14 : decode cX4_sift 14 = .ok (.getfield 59, 3) := by decide +kernel
theorem dX4_sift_17 : decode cX4_sift 17 = .ok (.astore 4, 2) := by decide +kernel
theorem dX4_sift_19 : decode cX4_sift 19 = .ok (.aload_n 3, 1) := by decide +kernel
theorem dX4_sift_20 : decode cX4_sift 20 = .ok (.iload_n 2, 1) := by decide +kernel
theorem dX4_sift_21 : decode cX4_sift 21 = .ok (.aload 4, 2) := by decide +kernel
theorem dX4_sift_23 : decode cX4_sift 23 = .ok (.iconst 0, 1) := by decide +kernel
theorem dX4_sift_24 : decode cX4_sift 24 = .ok (.invokevirtual 62, 3) := by decide +kernel
theorem dX4_sift_27 : decode cX4_sift 27 = .ok (.istore 5, 2) := by decide +kernel
theorem dX4_sift_29 : decode cX4_sift 29 = .ok (.aload_n 3, 1) := by decide +kernel
theorem dX4_sift_30 : decode cX4_sift 30 = .ok (.iload_n 2, 1) := by decide +kernel
theorem dX4_sift_31 : decode cX4_sift 31 = .ok (.aload 4, 2) := by decide +kernel
theorem dX4_sift_33 : decode cX4_sift 33 = .ok (.iconst 1, 1) := by decide +kernel
theorem dX4_sift_34 : decode cX4_sift 34 = .ok (.invokevirtual 62, 3) := by decide +kernel
theorem dX4_sift_37 : decode cX4_sift 37 = .ok (.istore 6, 2) := by decide +kernel
theorem dX4_sift_39 : decode cX4_sift 39 = .ok (.aload 4, 2) := by decide +kernel
theorem dX4_sift_41 : decode cX4_sift 41 = .ok (.getfield 66, 3) := by decide +kernel
theorem dX4_sift_44 : decode cX4_sift 44 = .ok (.iload_n 2, 1) := by decide +kernel
theorem dX4_sift_45 : decode cX4_sift 45 = .ok (.iaload, 1) := by decide +kernel
theorem dX4_sift_46 : decode cX4_sift 46 = .ok (.istore 7, 2) := by decide +kernel
theorem dX4_sift_48 : decode cX4_sift 48 = .ok (.aload 4, 2) := by decide +kernel
theorem dX4_sift_50 : decode cX4_sift 50 = .ok (.getfield 70, 3) := by decide +kernel
theorem dX4_sift_53 : decode cX4_sift 53 = .ok (.iload_n 2, 1) := by decide +kernel
theorem dX4_sift_54 : decode cX4_sift 54 = .ok (.iaload, 1) := by decide +kernel
theorem dX4_sift_55 : decode cX4_sift 55 = .ok (.istore 8, 2) := by decide +kernel
theorem dX4_sift_57 : decode cX4_sift 57 = .ok (.iload 8, 2) := by decide +kernel
theorem dX4_sift_59 : decode cX4_sift 59 = .ok (.iload 7, 2) := by decide +kernel
theorem dX4_sift_61 : decode cX4_sift 61 = .ok (.if_icmp .gt 75, 3) := by decide +kernel
theorem dX4_sift_64 : decode cX4_sift 64 = .ok (.aload_n 0, 1) := by decide +kernel
theorem dX4_sift_65 : decode cX4_sift 65 = .ok (.getfield 25, 3) := by decide +kernel
theorem dX4_sift_68 : decode cX4_sift 68 = .ok (.getfield 73, 3) := by decide +kernel
theorem dX4_sift_71 : decode cX4_sift 71 = .ok (.iload_n 2, 1) := by decide +kernel
theorem dX4_sift_72 : decode cX4_sift 72 = .ok (.laload, 1) := by decide +kernel
theorem dX4_sift_73 : decode cX4_sift 73 = .ok (.iload 8, 2) := by decide +kernel
theorem dX4_sift_75 : decode cX4_sift 75 = .ok (.invokestatic 77, 3) := by decide +kernel
theorem dX4_sift_78 : decode cX4_sift 78 = .ok (.ifCond .eq 52, 3) := by decide +kernel
theorem dX4_sift_81 : decode cX4_sift 81 = .ok (.aload_n 3, 1) := by decide +kernel
theorem dX4_sift_82 : decode cX4_sift 82 = .ok (.iload_n 2, 1) := by decide +kernel
theorem dX4_sift_83 : decode cX4_sift 83 = .ok (.iload 8, 2) := by decide +kernel
theorem dX4_sift_85 : decode cX4_sift 85 = .ok (.aload 4, 2) := by decide +kernel
theorem dX4_sift_87 : decode cX4_sift 87 = .ok (.iload 5, 2) := by decide +kernel
theorem dX4_sift_89 : decode cX4_sift 89 = .ok (.iload 6, 2) := by decide +kernel
theorem dX4_sift_91 : decode cX4_sift 91 = .ok (.invokevirtual 81, 3) := by decide +kernel
theorem dX4_sift_94 : decode cX4_sift 94 = .ok (.ifCond .ne 36, 3) := by decide +kernel
theorem dX4_sift_97 : decode cX4_sift 97 = .ok (.aload_n 0, 1) := by decide +kernel
theorem dX4_sift_98 : decode cX4_sift 98 = .ok (.getfield 33, 3) := by decide +kernel
theorem dX4_sift_101 : decode cX4_sift 101 = .ok (.iload_n 1, 1) := by decide +kernel
theorem dX4_sift_102 : decode cX4_sift 102 = .ok (.iload_n 2, 1) := by decide +kernel
theorem dX4_sift_103 : decode cX4_sift 103 = .ok (.iload 8, 2) := by decide +kernel
theorem dX4_sift_105 : decode cX4_sift 105 = .ok (.aload_n 0, 1) := by decide +kernel
theorem dX4_sift_106 : decode cX4_sift 106 = .ok (.getfield 15, 3) := by decide +kernel
theorem dX4_sift_109 : decode cX4_sift 109 = .ok (.aload_n 0, 1) := by decide +kernel
theorem dX4_sift_110 : decode cX4_sift 110 = .ok (.aload_n 3, 1) := by decide +kernel
theorem dX4_sift_111 : decode cX4_sift 111 = .ok (.iload_n 2, 1) := by decide +kernel
theorem dX4_sift_112 : decode cX4_sift 112 = .ok (.iload 8, 2) := by decide +kernel
theorem dX4_sift_114 : decode cX4_sift 114 = .ok (.invokevirtual 85, 3) := by decide +kernel
theorem dX4_sift_117 : decode cX4_sift 117 = .ok (.invokevirtual 89, 3) := by decide +kernel
theorem dX4_sift_120 : decode cX4_sift 120 = .ok (.aload_n 0, 1) := by decide +kernel
theorem dX4_sift_121 : decode cX4_sift 121 = .ok (.getfield 25, 3) := by decide +kernel
theorem dX4_sift_124 : decode cX4_sift 124 = .ok (.iload_n 2, 1) := by decide +kernel
theorem dX4_sift_125 : decode cX4_sift 125 = .ok (.iload 8, 2) := by decide +kernel
theorem dX4_sift_127 : decode cX4_sift 127 = .ok (.invokevirtual 95, 3) := by decide +kernel
theorem dX4_sift_130 : decode cX4_sift 130 = .ok (.iinc 8 1, 3) := by decide +kernel
theorem dX4_sift_133 : decode cX4_sift 133 = .ok (.goto (-76), 3) := by decide +kernel
theorem dX4_sift_136 : decode cX4_sift 136 = .ok (.aload_n 0, 1) := by decide +kernel
theorem dX4_sift_137 : decode cX4_sift 137 = .ok (.getfield 25, 3) := by decide +kernel
theorem dX4_sift_140 : decode cX4_sift 140 = .ok (.getfield 73, 3) := by decide +kernel
theorem dX4_sift_143 : decode cX4_sift 143 = .ok (.iload_n 2, 1) := by decide +kernel
theorem dX4_sift_144 : decode cX4_sift 144 = .ok (.laload, 1) := by decide +kernel
theorem dX4_sift_145 : decode cX4_sift 145 = .ok (.lconst 0, 1) := by decide +kernel
theorem dX4_sift_146 : decode cX4_sift 146 = .ok (.lcmp, 1) := by decide +kernel
theorem dX4_sift_147 : decode cX4_sift 147 = .ok (.ifCond .ne 8, 3) := by decide +kernel
theorem dX4_sift_150 : decode cX4_sift 150 = .ok (.aload_n 0, 1) := by decide +kernel
theorem dX4_sift_151 : decode cX4_sift 151 = .ok (.iload_n 1, 1) := by decide +kernel
theorem dX4_sift_152 : decode cX4_sift 152 = .ok (.putfield 9, 3) := by decide +kernel
theorem dX4_sift_155 : decode cX4_sift 155 = .ok (.return_, 1) := by decide +kernel
theorem dX4_findReason_0 : decode cX4_findReason 0 = .ok (.iconst 0, 1) := by decide +kernel
theorem dX4_findReason_1 : decode cX4_findReason 1 = .ok (.istore 4, 2) := by decide +kernel
theorem dX4_findReason_3 : decode cX4_findReason 3 = .ok (.aload_n 0, 1) := by decide +kernel
theorem dX4_findReason_4 : decode cX4_findReason 4 = .ok (.getfield 21, 3) := by decide +kernel
theorem dX4_findReason_7 : decode cX4_findReason 7 = .ok (.aload_n 0, 1) := by decide +kernel
theorem dX4_findReason_8 : decode cX4_findReason 8 = .ok (.getfield 25, 3) := by decide +kernel
theorem dX4_findReason_11 : decode cX4_findReason 11 = .ok (.getfield 59, 3) := by decide +kernel
theorem dX4_findReason_14 : decode cX4_findReason 14 = .ok (.invokevirtual 98, 3) := by decide +kernel
theorem dX4_findReason_17 : decode cX4_findReason 17 = .ok (.iconst 2, 1) := by decide +kernel
theorem dX4_findReason_18 : decode cX4_findReason 18 = .ok (.aload_n 0, 1) := by decide +kernel
theorem dX4_findReason_19 : decode cX4_findReason 19 = .ok (.getfield 25, 3) := by decide +kernel
theorem dX4_findReason_22 : decode cX4_findReason 22 = .ok (.getfield 42, 3) := by decide +kernel
theorem dX4_findReason_25 : decode cX4_findReason 25 = .ok (.imul, 1) := by decide +kernel
theorem dX4_findReason_26 : decode cX4_findReason 26 = .ok (.iconst 1, 1) := by decide +kernel
theorem dX4_findReason_27 : decode cX4_findReason 27 = .ok (.isub, 1) := by decide +kernel
theorem dX4_findReason_28 : decode cX4_findReason 28 = .ok (.istore 5, 2) := by decide +kernel
theorem dX4_findReason_30 : decode cX4_findReason 30 = .ok (.iload 5, 2) := by decide +kernel
theorem dX4_findReason_32 : decode cX4_findReason 32 = .ok (.ifCond .lt 115, 3) := by decide +kernel
theorem dX4_findReason_35 : decode cX4_findReason 35 = .ok (.iload 5, 2) := by decide +kernel
theorem dX4_findReason_37 : decode cX4_findReason 37 = .ok (.iconst 2, 1) := by decide +kernel
theorem dX4_findReason_38 : decode cX4_findReason 38 = .ok (.idiv, 1) := by decide +kernel
theorem dX4_findReason_39 : decode cX4_findReason 39 = .ok (.istore 6, 2) := by decide +kernel
theorem dX4_findReason_41 : decode cX4_findReason 41 = .ok (.iload 6, 2) := by decide +kernel
theorem dX4_findReason_43 : decode cX4_findReason 43 = .ok (.iload_n 2, 1) := by decide +kernel
theorem dX4_findReason_44 : decode cX4_findReason 44 = .ok (.if_icmp .eq 97, 3) := by decide +kernel
theorem dX4_findReason_47 : decode cX4_findReason 47 = .ok (.aload_n 1, 1) := by decide +kernel
theorem dX4_findReason_48 : decode cX4_findReason 48 = .ok (.iload 6, 2) := by decide +kernel
theorem dX4_findReason_50 : decode cX4_findReason 50 = .ok (.invokevirtual 49, 3) := by decide +kernel
theorem dX4_findReason_53 : decode cX4_findReason 53 = .ok (.ifCond .ne 6, 3) := by decide +kernel
theorem dX4_findReason_56 : decode cX4_findReason 56 = .ok (.goto 85, 3) := by decide +kernel
theorem dX4_findReason_59 : decode cX4_findReason 59 = .ok (.aload_n 0, 1) := by decide +kernel
theorem dX4_findReason_60 : decode cX4_findReason 60 = .ok (.getfield 21, 3) := by decide +kernel
theorem dX4_findReason_63 : decode cX4_findReason 63 = .ok (.iload 5, 2) := by decide +kernel
theorem dX4_findReason_65 : decode cX4_findReason 65 = .ok (.aload_n 0, 1) := by decide +kernel
theorem dX4_findReason_66 : decode cX4_findReason 66 = .ok (.getfield 25, 3) := by decide +kernel
theorem dX4_findReason_69 : decode cX4_findReason 69 = .ok (.getfield 102, 3) := by decide +kernel
theorem dX4_findReason_72 : decode cX4_findReason 72 = .ok (.invokevirtual 105, 3) := by decide +kernel
theorem dX4_findReason_75 : decode cX4_findReason 75 = .ok (.aload_n 1, 1) := by decide +kernel
theorem dX4_findReason_76 : decode cX4_findReason 76 = .ok (.iload_n 2, 1) := by decide +kernel
theorem dX4_findReason_77 : decode cX4_findReason 77 = .ok (.aload_n 0, 1) := by decide +kernel
theorem dX4_findReason_78 : decode cX4_findReason 78 = .ok (.getfield 21, 3) := by decide +kernel
theorem dX4_findReason_81 : decode cX4_findReason 81 = .ok (.iconst 0, 1) := by decide +kernel
theorem dX4_findReason_82 : decode cX4_findReason 82 = .ok (.invokevirtual 62, 3) := by decide +kernel
theorem dX4_findReason_85 : decode cX4_findReason 85 = .ok (.istore 7, 2) := by decide +kernel
theorem dX4_findReason_87 : decode cX4_findReason 87 = .ok (.aload_n 1, 1) := by decide +kernel
theorem dX4_findReason_88 : decode cX4_findReason 88 = .ok (.iload_n 2, 1) := by decide +kernel
theorem dX4_findReason_89 : decode cX4_findReason 89 = .ok (.aload_n 0, 1) := by decide +kernel
theorem dX4_findReason_90 : decode cX4_findReason 90 = .ok (.getfield 21, 3) := by decide +kernel
theorem dX4_findReason_93 : decode cX4_findReason 93 = .ok (.iconst 1, 1) := by decide +kernel
theorem dX4_findReason_94 : decode cX4_findReason 94 = .ok (.invokevirtual 62, 3) := by decide +kernel
theorem dX4_findReason_97 : decode cX4_findReason 97 = .ok (.istore 8, 2) := by decide +kernel
theorem dX4_findReason_99 : decode cX4_findReason 99 = .ok (.aload_n 1, 1) := by decide +kernel
theorem dX4_findReason_100 : decode cX4_findReason 100 = .ok (.iload_n 2, 1) := by decide +kernel
theorem dX4_findReason_101 : decode cX4_findReason 101 = .ok (.iload_n 3, 1) := by decide +kernel
theorem dX4_findReason_102 : decode cX4_findReason 102 = .ok (.aload_n 0, 1) := by decide +kernel
theorem dX4_findReason_103 : decode cX4_findReason 103 = .ok (.getfield 21, 3) := by decide +kernel
theorem dX4_findReason_106 : decode cX4_findReason 106 = .ok (.iload 7, 2) := by decide +kernel
theorem dX4_findReason_108 : decode cX4_findReason 108 = .ok (.iload 8, 2) := by decide +kernel
theorem dX4_findReason_110 : decode cX4_findReason 110 = .ok (.invokevirtual 81, 3) := by decide +kernel
theorem dX4_findReason_113 : decode cX4_findReason 113 = .ok (.ifCond .eq 28, 3) := by decide +kernel
theorem dX4_findReason_116 : decode cX4_findReason 116 = .ok (.aload_n 0, 1) := by decide +kernel
theorem dX4_findReason_117 : decode cX4_findReason 117 = .ok (.getfield 21, 3) := by decide +kernel
theorem dX4_findReason_120 : decode cX4_findReason 120 = .ok (.iload 5, 2) := by decide +kernel
theorem dX4_findReason_122 : decode cX4_findReason 122 = .ok (.aload_n 0, 1) := by decide +kernel
theorem dX4_findReason_123 : decode cX4_findReason 123 = .ok (.getfield 25, 3) := by decide +kernel
theorem dX4_findReason_126 : decode cX4_findReason 126 = .ok (.getfield 59, 3) := by decide +kernel
theorem dX4_findReason_129 : decode cX4_findReason 129 = .ok (.invokevirtual 105, 3) := by decide +kernel
theorem dX4_findReason_132 : decode cX4_findReason 132 = .ok (.iload 4, 2) := by decide +kernel
theorem dX4_findReason_134 : decode cX4_findReason 134 = .ok (.iconst 1, 1) := by decide +kernel
theorem dX4_findReason_135 : decode cX4_findReason 135 = .ok (.iload 5, 2) := by decide +kernel
theorem dX4_findReason_137 : decode cX4_findReason 137 = .ok (.ishl, 1) := by decide +kernel
theorem dX4_findReason_138 : decode cX4_findReason 138 = .ok (.ior, 1) := by decide +kernel
theorem dX4_findReason_139 : decode cX4_findReason 139 = .ok (.istore 4, 2) := by decide +kernel
theorem dX4_findReason_141 : decode cX4_findReason 141 = .ok (.iinc 5 (-1), 3) := by decide +kernel
theorem dX4_findReason_144 : decode cX4_findReason 144 = .ok (.goto (-114), 3) := by decide +kernel
theorem dX4_findReason_147 : decode cX4_findReason 147 = .ok (.iload 4, 2) := by decide +kernel
theorem dX4_findReason_149 : decode cX4_findReason 149 = .ok (.ireturn, 1) := by decide +kernel
theorem dX5_init_0 : decode cX5_init 0 = .ok (.aload_n 0, 1) := by decide +kernel
theorem dX5_init_1 : decode cX5_init 1 = .ok (.invokespecial 3, 3) := by decide +kernel
theorem dX5_init_4 : decode cX5_init 4 = .ok (.aload_n 0, 1) := by decide +kernel
theorem dX5_init_5 : decode cX5_init 5 = .ok (.bipush 8, 2) := by decide +kernel
theorem dX5_init_7 : decode cX5_init 7 = .ok (.newarray .int, 2) := by decide +kernel
theorem dX5_init_9 : decode cX5_init 9 = .ok (.putfield 9, 3) := by decide +kernel
theorem dX5_init_12 : decode cX5_init 12 = .ok (.aload_n 0, 1) := by decide +kernel
theorem dX5_init_13 : decode cX5_init 13 = .ok (.bipush 8, 2) := by decide +kernel
theorem dX5_init_15 : decode cX5_init 15 = .ok (.newarray .int, 2) := by decide +kernel
theorem dX5_init_17 : decode cX5_init 17 = .ok (.putfield 15, 3) := by decide +kernel
theorem dX5_init_20 : decode cX5_init 20 = .ok (.return_, 1) := by decide +kernel
theorem dX5_fit_0 : decode cX5_fit 0 = .ok (.lload_n 2, 1) := by decide +kernel
theorem dX5_fit_1 : decode cX5_fit 1 = .ok (.lconst 0, 1) := by decide +kernel
theorem dX5_fit_2 : decode cX5_fit 2 = .ok (.lcmp, 1) := by decide +kernel
theorem dX5_fit_3 : decode cX5_fit 3 = .ok (.ifCond .eq 23, 3) := by decide +kernel
theorem dX5_fit_6 : decode cX5_fit 6 = .ok (.aload_n 0, 1) := by decide +kernel
theorem dX5_fit_7 : decode cX5_fit 7 = .ok (.getfield 9, 3) := by decide +kernel
theorem dX5_fit_10 : decode cX5_fit 10 = .ok (.iload_n 1, 1) := by decide +kernel
theorem dX5_fit_11 : decode cX5_fit 11 = .ok (.lload_n 2, 1) := by decide +kernel
theorem dX5_fit_12 : decode cX5_fit 12 = .ok (.invokestatic 18, 3) := by decide +kernel
theorem dX5_fit_15 : decode cX5_fit 15 = .ok (.iastore, 1) := by decide +kernel
theorem dX5_fit_16 : decode cX5_fit 16 = .ok (.aload_n 0, 1) := by decide +kernel
theorem dX5_fit_17 : decode cX5_fit 17 = .ok (.getfield 15, 3) := by decide +kernel
theorem dX5_fit_20 : decode cX5_fit 20 = .ok (.iload_n 1, 1) := by decide +kernel
theorem dX5_fit_21 : decode cX5_fit 21 = .ok (.lload_n 2, 1) := by decide +kernel
theorem dX5_fit_22 : decode cX5_fit 22 = .ok (.invokestatic 22, 3) := by decide +kernel
theorem dX5_fit_25 : decode cX5_fit 25 = .ok (.iastore, 1) := by decide +kernel
theorem dX5_fit_26 : decode cX5_fit 26 = .ok (.return_, 1) := by decide +kernel
theorem dX5_copy_0 : decode cX5_copy 0 = .ok (.aload_n 1, 1) := by decide +kernel
theorem dX5_copy_1 : decode cX5_copy 1 = .ok (.getfield 9, 3) := by decide +kernel
theorem dX5_copy_4 : decode cX5_copy 4 = .ok (.iconst 0, 1) := by decide +kernel
theorem dX5_copy_5 : decode cX5_copy 5 = .ok (.aload_n 0, 1) := by decide +kernel
theorem dX5_copy_6 : decode cX5_copy 6 = .ok (.getfield 9, 3) := by decide +kernel
theorem dX5_copy_9 : decode cX5_copy 9 = .ok (.iconst 0, 1) := by decide +kernel
theorem dX5_copy_10 : decode cX5_copy 10 = .ok (.bipush 8, 2) := by decide +kernel
theorem dX5_copy_12 : decode cX5_copy 12 = .ok (.invokestatic 25, 3) := by decide +kernel
theorem dX5_copy_15 : decode cX5_copy 15 = .ok (.aload_n 1, 1) := by decide +kernel
theorem dX5_copy_16 : decode cX5_copy 16 = .ok (.getfield 15, 3) := by decide +kernel
theorem dX5_copy_19 : decode cX5_copy 19 = .ok (.iconst 0, 1) := by decide +kernel
theorem dX5_copy_20 : decode cX5_copy 20 = .ok (.aload_n 0, 1) := by decide +kernel
theorem dX5_copy_21 : decode cX5_copy 21 = .ok (.getfield 15, 3) := by decide +kernel
theorem dX5_copy_24 : decode cX5_copy 24 = .ok (.iconst 0, 1) := by decide +kernel
theorem dX5_copy_25 : decode cX5_copy 25 = .ok (.bipush 8, 2) := by decide +kernel
theorem dX5_copy_27 : decode cX5_copy 27 = .ok (.invokestatic 25, 3) := by decide +kernel
theorem dX5_copy_30 : decode cX5_copy 30 = .ok (.return_, 1) := by decide +kernel
theorem dX5_copyPart_0 : decode cX5_copyPart 0 = .ok (.iload_n 1, 1) := by decide +kernel
theorem dX5_copyPart_1 : decode cX5_copyPart 1 = .ok (.iconst 2, 1) := by decide +kernel
theorem dX5_copyPart_2 : decode cX5_copyPart 2 = .ok (.idiv, 1) := by decide +kernel
theorem dX5_copyPart_3 : decode cX5_copyPart 3 = .ok (.istore_n 3, 1) := by decide +kernel
theorem dX5_copyPart_4 : decode cX5_copyPart 4 = .ok (.iload_n 1, 1) := by decide +kernel
theorem dX5_copyPart_5 : decode cX5_copyPart 5 = .ok (.iconst 2, 1) := by decide +kernel
theorem dX5_copyPart_6 : decode cX5_copyPart 6 = .ok (.irem, 1) := by decide +kernel
theorem dX5_copyPart_7 : decode cX5_copyPart 7 = .ok (.iconst 1, 1) := by decide +kernel
theorem dX5_copyPart_8 : decode cX5_copyPart 8 = .ok (.if_icmp .ne 18, 3) := by decide +kernel
theorem dX5_copyPart_11 : decode cX5_copyPart 11 = .ok (.aload_n 0, 1) := by decide +kernel
theorem dX5_copyPart_12 : decode cX5_copyPart 12 = .ok (.getfield 15, 3) := by decide +kernel
theorem dX5_copyPart_15 : decode cX5_copyPart 15 = .ok (.iload_n 3, 1) := by decide +kernel
theorem dX5_copyPart_16 : decode cX5_copyPart 16 = .ok (.aload_n 2, 1) := by decide +kernel
theorem dX5_copyPart_17 : decode cX5_copyPart 17 = .ok (.getfield 15, 3) := by decide +kernel
theorem dX5_copyPart_20 : decode cX5_copyPart 20 = .ok (.iload_n 3, 1) := by decide +kernel
theorem dX5_copyPart_21 : decode cX5_copyPart 21 = .ok (.iaload, 1) := by decide +kernel
theorem dX5_copyPart_22 : decode cX5_copyPart 22 = .ok (.iastore, 1) := by decide +kernel
theorem dX5_copyPart_23 : decode cX5_copyPart 23 = .ok (.goto 15, 3) := by decide +kernel
theorem dX5_copyPart_26 : decode cX5_copyPart 26 = .ok (.aload_n 0, 1) := by decide +kernel
theorem dX5_copyPart_27 : decode cX5_copyPart 27 = .ok (.getfield 9, 3) := by decide +kernel
theorem dX5_copyPart_30 : decode cX5_copyPart 30 = .ok (.iload_n 3, 1) := by decide +kernel
theorem dX5_copyPart_31 : decode cX5_copyPart 31 = .ok (.aload_n 2, 1) := by decide +kernel
theorem dX5_copyPart_32 : decode cX5_copyPart 32 = .ok (.getfield 9, 3) := by decide +kernel
theorem dX5_copyPart_35 : decode cX5_copyPart 35 = .ok (.iload_n 3, 1) := by decide +kernel
theorem dX5_copyPart_36 : decode cX5_copyPart 36 = .ok (.iaload, 1) := by decide +kernel
theorem dX5_copyPart_37 : decode cX5_copyPart 37 = .ok (.iastore, 1) := by decide +kernel
theorem dX5_copyPart_38 : decode cX5_copyPart 38 = .ok (.return_, 1) := by decide +kernel
theorem dX5_covers_0 : decode cX5_covers 0 = .ok (.aload_n 0, 1) := by decide +kernel
theorem dX5_covers_1 : decode cX5_covers 1 = .ok (.getfield 9, 3) := by decide +kernel
theorem dX5_covers_4 : decode cX5_covers 4 = .ok (.iload_n 1, 1) := by decide +kernel
theorem dX5_covers_5 : decode cX5_covers 5 = .ok (.iaload, 1) := by decide +kernel
theorem dX5_covers_6 : decode cX5_covers 6 = .ok (.iload_n 2, 1) := by decide +kernel
theorem dX5_covers_7 : decode cX5_covers 7 = .ok (.if_icmp .gt 17, 3) := by decide +kernel
theorem dX5_covers_10 : decode cX5_covers 10 = .ok (.iload_n 2, 1) := by decide +kernel
theorem dX5_covers_11 : decode cX5_covers 11 = .ok (.aload_n 0, 1) := by decide +kernel
theorem dX5_covers_12 : decode cX5_covers 12 = .ok (.getfield 15, 3) := by decide +kernel
theorem dX5_covers_15 : decode cX5_covers 15 = .ok (.iload_n 1, 1) := by decide +kernel
theorem dX5_covers_16 : decode cX5_covers 16 = .ok (.iaload, 1) := by decide +kernel
theorem dX5_covers_17 : decode cX5_covers 17 = .ok (.if_icmp .gt 7, 3) := by decide +kernel
theorem dX5_covers_20 : decode cX5_covers 20 = .ok (.iconst 1, 1) := by decide +kernel
theorem dX5_covers_21 : decode cX5_covers 21 = .ok (.goto 4, 3) := by decide +kernel
theorem dX5_covers_24 : decode cX5_covers 24 = .ok (.iconst 0, 1) := by decide +kernel
theorem dX5_covers_25 : decode cX5_covers 25 = .ok (.ireturn, 1) := by decide +kernel
theorem dX5_isOnly_0 : decode cX5_isOnly 0 = .ok (.aload_n 0, 1) := by decide +kernel
theorem dX5_isOnly_1 : decode cX5_isOnly 1 = .ok (.getfield 9, 3) := by decide +kernel
theorem dX5_isOnly_4 : decode cX5_isOnly 4 = .ok (.iload_n 1, 1) := by decide +kernel
theorem dX5_isOnly_5 : decode cX5_isOnly 5 = .ok (.iaload, 1) := by decide +kernel
theorem dX5_isOnly_6 : decode cX5_isOnly 6 = .ok (.iload_n 2, 1) := by decide +kernel
theorem dX5_isOnly_7 : decode cX5_isOnly 7 = .ok (.if_icmp .ne 17, 3) := by decide +kernel
theorem dX5_isOnly_10 : decode cX5_isOnly 10 = .ok (.aload_n 0, 1) := by decide +kernel
theorem dX5_isOnly_11 : decode cX5_isOnly 11 = .ok (.getfield 15, 3) := by decide +kernel
theorem dX5_isOnly_14 : decode cX5_isOnly 14 = .ok (.iload_n 1, 1) := by decide +kernel
theorem dX5_isOnly_15 : decode cX5_isOnly 15 = .ok (.iaload, 1) := by decide +kernel
theorem dX5_isOnly_16 : decode cX5_isOnly 16 = .ok (.iload_n 2, 1) := by decide +kernel
theorem dX5_isOnly_17 : decode cX5_isOnly 17 = .ok (.if_icmp .ne 7, 3) := by decide +kernel
theorem dX5_isOnly_20 : decode cX5_isOnly 20 = .ok (.iconst 1, 1) := by decide +kernel
theorem dX5_isOnly_21 : decode cX5_isOnly 21 = .ok (.goto 4, 3) := by decide +kernel
theorem dX5_isOnly_24 : decode cX5_isOnly 24 = .ok (.iconst 0, 1) := by decide +kernel
theorem dX5_isOnly_25 : decode cX5_isOnly 25 = .ok (.ireturn, 1) := by decide +kernel
theorem dX5_meets_0 : decode cX5_meets 0 = .ok (.aload_n 0, 1) := by decide +kernel
theorem dX5_meets_1 : decode cX5_meets 1 = .ok (.getfield 9, 3) := by decide +kernel
theorem dX5_meets_4 : decode cX5_meets 4 = .ok (.iload_n 1, 1) := by decide +kernel
theorem dX5_meets_5 : decode cX5_meets 5 = .ok (.iaload, 1) := by decide +kernel
theorem dX5_meets_6 : decode cX5_meets 6 = .ok (.iload_n 2, 1) := by decide +kernel
theorem dX5_meets_7 : decode cX5_meets 7 = .ok (.invokestatic 31, 3) := by decide +kernel
theorem dX5_meets_10 : decode cX5_meets 10 = .ok (.aload_n 0, 1) := by decide +kernel
theorem dX5_meets_11 : decode cX5_meets 11 = .ok (.getfield 15, 3) := by decide +kernel
theorem dX5_meets_14 : decode cX5_meets 14 = .ok (.iload_n 1, 1) := by decide +kernel
theorem dX5_meets_15 : decode cX5_meets 15 = .ok (.iaload, 1) := by decide +kernel
theorem dX5_meets_16 : decode cX5_meets 16 = .ok (.iload_n 3, 1) := by decide +kernel
theorem dX5_meets_17 : decode cX5_meets 17 = .ok (.invokestatic 37, 3) := by decide +kernel
theorem dX5_meets_20 : decode cX5_meets 20 = .ok (.if_icmp .gt 7, 3) := by decide +kernel
theorem dX5_meets_23 : decode cX5_meets 23 = .ok (.iconst 1, 1) := by decide +kernel
theorem dX5_meets_24 : decode cX5_meets 24 = .ok (.goto 4, 3) := by decide +kernel
theorem dX5_meets_27 : decode cX5_meets 27 = .ok (.iconst 0, 1) := by decide +kernel
theorem dX5_meets_28 : decode cX5_meets 28 = .ok (.ireturn, 1) := by decide +kernel
theorem dX6_init_0 : decode cX6_init 0 = .ok (.aload_n 0, 1) := by decide +kernel
theorem dX6_init_1 : decode cX6_init 1 = .ok (.invokespecial 3, 3) := by decide +kernel
theorem dX6_init_4 : decode cX6_init 4 = .ok (.aload_n 0, 1) := by decide +kernel
theorem dX6_init_5 : decode cX6_init 5 = .ok (.iconst 0, 1) := by decide +kernel
theorem dX6_init_6 : decode cX6_init 6 = .ok (.putfield 9, 3) := by decide +kernel
theorem dX6_init_9 : decode cX6_init 9 = .ok (.aload_n 0, 1) := by decide +kernel
theorem dX6_init_10 : decode cX6_init 10 = .ok (.sipush 512, 3) := by decide +kernel
theorem dX6_init_13 : decode cX6_init 13 = .ok (.newarray .int, 2) := by decide +kernel
theorem dX6_init_15 : decode cX6_init 15 = .ok (.putfield 15, 3) := by decide +kernel
theorem dX6_init_18 : decode cX6_init 18 = .ok (.aload_n 0, 1) := by decide +kernel
theorem dX6_init_19 : decode cX6_init 19 = .ok (.sipush 512, 3) := by decide +kernel
theorem dX6_init_22 : decode cX6_init 22 = .ok (.newarray .int, 2) := by decide +kernel
theorem dX6_init_24 : decode cX6_init 24 = .ok (.putfield 19, 3) := by decide +kernel
theorem dX6_init_27 : decode cX6_init 27 = .ok (.aload_n 0, 1) := by decide +kernel
theorem dX6_init_28 : decode cX6_init 28 = .ok (.sipush 512, 3) := by decide +kernel
theorem dX6_init_31 : decode cX6_init 31 = .ok (.newarray .int, 2) := by decide +kernel
theorem dX6_init_33 : decode cX6_init 33 = .ok (.putfield 22, 3) := by decide +kernel
theorem dX6_init_36 : decode cX6_init 36 = .ok (.aload_n 0, 1) := by decide +kernel
theorem dX6_init_37 : decode cX6_init 37 = .ok (.sipush 512, 3) := by decide +kernel
theorem dX6_init_40 : decode cX6_init 40 = .ok (.newarray .int, 2) := by decide +kernel
theorem dX6_init_42 : decode cX6_init 42 = .ok (.putfield 25, 3) := by decide +kernel
theorem dX6_init_45 : decode cX6_init 45 = .ok (.aload_n 0, 1) := by decide +kernel
theorem dX6_init_46 : decode cX6_init 46 = .ok (.sipush 512, 3) := by decide +kernel
theorem dX6_init_49 : decode cX6_init 49 = .ok (.newarray .int, 2) := by decide +kernel
theorem dX6_init_51 : decode cX6_init 51 = .ok (.putfield 28, 3) := by decide +kernel
theorem dX6_init_54 : decode cX6_init 54 = .ok (.return_, 1) := by decide +kernel
theorem dX6_add_0 : decode cX6_add 0 = .ok (.aload_n 0, 1) := by decide +kernel
theorem dX6_add_1 : decode cX6_add 1 = .ok (.getfield 9, 3) := by decide +kernel
theorem dX6_add_4 : decode cX6_add 4 = .ok (.sipush 512, 3) := by decide +kernel
theorem dX6_add_7 : decode cX6_add 7 = .ok (.if_icmp .ge 65, 3) := by decide +kernel
theorem dX6_add_10 : decode cX6_add 10 = .ok (.aload_n 0, 1) := by decide +kernel
theorem dX6_add_11 : decode cX6_add 11 = .ok (.getfield 15, 3) := by decide +kernel
theorem dX6_add_14 : decode cX6_add 14 = .ok (.aload_n 0, 1) := by decide +kernel
theorem dX6_add_15 : decode cX6_add 15 = .ok (.getfield 9, 3) := by decide +kernel
theorem dX6_add_18 : decode cX6_add 18 = .ok (.iload_n 1, 1) := by decide +kernel
theorem dX6_add_19 : decode cX6_add 19 = .ok (.iastore, 1) := by decide +kernel
theorem dX6_add_20 : decode cX6_add 20 = .ok (.aload_n 0, 1) := by decide +kernel
theorem dX6_add_21 : decode cX6_add 21 = .ok (.getfield 19, 3) := by decide +kernel
theorem dX6_add_24 : decode cX6_add 24 = .ok (.aload_n 0, 1) := by decide +kernel
theorem dX6_add_25 : decode cX6_add 25 = .ok (.getfield 9, 3) := by decide +kernel
theorem dX6_add_28 : decode cX6_add 28 = .ok (.iload_n 2, 1) := by decide +kernel
theorem dX6_add_29 : decode cX6_add 29 = .ok (.iastore, 1) := by decide +kernel
theorem dX6_add_30 : decode cX6_add 30 = .ok (.aload_n 0, 1) := by decide +kernel
theorem dX6_add_31 : decode cX6_add 31 = .ok (.getfield 22, 3) := by decide +kernel
theorem dX6_add_34 : decode cX6_add 34 = .ok (.aload_n 0, 1) := by decide +kernel
theorem dX6_add_35 : decode cX6_add 35 = .ok (.getfield 9, 3) := by decide +kernel
theorem dX6_add_38 : decode cX6_add 38 = .ok (.iload_n 3, 1) := by decide +kernel
theorem dX6_add_39 : decode cX6_add 39 = .ok (.iastore, 1) := by decide +kernel
theorem dX6_add_40 : decode cX6_add 40 = .ok (.aload_n 0, 1) := by decide +kernel
theorem dX6_add_41 : decode cX6_add 41 = .ok (.getfield 25, 3) := by decide +kernel
theorem dX6_add_44 : decode cX6_add 44 = .ok (.aload_n 0, 1) := by decide +kernel
theorem dX6_add_45 : decode cX6_add 45 = .ok (.getfield 9, 3) := by decide +kernel
theorem dX6_add_48 : decode cX6_add 48 = .ok (.iload 4, 2) := by decide +kernel
theorem dX6_add_50 : decode cX6_add 50 = .ok (.iastore, 1) := by decide +kernel
theorem dX6_add_51 : decode cX6_add 51 = .ok (.aload_n 0, 1) := by decide +kernel
theorem dX6_add_52 : decode cX6_add 52 = .ok (.getfield 28, 3) := by decide +kernel
theorem dX6_add_55 : decode cX6_add 55 = .ok (.aload_n 0, 1) := by decide +kernel
theorem dX6_add_56 : decode cX6_add 56 = .ok (.getfield 9, 3) := by decide +kernel
theorem dX6_add_59 : decode cX6_add 59 = .ok (.iload 5, 2) := by decide +kernel
theorem dX6_add_61 : decode cX6_add 61 = .ok (.iastore, 1) := by decide +kernel
theorem dX6_add_62 : decode cX6_add 62 = .ok (.aload_n 0, 1) := by decide +kernel
theorem dX6_add_63 : decode cX6_add 63 = .ok (.dup, 1) := by decide +kernel
theorem dX6_add_64 : decode cX6_add 64 = .ok (.getfield 9, 3) := by decide +kernel
theorem dX6_add_67 : decode cX6_add 67 = .ok (.iconst 1, 1) := by decide +kernel
theorem dX6_add_68 : decode cX6_add 68 = .ok (.iadd, 1) := by decide +kernel
theorem dX6_add_69 : decode cX6_add 69 = .ok (.putfield 9, 3) := by decide +kernel
theorem dX6_add_72 : decode cX6_add 72 = .ok (.return_, 1) := by decide +kernel
theorem dX6_partAt_0 : decode cX6_partAt 0 = .ok (.iconst 0, 1) := by decide +kernel
theorem dX6_partAt_1 : decode cX6_partAt 1 = .ok (.istore_n 3, 1) := by decide +kernel
theorem dX6_partAt_2 : decode cX6_partAt 2 = .ok (.iconst 0, 1) := by decide +kernel
theorem dX6_partAt_3 : decode cX6_partAt 3 = .ok (.istore 4, 2) := by decide +kernel
theorem dX6_partAt_5 : decode cX6_partAt 5 = .ok (.iload 4, 2) := by decide +kernel
theorem dX6_partAt_7 : decode cX6_partAt 7 = .ok (.bipush 16, 2) := by decide +kernel
theorem dX6_partAt_9 : decode cX6_partAt 9 = .ok (.if_icmp .ge 35, 3) := by decide +kernel
theorem dX6_partAt_12 : decode cX6_partAt 12 = .ok (.aload_n 0, 1) := by decide +kernel
theorem dX6_partAt_13 : decode cX6_partAt 13 = .ok (.getfield 28, 3) := by decide +kernel
theorem dX6_partAt_16 : decode cX6_partAt 16 = .ok (.iload_n 1, 1) := by decide +kernel
theorem dX6_partAt_17 : decode cX6_partAt 17 = .ok (.iaload, 1) := by decide +kernel
theorem dX6_partAt_18 : decode cX6_partAt 18 = .ok (.iload 4, 2) := by decide +kernel
theorem dX6_partAt_20 : decode cX6_partAt 20 = .ok (.ishr, 1) := by decide +kernel
theorem dX6_partAt_21 : decode cX6_partAt 21 = .ok (.iconst 1, 1) := by decide +kernel
theorem dX6_partAt_22 : decode cX6_partAt 22 = .ok (.iand, 1) := by decide +kernel
theorem dX6_partAt_23 : decode cX6_partAt 23 = .ok (.iconst 1, 1) := by decide +kernel
theorem dX6_partAt_24 : decode cX6_partAt 24 = .ok (.if_icmp .ne 14, 3) := by decide +kernel
theorem dX6_partAt_27 : decode cX6_partAt 27 = .ok (.iload_n 3, 1) := by decide +kernel
theorem dX6_partAt_28 : decode cX6_partAt 28 = .ok (.iload_n 2, 1) := by decide +kernel
theorem dX6_partAt_29 : decode cX6_partAt 29 = .ok (.if_icmp .ne 6, 3) := by decide +kernel
theorem dX6_partAt_32 : decode cX6_partAt 32 = .ok (.iload 4, 2) := by decide +kernel
theorem dX6_partAt_34 : decode cX6_partAt 34 = .ok (.ireturn, 1) := by decide +kernel
theorem dX6_partAt_35 : decode cX6_partAt 35 = .ok (.iinc 3 1, 3) := by decide +kernel
theorem dX6_partAt_38 : decode cX6_partAt 38 = .ok (.iinc 4 1, 3) := by decide +kernel
theorem dX6_partAt_41 : decode cX6_partAt 41 = .ok (.goto (-36), 3) := by decide +kernel
theorem dX6_partAt_44 : decode cX6_partAt 44 = .ok (.sipush (-1001), 3) := by decide +kernel
theorem dX6_partAt_47 : decode cX6_partAt 47 = .ok (.ireturn, 1) := by decide +kernel
theorem dX6_without_0 : decode cX6_without 0 = .ok (.lload_n 1, 1) := by decide +kernel
theorem dX6_without_1 : decode cX6_without 1 = .ok (.lstore 5, 2) := by decide +kernel
theorem dX6_without_3 : decode cX6_without 3 = .ok (.iconst 0, 1) := by decide +kernel
theorem dX6_without_4 : decode cX6_without 4 = .ok (.istore 7, 2) := by decide +kernel
theorem dX6_without_6 : decode cX6_without 6 = .ok (.iload 7, 2) := by decide +kernel
theorem dX6_without_8 : decode cX6_without 8 = .ok (.iload 4, 2) := by decide +kernel
theorem dX6_without_10 : decode cX6_without 10 = .ok (.if_icmp .ge 39, 3) := by decide +kernel
theorem dX6_without_13 : decode cX6_without 13 = .ok (.aload_n 0, 1) := by decide +kernel
theorem dX6_without_14 : decode cX6_without 14 = .ok (.getfield 19, 3) := by decide +kernel
theorem dX6_without_17 : decode cX6_without 17 = .ok (.iload 7, 2) := by decide +kernel
theorem dX6_without_19 : decode cX6_without 19 = .ok (.iaload, 1) := by decide +kernel
theorem dX6_without_20 : decode cX6_without 20 = .ok (.iload_n 3, 1) := by decide +kernel
theorem dX6_without_21 : decode cX6_without 21 = .ok (.if_icmp .ne 22, 3) := by decide +kernel
theorem dX6_without_24 : decode cX6_without 24 = .ok (.lload 5, 2) := by decide +kernel
theorem dX6_without_26 : decode cX6_without 26 = .ok (.aload_n 0, 1) := by decide +kernel
theorem dX6_without_27 : decode cX6_without 27 = .ok (.getfield 22, 3) := by decide +kernel
theorem dX6_without_30 : decode cX6_without 30 = .ok (.iload 7, 2) := by decide +kernel
theorem dX6_without_32 : decode cX6_without 32 = .ok (.iaload, 1) := by decide +kernel
theorem dX6_without_33 : decode cX6_without 33 = .ok (.invokestatic 31, 3) := by decide +kernel
theorem dX6_without_36 : decode cX6_without 36 = .ok (.ldc2_w 35, 3) := by decide +kernel
theorem dX6_without_39 : decode cX6_without 39 = .ok (.lxor, 1) := by decide +kernel
theorem dX6_without_40 : decode cX6_without 40 = .ok (.land, 1) := by decide +kernel
theorem dX6_without_41 : decode cX6_without 41 = .ok (.lstore 5, 2) := by decide +kernel
theorem dX6_without_43 : decode cX6_without 43 = .ok (.iinc 7 1, 3) := by decide +kernel
theorem dX6_without_46 : decode cX6_without 46 = .ok (.goto (-40), 3) := by decide +kernel
theorem dX6_without_49 : decode cX6_without 49 = .ok (.lload 5, 2) := by decide +kernel
theorem dX6_without_51 : decode cX6_without 51 = .ok (.lreturn, 1) := by decide +kernel
theorem dX7_init_0 : decode cX7_init 0 = .ok (.aload_n 0, 1) := by decide +kernel
theorem dX7_init_1 : decode cX7_init 1 = .ok (.invokespecial 1, 3) := by decide +kernel
theorem dX7_init_4 : decode cX7_init 4 = .ok (.aload_n 0, 1) := by decide +kernel
theorem dX7_init_5 : decode cX7_init 5 = .ok (.new 7, 3) := by decide +kernel
theorem dX7_init_8 : decode cX7_init 8 = .ok (.dup, 1) := by decide +kernel
theorem dX7_init_9 : decode cX7_init 9 = .ok (.invokespecial 9, 3) := by decide +kernel
theorem dX7_init_12 : decode cX7_init 12 = .ok (.putfield 10, 3) := by decide +kernel
theorem dX7_init_15 : decode cX7_init 15 = .ok (.aload_n 0, 1) := by decide +kernel
theorem dX7_init_16 : decode cX7_init 16 = .ok (.new 16, 3) := by decide +kernel
theorem dX7_init_19 : decode cX7_init 19 = .ok (.dup, 1) := by decide +kernel
theorem dX7_init_20 : decode cX7_init 20 = .ok (.invokespecial 18, 3) := by decide +kernel
theorem dX7_init_23 : decode cX7_init 23 = .ok (.putfield 19, 3) := by decide +kernel
theorem dX7_init_26 : decode cX7_init 26 = .ok (.aload_n 0, 1) := by decide +kernel
theorem dX7_init_27 : decode cX7_init 27 = .ok (.new 23, 3) := by decide +kernel
theorem dX7_init_30 : decode cX7_init 30 = .ok (.dup, 1) := by decide +kernel
theorem dX7_init_31 : decode cX7_init 31 = .ok (.invokespecial 25, 3) := by decide +kernel
theorem dX7_init_34 : decode cX7_init 34 = .ok (.putfield 26, 3) := by decide +kernel
theorem dX7_init_37 : decode cX7_init 37 = .ok (.aload_n 0, 1) := by decide +kernel
theorem dX7_init_38 : decode cX7_init 38 = .ok (.new 30, 3) := by decide +kernel
theorem dX7_init_41 : decode cX7_init 41 = .ok (.dup, 1) := by decide +kernel
theorem dX7_init_42 : decode cX7_init 42 = .ok (.aload_n 0, 1) := by decide +kernel
theorem dX7_init_43 : decode cX7_init 43 = .ok (.getfield 10, 3) := by decide +kernel
theorem dX7_init_46 : decode cX7_init 46 = .ok (.aload_n 0, 1) := by decide +kernel
theorem dX7_init_47 : decode cX7_init 47 = .ok (.getfield 19, 3) := by decide +kernel
theorem dX7_init_50 : decode cX7_init 50 = .ok (.aload_n 0, 1) := by decide +kernel
theorem dX7_init_51 : decode cX7_init 51 = .ok (.getfield 26, 3) := by decide +kernel
theorem dX7_init_54 : decode cX7_init 54 = .ok (.invokespecial 32, 3) := by decide +kernel
theorem dX7_init_57 : decode cX7_init 57 = .ok (.putfield 35, 3) := by decide +kernel
theorem dX7_init_60 : decode cX7_init 60 = .ok (.aload_n 0, 1) := by decide +kernel
theorem dX7_init_61 : decode cX7_init 61 = .ok (.new 39, 3) := by decide +kernel
theorem dX7_init_64 : decode cX7_init 64 = .ok (.dup, 1) := by decide +kernel
theorem dX7_init_65 : decode cX7_init 65 = .ok (.aload_n 0, 1) := by decide +kernel
theorem dX7_init_66 : decode cX7_init 66 = .ok (.getfield 10, 3) := by decide +kernel
theorem dX7_init_69 : decode cX7_init 69 = .ok (.aload_n 0, 1) := by decide +kernel
theorem dX7_init_70 : decode cX7_init 70 = .ok (.getfield 19, 3) := by decide +kernel
theorem dX7_init_73 : decode cX7_init 73 = .ok (.invokespecial 41, 3) := by decide +kernel
theorem dX7_init_76 : decode cX7_init 76 = .ok (.putfield 44, 3) := by decide +kernel
theorem dX7_init_79 : decode cX7_init 79 = .ok (.return_, 1) := by decide +kernel
theorem dX7_name_0 : decode cX7_name 0 = .ok (.iload_n 1, 1) := by decide +kernel
theorem dX7_name_1 : decode cX7_name 1 = .ok (.invokestatic 48, 3) := by decide +kernel
theorem dX7_name_4 : decode cX7_name 4 = .ok (.ifCond .eq 15, 3) := by decide +kernel
theorem dX7_name_7 : decode cX7_name 7 = .ok (.iload_n 2, 1) := by decide +kernel
theorem dX7_name_8 : decode cX7_name 8 = .ok (.invokestatic 48, 3) := by decide +kernel
theorem dX7_name_11 : decode cX7_name 11 = .ok (.ifCond .eq 8, 3) := by decide +kernel
theorem dX7_name_14 : decode cX7_name 14 = .ok (.iload_n 1, 1) := by decide +kernel
theorem dX7_name_15 : decode cX7_name 15 = .ok (.iload_n 2, 1) := by decide +kernel
theorem dX7_name_16 : decode cX7_name 16 = .ok (.if_icmp .le 7, 3) := by decide +kernel
theorem dX7_name_19 : decode cX7_name 19 = .ok (.sipush (-1001), 3) := by decide +kernel
theorem dX7_name_22 : decode cX7_name 22 = .ok (.ireturn, 1) := by decide +kernel
theorem dX7_name_23 : decode cX7_name 23 = .ok (.aload_n 0, 1) := by decide +kernel
theorem dX7_name_24 : decode cX7_name 24 = .ok (.getfield 10, 3) := by decide +kernel
theorem dX7_name_27 : decode cX7_name 27 = .ok (.getfield 52, 3) := by decide +kernel
theorem dX7_name_30 : decode cX7_name 30 = .ok (.bipush 8, 2) := by decide +kernel
theorem dX7_name_32 : decode cX7_name 32 = .ok (.if_icmp .lt 7, 3) := by decide +kernel
theorem dX7_name_35 : decode cX7_name 35 = .ok (.sipush (-1003), 3) := by decide +kernel
theorem dX7_name_38 : decode cX7_name 38 = .ok (.ireturn, 1) := by decide +kernel
theorem dX7_name_39 : decode cX7_name 39 = .ok (.aload_n 0, 1) := by decide +kernel
theorem dX7_name_40 : decode cX7_name 40 = .ok (.getfield 10, 3) := by decide +kernel
theorem dX7_name_43 : decode cX7_name 43 = .ok (.iload_n 1, 1) := by decide +kernel
theorem dX7_name_44 : decode cX7_name 44 = .ok (.iload_n 2, 1) := by decide +kernel
theorem dX7_name_45 : decode cX7_name 45 = .ok (.invokevirtual 56, 3) := by decide +kernel
theorem dX7_name_48 : decode cX7_name 48 = .ok (.aload_n 0, 1) := by decide +kernel
theorem dX7_name_49 : decode cX7_name 49 = .ok (.invokevirtual 60, 3) := by decide +kernel
theorem dX7_name_52 : decode cX7_name 52 = .ok (.aload_n 0, 1) := by decide +kernel
theorem dX7_name_53 : decode cX7_name 53 = .ok (.getfield 10, 3) := by decide +kernel
theorem dX7_name_56 : decode cX7_name 56 = .ok (.getfield 52, 3) := by decide +kernel
theorem dX7_name_59 : decode cX7_name 59 = .ok (.iconst 1, 1) := by decide +kernel
theorem dX7_name_60 : decode cX7_name 60 = .ok (.isub, 1) := by decide +kernel
theorem dX7_name_61 : decode cX7_name 61 = .ok (.ireturn, 1) := by decide +kernel
theorem dX7_leave_0 : decode cX7_leave 0 = .ok (.aload_n 0, 1) := by decide +kernel
theorem dX7_leave_1 : decode cX7_leave 1 = .ok (.iload_n 1, 1) := by decide +kernel
theorem dX7_leave_2 : decode cX7_leave 2 = .ok (.invokevirtual 63, 3) := by decide +kernel
theorem dX7_leave_5 : decode cX7_leave 5 = .ok (.ifCond .eq 10, 3) := by decide +kernel
theorem dX7_leave_8 : decode cX7_leave 8 = .ok (.iload_n 2, 1) := by decide +kernel
theorem dX7_leave_9 : decode cX7_leave 9 = .ok (.invokestatic 48, 3) := by decide +kernel
theorem dX7_leave_12 : decode cX7_leave 12 = .ok (.ifCond .ne 7, 3) := by decide +kernel
theorem dX7_leave_15 : decode cX7_leave 15 = .ok (.sipush (-1001), 3) := by decide +kernel
theorem dX7_leave_18 : decode cX7_leave 18 = .ok (.ireturn, 1) := by decide +kernel
theorem dX7_leave_19 : decode cX7_leave 19 = .ok (.aload_n 0, 1) := by decide +kernel
theorem dX7_leave_20 : decode cX7_leave 20 = .ok (.getfield 10, 3) := by decide +kernel
theorem dX7_leave_23 : decode cX7_leave 23 = .ok (.getfield 66, 3) := by decide +kernel
theorem dX7_leave_26 : decode cX7_leave 26 = .ok (.iload_n 1, 1) := by decide +kernel
theorem dX7_leave_27 : decode cX7_leave 27 = .ok (.laload, 1) := by decide +kernel
theorem dX7_leave_28 : decode cX7_leave 28 = .ok (.lstore_n 3, 1) := by decide +kernel
theorem dX7_leave_29 : decode cX7_leave 29 = .ok (.lload_n 3, 1) := by decide +kernel
theorem dX7_leave_30 : decode cX7_leave 30 = .ok (.iload_n 2, 1) := by decide +kernel
theorem dX7_leave_31 : decode cX7_leave 31 = .ok (.invokestatic 70, 3) := by decide +kernel
theorem dX7_leave_34 : decode cX7_leave 34 = .ok (.lcmp, 1) := by decide +kernel
theorem dX7_leave_35 : decode cX7_leave 35 = .ok (.ifCond .ne 7, 3) := by decide +kernel
theorem dX7_leave_38 : decode cX7_leave 38 = .ok (.sipush (-1002), 3) := by decide +kernel
theorem dX7_leave_41 : decode cX7_leave 41 = .ok (.ireturn, 1) := by decide +kernel
theorem dX7_leave_42 : decode cX7_leave 42 = .ok (.aload_n 0, 1) := by decide +kernel
theorem dX7_leave_43 : decode cX7_leave 43 = .ok (.getfield 10, 3) := by decide +kernel
theorem dX7_leave_46 : decode cX7_leave 46 = .ok (.iload_n 1, 1) := by decide +kernel
theorem dX7_leave_47 : decode cX7_leave 47 = .ok (.iload_n 2, 1) := by decide +kernel
theorem dX7_leave_48 : decode cX7_leave 48 = .ok (.invokevirtual 74, 3) := by decide +kernel
theorem dX7_leave_51 : decode cX7_leave 51 = .ok (.aload_n 0, 1) := by decide +kernel
theorem dX7_leave_52 : decode cX7_leave 52 = .ok (.invokevirtual 60, 3) := by decide +kernel
theorem dX7_leave_55 : decode cX7_leave 55 = .ok (.lload_n 3, 1) := by decide +kernel
theorem dX7_leave_56 : decode cX7_leave 56 = .ok (.iload_n 2, 1) := by decide +kernel
theorem dX7_leave_57 : decode cX7_leave 57 = .ok (.invokestatic 77, 3) := by decide +kernel
theorem dX7_leave_60 : decode cX7_leave 60 = .ok (.ifCond .eq 7, 3) := by decide +kernel
theorem dX7_leave_63 : decode cX7_leave 63 = .ok (.iconst 1, 1) := by decide +kernel
theorem dX7_leave_64 : decode cX7_leave 64 = .ok (.goto 4, 3) := by decide +kernel
theorem dX7_leave_67 : decode cX7_leave 67 = .ok (.iconst 0, 1) := by decide +kernel
theorem dX7_leave_68 : decode cX7_leave 68 = .ok (.ireturn, 1) := by decide +kernel
theorem dX7_row_0 : decode cX7_row 0 = .ok (.iload_n 1, 1) := by decide +kernel
theorem dX7_row_1 : decode cX7_row 1 = .ok (.ifCond .lt 27, 3) := by decide +kernel
theorem dX7_row_4 : decode cX7_row 4 = .ok (.iload_n 1, 1) := by decide +kernel
theorem dX7_row_5 : decode cX7_row 5 = .ok (.getstatic 81, 3) := by decide +kernel
theorem dX7_row_8 : decode cX7_row 8 = .ok (.arraylength, 1) := by decide +kernel
theorem dX7_row_9 : decode cX7_row 9 = .ok (.if_icmp .ge 19, 3) := by decide +kernel
theorem dX7_row_12 : decode cX7_row 12 = .ok (.iload 5, 2) := by decide +kernel
theorem dX7_row_14 : decode cX7_row 14 = .ok (.sipush (-1000), 3) := by decide +kernel
theorem dX7_row_17 : decode cX7_row 17 = .ok (.if_icmp .lt 11, 3) := by decide +kernel
theorem dX7_row_20 : decode cX7_row 20 = .ok (.iload 5, 2) := by decide +kernel
theorem dX7_row_22 : decode cX7_row 22 = .ok (.sipush 1000, 3) := by decide +kernel
theorem dX7_row_25 : decode cX7_row 25 = .ok (.if_icmp .le 7, 3) := by decide +kernel
theorem dX7_row_28 : decode cX7_row 28 = .ok (.sipush (-1001), 3) := by decide +kernel
theorem dX7_row_31 : decode cX7_row 31 = .ok (.ireturn, 1) := by decide +kernel
theorem dX7_row_32 : decode cX7_row 32 = .ok (.getstatic 81, 3) := by decide +kernel
theorem dX7_row_35 : decode cX7_row 35 = .ok (.iload_n 1, 1) := by decide +kernel
theorem dX7_row_36 : decode cX7_row 36 = .ok (.iaload, 1) := by decide +kernel
theorem dX7_row_37 : decode cX7_row 37 = .ok (.istore 6, 2) := by decide +kernel
theorem dX7_row_39 : decode cX7_row 39 = .ok (.aload_n 0, 1) := by decide +kernel
theorem dX7_row_40 : decode cX7_row 40 = .ok (.iload 6, 2) := by decide +kernel
theorem dX7_row_42 : decode cX7_row 42 = .ok (.iload_n 2, 1) := by decide +kernel
theorem dX7_row_43 : decode cX7_row 43 = .ok (.iload_n 3, 1) := by decide +kernel
theorem dX7_row_44 : decode cX7_row 44 = .ok (.iload 4, 2) := by decide +kernel
theorem dX7_row_46 : decode cX7_row 46 = .ok (.invokevirtual 85, 3) := by decide +kernel
theorem dX7_row_49 : decode cX7_row 49 = .ok (.ifCond .ne 7, 3) := by decide +kernel
theorem dX7_row_52 : decode cX7_row 52 = .ok (.sipush (-1001), 3) := by decide +kernel
theorem dX7_row_55 : decode cX7_row 55 = .ok (.ireturn, 1) := by decide +kernel
theorem dX7_row_56 : decode cX7_row 56 = .ok (.aload_n 0, 1) := by decide +kernel
theorem dX7_row_57 : decode cX7_row 57 = .ok (.getfield 19, 3) := by decide +kernel
theorem dX7_row_60 : decode cX7_row 60 = .ok (.getfield 89, 3) := by decide +kernel
theorem dX7_row_63 : decode cX7_row 63 = .ok (.bipush 12, 2) := by decide +kernel
theorem dX7_row_65 : decode cX7_row 65 = .ok (.if_icmp .lt 7, 3) := by decide +kernel
theorem dX7_row_68 : decode cX7_row 68 = .ok (.sipush (-1003), 3) := by decide +kernel
theorem dX7_row_71 : decode cX7_row 71 = .ok (.ireturn, 1) := by decide +kernel
theorem dX7_row_72 : decode cX7_row 72 = .ok (.aload_n 0, 1) := by decide +kernel
theorem dX7_row_73 : decode cX7_row 73 = .ok (.getfield 19, 3) := by decide +kernel
theorem dX7_row_76 : decode cX7_row 76 = .ok (.getfield 90, 3) := by decide +kernel
theorem dX7_row_79 : decode cX7_row 79 = .ok (.aload_n 0, 1) := by decide +kernel
theorem dX7_row_80 : decode cX7_row 80 = .ok (.getfield 19, 3) := by decide +kernel
theorem dX7_row_83 : decode cX7_row 83 = .ok (.getfield 89, 3) := by decide +kernel
theorem dX7_row_86 : decode cX7_row 86 = .ok (.aaload, 1) := by decide +kernel
theorem dX7_row_87 : decode cX7_row 87 = .ok (.astore 7, 2) := by decide +kernel
theorem dX7_row_89 : decode cX7_row 89 = .ok (.aload 7, 2) := by decide +kernel
theorem dX7_row_91 : decode cX7_row 91 = .ok (.iload_n 1, 1) := by decide +kernel
theorem dX7_row_92 : decode cX7_row 92 = .ok (.iload 5, 2) := by decide +kernel
theorem dX7_row_94 : decode cX7_row 94 = .ok (.invokevirtual 94, 3) := by decide +kernel
theorem dX7_row_97 : decode cX7_row 97 = .ok (.aload 7, 2) := by decide +kernel
theorem dX7_row_99 : decode cX7_row 99 = .ok (.iload 6, 2) := by decide +kernel
theorem dX7_row_101 : decode cX7_row 101 = .ok (.iconst 1, 1) := by decide +kernel
theorem dX7_row_102 : decode cX7_row 102 = .ok (.if_icmp .lt 7, 3) := by decide +kernel
theorem dX7_row_105 : decode cX7_row 105 = .ok (.iload_n 2, 1) := by decide +kernel
theorem dX7_row_106 : decode cX7_row 106 = .ok (.goto 4, 3) := by decide +kernel
theorem dX7_row_109 : decode cX7_row 109 = .ok (.iconst (-1), 1) := by decide +kernel
theorem dX7_row_110 : decode cX7_row 110 = .ok (.iload 6, 2) := by decide +kernel
theorem dX7_row_112 : decode cX7_row 112 = .ok (.iconst 2, 1) := by decide +kernel
theorem dX7_row_113 : decode cX7_row 113 = .ok (.if_icmp .lt 7, 3) := by decide +kernel
theorem dX7_row_116 : decode cX7_row 116 = .ok (.iload_n 3, 1) := by decide +kernel
theorem dX7_row_117 : decode cX7_row 117 = .ok (.goto 4, 3) := by decide +kernel
theorem dX7_row_120 : decode cX7_row 120 = .ok (.iconst (-1), 1) := by decide +kernel
theorem dX7_row_121 : decode cX7_row 121 = .ok (.iload 6, 2) := by decide +kernel
theorem dX7_row_123 : decode cX7_row 123 = .ok (.iconst 3, 1) := by decide +kernel
theorem dX7_row_124 : decode cX7_row 124 = .ok (.if_icmp .lt 8, 3) := by decide +kernel
theorem dX7_row_127 : decode cX7_row 127 = .ok (.iload 4, 2) := by decide +kernel
theorem dX7_row_129 : decode cX7_row 129 = .ok (.goto 4, 3) := by decide +kernel
theorem dX7_row_132 : decode cX7_row 132 = .ok (.iconst (-1), 1) := by decide +kernel
theorem dX7_row_133 : decode cX7_row 133 = .ok (.invokevirtual 99, 3) := by decide +kernel
theorem dX7_row_136 : decode cX7_row 136 = .ok (.aload_n 0, 1) := by decide +kernel
theorem dX7_row_137 : decode cX7_row 137 = .ok (.getfield 19, 3) := by decide +kernel
theorem dX7_row_140 : decode cX7_row 140 = .ok (.dup, 1) := by decide +kernel
theorem dX7_row_141 : decode cX7_row 141 = .ok (.getfield 89, 3) := by decide +kernel
theorem dX7_row_144 : decode cX7_row 144 = .ok (.iconst 1, 1) := by decide +kernel
theorem dX7_row_145 : decode cX7_row 145 = .ok (.iadd, 1) := by decide +kernel
theorem dX7_row_146 : decode cX7_row 146 = .ok (.putfield 89, 3) := by decide +kernel
theorem dX7_row_149 : decode cX7_row 149 = .ok (.aload_n 0, 1) := by decide +kernel
theorem dX7_row_150 : decode cX7_row 150 = .ok (.invokevirtual 60, 3) := by decide +kernel
theorem dX7_row_153 : decode cX7_row 153 = .ok (.aload_n 0, 1) := by decide +kernel
theorem dX7_row_154 : decode cX7_row 154 = .ok (.getfield 19, 3) := by decide +kernel
theorem dX7_row_157 : decode cX7_row 157 = .ok (.getfield 89, 3) := by decide +kernel
theorem dX7_row_160 : decode cX7_row 160 = .ok (.iconst 1, 1) := by decide +kernel
theorem dX7_row_161 : decode cX7_row 161 = .ok (.isub, 1) := by decide +kernel
theorem dX7_row_162 : decode cX7_row 162 = .ok (.ireturn, 1) := by decide +kernel
theorem dX7_factor_0 : decode cX7_factor 0 = .ok (.aload_n 0, 1) := by decide +kernel
theorem dX7_factor_1 : decode cX7_factor 1 = .ok (.iload_n 1, 1) := by decide +kernel
theorem dX7_factor_2 : decode cX7_factor 2 = .ok (.invokevirtual 103, 3) := by decide +kernel
theorem dX7_factor_5 : decode cX7_factor 5 = .ok (.ifCond .eq 23, 3) := by decide +kernel
theorem dX7_factor_8 : decode cX7_factor 8 = .ok (.aload_n 0, 1) := by decide +kernel
theorem dX7_factor_9 : decode cX7_factor 9 = .ok (.iload_n 2, 1) := by decide +kernel
theorem dX7_factor_10 : decode cX7_factor 10 = .ok (.invokevirtual 63, 3) := by decide +kernel
theorem dX7_factor_13 : decode cX7_factor 13 = .ok (.ifCond .eq 15, 3) := by decide +kernel
theorem dX7_factor_16 : decode cX7_factor 16 = .ok (.iload_n 3, 1) := by decide +kernel
theorem dX7_factor_17 : decode cX7_factor 17 = .ok (.bipush (-9), 2) := by decide +kernel
theorem dX7_factor_19 : decode cX7_factor 19 = .ok (.if_icmp .lt 9, 3) := by decide +kernel
theorem dX7_factor_22 : decode cX7_factor 22 = .ok (.iload_n 3, 1) := by decide +kernel
theorem dX7_factor_23 : decode cX7_factor 23 = .ok (.bipush 9, 2) := by decide +kernel
theorem dX7_factor_25 : decode cX7_factor 25 = .ok (.if_icmp .le 7, 3) := by decide +kernel
theorem dX7_factor_28 : decode cX7_factor 28 = .ok (.sipush (-1001), 3) := by decide +kernel
theorem dX7_factor_31 : decode cX7_factor 31 = .ok (.ireturn, 1) := by decide +kernel
theorem dX7_factor_32 : decode cX7_factor 32 = .ok (.aload_n 0, 1) := by decide +kernel
theorem dX7_factor_33 : decode cX7_factor 33 = .ok (.getfield 19, 3) := by decide +kernel
theorem dX7_factor_36 : decode cX7_factor 36 = .ok (.getfield 90, 3) := by decide +kernel
theorem dX7_factor_39 : decode cX7_factor 39 = .ok (.iload_n 1, 1) := by decide +kernel
theorem dX7_factor_40 : decode cX7_factor 40 = .ok (.aaload, 1) := by decide +kernel
theorem dX7_factor_41 : decode cX7_factor 41 = .ok (.astore 4, 2) := by decide +kernel
theorem dX7_factor_43 : decode cX7_factor 43 = .ok (.aload 4, 2) := by decide +kernel
theorem dX7_factor_45 : decode cX7_factor 45 = .ok (.invokevirtual 106, 3) := by decide +kernel
theorem dX7_factor_48 : decode cX7_factor 48 = .ok (.ifCond .eq 12, 3) := by decide +kernel
theorem dX7_factor_51 : decode cX7_factor 51 = .ok (.aload 4, 2) := by decide +kernel
theorem dX7_factor_53 : decode cX7_factor 53 = .ok (.getfield 110, 3) := by decide +kernel
theorem dX7_factor_56 : decode cX7_factor 56 = .ok (.iload_n 2, 1) := by decide +kernel
theorem dX7_factor_57 : decode cX7_factor 57 = .ok (.if_icmp .ne 7, 3) := by decide +kernel
theorem dX7_factor_60 : decode cX7_factor 60 = .ok (.sipush (-1002), 3) := by decide +kernel
theorem dX7_factor_63 : decode cX7_factor 63 = .ok (.ireturn, 1) := by decide +kernel
theorem dX7_factor_64 : decode cX7_factor 64 = .ok (.aload 4, 2) := by decide +kernel
theorem dX7_factor_66 : decode cX7_factor 66 = .ok (.getfield 113, 3) := by decide +kernel
theorem dX7_factor_69 : decode cX7_factor 69 = .ok (.iload_n 2, 1) := by decide +kernel
theorem dX7_factor_70 : decode cX7_factor 70 = .ok (.iaload, 1) := by decide +kernel
theorem dX7_factor_71 : decode cX7_factor 71 = .ok (.istore 5, 2) := by decide +kernel
theorem dX7_factor_73 : decode cX7_factor 73 = .ok (.aload 4, 2) := by decide +kernel
theorem dX7_factor_75 : decode cX7_factor 75 = .ok (.getfield 113, 3) := by decide +kernel
theorem dX7_factor_78 : decode cX7_factor 78 = .ok (.iload_n 2, 1) := by decide +kernel
theorem dX7_factor_79 : decode cX7_factor 79 = .ok (.iload_n 3, 1) := by decide +kernel
theorem dX7_factor_80 : decode cX7_factor 80 = .ok (.iastore, 1) := by decide +kernel
theorem dX7_factor_81 : decode cX7_factor 81 = .ok (.aload_n 0, 1) := by decide +kernel
theorem dX7_factor_82 : decode cX7_factor 82 = .ok (.invokevirtual 60, 3) := by decide +kernel
theorem dX7_factor_85 : decode cX7_factor 85 = .ok (.iload 5, 2) := by decide +kernel
theorem dX7_factor_87 : decode cX7_factor 87 = .ok (.ireturn, 1) := by decide +kernel
theorem dX7_clear_0 : decode cX7_clear 0 = .ok (.aload_n 0, 1) := by decide +kernel
theorem dX7_clear_1 : decode cX7_clear 1 = .ok (.getfield 10, 3) := by decide +kernel
theorem dX7_clear_4 : decode cX7_clear 4 = .ok (.getfield 52, 3) := by decide +kernel
theorem dX7_clear_7 : decode cX7_clear 7 = .ok (.istore_n 1, 1) := by decide +kernel
theorem dX7_clear_8 : decode cX7_clear 8 = .ok (.aload_n 0, 1) := by decide +kernel
theorem dX7_clear_9 : decode cX7_clear 9 = .ok (.getfield 10, 3) := by decide +kernel
theorem dX7_clear_12 : decode cX7_clear 12 = .ok (.iconst 0, 1) := by decide +kernel
theorem dX7_clear_13 : decode cX7_clear 13 = .ok (.putfield 52, 3) := by decide +kernel
theorem dX7_clear_16 : decode cX7_clear 16 = .ok (.aload_n 0, 1) := by decide +kernel
theorem dX7_clear_17 : decode cX7_clear 17 = .ok (.getfield 19, 3) := by decide +kernel
theorem dX7_clear_20 : decode cX7_clear 20 = .ok (.iconst 0, 1) := by decide +kernel
theorem dX7_clear_21 : decode cX7_clear 21 = .ok (.putfield 89, 3) := by decide +kernel
theorem dX7_clear_24 : decode cX7_clear 24 = .ok (.aload_n 0, 1) := by decide +kernel
theorem dX7_clear_25 : decode cX7_clear 25 = .ok (.invokevirtual 60, 3) := by decide +kernel
theorem dX7_clear_28 : decode cX7_clear 28 = .ok (.iload_n 1, 1) := by decide +kernel
theorem dX7_clear_29 : decode cX7_clear 29 = .ok (.ireturn, 1) := by decide +kernel
end
section
theorem dX7_run_0 : decode cX7_run 0 = .ok (.iload_n 1, 1) := by decide +kernel
theorem dX7_run_1 : decode cX7_run 1 = .ok (.ifCond .lt 20, 3) := by decide +kernel
theorem dX7_run_4 : decode cX7_run 4 = .ok (.iload_n 1, 1) := by decide +kernel
theorem dX7_run_5 : decode cX7_run 5 = .ok (.iconst 1, 1) := by decide +kernel
theorem dX7_run_6 : decode cX7_run 6 = .ok (.if_icmp .gt 15, 3) := by decide +kernel
theorem dX7_run_9 : decode cX7_run 9 = .ok (.iload_n 2, 1) := by decide +kernel
theorem dX7_run_10 : decode cX7_run 10 = .ok (.iconst 1, 1) := by decide +kernel
theorem dX7_run_11 : decode cX7_run 11 = .ok (.if_icmp .lt 10, 3) := by decide +kernel
theorem dX7_run_14 : decode cX7_run 14 = .ok (.iload_n 2, 1) := by decide +kernel
theorem dX7_run_15 : decode cX7_run 15 = .ok (.sipush 200, 3) := by decide +kernel
theorem dX7_run_18 : decode cX7_run 18 = .ok (.if_icmp .le 7, 3) := by decide +kernel
theorem dX7_run_21 : decode cX7_run 21 = .ok (.sipush (-1001), 3) := by decide +kernel
theorem dX7_run_24 : decode cX7_run 24 = .ok (.ireturn, 1) := by decide +kernel
theorem dX7_run_25 : decode cX7_run 25 = .ok (.iconst 0, 1) := by decide +kernel
theorem dX7_run_26 : decode cX7_run 26 = .ok (.istore_n 3, 1) := by decide +kernel
theorem dX7_run_27 : decode cX7_run 27 = .ok (.iconst 0, 1) := by decide +kernel
theorem dX7_run_28 : decode cX7_run 28 = .ok (.istore 4, 2) := by decide +kernel
theorem dX7_run_30 : decode cX7_run 30 = .ok (.iload_n 3, 1) := by decide +kernel
theorem dX7_run_31 : decode cX7_run 31 = .ok (.iload_n 2, 1) := by decide +kernel
theorem dX7_run_32 : decode cX7_run 32 = .ok (.if_icmp .ge 72, 3) := by decide +kernel
theorem dX7_run_35 : decode cX7_run 35 = .ok (.iload 4, 2) := by decide +kernel
theorem dX7_run_37 : decode cX7_run 37 = .ok (.ifCond .ne 67, 3) := by decide +kernel
theorem dX7_run_40 : decode cX7_run 40 = .ok (.aload_n 0, 1) := by decide +kernel
theorem dX7_run_41 : decode cX7_run 41 = .ok (.getfield 35, 3) := by decide +kernel
theorem dX7_run_44 : decode cX7_run 44 = .ok (.getfield 116, 3) := by decide +kernel
theorem dX7_run_47 : decode cX7_run 47 = .ok (.sipush (-1000), 3) := by decide +kernel
theorem dX7_run_50 : decode cX7_run 50 = .ok (.if_icmp .ne 54, 3) := by decide +kernel
theorem dX7_run_53 : decode cX7_run 53 = .ok (.aload_n 0, 1) := by decide +kernel
theorem dX7_run_54 : decode cX7_run 54 = .ok (.getfield 26, 3) := by decide +kernel
theorem dX7_run_57 : decode cX7_run 57 = .ok (.getfield 119, 3) := by decide +kernel
theorem dX7_run_60 : decode cX7_run 60 = .ok (.istore 5, 2) := by decide +kernel
theorem dX7_run_62 : decode cX7_run 62 = .ok (.aload_n 0, 1) := by decide +kernel
theorem dX7_run_63 : decode cX7_run 63 = .ok (.getfield 35, 3) := by decide +kernel
theorem dX7_run_66 : decode cX7_run 66 = .ok (.iload_n 1, 1) := by decide +kernel
theorem dX7_run_67 : decode cX7_run 67 = .ok (.iconst 1, 1) := by decide +kernel
theorem dX7_run_68 : decode cX7_run 68 = .ok (.if_icmp .ne 7, 3) := by decide +kernel
theorem dX7_run_71 : decode cX7_run 71 = .ok (.iconst 1, 1) := by decide +kernel
theorem dX7_run_72 : decode cX7_run 72 = .ok (.goto 4, 3) := by decide +kernel
theorem dX7_run_75 : decode cX7_run 75 = .ok (.iconst 0, 1) := by decide +kernel
theorem dX7_run_76 : decode cX7_run 76 = .ok (.invokevirtual 120, 3) := by decide +kernel
theorem dX7_run_79 : decode cX7_run 79 = .ok (.aload_n 0, 1) := by decide +kernel
theorem dX7_run_80 : decode cX7_run 80 = .ok (.getfield 26, 3) := by decide +kernel
theorem dX7_run_83 : decode cX7_run 83 = .ok (.getfield 119, 3) := by decide +kernel
theorem dX7_run_86 : decode cX7_run 86 = .ok (.iload 5, 2) := by decide +kernel
theorem dX7_run_88 : decode cX7_run 88 = .ok (.if_icmp .ne 7, 3) := by decide +kernel
theorem dX7_run_91 : decode cX7_run 91 = .ok (.iconst 1, 1) := by decide +kernel
theorem dX7_run_92 : decode cX7_run 92 = .ok (.goto 4, 3) := by decide +kernel
theorem dX7_run_95 : decode cX7_run 95 = .ok (.iconst 0, 1) := by decide +kernel
theorem dX7_run_96 : decode cX7_run 96 = .ok (.istore 4, 2) := by decide +kernel
theorem dX7_run_98 : decode cX7_run 98 = .ok (.iinc 3 1, 3) := by decide +kernel
theorem dX7_run_101 : decode cX7_run 101 = .ok (.goto (-71), 3) := by decide +kernel
theorem dX7_run_104 : decode cX7_run 104 = .ok (.aload_n 0, 1) := by decide +kernel
theorem dX7_run_105 : decode cX7_run 105 = .ok (.getfield 35, 3) := by decide +kernel
theorem dX7_run_108 : decode cX7_run 108 = .ok (.getfield 116, 3) := by decide +kernel
theorem dX7_run_111 : decode cX7_run 111 = .ok (.sipush (-1000), 3) := by decide +kernel
theorem dX7_run_114 : decode cX7_run 114 = .ok (.if_icmp .ne 7, 3) := by decide +kernel
theorem dX7_run_117 : decode cX7_run 117 = .ok (.iload_n 3, 1) := by decide +kernel
theorem dX7_run_118 : decode cX7_run 118 = .ok (.goto 4, 3) := by decide +kernel
theorem dX7_run_121 : decode cX7_run 121 = .ok (.iconst 0, 1) := by decide +kernel
theorem dX7_run_122 : decode cX7_run 122 = .ok (.ireturn, 1) := by decide +kernel
theorem dX7_clash_0 : decode cX7_clash 0 = .ok (.aload_n 0, 1) := by decide +kernel
theorem dX7_clash_1 : decode cX7_clash 1 = .ok (.getfield 35, 3) := by decide +kernel
theorem dX7_clash_4 : decode cX7_clash 4 = .ok (.getfield 116, 3) := by decide +kernel
theorem dX7_clash_7 : decode cX7_clash 7 = .ok (.ireturn, 1) := by decide +kernel
theorem dX7_has_0 : decode cX7_has 0 = .ok (.aload_n 0, 1) := by decide +kernel
theorem dX7_has_1 : decode cX7_has 1 = .ok (.iload_n 1, 1) := by decide +kernel
theorem dX7_has_2 : decode cX7_has 2 = .ok (.invokevirtual 63, 3) := by decide +kernel
theorem dX7_has_5 : decode cX7_has 5 = .ok (.ifCond .ne 7, 3) := by decide +kernel
theorem dX7_has_8 : decode cX7_has 8 = .ok (.sipush (-1001), 3) := by decide +kernel
theorem dX7_has_11 : decode cX7_has 11 = .ok (.ireturn, 1) := by decide +kernel
theorem dX7_has_12 : decode cX7_has 12 = .ok (.iload_n 2, 1) := by decide +kernel
theorem dX7_has_13 : decode cX7_has 13 = .ok (.invokestatic 48, 3) := by decide +kernel
theorem dX7_has_16 : decode cX7_has 16 = .ok (.ifCond .eq 23, 3) := by decide +kernel
theorem dX7_has_19 : decode cX7_has 19 = .ok (.aload_n 0, 1) := by decide +kernel
theorem dX7_has_20 : decode cX7_has 20 = .ok (.getfield 10, 3) := by decide +kernel
theorem dX7_has_23 : decode cX7_has 23 = .ok (.getfield 124, 3) := by decide +kernel
theorem dX7_has_26 : decode cX7_has 26 = .ok (.iload_n 1, 1) := by decide +kernel
theorem dX7_has_27 : decode cX7_has 27 = .ok (.laload, 1) := by decide +kernel
theorem dX7_has_28 : decode cX7_has 28 = .ok (.iload_n 2, 1) := by decide +kernel
theorem dX7_has_29 : decode cX7_has 29 = .ok (.invokestatic 77, 3) := by decide +kernel
theorem dX7_has_32 : decode cX7_has 32 = .ok (.ifCond .eq 7, 3) := by decide +kernel
theorem dX7_has_35 : decode cX7_has 35 = .ok (.iconst 1, 1) := by decide +kernel
theorem dX7_has_36 : decode cX7_has 36 = .ok (.goto 4, 3) := by decide +kernel
theorem dX7_has_39 : decode cX7_has 39 = .ok (.iconst 0, 1) := by decide +kernel
theorem dX7_has_40 : decode cX7_has 40 = .ok (.ireturn, 1) := by decide +kernel
theorem dX7_end_0 : decode cX7_end 0 = .ok (.aload_n 0, 1) := by decide +kernel
theorem dX7_end_1 : decode cX7_end 1 = .ok (.iload_n 1, 1) := by decide +kernel
theorem dX7_end_2 : decode cX7_end 2 = .ok (.invokevirtual 63, 3) := by decide +kernel
theorem dX7_end_5 : decode cX7_end 5 = .ok (.ifCond .ne 7, 3) := by decide +kernel
theorem dX7_end_8 : decode cX7_end 8 = .ok (.sipush (-1001), 3) := by decide +kernel
theorem dX7_end_11 : decode cX7_end 11 = .ok (.ireturn, 1) := by decide +kernel
theorem dX7_end_12 : decode cX7_end 12 = .ok (.aload_n 0, 1) := by decide +kernel
theorem dX7_end_13 : decode cX7_end 13 = .ok (.getfield 10, 3) := by decide +kernel
theorem dX7_end_16 : decode cX7_end 16 = .ok (.getfield 124, 3) := by decide +kernel
theorem dX7_end_19 : decode cX7_end 19 = .ok (.iload_n 1, 1) := by decide +kernel
theorem dX7_end_20 : decode cX7_end 20 = .ok (.laload, 1) := by decide +kernel
theorem dX7_end_21 : decode cX7_end 21 = .ok (.lstore_n 3, 1) := by decide +kernel
theorem dX7_end_22 : decode cX7_end 22 = .ok (.lload_n 3, 1) := by decide +kernel
theorem dX7_end_23 : decode cX7_end 23 = .ok (.lconst 0, 1) := by decide +kernel
theorem dX7_end_24 : decode cX7_end 24 = .ok (.lcmp, 1) := by decide +kernel
theorem dX7_end_25 : decode cX7_end 25 = .ok (.ifCond .ne 7, 3) := by decide +kernel
theorem dX7_end_28 : decode cX7_end 28 = .ok (.sipush (-1000), 3) := by decide +kernel
theorem dX7_end_31 : decode cX7_end 31 = .ok (.ireturn, 1) := by decide +kernel
theorem dX7_end_32 : decode cX7_end 32 = .ok (.iload_n 2, 1) := by decide +kernel
theorem dX7_end_33 : decode cX7_end 33 = .ok (.ifCond .eq 10, 3) := by decide +kernel
theorem dX7_end_36 : decode cX7_end 36 = .ok (.lload_n 3, 1) := by decide +kernel
theorem dX7_end_37 : decode cX7_end 37 = .ok (.invokestatic 127, 3) := by decide +kernel
theorem dX7_end_40 : decode cX7_end 40 = .ok (.goto 7, 3) := by decide +kernel
theorem dX7_end_43 : decode cX7_end 43 = .ok (.lload_n 3, 1) := by decide +kernel
theorem dX7_end_44 : decode cX7_end 44 = .ok (.invokestatic 131, 3) := by decide +kernel
theorem dX7_end_47 : decode cX7_end 47 = .ok (.ireturn, 1) := by decide +kernel
theorem dX7_size_0 : decode cX7_size 0 = .ok (.aload_n 0, 1) := by decide +kernel
theorem dX7_size_1 : decode cX7_size 1 = .ok (.iload_n 1, 1) := by decide +kernel
theorem dX7_size_2 : decode cX7_size 2 = .ok (.invokevirtual 63, 3) := by decide +kernel
theorem dX7_size_5 : decode cX7_size 5 = .ok (.ifCond .eq 18, 3) := by decide +kernel
theorem dX7_size_8 : decode cX7_size 8 = .ok (.aload_n 0, 1) := by decide +kernel
theorem dX7_size_9 : decode cX7_size 9 = .ok (.getfield 10, 3) := by decide +kernel
theorem dX7_size_12 : decode cX7_size 12 = .ok (.getfield 124, 3) := by decide +kernel
theorem dX7_size_15 : decode cX7_size 15 = .ok (.iload_n 1, 1) := by decide +kernel
theorem dX7_size_16 : decode cX7_size 16 = .ok (.laload, 1) := by decide +kernel
theorem dX7_size_17 : decode cX7_size 17 = .ok (.invokestatic 134, 3) := by decide +kernel
theorem dX7_size_20 : decode cX7_size 20 = .ok (.goto 6, 3) := by decide +kernel
theorem dX7_size_23 : decode cX7_size 23 = .ok (.sipush (-1001), 3) := by decide +kernel
theorem dX7_size_26 : decode cX7_size 26 = .ok (.ireturn, 1) := by decide +kernel
theorem dX7_steps_0 : decode cX7_steps 0 = .ok (.aload_n 0, 1) := by decide +kernel
theorem dX7_steps_1 : decode cX7_steps 1 = .ok (.getfield 26, 3) := by decide +kernel
theorem dX7_steps_4 : decode cX7_steps 4 = .ok (.getfield 119, 3) := by decide +kernel
theorem dX7_steps_7 : decode cX7_steps 7 = .ok (.ireturn, 1) := by decide +kernel
theorem dX7_step_0 : decode cX7_step 0 = .ok (.aload_n 0, 1) := by decide +kernel
theorem dX7_step_1 : decode cX7_step 1 = .ok (.iload_n 1, 1) := by decide +kernel
theorem dX7_step_2 : decode cX7_step 2 = .ok (.invokevirtual 139, 3) := by decide +kernel
theorem dX7_step_5 : decode cX7_step 5 = .ok (.ifCond .ne 7, 3) := by decide +kernel
theorem dX7_step_8 : decode cX7_step 8 = .ok (.sipush (-1001), 3) := by decide +kernel
theorem dX7_step_11 : decode cX7_step 11 = .ok (.ireturn, 1) := by decide +kernel
theorem dX7_step_12 : decode cX7_step 12 = .ok (.iload_n 2, 1) := by decide +kernel
theorem dX7_step_13 : decode cX7_step 13 = .ok (.tableswitch 71 0 3 #[31, 41, 51, 61], 31) := by decide +kernel
theorem dX7_step_44 : decode cX7_step 44 = .ok (.aload_n 0, 1) := by decide +kernel
theorem dX7_step_45 : decode cX7_step 45 = .ok (.getfield 26, 3) := by decide +kernel
theorem dX7_step_48 : decode cX7_step 48 = .ok (.getfield 142, 3) := by decide +kernel
theorem dX7_step_51 : decode cX7_step 51 = .ok (.iload_n 1, 1) := by decide +kernel
theorem dX7_step_52 : decode cX7_step 52 = .ok (.iaload, 1) := by decide +kernel
theorem dX7_step_53 : decode cX7_step 53 = .ok (.ireturn, 1) := by decide +kernel
theorem dX7_step_54 : decode cX7_step 54 = .ok (.aload_n 0, 1) := by decide +kernel
theorem dX7_step_55 : decode cX7_step 55 = .ok (.getfield 26, 3) := by decide +kernel
theorem dX7_step_58 : decode cX7_step 58 = .ok (.getfield 145, 3) := by decide +kernel
theorem dX7_step_61 : decode cX7_step 61 = .ok (.iload_n 1, 1) := by decide +kernel
theorem dX7_step_62 : decode cX7_step 62 = .ok (.iaload, 1) := by decide +kernel
theorem dX7_step_63 : decode cX7_step 63 = .ok (.ireturn, 1) := by decide +kernel
theorem dX7_step_64 : decode cX7_step 64 = .ok (.aload_n 0, 1) := by decide +kernel
theorem dX7_step_65 : decode cX7_step 65 = .ok (.getfield 26, 3) := by decide +kernel
theorem dX7_step_68 : decode cX7_step 68 = .ok (.getfield 148, 3) := by decide +kernel
theorem dX7_step_71 : decode cX7_step 71 = .ok (.iload_n 1, 1) := by decide +kernel
theorem dX7_step_72 : decode cX7_step 72 = .ok (.iaload, 1) := by decide +kernel
theorem dX7_step_73 : decode cX7_step 73 = .ok (.ireturn, 1) := by decide +kernel
theorem dX7_step_74 : decode cX7_step 74 = .ok (.aload_n 0, 1) := by decide +kernel
theorem dX7_step_75 : decode cX7_step 75 = .ok (.getfield 26, 3) := by decide +kernel
theorem dX7_step_78 : decode cX7_step 78 = .ok (.getfield 151, 3) := by decide +kernel
theorem dX7_step_81 : decode cX7_step 81 = .ok (.iload_n 1, 1) := by decide +kernel
theorem dX7_step_82 : decode cX7_step 82 = .ok (.iaload, 1) := by decide +kernel
theorem dX7_step_83 : decode cX7_step 83 = .ok (.ireturn, 1) := by decide +kernel
theorem dX7_step_84 : decode cX7_step 84 = .ok (.sipush (-1001), 3) := by decide +kernel
theorem dX7_step_87 : decode cX7_step 87 = .ok (.ireturn, 1) := by decide +kernel
theorem dX7_reason_0 : decode cX7_reason 0 = .ok (.aload_n 0, 1) := by decide +kernel
theorem dX7_reason_1 : decode cX7_reason 1 = .ok (.iload_n 1, 1) := by decide +kernel
theorem dX7_reason_2 : decode cX7_reason 2 = .ok (.invokevirtual 139, 3) := by decide +kernel
theorem dX7_reason_5 : decode cX7_reason 5 = .ok (.ifCond .eq 18, 3) := by decide +kernel
theorem dX7_reason_8 : decode cX7_reason 8 = .ok (.aload_n 0, 1) := by decide +kernel
theorem dX7_reason_9 : decode cX7_reason 9 = .ok (.getfield 26, 3) := by decide +kernel
theorem dX7_reason_12 : decode cX7_reason 12 = .ok (.getfield 154, 3) := by decide +kernel
theorem dX7_reason_15 : decode cX7_reason 15 = .ok (.iload_n 1, 1) := by decide +kernel
theorem dX7_reason_16 : decode cX7_reason 16 = .ok (.iaload, 1) := by decide +kernel
theorem dX7_reason_17 : decode cX7_reason 17 = .ok (.invokestatic 157, 3) := by decide +kernel
theorem dX7_reason_20 : decode cX7_reason 20 = .ok (.goto 6, 3) := by decide +kernel
theorem dX7_reason_23 : decode cX7_reason 23 = .ok (.sipush (-1001), 3) := by decide +kernel
theorem dX7_reason_26 : decode cX7_reason 26 = .ok (.ireturn, 1) := by decide +kernel
theorem dX7_part_0 : decode cX7_part 0 = .ok (.aload_n 0, 1) := by decide +kernel
theorem dX7_part_1 : decode cX7_part 1 = .ok (.iload_n 1, 1) := by decide +kernel
theorem dX7_part_2 : decode cX7_part 2 = .ok (.iload_n 2, 1) := by decide +kernel
theorem dX7_part_3 : decode cX7_part 3 = .ok (.invokevirtual 162, 3) := by decide +kernel
theorem dX7_part_6 : decode cX7_part 6 = .ok (.ifCond .eq 15, 3) := by decide +kernel
theorem dX7_part_9 : decode cX7_part 9 = .ok (.aload_n 0, 1) := by decide +kernel
theorem dX7_part_10 : decode cX7_part 10 = .ok (.getfield 26, 3) := by decide +kernel
theorem dX7_part_13 : decode cX7_part 13 = .ok (.iload_n 1, 1) := by decide +kernel
theorem dX7_part_14 : decode cX7_part 14 = .ok (.iload_n 2, 1) := by decide +kernel
theorem dX7_part_15 : decode cX7_part 15 = .ok (.invokevirtual 166, 3) := by decide +kernel
theorem dX7_part_18 : decode cX7_part 18 = .ok (.goto 6, 3) := by decide +kernel
theorem dX7_part_21 : decode cX7_part 21 = .ok (.sipush (-1001), 3) := by decide +kernel
theorem dX7_part_24 : decode cX7_part 24 = .ok (.ireturn, 1) := by decide +kernel
theorem dX7_told_0 : decode cX7_told 0 = .ok (.aload_n 0, 1) := by decide +kernel
theorem dX7_told_1 : decode cX7_told 1 = .ok (.iload_n 1, 1) := by decide +kernel
theorem dX7_told_2 : decode cX7_told 2 = .ok (.iload_n 2, 1) := by decide +kernel
theorem dX7_told_3 : decode cX7_told 3 = .ok (.invokevirtual 162, 3) := by decide +kernel
theorem dX7_told_6 : decode cX7_told 6 = .ok (.ifCond .ne 7, 3) := by decide +kernel
theorem dX7_told_9 : decode cX7_told 9 = .ok (.sipush (-1001), 3) := by decide +kernel
theorem dX7_told_12 : decode cX7_told 12 = .ok (.ireturn, 1) := by decide +kernel
theorem dX7_told_13 : decode cX7_told 13 = .ok (.aload_n 0, 1) := by decide +kernel
theorem dX7_told_14 : decode cX7_told 14 = .ok (.getfield 26, 3) := by decide +kernel
theorem dX7_told_17 : decode cX7_told 17 = .ok (.iload_n 1, 1) := by decide +kernel
theorem dX7_told_18 : decode cX7_told 18 = .ok (.iload_n 2, 1) := by decide +kernel
theorem dX7_told_19 : decode cX7_told 19 = .ok (.invokevirtual 166, 3) := by decide +kernel
theorem dX7_told_22 : decode cX7_told 22 = .ok (.istore_n 3, 1) := by decide +kernel
theorem dX7_told_23 : decode cX7_told 23 = .ok (.iload_n 3, 1) := by decide +kernel
theorem dX7_told_24 : decode cX7_told 24 = .ok (.iconst 2, 1) := by decide +kernel
theorem dX7_told_25 : decode cX7_told 25 = .ok (.idiv, 1) := by decide +kernel
theorem dX7_told_26 : decode cX7_told 26 = .ok (.istore 4, 2) := by decide +kernel
theorem dX7_told_28 : decode cX7_told 28 = .ok (.aload_n 0, 1) := by decide +kernel
theorem dX7_told_29 : decode cX7_told 29 = .ok (.getfield 26, 3) := by decide +kernel
theorem dX7_told_32 : decode cX7_told 32 = .ok (.aload_n 0, 1) := by decide +kernel
theorem dX7_told_33 : decode cX7_told 33 = .ok (.getfield 10, 3) := by decide +kernel
theorem dX7_told_36 : decode cX7_told 36 = .ok (.getfield 66, 3) := by decide +kernel
theorem dX7_told_39 : decode cX7_told 39 = .ok (.iload 4, 2) := by decide +kernel
theorem dX7_told_41 : decode cX7_told 41 = .ok (.laload, 1) := by decide +kernel
theorem dX7_told_42 : decode cX7_told 42 = .ok (.iload 4, 2) := by decide +kernel
theorem dX7_told_44 : decode cX7_told 44 = .ok (.iload_n 1, 1) := by decide +kernel
theorem dX7_told_45 : decode cX7_told 45 = .ok (.invokevirtual 170, 3) := by decide +kernel
theorem dX7_told_48 : decode cX7_told 48 = .ok (.lstore 5, 2) := by decide +kernel
theorem dX7_told_50 : decode cX7_told 50 = .ok (.iload_n 3, 1) := by decide +kernel
theorem dX7_told_51 : decode cX7_told 51 = .ok (.iconst 2, 1) := by decide +kernel
theorem dX7_told_52 : decode cX7_told 52 = .ok (.irem, 1) := by decide +kernel
theorem dX7_told_53 : decode cX7_told 53 = .ok (.iconst 1, 1) := by decide +kernel
theorem dX7_told_54 : decode cX7_told 54 = .ok (.if_icmp .ne 11, 3) := by decide +kernel
theorem dX7_told_57 : decode cX7_told 57 = .ok (.lload 5, 2) := by decide +kernel
theorem dX7_told_59 : decode cX7_told 59 = .ok (.invokestatic 127, 3) := by decide +kernel
theorem dX7_told_62 : decode cX7_told 62 = .ok (.goto 8, 3) := by decide +kernel
theorem dX7_told_65 : decode cX7_told 65 = .ok (.lload 5, 2) := by decide +kernel
theorem dX7_told_67 : decode cX7_told 67 = .ok (.invokestatic 131, 3) := by decide +kernel
theorem dX7_told_70 : decode cX7_told 70 = .ok (.ireturn, 1) := by decide +kernel
theorem dX7_plans_0 : decode cX7_plans 0 = .ok (.aload_n 0, 1) := by decide +kernel
theorem dX7_plans_1 : decode cX7_plans 1 = .ok (.getfield 10, 3) := by decide +kernel
theorem dX7_plans_4 : decode cX7_plans 4 = .ok (.invokevirtual 174, 3) := by decide +kernel
theorem dX7_plans_7 : decode cX7_plans 7 = .ok (.lstore_n 1, 1) := by decide +kernel
theorem dX7_plans_8 : decode cX7_plans 8 = .ok (.lload_n 1, 1) := by decide +kernel
theorem dX7_plans_9 : decode cX7_plans 9 = .ok (.ldc2_w 178, 3) := by decide +kernel
theorem dX7_plans_12 : decode cX7_plans 12 = .ok (.lcmp, 1) := by decide +kernel
theorem dX7_plans_13 : decode cX7_plans 13 = .ok (.ifCond .le 7, 3) := by decide +kernel
theorem dX7_plans_16 : decode cX7_plans 16 = .ok (.sipush (-1000), 3) := by decide +kernel
theorem dX7_plans_19 : decode cX7_plans 19 = .ok (.ireturn, 1) := by decide +kernel
theorem dX7_plans_20 : decode cX7_plans 20 = .ok (.lload_n 1, 1) := by decide +kernel
theorem dX7_plans_21 : decode cX7_plans 21 = .ok (.lconst 0, 1) := by decide +kernel
theorem dX7_plans_22 : decode cX7_plans 22 = .ok (.lcmp, 1) := by decide +kernel
theorem dX7_plans_23 : decode cX7_plans 23 = .ok (.ifCond .ne 7, 3) := by decide +kernel
theorem dX7_plans_26 : decode cX7_plans 26 = .ok (.iconst 0, 1) := by decide +kernel
theorem dX7_plans_27 : decode cX7_plans 27 = .ok (.goto 10, 3) := by decide +kernel
theorem dX7_plans_30 : decode cX7_plans 30 = .ok (.aload_n 0, 1) := by decide +kernel
theorem dX7_plans_31 : decode cX7_plans 31 = .ok (.getfield 44, 3) := by decide +kernel
theorem dX7_plans_34 : decode cX7_plans 34 = .ok (.invokevirtual 180, 3) := by decide +kernel
theorem dX7_plans_37 : decode cX7_plans 37 = .ok (.ireturn, 1) := by decide +kernel
theorem dX7_beginAnew_0 : decode cX7_beginAnew 0 = .ok (.aload_n 0, 1) := by decide +kernel
theorem dX7_beginAnew_1 : decode cX7_beginAnew 1 = .ok (.getfield 10, 3) := by decide +kernel
theorem dX7_beginAnew_4 : decode cX7_beginAnew 4 = .ok (.invokevirtual 184, 3) := by decide +kernel
theorem dX7_beginAnew_7 : decode cX7_beginAnew 7 = .ok (.aload_n 0, 1) := by decide +kernel
theorem dX7_beginAnew_8 : decode cX7_beginAnew 8 = .ok (.getfield 26, 3) := by decide +kernel
theorem dX7_beginAnew_11 : decode cX7_beginAnew 11 = .ok (.iconst 0, 1) := by decide +kernel
theorem dX7_beginAnew_12 : decode cX7_beginAnew 12 = .ok (.putfield 119, 3) := by decide +kernel
theorem dX7_beginAnew_15 : decode cX7_beginAnew 15 = .ok (.aload_n 0, 1) := by decide +kernel
theorem dX7_beginAnew_16 : decode cX7_beginAnew 16 = .ok (.getfield 35, 3) := by decide +kernel
theorem dX7_beginAnew_19 : decode cX7_beginAnew 19 = .ok (.invokevirtual 187, 3) := by decide +kernel
theorem dX7_beginAnew_22 : decode cX7_beginAnew 22 = .ok (.return_, 1) := by decide +kernel
theorem dX7_isName_0 : decode cX7_isName 0 = .ok (.iload_n 1, 1) := by decide +kernel
theorem dX7_isName_1 : decode cX7_isName 1 = .ok (.ifCond .lt 18, 3) := by decide +kernel
theorem dX7_isName_4 : decode cX7_isName 4 = .ok (.iload_n 1, 1) := by decide +kernel
theorem dX7_isName_5 : decode cX7_isName 5 = .ok (.aload_n 0, 1) := by decide +kernel
theorem dX7_isName_6 : decode cX7_isName 6 = .ok (.getfield 10, 3) := by decide +kernel
theorem dX7_isName_9 : decode cX7_isName 9 = .ok (.getfield 52, 3) := by decide +kernel
theorem dX7_isName_12 : decode cX7_isName 12 = .ok (.if_icmp .ge 7, 3) := by decide +kernel
theorem dX7_isName_15 : decode cX7_isName 15 = .ok (.iconst 1, 1) := by decide +kernel
theorem dX7_isName_16 : decode cX7_isName 16 = .ok (.goto 4, 3) := by decide +kernel
theorem dX7_isName_19 : decode cX7_isName 19 = .ok (.iconst 0, 1) := by decide +kernel
theorem dX7_isName_20 : decode cX7_isName 20 = .ok (.ireturn, 1) := by decide +kernel
theorem dX7_isRow_0 : decode cX7_isRow 0 = .ok (.iload_n 1, 1) := by decide +kernel
theorem dX7_isRow_1 : decode cX7_isRow 1 = .ok (.ifCond .lt 18, 3) := by decide +kernel
theorem dX7_isRow_4 : decode cX7_isRow 4 = .ok (.iload_n 1, 1) := by decide +kernel
theorem dX7_isRow_5 : decode cX7_isRow 5 = .ok (.aload_n 0, 1) := by decide +kernel
theorem dX7_isRow_6 : decode cX7_isRow 6 = .ok (.getfield 19, 3) := by decide +kernel
theorem dX7_isRow_9 : decode cX7_isRow 9 = .ok (.getfield 89, 3) := by decide +kernel
theorem dX7_isRow_12 : decode cX7_isRow 12 = .ok (.if_icmp .ge 7, 3) := by decide +kernel
theorem dX7_isRow_15 : decode cX7_isRow 15 = .ok (.iconst 1, 1) := by decide +kernel
theorem dX7_isRow_16 : decode cX7_isRow 16 = .ok (.goto 4, 3) := by decide +kernel
theorem dX7_isRow_19 : decode cX7_isRow 19 = .ok (.iconst 0, 1) := by decide +kernel
theorem dX7_isRow_20 : decode cX7_isRow 20 = .ok (.ireturn, 1) := by decide +kernel
theorem dX7_isStep_0 : decode cX7_isStep 0 = .ok (.iload_n 1, 1) := by decide +kernel
theorem dX7_isStep_1 : decode cX7_isStep 1 = .ok (.ifCond .lt 18, 3) := by decide +kernel
theorem dX7_isStep_4 : decode cX7_isStep 4 = .ok (.iload_n 1, 1) := by decide +kernel
theorem dX7_isStep_5 : decode cX7_isStep 5 = .ok (.aload_n 0, 1) := by decide +kernel
theorem dX7_isStep_6 : decode cX7_isStep 6 = .ok (.getfield 26, 3) := by decide +kernel
theorem dX7_isStep_9 : decode cX7_isStep 9 = .ok (.getfield 119, 3) := by decide +kernel
theorem dX7_isStep_12 : decode cX7_isStep 12 = .ok (.if_icmp .ge 7, 3) := by decide +kernel
theorem dX7_isStep_15 : decode cX7_isStep 15 = .ok (.iconst 1, 1) := by decide +kernel
theorem dX7_isStep_16 : decode cX7_isStep 16 = .ok (.goto 4, 3) := by decide +kernel
theorem dX7_isStep_19 : decode cX7_isStep 19 = .ok (.iconst 0, 1) := by decide +kernel
theorem dX7_isStep_20 : decode cX7_isStep 20 = .ok (.ireturn, 1) := by decide +kernel
theorem dX7_isPart_0 : decode cX7_isPart 0 = .ok (.aload_n 0, 1) := by decide +kernel
theorem dX7_isPart_1 : decode cX7_isPart 1 = .ok (.iload_n 1, 1) := by decide +kernel
theorem dX7_isPart_2 : decode cX7_isPart 2 = .ok (.invokevirtual 139, 3) := by decide +kernel
theorem dX7_isPart_5 : decode cX7_isPart 5 = .ok (.ifCond .eq 27, 3) := by decide +kernel
theorem dX7_isPart_8 : decode cX7_isPart 8 = .ok (.iload_n 2, 1) := by decide +kernel
theorem dX7_isPart_9 : decode cX7_isPart 9 = .ok (.ifCond .lt 23, 3) := by decide +kernel
theorem dX7_isPart_12 : decode cX7_isPart 12 = .ok (.iload_n 2, 1) := by decide +kernel
theorem dX7_isPart_13 : decode cX7_isPart 13 = .ok (.aload_n 0, 1) := by decide +kernel
theorem dX7_isPart_14 : decode cX7_isPart 14 = .ok (.getfield 26, 3) := by decide +kernel
theorem dX7_isPart_17 : decode cX7_isPart 17 = .ok (.getfield 154, 3) := by decide +kernel
theorem dX7_isPart_20 : decode cX7_isPart 20 = .ok (.iload_n 1, 1) := by decide +kernel
theorem dX7_isPart_21 : decode cX7_isPart 21 = .ok (.iaload, 1) := by decide +kernel
theorem dX7_isPart_22 : decode cX7_isPart 22 = .ok (.invokestatic 157, 3) := by decide +kernel
theorem dX7_isPart_25 : decode cX7_isPart 25 = .ok (.if_icmp .ge 7, 3) := by decide +kernel
theorem dX7_isPart_28 : decode cX7_isPart 28 = .ok (.iconst 1, 1) := by decide +kernel
theorem dX7_isPart_29 : decode cX7_isPart 29 = .ok (.goto 4, 3) := by decide +kernel
theorem dX7_isPart_32 : decode cX7_isPart 32 = .ok (.iconst 0, 1) := by decide +kernel
theorem dX7_isPart_33 : decode cX7_isPart 33 = .ok (.ireturn, 1) := by decide +kernel
theorem dX7_areDifferentNames_0 : decode cX7_areDifferentNames 0 = .ok (.iload_n 1, 1) := by decide +kernel
theorem dX7_areDifferentNames_1 : decode cX7_areDifferentNames 1 = .ok (.iconst 1, 1) := by decide +kernel
theorem dX7_areDifferentNames_2 : decode cX7_areDifferentNames 2 = .ok (.if_icmp .lt 13, 3) := by decide +kernel
theorem dX7_areDifferentNames_5 : decode cX7_areDifferentNames 5 = .ok (.aload_n 0, 1) := by decide +kernel
theorem dX7_areDifferentNames_6 : decode cX7_areDifferentNames 6 = .ok (.iload_n 2, 1) := by decide +kernel
theorem dX7_areDifferentNames_7 : decode cX7_areDifferentNames 7 = .ok (.invokevirtual 63, 3) := by decide +kernel
theorem dX7_areDifferentNames_10 : decode cX7_areDifferentNames 10 = .ok (.ifCond .ne 5, 3) := by decide +kernel
theorem dX7_areDifferentNames_13 : decode cX7_areDifferentNames 13 = .ok (.iconst 0, 1) := by decide +kernel
theorem dX7_areDifferentNames_14 : decode cX7_areDifferentNames 14 = .ok (.ireturn, 1) := by decide +kernel
theorem dX7_areDifferentNames_15 : decode cX7_areDifferentNames 15 = .ok (.iload_n 1, 1) := by decide +kernel
theorem dX7_areDifferentNames_16 : decode cX7_areDifferentNames 16 = .ok (.iconst 2, 1) := by decide +kernel
theorem dX7_areDifferentNames_17 : decode cX7_areDifferentNames 17 = .ok (.if_icmp .lt 18, 3) := by decide +kernel
theorem dX7_areDifferentNames_20 : decode cX7_areDifferentNames 20 = .ok (.aload_n 0, 1) := by decide +kernel
theorem dX7_areDifferentNames_21 : decode cX7_areDifferentNames 21 = .ok (.iload_n 3, 1) := by decide +kernel
theorem dX7_areDifferentNames_22 : decode cX7_areDifferentNames 22 = .ok (.invokevirtual 63, 3) := by decide +kernel
theorem dX7_areDifferentNames_25 : decode cX7_areDifferentNames 25 = .ok (.ifCond .eq 8, 3) := by decide +kernel
theorem dX7_areDifferentNames_28 : decode cX7_areDifferentNames 28 = .ok (.iload_n 3, 1) := by decide +kernel
theorem dX7_areDifferentNames_29 : decode cX7_areDifferentNames 29 = .ok (.iload_n 2, 1) := by decide +kernel
theorem dX7_areDifferentNames_30 : decode cX7_areDifferentNames 30 = .ok (.if_icmp .ne 5, 3) := by decide +kernel
theorem dX7_areDifferentNames_33 : decode cX7_areDifferentNames 33 = .ok (.iconst 0, 1) := by decide +kernel
theorem dX7_areDifferentNames_34 : decode cX7_areDifferentNames 34 = .ok (.ireturn, 1) := by decide +kernel
theorem dX7_areDifferentNames_35 : decode cX7_areDifferentNames 35 = .ok (.iload_n 1, 1) := by decide +kernel
theorem dX7_areDifferentNames_36 : decode cX7_areDifferentNames 36 = .ok (.iconst 3, 1) := by decide +kernel
theorem dX7_areDifferentNames_37 : decode cX7_areDifferentNames 37 = .ok (.if_icmp .lt 24, 3) := by decide +kernel
theorem dX7_areDifferentNames_40 : decode cX7_areDifferentNames 40 = .ok (.aload_n 0, 1) := by decide +kernel
theorem dX7_areDifferentNames_41 : decode cX7_areDifferentNames 41 = .ok (.iload 4, 2) := by decide +kernel
theorem dX7_areDifferentNames_43 : decode cX7_areDifferentNames 43 = .ok (.invokevirtual 63, 3) := by decide +kernel
theorem dX7_areDifferentNames_46 : decode cX7_areDifferentNames 46 = .ok (.ifCond .eq 19, 3) := by decide +kernel
theorem dX7_areDifferentNames_49 : decode cX7_areDifferentNames 49 = .ok (.iload 4, 2) := by decide +kernel
theorem dX7_areDifferentNames_51 : decode cX7_areDifferentNames 51 = .ok (.iload_n 2, 1) := by decide +kernel
theorem dX7_areDifferentNames_52 : decode cX7_areDifferentNames 52 = .ok (.if_icmp .eq 13, 3) := by decide +kernel
theorem dX7_areDifferentNames_55 : decode cX7_areDifferentNames 55 = .ok (.iload 4, 2) := by decide +kernel
theorem dX7_areDifferentNames_57 : decode cX7_areDifferentNames 57 = .ok (.iload_n 3, 1) := by decide +kernel
theorem dX7_areDifferentNames_58 : decode cX7_areDifferentNames 58 = .ok (.if_icmp .eq 7, 3) := by decide +kernel
theorem dX7_areDifferentNames_61 : decode cX7_areDifferentNames 61 = .ok (.iconst 1, 1) := by decide +kernel
theorem dX7_areDifferentNames_62 : decode cX7_areDifferentNames 62 = .ok (.goto 4, 3) := by decide +kernel
theorem dX7_areDifferentNames_65 : decode cX7_areDifferentNames 65 = .ok (.iconst 0, 1) := by decide +kernel
theorem dX7_areDifferentNames_66 : decode cX7_areDifferentNames 66 = .ok (.ireturn, 1) := by decide +kernel
theorem dX7_isNumber_0 : decode cX7_isNumber 0 = .ok (.iload_n 0, 1) := by decide +kernel
theorem dX7_isNumber_1 : decode cX7_isNumber 1 = .ok (.bipush (-32), 2) := by decide +kernel
theorem dX7_isNumber_3 : decode cX7_isNumber 3 = .ok (.if_icmp .lt 13, 3) := by decide +kernel
theorem dX7_isNumber_6 : decode cX7_isNumber 6 = .ok (.iload_n 0, 1) := by decide +kernel
theorem dX7_isNumber_7 : decode cX7_isNumber 7 = .ok (.bipush 31, 2) := by decide +kernel
theorem dX7_isNumber_9 : decode cX7_isNumber 9 = .ok (.if_icmp .gt 7, 3) := by decide +kernel
theorem dX7_isNumber_12 : decode cX7_isNumber 12 = .ok (.iconst 1, 1) := by decide +kernel
theorem dX7_isNumber_13 : decode cX7_isNumber 13 = .ok (.goto 4, 3) := by decide +kernel
theorem dX7_isNumber_16 : decode cX7_isNumber 16 = .ok (.iconst 0, 1) := by decide +kernel
theorem dX7_isNumber_17 : decode cX7_isNumber 17 = .ok (.ireturn, 1) := by decide +kernel
theorem dX7_bitOf_0 : decode cX7_bitOf 0 = .ok (.lconst 1, 1) := by decide +kernel
theorem dX7_bitOf_1 : decode cX7_bitOf 1 = .ok (.iload_n 0, 1) := by decide +kernel
theorem dX7_bitOf_2 : decode cX7_bitOf 2 = .ok (.bipush (-32), 2) := by decide +kernel
theorem dX7_bitOf_4 : decode cX7_bitOf 4 = .ok (.isub, 1) := by decide +kernel
theorem dX7_bitOf_5 : decode cX7_bitOf 5 = .ok (.lshl, 1) := by decide +kernel
theorem dX7_bitOf_6 : decode cX7_bitOf 6 = .ok (.lreturn, 1) := by decide +kernel
theorem dX7_hasBit_0 : decode cX7_hasBit 0 = .ok (.lload_n 0, 1) := by decide +kernel
theorem dX7_hasBit_1 : decode cX7_hasBit 1 = .ok (.iload_n 2, 1) := by decide +kernel
theorem dX7_hasBit_2 : decode cX7_hasBit 2 = .ok (.invokestatic 70, 3) := by decide +kernel
theorem dX7_hasBit_5 : decode cX7_hasBit 5 = .ok (.land, 1) := by decide +kernel
theorem dX7_hasBit_6 : decode cX7_hasBit 6 = .ok (.lconst 0, 1) := by decide +kernel
theorem dX7_hasBit_7 : decode cX7_hasBit 7 = .ok (.lcmp, 1) := by decide +kernel
theorem dX7_hasBit_8 : decode cX7_hasBit 8 = .ok (.ifCond .eq 7, 3) := by decide +kernel
theorem dX7_hasBit_11 : decode cX7_hasBit 11 = .ok (.iconst 1, 1) := by decide +kernel
theorem dX7_hasBit_12 : decode cX7_hasBit 12 = .ok (.goto 4, 3) := by decide +kernel
theorem dX7_hasBit_15 : decode cX7_hasBit 15 = .ok (.iconst 0, 1) := by decide +kernel
theorem dX7_hasBit_16 : decode cX7_hasBit 16 = .ok (.ireturn, 1) := by decide +kernel
theorem dX7_leastOf_0 : decode cX7_leastOf 0 = .ok (.bipush (-32), 2) := by decide +kernel
theorem dX7_leastOf_2 : decode cX7_leastOf 2 = .ok (.lload_n 0, 1) := by decide +kernel
theorem dX7_leastOf_3 : decode cX7_leastOf 3 = .ok (.invokestatic 190, 3) := by decide +kernel
theorem dX7_leastOf_6 : decode cX7_leastOf 6 = .ok (.iadd, 1) := by decide +kernel
theorem dX7_leastOf_7 : decode cX7_leastOf 7 = .ok (.ireturn, 1) := by decide +kernel
theorem dX7_mostOf_0 : decode cX7_mostOf 0 = .ok (.bipush 31, 2) := by decide +kernel
theorem dX7_mostOf_2 : decode cX7_mostOf 2 = .ok (.lload_n 0, 1) := by decide +kernel
theorem dX7_mostOf_3 : decode cX7_mostOf 3 = .ok (.invokestatic 193, 3) := by decide +kernel
theorem dX7_mostOf_6 : decode cX7_mostOf 6 = .ok (.isub, 1) := by decide +kernel
theorem dX7_mostOf_7 : decode cX7_mostOf 7 = .ok (.ireturn, 1) := by decide +kernel
theorem dX8_init_0 : decode cX8_init 0 = .ok (.aload_n 0, 1) := by decide +kernel
theorem dX8_init_1 : decode cX8_init 1 = .ok (.invokespecial 1, 3) := by decide +kernel
theorem dX8_init_4 : decode cX8_init 4 = .ok (.aload_n 0, 1) := by decide +kernel
theorem dX8_init_5 : decode cX8_init 5 = .ok (.sipush 512, 3) := by decide +kernel
theorem dX8_init_8 : decode cX8_init 8 = .ok (.newarray .boolean, 2) := by decide +kernel
theorem dX8_init_10 : decode cX8_init 10 = .ok (.putfield 7, 3) := by decide +kernel
theorem dX8_init_13 : decode cX8_init 13 = .ok (.aload_n 0, 1) := by decide +kernel
theorem dX8_init_14 : decode cX8_init 14 = .ok (.sipush 512, 3) := by decide +kernel
theorem dX8_init_17 : decode cX8_init 17 = .ok (.newarray .boolean, 2) := by decide +kernel
theorem dX8_init_19 : decode cX8_init 19 = .ok (.putfield 13, 3) := by decide +kernel
theorem dX8_init_22 : decode cX8_init 22 = .ok (.aload_n 0, 1) := by decide +kernel
theorem dX8_init_23 : decode cX8_init 23 = .ok (.bipush 12, 2) := by decide +kernel
theorem dX8_init_25 : decode cX8_init 25 = .ok (.newarray .int, 2) := by decide +kernel
theorem dX8_init_27 : decode cX8_init 27 = .ok (.putfield 16, 3) := by decide +kernel
theorem dX8_init_30 : decode cX8_init 30 = .ok (.aload_n 0, 1) := by decide +kernel
theorem dX8_init_31 : decode cX8_init 31 = .ok (.bipush 36, 2) := by decide +kernel
theorem dX8_init_33 : decode cX8_init 33 = .ok (.newarray .int, 2) := by decide +kernel
theorem dX8_init_35 : decode cX8_init 35 = .ok (.putfield 20, 3) := by decide +kernel
theorem dX8_init_38 : decode cX8_init 38 = .ok (.aload_n 0, 1) := by decide +kernel
theorem dX8_init_39 : decode cX8_init 39 = .ok (.bipush 12, 2) := by decide +kernel
theorem dX8_init_41 : decode cX8_init 41 = .ok (.newarray .int, 2) := by decide +kernel
theorem dX8_init_43 : decode cX8_init 43 = .ok (.putfield 23, 3) := by decide +kernel
theorem dX8_init_46 : decode cX8_init 46 = .ok (.aload_n 0, 1) := by decide +kernel
theorem dX8_init_47 : decode cX8_init 47 = .ok (.bipush 96, 2) := by decide +kernel
theorem dX8_init_49 : decode cX8_init 49 = .ok (.newarray .int, 2) := by decide +kernel
theorem dX8_init_51 : decode cX8_init 51 = .ok (.putfield 26, 3) := by decide +kernel
theorem dX8_init_54 : decode cX8_init 54 = .ok (.aload_n 0, 1) := by decide +kernel
theorem dX8_init_55 : decode cX8_init 55 = .ok (.sipush (-1000), 3) := by decide +kernel
theorem dX8_init_58 : decode cX8_init 58 = .ok (.putfield 29, 3) := by decide +kernel
theorem dX8_init_61 : decode cX8_init 61 = .ok (.aload_n 0, 1) := by decide +kernel
theorem dX8_init_62 : decode cX8_init 62 = .ok (.sipush 512, 3) := by decide +kernel
theorem dX8_init_65 : decode cX8_init 65 = .ok (.newarray .int, 2) := by decide +kernel
theorem dX8_init_67 : decode cX8_init 67 = .ok (.putfield 33, 3) := by decide +kernel
theorem dX8_init_70 : decode cX8_init 70 = .ok (.aload_n 0, 1) := by decide +kernel
theorem dX8_init_71 : decode cX8_init 71 = .ok (.sipush 512, 3) := by decide +kernel
theorem dX8_init_74 : decode cX8_init 74 = .ok (.newarray .int, 2) := by decide +kernel
theorem dX8_init_76 : decode cX8_init 76 = .ok (.putfield 36, 3) := by decide +kernel
theorem dX8_init_79 : decode cX8_init 79 = .ok (.aload_n 0, 1) := by decide +kernel
theorem dX8_init_80 : decode cX8_init 80 = .ok (.sipush 512, 3) := by decide +kernel
theorem dX8_init_83 : decode cX8_init 83 = .ok (.newarray .int, 2) := by decide +kernel
theorem dX8_init_85 : decode cX8_init 85 = .ok (.putfield 39, 3) := by decide +kernel
theorem dX8_init_88 : decode cX8_init 88 = .ok (.aload_n 0, 1) := by decide +kernel
theorem dX8_init_89 : decode cX8_init 89 = .ok (.sipush 512, 3) := by decide +kernel
theorem dX8_init_92 : decode cX8_init 92 = .ok (.newarray .int, 2) := by decide +kernel
theorem dX8_init_94 : decode cX8_init 94 = .ok (.putfield 42, 3) := by decide +kernel
theorem dX8_init_97 : decode cX8_init 97 = .ok (.aload_n 0, 1) := by decide +kernel
theorem dX8_init_98 : decode cX8_init 98 = .ok (.sipush 8192, 3) := by decide +kernel
theorem dX8_init_101 : decode cX8_init 101 = .ok (.newarray .boolean, 2) := by decide +kernel
theorem dX8_init_103 : decode cX8_init 103 = .ok (.putfield 45, 3) := by decide +kernel
theorem dX8_init_106 : decode cX8_init 106 = .ok (.aload_n 0, 1) := by decide +kernel
theorem dX8_init_107 : decode cX8_init 107 = .ok (.sipush 8192, 3) := by decide +kernel
theorem dX8_init_110 : decode cX8_init 110 = .ok (.newarray .int, 2) := by decide +kernel
theorem dX8_init_112 : decode cX8_init 112 = .ok (.putfield 48, 3) := by decide +kernel
theorem dX8_init_115 : decode cX8_init 115 = .ok (.aload_n 0, 1) := by decide +kernel
theorem dX8_init_116 : decode cX8_init 116 = .ok (.bipush 8, 2) := by decide +kernel
theorem dX8_init_118 : decode cX8_init 118 = .ok (.newarray .int, 2) := by decide +kernel
theorem dX8_init_120 : decode cX8_init 120 = .ok (.putfield 51, 3) := by decide +kernel
theorem dX8_init_123 : decode cX8_init 123 = .ok (.aload_n 0, 1) := by decide +kernel
theorem dX8_init_124 : decode cX8_init 124 = .ok (.bipush 8, 2) := by decide +kernel
theorem dX8_init_126 : decode cX8_init 126 = .ok (.newarray .int, 2) := by decide +kernel
theorem dX8_init_128 : decode cX8_init 128 = .ok (.putfield 54, 3) := by decide +kernel
theorem dX8_init_131 : decode cX8_init 131 = .ok (.return_, 1) := by decide +kernel
theorem dX8_in_0 : decode cX8_in 0 = .ok (.iload_n 0, 1) := by decide +kernel
theorem dX8_in_1 : decode cX8_in 1 = .ok (.iload_n 1, 1) := by decide +kernel
theorem dX8_in_2 : decode cX8_in 2 = .ok (.if_icmp .lt 12, 3) := by decide +kernel
theorem dX8_in_5 : decode cX8_in 5 = .ok (.iload_n 0, 1) := by decide +kernel
theorem dX8_in_6 : decode cX8_in 6 = .ok (.iload_n 2, 1) := by decide +kernel
theorem dX8_in_7 : decode cX8_in 7 = .ok (.if_icmp .gt 7, 3) := by decide +kernel
theorem dX8_in_10 : decode cX8_in 10 = .ok (.iconst 1, 1) := by decide +kernel
theorem dX8_in_11 : decode cX8_in 11 = .ok (.goto 4, 3) := by decide +kernel
theorem dX8_in_14 : decode cX8_in 14 = .ok (.iconst 0, 1) := by decide +kernel
theorem dX8_in_15 : decode cX8_in 15 = .ok (.ireturn, 1) := by decide +kernel
theorem dX8_isName_0 : decode cX8_isName 0 = .ok (.iload_n 1, 1) := by decide +kernel
theorem dX8_isName_1 : decode cX8_isName 1 = .ok (.iconst 0, 1) := by decide +kernel
theorem dX8_isName_2 : decode cX8_isName 2 = .ok (.aload_n 0, 1) := by decide +kernel
theorem dX8_isName_3 : decode cX8_isName 3 = .ok (.getfield 57, 3) := by decide +kernel
theorem dX8_isName_6 : decode cX8_isName 6 = .ok (.iconst 1, 1) := by decide +kernel
theorem dX8_isName_7 : decode cX8_isName 7 = .ok (.isub, 1) := by decide +kernel
theorem dX8_isName_8 : decode cX8_isName 8 = .ok (.invokestatic 60, 3) := by decide +kernel
theorem dX8_isName_11 : decode cX8_isName 11 = .ok (.ireturn, 1) := by decide +kernel
theorem dX8_isRow_0 : decode cX8_isRow 0 = .ok (.iload_n 1, 1) := by decide +kernel
theorem dX8_isRow_1 : decode cX8_isRow 1 = .ok (.iconst 0, 1) := by decide +kernel
theorem dX8_isRow_2 : decode cX8_isRow 2 = .ok (.aload_n 0, 1) := by decide +kernel
theorem dX8_isRow_3 : decode cX8_isRow 3 = .ok (.getfield 64, 3) := by decide +kernel
theorem dX8_isRow_6 : decode cX8_isRow 6 = .ok (.iconst 1, 1) := by decide +kernel
theorem dX8_isRow_7 : decode cX8_isRow 7 = .ok (.isub, 1) := by decide +kernel
theorem dX8_isRow_8 : decode cX8_isRow 8 = .ok (.invokestatic 60, 3) := by decide +kernel
theorem dX8_isRow_11 : decode cX8_isRow 11 = .ok (.ireturn, 1) := by decide +kernel
theorem dX8_anew_0 : decode cX8_anew 0 = .ok (.iconst 0, 1) := by decide +kernel
theorem dX8_anew_1 : decode cX8_anew 1 = .ok (.istore_n 1, 1) := by decide +kernel
theorem dX8_anew_2 : decode cX8_anew 2 = .ok (.iload_n 1, 1) := by decide +kernel
theorem dX8_anew_3 : decode cX8_anew 3 = .ok (.sipush 512, 3) := by decide +kernel
theorem dX8_anew_6 : decode cX8_anew 6 = .ok (.if_icmp .ge 21, 3) := by decide +kernel
theorem dX8_anew_9 : decode cX8_anew 9 = .ok (.aload_n 0, 1) := by decide +kernel
theorem dX8_anew_10 : decode cX8_anew 10 = .ok (.getfield 13, 3) := by decide +kernel
theorem dX8_anew_13 : decode cX8_anew 13 = .ok (.iload_n 1, 1) := by decide +kernel
theorem dX8_anew_14 : decode cX8_anew 14 = .ok (.aload_n 0, 1) := by decide +kernel
theorem dX8_anew_15 : decode cX8_anew 15 = .ok (.getfield 7, 3) := by decide +kernel
theorem dX8_anew_18 : decode cX8_anew 18 = .ok (.iload_n 1, 1) := by decide +kernel
theorem dX8_anew_19 : decode cX8_anew 19 = .ok (.baload, 1) := by decide +kernel
theorem dX8_anew_20 : decode cX8_anew 20 = .ok (.bastore, 1) := by decide +kernel
theorem dX8_anew_21 : decode cX8_anew 21 = .ok (.iinc 1 1, 3) := by decide +kernel
theorem dX8_anew_24 : decode cX8_anew 24 = .ok (.goto (-22), 3) := by decide +kernel
theorem dX8_anew_27 : decode cX8_anew 27 = .ok (.aload_n 0, 1) := by decide +kernel
theorem dX8_anew_28 : decode cX8_anew 28 = .ok (.iconst 0, 1) := by decide +kernel
theorem dX8_anew_29 : decode cX8_anew 29 = .ok (.putfield 67, 3) := by decide +kernel
theorem dX8_anew_32 : decode cX8_anew 32 = .ok (.aload_n 0, 1) := by decide +kernel
theorem dX8_anew_33 : decode cX8_anew 33 = .ok (.sipush (-1000), 3) := by decide +kernel
theorem dX8_anew_36 : decode cX8_anew 36 = .ok (.putfield 29, 3) := by decide +kernel
theorem dX8_anew_39 : decode cX8_anew 39 = .ok (.aload_n 0, 1) := by decide +kernel
theorem dX8_anew_40 : decode cX8_anew 40 = .ok (.iconst 0, 1) := by decide +kernel
theorem dX8_anew_41 : decode cX8_anew 41 = .ok (.putfield 70, 3) := by decide +kernel
theorem dX8_anew_44 : decode cX8_anew 44 = .ok (.return_, 1) := by decide +kernel
theorem dX8_name_0 : decode cX8_name 0 = .ok (.iload_n 1, 1) := by decide +kernel
theorem dX8_name_1 : decode cX8_name 1 = .ok (.bipush (-32), 2) := by decide +kernel
theorem dX8_name_3 : decode cX8_name 3 = .ok (.bipush 31, 2) := by decide +kernel
theorem dX8_name_5 : decode cX8_name 5 = .ok (.invokestatic 60, 3) := by decide +kernel
theorem dX8_name_8 : decode cX8_name 8 = .ok (.ifCond .eq 13, 3) := by decide +kernel
theorem dX8_name_11 : decode cX8_name 11 = .ok (.iload_n 2, 1) := by decide +kernel
theorem dX8_name_12 : decode cX8_name 12 = .ok (.iload_n 1, 1) := by decide +kernel
theorem dX8_name_13 : decode cX8_name 13 = .ok (.bipush 31, 2) := by decide +kernel
theorem dX8_name_15 : decode cX8_name 15 = .ok (.invokestatic 60, 3) := by decide +kernel
theorem dX8_name_18 : decode cX8_name 18 = .ok (.ifCond .ne 7, 3) := by decide +kernel
theorem dX8_name_21 : decode cX8_name 21 = .ok (.sipush (-1001), 3) := by decide +kernel
theorem dX8_name_24 : decode cX8_name 24 = .ok (.ireturn, 1) := by decide +kernel
theorem dX8_name_25 : decode cX8_name 25 = .ok (.aload_n 0, 1) := by decide +kernel
theorem dX8_name_26 : decode cX8_name 26 = .ok (.getfield 57, 3) := by decide +kernel
theorem dX8_name_29 : decode cX8_name 29 = .ok (.bipush 8, 2) := by decide +kernel
theorem dX8_name_31 : decode cX8_name 31 = .ok (.if_icmp .ne 7, 3) := by decide +kernel
theorem dX8_name_34 : decode cX8_name 34 = .ok (.sipush (-1003), 3) := by decide +kernel
theorem dX8_name_37 : decode cX8_name 37 = .ok (.ireturn, 1) := by decide +kernel
theorem dX8_name_38 : decode cX8_name 38 = .ok (.bipush (-32), 2) := by decide +kernel
theorem dX8_name_40 : decode cX8_name 40 = .ok (.istore_n 3, 1) := by decide +kernel
theorem dX8_name_41 : decode cX8_name 41 = .ok (.iload_n 3, 1) := by decide +kernel
theorem dX8_name_42 : decode cX8_name 42 = .ok (.bipush 31, 2) := by decide +kernel
theorem dX8_name_44 : decode cX8_name 44 = .ok (.if_icmp .gt 32, 3) := by decide +kernel
theorem dX8_name_47 : decode cX8_name 47 = .ok (.aload_n 0, 1) := by decide +kernel
theorem dX8_name_48 : decode cX8_name 48 = .ok (.getfield 7, 3) := by decide +kernel
theorem dX8_name_51 : decode cX8_name 51 = .ok (.bipush 64, 2) := by decide +kernel
theorem dX8_name_53 : decode cX8_name 53 = .ok (.aload_n 0, 1) := by decide +kernel
theorem dX8_name_54 : decode cX8_name 54 = .ok (.getfield 57, 3) := by decide +kernel
theorem dX8_name_57 : decode cX8_name 57 = .ok (.imul, 1) := by decide +kernel
theorem dX8_name_58 : decode cX8_name 58 = .ok (.iload_n 3, 1) := by decide +kernel
theorem dX8_name_59 : decode cX8_name 59 = .ok (.iadd, 1) := by decide +kernel
theorem dX8_name_60 : decode cX8_name 60 = .ok (.bipush 32, 2) := by decide +kernel
theorem dX8_name_62 : decode cX8_name 62 = .ok (.iadd, 1) := by decide +kernel
theorem dX8_name_63 : decode cX8_name 63 = .ok (.iload_n 3, 1) := by decide +kernel
theorem dX8_name_64 : decode cX8_name 64 = .ok (.iload_n 1, 1) := by decide +kernel
theorem dX8_name_65 : decode cX8_name 65 = .ok (.iload_n 2, 1) := by decide +kernel
theorem dX8_name_66 : decode cX8_name 66 = .ok (.invokestatic 60, 3) := by decide +kernel
theorem dX8_name_69 : decode cX8_name 69 = .ok (.bastore, 1) := by decide +kernel
theorem dX8_name_70 : decode cX8_name 70 = .ok (.iinc 3 1, 3) := by decide +kernel
theorem dX8_name_73 : decode cX8_name 73 = .ok (.goto (-32), 3) := by decide +kernel
theorem dX8_name_76 : decode cX8_name 76 = .ok (.iconst 0, 1) := by decide +kernel
theorem dX8_name_77 : decode cX8_name 77 = .ok (.istore_n 3, 1) := by decide +kernel
theorem dX8_name_78 : decode cX8_name 78 = .ok (.iload_n 3, 1) := by decide +kernel
theorem dX8_name_79 : decode cX8_name 79 = .ok (.bipush 12, 2) := by decide +kernel
theorem dX8_name_81 : decode cX8_name 81 = .ok (.if_icmp .ge 24, 3) := by decide +kernel
theorem dX8_name_84 : decode cX8_name 84 = .ok (.aload_n 0, 1) := by decide +kernel
theorem dX8_name_85 : decode cX8_name 85 = .ok (.getfield 26, 3) := by decide +kernel
theorem dX8_name_88 : decode cX8_name 88 = .ok (.bipush 8, 2) := by decide +kernel
theorem dX8_name_90 : decode cX8_name 90 = .ok (.iload_n 3, 1) := by decide +kernel
theorem dX8_name_91 : decode cX8_name 91 = .ok (.imul, 1) := by decide +kernel
theorem dX8_name_92 : decode cX8_name 92 = .ok (.aload_n 0, 1) := by decide +kernel
theorem dX8_name_93 : decode cX8_name 93 = .ok (.getfield 57, 3) := by decide +kernel
theorem dX8_name_96 : decode cX8_name 96 = .ok (.iadd, 1) := by decide +kernel
theorem dX8_name_97 : decode cX8_name 97 = .ok (.iconst 0, 1) := by decide +kernel
theorem dX8_name_98 : decode cX8_name 98 = .ok (.iastore, 1) := by decide +kernel
theorem dX8_name_99 : decode cX8_name 99 = .ok (.iinc 3 1, 3) := by decide +kernel
theorem dX8_name_102 : decode cX8_name 102 = .ok (.goto (-24), 3) := by decide +kernel
theorem dX8_name_105 : decode cX8_name 105 = .ok (.aload_n 0, 1) := by decide +kernel
theorem dX8_name_106 : decode cX8_name 106 = .ok (.dup, 1) := by decide +kernel
theorem dX8_name_107 : decode cX8_name 107 = .ok (.getfield 57, 3) := by decide +kernel
theorem dX8_name_110 : decode cX8_name 110 = .ok (.iconst 1, 1) := by decide +kernel
theorem dX8_name_111 : decode cX8_name 111 = .ok (.iadd, 1) := by decide +kernel
theorem dX8_name_112 : decode cX8_name 112 = .ok (.putfield 57, 3) := by decide +kernel
theorem dX8_name_115 : decode cX8_name 115 = .ok (.aload_n 0, 1) := by decide +kernel
theorem dX8_name_116 : decode cX8_name 116 = .ok (.invokevirtual 73, 3) := by decide +kernel
theorem dX8_name_119 : decode cX8_name 119 = .ok (.aload_n 0, 1) := by decide +kernel
theorem dX8_name_120 : decode cX8_name 120 = .ok (.getfield 57, 3) := by decide +kernel
theorem dX8_name_123 : decode cX8_name 123 = .ok (.iconst 1, 1) := by decide +kernel
theorem dX8_name_124 : decode cX8_name 124 = .ok (.isub, 1) := by decide +kernel
theorem dX8_name_125 : decode cX8_name 125 = .ok (.ireturn, 1) := by decide +kernel
theorem dX8_many_0 : decode cX8_many 0 = .ok (.iconst 0, 1) := by decide +kernel
theorem dX8_many_1 : decode cX8_many 1 = .ok (.istore_n 3, 1) := by decide +kernel
theorem dX8_many_2 : decode cX8_many 2 = .ok (.iconst 0, 1) := by decide +kernel
theorem dX8_many_3 : decode cX8_many 3 = .ok (.istore 4, 2) := by decide +kernel
theorem dX8_many_5 : decode cX8_many 5 = .ok (.iload 4, 2) := by decide +kernel
theorem dX8_many_7 : decode cX8_many 7 = .ok (.bipush 64, 2) := by decide +kernel
theorem dX8_many_9 : decode cX8_many 9 = .ok (.if_icmp .ge 54, 3) := by decide +kernel
theorem dX8_many_12 : decode cX8_many 12 = .ok (.iload_n 3, 1) := by decide +kernel
theorem dX8_many_13 : decode cX8_many 13 = .ok (.iload_n 2, 1) := by decide +kernel
theorem dX8_many_14 : decode cX8_many 14 = .ok (.ifCond .eq 21, 3) := by decide +kernel
theorem dX8_many_17 : decode cX8_many 17 = .ok (.aload_n 0, 1) := by decide +kernel
theorem dX8_many_18 : decode cX8_many 18 = .ok (.getfield 7, 3) := by decide +kernel
theorem dX8_many_21 : decode cX8_many 21 = .ok (.bipush 64, 2) := by decide +kernel
theorem dX8_many_23 : decode cX8_many 23 = .ok (.iload_n 1, 1) := by decide +kernel
theorem dX8_many_24 : decode cX8_many 24 = .ok (.imul, 1) := by decide +kernel
theorem dX8_many_25 : decode cX8_many 25 = .ok (.iload 4, 2) := by decide +kernel
theorem dX8_many_27 : decode cX8_many 27 = .ok (.iadd, 1) := by decide +kernel
theorem dX8_many_28 : decode cX8_many 28 = .ok (.baload, 1) := by decide +kernel
theorem dX8_many_29 : decode cX8_many 29 = .ok (.ifCond .eq 25, 3) := by decide +kernel
theorem dX8_many_32 : decode cX8_many 32 = .ok (.goto 18, 3) := by decide +kernel
theorem dX8_many_35 : decode cX8_many 35 = .ok (.aload_n 0, 1) := by decide +kernel
theorem dX8_many_36 : decode cX8_many 36 = .ok (.getfield 13, 3) := by decide +kernel
theorem dX8_many_39 : decode cX8_many 39 = .ok (.bipush 64, 2) := by decide +kernel
theorem dX8_many_41 : decode cX8_many 41 = .ok (.iload_n 1, 1) := by decide +kernel
theorem dX8_many_42 : decode cX8_many 42 = .ok (.imul, 1) := by decide +kernel
theorem dX8_many_43 : decode cX8_many 43 = .ok (.iload 4, 2) := by decide +kernel
theorem dX8_many_45 : decode cX8_many 45 = .ok (.iadd, 1) := by decide +kernel
theorem dX8_many_46 : decode cX8_many 46 = .ok (.baload, 1) := by decide +kernel
theorem dX8_many_47 : decode cX8_many 47 = .ok (.ifCond .eq 7, 3) := by decide +kernel
theorem dX8_many_50 : decode cX8_many 50 = .ok (.iconst 1, 1) := by decide +kernel
theorem dX8_many_51 : decode cX8_many 51 = .ok (.goto 4, 3) := by decide +kernel
theorem dX8_many_54 : decode cX8_many 54 = .ok (.iconst 0, 1) := by decide +kernel
theorem dX8_many_55 : decode cX8_many 55 = .ok (.iadd, 1) := by decide +kernel
theorem dX8_many_56 : decode cX8_many 56 = .ok (.istore_n 3, 1) := by decide +kernel
theorem dX8_many_57 : decode cX8_many 57 = .ok (.iinc 4 1, 3) := by decide +kernel
theorem dX8_many_60 : decode cX8_many 60 = .ok (.goto (-55), 3) := by decide +kernel
theorem dX8_many_63 : decode cX8_many 63 = .ok (.iload_n 3, 1) := by decide +kernel
theorem dX8_many_64 : decode cX8_many 64 = .ok (.ireturn, 1) := by decide +kernel
theorem dX8_leave_0 : decode cX8_leave 0 = .ok (.aload_n 0, 1) := by decide +kernel
theorem dX8_leave_1 : decode cX8_leave 1 = .ok (.iload_n 1, 1) := by decide +kernel
theorem dX8_leave_2 : decode cX8_leave 2 = .ok (.invokevirtual 76, 3) := by decide +kernel
theorem dX8_leave_5 : decode cX8_leave 5 = .ok (.ifCond .eq 14, 3) := by decide +kernel
theorem dX8_leave_8 : decode cX8_leave 8 = .ok (.iload_n 2, 1) := by decide +kernel
theorem dX8_leave_9 : decode cX8_leave 9 = .ok (.bipush (-32), 2) := by decide +kernel
theorem dX8_leave_11 : decode cX8_leave 11 = .ok (.bipush 31, 2) := by decide +kernel
theorem dX8_leave_13 : decode cX8_leave 13 = .ok (.invokestatic 60, 3) := by decide +kernel
theorem dX8_leave_16 : decode cX8_leave 16 = .ok (.ifCond .ne 7, 3) := by decide +kernel
theorem dX8_leave_19 : decode cX8_leave 19 = .ok (.sipush (-1001), 3) := by decide +kernel
theorem dX8_leave_22 : decode cX8_leave 22 = .ok (.ireturn, 1) := by decide +kernel
theorem dX8_leave_23 : decode cX8_leave 23 = .ok (.aload_n 0, 1) := by decide +kernel
theorem dX8_leave_24 : decode cX8_leave 24 = .ok (.getfield 7, 3) := by decide +kernel
theorem dX8_leave_27 : decode cX8_leave 27 = .ok (.bipush 64, 2) := by decide +kernel
theorem dX8_leave_29 : decode cX8_leave 29 = .ok (.iload_n 1, 1) := by decide +kernel
theorem dX8_leave_30 : decode cX8_leave 30 = .ok (.imul, 1) := by decide +kernel
theorem dX8_leave_31 : decode cX8_leave 31 = .ok (.iload_n 2, 1) := by decide +kernel
theorem dX8_leave_32 : decode cX8_leave 32 = .ok (.iadd, 1) := by decide +kernel
theorem dX8_leave_33 : decode cX8_leave 33 = .ok (.bipush 32, 2) := by decide +kernel
theorem dX8_leave_35 : decode cX8_leave 35 = .ok (.iadd, 1) := by decide +kernel
theorem dX8_leave_36 : decode cX8_leave 36 = .ok (.baload, 1) := by decide +kernel
theorem dX8_leave_37 : decode cX8_leave 37 = .ok (.istore_n 3, 1) := by decide +kernel
theorem dX8_leave_38 : decode cX8_leave 38 = .ok (.iload_n 3, 1) := by decide +kernel
theorem dX8_leave_39 : decode cX8_leave 39 = .ok (.ifCond .eq 17, 3) := by decide +kernel
theorem dX8_leave_42 : decode cX8_leave 42 = .ok (.aload_n 0, 1) := by decide +kernel
theorem dX8_leave_43 : decode cX8_leave 43 = .ok (.iload_n 1, 1) := by decide +kernel
theorem dX8_leave_44 : decode cX8_leave 44 = .ok (.iconst 1, 1) := by decide +kernel
theorem dX8_leave_45 : decode cX8_leave 45 = .ok (.invokevirtual 80, 3) := by decide +kernel
theorem dX8_leave_48 : decode cX8_leave 48 = .ok (.iconst 1, 1) := by decide +kernel
theorem dX8_leave_49 : decode cX8_leave 49 = .ok (.if_icmp .ne 7, 3) := by decide +kernel
theorem dX8_leave_52 : decode cX8_leave 52 = .ok (.sipush (-1002), 3) := by decide +kernel
theorem dX8_leave_55 : decode cX8_leave 55 = .ok (.ireturn, 1) := by decide +kernel
theorem dX8_leave_56 : decode cX8_leave 56 = .ok (.aload_n 0, 1) := by decide +kernel
theorem dX8_leave_57 : decode cX8_leave 57 = .ok (.getfield 7, 3) := by decide +kernel
theorem dX8_leave_60 : decode cX8_leave 60 = .ok (.bipush 64, 2) := by decide +kernel
theorem dX8_leave_62 : decode cX8_leave 62 = .ok (.iload_n 1, 1) := by decide +kernel
theorem dX8_leave_63 : decode cX8_leave 63 = .ok (.imul, 1) := by decide +kernel
theorem dX8_leave_64 : decode cX8_leave 64 = .ok (.iload_n 2, 1) := by decide +kernel
theorem dX8_leave_65 : decode cX8_leave 65 = .ok (.iadd, 1) := by decide +kernel
theorem dX8_leave_66 : decode cX8_leave 66 = .ok (.bipush 32, 2) := by decide +kernel
theorem dX8_leave_68 : decode cX8_leave 68 = .ok (.iadd, 1) := by decide +kernel
theorem dX8_leave_69 : decode cX8_leave 69 = .ok (.iconst 0, 1) := by decide +kernel
theorem dX8_leave_70 : decode cX8_leave 70 = .ok (.bastore, 1) := by decide +kernel
theorem dX8_leave_71 : decode cX8_leave 71 = .ok (.aload_n 0, 1) := by decide +kernel
theorem dX8_leave_72 : decode cX8_leave 72 = .ok (.invokevirtual 73, 3) := by decide +kernel
theorem dX8_leave_75 : decode cX8_leave 75 = .ok (.iload_n 3, 1) := by decide +kernel
theorem dX8_leave_76 : decode cX8_leave 76 = .ok (.ifCond .eq 7, 3) := by decide +kernel
theorem dX8_leave_79 : decode cX8_leave 79 = .ok (.iconst 1, 1) := by decide +kernel
theorem dX8_leave_80 : decode cX8_leave 80 = .ok (.goto 4, 3) := by decide +kernel
theorem dX8_leave_83 : decode cX8_leave 83 = .ok (.iconst 0, 1) := by decide +kernel
theorem dX8_leave_84 : decode cX8_leave 84 = .ok (.ireturn, 1) := by decide +kernel
theorem dX8_owns_0 : decode cX8_owns 0 = .ok (.iload_n 0, 1) := by decide +kernel
theorem dX8_owns_1 : decode cX8_owns 1 = .ok (.iconst 2, 1) := by decide +kernel
theorem dX8_owns_2 : decode cX8_owns 2 = .ok (.if_icmp .ge 7, 3) := by decide +kernel
theorem dX8_owns_5 : decode cX8_owns 5 = .ok (.iconst 0, 1) := by decide +kernel
theorem dX8_owns_6 : decode cX8_owns 6 = .ok (.goto 35, 3) := by decide +kernel
theorem dX8_owns_9 : decode cX8_owns 9 = .ok (.iload_n 0, 1) := by decide +kernel
theorem dX8_owns_10 : decode cX8_owns 10 = .ok (.iconst 4, 1) := by decide +kernel
theorem dX8_owns_11 : decode cX8_owns 11 = .ok (.if_icmp .eq 9, 3) := by decide +kernel
theorem dX8_owns_14 : decode cX8_owns 14 = .ok (.iload_n 0, 1) := by decide +kernel
theorem dX8_owns_15 : decode cX8_owns 15 = .ok (.bipush 7, 2) := by decide +kernel
theorem dX8_owns_17 : decode cX8_owns 17 = .ok (.if_icmp .ne 7, 3) := by decide +kernel
theorem dX8_owns_20 : decode cX8_owns 20 = .ok (.iconst 2, 1) := by decide +kernel
theorem dX8_owns_21 : decode cX8_owns 21 = .ok (.goto 20, 3) := by decide +kernel
theorem dX8_owns_24 : decode cX8_owns 24 = .ok (.iload_n 0, 1) := by decide +kernel
theorem dX8_owns_25 : decode cX8_owns 25 = .ok (.bipush 8, 2) := by decide +kernel
theorem dX8_owns_27 : decode cX8_owns 27 = .ok (.if_icmp .eq 9, 3) := by decide +kernel
theorem dX8_owns_30 : decode cX8_owns 30 = .ok (.iload_n 0, 1) := by decide +kernel
theorem dX8_owns_31 : decode cX8_owns 31 = .ok (.bipush 9, 2) := by decide +kernel
theorem dX8_owns_33 : decode cX8_owns 33 = .ok (.if_icmp .ne 7, 3) := by decide +kernel
theorem dX8_owns_36 : decode cX8_owns 36 = .ok (.iconst 1, 1) := by decide +kernel
theorem dX8_owns_37 : decode cX8_owns 37 = .ok (.goto 4, 3) := by decide +kernel
theorem dX8_owns_40 : decode cX8_owns 40 = .ok (.iconst 3, 1) := by decide +kernel
theorem dX8_owns_41 : decode cX8_owns 41 = .ok (.ireturn, 1) := by decide +kernel
theorem dX8_hasFactors_0 : decode cX8_hasFactors 0 = .ok (.iload_n 0, 1) := by decide +kernel
theorem dX8_hasFactors_1 : decode cX8_hasFactors 1 = .ok (.iconst 2, 1) := by decide +kernel
theorem dX8_hasFactors_2 : decode cX8_hasFactors 2 = .ok (.if_icmp .lt 9, 3) := by decide +kernel
theorem dX8_hasFactors_5 : decode cX8_hasFactors 5 = .ok (.iload_n 0, 1) := by decide +kernel
theorem dX8_hasFactors_6 : decode cX8_hasFactors 6 = .ok (.bipush 7, 2) := by decide +kernel
theorem dX8_hasFactors_8 : decode cX8_hasFactors 8 = .ok (.if_icmp .le 7, 3) := by decide +kernel
theorem dX8_hasFactors_11 : decode cX8_hasFactors 11 = .ok (.iconst 1, 1) := by decide +kernel
theorem dX8_hasFactors_12 : decode cX8_hasFactors 12 = .ok (.goto 4, 3) := by decide +kernel
theorem dX8_hasFactors_15 : decode cX8_hasFactors 15 = .ok (.iconst 0, 1) := by decide +kernel
theorem dX8_hasFactors_16 : decode cX8_hasFactors 16 = .ok (.ireturn, 1) := by decide +kernel
end
section
theorem dX8_row_0 : decode cX8_row 0 = .ok (.iload_n 1, 1) := by decide +kernel
theorem dX8_row_1 : decode cX8_row 1 = .ok (.iconst 0, 1) := by decide +kernel
theorem dX8_row_2 : decode cX8_row 2 = .ok (.bipush 9, 2) := by decide +kernel
theorem dX8_row_4 : decode cX8_row 4 = .ok (.invokestatic 60, 3) := by decide +kernel
theorem dX8_row_7 : decode cX8_row 7 = .ok (.ifCond .eq 17, 3) := by decide +kernel
theorem dX8_row_10 : decode cX8_row 10 = .ok (.iload 5, 2) := by decide +kernel
theorem dX8_row_12 : decode cX8_row 12 = .ok (.sipush (-1000), 3) := by decide +kernel
theorem dX8_row_15 : decode cX8_row 15 = .ok (.sipush 1000, 3) := by decide +kernel
theorem dX8_row_18 : decode cX8_row 18 = .ok (.invokestatic 60, 3) := by decide +kernel
theorem dX8_row_21 : decode cX8_row 21 = .ok (.ifCond .ne 7, 3) := by decide +kernel
theorem dX8_row_24 : decode cX8_row 24 = .ok (.sipush (-1001), 3) := by decide +kernel
theorem dX8_row_27 : decode cX8_row 27 = .ok (.ireturn, 1) := by decide +kernel
theorem dX8_row_28 : decode cX8_row 28 = .ok (.iload_n 1, 1) := by decide +kernel
theorem dX8_row_29 : decode cX8_row 29 = .ok (.invokestatic 84, 3) := by decide +kernel
theorem dX8_row_32 : decode cX8_row 32 = .ok (.istore 6, 2) := by decide +kernel
theorem dX8_row_34 : decode cX8_row 34 = .ok (.iload 6, 2) := by decide +kernel
theorem dX8_row_36 : decode cX8_row 36 = .ok (.iconst 1, 1) := by decide +kernel
theorem dX8_row_37 : decode cX8_row 37 = .ok (.if_icmp .lt 11, 3) := by decide +kernel
theorem dX8_row_40 : decode cX8_row 40 = .ok (.aload_n 0, 1) := by decide +kernel
theorem dX8_row_41 : decode cX8_row 41 = .ok (.iload_n 2, 1) := by decide +kernel
theorem dX8_row_42 : decode cX8_row 42 = .ok (.invokevirtual 76, 3) := by decide +kernel
theorem dX8_row_45 : decode cX8_row 45 = .ok (.ifCond .eq 53, 3) := by decide +kernel
theorem dX8_row_48 : decode cX8_row 48 = .ok (.iload 6, 2) := by decide +kernel
theorem dX8_row_50 : decode cX8_row 50 = .ok (.iconst 2, 1) := by decide +kernel
theorem dX8_row_51 : decode cX8_row 51 = .ok (.if_icmp .lt 16, 3) := by decide +kernel
theorem dX8_row_54 : decode cX8_row 54 = .ok (.aload_n 0, 1) := by decide +kernel
theorem dX8_row_55 : decode cX8_row 55 = .ok (.iload_n 3, 1) := by decide +kernel
theorem dX8_row_56 : decode cX8_row 56 = .ok (.invokevirtual 76, 3) := by decide +kernel
theorem dX8_row_59 : decode cX8_row 59 = .ok (.ifCond .eq 39, 3) := by decide +kernel
theorem dX8_row_62 : decode cX8_row 62 = .ok (.iload_n 2, 1) := by decide +kernel
theorem dX8_row_63 : decode cX8_row 63 = .ok (.iload_n 3, 1) := by decide +kernel
theorem dX8_row_64 : decode cX8_row 64 = .ok (.if_icmp .eq 34, 3) := by decide +kernel
theorem dX8_row_67 : decode cX8_row 67 = .ok (.iload 6, 2) := by decide +kernel
theorem dX8_row_69 : decode cX8_row 69 = .ok (.iconst 3, 1) := by decide +kernel
theorem dX8_row_70 : decode cX8_row 70 = .ok (.if_icmp .lt 24, 3) := by decide +kernel
theorem dX8_row_73 : decode cX8_row 73 = .ok (.aload_n 0, 1) := by decide +kernel
theorem dX8_row_74 : decode cX8_row 74 = .ok (.iload 4, 2) := by decide +kernel
theorem dX8_row_76 : decode cX8_row 76 = .ok (.invokevirtual 76, 3) := by decide +kernel
theorem dX8_row_79 : decode cX8_row 79 = .ok (.ifCond .eq 19, 3) := by decide +kernel
theorem dX8_row_82 : decode cX8_row 82 = .ok (.iload 4, 2) := by decide +kernel
theorem dX8_row_84 : decode cX8_row 84 = .ok (.iload_n 2, 1) := by decide +kernel
theorem dX8_row_85 : decode cX8_row 85 = .ok (.if_icmp .eq 13, 3) := by decide +kernel
theorem dX8_row_88 : decode cX8_row 88 = .ok (.iload 4, 2) := by decide +kernel
theorem dX8_row_90 : decode cX8_row 90 = .ok (.iload_n 3, 1) := by decide +kernel
theorem dX8_row_91 : decode cX8_row 91 = .ok (.if_icmp .eq 7, 3) := by decide +kernel
theorem dX8_row_94 : decode cX8_row 94 = .ok (.iconst 1, 1) := by decide +kernel
theorem dX8_row_95 : decode cX8_row 95 = .ok (.goto 4, 3) := by decide +kernel
theorem dX8_row_98 : decode cX8_row 98 = .ok (.iconst 0, 1) := by decide +kernel
theorem dX8_row_99 : decode cX8_row 99 = .ok (.istore 7, 2) := by decide +kernel
theorem dX8_row_101 : decode cX8_row 101 = .ok (.iload 7, 2) := by decide +kernel
theorem dX8_row_103 : decode cX8_row 103 = .ok (.ifCond .ne 7, 3) := by decide +kernel
theorem dX8_row_106 : decode cX8_row 106 = .ok (.sipush (-1001), 3) := by decide +kernel
theorem dX8_row_109 : decode cX8_row 109 = .ok (.ireturn, 1) := by decide +kernel
theorem dX8_row_110 : decode cX8_row 110 = .ok (.aload_n 0, 1) := by decide +kernel
theorem dX8_row_111 : decode cX8_row 111 = .ok (.getfield 64, 3) := by decide +kernel
theorem dX8_row_114 : decode cX8_row 114 = .ok (.bipush 12, 2) := by decide +kernel
theorem dX8_row_116 : decode cX8_row 116 = .ok (.if_icmp .ne 7, 3) := by decide +kernel
theorem dX8_row_119 : decode cX8_row 119 = .ok (.sipush (-1003), 3) := by decide +kernel
theorem dX8_row_122 : decode cX8_row 122 = .ok (.ireturn, 1) := by decide +kernel
theorem dX8_row_123 : decode cX8_row 123 = .ok (.aload_n 0, 1) := by decide +kernel
theorem dX8_row_124 : decode cX8_row 124 = .ok (.getfield 16, 3) := by decide +kernel
theorem dX8_row_127 : decode cX8_row 127 = .ok (.aload_n 0, 1) := by decide +kernel
theorem dX8_row_128 : decode cX8_row 128 = .ok (.getfield 64, 3) := by decide +kernel
theorem dX8_row_131 : decode cX8_row 131 = .ok (.iload_n 1, 1) := by decide +kernel
theorem dX8_row_132 : decode cX8_row 132 = .ok (.iastore, 1) := by decide +kernel
theorem dX8_row_133 : decode cX8_row 133 = .ok (.aload_n 0, 1) := by decide +kernel
theorem dX8_row_134 : decode cX8_row 134 = .ok (.getfield 20, 3) := by decide +kernel
theorem dX8_row_137 : decode cX8_row 137 = .ok (.iconst 3, 1) := by decide +kernel
theorem dX8_row_138 : decode cX8_row 138 = .ok (.aload_n 0, 1) := by decide +kernel
theorem dX8_row_139 : decode cX8_row 139 = .ok (.getfield 64, 3) := by decide +kernel
theorem dX8_row_142 : decode cX8_row 142 = .ok (.imul, 1) := by decide +kernel
theorem dX8_row_143 : decode cX8_row 143 = .ok (.iload 6, 2) := by decide +kernel
theorem dX8_row_145 : decode cX8_row 145 = .ok (.ifCond .le 7, 3) := by decide +kernel
theorem dX8_row_148 : decode cX8_row 148 = .ok (.iload_n 2, 1) := by decide +kernel
theorem dX8_row_149 : decode cX8_row 149 = .ok (.goto 6, 3) := by decide +kernel
theorem dX8_row_152 : decode cX8_row 152 = .ok (.sipush (-1000), 3) := by decide +kernel
theorem dX8_row_155 : decode cX8_row 155 = .ok (.iastore, 1) := by decide +kernel
theorem dX8_row_156 : decode cX8_row 156 = .ok (.aload_n 0, 1) := by decide +kernel
theorem dX8_row_157 : decode cX8_row 157 = .ok (.getfield 20, 3) := by decide +kernel
theorem dX8_row_160 : decode cX8_row 160 = .ok (.iconst 3, 1) := by decide +kernel
theorem dX8_row_161 : decode cX8_row 161 = .ok (.aload_n 0, 1) := by decide +kernel
theorem dX8_row_162 : decode cX8_row 162 = .ok (.getfield 64, 3) := by decide +kernel
theorem dX8_row_165 : decode cX8_row 165 = .ok (.imul, 1) := by decide +kernel
theorem dX8_row_166 : decode cX8_row 166 = .ok (.iconst 1, 1) := by decide +kernel
theorem dX8_row_167 : decode cX8_row 167 = .ok (.iadd, 1) := by decide +kernel
theorem dX8_row_168 : decode cX8_row 168 = .ok (.iload 6, 2) := by decide +kernel
theorem dX8_row_170 : decode cX8_row 170 = .ok (.iconst 1, 1) := by decide +kernel
theorem dX8_row_171 : decode cX8_row 171 = .ok (.if_icmp .le 7, 3) := by decide +kernel
theorem dX8_row_174 : decode cX8_row 174 = .ok (.iload_n 3, 1) := by decide +kernel
theorem dX8_row_175 : decode cX8_row 175 = .ok (.goto 6, 3) := by decide +kernel
theorem dX8_row_178 : decode cX8_row 178 = .ok (.sipush (-1000), 3) := by decide +kernel
theorem dX8_row_181 : decode cX8_row 181 = .ok (.iastore, 1) := by decide +kernel
theorem dX8_row_182 : decode cX8_row 182 = .ok (.aload_n 0, 1) := by decide +kernel
theorem dX8_row_183 : decode cX8_row 183 = .ok (.getfield 20, 3) := by decide +kernel
theorem dX8_row_186 : decode cX8_row 186 = .ok (.iconst 3, 1) := by decide +kernel
theorem dX8_row_187 : decode cX8_row 187 = .ok (.aload_n 0, 1) := by decide +kernel
theorem dX8_row_188 : decode cX8_row 188 = .ok (.getfield 64, 3) := by decide +kernel
theorem dX8_row_191 : decode cX8_row 191 = .ok (.imul, 1) := by decide +kernel
theorem dX8_row_192 : decode cX8_row 192 = .ok (.iconst 2, 1) := by decide +kernel
theorem dX8_row_193 : decode cX8_row 193 = .ok (.iadd, 1) := by decide +kernel
theorem dX8_row_194 : decode cX8_row 194 = .ok (.iload 6, 2) := by decide +kernel
theorem dX8_row_196 : decode cX8_row 196 = .ok (.iconst 2, 1) := by decide +kernel
theorem dX8_row_197 : decode cX8_row 197 = .ok (.if_icmp .le 8, 3) := by decide +kernel
theorem dX8_row_200 : decode cX8_row 200 = .ok (.iload 4, 2) := by decide +kernel
theorem dX8_row_202 : decode cX8_row 202 = .ok (.goto 6, 3) := by decide +kernel
theorem dX8_row_205 : decode cX8_row 205 = .ok (.sipush (-1000), 3) := by decide +kernel
theorem dX8_row_208 : decode cX8_row 208 = .ok (.iastore, 1) := by decide +kernel
theorem dX8_row_209 : decode cX8_row 209 = .ok (.aload_n 0, 1) := by decide +kernel
theorem dX8_row_210 : decode cX8_row 210 = .ok (.getfield 23, 3) := by decide +kernel
theorem dX8_row_213 : decode cX8_row 213 = .ok (.aload_n 0, 1) := by decide +kernel
theorem dX8_row_214 : decode cX8_row 214 = .ok (.getfield 64, 3) := by decide +kernel
theorem dX8_row_217 : decode cX8_row 217 = .ok (.iload 5, 2) := by decide +kernel
theorem dX8_row_219 : decode cX8_row 219 = .ok (.iastore, 1) := by decide +kernel
theorem dX8_row_220 : decode cX8_row 220 = .ok (.iconst 0, 1) := by decide +kernel
theorem dX8_row_221 : decode cX8_row 221 = .ok (.istore 8, 2) := by decide +kernel
theorem dX8_row_223 : decode cX8_row 223 = .ok (.iload 8, 2) := by decide +kernel
theorem dX8_row_225 : decode cX8_row 225 = .ok (.bipush 8, 2) := by decide +kernel
theorem dX8_row_227 : decode cX8_row 227 = .ok (.if_icmp .ge 25, 3) := by decide +kernel
theorem dX8_row_230 : decode cX8_row 230 = .ok (.aload_n 0, 1) := by decide +kernel
theorem dX8_row_231 : decode cX8_row 231 = .ok (.getfield 26, 3) := by decide +kernel
theorem dX8_row_234 : decode cX8_row 234 = .ok (.bipush 8, 2) := by decide +kernel
theorem dX8_row_236 : decode cX8_row 236 = .ok (.aload_n 0, 1) := by decide +kernel
theorem dX8_row_237 : decode cX8_row 237 = .ok (.getfield 64, 3) := by decide +kernel
theorem dX8_row_240 : decode cX8_row 240 = .ok (.imul, 1) := by decide +kernel
theorem dX8_row_241 : decode cX8_row 241 = .ok (.iload 8, 2) := by decide +kernel
theorem dX8_row_243 : decode cX8_row 243 = .ok (.iadd, 1) := by decide +kernel
theorem dX8_row_244 : decode cX8_row 244 = .ok (.iconst 0, 1) := by decide +kernel
theorem dX8_row_245 : decode cX8_row 245 = .ok (.iastore, 1) := by decide +kernel
theorem dX8_row_246 : decode cX8_row 246 = .ok (.iinc 8 1, 3) := by decide +kernel
theorem dX8_row_249 : decode cX8_row 249 = .ok (.goto (-26), 3) := by decide +kernel
theorem dX8_row_252 : decode cX8_row 252 = .ok (.aload_n 0, 1) := by decide +kernel
theorem dX8_row_253 : decode cX8_row 253 = .ok (.dup, 1) := by decide +kernel
theorem dX8_row_254 : decode cX8_row 254 = .ok (.getfield 64, 3) := by decide +kernel
theorem dX8_row_257 : decode cX8_row 257 = .ok (.iconst 1, 1) := by decide +kernel
theorem dX8_row_258 : decode cX8_row 258 = .ok (.iadd, 1) := by decide +kernel
theorem dX8_row_259 : decode cX8_row 259 = .ok (.putfield 64, 3) := by decide +kernel
theorem dX8_row_262 : decode cX8_row 262 = .ok (.aload_n 0, 1) := by decide +kernel
theorem dX8_row_263 : decode cX8_row 263 = .ok (.invokevirtual 73, 3) := by decide +kernel
theorem dX8_row_266 : decode cX8_row 266 = .ok (.aload_n 0, 1) := by decide +kernel
theorem dX8_row_267 : decode cX8_row 267 = .ok (.getfield 64, 3) := by decide +kernel
theorem dX8_row_270 : decode cX8_row 270 = .ok (.iconst 1, 1) := by decide +kernel
theorem dX8_row_271 : decode cX8_row 271 = .ok (.isub, 1) := by decide +kernel
theorem dX8_row_272 : decode cX8_row 272 = .ok (.ireturn, 1) := by decide +kernel
theorem dX8_factor_0 : decode cX8_factor 0 = .ok (.aload_n 0, 1) := by decide +kernel
theorem dX8_factor_1 : decode cX8_factor 1 = .ok (.iload_n 1, 1) := by decide +kernel
theorem dX8_factor_2 : decode cX8_factor 2 = .ok (.invokevirtual 88, 3) := by decide +kernel
theorem dX8_factor_5 : decode cX8_factor 5 = .ok (.ifCond .eq 22, 3) := by decide +kernel
theorem dX8_factor_8 : decode cX8_factor 8 = .ok (.aload_n 0, 1) := by decide +kernel
theorem dX8_factor_9 : decode cX8_factor 9 = .ok (.iload_n 2, 1) := by decide +kernel
theorem dX8_factor_10 : decode cX8_factor 10 = .ok (.invokevirtual 76, 3) := by decide +kernel
theorem dX8_factor_13 : decode cX8_factor 13 = .ok (.ifCond .eq 14, 3) := by decide +kernel
theorem dX8_factor_16 : decode cX8_factor 16 = .ok (.iload_n 3, 1) := by decide +kernel
theorem dX8_factor_17 : decode cX8_factor 17 = .ok (.bipush (-9), 2) := by decide +kernel
theorem dX8_factor_19 : decode cX8_factor 19 = .ok (.bipush 9, 2) := by decide +kernel
theorem dX8_factor_21 : decode cX8_factor 21 = .ok (.invokestatic 60, 3) := by decide +kernel
theorem dX8_factor_24 : decode cX8_factor 24 = .ok (.ifCond .ne 7, 3) := by decide +kernel
theorem dX8_factor_27 : decode cX8_factor 27 = .ok (.sipush (-1001), 3) := by decide +kernel
theorem dX8_factor_30 : decode cX8_factor 30 = .ok (.ireturn, 1) := by decide +kernel
theorem dX8_factor_31 : decode cX8_factor 31 = .ok (.aload_n 0, 1) := by decide +kernel
theorem dX8_factor_32 : decode cX8_factor 32 = .ok (.getfield 16, 3) := by decide +kernel
theorem dX8_factor_35 : decode cX8_factor 35 = .ok (.iload_n 1, 1) := by decide +kernel
theorem dX8_factor_36 : decode cX8_factor 36 = .ok (.iaload, 1) := by decide +kernel
theorem dX8_factor_37 : decode cX8_factor 37 = .ok (.invokestatic 91, 3) := by decide +kernel
theorem dX8_factor_40 : decode cX8_factor 40 = .ok (.ifCond .eq 15, 3) := by decide +kernel
theorem dX8_factor_43 : decode cX8_factor 43 = .ok (.aload_n 0, 1) := by decide +kernel
theorem dX8_factor_44 : decode cX8_factor 44 = .ok (.getfield 20, 3) := by decide +kernel
theorem dX8_factor_47 : decode cX8_factor 47 = .ok (.iconst 3, 1) := by decide +kernel
theorem dX8_factor_48 : decode cX8_factor 48 = .ok (.iload_n 1, 1) := by decide +kernel
theorem dX8_factor_49 : decode cX8_factor 49 = .ok (.imul, 1) := by decide +kernel
theorem dX8_factor_50 : decode cX8_factor 50 = .ok (.iaload, 1) := by decide +kernel
theorem dX8_factor_51 : decode cX8_factor 51 = .ok (.iload_n 2, 1) := by decide +kernel
theorem dX8_factor_52 : decode cX8_factor 52 = .ok (.if_icmp .ne 7, 3) := by decide +kernel
theorem dX8_factor_55 : decode cX8_factor 55 = .ok (.sipush (-1002), 3) := by decide +kernel
theorem dX8_factor_58 : decode cX8_factor 58 = .ok (.ireturn, 1) := by decide +kernel
theorem dX8_factor_59 : decode cX8_factor 59 = .ok (.aload_n 0, 1) := by decide +kernel
theorem dX8_factor_60 : decode cX8_factor 60 = .ok (.getfield 26, 3) := by decide +kernel
theorem dX8_factor_63 : decode cX8_factor 63 = .ok (.bipush 8, 2) := by decide +kernel
theorem dX8_factor_65 : decode cX8_factor 65 = .ok (.iload_n 1, 1) := by decide +kernel
theorem dX8_factor_66 : decode cX8_factor 66 = .ok (.imul, 1) := by decide +kernel
theorem dX8_factor_67 : decode cX8_factor 67 = .ok (.iload_n 2, 1) := by decide +kernel
theorem dX8_factor_68 : decode cX8_factor 68 = .ok (.iadd, 1) := by decide +kernel
theorem dX8_factor_69 : decode cX8_factor 69 = .ok (.iaload, 1) := by decide +kernel
theorem dX8_factor_70 : decode cX8_factor 70 = .ok (.istore 4, 2) := by decide +kernel
theorem dX8_factor_72 : decode cX8_factor 72 = .ok (.aload_n 0, 1) := by decide +kernel
theorem dX8_factor_73 : decode cX8_factor 73 = .ok (.getfield 26, 3) := by decide +kernel
theorem dX8_factor_76 : decode cX8_factor 76 = .ok (.bipush 8, 2) := by decide +kernel
theorem dX8_factor_78 : decode cX8_factor 78 = .ok (.iload_n 1, 1) := by decide +kernel
theorem dX8_factor_79 : decode cX8_factor 79 = .ok (.imul, 1) := by decide +kernel
theorem dX8_factor_80 : decode cX8_factor 80 = .ok (.iload_n 2, 1) := by decide +kernel
theorem dX8_factor_81 : decode cX8_factor 81 = .ok (.iadd, 1) := by decide +kernel
theorem dX8_factor_82 : decode cX8_factor 82 = .ok (.iload_n 3, 1) := by decide +kernel
theorem dX8_factor_83 : decode cX8_factor 83 = .ok (.iastore, 1) := by decide +kernel
theorem dX8_factor_84 : decode cX8_factor 84 = .ok (.aload_n 0, 1) := by decide +kernel
theorem dX8_factor_85 : decode cX8_factor 85 = .ok (.invokevirtual 73, 3) := by decide +kernel
theorem dX8_factor_88 : decode cX8_factor 88 = .ok (.iload 4, 2) := by decide +kernel
theorem dX8_factor_90 : decode cX8_factor 90 = .ok (.ireturn, 1) := by decide +kernel
theorem dX8_clear_0 : decode cX8_clear 0 = .ok (.aload_n 0, 1) := by decide +kernel
theorem dX8_clear_1 : decode cX8_clear 1 = .ok (.getfield 57, 3) := by decide +kernel
theorem dX8_clear_4 : decode cX8_clear 4 = .ok (.istore_n 1, 1) := by decide +kernel
theorem dX8_clear_5 : decode cX8_clear 5 = .ok (.aload_n 0, 1) := by decide +kernel
theorem dX8_clear_6 : decode cX8_clear 6 = .ok (.iconst 0, 1) := by decide +kernel
theorem dX8_clear_7 : decode cX8_clear 7 = .ok (.putfield 57, 3) := by decide +kernel
theorem dX8_clear_10 : decode cX8_clear 10 = .ok (.aload_n 0, 1) := by decide +kernel
theorem dX8_clear_11 : decode cX8_clear 11 = .ok (.iconst 0, 1) := by decide +kernel
theorem dX8_clear_12 : decode cX8_clear 12 = .ok (.putfield 64, 3) := by decide +kernel
theorem dX8_clear_15 : decode cX8_clear 15 = .ok (.aload_n 0, 1) := by decide +kernel
theorem dX8_clear_16 : decode cX8_clear 16 = .ok (.invokevirtual 73, 3) := by decide +kernel
theorem dX8_clear_19 : decode cX8_clear 19 = .ok (.iload_n 1, 1) := by decide +kernel
theorem dX8_clear_20 : decode cX8_clear 20 = .ok (.ireturn, 1) := by decide +kernel
theorem dX8_may_0 : decode cX8_may 0 = .ok (.iload_n 2, 1) := by decide +kernel
theorem dX8_may_1 : decode cX8_may 1 = .ok (.aload_n 0, 1) := by decide +kernel
theorem dX8_may_2 : decode cX8_may 2 = .ok (.getfield 51, 3) := by decide +kernel
theorem dX8_may_5 : decode cX8_may 5 = .ok (.iload_n 1, 1) := by decide +kernel
theorem dX8_may_6 : decode cX8_may 6 = .ok (.iaload, 1) := by decide +kernel
theorem dX8_may_7 : decode cX8_may 7 = .ok (.aload_n 0, 1) := by decide +kernel
theorem dX8_may_8 : decode cX8_may 8 = .ok (.getfield 54, 3) := by decide +kernel
theorem dX8_may_11 : decode cX8_may 11 = .ok (.iload_n 1, 1) := by decide +kernel
theorem dX8_may_12 : decode cX8_may 12 = .ok (.iaload, 1) := by decide +kernel
theorem dX8_may_13 : decode cX8_may 13 = .ok (.invokestatic 60, 3) := by decide +kernel
theorem dX8_may_16 : decode cX8_may 16 = .ok (.ireturn, 1) := by decide +kernel
theorem dX8_leastSum_0 : decode cX8_leastSum 0 = .ok (.iconst 0, 1) := by decide +kernel
theorem dX8_leastSum_1 : decode cX8_leastSum 1 = .ok (.istore_n 3, 1) := by decide +kernel
theorem dX8_leastSum_2 : decode cX8_leastSum 2 = .ok (.iconst 0, 1) := by decide +kernel
theorem dX8_leastSum_3 : decode cX8_leastSum 3 = .ok (.istore 4, 2) := by decide +kernel
theorem dX8_leastSum_5 : decode cX8_leastSum 5 = .ok (.iload 4, 2) := by decide +kernel
theorem dX8_leastSum_7 : decode cX8_leastSum 7 = .ok (.aload_n 0, 1) := by decide +kernel
theorem dX8_leastSum_8 : decode cX8_leastSum 8 = .ok (.getfield 57, 3) := by decide +kernel
theorem dX8_leastSum_11 : decode cX8_leastSum 11 = .ok (.if_icmp .ge 56, 3) := by decide +kernel
theorem dX8_leastSum_14 : decode cX8_leastSum 14 = .ok (.iload_n 2, 1) := by decide +kernel
theorem dX8_leastSum_15 : decode cX8_leastSum 15 = .ok (.aload_n 0, 1) := by decide +kernel
theorem dX8_leastSum_16 : decode cX8_leastSum 16 = .ok (.getfield 26, 3) := by decide +kernel
theorem dX8_leastSum_19 : decode cX8_leastSum 19 = .ok (.bipush 8, 2) := by decide +kernel
theorem dX8_leastSum_21 : decode cX8_leastSum 21 = .ok (.iload_n 1, 1) := by decide +kernel
theorem dX8_leastSum_22 : decode cX8_leastSum 22 = .ok (.imul, 1) := by decide +kernel
theorem dX8_leastSum_23 : decode cX8_leastSum 23 = .ok (.iload 4, 2) := by decide +kernel
theorem dX8_leastSum_25 : decode cX8_leastSum 25 = .ok (.iadd, 1) := by decide +kernel
theorem dX8_leastSum_26 : decode cX8_leastSum 26 = .ok (.iaload, 1) := by decide +kernel
theorem dX8_leastSum_27 : decode cX8_leastSum 27 = .ok (.imul, 1) := by decide +kernel
theorem dX8_leastSum_28 : decode cX8_leastSum 28 = .ok (.istore 5, 2) := by decide +kernel
theorem dX8_leastSum_30 : decode cX8_leastSum 30 = .ok (.iload_n 3, 1) := by decide +kernel
theorem dX8_leastSum_31 : decode cX8_leastSum 31 = .ok (.iload 5, 2) := by decide +kernel
theorem dX8_leastSum_33 : decode cX8_leastSum 33 = .ok (.ifCond .le 16, 3) := by decide +kernel
theorem dX8_leastSum_36 : decode cX8_leastSum 36 = .ok (.iload 5, 2) := by decide +kernel
theorem dX8_leastSum_38 : decode cX8_leastSum 38 = .ok (.aload_n 0, 1) := by decide +kernel
theorem dX8_leastSum_39 : decode cX8_leastSum 39 = .ok (.getfield 51, 3) := by decide +kernel
theorem dX8_leastSum_42 : decode cX8_leastSum 42 = .ok (.iload 4, 2) := by decide +kernel
theorem dX8_leastSum_44 : decode cX8_leastSum 44 = .ok (.iaload, 1) := by decide +kernel
theorem dX8_leastSum_45 : decode cX8_leastSum 45 = .ok (.imul, 1) := by decide +kernel
theorem dX8_leastSum_46 : decode cX8_leastSum 46 = .ok (.goto 13, 3) := by decide +kernel
theorem dX8_leastSum_49 : decode cX8_leastSum 49 = .ok (.iload 5, 2) := by decide +kernel
theorem dX8_leastSum_51 : decode cX8_leastSum 51 = .ok (.aload_n 0, 1) := by decide +kernel
theorem dX8_leastSum_52 : decode cX8_leastSum 52 = .ok (.getfield 54, 3) := by decide +kernel
theorem dX8_leastSum_55 : decode cX8_leastSum 55 = .ok (.iload 4, 2) := by decide +kernel
theorem dX8_leastSum_57 : decode cX8_leastSum 57 = .ok (.iaload, 1) := by decide +kernel
theorem dX8_leastSum_58 : decode cX8_leastSum 58 = .ok (.imul, 1) := by decide +kernel
theorem dX8_leastSum_59 : decode cX8_leastSum 59 = .ok (.iadd, 1) := by decide +kernel
theorem dX8_leastSum_60 : decode cX8_leastSum 60 = .ok (.istore_n 3, 1) := by decide +kernel
theorem dX8_leastSum_61 : decode cX8_leastSum 61 = .ok (.iinc 4 1, 3) := by decide +kernel
theorem dX8_leastSum_64 : decode cX8_leastSum 64 = .ok (.goto (-59), 3) := by decide +kernel
theorem dX8_leastSum_67 : decode cX8_leastSum 67 = .ok (.iload_n 3, 1) := by decide +kernel
theorem dX8_leastSum_68 : decode cX8_leastSum 68 = .ok (.ireturn, 1) := by decide +kernel
theorem dX8_down_0 : decode cX8_down 0 = .ok (.iload_n 0, 1) := by decide +kernel
theorem dX8_down_1 : decode cX8_down 1 = .ok (.iload_n 1, 1) := by decide +kernel
theorem dX8_down_2 : decode cX8_down 2 = .ok (.idiv, 1) := by decide +kernel
theorem dX8_down_3 : decode cX8_down 3 = .ok (.istore_n 2, 1) := by decide +kernel
theorem dX8_down_4 : decode cX8_down 4 = .ok (.iload_n 2, 1) := by decide +kernel
theorem dX8_down_5 : decode cX8_down 5 = .ok (.iload_n 1, 1) := by decide +kernel
theorem dX8_down_6 : decode cX8_down 6 = .ok (.imul, 1) := by decide +kernel
theorem dX8_down_7 : decode cX8_down 7 = .ok (.iload_n 0, 1) := by decide +kernel
theorem dX8_down_8 : decode cX8_down 8 = .ok (.if_icmp .eq 30, 3) := by decide +kernel
theorem dX8_down_11 : decode cX8_down 11 = .ok (.iload_n 0, 1) := by decide +kernel
theorem dX8_down_12 : decode cX8_down 12 = .ok (.ifCond .ge 7, 3) := by decide +kernel
theorem dX8_down_15 : decode cX8_down 15 = .ok (.iconst 1, 1) := by decide +kernel
theorem dX8_down_16 : decode cX8_down 16 = .ok (.goto 4, 3) := by decide +kernel
theorem dX8_down_19 : decode cX8_down 19 = .ok (.iconst 0, 1) := by decide +kernel
theorem dX8_down_20 : decode cX8_down 20 = .ok (.iload_n 1, 1) := by decide +kernel
theorem dX8_down_21 : decode cX8_down 21 = .ok (.ifCond .ge 7, 3) := by decide +kernel
theorem dX8_down_24 : decode cX8_down 24 = .ok (.iconst 1, 1) := by decide +kernel
theorem dX8_down_25 : decode cX8_down 25 = .ok (.goto 4, 3) := by decide +kernel
theorem dX8_down_28 : decode cX8_down 28 = .ok (.iconst 0, 1) := by decide +kernel
theorem dX8_down_29 : decode cX8_down 29 = .ok (.if_icmp .eq 9, 3) := by decide +kernel
theorem dX8_down_32 : decode cX8_down 32 = .ok (.iload_n 2, 1) := by decide +kernel
theorem dX8_down_33 : decode cX8_down 33 = .ok (.iconst 1, 1) := by decide +kernel
theorem dX8_down_34 : decode cX8_down 34 = .ok (.isub, 1) := by decide +kernel
theorem dX8_down_35 : decode cX8_down 35 = .ok (.goto 4, 3) := by decide +kernel
theorem dX8_down_38 : decode cX8_down 38 = .ok (.iload_n 2, 1) := by decide +kernel
theorem dX8_down_39 : decode cX8_down 39 = .ok (.ireturn, 1) := by decide +kernel
theorem dX8_come_0 : decode cX8_come 0 = .ok (.iload_n 0, 1) := by decide +kernel
theorem dX8_come_1 : decode cX8_come 1 = .ok (.iconst 2, 1) := by decide +kernel
theorem dX8_come_2 : decode cX8_come 2 = .ok (.if_icmp .ne 9, 3) := by decide +kernel
theorem dX8_come_5 : decode cX8_come 5 = .ok (.iload_n 1, 1) := by decide +kernel
theorem dX8_come_6 : decode cX8_come 6 = .ok (.iload_n 2, 1) := by decide +kernel
theorem dX8_come_7 : decode cX8_come 7 = .ok (.imul, 1) := by decide +kernel
theorem dX8_come_8 : decode cX8_come 8 = .ok (.goto 44, 3) := by decide +kernel
theorem dX8_come_11 : decode cX8_come 11 = .ok (.iload_n 0, 1) := by decide +kernel
theorem dX8_come_12 : decode cX8_come 12 = .ok (.iconst 3, 1) := by decide +kernel
theorem dX8_come_13 : decode cX8_come 13 = .ok (.if_icmp .ne 11, 3) := by decide +kernel
theorem dX8_come_16 : decode cX8_come 16 = .ok (.iload_n 1, 1) := by decide +kernel
theorem dX8_come_17 : decode cX8_come 17 = .ok (.iload_n 2, 1) := by decide +kernel
theorem dX8_come_18 : decode cX8_come 18 = .ok (.invokestatic 94, 3) := by decide +kernel
theorem dX8_come_21 : decode cX8_come 21 = .ok (.goto 31, 3) := by decide +kernel
theorem dX8_come_24 : decode cX8_come 24 = .ok (.iload_n 0, 1) := by decide +kernel
theorem dX8_come_25 : decode cX8_come 25 = .ok (.iconst 5, 1) := by decide +kernel
theorem dX8_come_26 : decode cX8_come 26 = .ok (.if_icmp .ne 16, 3) := by decide +kernel
theorem dX8_come_29 : decode cX8_come 29 = .ok (.iload_n 1, 1) := by decide +kernel
theorem dX8_come_30 : decode cX8_come 30 = .ok (.iload_n 2, 1) := by decide +kernel
theorem dX8_come_31 : decode cX8_come 31 = .ok (.if_icmp .le 7, 3) := by decide +kernel
theorem dX8_come_34 : decode cX8_come 34 = .ok (.iload_n 1, 1) := by decide +kernel
theorem dX8_come_35 : decode cX8_come 35 = .ok (.goto 17, 3) := by decide +kernel
theorem dX8_come_38 : decode cX8_come 38 = .ok (.iload_n 2, 1) := by decide +kernel
theorem dX8_come_39 : decode cX8_come 39 = .ok (.goto 13, 3) := by decide +kernel
theorem dX8_come_42 : decode cX8_come 42 = .ok (.iload_n 1, 1) := by decide +kernel
theorem dX8_come_43 : decode cX8_come 43 = .ok (.iload_n 2, 1) := by decide +kernel
theorem dX8_come_44 : decode cX8_come 44 = .ok (.if_icmp .ge 7, 3) := by decide +kernel
theorem dX8_come_47 : decode cX8_come 47 = .ok (.iload_n 1, 1) := by decide +kernel
theorem dX8_come_48 : decode cX8_come 48 = .ok (.goto 4, 3) := by decide +kernel
theorem dX8_come_51 : decode cX8_come 51 = .ok (.iload_n 2, 1) := by decide +kernel
theorem dX8_come_52 : decode cX8_come 52 = .ok (.ireturn, 1) := by decide +kernel
theorem dX8_byThree_0 : decode cX8_byThree 0 = .ok (.aload_n 0, 1) := by decide +kernel
theorem dX8_byThree_1 : decode cX8_byThree 1 = .ok (.getfield 20, 3) := by decide +kernel
theorem dX8_byThree_4 : decode cX8_byThree 4 = .ok (.iconst 3, 1) := by decide +kernel
theorem dX8_byThree_5 : decode cX8_byThree 5 = .ok (.iload_n 1, 1) := by decide +kernel
theorem dX8_byThree_6 : decode cX8_byThree 6 = .ok (.imul, 1) := by decide +kernel
theorem dX8_byThree_7 : decode cX8_byThree 7 = .ok (.iaload, 1) := by decide +kernel
theorem dX8_byThree_8 : decode cX8_byThree 8 = .ok (.istore_n 2, 1) := by decide +kernel
theorem dX8_byThree_9 : decode cX8_byThree 9 = .ok (.aload_n 0, 1) := by decide +kernel
theorem dX8_byThree_10 : decode cX8_byThree 10 = .ok (.getfield 20, 3) := by decide +kernel
theorem dX8_byThree_13 : decode cX8_byThree 13 = .ok (.iconst 3, 1) := by decide +kernel
theorem dX8_byThree_14 : decode cX8_byThree 14 = .ok (.iload_n 1, 1) := by decide +kernel
theorem dX8_byThree_15 : decode cX8_byThree 15 = .ok (.imul, 1) := by decide +kernel
theorem dX8_byThree_16 : decode cX8_byThree 16 = .ok (.iconst 1, 1) := by decide +kernel
theorem dX8_byThree_17 : decode cX8_byThree 17 = .ok (.iadd, 1) := by decide +kernel
theorem dX8_byThree_18 : decode cX8_byThree 18 = .ok (.iaload, 1) := by decide +kernel
theorem dX8_byThree_19 : decode cX8_byThree 19 = .ok (.istore_n 3, 1) := by decide +kernel
theorem dX8_byThree_20 : decode cX8_byThree 20 = .ok (.aload_n 0, 1) := by decide +kernel
theorem dX8_byThree_21 : decode cX8_byThree 21 = .ok (.getfield 20, 3) := by decide +kernel
theorem dX8_byThree_24 : decode cX8_byThree 24 = .ok (.iconst 3, 1) := by decide +kernel
theorem dX8_byThree_25 : decode cX8_byThree 25 = .ok (.iload_n 1, 1) := by decide +kernel
theorem dX8_byThree_26 : decode cX8_byThree 26 = .ok (.imul, 1) := by decide +kernel
theorem dX8_byThree_27 : decode cX8_byThree 27 = .ok (.iconst 2, 1) := by decide +kernel
theorem dX8_byThree_28 : decode cX8_byThree 28 = .ok (.iadd, 1) := by decide +kernel
theorem dX8_byThree_29 : decode cX8_byThree 29 = .ok (.iaload, 1) := by decide +kernel
theorem dX8_byThree_30 : decode cX8_byThree 30 = .ok (.istore 4, 2) := by decide +kernel
theorem dX8_byThree_32 : decode cX8_byThree 32 = .ok (.aload_n 0, 1) := by decide +kernel
theorem dX8_byThree_33 : decode cX8_byThree 33 = .ok (.getfield 51, 3) := by decide +kernel
theorem dX8_byThree_36 : decode cX8_byThree 36 = .ok (.iload_n 3, 1) := by decide +kernel
theorem dX8_byThree_37 : decode cX8_byThree 37 = .ok (.iaload, 1) := by decide +kernel
theorem dX8_byThree_38 : decode cX8_byThree 38 = .ok (.istore 5, 2) := by decide +kernel
theorem dX8_byThree_40 : decode cX8_byThree 40 = .ok (.iload 5, 2) := by decide +kernel
theorem dX8_byThree_42 : decode cX8_byThree 42 = .ok (.aload_n 0, 1) := by decide +kernel
theorem dX8_byThree_43 : decode cX8_byThree 43 = .ok (.getfield 54, 3) := by decide +kernel
theorem dX8_byThree_46 : decode cX8_byThree 46 = .ok (.iload_n 3, 1) := by decide +kernel
theorem dX8_byThree_47 : decode cX8_byThree 47 = .ok (.iaload, 1) := by decide +kernel
theorem dX8_byThree_48 : decode cX8_byThree 48 = .ok (.if_icmp .gt 86, 3) := by decide +kernel
theorem dX8_byThree_51 : decode cX8_byThree 51 = .ok (.aload_n 0, 1) := by decide +kernel
theorem dX8_byThree_52 : decode cX8_byThree 52 = .ok (.getfield 51, 3) := by decide +kernel
theorem dX8_byThree_55 : decode cX8_byThree 55 = .ok (.iload 4, 2) := by decide +kernel
theorem dX8_byThree_57 : decode cX8_byThree 57 = .ok (.iaload, 1) := by decide +kernel
theorem dX8_byThree_58 : decode cX8_byThree 58 = .ok (.istore 6, 2) := by decide +kernel
theorem dX8_byThree_60 : decode cX8_byThree 60 = .ok (.iload 6, 2) := by decide +kernel
theorem dX8_byThree_62 : decode cX8_byThree 62 = .ok (.aload_n 0, 1) := by decide +kernel
theorem dX8_byThree_63 : decode cX8_byThree 63 = .ok (.getfield 54, 3) := by decide +kernel
theorem dX8_byThree_66 : decode cX8_byThree 66 = .ok (.iload 4, 2) := by decide +kernel
theorem dX8_byThree_68 : decode cX8_byThree 68 = .ok (.iaload, 1) := by decide +kernel
theorem dX8_byThree_69 : decode cX8_byThree 69 = .ok (.if_icmp .gt 59, 3) := by decide +kernel
theorem dX8_byThree_72 : decode cX8_byThree 72 = .ok (.aload_n 0, 1) := by decide +kernel
theorem dX8_byThree_73 : decode cX8_byThree 73 = .ok (.getfield 16, 3) := by decide +kernel
theorem dX8_byThree_76 : decode cX8_byThree 76 = .ok (.iload_n 1, 1) := by decide +kernel
theorem dX8_byThree_77 : decode cX8_byThree 77 = .ok (.iaload, 1) := by decide +kernel
theorem dX8_byThree_78 : decode cX8_byThree 78 = .ok (.iconst 3, 1) := by decide +kernel
theorem dX8_byThree_79 : decode cX8_byThree 79 = .ok (.if_icmp .ne 8, 3) := by decide +kernel
theorem dX8_byThree_82 : decode cX8_byThree 82 = .ok (.iload 6, 2) := by decide +kernel
theorem dX8_byThree_84 : decode cX8_byThree 84 = .ok (.ifCond .eq 7, 3) := by decide +kernel
theorem dX8_byThree_87 : decode cX8_byThree 87 = .ok (.iconst 1, 1) := by decide +kernel
theorem dX8_byThree_88 : decode cX8_byThree 88 = .ok (.goto 4, 3) := by decide +kernel
theorem dX8_byThree_91 : decode cX8_byThree 91 = .ok (.iconst 0, 1) := by decide +kernel
theorem dX8_byThree_92 : decode cX8_byThree 92 = .ok (.istore 7, 2) := by decide +kernel
theorem dX8_byThree_94 : decode cX8_byThree 94 = .ok (.iload 7, 2) := by decide +kernel
theorem dX8_byThree_96 : decode cX8_byThree 96 = .ok (.ifCond .eq 26, 3) := by decide +kernel
theorem dX8_byThree_99 : decode cX8_byThree 99 = .ok (.aload_n 0, 1) := by decide +kernel
theorem dX8_byThree_100 : decode cX8_byThree 100 = .ok (.iload_n 2, 1) := by decide +kernel
theorem dX8_byThree_101 : decode cX8_byThree 101 = .ok (.aload_n 0, 1) := by decide +kernel
theorem dX8_byThree_102 : decode cX8_byThree 102 = .ok (.getfield 16, 3) := by decide +kernel
theorem dX8_byThree_105 : decode cX8_byThree 105 = .ok (.iload_n 1, 1) := by decide +kernel
theorem dX8_byThree_106 : decode cX8_byThree 106 = .ok (.iaload, 1) := by decide +kernel
theorem dX8_byThree_107 : decode cX8_byThree 107 = .ok (.iload 5, 2) := by decide +kernel
theorem dX8_byThree_109 : decode cX8_byThree 109 = .ok (.iload 6, 2) := by decide +kernel
theorem dX8_byThree_111 : decode cX8_byThree 111 = .ok (.invokestatic 98, 3) := by decide +kernel
theorem dX8_byThree_114 : decode cX8_byThree 114 = .ok (.invokevirtual 102, 3) := by decide +kernel
theorem dX8_byThree_117 : decode cX8_byThree 117 = .ok (.ifCond .eq 5, 3) := by decide +kernel
theorem dX8_byThree_120 : decode cX8_byThree 120 = .ok (.iconst 1, 1) := by decide +kernel
theorem dX8_byThree_121 : decode cX8_byThree 121 = .ok (.ireturn, 1) := by decide +kernel
theorem dX8_byThree_122 : decode cX8_byThree 122 = .ok (.iinc 6 1, 3) := by decide +kernel
theorem dX8_byThree_125 : decode cX8_byThree 125 = .ok (.goto (-65), 3) := by decide +kernel
theorem dX8_byThree_128 : decode cX8_byThree 128 = .ok (.iinc 5 1, 3) := by decide +kernel
theorem dX8_byThree_131 : decode cX8_byThree 131 = .ok (.goto (-91), 3) := by decide +kernel
theorem dX8_byThree_134 : decode cX8_byThree 134 = .ok (.iconst 0, 1) := by decide +kernel
theorem dX8_byThree_135 : decode cX8_byThree 135 = .ok (.ireturn, 1) := by decide +kernel
theorem dX8_byTwo_0 : decode cX8_byTwo 0 = .ok (.aload_n 0, 1) := by decide +kernel
theorem dX8_byTwo_1 : decode cX8_byTwo 1 = .ok (.getfield 20, 3) := by decide +kernel
theorem dX8_byTwo_4 : decode cX8_byTwo 4 = .ok (.iconst 3, 1) := by decide +kernel
theorem dX8_byTwo_5 : decode cX8_byTwo 5 = .ok (.iload_n 1, 1) := by decide +kernel
theorem dX8_byTwo_6 : decode cX8_byTwo 6 = .ok (.imul, 1) := by decide +kernel
theorem dX8_byTwo_7 : decode cX8_byTwo 7 = .ok (.iaload, 1) := by decide +kernel
theorem dX8_byTwo_8 : decode cX8_byTwo 8 = .ok (.istore_n 2, 1) := by decide +kernel
theorem dX8_byTwo_9 : decode cX8_byTwo 9 = .ok (.aload_n 0, 1) := by decide +kernel
theorem dX8_byTwo_10 : decode cX8_byTwo 10 = .ok (.getfield 20, 3) := by decide +kernel
theorem dX8_byTwo_13 : decode cX8_byTwo 13 = .ok (.iconst 3, 1) := by decide +kernel
theorem dX8_byTwo_14 : decode cX8_byTwo 14 = .ok (.iload_n 1, 1) := by decide +kernel
theorem dX8_byTwo_15 : decode cX8_byTwo 15 = .ok (.imul, 1) := by decide +kernel
theorem dX8_byTwo_16 : decode cX8_byTwo 16 = .ok (.iconst 1, 1) := by decide +kernel
theorem dX8_byTwo_17 : decode cX8_byTwo 17 = .ok (.iadd, 1) := by decide +kernel
theorem dX8_byTwo_18 : decode cX8_byTwo 18 = .ok (.iaload, 1) := by decide +kernel
theorem dX8_byTwo_19 : decode cX8_byTwo 19 = .ok (.istore_n 3, 1) := by decide +kernel
theorem dX8_byTwo_20 : decode cX8_byTwo 20 = .ok (.aload_n 0, 1) := by decide +kernel
theorem dX8_byTwo_21 : decode cX8_byTwo 21 = .ok (.getfield 51, 3) := by decide +kernel
theorem dX8_byTwo_24 : decode cX8_byTwo 24 = .ok (.iload_n 2, 1) := by decide +kernel
theorem dX8_byTwo_25 : decode cX8_byTwo 25 = .ok (.iaload, 1) := by decide +kernel
theorem dX8_byTwo_26 : decode cX8_byTwo 26 = .ok (.istore 4, 2) := by decide +kernel
theorem dX8_byTwo_28 : decode cX8_byTwo 28 = .ok (.iload 4, 2) := by decide +kernel
theorem dX8_byTwo_30 : decode cX8_byTwo 30 = .ok (.aload_n 0, 1) := by decide +kernel
theorem dX8_byTwo_31 : decode cX8_byTwo 31 = .ok (.getfield 54, 3) := by decide +kernel
theorem dX8_byTwo_34 : decode cX8_byTwo 34 = .ok (.iload_n 2, 1) := by decide +kernel
theorem dX8_byTwo_35 : decode cX8_byTwo 35 = .ok (.iaload, 1) := by decide +kernel
theorem dX8_byTwo_36 : decode cX8_byTwo 36 = .ok (.if_icmp .gt 98, 3) := by decide +kernel
theorem dX8_byTwo_39 : decode cX8_byTwo 39 = .ok (.aload_n 0, 1) := by decide +kernel
theorem dX8_byTwo_40 : decode cX8_byTwo 40 = .ok (.getfield 51, 3) := by decide +kernel
theorem dX8_byTwo_43 : decode cX8_byTwo 43 = .ok (.iload_n 3, 1) := by decide +kernel
theorem dX8_byTwo_44 : decode cX8_byTwo 44 = .ok (.iaload, 1) := by decide +kernel
theorem dX8_byTwo_45 : decode cX8_byTwo 45 = .ok (.istore 5, 2) := by decide +kernel
theorem dX8_byTwo_47 : decode cX8_byTwo 47 = .ok (.iload 5, 2) := by decide +kernel
theorem dX8_byTwo_49 : decode cX8_byTwo 49 = .ok (.aload_n 0, 1) := by decide +kernel
theorem dX8_byTwo_50 : decode cX8_byTwo 50 = .ok (.getfield 54, 3) := by decide +kernel
theorem dX8_byTwo_53 : decode cX8_byTwo 53 = .ok (.iload_n 3, 1) := by decide +kernel
theorem dX8_byTwo_54 : decode cX8_byTwo 54 = .ok (.iaload, 1) := by decide +kernel
theorem dX8_byTwo_55 : decode cX8_byTwo 55 = .ok (.if_icmp .gt 73, 3) := by decide +kernel
theorem dX8_byTwo_58 : decode cX8_byTwo 58 = .ok (.aload_n 0, 1) := by decide +kernel
theorem dX8_byTwo_59 : decode cX8_byTwo 59 = .ok (.getfield 16, 3) := by decide +kernel
theorem dX8_byTwo_62 : decode cX8_byTwo 62 = .ok (.iload_n 1, 1) := by decide +kernel
theorem dX8_byTwo_63 : decode cX8_byTwo 63 = .ok (.iaload, 1) := by decide +kernel
theorem dX8_byTwo_64 : decode cX8_byTwo 64 = .ok (.iconst 4, 1) := by decide +kernel
theorem dX8_byTwo_65 : decode cX8_byTwo 65 = .ok (.if_icmp .ne 29, 3) := by decide +kernel
theorem dX8_byTwo_68 : decode cX8_byTwo 68 = .ok (.iload 4, 2) := by decide +kernel
theorem dX8_byTwo_70 : decode cX8_byTwo 70 = .ok (.iload 5, 2) := by decide +kernel
theorem dX8_byTwo_72 : decode cX8_byTwo 72 = .ok (.ifCond .ge 9, 3) := by decide +kernel
theorem dX8_byTwo_75 : decode cX8_byTwo 75 = .ok (.iload 5, 2) := by decide +kernel
theorem dX8_byTwo_77 : decode cX8_byTwo 77 = .ok (.ineg, 1) := by decide +kernel
theorem dX8_byTwo_78 : decode cX8_byTwo 78 = .ok (.goto 5, 3) := by decide +kernel
theorem dX8_byTwo_81 : decode cX8_byTwo 81 = .ok (.iload 5, 2) := by decide +kernel
theorem dX8_byTwo_83 : decode cX8_byTwo 83 = .ok (.if_icmp .ne 7, 3) := by decide +kernel
theorem dX8_byTwo_86 : decode cX8_byTwo 86 = .ok (.iconst 1, 1) := by decide +kernel
theorem dX8_byTwo_87 : decode cX8_byTwo 87 = .ok (.goto 26, 3) := by decide +kernel
theorem dX8_byTwo_90 : decode cX8_byTwo 90 = .ok (.iconst 0, 1) := by decide +kernel
theorem dX8_byTwo_91 : decode cX8_byTwo 91 = .ok (.goto 22, 3) := by decide +kernel
theorem dX8_byTwo_94 : decode cX8_byTwo 94 = .ok (.iload 4, 2) := by decide +kernel
theorem dX8_byTwo_96 : decode cX8_byTwo 96 = .ok (.iload 5, 2) := by decide +kernel
theorem dX8_byTwo_98 : decode cX8_byTwo 98 = .ok (.aload_n 0, 1) := by decide +kernel
theorem dX8_byTwo_99 : decode cX8_byTwo 99 = .ok (.getfield 23, 3) := by decide +kernel
theorem dX8_byTwo_102 : decode cX8_byTwo 102 = .ok (.iload_n 1, 1) := by decide +kernel
theorem dX8_byTwo_103 : decode cX8_byTwo 103 = .ok (.iaload, 1) := by decide +kernel
theorem dX8_byTwo_104 : decode cX8_byTwo 104 = .ok (.iadd, 1) := by decide +kernel
theorem dX8_byTwo_105 : decode cX8_byTwo 105 = .ok (.if_icmp .eq 7, 3) := by decide +kernel
theorem dX8_byTwo_108 : decode cX8_byTwo 108 = .ok (.iconst 1, 1) := by decide +kernel
theorem dX8_byTwo_109 : decode cX8_byTwo 109 = .ok (.goto 4, 3) := by decide +kernel
theorem dX8_byTwo_112 : decode cX8_byTwo 112 = .ok (.iconst 0, 1) := by decide +kernel
theorem dX8_byTwo_113 : decode cX8_byTwo 113 = .ok (.istore 6, 2) := by decide +kernel
theorem dX8_byTwo_115 : decode cX8_byTwo 115 = .ok (.iload 6, 2) := by decide +kernel
theorem dX8_byTwo_117 : decode cX8_byTwo 117 = .ok (.ifCond .eq 5, 3) := by decide +kernel
theorem dX8_byTwo_120 : decode cX8_byTwo 120 = .ok (.iconst 1, 1) := by decide +kernel
theorem dX8_byTwo_121 : decode cX8_byTwo 121 = .ok (.ireturn, 1) := by decide +kernel
theorem dX8_byTwo_122 : decode cX8_byTwo 122 = .ok (.iinc 5 1, 3) := by decide +kernel
theorem dX8_byTwo_125 : decode cX8_byTwo 125 = .ok (.goto (-78), 3) := by decide +kernel
theorem dX8_byTwo_128 : decode cX8_byTwo 128 = .ok (.iinc 4 1, 3) := by decide +kernel
theorem dX8_byTwo_131 : decode cX8_byTwo 131 = .ok (.goto (-103), 3) := by decide +kernel
theorem dX8_byTwo_134 : decode cX8_byTwo 134 = .ok (.iconst 0, 1) := by decide +kernel
theorem dX8_byTwo_135 : decode cX8_byTwo 135 = .ok (.ireturn, 1) := by decide +kernel
theorem dX8_byCount_0 : decode cX8_byCount 0 = .ok (.iconst 0, 1) := by decide +kernel
theorem dX8_byCount_1 : decode cX8_byCount 1 = .ok (.istore_n 2, 1) := by decide +kernel
theorem dX8_byCount_2 : decode cX8_byCount 2 = .ok (.iconst 0, 1) := by decide +kernel
theorem dX8_byCount_3 : decode cX8_byCount 3 = .ok (.istore_n 3, 1) := by decide +kernel
theorem dX8_byCount_4 : decode cX8_byCount 4 = .ok (.iconst 0, 1) := by decide +kernel
theorem dX8_byCount_5 : decode cX8_byCount 5 = .ok (.istore 4, 2) := by decide +kernel
theorem dX8_byCount_7 : decode cX8_byCount 7 = .ok (.iload 4, 2) := by decide +kernel
theorem dX8_byCount_9 : decode cX8_byCount 9 = .ok (.aload_n 0, 1) := by decide +kernel
theorem dX8_byCount_10 : decode cX8_byCount 10 = .ok (.getfield 57, 3) := by decide +kernel
theorem dX8_byCount_13 : decode cX8_byCount 13 = .ok (.if_icmp .ge 87, 3) := by decide +kernel
theorem dX8_byCount_16 : decode cX8_byCount 16 = .ok (.aload_n 0, 1) := by decide +kernel
theorem dX8_byCount_17 : decode cX8_byCount 17 = .ok (.getfield 26, 3) := by decide +kernel
theorem dX8_byCount_20 : decode cX8_byCount 20 = .ok (.bipush 8, 2) := by decide +kernel
theorem dX8_byCount_22 : decode cX8_byCount 22 = .ok (.iload_n 1, 1) := by decide +kernel
theorem dX8_byCount_23 : decode cX8_byCount 23 = .ok (.imul, 1) := by decide +kernel
theorem dX8_byCount_24 : decode cX8_byCount 24 = .ok (.iload 4, 2) := by decide +kernel
theorem dX8_byCount_26 : decode cX8_byCount 26 = .ok (.iadd, 1) := by decide +kernel
theorem dX8_byCount_27 : decode cX8_byCount 27 = .ok (.iaload, 1) := by decide +kernel
theorem dX8_byCount_28 : decode cX8_byCount 28 = .ok (.ifCond .eq 66, 3) := by decide +kernel
theorem dX8_byCount_31 : decode cX8_byCount 31 = .ok (.iload_n 2, 1) := by decide +kernel
theorem dX8_byCount_32 : decode cX8_byCount 32 = .ok (.aload_n 0, 1) := by decide +kernel
theorem dX8_byCount_33 : decode cX8_byCount 33 = .ok (.getfield 51, 3) := by decide +kernel
theorem dX8_byCount_36 : decode cX8_byCount 36 = .ok (.iload 4, 2) := by decide +kernel
theorem dX8_byCount_38 : decode cX8_byCount 38 = .ok (.iaload, 1) := by decide +kernel
theorem dX8_byCount_39 : decode cX8_byCount 39 = .ok (.aload_n 0, 1) := by decide +kernel
theorem dX8_byCount_40 : decode cX8_byCount 40 = .ok (.getfield 23, 3) := by decide +kernel
theorem dX8_byCount_43 : decode cX8_byCount 43 = .ok (.iload_n 1, 1) := by decide +kernel
theorem dX8_byCount_44 : decode cX8_byCount 44 = .ok (.iaload, 1) := by decide +kernel
theorem dX8_byCount_45 : decode cX8_byCount 45 = .ok (.if_icmp .ne 23, 3) := by decide +kernel
theorem dX8_byCount_48 : decode cX8_byCount 48 = .ok (.aload_n 0, 1) := by decide +kernel
theorem dX8_byCount_49 : decode cX8_byCount 49 = .ok (.getfield 54, 3) := by decide +kernel
theorem dX8_byCount_52 : decode cX8_byCount 52 = .ok (.iload 4, 2) := by decide +kernel
theorem dX8_byCount_54 : decode cX8_byCount 54 = .ok (.iaload, 1) := by decide +kernel
theorem dX8_byCount_55 : decode cX8_byCount 55 = .ok (.aload_n 0, 1) := by decide +kernel
theorem dX8_byCount_56 : decode cX8_byCount 56 = .ok (.getfield 23, 3) := by decide +kernel
theorem dX8_byCount_59 : decode cX8_byCount 59 = .ok (.iload_n 1, 1) := by decide +kernel
theorem dX8_byCount_60 : decode cX8_byCount 60 = .ok (.iaload, 1) := by decide +kernel
theorem dX8_byCount_61 : decode cX8_byCount 61 = .ok (.if_icmp .ne 7, 3) := by decide +kernel
theorem dX8_byCount_64 : decode cX8_byCount 64 = .ok (.iconst 1, 1) := by decide +kernel
theorem dX8_byCount_65 : decode cX8_byCount 65 = .ok (.goto 4, 3) := by decide +kernel
theorem dX8_byCount_68 : decode cX8_byCount 68 = .ok (.iconst 0, 1) := by decide +kernel
theorem dX8_byCount_69 : decode cX8_byCount 69 = .ok (.iadd, 1) := by decide +kernel
theorem dX8_byCount_70 : decode cX8_byCount 70 = .ok (.istore_n 2, 1) := by decide +kernel
theorem dX8_byCount_71 : decode cX8_byCount 71 = .ok (.iload_n 3, 1) := by decide +kernel
theorem dX8_byCount_72 : decode cX8_byCount 72 = .ok (.aload_n 0, 1) := by decide +kernel
theorem dX8_byCount_73 : decode cX8_byCount 73 = .ok (.iload 4, 2) := by decide +kernel
theorem dX8_byCount_75 : decode cX8_byCount 75 = .ok (.aload_n 0, 1) := by decide +kernel
theorem dX8_byCount_76 : decode cX8_byCount 76 = .ok (.getfield 23, 3) := by decide +kernel
theorem dX8_byCount_79 : decode cX8_byCount 79 = .ok (.iload_n 1, 1) := by decide +kernel
theorem dX8_byCount_80 : decode cX8_byCount 80 = .ok (.iaload, 1) := by decide +kernel
theorem dX8_byCount_81 : decode cX8_byCount 81 = .ok (.invokevirtual 102, 3) := by decide +kernel
theorem dX8_byCount_84 : decode cX8_byCount 84 = .ok (.ifCond .eq 7, 3) := by decide +kernel
theorem dX8_byCount_87 : decode cX8_byCount 87 = .ok (.iconst 1, 1) := by decide +kernel
theorem dX8_byCount_88 : decode cX8_byCount 88 = .ok (.goto 4, 3) := by decide +kernel
theorem dX8_byCount_91 : decode cX8_byCount 91 = .ok (.iconst 0, 1) := by decide +kernel
theorem dX8_byCount_92 : decode cX8_byCount 92 = .ok (.iadd, 1) := by decide +kernel
theorem dX8_byCount_93 : decode cX8_byCount 93 = .ok (.istore_n 3, 1) := by decide +kernel
theorem dX8_byCount_94 : decode cX8_byCount 94 = .ok (.iinc 4 1, 3) := by decide +kernel
theorem dX8_byCount_97 : decode cX8_byCount 97 = .ok (.goto (-90), 3) := by decide +kernel
theorem dX8_byCount_100 : decode cX8_byCount 100 = .ok (.aload_n 0, 1) := by decide +kernel
theorem dX8_byCount_101 : decode cX8_byCount 101 = .ok (.getfield 20, 3) := by decide +kernel
theorem dX8_byCount_104 : decode cX8_byCount 104 = .ok (.iconst 3, 1) := by decide +kernel
theorem dX8_byCount_105 : decode cX8_byCount 105 = .ok (.iload_n 1, 1) := by decide +kernel
theorem dX8_byCount_106 : decode cX8_byCount 106 = .ok (.imul, 1) := by decide +kernel
theorem dX8_byCount_107 : decode cX8_byCount 107 = .ok (.iaload, 1) := by decide +kernel
theorem dX8_byCount_108 : decode cX8_byCount 108 = .ok (.istore 4, 2) := by decide +kernel
theorem dX8_byCount_110 : decode cX8_byCount 110 = .ok (.aload_n 0, 1) := by decide +kernel
theorem dX8_byCount_111 : decode cX8_byCount 111 = .ok (.getfield 51, 3) := by decide +kernel
theorem dX8_byCount_114 : decode cX8_byCount 114 = .ok (.iload 4, 2) := by decide +kernel
theorem dX8_byCount_116 : decode cX8_byCount 116 = .ok (.iaload, 1) := by decide +kernel
theorem dX8_byCount_117 : decode cX8_byCount 117 = .ok (.iload_n 3, 1) := by decide +kernel
theorem dX8_byCount_118 : decode cX8_byCount 118 = .ok (.if_icmp .gt 18, 3) := by decide +kernel
theorem dX8_byCount_121 : decode cX8_byCount 121 = .ok (.aload_n 0, 1) := by decide +kernel
theorem dX8_byCount_122 : decode cX8_byCount 122 = .ok (.getfield 54, 3) := by decide +kernel
theorem dX8_byCount_125 : decode cX8_byCount 125 = .ok (.iload 4, 2) := by decide +kernel
theorem dX8_byCount_127 : decode cX8_byCount 127 = .ok (.iaload, 1) := by decide +kernel
theorem dX8_byCount_128 : decode cX8_byCount 128 = .ok (.iload_n 2, 1) := by decide +kernel
theorem dX8_byCount_129 : decode cX8_byCount 129 = .ok (.if_icmp .lt 7, 3) := by decide +kernel
theorem dX8_byCount_132 : decode cX8_byCount 132 = .ok (.iconst 1, 1) := by decide +kernel
theorem dX8_byCount_133 : decode cX8_byCount 133 = .ok (.goto 4, 3) := by decide +kernel
theorem dX8_byCount_136 : decode cX8_byCount 136 = .ok (.iconst 0, 1) := by decide +kernel
theorem dX8_byCount_137 : decode cX8_byCount 137 = .ok (.ireturn, 1) := by decide +kernel
theorem dX8_can_0 : decode cX8_can 0 = .ok (.aload_n 0, 1) := by decide +kernel
theorem dX8_can_1 : decode cX8_can 1 = .ok (.getfield 20, 3) := by decide +kernel
theorem dX8_can_4 : decode cX8_can 4 = .ok (.iconst 3, 1) := by decide +kernel
theorem dX8_can_5 : decode cX8_can 5 = .ok (.iload_n 1, 1) := by decide +kernel
theorem dX8_can_6 : decode cX8_can 6 = .ok (.imul, 1) := by decide +kernel
theorem dX8_can_7 : decode cX8_can 7 = .ok (.iaload, 1) := by decide +kernel
theorem dX8_can_8 : decode cX8_can 8 = .ok (.istore_n 2, 1) := by decide +kernel
theorem dX8_can_9 : decode cX8_can 9 = .ok (.aload_n 0, 1) := by decide +kernel
theorem dX8_can_10 : decode cX8_can 10 = .ok (.getfield 16, 3) := by decide +kernel
theorem dX8_can_13 : decode cX8_can 13 = .ok (.iload_n 1, 1) := by decide +kernel
theorem dX8_can_14 : decode cX8_can 14 = .ok (.iaload, 1) := by decide +kernel
theorem dX8_can_15 : decode cX8_can 15 = .ok (.tableswitch 164 0 9 #[53, 74, 164, 164, 111, 164, 164, 111, 117, 158], 53) := by decide +kernel
theorem dX8_can_68 : decode cX8_can 68 = .ok (.aload_n 0, 1) := by decide +kernel
theorem dX8_can_69 : decode cX8_can 69 = .ok (.iload_n 1, 1) := by decide +kernel
theorem dX8_can_70 : decode cX8_can 70 = .ok (.iconst 1, 1) := by decide +kernel
theorem dX8_can_71 : decode cX8_can 71 = .ok (.invokevirtual 106, 3) := by decide +kernel
theorem dX8_can_74 : decode cX8_can 74 = .ok (.aload_n 0, 1) := by decide +kernel
theorem dX8_can_75 : decode cX8_can 75 = .ok (.getfield 23, 3) := by decide +kernel
theorem dX8_can_78 : decode cX8_can 78 = .ok (.iload_n 1, 1) := by decide +kernel
theorem dX8_can_79 : decode cX8_can 79 = .ok (.iaload, 1) := by decide +kernel
theorem dX8_can_80 : decode cX8_can 80 = .ok (.if_icmp .gt 7, 3) := by decide +kernel
theorem dX8_can_83 : decode cX8_can 83 = .ok (.iconst 1, 1) := by decide +kernel
theorem dX8_can_84 : decode cX8_can 84 = .ok (.goto 4, 3) := by decide +kernel
theorem dX8_can_87 : decode cX8_can 87 = .ok (.iconst 0, 1) := by decide +kernel
theorem dX8_can_88 : decode cX8_can 88 = .ok (.ireturn, 1) := by decide +kernel
theorem dX8_can_89 : decode cX8_can 89 = .ok (.aload_n 0, 1) := by decide +kernel
theorem dX8_can_90 : decode cX8_can 90 = .ok (.iload_n 1, 1) := by decide +kernel
theorem dX8_can_91 : decode cX8_can 91 = .ok (.iconst 1, 1) := by decide +kernel
theorem dX8_can_92 : decode cX8_can 92 = .ok (.invokevirtual 106, 3) := by decide +kernel
theorem dX8_can_95 : decode cX8_can 95 = .ok (.aload_n 0, 1) := by decide +kernel
theorem dX8_can_96 : decode cX8_can 96 = .ok (.getfield 23, 3) := by decide +kernel
theorem dX8_can_99 : decode cX8_can 99 = .ok (.iload_n 1, 1) := by decide +kernel
theorem dX8_can_100 : decode cX8_can 100 = .ok (.iaload, 1) := by decide +kernel
theorem dX8_can_101 : decode cX8_can 101 = .ok (.if_icmp .gt 23, 3) := by decide +kernel
theorem dX8_can_104 : decode cX8_can 104 = .ok (.aload_n 0, 1) := by decide +kernel
theorem dX8_can_105 : decode cX8_can 105 = .ok (.iload_n 1, 1) := by decide +kernel
theorem dX8_can_106 : decode cX8_can 106 = .ok (.iconst (-1), 1) := by decide +kernel
theorem dX8_can_107 : decode cX8_can 107 = .ok (.invokevirtual 106, 3) := by decide +kernel
theorem dX8_can_110 : decode cX8_can 110 = .ok (.aload_n 0, 1) := by decide +kernel
theorem dX8_can_111 : decode cX8_can 111 = .ok (.getfield 23, 3) := by decide +kernel
theorem dX8_can_114 : decode cX8_can 114 = .ok (.iload_n 1, 1) := by decide +kernel
theorem dX8_can_115 : decode cX8_can 115 = .ok (.iaload, 1) := by decide +kernel
theorem dX8_can_116 : decode cX8_can 116 = .ok (.ineg, 1) := by decide +kernel
theorem dX8_can_117 : decode cX8_can 117 = .ok (.if_icmp .gt 7, 3) := by decide +kernel
theorem dX8_can_120 : decode cX8_can 120 = .ok (.iconst 1, 1) := by decide +kernel
theorem dX8_can_121 : decode cX8_can 121 = .ok (.goto 4, 3) := by decide +kernel
theorem dX8_can_124 : decode cX8_can 124 = .ok (.iconst 0, 1) := by decide +kernel
theorem dX8_can_125 : decode cX8_can 125 = .ok (.ireturn, 1) := by decide +kernel
theorem dX8_can_126 : decode cX8_can 126 = .ok (.aload_n 0, 1) := by decide +kernel
theorem dX8_can_127 : decode cX8_can 127 = .ok (.iload_n 1, 1) := by decide +kernel
theorem dX8_can_128 : decode cX8_can 128 = .ok (.invokevirtual 109, 3) := by decide +kernel
theorem dX8_can_131 : decode cX8_can 131 = .ok (.ireturn, 1) := by decide +kernel
theorem dX8_can_132 : decode cX8_can 132 = .ok (.aload_n 0, 1) := by decide +kernel
theorem dX8_can_133 : decode cX8_can 133 = .ok (.getfield 51, 3) := by decide +kernel
theorem dX8_can_136 : decode cX8_can 136 = .ok (.iload_n 2, 1) := by decide +kernel
theorem dX8_can_137 : decode cX8_can 137 = .ok (.iaload, 1) := by decide +kernel
theorem dX8_can_138 : decode cX8_can 138 = .ok (.iconst 1, 1) := by decide +kernel
theorem dX8_can_139 : decode cX8_can 139 = .ok (.if_icmp .ne 28, 3) := by decide +kernel
theorem dX8_can_142 : decode cX8_can 142 = .ok (.aload_n 0, 1) := by decide +kernel
theorem dX8_can_143 : decode cX8_can 143 = .ok (.getfield 54, 3) := by decide +kernel
theorem dX8_can_146 : decode cX8_can 146 = .ok (.iload_n 2, 1) := by decide +kernel
theorem dX8_can_147 : decode cX8_can 147 = .ok (.iaload, 1) := by decide +kernel
theorem dX8_can_148 : decode cX8_can 148 = .ok (.iconst 1, 1) := by decide +kernel
theorem dX8_can_149 : decode cX8_can 149 = .ok (.if_icmp .ne 18, 3) := by decide +kernel
theorem dX8_can_152 : decode cX8_can 152 = .ok (.aload_n 0, 1) := by decide +kernel
theorem dX8_can_153 : decode cX8_can 153 = .ok (.iload_n 1, 1) := by decide +kernel
theorem dX8_can_154 : decode cX8_can 154 = .ok (.iconst 1, 1) := by decide +kernel
theorem dX8_can_155 : decode cX8_can 155 = .ok (.invokevirtual 106, 3) := by decide +kernel
theorem dX8_can_158 : decode cX8_can 158 = .ok (.aload_n 0, 1) := by decide +kernel
theorem dX8_can_159 : decode cX8_can 159 = .ok (.getfield 23, 3) := by decide +kernel
theorem dX8_can_162 : decode cX8_can 162 = .ok (.iload_n 1, 1) := by decide +kernel
theorem dX8_can_163 : decode cX8_can 163 = .ok (.iaload, 1) := by decide +kernel
theorem dX8_can_164 : decode cX8_can 164 = .ok (.if_icmp .gt 7, 3) := by decide +kernel
theorem dX8_can_167 : decode cX8_can 167 = .ok (.iconst 1, 1) := by decide +kernel
theorem dX8_can_168 : decode cX8_can 168 = .ok (.goto 4, 3) := by decide +kernel
theorem dX8_can_171 : decode cX8_can 171 = .ok (.iconst 0, 1) := by decide +kernel
theorem dX8_can_172 : decode cX8_can 172 = .ok (.ireturn, 1) := by decide +kernel
theorem dX8_can_173 : decode cX8_can 173 = .ok (.aload_n 0, 1) := by decide +kernel
theorem dX8_can_174 : decode cX8_can 174 = .ok (.iload_n 1, 1) := by decide +kernel
theorem dX8_can_175 : decode cX8_can 175 = .ok (.invokevirtual 112, 3) := by decide +kernel
theorem dX8_can_178 : decode cX8_can 178 = .ok (.ireturn, 1) := by decide +kernel
theorem dX8_can_179 : decode cX8_can 179 = .ok (.aload_n 0, 1) := by decide +kernel
theorem dX8_can_180 : decode cX8_can 180 = .ok (.iload_n 1, 1) := by decide +kernel
theorem dX8_can_181 : decode cX8_can 181 = .ok (.invokevirtual 115, 3) := by decide +kernel
theorem dX8_can_184 : decode cX8_can 184 = .ok (.ireturn, 1) := by decide +kernel
theorem dX8_impossible_0 : decode cX8_impossible 0 = .ok (.aload_n 0, 1) := by decide +kernel
theorem dX8_impossible_1 : decode cX8_impossible 1 = .ok (.getfield 51, 3) := by decide +kernel
theorem dX8_impossible_4 : decode cX8_impossible 4 = .ok (.iload_n 2, 1) := by decide +kernel
theorem dX8_impossible_5 : decode cX8_impossible 5 = .ok (.iaload, 1) := by decide +kernel
theorem dX8_impossible_6 : decode cX8_impossible 6 = .ok (.istore 4, 2) := by decide +kernel
theorem dX8_impossible_8 : decode cX8_impossible 8 = .ok (.aload_n 0, 1) := by decide +kernel
theorem dX8_impossible_9 : decode cX8_impossible 9 = .ok (.getfield 54, 3) := by decide +kernel
theorem dX8_impossible_12 : decode cX8_impossible 12 = .ok (.iload_n 2, 1) := by decide +kernel
theorem dX8_impossible_13 : decode cX8_impossible 13 = .ok (.iaload, 1) := by decide +kernel
theorem dX8_impossible_14 : decode cX8_impossible 14 = .ok (.istore 5, 2) := by decide +kernel
theorem dX8_impossible_16 : decode cX8_impossible 16 = .ok (.aload_n 0, 1) := by decide +kernel
theorem dX8_impossible_17 : decode cX8_impossible 17 = .ok (.getfield 51, 3) := by decide +kernel
theorem dX8_impossible_20 : decode cX8_impossible 20 = .ok (.iload_n 2, 1) := by decide +kernel
theorem dX8_impossible_21 : decode cX8_impossible 21 = .ok (.iload_n 3, 1) := by decide +kernel
theorem dX8_impossible_22 : decode cX8_impossible 22 = .ok (.iastore, 1) := by decide +kernel
theorem dX8_impossible_23 : decode cX8_impossible 23 = .ok (.aload_n 0, 1) := by decide +kernel
theorem dX8_impossible_24 : decode cX8_impossible 24 = .ok (.getfield 54, 3) := by decide +kernel
theorem dX8_impossible_27 : decode cX8_impossible 27 = .ok (.iload_n 2, 1) := by decide +kernel
theorem dX8_impossible_28 : decode cX8_impossible 28 = .ok (.iload_n 3, 1) := by decide +kernel
theorem dX8_impossible_29 : decode cX8_impossible 29 = .ok (.iastore, 1) := by decide +kernel
theorem dX8_impossible_30 : decode cX8_impossible 30 = .ok (.aload_n 0, 1) := by decide +kernel
theorem dX8_impossible_31 : decode cX8_impossible 31 = .ok (.iload_n 1, 1) := by decide +kernel
theorem dX8_impossible_32 : decode cX8_impossible 32 = .ok (.invokevirtual 118, 3) := by decide +kernel
theorem dX8_impossible_35 : decode cX8_impossible 35 = .ok (.ifCond .ne 7, 3) := by decide +kernel
theorem dX8_impossible_38 : decode cX8_impossible 38 = .ok (.iconst 1, 1) := by decide +kernel
theorem dX8_impossible_39 : decode cX8_impossible 39 = .ok (.goto 4, 3) := by decide +kernel
theorem dX8_impossible_42 : decode cX8_impossible 42 = .ok (.iconst 0, 1) := by decide +kernel
theorem dX8_impossible_43 : decode cX8_impossible 43 = .ok (.istore 6, 2) := by decide +kernel
theorem dX8_impossible_45 : decode cX8_impossible 45 = .ok (.aload_n 0, 1) := by decide +kernel
theorem dX8_impossible_46 : decode cX8_impossible 46 = .ok (.getfield 51, 3) := by decide +kernel
theorem dX8_impossible_49 : decode cX8_impossible 49 = .ok (.iload_n 2, 1) := by decide +kernel
theorem dX8_impossible_50 : decode cX8_impossible 50 = .ok (.iload 4, 2) := by decide +kernel
theorem dX8_impossible_52 : decode cX8_impossible 52 = .ok (.iastore, 1) := by decide +kernel
theorem dX8_impossible_53 : decode cX8_impossible 53 = .ok (.aload_n 0, 1) := by decide +kernel
theorem dX8_impossible_54 : decode cX8_impossible 54 = .ok (.getfield 54, 3) := by decide +kernel
theorem dX8_impossible_57 : decode cX8_impossible 57 = .ok (.iload_n 2, 1) := by decide +kernel
theorem dX8_impossible_58 : decode cX8_impossible 58 = .ok (.iload 5, 2) := by decide +kernel
theorem dX8_impossible_60 : decode cX8_impossible 60 = .ok (.iastore, 1) := by decide +kernel
theorem dX8_impossible_61 : decode cX8_impossible 61 = .ok (.iload 6, 2) := by decide +kernel
theorem dX8_impossible_63 : decode cX8_impossible 63 = .ok (.ireturn, 1) := by decide +kernel
end
section
theorem dX8_least_0 : decode cX8_least 0 = .ok (.sipush (-1000), 3) := by decide +kernel
theorem dX8_least_3 : decode cX8_least 3 = .ok (.istore_n 3, 1) := by decide +kernel
theorem dX8_least_4 : decode cX8_least 4 = .ok (.bipush 63, 2) := by decide +kernel
theorem dX8_least_6 : decode cX8_least 6 = .ok (.istore 4, 2) := by decide +kernel
theorem dX8_least_8 : decode cX8_least 8 = .ok (.iload 4, 2) := by decide +kernel
theorem dX8_least_10 : decode cX8_least 10 = .ok (.ifCond .lt 56, 3) := by decide +kernel
theorem dX8_least_13 : decode cX8_least 13 = .ok (.iload_n 2, 1) := by decide +kernel
theorem dX8_least_14 : decode cX8_least 14 = .ok (.ifCond .eq 21, 3) := by decide +kernel
theorem dX8_least_17 : decode cX8_least 17 = .ok (.aload_n 0, 1) := by decide +kernel
theorem dX8_least_18 : decode cX8_least 18 = .ok (.getfield 7, 3) := by decide +kernel
theorem dX8_least_21 : decode cX8_least 21 = .ok (.bipush 64, 2) := by decide +kernel
theorem dX8_least_23 : decode cX8_least 23 = .ok (.iload_n 1, 1) := by decide +kernel
theorem dX8_least_24 : decode cX8_least 24 = .ok (.imul, 1) := by decide +kernel
theorem dX8_least_25 : decode cX8_least 25 = .ok (.iload 4, 2) := by decide +kernel
theorem dX8_least_27 : decode cX8_least 27 = .ok (.iadd, 1) := by decide +kernel
theorem dX8_least_28 : decode cX8_least 28 = .ok (.baload, 1) := by decide +kernel
theorem dX8_least_29 : decode cX8_least 29 = .ok (.ifCond .eq 29, 3) := by decide +kernel
theorem dX8_least_32 : decode cX8_least 32 = .ok (.goto 18, 3) := by decide +kernel
theorem dX8_least_35 : decode cX8_least 35 = .ok (.aload_n 0, 1) := by decide +kernel
theorem dX8_least_36 : decode cX8_least 36 = .ok (.getfield 13, 3) := by decide +kernel
theorem dX8_least_39 : decode cX8_least 39 = .ok (.bipush 64, 2) := by decide +kernel
theorem dX8_least_41 : decode cX8_least 41 = .ok (.iload_n 1, 1) := by decide +kernel
theorem dX8_least_42 : decode cX8_least 42 = .ok (.imul, 1) := by decide +kernel
theorem dX8_least_43 : decode cX8_least 43 = .ok (.iload 4, 2) := by decide +kernel
theorem dX8_least_45 : decode cX8_least 45 = .ok (.iadd, 1) := by decide +kernel
theorem dX8_least_46 : decode cX8_least 46 = .ok (.baload, 1) := by decide +kernel
theorem dX8_least_47 : decode cX8_least 47 = .ok (.ifCond .eq 11, 3) := by decide +kernel
theorem dX8_least_50 : decode cX8_least 50 = .ok (.iload 4, 2) := by decide +kernel
theorem dX8_least_52 : decode cX8_least 52 = .ok (.bipush 32, 2) := by decide +kernel
theorem dX8_least_54 : decode cX8_least 54 = .ok (.isub, 1) := by decide +kernel
theorem dX8_least_55 : decode cX8_least 55 = .ok (.goto 4, 3) := by decide +kernel
theorem dX8_least_58 : decode cX8_least 58 = .ok (.iload_n 3, 1) := by decide +kernel
theorem dX8_least_59 : decode cX8_least 59 = .ok (.istore_n 3, 1) := by decide +kernel
theorem dX8_least_60 : decode cX8_least 60 = .ok (.iinc 4 (-1), 3) := by decide +kernel
theorem dX8_least_63 : decode cX8_least 63 = .ok (.goto (-55), 3) := by decide +kernel
theorem dX8_least_66 : decode cX8_least 66 = .ok (.iload_n 3, 1) := by decide +kernel
theorem dX8_least_67 : decode cX8_least 67 = .ok (.ireturn, 1) := by decide +kernel
theorem dX8_most_0 : decode cX8_most 0 = .ok (.sipush (-1000), 3) := by decide +kernel
theorem dX8_most_3 : decode cX8_most 3 = .ok (.istore_n 3, 1) := by decide +kernel
theorem dX8_most_4 : decode cX8_most 4 = .ok (.iconst 0, 1) := by decide +kernel
theorem dX8_most_5 : decode cX8_most 5 = .ok (.istore 4, 2) := by decide +kernel
theorem dX8_most_7 : decode cX8_most 7 = .ok (.iload 4, 2) := by decide +kernel
theorem dX8_most_9 : decode cX8_most 9 = .ok (.bipush 64, 2) := by decide +kernel
theorem dX8_most_11 : decode cX8_most 11 = .ok (.if_icmp .ge 56, 3) := by decide +kernel
theorem dX8_most_14 : decode cX8_most 14 = .ok (.iload_n 2, 1) := by decide +kernel
theorem dX8_most_15 : decode cX8_most 15 = .ok (.ifCond .eq 21, 3) := by decide +kernel
theorem dX8_most_18 : decode cX8_most 18 = .ok (.aload_n 0, 1) := by decide +kernel
theorem dX8_most_19 : decode cX8_most 19 = .ok (.getfield 7, 3) := by decide +kernel
theorem dX8_most_22 : decode cX8_most 22 = .ok (.bipush 64, 2) := by decide +kernel
theorem dX8_most_24 : decode cX8_most 24 = .ok (.iload_n 1, 1) := by decide +kernel
theorem dX8_most_25 : decode cX8_most 25 = .ok (.imul, 1) := by decide +kernel
theorem dX8_most_26 : decode cX8_most 26 = .ok (.iload 4, 2) := by decide +kernel
theorem dX8_most_28 : decode cX8_most 28 = .ok (.iadd, 1) := by decide +kernel
theorem dX8_most_29 : decode cX8_most 29 = .ok (.baload, 1) := by decide +kernel
theorem dX8_most_30 : decode cX8_most 30 = .ok (.ifCond .eq 29, 3) := by decide +kernel
theorem dX8_most_33 : decode cX8_most 33 = .ok (.goto 18, 3) := by decide +kernel
theorem dX8_most_36 : decode cX8_most 36 = .ok (.aload_n 0, 1) := by decide +kernel
theorem dX8_most_37 : decode cX8_most 37 = .ok (.getfield 13, 3) := by decide +kernel
theorem dX8_most_40 : decode cX8_most 40 = .ok (.bipush 64, 2) := by decide +kernel
theorem dX8_most_42 : decode cX8_most 42 = .ok (.iload_n 1, 1) := by decide +kernel
theorem dX8_most_43 : decode cX8_most 43 = .ok (.imul, 1) := by decide +kernel
theorem dX8_most_44 : decode cX8_most 44 = .ok (.iload 4, 2) := by decide +kernel
theorem dX8_most_46 : decode cX8_most 46 = .ok (.iadd, 1) := by decide +kernel
theorem dX8_most_47 : decode cX8_most 47 = .ok (.baload, 1) := by decide +kernel
theorem dX8_most_48 : decode cX8_most 48 = .ok (.ifCond .eq 11, 3) := by decide +kernel
theorem dX8_most_51 : decode cX8_most 51 = .ok (.iload 4, 2) := by decide +kernel
theorem dX8_most_53 : decode cX8_most 53 = .ok (.bipush 32, 2) := by decide +kernel
theorem dX8_most_55 : decode cX8_most 55 = .ok (.isub, 1) := by decide +kernel
theorem dX8_most_56 : decode cX8_most 56 = .ok (.goto 4, 3) := by decide +kernel
theorem dX8_most_59 : decode cX8_most 59 = .ok (.iload_n 3, 1) := by decide +kernel
theorem dX8_most_60 : decode cX8_most 60 = .ok (.istore_n 3, 1) := by decide +kernel
theorem dX8_most_61 : decode cX8_most 61 = .ok (.iinc 4 1, 3) := by decide +kernel
theorem dX8_most_64 : decode cX8_most 64 = .ok (.goto (-57), 3) := by decide +kernel
theorem dX8_most_67 : decode cX8_most 67 = .ok (.iload_n 3, 1) := by decide +kernel
theorem dX8_most_68 : decode cX8_most 68 = .ok (.ireturn, 1) := by decide +kernel
theorem dX8_isAbout_0 : decode cX8_isAbout 0 = .ok (.aload_n 0, 1) := by decide +kernel
theorem dX8_isAbout_1 : decode cX8_isAbout 1 = .ok (.getfield 20, 3) := by decide +kernel
theorem dX8_isAbout_4 : decode cX8_isAbout 4 = .ok (.iconst 3, 1) := by decide +kernel
theorem dX8_isAbout_5 : decode cX8_isAbout 5 = .ok (.iload_n 1, 1) := by decide +kernel
theorem dX8_isAbout_6 : decode cX8_isAbout 6 = .ok (.imul, 1) := by decide +kernel
theorem dX8_isAbout_7 : decode cX8_isAbout 7 = .ok (.iaload, 1) := by decide +kernel
theorem dX8_isAbout_8 : decode cX8_isAbout 8 = .ok (.iload_n 2, 1) := by decide +kernel
theorem dX8_isAbout_9 : decode cX8_isAbout 9 = .ok (.if_icmp .eq 45, 3) := by decide +kernel
theorem dX8_isAbout_12 : decode cX8_isAbout 12 = .ok (.aload_n 0, 1) := by decide +kernel
theorem dX8_isAbout_13 : decode cX8_isAbout 13 = .ok (.getfield 20, 3) := by decide +kernel
theorem dX8_isAbout_16 : decode cX8_isAbout 16 = .ok (.iconst 3, 1) := by decide +kernel
theorem dX8_isAbout_17 : decode cX8_isAbout 17 = .ok (.iload_n 1, 1) := by decide +kernel
theorem dX8_isAbout_18 : decode cX8_isAbout 18 = .ok (.imul, 1) := by decide +kernel
theorem dX8_isAbout_19 : decode cX8_isAbout 19 = .ok (.iconst 1, 1) := by decide +kernel
theorem dX8_isAbout_20 : decode cX8_isAbout 20 = .ok (.iadd, 1) := by decide +kernel
theorem dX8_isAbout_21 : decode cX8_isAbout 21 = .ok (.iaload, 1) := by decide +kernel
theorem dX8_isAbout_22 : decode cX8_isAbout 22 = .ok (.iload_n 2, 1) := by decide +kernel
theorem dX8_isAbout_23 : decode cX8_isAbout 23 = .ok (.if_icmp .eq 31, 3) := by decide +kernel
theorem dX8_isAbout_26 : decode cX8_isAbout 26 = .ok (.aload_n 0, 1) := by decide +kernel
theorem dX8_isAbout_27 : decode cX8_isAbout 27 = .ok (.getfield 20, 3) := by decide +kernel
theorem dX8_isAbout_30 : decode cX8_isAbout 30 = .ok (.iconst 3, 1) := by decide +kernel
theorem dX8_isAbout_31 : decode cX8_isAbout 31 = .ok (.iload_n 1, 1) := by decide +kernel
theorem dX8_isAbout_32 : decode cX8_isAbout 32 = .ok (.imul, 1) := by decide +kernel
theorem dX8_isAbout_33 : decode cX8_isAbout 33 = .ok (.iconst 2, 1) := by decide +kernel
theorem dX8_isAbout_34 : decode cX8_isAbout 34 = .ok (.iadd, 1) := by decide +kernel
theorem dX8_isAbout_35 : decode cX8_isAbout 35 = .ok (.iaload, 1) := by decide +kernel
theorem dX8_isAbout_36 : decode cX8_isAbout 36 = .ok (.iload_n 2, 1) := by decide +kernel
theorem dX8_isAbout_37 : decode cX8_isAbout 37 = .ok (.if_icmp .eq 17, 3) := by decide +kernel
theorem dX8_isAbout_40 : decode cX8_isAbout 40 = .ok (.aload_n 0, 1) := by decide +kernel
theorem dX8_isAbout_41 : decode cX8_isAbout 41 = .ok (.getfield 26, 3) := by decide +kernel
theorem dX8_isAbout_44 : decode cX8_isAbout 44 = .ok (.bipush 8, 2) := by decide +kernel
theorem dX8_isAbout_46 : decode cX8_isAbout 46 = .ok (.iload_n 1, 1) := by decide +kernel
theorem dX8_isAbout_47 : decode cX8_isAbout 47 = .ok (.imul, 1) := by decide +kernel
theorem dX8_isAbout_48 : decode cX8_isAbout 48 = .ok (.iload_n 2, 1) := by decide +kernel
theorem dX8_isAbout_49 : decode cX8_isAbout 49 = .ok (.iadd, 1) := by decide +kernel
theorem dX8_isAbout_50 : decode cX8_isAbout 50 = .ok (.iaload, 1) := by decide +kernel
theorem dX8_isAbout_51 : decode cX8_isAbout 51 = .ok (.ifCond .eq 7, 3) := by decide +kernel
theorem dX8_isAbout_54 : decode cX8_isAbout 54 = .ok (.iconst 1, 1) := by decide +kernel
theorem dX8_isAbout_55 : decode cX8_isAbout 55 = .ok (.goto 4, 3) := by decide +kernel
theorem dX8_isAbout_58 : decode cX8_isAbout 58 = .ok (.iconst 0, 1) := by decide +kernel
theorem dX8_isAbout_59 : decode cX8_isAbout 59 = .ok (.ireturn, 1) := by decide +kernel
theorem dX8_bounds_0 : decode cX8_bounds 0 = .ok (.iconst 0, 1) := by decide +kernel
theorem dX8_bounds_1 : decode cX8_bounds 1 = .ok (.istore_n 1, 1) := by decide +kernel
theorem dX8_bounds_2 : decode cX8_bounds 2 = .ok (.iload_n 1, 1) := by decide +kernel
theorem dX8_bounds_3 : decode cX8_bounds 3 = .ok (.aload_n 0, 1) := by decide +kernel
theorem dX8_bounds_4 : decode cX8_bounds 4 = .ok (.getfield 57, 3) := by decide +kernel
theorem dX8_bounds_7 : decode cX8_bounds 7 = .ok (.if_icmp .ge 33, 3) := by decide +kernel
theorem dX8_bounds_10 : decode cX8_bounds 10 = .ok (.aload_n 0, 1) := by decide +kernel
theorem dX8_bounds_11 : decode cX8_bounds 11 = .ok (.getfield 51, 3) := by decide +kernel
theorem dX8_bounds_14 : decode cX8_bounds 14 = .ok (.iload_n 1, 1) := by decide +kernel
theorem dX8_bounds_15 : decode cX8_bounds 15 = .ok (.aload_n 0, 1) := by decide +kernel
theorem dX8_bounds_16 : decode cX8_bounds 16 = .ok (.iload_n 1, 1) := by decide +kernel
theorem dX8_bounds_17 : decode cX8_bounds 17 = .ok (.iconst 0, 1) := by decide +kernel
theorem dX8_bounds_18 : decode cX8_bounds 18 = .ok (.invokevirtual 121, 3) := by decide +kernel
theorem dX8_bounds_21 : decode cX8_bounds 21 = .ok (.iastore, 1) := by decide +kernel
theorem dX8_bounds_22 : decode cX8_bounds 22 = .ok (.aload_n 0, 1) := by decide +kernel
theorem dX8_bounds_23 : decode cX8_bounds 23 = .ok (.getfield 54, 3) := by decide +kernel
theorem dX8_bounds_26 : decode cX8_bounds 26 = .ok (.iload_n 1, 1) := by decide +kernel
theorem dX8_bounds_27 : decode cX8_bounds 27 = .ok (.aload_n 0, 1) := by decide +kernel
theorem dX8_bounds_28 : decode cX8_bounds 28 = .ok (.iload_n 1, 1) := by decide +kernel
theorem dX8_bounds_29 : decode cX8_bounds 29 = .ok (.iconst 0, 1) := by decide +kernel
theorem dX8_bounds_30 : decode cX8_bounds 30 = .ok (.invokevirtual 124, 3) := by decide +kernel
theorem dX8_bounds_33 : decode cX8_bounds 33 = .ok (.iastore, 1) := by decide +kernel
theorem dX8_bounds_34 : decode cX8_bounds 34 = .ok (.iinc 1 1, 3) := by decide +kernel
theorem dX8_bounds_37 : decode cX8_bounds 37 = .ok (.goto (-35), 3) := by decide +kernel
theorem dX8_bounds_40 : decode cX8_bounds 40 = .ok (.return_, 1) := by decide +kernel
theorem dX8_take_0 : decode cX8_take 0 = .ok (.bipush 16, 2) := by decide +kernel
theorem dX8_take_2 : decode cX8_take 2 = .ok (.aload_n 0, 1) := by decide +kernel
theorem dX8_take_3 : decode cX8_take 3 = .ok (.getfield 70, 3) := by decide +kernel
theorem dX8_take_6 : decode cX8_take 6 = .ok (.imul, 1) := by decide +kernel
theorem dX8_take_7 : decode cX8_take 7 = .ok (.istore 4, 2) := by decide +kernel
theorem dX8_take_9 : decode cX8_take 9 = .ok (.iconst 0, 1) := by decide +kernel
theorem dX8_take_10 : decode cX8_take 10 = .ok (.istore 5, 2) := by decide +kernel
theorem dX8_take_12 : decode cX8_take 12 = .ok (.iload 5, 2) := by decide +kernel
theorem dX8_take_14 : decode cX8_take 14 = .ok (.bipush 16, 2) := by decide +kernel
theorem dX8_take_16 : decode cX8_take 16 = .ok (.if_icmp .ge 151, 3) := by decide +kernel
theorem dX8_take_19 : decode cX8_take 19 = .ok (.iload 5, 2) := by decide +kernel
theorem dX8_take_21 : decode cX8_take 21 = .ok (.iconst 2, 1) := by decide +kernel
theorem dX8_take_22 : decode cX8_take 22 = .ok (.idiv, 1) := by decide +kernel
theorem dX8_take_23 : decode cX8_take 23 = .ok (.istore 6, 2) := by decide +kernel
theorem dX8_take_25 : decode cX8_take 25 = .ok (.iload 6, 2) := by decide +kernel
theorem dX8_take_27 : decode cX8_take 27 = .ok (.aload_n 0, 1) := by decide +kernel
theorem dX8_take_28 : decode cX8_take 28 = .ok (.getfield 57, 3) := by decide +kernel
theorem dX8_take_31 : decode cX8_take 31 = .ok (.if_icmp .ge 23, 3) := by decide +kernel
theorem dX8_take_34 : decode cX8_take 34 = .ok (.iload 6, 2) := by decide +kernel
theorem dX8_take_36 : decode cX8_take 36 = .ok (.iload_n 2, 1) := by decide +kernel
theorem dX8_take_37 : decode cX8_take 37 = .ok (.if_icmp .eq 17, 3) := by decide +kernel
theorem dX8_take_40 : decode cX8_take 40 = .ok (.aload_n 0, 1) := by decide +kernel
theorem dX8_take_41 : decode cX8_take 41 = .ok (.iload_n 1, 1) := by decide +kernel
theorem dX8_take_42 : decode cX8_take 42 = .ok (.iload 6, 2) := by decide +kernel
theorem dX8_take_44 : decode cX8_take 44 = .ok (.invokevirtual 127, 3) := by decide +kernel
theorem dX8_take_47 : decode cX8_take 47 = .ok (.ifCond .eq 7, 3) := by decide +kernel
theorem dX8_take_50 : decode cX8_take 50 = .ok (.iconst 1, 1) := by decide +kernel
theorem dX8_take_51 : decode cX8_take 51 = .ok (.goto 4, 3) := by decide +kernel
theorem dX8_take_54 : decode cX8_take 54 = .ok (.iconst 0, 1) := by decide +kernel
theorem dX8_take_55 : decode cX8_take 55 = .ok (.istore 7, 2) := by decide +kernel
theorem dX8_take_57 : decode cX8_take 57 = .ok (.iload 7, 2) := by decide +kernel
theorem dX8_take_59 : decode cX8_take 59 = .ok (.ifCond .ne 7, 3) := by decide +kernel
theorem dX8_take_62 : decode cX8_take 62 = .ok (.iconst 0, 1) := by decide +kernel
theorem dX8_take_63 : decode cX8_take 63 = .ok (.goto 27, 3) := by decide +kernel
theorem dX8_take_66 : decode cX8_take 66 = .ok (.iload 5, 2) := by decide +kernel
theorem dX8_take_68 : decode cX8_take 68 = .ok (.iconst 2, 1) := by decide +kernel
theorem dX8_take_69 : decode cX8_take 69 = .ok (.irem, 1) := by decide +kernel
theorem dX8_take_70 : decode cX8_take 70 = .ok (.ifCond .ne 13, 3) := by decide +kernel
theorem dX8_take_73 : decode cX8_take 73 = .ok (.aload_n 0, 1) := by decide +kernel
theorem dX8_take_74 : decode cX8_take 74 = .ok (.getfield 51, 3) := by decide +kernel
theorem dX8_take_77 : decode cX8_take 77 = .ok (.iload 6, 2) := by decide +kernel
theorem dX8_take_79 : decode cX8_take 79 = .ok (.iaload, 1) := by decide +kernel
theorem dX8_take_80 : decode cX8_take 80 = .ok (.goto 10, 3) := by decide +kernel
theorem dX8_take_83 : decode cX8_take 83 = .ok (.aload_n 0, 1) := by decide +kernel
theorem dX8_take_84 : decode cX8_take 84 = .ok (.getfield 54, 3) := by decide +kernel
theorem dX8_take_87 : decode cX8_take 87 = .ok (.iload 6, 2) := by decide +kernel
theorem dX8_take_89 : decode cX8_take 89 = .ok (.iaload, 1) := by decide +kernel
theorem dX8_take_90 : decode cX8_take 90 = .ok (.istore 8, 2) := by decide +kernel
theorem dX8_take_92 : decode cX8_take 92 = .ok (.iload 7, 2) := by decide +kernel
theorem dX8_take_94 : decode cX8_take 94 = .ok (.ifCond .ne 7, 3) := by decide +kernel
theorem dX8_take_97 : decode cX8_take 97 = .ok (.iconst 0, 1) := by decide +kernel
theorem dX8_take_98 : decode cX8_take 98 = .ok (.goto 27, 3) := by decide +kernel
theorem dX8_take_101 : decode cX8_take 101 = .ok (.iload 5, 2) := by decide +kernel
theorem dX8_take_103 : decode cX8_take 103 = .ok (.iconst 2, 1) := by decide +kernel
theorem dX8_take_104 : decode cX8_take 104 = .ok (.irem, 1) := by decide +kernel
theorem dX8_take_105 : decode cX8_take 105 = .ok (.ifCond .ne 13, 3) := by decide +kernel
theorem dX8_take_108 : decode cX8_take 108 = .ok (.aload_n 0, 1) := by decide +kernel
theorem dX8_take_109 : decode cX8_take 109 = .ok (.iload 6, 2) := by decide +kernel
theorem dX8_take_111 : decode cX8_take 111 = .ok (.iconst 1, 1) := by decide +kernel
theorem dX8_take_112 : decode cX8_take 112 = .ok (.invokevirtual 121, 3) := by decide +kernel
theorem dX8_take_115 : decode cX8_take 115 = .ok (.goto 10, 3) := by decide +kernel
theorem dX8_take_118 : decode cX8_take 118 = .ok (.aload_n 0, 1) := by decide +kernel
theorem dX8_take_119 : decode cX8_take 119 = .ok (.iload 6, 2) := by decide +kernel
theorem dX8_take_121 : decode cX8_take 121 = .ok (.iconst 1, 1) := by decide +kernel
theorem dX8_take_122 : decode cX8_take 122 = .ok (.invokevirtual 124, 3) := by decide +kernel
theorem dX8_take_125 : decode cX8_take 125 = .ok (.istore 9, 2) := by decide +kernel
theorem dX8_take_127 : decode cX8_take 127 = .ok (.aload_n 0, 1) := by decide +kernel
theorem dX8_take_128 : decode cX8_take 128 = .ok (.getfield 45, 3) := by decide +kernel
theorem dX8_take_131 : decode cX8_take 131 = .ok (.iload 4, 2) := by decide +kernel
theorem dX8_take_133 : decode cX8_take 133 = .ok (.iload 5, 2) := by decide +kernel
theorem dX8_take_135 : decode cX8_take 135 = .ok (.iadd, 1) := by decide +kernel
theorem dX8_take_136 : decode cX8_take 136 = .ok (.iload 8, 2) := by decide +kernel
theorem dX8_take_138 : decode cX8_take 138 = .ok (.iload 9, 2) := by decide +kernel
theorem dX8_take_140 : decode cX8_take 140 = .ok (.if_icmp .eq 7, 3) := by decide +kernel
theorem dX8_take_143 : decode cX8_take 143 = .ok (.iconst 1, 1) := by decide +kernel
theorem dX8_take_144 : decode cX8_take 144 = .ok (.goto 4, 3) := by decide +kernel
theorem dX8_take_147 : decode cX8_take 147 = .ok (.iconst 0, 1) := by decide +kernel
theorem dX8_take_148 : decode cX8_take 148 = .ok (.bastore, 1) := by decide +kernel
theorem dX8_take_149 : decode cX8_take 149 = .ok (.aload_n 0, 1) := by decide +kernel
theorem dX8_take_150 : decode cX8_take 150 = .ok (.getfield 48, 3) := by decide +kernel
theorem dX8_take_153 : decode cX8_take 153 = .ok (.iload 4, 2) := by decide +kernel
theorem dX8_take_155 : decode cX8_take 155 = .ok (.iload 5, 2) := by decide +kernel
theorem dX8_take_157 : decode cX8_take 157 = .ok (.iadd, 1) := by decide +kernel
theorem dX8_take_158 : decode cX8_take 158 = .ok (.iload 8, 2) := by decide +kernel
theorem dX8_take_160 : decode cX8_take 160 = .ok (.iastore, 1) := by decide +kernel
theorem dX8_take_161 : decode cX8_take 161 = .ok (.iinc 5 1, 3) := by decide +kernel
theorem dX8_take_164 : decode cX8_take 164 = .ok (.goto (-152), 3) := by decide +kernel
theorem dX8_take_167 : decode cX8_take 167 = .ok (.bipush 15, 2) := by decide +kernel
theorem dX8_take_169 : decode cX8_take 169 = .ok (.istore 5, 2) := by decide +kernel
theorem dX8_take_171 : decode cX8_take 171 = .ok (.iload 5, 2) := by decide +kernel
theorem dX8_take_173 : decode cX8_take 173 = .ok (.ifCond .lt 116, 3) := by decide +kernel
theorem dX8_take_176 : decode cX8_take 176 = .ok (.aload_n 0, 1) := by decide +kernel
theorem dX8_take_177 : decode cX8_take 177 = .ok (.getfield 45, 3) := by decide +kernel
theorem dX8_take_180 : decode cX8_take 180 = .ok (.iload 4, 2) := by decide +kernel
theorem dX8_take_182 : decode cX8_take 182 = .ok (.iload 5, 2) := by decide +kernel
theorem dX8_take_184 : decode cX8_take 184 = .ok (.iadd, 1) := by decide +kernel
theorem dX8_take_185 : decode cX8_take 185 = .ok (.baload, 1) := by decide +kernel
theorem dX8_take_186 : decode cX8_take 186 = .ok (.ifCond .eq 97, 3) := by decide +kernel
theorem dX8_take_189 : decode cX8_take 189 = .ok (.iload 5, 2) := by decide +kernel
theorem dX8_take_191 : decode cX8_take 191 = .ok (.iconst 2, 1) := by decide +kernel
theorem dX8_take_192 : decode cX8_take 192 = .ok (.idiv, 1) := by decide +kernel
theorem dX8_take_193 : decode cX8_take 193 = .ok (.istore 6, 2) := by decide +kernel
theorem dX8_take_195 : decode cX8_take 195 = .ok (.aload_n 0, 1) := by decide +kernel
theorem dX8_take_196 : decode cX8_take 196 = .ok (.getfield 48, 3) := by decide +kernel
theorem dX8_take_199 : decode cX8_take 199 = .ok (.iload 4, 2) := by decide +kernel
theorem dX8_take_201 : decode cX8_take 201 = .ok (.iload 5, 2) := by decide +kernel
theorem dX8_take_203 : decode cX8_take 203 = .ok (.iadd, 1) := by decide +kernel
theorem dX8_take_204 : decode cX8_take 204 = .ok (.iaload, 1) := by decide +kernel
theorem dX8_take_205 : decode cX8_take 205 = .ok (.istore 7, 2) := by decide +kernel
theorem dX8_take_207 : decode cX8_take 207 = .ok (.aload_n 0, 1) := by decide +kernel
theorem dX8_take_208 : decode cX8_take 208 = .ok (.iload 5, 2) := by decide +kernel
theorem dX8_take_210 : decode cX8_take 210 = .ok (.iload 5, 2) := by decide +kernel
theorem dX8_take_212 : decode cX8_take 212 = .ok (.iconst 2, 1) := by decide +kernel
theorem dX8_take_213 : decode cX8_take 213 = .ok (.irem, 1) := by decide +kernel
theorem dX8_take_214 : decode cX8_take 214 = .ok (.ifCond .ne 13, 3) := by decide +kernel
theorem dX8_take_217 : decode cX8_take 217 = .ok (.aload_n 0, 1) := by decide +kernel
theorem dX8_take_218 : decode cX8_take 218 = .ok (.iload 6, 2) := by decide +kernel
theorem dX8_take_220 : decode cX8_take 220 = .ok (.iconst 1, 1) := by decide +kernel
theorem dX8_take_221 : decode cX8_take 221 = .ok (.invokevirtual 121, 3) := by decide +kernel
theorem dX8_take_224 : decode cX8_take 224 = .ok (.goto 10, 3) := by decide +kernel
theorem dX8_take_227 : decode cX8_take 227 = .ok (.aload_n 0, 1) := by decide +kernel
theorem dX8_take_228 : decode cX8_take 228 = .ok (.iload 6, 2) := by decide +kernel
theorem dX8_take_230 : decode cX8_take 230 = .ok (.iconst 1, 1) := by decide +kernel
theorem dX8_take_231 : decode cX8_take 231 = .ok (.invokevirtual 124, 3) := by decide +kernel
theorem dX8_take_234 : decode cX8_take 234 = .ok (.invokevirtual 130, 3) := by decide +kernel
theorem dX8_take_237 : decode cX8_take 237 = .ok (.aload_n 0, 1) := by decide +kernel
theorem dX8_take_238 : decode cX8_take 238 = .ok (.getfield 45, 3) := by decide +kernel
theorem dX8_take_241 : decode cX8_take 241 = .ok (.iload 4, 2) := by decide +kernel
theorem dX8_take_243 : decode cX8_take 243 = .ok (.iload 5, 2) := by decide +kernel
theorem dX8_take_245 : decode cX8_take 245 = .ok (.iadd, 1) := by decide +kernel
theorem dX8_take_246 : decode cX8_take 246 = .ok (.aload_n 0, 1) := by decide +kernel
theorem dX8_take_247 : decode cX8_take 247 = .ok (.iload_n 1, 1) := by decide +kernel
theorem dX8_take_248 : decode cX8_take 248 = .ok (.iload_n 2, 1) := by decide +kernel
theorem dX8_take_249 : decode cX8_take 249 = .ok (.iload_n 3, 1) := by decide +kernel
theorem dX8_take_250 : decode cX8_take 250 = .ok (.invokevirtual 134, 3) := by decide +kernel
theorem dX8_take_253 : decode cX8_take 253 = .ok (.ifCond .ne 7, 3) := by decide +kernel
theorem dX8_take_256 : decode cX8_take 256 = .ok (.iconst 1, 1) := by decide +kernel
theorem dX8_take_257 : decode cX8_take 257 = .ok (.goto 4, 3) := by decide +kernel
theorem dX8_take_260 : decode cX8_take 260 = .ok (.iconst 0, 1) := by decide +kernel
theorem dX8_take_261 : decode cX8_take 261 = .ok (.bastore, 1) := by decide +kernel
theorem dX8_take_262 : decode cX8_take 262 = .ok (.aload_n 0, 1) := by decide +kernel
theorem dX8_take_263 : decode cX8_take 263 = .ok (.getfield 45, 3) := by decide +kernel
theorem dX8_take_266 : decode cX8_take 266 = .ok (.iload 4, 2) := by decide +kernel
theorem dX8_take_268 : decode cX8_take 268 = .ok (.iload 5, 2) := by decide +kernel
theorem dX8_take_270 : decode cX8_take 270 = .ok (.iadd, 1) := by decide +kernel
theorem dX8_take_271 : decode cX8_take 271 = .ok (.baload, 1) := by decide +kernel
theorem dX8_take_272 : decode cX8_take 272 = .ok (.ifCond .eq 11, 3) := by decide +kernel
theorem dX8_take_275 : decode cX8_take 275 = .ok (.aload_n 0, 1) := by decide +kernel
theorem dX8_take_276 : decode cX8_take 276 = .ok (.iload 5, 2) := by decide +kernel
theorem dX8_take_278 : decode cX8_take 278 = .ok (.iload 7, 2) := by decide +kernel
theorem dX8_take_280 : decode cX8_take 280 = .ok (.invokevirtual 130, 3) := by decide +kernel
theorem dX8_take_283 : decode cX8_take 283 = .ok (.iinc 5 (-1), 3) := by decide +kernel
theorem dX8_take_286 : decode cX8_take 286 = .ok (.goto (-115), 3) := by decide +kernel
theorem dX8_take_289 : decode cX8_take 289 = .ok (.aload_n 0, 1) := by decide +kernel
theorem dX8_take_290 : decode cX8_take 290 = .ok (.getfield 33, 3) := by decide +kernel
theorem dX8_take_293 : decode cX8_take 293 = .ok (.aload_n 0, 1) := by decide +kernel
theorem dX8_take_294 : decode cX8_take 294 = .ok (.getfield 70, 3) := by decide +kernel
theorem dX8_take_297 : decode cX8_take 297 = .ok (.iload_n 1, 1) := by decide +kernel
theorem dX8_take_298 : decode cX8_take 298 = .ok (.iastore, 1) := by decide +kernel
theorem dX8_take_299 : decode cX8_take 299 = .ok (.aload_n 0, 1) := by decide +kernel
theorem dX8_take_300 : decode cX8_take 300 = .ok (.getfield 36, 3) := by decide +kernel
theorem dX8_take_303 : decode cX8_take 303 = .ok (.aload_n 0, 1) := by decide +kernel
theorem dX8_take_304 : decode cX8_take 304 = .ok (.getfield 70, 3) := by decide +kernel
theorem dX8_take_307 : decode cX8_take 307 = .ok (.iload_n 2, 1) := by decide +kernel
theorem dX8_take_308 : decode cX8_take 308 = .ok (.iastore, 1) := by decide +kernel
theorem dX8_take_309 : decode cX8_take 309 = .ok (.aload_n 0, 1) := by decide +kernel
theorem dX8_take_310 : decode cX8_take 310 = .ok (.getfield 39, 3) := by decide +kernel
theorem dX8_take_313 : decode cX8_take 313 = .ok (.aload_n 0, 1) := by decide +kernel
theorem dX8_take_314 : decode cX8_take 314 = .ok (.getfield 70, 3) := by decide +kernel
theorem dX8_take_317 : decode cX8_take 317 = .ok (.iload_n 3, 1) := by decide +kernel
theorem dX8_take_318 : decode cX8_take 318 = .ok (.iastore, 1) := by decide +kernel
theorem dX8_take_319 : decode cX8_take 319 = .ok (.aload_n 0, 1) := by decide +kernel
theorem dX8_take_320 : decode cX8_take 320 = .ok (.getfield 42, 3) := by decide +kernel
theorem dX8_take_323 : decode cX8_take 323 = .ok (.aload_n 0, 1) := by decide +kernel
theorem dX8_take_324 : decode cX8_take 324 = .ok (.getfield 70, 3) := by decide +kernel
theorem dX8_take_327 : decode cX8_take 327 = .ok (.aload_n 0, 1) := by decide +kernel
theorem dX8_take_328 : decode cX8_take 328 = .ok (.getfield 67, 3) := by decide +kernel
theorem dX8_take_331 : decode cX8_take 331 = .ok (.iastore, 1) := by decide +kernel
theorem dX8_take_332 : decode cX8_take 332 = .ok (.aload_n 0, 1) := by decide +kernel
theorem dX8_take_333 : decode cX8_take 333 = .ok (.dup, 1) := by decide +kernel
theorem dX8_take_334 : decode cX8_take 334 = .ok (.getfield 70, 3) := by decide +kernel
theorem dX8_take_337 : decode cX8_take 337 = .ok (.iconst 1, 1) := by decide +kernel
theorem dX8_take_338 : decode cX8_take 338 = .ok (.iadd, 1) := by decide +kernel
theorem dX8_take_339 : decode cX8_take 339 = .ok (.putfield 70, 3) := by decide +kernel
theorem dX8_take_342 : decode cX8_take 342 = .ok (.aload_n 0, 1) := by decide +kernel
theorem dX8_take_343 : decode cX8_take 343 = .ok (.getfield 13, 3) := by decide +kernel
theorem dX8_take_346 : decode cX8_take 346 = .ok (.bipush 64, 2) := by decide +kernel
theorem dX8_take_348 : decode cX8_take 348 = .ok (.iload_n 2, 1) := by decide +kernel
theorem dX8_take_349 : decode cX8_take 349 = .ok (.imul, 1) := by decide +kernel
theorem dX8_take_350 : decode cX8_take 350 = .ok (.iload_n 3, 1) := by decide +kernel
theorem dX8_take_351 : decode cX8_take 351 = .ok (.iadd, 1) := by decide +kernel
theorem dX8_take_352 : decode cX8_take 352 = .ok (.bipush 32, 2) := by decide +kernel
theorem dX8_take_354 : decode cX8_take 354 = .ok (.iadd, 1) := by decide +kernel
theorem dX8_take_355 : decode cX8_take 355 = .ok (.iconst 0, 1) := by decide +kernel
theorem dX8_take_356 : decode cX8_take 356 = .ok (.bastore, 1) := by decide +kernel
theorem dX8_take_357 : decode cX8_take 357 = .ok (.aload_n 0, 1) := by decide +kernel
theorem dX8_take_358 : decode cX8_take 358 = .ok (.invokevirtual 137, 3) := by decide +kernel
theorem dX8_take_361 : decode cX8_take 361 = .ok (.return_, 1) := by decide +kernel
theorem dX8_setBound_0 : decode cX8_setBound 0 = .ok (.iload_n 1, 1) := by decide +kernel
theorem dX8_setBound_1 : decode cX8_setBound 1 = .ok (.iconst 2, 1) := by decide +kernel
theorem dX8_setBound_2 : decode cX8_setBound 2 = .ok (.irem, 1) := by decide +kernel
theorem dX8_setBound_3 : decode cX8_setBound 3 = .ok (.ifCond .ne 15, 3) := by decide +kernel
theorem dX8_setBound_6 : decode cX8_setBound 6 = .ok (.aload_n 0, 1) := by decide +kernel
theorem dX8_setBound_7 : decode cX8_setBound 7 = .ok (.getfield 51, 3) := by decide +kernel
theorem dX8_setBound_10 : decode cX8_setBound 10 = .ok (.iload_n 1, 1) := by decide +kernel
theorem dX8_setBound_11 : decode cX8_setBound 11 = .ok (.iconst 2, 1) := by decide +kernel
theorem dX8_setBound_12 : decode cX8_setBound 12 = .ok (.idiv, 1) := by decide +kernel
theorem dX8_setBound_13 : decode cX8_setBound 13 = .ok (.iload_n 2, 1) := by decide +kernel
theorem dX8_setBound_14 : decode cX8_setBound 14 = .ok (.iastore, 1) := by decide +kernel
theorem dX8_setBound_15 : decode cX8_setBound 15 = .ok (.goto 12, 3) := by decide +kernel
theorem dX8_setBound_18 : decode cX8_setBound 18 = .ok (.aload_n 0, 1) := by decide +kernel
theorem dX8_setBound_19 : decode cX8_setBound 19 = .ok (.getfield 54, 3) := by decide +kernel
theorem dX8_setBound_22 : decode cX8_setBound 22 = .ok (.iload_n 1, 1) := by decide +kernel
theorem dX8_setBound_23 : decode cX8_setBound 23 = .ok (.iconst 2, 1) := by decide +kernel
theorem dX8_setBound_24 : decode cX8_setBound 24 = .ok (.idiv, 1) := by decide +kernel
theorem dX8_setBound_25 : decode cX8_setBound 25 = .ok (.iload_n 2, 1) := by decide +kernel
theorem dX8_setBound_26 : decode cX8_setBound 26 = .ok (.iastore, 1) := by decide +kernel
theorem dX8_setBound_27 : decode cX8_setBound 27 = .ok (.return_, 1) := by decide +kernel
theorem dX8_byRow_0 : decode cX8_byRow 0 = .ok (.iconst 0, 1) := by decide +kernel
theorem dX8_byRow_1 : decode cX8_byRow 1 = .ok (.istore_n 2, 1) := by decide +kernel
theorem dX8_byRow_2 : decode cX8_byRow 2 = .ok (.iload_n 2, 1) := by decide +kernel
theorem dX8_byRow_3 : decode cX8_byRow 3 = .ok (.aload_n 0, 1) := by decide +kernel
theorem dX8_byRow_4 : decode cX8_byRow 4 = .ok (.getfield 57, 3) := by decide +kernel
theorem dX8_byRow_7 : decode cX8_byRow 7 = .ok (.if_icmp .ge 91, 3) := by decide +kernel
theorem dX8_byRow_10 : decode cX8_byRow 10 = .ok (.aload_n 0, 1) := by decide +kernel
theorem dX8_byRow_11 : decode cX8_byRow 11 = .ok (.getfield 29, 3) := by decide +kernel
theorem dX8_byRow_14 : decode cX8_byRow 14 = .ok (.sipush (-1000), 3) := by decide +kernel
theorem dX8_byRow_17 : decode cX8_byRow 17 = .ok (.if_icmp .ne 81, 3) := by decide +kernel
theorem dX8_byRow_20 : decode cX8_byRow 20 = .ok (.bipush (-32), 2) := by decide +kernel
theorem dX8_byRow_22 : decode cX8_byRow 22 = .ok (.istore_n 3, 1) := by decide +kernel
theorem dX8_byRow_23 : decode cX8_byRow 23 = .ok (.iload_n 3, 1) := by decide +kernel
theorem dX8_byRow_24 : decode cX8_byRow 24 = .ok (.bipush 31, 2) := by decide +kernel
theorem dX8_byRow_26 : decode cX8_byRow 26 = .ok (.if_icmp .gt 66, 3) := by decide +kernel
theorem dX8_byRow_29 : decode cX8_byRow 29 = .ok (.aload_n 0, 1) := by decide +kernel
theorem dX8_byRow_30 : decode cX8_byRow 30 = .ok (.iload_n 1, 1) := by decide +kernel
theorem dX8_byRow_31 : decode cX8_byRow 31 = .ok (.iload_n 2, 1) := by decide +kernel
theorem dX8_byRow_32 : decode cX8_byRow 32 = .ok (.invokevirtual 127, 3) := by decide +kernel
theorem dX8_byRow_35 : decode cX8_byRow 35 = .ok (.ifCond .eq 57, 3) := by decide +kernel
theorem dX8_byRow_38 : decode cX8_byRow 38 = .ok (.aload_n 0, 1) := by decide +kernel
theorem dX8_byRow_39 : decode cX8_byRow 39 = .ok (.getfield 13, 3) := by decide +kernel
theorem dX8_byRow_42 : decode cX8_byRow 42 = .ok (.bipush 64, 2) := by decide +kernel
theorem dX8_byRow_44 : decode cX8_byRow 44 = .ok (.iload_n 2, 1) := by decide +kernel
theorem dX8_byRow_45 : decode cX8_byRow 45 = .ok (.imul, 1) := by decide +kernel
theorem dX8_byRow_46 : decode cX8_byRow 46 = .ok (.iload_n 3, 1) := by decide +kernel
theorem dX8_byRow_47 : decode cX8_byRow 47 = .ok (.iadd, 1) := by decide +kernel
theorem dX8_byRow_48 : decode cX8_byRow 48 = .ok (.bipush 32, 2) := by decide +kernel
theorem dX8_byRow_50 : decode cX8_byRow 50 = .ok (.iadd, 1) := by decide +kernel
theorem dX8_byRow_51 : decode cX8_byRow 51 = .ok (.baload, 1) := by decide +kernel
theorem dX8_byRow_52 : decode cX8_byRow 52 = .ok (.ifCond .eq 34, 3) := by decide +kernel
theorem dX8_byRow_55 : decode cX8_byRow 55 = .ok (.aload_n 0, 1) := by decide +kernel
theorem dX8_byRow_56 : decode cX8_byRow 56 = .ok (.iload_n 1, 1) := by decide +kernel
theorem dX8_byRow_57 : decode cX8_byRow 57 = .ok (.iload_n 2, 1) := by decide +kernel
theorem dX8_byRow_58 : decode cX8_byRow 58 = .ok (.iload_n 3, 1) := by decide +kernel
theorem dX8_byRow_59 : decode cX8_byRow 59 = .ok (.invokevirtual 134, 3) := by decide +kernel
theorem dX8_byRow_62 : decode cX8_byRow 62 = .ok (.ifCond .eq 24, 3) := by decide +kernel
theorem dX8_byRow_65 : decode cX8_byRow 65 = .ok (.aload_n 0, 1) := by decide +kernel
theorem dX8_byRow_66 : decode cX8_byRow 66 = .ok (.iload_n 1, 1) := by decide +kernel
theorem dX8_byRow_67 : decode cX8_byRow 67 = .ok (.iload_n 2, 1) := by decide +kernel
theorem dX8_byRow_68 : decode cX8_byRow 68 = .ok (.iload_n 3, 1) := by decide +kernel
theorem dX8_byRow_69 : decode cX8_byRow 69 = .ok (.invokevirtual 140, 3) := by decide +kernel
theorem dX8_byRow_72 : decode cX8_byRow 72 = .ok (.aload_n 0, 1) := by decide +kernel
theorem dX8_byRow_73 : decode cX8_byRow 73 = .ok (.iload_n 2, 1) := by decide +kernel
theorem dX8_byRow_74 : decode cX8_byRow 74 = .ok (.iconst 0, 1) := by decide +kernel
theorem dX8_byRow_75 : decode cX8_byRow 75 = .ok (.invokevirtual 80, 3) := by decide +kernel
theorem dX8_byRow_78 : decode cX8_byRow 78 = .ok (.ifCond .ne 8, 3) := by decide +kernel
theorem dX8_byRow_81 : decode cX8_byRow 81 = .ok (.aload_n 0, 1) := by decide +kernel
theorem dX8_byRow_82 : decode cX8_byRow 82 = .ok (.iload_n 1, 1) := by decide +kernel
theorem dX8_byRow_83 : decode cX8_byRow 83 = .ok (.putfield 29, 3) := by decide +kernel
theorem dX8_byRow_86 : decode cX8_byRow 86 = .ok (.iinc 3 1, 3) := by decide +kernel
theorem dX8_byRow_89 : decode cX8_byRow 89 = .ok (.goto (-66), 3) := by decide +kernel
theorem dX8_byRow_92 : decode cX8_byRow 92 = .ok (.iinc 2 1, 3) := by decide +kernel
theorem dX8_byRow_95 : decode cX8_byRow 95 = .ok (.goto (-93), 3) := by decide +kernel
theorem dX8_byRow_98 : decode cX8_byRow 98 = .ok (.return_, 1) := by decide +kernel
theorem dX8_run_0 : decode cX8_run 0 = .ok (.iload_n 1, 1) := by decide +kernel
theorem dX8_run_1 : decode cX8_run 1 = .ok (.iconst 0, 1) := by decide +kernel
theorem dX8_run_2 : decode cX8_run 2 = .ok (.iconst 1, 1) := by decide +kernel
theorem dX8_run_3 : decode cX8_run 3 = .ok (.invokestatic 60, 3) := by decide +kernel
theorem dX8_run_6 : decode cX8_run 6 = .ok (.ifCond .eq 14, 3) := by decide +kernel
theorem dX8_run_9 : decode cX8_run 9 = .ok (.iload_n 2, 1) := by decide +kernel
theorem dX8_run_10 : decode cX8_run 10 = .ok (.iconst 1, 1) := by decide +kernel
theorem dX8_run_11 : decode cX8_run 11 = .ok (.sipush 200, 3) := by decide +kernel
theorem dX8_run_14 : decode cX8_run 14 = .ok (.invokestatic 60, 3) := by decide +kernel
theorem dX8_run_17 : decode cX8_run 17 = .ok (.ifCond .ne 7, 3) := by decide +kernel
theorem dX8_run_20 : decode cX8_run 20 = .ok (.sipush (-1001), 3) := by decide +kernel
theorem dX8_run_23 : decode cX8_run 23 = .ok (.ireturn, 1) := by decide +kernel
theorem dX8_run_24 : decode cX8_run 24 = .ok (.iconst 0, 1) := by decide +kernel
theorem dX8_run_25 : decode cX8_run 25 = .ok (.istore_n 3, 1) := by decide +kernel
theorem dX8_run_26 : decode cX8_run 26 = .ok (.iconst 1, 1) := by decide +kernel
theorem dX8_run_27 : decode cX8_run 27 = .ok (.istore 4, 2) := by decide +kernel
theorem dX8_run_29 : decode cX8_run 29 = .ok (.aload_n 0, 1) := by decide +kernel
theorem dX8_run_30 : decode cX8_run 30 = .ok (.invokevirtual 137, 3) := by decide +kernel
theorem dX8_run_33 : decode cX8_run 33 = .ok (.iload 4, 2) := by decide +kernel
theorem dX8_run_35 : decode cX8_run 35 = .ok (.ifCond .eq 106, 3) := by decide +kernel
theorem dX8_run_38 : decode cX8_run 38 = .ok (.iload_n 3, 1) := by decide +kernel
theorem dX8_run_39 : decode cX8_run 39 = .ok (.iload_n 2, 1) := by decide +kernel
theorem dX8_run_40 : decode cX8_run 40 = .ok (.if_icmp .ge 101, 3) := by decide +kernel
theorem dX8_run_43 : decode cX8_run 43 = .ok (.aload_n 0, 1) := by decide +kernel
theorem dX8_run_44 : decode cX8_run 44 = .ok (.getfield 29, 3) := by decide +kernel
theorem dX8_run_47 : decode cX8_run 47 = .ok (.sipush (-1000), 3) := by decide +kernel
theorem dX8_run_50 : decode cX8_run 50 = .ok (.if_icmp .ne 91, 3) := by decide +kernel
theorem dX8_run_53 : decode cX8_run 53 = .ok (.aload_n 0, 1) := by decide +kernel
theorem dX8_run_54 : decode cX8_run 54 = .ok (.getfield 70, 3) := by decide +kernel
theorem dX8_run_57 : decode cX8_run 57 = .ok (.istore 5, 2) := by decide +kernel
theorem dX8_run_59 : decode cX8_run 59 = .ok (.aload_n 0, 1) := by decide +kernel
theorem dX8_run_60 : decode cX8_run 60 = .ok (.dup, 1) := by decide +kernel
theorem dX8_run_61 : decode cX8_run 61 = .ok (.getfield 67, 3) := by decide +kernel
theorem dX8_run_64 : decode cX8_run 64 = .ok (.iconst 1, 1) := by decide +kernel
theorem dX8_run_65 : decode cX8_run 65 = .ok (.iadd, 1) := by decide +kernel
theorem dX8_run_66 : decode cX8_run 66 = .ok (.putfield 67, 3) := by decide +kernel
theorem dX8_run_69 : decode cX8_run 69 = .ok (.iinc 3 1, 3) := by decide +kernel
theorem dX8_run_72 : decode cX8_run 72 = .ok (.iconst 0, 1) := by decide +kernel
theorem dX8_run_73 : decode cX8_run 73 = .ok (.istore 6, 2) := by decide +kernel
theorem dX8_run_75 : decode cX8_run 75 = .ok (.iload 6, 2) := by decide +kernel
theorem dX8_run_77 : decode cX8_run 77 = .ok (.aload_n 0, 1) := by decide +kernel
theorem dX8_run_78 : decode cX8_run 78 = .ok (.getfield 64, 3) := by decide +kernel
theorem dX8_run_81 : decode cX8_run 81 = .ok (.if_icmp .ge 41, 3) := by decide +kernel
theorem dX8_run_84 : decode cX8_run 84 = .ok (.aload_n 0, 1) := by decide +kernel
theorem dX8_run_85 : decode cX8_run 85 = .ok (.getfield 29, 3) := by decide +kernel
theorem dX8_run_88 : decode cX8_run 88 = .ok (.sipush (-1000), 3) := by decide +kernel
theorem dX8_run_91 : decode cX8_run 91 = .ok (.if_icmp .ne 31, 3) := by decide +kernel
theorem dX8_run_94 : decode cX8_run 94 = .ok (.aload_n 0, 1) := by decide +kernel
theorem dX8_run_95 : decode cX8_run 95 = .ok (.iload_n 1, 1) := by decide +kernel
theorem dX8_run_96 : decode cX8_run 96 = .ok (.ifCond .ne 8, 3) := by decide +kernel
theorem dX8_run_99 : decode cX8_run 99 = .ok (.iload 6, 2) := by decide +kernel
theorem dX8_run_101 : decode cX8_run 101 = .ok (.goto 12, 3) := by decide +kernel
theorem dX8_run_104 : decode cX8_run 104 = .ok (.aload_n 0, 1) := by decide +kernel
theorem dX8_run_105 : decode cX8_run 105 = .ok (.getfield 64, 3) := by decide +kernel
theorem dX8_run_108 : decode cX8_run 108 = .ok (.iconst 1, 1) := by decide +kernel
theorem dX8_run_109 : decode cX8_run 109 = .ok (.isub, 1) := by decide +kernel
theorem dX8_run_110 : decode cX8_run 110 = .ok (.iload 6, 2) := by decide +kernel
theorem dX8_run_112 : decode cX8_run 112 = .ok (.isub, 1) := by decide +kernel
theorem dX8_run_113 : decode cX8_run 113 = .ok (.invokevirtual 144, 3) := by decide +kernel
theorem dX8_run_116 : decode cX8_run 116 = .ok (.iinc 6 1, 3) := by decide +kernel
theorem dX8_run_119 : decode cX8_run 119 = .ok (.goto (-44), 3) := by decide +kernel
theorem dX8_run_122 : decode cX8_run 122 = .ok (.aload_n 0, 1) := by decide +kernel
theorem dX8_run_123 : decode cX8_run 123 = .ok (.getfield 70, 3) := by decide +kernel
theorem dX8_run_126 : decode cX8_run 126 = .ok (.iload 5, 2) := by decide +kernel
theorem dX8_run_128 : decode cX8_run 128 = .ok (.if_icmp .le 7, 3) := by decide +kernel
theorem dX8_run_131 : decode cX8_run 131 = .ok (.iconst 1, 1) := by decide +kernel
theorem dX8_run_132 : decode cX8_run 132 = .ok (.goto 4, 3) := by decide +kernel
theorem dX8_run_135 : decode cX8_run 135 = .ok (.iconst 0, 1) := by decide +kernel
theorem dX8_run_136 : decode cX8_run 136 = .ok (.istore 4, 2) := by decide +kernel
theorem dX8_run_138 : decode cX8_run 138 = .ok (.goto (-105), 3) := by decide +kernel
theorem dX8_run_141 : decode cX8_run 141 = .ok (.aload_n 0, 1) := by decide +kernel
theorem dX8_run_142 : decode cX8_run 142 = .ok (.getfield 29, 3) := by decide +kernel
theorem dX8_run_145 : decode cX8_run 145 = .ok (.sipush (-1000), 3) := by decide +kernel
theorem dX8_run_148 : decode cX8_run 148 = .ok (.if_icmp .ne 7, 3) := by decide +kernel
theorem dX8_run_151 : decode cX8_run 151 = .ok (.iload_n 3, 1) := by decide +kernel
theorem dX8_run_152 : decode cX8_run 152 = .ok (.goto 4, 3) := by decide +kernel
theorem dX8_run_155 : decode cX8_run 155 = .ok (.iconst 0, 1) := by decide +kernel
theorem dX8_run_156 : decode cX8_run 156 = .ok (.ireturn, 1) := by decide +kernel
theorem dX8_clash_0 : decode cX8_clash 0 = .ok (.aload_n 0, 1) := by decide +kernel
theorem dX8_clash_1 : decode cX8_clash 1 = .ok (.getfield 29, 3) := by decide +kernel
theorem dX8_clash_4 : decode cX8_clash 4 = .ok (.ireturn, 1) := by decide +kernel
theorem dX8_has_0 : decode cX8_has 0 = .ok (.aload_n 0, 1) := by decide +kernel
theorem dX8_has_1 : decode cX8_has 1 = .ok (.iload_n 1, 1) := by decide +kernel
theorem dX8_has_2 : decode cX8_has 2 = .ok (.invokevirtual 76, 3) := by decide +kernel
theorem dX8_has_5 : decode cX8_has 5 = .ok (.ifCond .ne 9, 3) := by decide +kernel
theorem dX8_has_8 : decode cX8_has 8 = .ok (.sipush (-1001), 3) := by decide +kernel
theorem dX8_has_11 : decode cX8_has 11 = .ok (.goto 36, 3) := by decide +kernel
theorem dX8_has_14 : decode cX8_has 14 = .ok (.iload_n 2, 1) := by decide +kernel
theorem dX8_has_15 : decode cX8_has 15 = .ok (.bipush (-32), 2) := by decide +kernel
theorem dX8_has_17 : decode cX8_has 17 = .ok (.bipush 31, 2) := by decide +kernel
theorem dX8_has_19 : decode cX8_has 19 = .ok (.invokestatic 60, 3) := by decide +kernel
theorem dX8_has_22 : decode cX8_has 22 = .ok (.ifCond .eq 24, 3) := by decide +kernel
theorem dX8_has_25 : decode cX8_has 25 = .ok (.aload_n 0, 1) := by decide +kernel
theorem dX8_has_26 : decode cX8_has 26 = .ok (.getfield 13, 3) := by decide +kernel
theorem dX8_has_29 : decode cX8_has 29 = .ok (.bipush 64, 2) := by decide +kernel
theorem dX8_has_31 : decode cX8_has 31 = .ok (.iload_n 1, 1) := by decide +kernel
theorem dX8_has_32 : decode cX8_has 32 = .ok (.imul, 1) := by decide +kernel
theorem dX8_has_33 : decode cX8_has 33 = .ok (.iload_n 2, 1) := by decide +kernel
theorem dX8_has_34 : decode cX8_has 34 = .ok (.iadd, 1) := by decide +kernel
theorem dX8_has_35 : decode cX8_has 35 = .ok (.bipush 32, 2) := by decide +kernel
theorem dX8_has_37 : decode cX8_has 37 = .ok (.iadd, 1) := by decide +kernel
theorem dX8_has_38 : decode cX8_has 38 = .ok (.baload, 1) := by decide +kernel
theorem dX8_has_39 : decode cX8_has 39 = .ok (.ifCond .eq 7, 3) := by decide +kernel
theorem dX8_has_42 : decode cX8_has 42 = .ok (.iconst 1, 1) := by decide +kernel
theorem dX8_has_43 : decode cX8_has 43 = .ok (.goto 4, 3) := by decide +kernel
theorem dX8_has_46 : decode cX8_has 46 = .ok (.iconst 0, 1) := by decide +kernel
theorem dX8_has_47 : decode cX8_has 47 = .ok (.ireturn, 1) := by decide +kernel
theorem dX8_end_0 : decode cX8_end 0 = .ok (.aload_n 0, 1) := by decide +kernel
theorem dX8_end_1 : decode cX8_end 1 = .ok (.iload_n 1, 1) := by decide +kernel
theorem dX8_end_2 : decode cX8_end 2 = .ok (.invokevirtual 76, 3) := by decide +kernel
theorem dX8_end_5 : decode cX8_end 5 = .ok (.ifCond .ne 9, 3) := by decide +kernel
theorem dX8_end_8 : decode cX8_end 8 = .ok (.sipush (-1001), 3) := by decide +kernel
theorem dX8_end_11 : decode cX8_end 11 = .ok (.goto 22, 3) := by decide +kernel
theorem dX8_end_14 : decode cX8_end 14 = .ok (.iload_n 2, 1) := by decide +kernel
theorem dX8_end_15 : decode cX8_end 15 = .ok (.ifCond .eq 12, 3) := by decide +kernel
theorem dX8_end_18 : decode cX8_end 18 = .ok (.aload_n 0, 1) := by decide +kernel
theorem dX8_end_19 : decode cX8_end 19 = .ok (.iload_n 1, 1) := by decide +kernel
theorem dX8_end_20 : decode cX8_end 20 = .ok (.iconst 0, 1) := by decide +kernel
theorem dX8_end_21 : decode cX8_end 21 = .ok (.invokevirtual 124, 3) := by decide +kernel
theorem dX8_end_24 : decode cX8_end 24 = .ok (.goto 9, 3) := by decide +kernel
theorem dX8_end_27 : decode cX8_end 27 = .ok (.aload_n 0, 1) := by decide +kernel
theorem dX8_end_28 : decode cX8_end 28 = .ok (.iload_n 1, 1) := by decide +kernel
theorem dX8_end_29 : decode cX8_end 29 = .ok (.iconst 0, 1) := by decide +kernel
theorem dX8_end_30 : decode cX8_end 30 = .ok (.invokevirtual 121, 3) := by decide +kernel
theorem dX8_end_33 : decode cX8_end 33 = .ok (.ireturn, 1) := by decide +kernel
theorem dX8_size_0 : decode cX8_size 0 = .ok (.aload_n 0, 1) := by decide +kernel
theorem dX8_size_1 : decode cX8_size 1 = .ok (.iload_n 1, 1) := by decide +kernel
theorem dX8_size_2 : decode cX8_size 2 = .ok (.invokevirtual 76, 3) := by decide +kernel
theorem dX8_size_5 : decode cX8_size 5 = .ok (.ifCond .eq 12, 3) := by decide +kernel
theorem dX8_size_8 : decode cX8_size 8 = .ok (.aload_n 0, 1) := by decide +kernel
theorem dX8_size_9 : decode cX8_size 9 = .ok (.iload_n 1, 1) := by decide +kernel
theorem dX8_size_10 : decode cX8_size 10 = .ok (.iconst 0, 1) := by decide +kernel
theorem dX8_size_11 : decode cX8_size 11 = .ok (.invokevirtual 80, 3) := by decide +kernel
theorem dX8_size_14 : decode cX8_size 14 = .ok (.goto 6, 3) := by decide +kernel
theorem dX8_size_17 : decode cX8_size 17 = .ok (.sipush (-1001), 3) := by decide +kernel
theorem dX8_size_20 : decode cX8_size 20 = .ok (.ireturn, 1) := by decide +kernel
theorem dX8_steps_0 : decode cX8_steps 0 = .ok (.aload_n 0, 1) := by decide +kernel
theorem dX8_steps_1 : decode cX8_steps 1 = .ok (.getfield 70, 3) := by decide +kernel
theorem dX8_steps_4 : decode cX8_steps 4 = .ok (.ireturn, 1) := by decide +kernel
theorem dX8_step_0 : decode cX8_step 0 = .ok (.iload_n 1, 1) := by decide +kernel
theorem dX8_step_1 : decode cX8_step 1 = .ok (.iconst 0, 1) := by decide +kernel
theorem dX8_step_2 : decode cX8_step 2 = .ok (.aload_n 0, 1) := by decide +kernel
theorem dX8_step_3 : decode cX8_step 3 = .ok (.getfield 70, 3) := by decide +kernel
theorem dX8_step_6 : decode cX8_step 6 = .ok (.iconst 1, 1) := by decide +kernel
theorem dX8_step_7 : decode cX8_step 7 = .ok (.isub, 1) := by decide +kernel
theorem dX8_step_8 : decode cX8_step 8 = .ok (.invokestatic 60, 3) := by decide +kernel
theorem dX8_step_11 : decode cX8_step 11 = .ok (.ifCond .eq 12, 3) := by decide +kernel
theorem dX8_step_14 : decode cX8_step 14 = .ok (.iload_n 2, 1) := by decide +kernel
theorem dX8_step_15 : decode cX8_step 15 = .ok (.iconst 0, 1) := by decide +kernel
theorem dX8_step_16 : decode cX8_step 16 = .ok (.iconst 3, 1) := by decide +kernel
theorem dX8_step_17 : decode cX8_step 17 = .ok (.invokestatic 60, 3) := by decide +kernel
theorem dX8_step_20 : decode cX8_step 20 = .ok (.ifCond .ne 7, 3) := by decide +kernel
theorem dX8_step_23 : decode cX8_step 23 = .ok (.sipush (-1001), 3) := by decide +kernel
theorem dX8_step_26 : decode cX8_step 26 = .ok (.ireturn, 1) := by decide +kernel
theorem dX8_step_27 : decode cX8_step 27 = .ok (.iload_n 2, 1) := by decide +kernel
theorem dX8_step_28 : decode cX8_step 28 = .ok (.ifCond .ne 12, 3) := by decide +kernel
theorem dX8_step_31 : decode cX8_step 31 = .ok (.aload_n 0, 1) := by decide +kernel
theorem dX8_step_32 : decode cX8_step 32 = .ok (.getfield 33, 3) := by decide +kernel
theorem dX8_step_35 : decode cX8_step 35 = .ok (.iload_n 1, 1) := by decide +kernel
theorem dX8_step_36 : decode cX8_step 36 = .ok (.iaload, 1) := by decide +kernel
theorem dX8_step_37 : decode cX8_step 37 = .ok (.goto 37, 3) := by decide +kernel
theorem dX8_step_40 : decode cX8_step 40 = .ok (.iload_n 2, 1) := by decide +kernel
theorem dX8_step_41 : decode cX8_step 41 = .ok (.iconst 1, 1) := by decide +kernel
theorem dX8_step_42 : decode cX8_step 42 = .ok (.if_icmp .ne 12, 3) := by decide +kernel
theorem dX8_step_45 : decode cX8_step 45 = .ok (.aload_n 0, 1) := by decide +kernel
theorem dX8_step_46 : decode cX8_step 46 = .ok (.getfield 36, 3) := by decide +kernel
theorem dX8_step_49 : decode cX8_step 49 = .ok (.iload_n 1, 1) := by decide +kernel
theorem dX8_step_50 : decode cX8_step 50 = .ok (.iaload, 1) := by decide +kernel
theorem dX8_step_51 : decode cX8_step 51 = .ok (.goto 23, 3) := by decide +kernel
theorem dX8_step_54 : decode cX8_step 54 = .ok (.iload_n 2, 1) := by decide +kernel
theorem dX8_step_55 : decode cX8_step 55 = .ok (.iconst 2, 1) := by decide +kernel
theorem dX8_step_56 : decode cX8_step 56 = .ok (.if_icmp .ne 12, 3) := by decide +kernel
theorem dX8_step_59 : decode cX8_step 59 = .ok (.aload_n 0, 1) := by decide +kernel
theorem dX8_step_60 : decode cX8_step 60 = .ok (.getfield 39, 3) := by decide +kernel
theorem dX8_step_63 : decode cX8_step 63 = .ok (.iload_n 1, 1) := by decide +kernel
theorem dX8_step_64 : decode cX8_step 64 = .ok (.iaload, 1) := by decide +kernel
theorem dX8_step_65 : decode cX8_step 65 = .ok (.goto 9, 3) := by decide +kernel
theorem dX8_step_68 : decode cX8_step 68 = .ok (.aload_n 0, 1) := by decide +kernel
theorem dX8_step_69 : decode cX8_step 69 = .ok (.getfield 42, 3) := by decide +kernel
theorem dX8_step_72 : decode cX8_step 72 = .ok (.iload_n 1, 1) := by decide +kernel
theorem dX8_step_73 : decode cX8_step 73 = .ok (.iaload, 1) := by decide +kernel
theorem dX8_step_74 : decode cX8_step 74 = .ok (.ireturn, 1) := by decide +kernel
theorem dX8_reason_0 : decode cX8_reason 0 = .ok (.iload_n 1, 1) := by decide +kernel
theorem dX8_reason_1 : decode cX8_reason 1 = .ok (.iconst 0, 1) := by decide +kernel
theorem dX8_reason_2 : decode cX8_reason 2 = .ok (.aload_n 0, 1) := by decide +kernel
theorem dX8_reason_3 : decode cX8_reason 3 = .ok (.getfield 70, 3) := by decide +kernel
theorem dX8_reason_6 : decode cX8_reason 6 = .ok (.iconst 1, 1) := by decide +kernel
theorem dX8_reason_7 : decode cX8_reason 7 = .ok (.isub, 1) := by decide +kernel
theorem dX8_reason_8 : decode cX8_reason 8 = .ok (.invokestatic 60, 3) := by decide +kernel
theorem dX8_reason_11 : decode cX8_reason 11 = .ok (.ifCond .ne 7, 3) := by decide +kernel
theorem dX8_reason_14 : decode cX8_reason 14 = .ok (.sipush (-1001), 3) := by decide +kernel
theorem dX8_reason_17 : decode cX8_reason 17 = .ok (.ireturn, 1) := by decide +kernel
theorem dX8_reason_18 : decode cX8_reason 18 = .ok (.iconst 0, 1) := by decide +kernel
theorem dX8_reason_19 : decode cX8_reason 19 = .ok (.istore_n 2, 1) := by decide +kernel
theorem dX8_reason_20 : decode cX8_reason 20 = .ok (.iconst 0, 1) := by decide +kernel
theorem dX8_reason_21 : decode cX8_reason 21 = .ok (.istore_n 3, 1) := by decide +kernel
theorem dX8_reason_22 : decode cX8_reason 22 = .ok (.iload_n 3, 1) := by decide +kernel
theorem dX8_reason_23 : decode cX8_reason 23 = .ok (.bipush 16, 2) := by decide +kernel
theorem dX8_reason_25 : decode cX8_reason 25 = .ok (.if_icmp .ge 31, 3) := by decide +kernel
theorem dX8_reason_28 : decode cX8_reason 28 = .ok (.iload_n 2, 1) := by decide +kernel
theorem dX8_reason_29 : decode cX8_reason 29 = .ok (.aload_n 0, 1) := by decide +kernel
theorem dX8_reason_30 : decode cX8_reason 30 = .ok (.getfield 45, 3) := by decide +kernel
theorem dX8_reason_33 : decode cX8_reason 33 = .ok (.bipush 16, 2) := by decide +kernel
theorem dX8_reason_35 : decode cX8_reason 35 = .ok (.iload_n 1, 1) := by decide +kernel
theorem dX8_reason_36 : decode cX8_reason 36 = .ok (.imul, 1) := by decide +kernel
theorem dX8_reason_37 : decode cX8_reason 37 = .ok (.iload_n 3, 1) := by decide +kernel
theorem dX8_reason_38 : decode cX8_reason 38 = .ok (.iadd, 1) := by decide +kernel
theorem dX8_reason_39 : decode cX8_reason 39 = .ok (.baload, 1) := by decide +kernel
theorem dX8_reason_40 : decode cX8_reason 40 = .ok (.ifCond .eq 7, 3) := by decide +kernel
theorem dX8_reason_43 : decode cX8_reason 43 = .ok (.iconst 1, 1) := by decide +kernel
theorem dX8_reason_44 : decode cX8_reason 44 = .ok (.goto 4, 3) := by decide +kernel
theorem dX8_reason_47 : decode cX8_reason 47 = .ok (.iconst 0, 1) := by decide +kernel
theorem dX8_reason_48 : decode cX8_reason 48 = .ok (.iadd, 1) := by decide +kernel
theorem dX8_reason_49 : decode cX8_reason 49 = .ok (.istore_n 2, 1) := by decide +kernel
theorem dX8_reason_50 : decode cX8_reason 50 = .ok (.iinc 3 1, 3) := by decide +kernel
theorem dX8_reason_53 : decode cX8_reason 53 = .ok (.goto (-31), 3) := by decide +kernel
theorem dX8_reason_56 : decode cX8_reason 56 = .ok (.iload_n 2, 1) := by decide +kernel
theorem dX8_reason_57 : decode cX8_reason 57 = .ok (.ireturn, 1) := by decide +kernel
theorem dX8_placeOf_0 : decode cX8_placeOf 0 = .ok (.iload_n 1, 1) := by decide +kernel
theorem dX8_placeOf_1 : decode cX8_placeOf 1 = .ok (.iconst 0, 1) := by decide +kernel
theorem dX8_placeOf_2 : decode cX8_placeOf 2 = .ok (.aload_n 0, 1) := by decide +kernel
theorem dX8_placeOf_3 : decode cX8_placeOf 3 = .ok (.getfield 70, 3) := by decide +kernel
theorem dX8_placeOf_6 : decode cX8_placeOf 6 = .ok (.iconst 1, 1) := by decide +kernel
theorem dX8_placeOf_7 : decode cX8_placeOf 7 = .ok (.isub, 1) := by decide +kernel
theorem dX8_placeOf_8 : decode cX8_placeOf 8 = .ok (.invokestatic 60, 3) := by decide +kernel
theorem dX8_placeOf_11 : decode cX8_placeOf 11 = .ok (.ifCond .eq 7, 3) := by decide +kernel
theorem dX8_placeOf_14 : decode cX8_placeOf 14 = .ok (.iload_n 2, 1) := by decide +kernel
theorem dX8_placeOf_15 : decode cX8_placeOf 15 = .ok (.ifCond .ge 7, 3) := by decide +kernel
theorem dX8_placeOf_18 : decode cX8_placeOf 18 = .ok (.sipush (-1000), 3) := by decide +kernel
theorem dX8_placeOf_21 : decode cX8_placeOf 21 = .ok (.ireturn, 1) := by decide +kernel
theorem dX8_placeOf_22 : decode cX8_placeOf 22 = .ok (.iload_n 2, 1) := by decide +kernel
theorem dX8_placeOf_23 : decode cX8_placeOf 23 = .ok (.istore_n 3, 1) := by decide +kernel
theorem dX8_placeOf_24 : decode cX8_placeOf 24 = .ok (.iconst 0, 1) := by decide +kernel
theorem dX8_placeOf_25 : decode cX8_placeOf 25 = .ok (.istore 4, 2) := by decide +kernel
theorem dX8_placeOf_27 : decode cX8_placeOf 27 = .ok (.iload 4, 2) := by decide +kernel
theorem dX8_placeOf_29 : decode cX8_placeOf 29 = .ok (.bipush 16, 2) := by decide +kernel
theorem dX8_placeOf_31 : decode cX8_placeOf 31 = .ok (.if_icmp .ge 34, 3) := by decide +kernel
theorem dX8_placeOf_34 : decode cX8_placeOf 34 = .ok (.aload_n 0, 1) := by decide +kernel
theorem dX8_placeOf_35 : decode cX8_placeOf 35 = .ok (.getfield 45, 3) := by decide +kernel
theorem dX8_placeOf_38 : decode cX8_placeOf 38 = .ok (.bipush 16, 2) := by decide +kernel
theorem dX8_placeOf_40 : decode cX8_placeOf 40 = .ok (.iload_n 1, 1) := by decide +kernel
theorem dX8_placeOf_41 : decode cX8_placeOf 41 = .ok (.imul, 1) := by decide +kernel
theorem dX8_placeOf_42 : decode cX8_placeOf 42 = .ok (.iload 4, 2) := by decide +kernel
theorem dX8_placeOf_44 : decode cX8_placeOf 44 = .ok (.iadd, 1) := by decide +kernel
theorem dX8_placeOf_45 : decode cX8_placeOf 45 = .ok (.baload, 1) := by decide +kernel
theorem dX8_placeOf_46 : decode cX8_placeOf 46 = .ok (.ifCond .eq 13, 3) := by decide +kernel
theorem dX8_placeOf_49 : decode cX8_placeOf 49 = .ok (.iload_n 3, 1) := by decide +kernel
theorem dX8_placeOf_50 : decode cX8_placeOf 50 = .ok (.ifCond .ne 6, 3) := by decide +kernel
theorem dX8_placeOf_53 : decode cX8_placeOf 53 = .ok (.iload 4, 2) := by decide +kernel
theorem dX8_placeOf_55 : decode cX8_placeOf 55 = .ok (.ireturn, 1) := by decide +kernel
theorem dX8_placeOf_56 : decode cX8_placeOf 56 = .ok (.iinc 3 (-1), 3) := by decide +kernel
theorem dX8_placeOf_59 : decode cX8_placeOf 59 = .ok (.iinc 4 1, 3) := by decide +kernel
theorem dX8_placeOf_62 : decode cX8_placeOf 62 = .ok (.goto (-35), 3) := by decide +kernel
theorem dX8_placeOf_65 : decode cX8_placeOf 65 = .ok (.sipush (-1000), 3) := by decide +kernel
theorem dX8_placeOf_68 : decode cX8_placeOf 68 = .ok (.ireturn, 1) := by decide +kernel
theorem dX8_part_0 : decode cX8_part 0 = .ok (.aload_n 0, 1) := by decide +kernel
theorem dX8_part_1 : decode cX8_part 1 = .ok (.iload_n 1, 1) := by decide +kernel
theorem dX8_part_2 : decode cX8_part 2 = .ok (.iload_n 2, 1) := by decide +kernel
theorem dX8_part_3 : decode cX8_part 3 = .ok (.invokevirtual 148, 3) := by decide +kernel
theorem dX8_part_6 : decode cX8_part 6 = .ok (.istore_n 3, 1) := by decide +kernel
theorem dX8_part_7 : decode cX8_part 7 = .ok (.iload_n 3, 1) := by decide +kernel
theorem dX8_part_8 : decode cX8_part 8 = .ok (.sipush (-1000), 3) := by decide +kernel
theorem dX8_part_11 : decode cX8_part 11 = .ok (.if_icmp .ne 9, 3) := by decide +kernel
theorem dX8_part_14 : decode cX8_part 14 = .ok (.sipush (-1001), 3) := by decide +kernel
theorem dX8_part_17 : decode cX8_part 17 = .ok (.goto 4, 3) := by decide +kernel
theorem dX8_part_20 : decode cX8_part 20 = .ok (.iload_n 3, 1) := by decide +kernel
theorem dX8_part_21 : decode cX8_part 21 = .ok (.ireturn, 1) := by decide +kernel
theorem dX8_told_0 : decode cX8_told 0 = .ok (.aload_n 0, 1) := by decide +kernel
theorem dX8_told_1 : decode cX8_told 1 = .ok (.iload_n 1, 1) := by decide +kernel
theorem dX8_told_2 : decode cX8_told 2 = .ok (.iload_n 2, 1) := by decide +kernel
theorem dX8_told_3 : decode cX8_told 3 = .ok (.invokevirtual 148, 3) := by decide +kernel
theorem dX8_told_6 : decode cX8_told 6 = .ok (.istore_n 3, 1) := by decide +kernel
theorem dX8_told_7 : decode cX8_told 7 = .ok (.iload_n 3, 1) := by decide +kernel
theorem dX8_told_8 : decode cX8_told 8 = .ok (.sipush (-1000), 3) := by decide +kernel
theorem dX8_told_11 : decode cX8_told 11 = .ok (.if_icmp .ne 9, 3) := by decide +kernel
theorem dX8_told_14 : decode cX8_told 14 = .ok (.sipush (-1001), 3) := by decide +kernel
theorem dX8_told_17 : decode cX8_told 17 = .ok (.goto 14, 3) := by decide +kernel
theorem dX8_told_20 : decode cX8_told 20 = .ok (.aload_n 0, 1) := by decide +kernel
theorem dX8_told_21 : decode cX8_told 21 = .ok (.getfield 48, 3) := by decide +kernel
theorem dX8_told_24 : decode cX8_told 24 = .ok (.bipush 16, 2) := by decide +kernel
theorem dX8_told_26 : decode cX8_told 26 = .ok (.iload_n 1, 1) := by decide +kernel
theorem dX8_told_27 : decode cX8_told 27 = .ok (.imul, 1) := by decide +kernel
theorem dX8_told_28 : decode cX8_told 28 = .ok (.iload_n 3, 1) := by decide +kernel
theorem dX8_told_29 : decode cX8_told 29 = .ok (.iadd, 1) := by decide +kernel
theorem dX8_told_30 : decode cX8_told 30 = .ok (.iaload, 1) := by decide +kernel
theorem dX8_told_31 : decode cX8_told 31 = .ok (.ireturn, 1) := by decide +kernel
end
section
theorem dX8_nextPlan_0 : decode cX8_nextPlan 0 = .ok (.aload_n 0, 1) := by decide +kernel
theorem dX8_nextPlan_1 : decode cX8_nextPlan 1 = .ok (.getfield 57, 3) := by decide +kernel
theorem dX8_nextPlan_4 : decode cX8_nextPlan 4 = .ok (.iconst 1, 1) := by decide +kernel
theorem dX8_nextPlan_5 : decode cX8_nextPlan 5 = .ok (.isub, 1) := by decide +kernel
theorem dX8_nextPlan_6 : decode cX8_nextPlan 6 = .ok (.istore_n 1, 1) := by decide +kernel
theorem dX8_nextPlan_7 : decode cX8_nextPlan 7 = .ok (.iload_n 1, 1) := by decide +kernel
theorem dX8_nextPlan_8 : decode cX8_nextPlan 8 = .ok (.ifCond .lt 92, 3) := by decide +kernel
theorem dX8_nextPlan_11 : decode cX8_nextPlan 11 = .ok (.iconst 1, 1) := by decide +kernel
theorem dX8_nextPlan_12 : decode cX8_nextPlan 12 = .ok (.istore_n 2, 1) := by decide +kernel
theorem dX8_nextPlan_13 : decode cX8_nextPlan 13 = .ok (.iload_n 2, 1) := by decide +kernel
theorem dX8_nextPlan_14 : decode cX8_nextPlan 14 = .ok (.ifCond .eq 55, 3) := by decide +kernel
theorem dX8_nextPlan_17 : decode cX8_nextPlan 17 = .ok (.aload_n 0, 1) := by decide +kernel
theorem dX8_nextPlan_18 : decode cX8_nextPlan 18 = .ok (.getfield 51, 3) := by decide +kernel
theorem dX8_nextPlan_21 : decode cX8_nextPlan 21 = .ok (.iload_n 1, 1) := by decide +kernel
theorem dX8_nextPlan_22 : decode cX8_nextPlan 22 = .ok (.dup2, 1) := by decide +kernel
theorem dX8_nextPlan_23 : decode cX8_nextPlan 23 = .ok (.iaload, 1) := by decide +kernel
theorem dX8_nextPlan_24 : decode cX8_nextPlan 24 = .ok (.iconst 1, 1) := by decide +kernel
theorem dX8_nextPlan_25 : decode cX8_nextPlan 25 = .ok (.iadd, 1) := by decide +kernel
theorem dX8_nextPlan_26 : decode cX8_nextPlan 26 = .ok (.iastore, 1) := by decide +kernel
theorem dX8_nextPlan_27 : decode cX8_nextPlan 27 = .ok (.aload_n 0, 1) := by decide +kernel
theorem dX8_nextPlan_28 : decode cX8_nextPlan 28 = .ok (.getfield 51, 3) := by decide +kernel
theorem dX8_nextPlan_31 : decode cX8_nextPlan 31 = .ok (.iload_n 1, 1) := by decide +kernel
theorem dX8_nextPlan_32 : decode cX8_nextPlan 32 = .ok (.iaload, 1) := by decide +kernel
theorem dX8_nextPlan_33 : decode cX8_nextPlan 33 = .ok (.bipush 31, 2) := by decide +kernel
theorem dX8_nextPlan_35 : decode cX8_nextPlan 35 = .ok (.if_icmp .gt 29, 3) := by decide +kernel
theorem dX8_nextPlan_38 : decode cX8_nextPlan 38 = .ok (.aload_n 0, 1) := by decide +kernel
theorem dX8_nextPlan_39 : decode cX8_nextPlan 39 = .ok (.getfield 13, 3) := by decide +kernel
theorem dX8_nextPlan_42 : decode cX8_nextPlan 42 = .ok (.bipush 64, 2) := by decide +kernel
theorem dX8_nextPlan_44 : decode cX8_nextPlan 44 = .ok (.iload_n 1, 1) := by decide +kernel
theorem dX8_nextPlan_45 : decode cX8_nextPlan 45 = .ok (.imul, 1) := by decide +kernel
theorem dX8_nextPlan_46 : decode cX8_nextPlan 46 = .ok (.aload_n 0, 1) := by decide +kernel
theorem dX8_nextPlan_47 : decode cX8_nextPlan 47 = .ok (.getfield 51, 3) := by decide +kernel
theorem dX8_nextPlan_50 : decode cX8_nextPlan 50 = .ok (.iload_n 1, 1) := by decide +kernel
theorem dX8_nextPlan_51 : decode cX8_nextPlan 51 = .ok (.iaload, 1) := by decide +kernel
theorem dX8_nextPlan_52 : decode cX8_nextPlan 52 = .ok (.iadd, 1) := by decide +kernel
theorem dX8_nextPlan_53 : decode cX8_nextPlan 53 = .ok (.bipush 32, 2) := by decide +kernel
theorem dX8_nextPlan_55 : decode cX8_nextPlan 55 = .ok (.iadd, 1) := by decide +kernel
theorem dX8_nextPlan_56 : decode cX8_nextPlan 56 = .ok (.baload, 1) := by decide +kernel
theorem dX8_nextPlan_57 : decode cX8_nextPlan 57 = .ok (.ifCond .ne 7, 3) := by decide +kernel
theorem dX8_nextPlan_60 : decode cX8_nextPlan 60 = .ok (.iconst 1, 1) := by decide +kernel
theorem dX8_nextPlan_61 : decode cX8_nextPlan 61 = .ok (.goto 4, 3) := by decide +kernel
theorem dX8_nextPlan_64 : decode cX8_nextPlan 64 = .ok (.iconst 0, 1) := by decide +kernel
theorem dX8_nextPlan_65 : decode cX8_nextPlan 65 = .ok (.istore_n 2, 1) := by decide +kernel
theorem dX8_nextPlan_66 : decode cX8_nextPlan 66 = .ok (.goto (-53), 3) := by decide +kernel
theorem dX8_nextPlan_69 : decode cX8_nextPlan 69 = .ok (.aload_n 0, 1) := by decide +kernel
theorem dX8_nextPlan_70 : decode cX8_nextPlan 70 = .ok (.getfield 51, 3) := by decide +kernel
theorem dX8_nextPlan_73 : decode cX8_nextPlan 73 = .ok (.iload_n 1, 1) := by decide +kernel
theorem dX8_nextPlan_74 : decode cX8_nextPlan 74 = .ok (.iaload, 1) := by decide +kernel
theorem dX8_nextPlan_75 : decode cX8_nextPlan 75 = .ok (.bipush 31, 2) := by decide +kernel
theorem dX8_nextPlan_77 : decode cX8_nextPlan 77 = .ok (.if_icmp .gt 5, 3) := by decide +kernel
theorem dX8_nextPlan_80 : decode cX8_nextPlan 80 = .ok (.iconst 1, 1) := by decide +kernel
theorem dX8_nextPlan_81 : decode cX8_nextPlan 81 = .ok (.ireturn, 1) := by decide +kernel
theorem dX8_nextPlan_82 : decode cX8_nextPlan 82 = .ok (.aload_n 0, 1) := by decide +kernel
theorem dX8_nextPlan_83 : decode cX8_nextPlan 83 = .ok (.getfield 51, 3) := by decide +kernel
theorem dX8_nextPlan_86 : decode cX8_nextPlan 86 = .ok (.iload_n 1, 1) := by decide +kernel
theorem dX8_nextPlan_87 : decode cX8_nextPlan 87 = .ok (.aload_n 0, 1) := by decide +kernel
theorem dX8_nextPlan_88 : decode cX8_nextPlan 88 = .ok (.iload_n 1, 1) := by decide +kernel
theorem dX8_nextPlan_89 : decode cX8_nextPlan 89 = .ok (.iconst 0, 1) := by decide +kernel
theorem dX8_nextPlan_90 : decode cX8_nextPlan 90 = .ok (.invokevirtual 121, 3) := by decide +kernel
theorem dX8_nextPlan_93 : decode cX8_nextPlan 93 = .ok (.iastore, 1) := by decide +kernel
theorem dX8_nextPlan_94 : decode cX8_nextPlan 94 = .ok (.iinc 1 (-1), 3) := by decide +kernel
theorem dX8_nextPlan_97 : decode cX8_nextPlan 97 = .ok (.goto (-90), 3) := by decide +kernel
theorem dX8_nextPlan_100 : decode cX8_nextPlan 100 = .ok (.iconst 0, 1) := by decide +kernel
theorem dX8_nextPlan_101 : decode cX8_nextPlan 101 = .ok (.ireturn, 1) := by decide +kernel
theorem dX8_holds_0 : decode cX8_holds 0 = .ok (.iconst 0, 1) := by decide +kernel
theorem dX8_holds_1 : decode cX8_holds 1 = .ok (.istore_n 2, 1) := by decide +kernel
theorem dX8_holds_2 : decode cX8_holds 2 = .ok (.iload_n 2, 1) := by decide +kernel
theorem dX8_holds_3 : decode cX8_holds 3 = .ok (.aload_n 0, 1) := by decide +kernel
theorem dX8_holds_4 : decode cX8_holds 4 = .ok (.getfield 57, 3) := by decide +kernel
theorem dX8_holds_7 : decode cX8_holds 7 = .ok (.if_icmp .ge 21, 3) := by decide +kernel
theorem dX8_holds_10 : decode cX8_holds 10 = .ok (.aload_n 0, 1) := by decide +kernel
theorem dX8_holds_11 : decode cX8_holds 11 = .ok (.getfield 54, 3) := by decide +kernel
theorem dX8_holds_14 : decode cX8_holds 14 = .ok (.iload_n 2, 1) := by decide +kernel
theorem dX8_holds_15 : decode cX8_holds 15 = .ok (.aload_n 0, 1) := by decide +kernel
theorem dX8_holds_16 : decode cX8_holds 16 = .ok (.getfield 51, 3) := by decide +kernel
theorem dX8_holds_19 : decode cX8_holds 19 = .ok (.iload_n 2, 1) := by decide +kernel
theorem dX8_holds_20 : decode cX8_holds 20 = .ok (.iaload, 1) := by decide +kernel
theorem dX8_holds_21 : decode cX8_holds 21 = .ok (.iastore, 1) := by decide +kernel
theorem dX8_holds_22 : decode cX8_holds 22 = .ok (.iinc 2 1, 3) := by decide +kernel
theorem dX8_holds_25 : decode cX8_holds 25 = .ok (.goto (-23), 3) := by decide +kernel
theorem dX8_holds_28 : decode cX8_holds 28 = .ok (.aload_n 0, 1) := by decide +kernel
theorem dX8_holds_29 : decode cX8_holds 29 = .ok (.iload_n 1, 1) := by decide +kernel
theorem dX8_holds_30 : decode cX8_holds 30 = .ok (.invokevirtual 118, 3) := by decide +kernel
theorem dX8_holds_33 : decode cX8_holds 33 = .ok (.ireturn, 1) := by decide +kernel
theorem dX8_plans_0 : decode cX8_plans 0 = .ok (.iconst 1, 1) := by decide +kernel
theorem dX8_plans_1 : decode cX8_plans 1 = .ok (.istore_n 1, 1) := by decide +kernel
theorem dX8_plans_2 : decode cX8_plans 2 = .ok (.iconst 0, 1) := by decide +kernel
theorem dX8_plans_3 : decode cX8_plans 3 = .ok (.istore_n 2, 1) := by decide +kernel
theorem dX8_plans_4 : decode cX8_plans 4 = .ok (.iload_n 2, 1) := by decide +kernel
theorem dX8_plans_5 : decode cX8_plans 5 = .ok (.aload_n 0, 1) := by decide +kernel
theorem dX8_plans_6 : decode cX8_plans 6 = .ok (.getfield 57, 3) := by decide +kernel
theorem dX8_plans_9 : decode cX8_plans 9 = .ok (.if_icmp .ge 43, 3) := by decide +kernel
theorem dX8_plans_12 : decode cX8_plans 12 = .ok (.aload_n 0, 1) := by decide +kernel
theorem dX8_plans_13 : decode cX8_plans 13 = .ok (.iload_n 2, 1) := by decide +kernel
theorem dX8_plans_14 : decode cX8_plans 14 = .ok (.iconst 0, 1) := by decide +kernel
theorem dX8_plans_15 : decode cX8_plans 15 = .ok (.invokevirtual 80, 3) := by decide +kernel
theorem dX8_plans_18 : decode cX8_plans 18 = .ok (.istore_n 3, 1) := by decide +kernel
theorem dX8_plans_19 : decode cX8_plans 19 = .ok (.iload_n 1, 1) := by decide +kernel
theorem dX8_plans_20 : decode cX8_plans 20 = .ok (.ifCond .eq 7, 3) := by decide +kernel
theorem dX8_plans_23 : decode cX8_plans 23 = .ok (.iload_n 3, 1) := by decide +kernel
theorem dX8_plans_24 : decode cX8_plans 24 = .ok (.ifCond .ne 7, 3) := by decide +kernel
theorem dX8_plans_27 : decode cX8_plans 27 = .ok (.iconst 0, 1) := by decide +kernel
theorem dX8_plans_28 : decode cX8_plans 28 = .ok (.goto 17, 3) := by decide +kernel
theorem dX8_plans_31 : decode cX8_plans 31 = .ok (.iload_n 1, 1) := by decide +kernel
theorem dX8_plans_32 : decode cX8_plans 32 = .ok (.sipush 4000, 3) := by decide +kernel
theorem dX8_plans_35 : decode cX8_plans 35 = .ok (.if_icmp .le 7, 3) := by decide +kernel
theorem dX8_plans_38 : decode cX8_plans 38 = .ok (.iload_n 1, 1) := by decide +kernel
theorem dX8_plans_39 : decode cX8_plans 39 = .ok (.goto 6, 3) := by decide +kernel
theorem dX8_plans_42 : decode cX8_plans 42 = .ok (.iload_n 1, 1) := by decide +kernel
theorem dX8_plans_43 : decode cX8_plans 43 = .ok (.iload_n 3, 1) := by decide +kernel
theorem dX8_plans_44 : decode cX8_plans 44 = .ok (.imul, 1) := by decide +kernel
theorem dX8_plans_45 : decode cX8_plans 45 = .ok (.istore_n 1, 1) := by decide +kernel
theorem dX8_plans_46 : decode cX8_plans 46 = .ok (.iinc 2 1, 3) := by decide +kernel
theorem dX8_plans_49 : decode cX8_plans 49 = .ok (.goto (-45), 3) := by decide +kernel
theorem dX8_plans_52 : decode cX8_plans 52 = .ok (.iload_n 1, 1) := by decide +kernel
theorem dX8_plans_53 : decode cX8_plans 53 = .ok (.sipush 4000, 3) := by decide +kernel
theorem dX8_plans_56 : decode cX8_plans 56 = .ok (.if_icmp .le 7, 3) := by decide +kernel
theorem dX8_plans_59 : decode cX8_plans 59 = .ok (.sipush (-1000), 3) := by decide +kernel
theorem dX8_plans_62 : decode cX8_plans 62 = .ok (.ireturn, 1) := by decide +kernel
theorem dX8_plans_63 : decode cX8_plans 63 = .ok (.iconst 0, 1) := by decide +kernel
theorem dX8_plans_64 : decode cX8_plans 64 = .ok (.istore_n 2, 1) := by decide +kernel
theorem dX8_plans_65 : decode cX8_plans 65 = .ok (.iload_n 2, 1) := by decide +kernel
theorem dX8_plans_66 : decode cX8_plans 66 = .ok (.aload_n 0, 1) := by decide +kernel
theorem dX8_plans_67 : decode cX8_plans 67 = .ok (.getfield 57, 3) := by decide +kernel
theorem dX8_plans_70 : decode cX8_plans 70 = .ok (.if_icmp .ge 21, 3) := by decide +kernel
theorem dX8_plans_73 : decode cX8_plans 73 = .ok (.aload_n 0, 1) := by decide +kernel
theorem dX8_plans_74 : decode cX8_plans 74 = .ok (.getfield 51, 3) := by decide +kernel
theorem dX8_plans_77 : decode cX8_plans 77 = .ok (.iload_n 2, 1) := by decide +kernel
theorem dX8_plans_78 : decode cX8_plans 78 = .ok (.aload_n 0, 1) := by decide +kernel
theorem dX8_plans_79 : decode cX8_plans 79 = .ok (.iload_n 2, 1) := by decide +kernel
theorem dX8_plans_80 : decode cX8_plans 80 = .ok (.iconst 0, 1) := by decide +kernel
theorem dX8_plans_81 : decode cX8_plans 81 = .ok (.invokevirtual 121, 3) := by decide +kernel
theorem dX8_plans_84 : decode cX8_plans 84 = .ok (.iastore, 1) := by decide +kernel
theorem dX8_plans_85 : decode cX8_plans 85 = .ok (.iinc 2 1, 3) := by decide +kernel
theorem dX8_plans_88 : decode cX8_plans 88 = .ok (.goto (-23), 3) := by decide +kernel
theorem dX8_plans_91 : decode cX8_plans 91 = .ok (.iconst 0, 1) := by decide +kernel
theorem dX8_plans_92 : decode cX8_plans 92 = .ok (.istore_n 2, 1) := by decide +kernel
theorem dX8_plans_93 : decode cX8_plans 93 = .ok (.iload_n 1, 1) := by decide +kernel
theorem dX8_plans_94 : decode cX8_plans 94 = .ok (.ifCond .le 7, 3) := by decide +kernel
theorem dX8_plans_97 : decode cX8_plans 97 = .ok (.iconst 1, 1) := by decide +kernel
theorem dX8_plans_98 : decode cX8_plans 98 = .ok (.goto 4, 3) := by decide +kernel
theorem dX8_plans_101 : decode cX8_plans 101 = .ok (.iconst 0, 1) := by decide +kernel
theorem dX8_plans_102 : decode cX8_plans 102 = .ok (.istore_n 3, 1) := by decide +kernel
theorem dX8_plans_103 : decode cX8_plans 103 = .ok (.iload_n 3, 1) := by decide +kernel
theorem dX8_plans_104 : decode cX8_plans 104 = .ok (.ifCond .eq 58, 3) := by decide +kernel
theorem dX8_plans_107 : decode cX8_plans 107 = .ok (.iconst 1, 1) := by decide +kernel
theorem dX8_plans_108 : decode cX8_plans 108 = .ok (.istore 4, 2) := by decide +kernel
theorem dX8_plans_110 : decode cX8_plans 110 = .ok (.iconst 0, 1) := by decide +kernel
theorem dX8_plans_111 : decode cX8_plans 111 = .ok (.istore 5, 2) := by decide +kernel
theorem dX8_plans_113 : decode cX8_plans 113 = .ok (.iload 5, 2) := by decide +kernel
theorem dX8_plans_115 : decode cX8_plans 115 = .ok (.aload_n 0, 1) := by decide +kernel
theorem dX8_plans_116 : decode cX8_plans 116 = .ok (.getfield 64, 3) := by decide +kernel
theorem dX8_plans_119 : decode cX8_plans 119 = .ok (.if_icmp .ge 22, 3) := by decide +kernel
theorem dX8_plans_122 : decode cX8_plans 122 = .ok (.iload 4, 2) := by decide +kernel
theorem dX8_plans_124 : decode cX8_plans 124 = .ok (.ifCond .eq 17, 3) := by decide +kernel
theorem dX8_plans_127 : decode cX8_plans 127 = .ok (.aload_n 0, 1) := by decide +kernel
theorem dX8_plans_128 : decode cX8_plans 128 = .ok (.iload 5, 2) := by decide +kernel
theorem dX8_plans_130 : decode cX8_plans 130 = .ok (.invokevirtual 151, 3) := by decide +kernel
theorem dX8_plans_133 : decode cX8_plans 133 = .ok (.istore 4, 2) := by decide +kernel
theorem dX8_plans_135 : decode cX8_plans 135 = .ok (.iinc 5 1, 3) := by decide +kernel
theorem dX8_plans_138 : decode cX8_plans 138 = .ok (.goto (-25), 3) := by decide +kernel
theorem dX8_plans_141 : decode cX8_plans 141 = .ok (.iload_n 2, 1) := by decide +kernel
theorem dX8_plans_142 : decode cX8_plans 142 = .ok (.iload 4, 2) := by decide +kernel
theorem dX8_plans_144 : decode cX8_plans 144 = .ok (.ifCond .eq 7, 3) := by decide +kernel
theorem dX8_plans_147 : decode cX8_plans 147 = .ok (.iconst 1, 1) := by decide +kernel
theorem dX8_plans_148 : decode cX8_plans 148 = .ok (.goto 4, 3) := by decide +kernel
theorem dX8_plans_151 : decode cX8_plans 151 = .ok (.iconst 0, 1) := by decide +kernel
theorem dX8_plans_152 : decode cX8_plans 152 = .ok (.iadd, 1) := by decide +kernel
theorem dX8_plans_153 : decode cX8_plans 153 = .ok (.istore_n 2, 1) := by decide +kernel
theorem dX8_plans_154 : decode cX8_plans 154 = .ok (.aload_n 0, 1) := by decide +kernel
theorem dX8_plans_155 : decode cX8_plans 155 = .ok (.invokevirtual 154, 3) := by decide +kernel
theorem dX8_plans_158 : decode cX8_plans 158 = .ok (.istore_n 3, 1) := by decide +kernel
theorem dX8_plans_159 : decode cX8_plans 159 = .ok (.goto (-56), 3) := by decide +kernel
theorem dX8_plans_162 : decode cX8_plans 162 = .ok (.iload_n 2, 1) := by decide +kernel
theorem dX8_plans_163 : decode cX8_plans 163 = .ok (.ireturn, 1) := by decide +kernel
theorem dJ6_numberOfLeadingZeros_0f7a4_0 : decode cJ6_numberOfLeadingZeros_0f7a4 0 = .ok (.iload_n 0, 1) := by decide +kernel
theorem dJ6_numberOfLeadingZeros_0f7a4_1 : decode cJ6_numberOfLeadingZeros_0f7a4 1 = .ok (.ifCond .gt 14, 3) := by decide +kernel
theorem dJ6_numberOfLeadingZeros_0f7a4_4 : decode cJ6_numberOfLeadingZeros_0f7a4 4 = .ok (.iload_n 0, 1) := by decide +kernel
theorem dJ6_numberOfLeadingZeros_0f7a4_5 : decode cJ6_numberOfLeadingZeros_0f7a4 5 = .ok (.ifCond .ne 8, 3) := by decide +kernel
theorem dJ6_numberOfLeadingZeros_0f7a4_8 : decode cJ6_numberOfLeadingZeros_0f7a4 8 = .ok (.bipush 32, 2) := by decide +kernel
theorem dJ6_numberOfLeadingZeros_0f7a4_10 : decode cJ6_numberOfLeadingZeros_0f7a4 10 = .ok (.goto 4, 3) := by decide +kernel
theorem dJ6_numberOfLeadingZeros_0f7a4_13 : decode cJ6_numberOfLeadingZeros_0f7a4 13 = .ok (.iconst 0, 1) := by decide +kernel
theorem dJ6_numberOfLeadingZeros_0f7a4_14 : decode cJ6_numberOfLeadingZeros_0f7a4 14 = .ok (.ireturn, 1) := by decide +kernel
theorem dJ6_numberOfLeadingZeros_0f7a4_15 : decode cJ6_numberOfLeadingZeros_0f7a4 15 = .ok (.bipush 31, 2) := by decide +kernel
theorem dJ6_numberOfLeadingZeros_0f7a4_17 : decode cJ6_numberOfLeadingZeros_0f7a4 17 = .ok (.istore_n 1, 1) := by decide +kernel
theorem dJ6_numberOfLeadingZeros_0f7a4_18 : decode cJ6_numberOfLeadingZeros_0f7a4 18 = .ok (.iload_n 0, 1) := by decide +kernel
theorem dJ6_numberOfLeadingZeros_0f7a4_19 : decode cJ6_numberOfLeadingZeros_0f7a4 19 = .ok (.ldc_w 264, 3) := by decide +kernel
theorem dJ6_numberOfLeadingZeros_0f7a4_22 : decode cJ6_numberOfLeadingZeros_0f7a4 22 = .ok (.if_icmp .lt 11, 3) := by decide +kernel
theorem dJ6_numberOfLeadingZeros_0f7a4_25 : decode cJ6_numberOfLeadingZeros_0f7a4 25 = .ok (.iinc 1 (-16), 3) := by decide +kernel
theorem dJ6_numberOfLeadingZeros_0f7a4_28 : decode cJ6_numberOfLeadingZeros_0f7a4 28 = .ok (.iload_n 0, 1) := by decide +kernel
theorem dJ6_numberOfLeadingZeros_0f7a4_29 : decode cJ6_numberOfLeadingZeros_0f7a4 29 = .ok (.bipush 16, 2) := by decide +kernel
theorem dJ6_numberOfLeadingZeros_0f7a4_31 : decode cJ6_numberOfLeadingZeros_0f7a4 31 = .ok (.iushr, 1) := by decide +kernel
theorem dJ6_numberOfLeadingZeros_0f7a4_32 : decode cJ6_numberOfLeadingZeros_0f7a4 32 = .ok (.istore_n 0, 1) := by decide +kernel
theorem dJ6_numberOfLeadingZeros_0f7a4_33 : decode cJ6_numberOfLeadingZeros_0f7a4 33 = .ok (.iload_n 0, 1) := by decide +kernel
theorem dJ6_numberOfLeadingZeros_0f7a4_34 : decode cJ6_numberOfLeadingZeros_0f7a4 34 = .ok (.sipush 256, 3) := by decide +kernel
theorem dJ6_numberOfLeadingZeros_0f7a4_37 : decode cJ6_numberOfLeadingZeros_0f7a4 37 = .ok (.if_icmp .lt 11, 3) := by decide +kernel
theorem dJ6_numberOfLeadingZeros_0f7a4_40 : decode cJ6_numberOfLeadingZeros_0f7a4 40 = .ok (.iinc 1 (-8), 3) := by decide +kernel
theorem dJ6_numberOfLeadingZeros_0f7a4_43 : decode cJ6_numberOfLeadingZeros_0f7a4 43 = .ok (.iload_n 0, 1) := by decide +kernel
theorem dJ6_numberOfLeadingZeros_0f7a4_44 : decode cJ6_numberOfLeadingZeros_0f7a4 44 = .ok (.bipush 8, 2) := by decide +kernel
theorem dJ6_numberOfLeadingZeros_0f7a4_46 : decode cJ6_numberOfLeadingZeros_0f7a4 46 = .ok (.iushr, 1) := by decide +kernel
theorem dJ6_numberOfLeadingZeros_0f7a4_47 : decode cJ6_numberOfLeadingZeros_0f7a4 47 = .ok (.istore_n 0, 1) := by decide +kernel
theorem dJ6_numberOfLeadingZeros_0f7a4_48 : decode cJ6_numberOfLeadingZeros_0f7a4 48 = .ok (.iload_n 0, 1) := by decide +kernel
theorem dJ6_numberOfLeadingZeros_0f7a4_49 : decode cJ6_numberOfLeadingZeros_0f7a4 49 = .ok (.bipush 16, 2) := by decide +kernel
theorem dJ6_numberOfLeadingZeros_0f7a4_51 : decode cJ6_numberOfLeadingZeros_0f7a4 51 = .ok (.if_icmp .lt 10, 3) := by decide +kernel
theorem dJ6_numberOfLeadingZeros_0f7a4_54 : decode cJ6_numberOfLeadingZeros_0f7a4 54 = .ok (.iinc 1 (-4), 3) := by decide +kernel
theorem dJ6_numberOfLeadingZeros_0f7a4_57 : decode cJ6_numberOfLeadingZeros_0f7a4 57 = .ok (.iload_n 0, 1) := by decide +kernel
theorem dJ6_numberOfLeadingZeros_0f7a4_58 : decode cJ6_numberOfLeadingZeros_0f7a4 58 = .ok (.iconst 4, 1) := by decide +kernel
theorem dJ6_numberOfLeadingZeros_0f7a4_59 : decode cJ6_numberOfLeadingZeros_0f7a4 59 = .ok (.iushr, 1) := by decide +kernel
theorem dJ6_numberOfLeadingZeros_0f7a4_60 : decode cJ6_numberOfLeadingZeros_0f7a4 60 = .ok (.istore_n 0, 1) := by decide +kernel
theorem dJ6_numberOfLeadingZeros_0f7a4_61 : decode cJ6_numberOfLeadingZeros_0f7a4 61 = .ok (.iload_n 0, 1) := by decide +kernel
theorem dJ6_numberOfLeadingZeros_0f7a4_62 : decode cJ6_numberOfLeadingZeros_0f7a4 62 = .ok (.iconst 4, 1) := by decide +kernel
theorem dJ6_numberOfLeadingZeros_0f7a4_63 : decode cJ6_numberOfLeadingZeros_0f7a4 63 = .ok (.if_icmp .lt 10, 3) := by decide +kernel
theorem dJ6_numberOfLeadingZeros_0f7a4_66 : decode cJ6_numberOfLeadingZeros_0f7a4 66 = .ok (.iinc 1 (-2), 3) := by decide +kernel
theorem dJ6_numberOfLeadingZeros_0f7a4_69 : decode cJ6_numberOfLeadingZeros_0f7a4 69 = .ok (.iload_n 0, 1) := by decide +kernel
theorem dJ6_numberOfLeadingZeros_0f7a4_70 : decode cJ6_numberOfLeadingZeros_0f7a4 70 = .ok (.iconst 2, 1) := by decide +kernel
theorem dJ6_numberOfLeadingZeros_0f7a4_71 : decode cJ6_numberOfLeadingZeros_0f7a4 71 = .ok (.iushr, 1) := by decide +kernel
theorem dJ6_numberOfLeadingZeros_0f7a4_72 : decode cJ6_numberOfLeadingZeros_0f7a4 72 = .ok (.istore_n 0, 1) := by decide +kernel
theorem dJ6_numberOfLeadingZeros_0f7a4_73 : decode cJ6_numberOfLeadingZeros_0f7a4 73 = .ok (.iload_n 1, 1) := by decide +kernel
theorem dJ6_numberOfLeadingZeros_0f7a4_74 : decode cJ6_numberOfLeadingZeros_0f7a4 74 = .ok (.iload_n 0, 1) := by decide +kernel
theorem dJ6_numberOfLeadingZeros_0f7a4_75 : decode cJ6_numberOfLeadingZeros_0f7a4 75 = .ok (.iconst 1, 1) := by decide +kernel
theorem dJ6_numberOfLeadingZeros_0f7a4_76 : decode cJ6_numberOfLeadingZeros_0f7a4 76 = .ok (.iushr, 1) := by decide +kernel
theorem dJ6_numberOfLeadingZeros_0f7a4_77 : decode cJ6_numberOfLeadingZeros_0f7a4 77 = .ok (.isub, 1) := by decide +kernel
theorem dJ6_numberOfLeadingZeros_0f7a4_78 : decode cJ6_numberOfLeadingZeros_0f7a4 78 = .ok (.ireturn, 1) := by decide +kernel
theorem dJ6_numberOfTrailingZeros_0f7a4_0 : decode cJ6_numberOfTrailingZeros_0f7a4 0 = .ok (.iload_n 0, 1) := by decide +kernel
theorem dJ6_numberOfTrailingZeros_0f7a4_1 : decode cJ6_numberOfTrailingZeros_0f7a4 1 = .ok (.iconst (-1), 1) := by decide +kernel
theorem dJ6_numberOfTrailingZeros_0f7a4_2 : decode cJ6_numberOfTrailingZeros_0f7a4 2 = .ok (.ixor, 1) := by decide +kernel
theorem dJ6_numberOfTrailingZeros_0f7a4_3 : decode cJ6_numberOfTrailingZeros_0f7a4 3 = .ok (.iload_n 0, 1) := by decide +kernel
theorem dJ6_numberOfTrailingZeros_0f7a4_4 : decode cJ6_numberOfTrailingZeros_0f7a4 4 = .ok (.iconst 1, 1) := by decide +kernel
theorem dJ6_numberOfTrailingZeros_0f7a4_5 : decode cJ6_numberOfTrailingZeros_0f7a4 5 = .ok (.isub, 1) := by decide +kernel
theorem dJ6_numberOfTrailingZeros_0f7a4_6 : decode cJ6_numberOfTrailingZeros_0f7a4 6 = .ok (.iand, 1) := by decide +kernel
theorem dJ6_numberOfTrailingZeros_0f7a4_7 : decode cJ6_numberOfTrailingZeros_0f7a4 7 = .ok (.istore_n 0, 1) := by decide +kernel
theorem dJ6_numberOfTrailingZeros_0f7a4_8 : decode cJ6_numberOfTrailingZeros_0f7a4 8 = .ok (.iload_n 0, 1) := by decide +kernel
theorem dJ6_numberOfTrailingZeros_0f7a4_9 : decode cJ6_numberOfTrailingZeros_0f7a4 9 = .ok (.ifCond .gt 8, 3) := by decide +kernel
theorem dJ6_numberOfTrailingZeros_0f7a4_12 : decode cJ6_numberOfTrailingZeros_0f7a4 12 = .ok (.iload_n 0, 1) := by decide +kernel
theorem dJ6_numberOfTrailingZeros_0f7a4_13 : decode cJ6_numberOfTrailingZeros_0f7a4 13 = .ok (.bipush 32, 2) := by decide +kernel
theorem dJ6_numberOfTrailingZeros_0f7a4_15 : decode cJ6_numberOfTrailingZeros_0f7a4 15 = .ok (.iand, 1) := by decide +kernel
theorem dJ6_numberOfTrailingZeros_0f7a4_16 : decode cJ6_numberOfTrailingZeros_0f7a4 16 = .ok (.ireturn, 1) := by decide +kernel
theorem dJ6_numberOfTrailingZeros_0f7a4_17 : decode cJ6_numberOfTrailingZeros_0f7a4 17 = .ok (.iconst 1, 1) := by decide +kernel
theorem dJ6_numberOfTrailingZeros_0f7a4_18 : decode cJ6_numberOfTrailingZeros_0f7a4 18 = .ok (.istore_n 1, 1) := by decide +kernel
theorem dJ6_numberOfTrailingZeros_0f7a4_19 : decode cJ6_numberOfTrailingZeros_0f7a4 19 = .ok (.iload_n 0, 1) := by decide +kernel
theorem dJ6_numberOfTrailingZeros_0f7a4_20 : decode cJ6_numberOfTrailingZeros_0f7a4 20 = .ok (.ldc_w 264, 3) := by decide +kernel
theorem dJ6_numberOfTrailingZeros_0f7a4_23 : decode cJ6_numberOfTrailingZeros_0f7a4 23 = .ok (.if_icmp .le 11, 3) := by decide +kernel
theorem dJ6_numberOfTrailingZeros_0f7a4_26 : decode cJ6_numberOfTrailingZeros_0f7a4 26 = .ok (.iinc 1 16, 3) := by decide +kernel
theorem dJ6_numberOfTrailingZeros_0f7a4_29 : decode cJ6_numberOfTrailingZeros_0f7a4 29 = .ok (.iload_n 0, 1) := by decide +kernel
theorem dJ6_numberOfTrailingZeros_0f7a4_30 : decode cJ6_numberOfTrailingZeros_0f7a4 30 = .ok (.bipush 16, 2) := by decide +kernel
theorem dJ6_numberOfTrailingZeros_0f7a4_32 : decode cJ6_numberOfTrailingZeros_0f7a4 32 = .ok (.iushr, 1) := by decide +kernel
theorem dJ6_numberOfTrailingZeros_0f7a4_33 : decode cJ6_numberOfTrailingZeros_0f7a4 33 = .ok (.istore_n 0, 1) := by decide +kernel
theorem dJ6_numberOfTrailingZeros_0f7a4_34 : decode cJ6_numberOfTrailingZeros_0f7a4 34 = .ok (.iload_n 0, 1) := by decide +kernel
theorem dJ6_numberOfTrailingZeros_0f7a4_35 : decode cJ6_numberOfTrailingZeros_0f7a4 35 = .ok (.sipush 256, 3) := by decide +kernel
theorem dJ6_numberOfTrailingZeros_0f7a4_38 : decode cJ6_numberOfTrailingZeros_0f7a4 38 = .ok (.if_icmp .le 11, 3) := by decide +kernel
theorem dJ6_numberOfTrailingZeros_0f7a4_41 : decode cJ6_numberOfTrailingZeros_0f7a4 41 = .ok (.iinc 1 8, 3) := by decide +kernel
theorem dJ6_numberOfTrailingZeros_0f7a4_44 : decode cJ6_numberOfTrailingZeros_0f7a4 44 = .ok (.iload_n 0, 1) := by decide +kernel
theorem dJ6_numberOfTrailingZeros_0f7a4_45 : decode cJ6_numberOfTrailingZeros_0f7a4 45 = .ok (.bipush 8, 2) := by decide +kernel
theorem dJ6_numberOfTrailingZeros_0f7a4_47 : decode cJ6_numberOfTrailingZeros_0f7a4 47 = .ok (.iushr, 1) := by decide +kernel
theorem dJ6_numberOfTrailingZeros_0f7a4_48 : decode cJ6_numberOfTrailingZeros_0f7a4 48 = .ok (.istore_n 0, 1) := by decide +kernel
theorem dJ6_numberOfTrailingZeros_0f7a4_49 : decode cJ6_numberOfTrailingZeros_0f7a4 49 = .ok (.iload_n 0, 1) := by decide +kernel
theorem dJ6_numberOfTrailingZeros_0f7a4_50 : decode cJ6_numberOfTrailingZeros_0f7a4 50 = .ok (.bipush 16, 2) := by decide +kernel
theorem dJ6_numberOfTrailingZeros_0f7a4_52 : decode cJ6_numberOfTrailingZeros_0f7a4 52 = .ok (.if_icmp .le 10, 3) := by decide +kernel
theorem dJ6_numberOfTrailingZeros_0f7a4_55 : decode cJ6_numberOfTrailingZeros_0f7a4 55 = .ok (.iinc 1 4, 3) := by decide +kernel
theorem dJ6_numberOfTrailingZeros_0f7a4_58 : decode cJ6_numberOfTrailingZeros_0f7a4 58 = .ok (.iload_n 0, 1) := by decide +kernel
theorem dJ6_numberOfTrailingZeros_0f7a4_59 : decode cJ6_numberOfTrailingZeros_0f7a4 59 = .ok (.iconst 4, 1) := by decide +kernel
theorem dJ6_numberOfTrailingZeros_0f7a4_60 : decode cJ6_numberOfTrailingZeros_0f7a4 60 = .ok (.iushr, 1) := by decide +kernel
theorem dJ6_numberOfTrailingZeros_0f7a4_61 : decode cJ6_numberOfTrailingZeros_0f7a4 61 = .ok (.istore_n 0, 1) := by decide +kernel
theorem dJ6_numberOfTrailingZeros_0f7a4_62 : decode cJ6_numberOfTrailingZeros_0f7a4 62 = .ok (.iload_n 0, 1) := by decide +kernel
theorem dJ6_numberOfTrailingZeros_0f7a4_63 : decode cJ6_numberOfTrailingZeros_0f7a4 63 = .ok (.iconst 4, 1) := by decide +kernel
theorem dJ6_numberOfTrailingZeros_0f7a4_64 : decode cJ6_numberOfTrailingZeros_0f7a4 64 = .ok (.if_icmp .le 10, 3) := by decide +kernel
theorem dJ6_numberOfTrailingZeros_0f7a4_67 : decode cJ6_numberOfTrailingZeros_0f7a4 67 = .ok (.iinc 1 2, 3) := by decide +kernel
theorem dJ6_numberOfTrailingZeros_0f7a4_70 : decode cJ6_numberOfTrailingZeros_0f7a4 70 = .ok (.iload_n 0, 1) := by decide +kernel
theorem dJ6_numberOfTrailingZeros_0f7a4_71 : decode cJ6_numberOfTrailingZeros_0f7a4 71 = .ok (.iconst 2, 1) := by decide +kernel
theorem dJ6_numberOfTrailingZeros_0f7a4_72 : decode cJ6_numberOfTrailingZeros_0f7a4 72 = .ok (.iushr, 1) := by decide +kernel
theorem dJ6_numberOfTrailingZeros_0f7a4_73 : decode cJ6_numberOfTrailingZeros_0f7a4 73 = .ok (.istore_n 0, 1) := by decide +kernel
theorem dJ6_numberOfTrailingZeros_0f7a4_74 : decode cJ6_numberOfTrailingZeros_0f7a4 74 = .ok (.iload_n 1, 1) := by decide +kernel
theorem dJ6_numberOfTrailingZeros_0f7a4_75 : decode cJ6_numberOfTrailingZeros_0f7a4 75 = .ok (.iload_n 0, 1) := by decide +kernel
theorem dJ6_numberOfTrailingZeros_0f7a4_76 : decode cJ6_numberOfTrailingZeros_0f7a4 76 = .ok (.iconst 1, 1) := by decide +kernel
theorem dJ6_numberOfTrailingZeros_0f7a4_77 : decode cJ6_numberOfTrailingZeros_0f7a4 77 = .ok (.iushr, 1) := by decide +kernel
theorem dJ6_numberOfTrailingZeros_0f7a4_78 : decode cJ6_numberOfTrailingZeros_0f7a4 78 = .ok (.iadd, 1) := by decide +kernel
theorem dJ6_numberOfTrailingZeros_0f7a4_79 : decode cJ6_numberOfTrailingZeros_0f7a4 79 = .ok (.ireturn, 1) := by decide +kernel
theorem dJ6_bitCount_0f7a4_0 : decode cJ6_bitCount_0f7a4 0 = .ok (.iload_n 0, 1) := by decide +kernel
theorem dJ6_bitCount_0f7a4_1 : decode cJ6_bitCount_0f7a4 1 = .ok (.iload_n 0, 1) := by decide +kernel
theorem dJ6_bitCount_0f7a4_2 : decode cJ6_bitCount_0f7a4 2 = .ok (.iconst 1, 1) := by decide +kernel
theorem dJ6_bitCount_0f7a4_3 : decode cJ6_bitCount_0f7a4 3 = .ok (.iushr, 1) := by decide +kernel
theorem dJ6_bitCount_0f7a4_4 : decode cJ6_bitCount_0f7a4 4 = .ok (.ldc_w 265, 3) := by decide +kernel
theorem dJ6_bitCount_0f7a4_7 : decode cJ6_bitCount_0f7a4 7 = .ok (.iand, 1) := by decide +kernel
theorem dJ6_bitCount_0f7a4_8 : decode cJ6_bitCount_0f7a4 8 = .ok (.isub, 1) := by decide +kernel
theorem dJ6_bitCount_0f7a4_9 : decode cJ6_bitCount_0f7a4 9 = .ok (.istore_n 0, 1) := by decide +kernel
theorem dJ6_bitCount_0f7a4_10 : decode cJ6_bitCount_0f7a4 10 = .ok (.iload_n 0, 1) := by decide +kernel
theorem dJ6_bitCount_0f7a4_11 : decode cJ6_bitCount_0f7a4 11 = .ok (.ldc_w 266, 3) := by decide +kernel
theorem dJ6_bitCount_0f7a4_14 : decode cJ6_bitCount_0f7a4 14 = .ok (.iand, 1) := by decide +kernel
theorem dJ6_bitCount_0f7a4_15 : decode cJ6_bitCount_0f7a4 15 = .ok (.iload_n 0, 1) := by decide +kernel
theorem dJ6_bitCount_0f7a4_16 : decode cJ6_bitCount_0f7a4 16 = .ok (.iconst 2, 1) := by decide +kernel
theorem dJ6_bitCount_0f7a4_17 : decode cJ6_bitCount_0f7a4 17 = .ok (.iushr, 1) := by decide +kernel
theorem dJ6_bitCount_0f7a4_18 : decode cJ6_bitCount_0f7a4 18 = .ok (.ldc_w 266, 3) := by decide +kernel
theorem dJ6_bitCount_0f7a4_21 : decode cJ6_bitCount_0f7a4 21 = .ok (.iand, 1) := by decide +kernel
theorem dJ6_bitCount_0f7a4_22 : decode cJ6_bitCount_0f7a4 22 = .ok (.iadd, 1) := by decide +kernel
theorem dJ6_bitCount_0f7a4_23 : decode cJ6_bitCount_0f7a4 23 = .ok (.istore_n 0, 1) := by decide +kernel
theorem dJ6_bitCount_0f7a4_24 : decode cJ6_bitCount_0f7a4 24 = .ok (.iload_n 0, 1) := by decide +kernel
theorem dJ6_bitCount_0f7a4_25 : decode cJ6_bitCount_0f7a4 25 = .ok (.iload_n 0, 1) := by decide +kernel
theorem dJ6_bitCount_0f7a4_26 : decode cJ6_bitCount_0f7a4 26 = .ok (.iconst 4, 1) := by decide +kernel
theorem dJ6_bitCount_0f7a4_27 : decode cJ6_bitCount_0f7a4 27 = .ok (.iushr, 1) := by decide +kernel
theorem dJ6_bitCount_0f7a4_28 : decode cJ6_bitCount_0f7a4 28 = .ok (.iadd, 1) := by decide +kernel
theorem dJ6_bitCount_0f7a4_29 : decode cJ6_bitCount_0f7a4 29 = .ok (.ldc_w 267, 3) := by decide +kernel
theorem dJ6_bitCount_0f7a4_32 : decode cJ6_bitCount_0f7a4 32 = .ok (.iand, 1) := by decide +kernel
theorem dJ6_bitCount_0f7a4_33 : decode cJ6_bitCount_0f7a4 33 = .ok (.istore_n 0, 1) := by decide +kernel
theorem dJ6_bitCount_0f7a4_34 : decode cJ6_bitCount_0f7a4 34 = .ok (.iload_n 0, 1) := by decide +kernel
theorem dJ6_bitCount_0f7a4_35 : decode cJ6_bitCount_0f7a4 35 = .ok (.iload_n 0, 1) := by decide +kernel
theorem dJ6_bitCount_0f7a4_36 : decode cJ6_bitCount_0f7a4 36 = .ok (.bipush 8, 2) := by decide +kernel
theorem dJ6_bitCount_0f7a4_38 : decode cJ6_bitCount_0f7a4 38 = .ok (.iushr, 1) := by decide +kernel
theorem dJ6_bitCount_0f7a4_39 : decode cJ6_bitCount_0f7a4 39 = .ok (.iadd, 1) := by decide +kernel
theorem dJ6_bitCount_0f7a4_40 : decode cJ6_bitCount_0f7a4 40 = .ok (.istore_n 0, 1) := by decide +kernel
theorem dJ6_bitCount_0f7a4_41 : decode cJ6_bitCount_0f7a4 41 = .ok (.iload_n 0, 1) := by decide +kernel
theorem dJ6_bitCount_0f7a4_42 : decode cJ6_bitCount_0f7a4 42 = .ok (.iload_n 0, 1) := by decide +kernel
theorem dJ6_bitCount_0f7a4_43 : decode cJ6_bitCount_0f7a4 43 = .ok (.bipush 16, 2) := by decide +kernel
theorem dJ6_bitCount_0f7a4_45 : decode cJ6_bitCount_0f7a4 45 = .ok (.iushr, 1) := by decide +kernel
theorem dJ6_bitCount_0f7a4_46 : decode cJ6_bitCount_0f7a4 46 = .ok (.iadd, 1) := by decide +kernel
theorem dJ6_bitCount_0f7a4_47 : decode cJ6_bitCount_0f7a4 47 = .ok (.istore_n 0, 1) := by decide +kernel
theorem dJ6_bitCount_0f7a4_48 : decode cJ6_bitCount_0f7a4 48 = .ok (.iload_n 0, 1) := by decide +kernel
theorem dJ6_bitCount_0f7a4_49 : decode cJ6_bitCount_0f7a4 49 = .ok (.bipush 63, 2) := by decide +kernel
theorem dJ6_bitCount_0f7a4_51 : decode cJ6_bitCount_0f7a4 51 = .ok (.iand, 1) := by decide +kernel
theorem dJ6_bitCount_0f7a4_52 : decode cJ6_bitCount_0f7a4 52 = .ok (.ireturn, 1) := by decide +kernel
theorem dJ13_numberOfLeadingZeros_95d88_0 : decode cJ13_numberOfLeadingZeros_95d88 0 = .ok (.lload_n 0, 1) := by decide +kernel
theorem dJ13_numberOfLeadingZeros_95d88_1 : decode cJ13_numberOfLeadingZeros_95d88 1 = .ok (.bipush 32, 2) := by decide +kernel
theorem dJ13_numberOfLeadingZeros_95d88_3 : decode cJ13_numberOfLeadingZeros_95d88 3 = .ok (.lushr, 1) := by decide +kernel
theorem dJ13_numberOfLeadingZeros_95d88_4 : decode cJ13_numberOfLeadingZeros_95d88 4 = .ok (.l2i, 1) := by decide +kernel
theorem dJ13_numberOfLeadingZeros_95d88_5 : decode cJ13_numberOfLeadingZeros_95d88 5 = .ok (.istore_n 2, 1) := by decide +kernel
theorem dJ13_numberOfLeadingZeros_95d88_6 : decode cJ13_numberOfLeadingZeros_95d88 6 = .ok (.iload_n 2, 1) := by decide +kernel
theorem dJ13_numberOfLeadingZeros_95d88_7 : decode cJ13_numberOfLeadingZeros_95d88 7 = .ok (.ifCond .ne 14, 3) := by decide +kernel
theorem dJ13_numberOfLeadingZeros_95d88_10 : decode cJ13_numberOfLeadingZeros_95d88 10 = .ok (.bipush 32, 2) := by decide +kernel
theorem dJ13_numberOfLeadingZeros_95d88_12 : decode cJ13_numberOfLeadingZeros_95d88 12 = .ok (.lload_n 0, 1) := by decide +kernel
theorem dJ13_numberOfLeadingZeros_95d88_13 : decode cJ13_numberOfLeadingZeros_95d88 13 = .ok (.l2i, 1) := by decide +kernel
theorem dJ13_numberOfLeadingZeros_95d88_14 : decode cJ13_numberOfLeadingZeros_95d88 14 = .ok (.invokestatic 308, 3) := by decide +kernel
theorem dJ13_numberOfLeadingZeros_95d88_17 : decode cJ13_numberOfLeadingZeros_95d88 17 = .ok (.iadd, 1) := by decide +kernel
theorem dJ13_numberOfLeadingZeros_95d88_18 : decode cJ13_numberOfLeadingZeros_95d88 18 = .ok (.goto 7, 3) := by decide +kernel
theorem dJ13_numberOfLeadingZeros_95d88_21 : decode cJ13_numberOfLeadingZeros_95d88 21 = .ok (.iload_n 2, 1) := by decide +kernel
theorem dJ13_numberOfLeadingZeros_95d88_22 : decode cJ13_numberOfLeadingZeros_95d88 22 = .ok (.invokestatic 308, 3) := by decide +kernel
theorem dJ13_numberOfLeadingZeros_95d88_25 : decode cJ13_numberOfLeadingZeros_95d88 25 = .ok (.ireturn, 1) := by decide +kernel
theorem dJ13_numberOfTrailingZeros_95d88_0 : decode cJ13_numberOfTrailingZeros_95d88 0 = .ok (.lload_n 0, 1) := by decide +kernel
theorem dJ13_numberOfTrailingZeros_95d88_1 : decode cJ13_numberOfTrailingZeros_95d88 1 = .ok (.l2i, 1) := by decide +kernel
theorem dJ13_numberOfTrailingZeros_95d88_2 : decode cJ13_numberOfTrailingZeros_95d88 2 = .ok (.istore_n 2, 1) := by decide +kernel
theorem dJ13_numberOfTrailingZeros_95d88_3 : decode cJ13_numberOfTrailingZeros_95d88 3 = .ok (.iload_n 2, 1) := by decide +kernel
theorem dJ13_numberOfTrailingZeros_95d88_4 : decode cJ13_numberOfTrailingZeros_95d88 4 = .ok (.ifCond .ne 17, 3) := by decide +kernel
theorem dJ13_numberOfTrailingZeros_95d88_7 : decode cJ13_numberOfTrailingZeros_95d88 7 = .ok (.bipush 32, 2) := by decide +kernel
theorem dJ13_numberOfTrailingZeros_95d88_9 : decode cJ13_numberOfTrailingZeros_95d88 9 = .ok (.lload_n 0, 1) := by decide +kernel
theorem dJ13_numberOfTrailingZeros_95d88_10 : decode cJ13_numberOfTrailingZeros_95d88 10 = .ok (.bipush 32, 2) := by decide +kernel
theorem dJ13_numberOfTrailingZeros_95d88_12 : decode cJ13_numberOfTrailingZeros_95d88 12 = .ok (.lushr, 1) := by decide +kernel
theorem dJ13_numberOfTrailingZeros_95d88_13 : decode cJ13_numberOfTrailingZeros_95d88 13 = .ok (.l2i, 1) := by decide +kernel
theorem dJ13_numberOfTrailingZeros_95d88_14 : decode cJ13_numberOfTrailingZeros_95d88 14 = .ok (.invokestatic 311, 3) := by decide +kernel
theorem dJ13_numberOfTrailingZeros_95d88_17 : decode cJ13_numberOfTrailingZeros_95d88 17 = .ok (.iadd, 1) := by decide +kernel
theorem dJ13_numberOfTrailingZeros_95d88_18 : decode cJ13_numberOfTrailingZeros_95d88 18 = .ok (.goto 7, 3) := by decide +kernel
theorem dJ13_numberOfTrailingZeros_95d88_21 : decode cJ13_numberOfTrailingZeros_95d88 21 = .ok (.iload_n 2, 1) := by decide +kernel
theorem dJ13_numberOfTrailingZeros_95d88_22 : decode cJ13_numberOfTrailingZeros_95d88 22 = .ok (.invokestatic 311, 3) := by decide +kernel
theorem dJ13_numberOfTrailingZeros_95d88_25 : decode cJ13_numberOfTrailingZeros_95d88 25 = .ok (.ireturn, 1) := by decide +kernel
theorem dJ13_bitCount_95d88_0 : decode cJ13_bitCount_95d88 0 = .ok (.lload_n 0, 1) := by decide +kernel
theorem dJ13_bitCount_95d88_1 : decode cJ13_bitCount_95d88 1 = .ok (.lload_n 0, 1) := by decide +kernel
theorem dJ13_bitCount_95d88_2 : decode cJ13_bitCount_95d88 2 = .ok (.iconst 1, 1) := by decide +kernel
theorem dJ13_bitCount_95d88_3 : decode cJ13_bitCount_95d88 3 = .ok (.lushr, 1) := by decide +kernel
theorem dJ13_bitCount_95d88_4 : decode cJ13_bitCount_95d88 4 = .ok (.ldc2_w 314, 3) := by decide +kernel
theorem dJ13_bitCount_95d88_7 : decode cJ13_bitCount_95d88 7 = .ok (.land, 1) := by decide +kernel
theorem dJ13_bitCount_95d88_8 : decode cJ13_bitCount_95d88 8 = .ok (.lsub, 1) := by decide +kernel
theorem dJ13_bitCount_95d88_9 : decode cJ13_bitCount_95d88 9 = .ok (.lstore_n 0, 1) := by decide +kernel
theorem dJ13_bitCount_95d88_10 : decode cJ13_bitCount_95d88 10 = .ok (.lload_n 0, 1) := by decide +kernel
theorem dJ13_bitCount_95d88_11 : decode cJ13_bitCount_95d88 11 = .ok (.ldc2_w 316, 3) := by decide +kernel
theorem dJ13_bitCount_95d88_14 : decode cJ13_bitCount_95d88 14 = .ok (.land, 1) := by decide +kernel
theorem dJ13_bitCount_95d88_15 : decode cJ13_bitCount_95d88 15 = .ok (.lload_n 0, 1) := by decide +kernel
theorem dJ13_bitCount_95d88_16 : decode cJ13_bitCount_95d88 16 = .ok (.iconst 2, 1) := by decide +kernel
theorem dJ13_bitCount_95d88_17 : decode cJ13_bitCount_95d88 17 = .ok (.lushr, 1) := by decide +kernel
theorem dJ13_bitCount_95d88_18 : decode cJ13_bitCount_95d88 18 = .ok (.ldc2_w 316, 3) := by decide +kernel
theorem dJ13_bitCount_95d88_21 : decode cJ13_bitCount_95d88 21 = .ok (.land, 1) := by decide +kernel
theorem dJ13_bitCount_95d88_22 : decode cJ13_bitCount_95d88 22 = .ok (.ladd, 1) := by decide +kernel
theorem dJ13_bitCount_95d88_23 : decode cJ13_bitCount_95d88 23 = .ok (.lstore_n 0, 1) := by decide +kernel
theorem dJ13_bitCount_95d88_24 : decode cJ13_bitCount_95d88 24 = .ok (.lload_n 0, 1) := by decide +kernel
theorem dJ13_bitCount_95d88_25 : decode cJ13_bitCount_95d88 25 = .ok (.lload_n 0, 1) := by decide +kernel
theorem dJ13_bitCount_95d88_26 : decode cJ13_bitCount_95d88 26 = .ok (.iconst 4, 1) := by decide +kernel
theorem dJ13_bitCount_95d88_27 : decode cJ13_bitCount_95d88 27 = .ok (.lushr, 1) := by decide +kernel
theorem dJ13_bitCount_95d88_28 : decode cJ13_bitCount_95d88 28 = .ok (.ladd, 1) := by decide +kernel
theorem dJ13_bitCount_95d88_29 : decode cJ13_bitCount_95d88 29 = .ok (.ldc2_w 318, 3) := by decide +kernel
theorem dJ13_bitCount_95d88_32 : decode cJ13_bitCount_95d88 32 = .ok (.land, 1) := by decide +kernel
theorem dJ13_bitCount_95d88_33 : decode cJ13_bitCount_95d88 33 = .ok (.lstore_n 0, 1) := by decide +kernel
theorem dJ13_bitCount_95d88_34 : decode cJ13_bitCount_95d88 34 = .ok (.lload_n 0, 1) := by decide +kernel
theorem dJ13_bitCount_95d88_35 : decode cJ13_bitCount_95d88 35 = .ok (.lload_n 0, 1) := by decide +kernel
theorem dJ13_bitCount_95d88_36 : decode cJ13_bitCount_95d88 36 = .ok (.bipush 8, 2) := by decide +kernel
theorem dJ13_bitCount_95d88_38 : decode cJ13_bitCount_95d88 38 = .ok (.lushr, 1) := by decide +kernel
theorem dJ13_bitCount_95d88_39 : decode cJ13_bitCount_95d88 39 = .ok (.ladd, 1) := by decide +kernel
theorem dJ13_bitCount_95d88_40 : decode cJ13_bitCount_95d88 40 = .ok (.lstore_n 0, 1) := by decide +kernel
theorem dJ13_bitCount_95d88_41 : decode cJ13_bitCount_95d88 41 = .ok (.lload_n 0, 1) := by decide +kernel
theorem dJ13_bitCount_95d88_42 : decode cJ13_bitCount_95d88 42 = .ok (.lload_n 0, 1) := by decide +kernel
theorem dJ13_bitCount_95d88_43 : decode cJ13_bitCount_95d88 43 = .ok (.bipush 16, 2) := by decide +kernel
theorem dJ13_bitCount_95d88_45 : decode cJ13_bitCount_95d88 45 = .ok (.lushr, 1) := by decide +kernel
theorem dJ13_bitCount_95d88_46 : decode cJ13_bitCount_95d88 46 = .ok (.ladd, 1) := by decide +kernel
theorem dJ13_bitCount_95d88_47 : decode cJ13_bitCount_95d88 47 = .ok (.lstore_n 0, 1) := by decide +kernel
theorem dJ13_bitCount_95d88_48 : decode cJ13_bitCount_95d88 48 = .ok (.lload_n 0, 1) := by decide +kernel
theorem dJ13_bitCount_95d88_49 : decode cJ13_bitCount_95d88 49 = .ok (.lload_n 0, 1) := by decide +kernel
theorem dJ13_bitCount_95d88_50 : decode cJ13_bitCount_95d88 50 = .ok (.bipush 32, 2) := by decide +kernel
theorem dJ13_bitCount_95d88_52 : decode cJ13_bitCount_95d88 52 = .ok (.lushr, 1) := by decide +kernel
theorem dJ13_bitCount_95d88_53 : decode cJ13_bitCount_95d88 53 = .ok (.ladd, 1) := by decide +kernel
theorem dJ13_bitCount_95d88_54 : decode cJ13_bitCount_95d88 54 = .ok (.lstore_n 0, 1) := by decide +kernel
theorem dJ13_bitCount_95d88_55 : decode cJ13_bitCount_95d88 55 = .ok (.lload_n 0, 1) := by decide +kernel
theorem dJ13_bitCount_95d88_56 : decode cJ13_bitCount_95d88 56 = .ok (.l2i, 1) := by decide +kernel
theorem dJ13_bitCount_95d88_57 : decode cJ13_bitCount_95d88 57 = .ok (.bipush 127, 2) := by decide +kernel
theorem dJ13_bitCount_95d88_59 : decode cJ13_bitCount_95d88 59 = .ok (.iand, 1) := by decide +kernel
theorem dJ13_bitCount_95d88_60 : decode cJ13_bitCount_95d88 60 = .ok (.ireturn, 1) := by decide +kernel
theorem dJ9_floorDiv_7cf53_0 : decode cJ9_floorDiv_7cf53 0 = .ok (.iload_n 0, 1) := by decide +kernel
theorem dJ9_floorDiv_7cf53_1 : decode cJ9_floorDiv_7cf53 1 = .ok (.iload_n 1, 1) := by decide +kernel
theorem dJ9_floorDiv_7cf53_2 : decode cJ9_floorDiv_7cf53 2 = .ok (.idiv, 1) := by decide +kernel
theorem dJ9_floorDiv_7cf53_3 : decode cJ9_floorDiv_7cf53 3 = .ok (.istore_n 2, 1) := by decide +kernel
theorem dJ9_floorDiv_7cf53_4 : decode cJ9_floorDiv_7cf53 4 = .ok (.iload_n 0, 1) := by decide +kernel
theorem dJ9_floorDiv_7cf53_5 : decode cJ9_floorDiv_7cf53 5 = .ok (.iload_n 1, 1) := by decide +kernel
theorem dJ9_floorDiv_7cf53_6 : decode cJ9_floorDiv_7cf53 6 = .ok (.ixor, 1) := by decide +kernel
theorem dJ9_floorDiv_7cf53_7 : decode cJ9_floorDiv_7cf53 7 = .ok (.ifCond .ge 14, 3) := by decide +kernel
theorem dJ9_floorDiv_7cf53_10 : decode cJ9_floorDiv_7cf53 10 = .ok (.iload_n 2, 1) := by decide +kernel
theorem dJ9_floorDiv_7cf53_11 : decode cJ9_floorDiv_7cf53 11 = .ok (.iload_n 1, 1) := by decide +kernel
theorem dJ9_floorDiv_7cf53_12 : decode cJ9_floorDiv_7cf53 12 = .ok (.imul, 1) := by decide +kernel
theorem dJ9_floorDiv_7cf53_13 : decode cJ9_floorDiv_7cf53 13 = .ok (.iload_n 0, 1) := by decide +kernel
theorem dJ9_floorDiv_7cf53_14 : decode cJ9_floorDiv_7cf53 14 = .ok (.if_icmp .eq 7, 3) := by decide +kernel
theorem dJ9_floorDiv_7cf53_17 : decode cJ9_floorDiv_7cf53 17 = .ok (.iload_n 2, 1) := by decide +kernel
theorem dJ9_floorDiv_7cf53_18 : decode cJ9_floorDiv_7cf53 18 = .ok (.iconst 1, 1) := by decide +kernel
theorem dJ9_floorDiv_7cf53_19 : decode cJ9_floorDiv_7cf53 19 = .ok (.isub, 1) := by decide +kernel
theorem dJ9_floorDiv_7cf53_20 : decode cJ9_floorDiv_7cf53 20 = .ok (.ireturn, 1) := by decide +kernel
theorem dJ9_floorDiv_7cf53_21 : decode cJ9_floorDiv_7cf53 21 = .ok (.iload_n 2, 1) := by decide +kernel
theorem dJ9_floorDiv_7cf53_22 : decode cJ9_floorDiv_7cf53 22 = .ok (.ireturn, 1) := by decide +kernel
theorem dJ9_abs_0f7a4_0 : decode cJ9_abs_0f7a4 0 = .ok (.iload_n 0, 1) := by decide +kernel
theorem dJ9_abs_0f7a4_1 : decode cJ9_abs_0f7a4 1 = .ok (.ifCond .ge 8, 3) := by decide +kernel
theorem dJ9_abs_0f7a4_4 : decode cJ9_abs_0f7a4 4 = .ok (.iload_n 0, 1) := by decide +kernel
theorem dJ9_abs_0f7a4_5 : decode cJ9_abs_0f7a4 5 = .ok (.ineg, 1) := by decide +kernel
theorem dJ9_abs_0f7a4_6 : decode cJ9_abs_0f7a4 6 = .ok (.goto 4, 3) := by decide +kernel
theorem dJ9_abs_0f7a4_9 : decode cJ9_abs_0f7a4 9 = .ok (.iload_n 0, 1) := by decide +kernel
theorem dJ9_abs_0f7a4_10 : decode cJ9_abs_0f7a4 10 = .ok (.ireturn, 1) := by decide +kernel
theorem dJ9_max_7cf53_0 : decode cJ9_max_7cf53 0 = .ok (.iload_n 0, 1) := by decide +kernel
theorem dJ9_max_7cf53_1 : decode cJ9_max_7cf53 1 = .ok (.iload_n 1, 1) := by decide +kernel
theorem dJ9_max_7cf53_2 : decode cJ9_max_7cf53 2 = .ok (.if_icmp .lt 7, 3) := by decide +kernel
theorem dJ9_max_7cf53_5 : decode cJ9_max_7cf53 5 = .ok (.iload_n 0, 1) := by decide +kernel
theorem dJ9_max_7cf53_6 : decode cJ9_max_7cf53 6 = .ok (.goto 4, 3) := by decide +kernel
theorem dJ9_max_7cf53_9 : decode cJ9_max_7cf53 9 = .ok (.iload_n 1, 1) := by decide +kernel
theorem dJ9_max_7cf53_10 : decode cJ9_max_7cf53 10 = .ok (.ireturn, 1) := by decide +kernel
theorem dJ9_min_7cf53_0 : decode cJ9_min_7cf53 0 = .ok (.iload_n 0, 1) := by decide +kernel
theorem dJ9_min_7cf53_1 : decode cJ9_min_7cf53 1 = .ok (.iload_n 1, 1) := by decide +kernel
theorem dJ9_min_7cf53_2 : decode cJ9_min_7cf53 2 = .ok (.if_icmp .gt 7, 3) := by decide +kernel
theorem dJ9_min_7cf53_5 : decode cJ9_min_7cf53 5 = .ok (.iload_n 0, 1) := by decide +kernel
theorem dJ9_min_7cf53_6 : decode cJ9_min_7cf53 6 = .ok (.goto 4, 3) := by decide +kernel
theorem dJ9_min_7cf53_9 : decode cJ9_min_7cf53 9 = .ok (.iload_n 1, 1) := by decide +kernel
theorem dJ9_min_7cf53_10 : decode cJ9_min_7cf53 10 = .ok (.ireturn, 1) := by decide +kernel
end
section
theorem dL_law_0 : decode cL_law 0 = .ok (.new 7, 3) := by decide +kernel
theorem dL_law_3 : decode cL_law 3 = .ok (.dup, 1) := by decide +kernel
theorem dL_law_4 : decode cL_law 4 = .ok (.invokespecial 9, 3) := by decide +kernel
theorem dL_law_7 : decode cL_law 7 = .ok (.astore_n 1, 1) := by decide +kernel
theorem dL_law_8 : decode cL_law 8 = .ok (.new 10, 3) := by decide +kernel
theorem dL_law_11 : decode cL_law 11 = .ok (.dup, 1) := by decide +kernel
theorem dL_law_12 : decode cL_law 12 = .ok (.invokespecial 12, 3) := by decide +kernel
theorem dL_law_15 : decode cL_law 15 = .ok (.astore_n 2, 1) := by decide +kernel
theorem dL_law_16 : decode cL_law 16 = .ok (.iconst 0, 1) := by decide +kernel
theorem dL_law_17 : decode cL_law 17 = .ok (.istore_n 3, 1) := by decide +kernel
theorem dL_law_18 : decode cL_law 18 = .ok (.iload_n 3, 1) := by decide +kernel
theorem dL_law_19 : decode cL_law 19 = .ok (.aload_n 0, 1) := by decide +kernel
theorem dL_law_20 : decode cL_law 20 = .ok (.arraylength, 1) := by decide +kernel
theorem dL_law_21 : decode cL_law 21 = .ok (.bipush 6, 2) := by decide +kernel
theorem dL_law_23 : decode cL_law 23 = .ok (.isub, 1) := by decide +kernel
theorem dL_law_24 : decode cL_law 24 = .ok (.if_icmp .gt 578, 3) := by decide +kernel
theorem dL_law_27 : decode cL_law 27 = .ok (.aload_n 0, 1) := by decide +kernel
theorem dL_law_28 : decode cL_law 28 = .ok (.iload_n 3, 1) := by decide +kernel
theorem dL_law_29 : decode cL_law 29 = .ok (.iaload, 1) := by decide +kernel
theorem dL_law_30 : decode cL_law 30 = .ok (.bipush 15, 2) := by decide +kernel
theorem dL_law_32 : decode cL_law 32 = .ok (.iand, 1) := by decide +kernel
theorem dL_law_33 : decode cL_law 33 = .ok (.tableswitch 563 0 15 #[79, 112, 145, 208, 251, 264, 297, 310, 343, 392, 415, 428, 461, 484, 517, 550], 79) := by decide +kernel
theorem dL_law_112 : decode cL_law 112 = .ok (.aload_n 1, 1) := by decide +kernel
theorem dL_law_113 : decode cL_law 113 = .ok (.aload_n 0, 1) := by decide +kernel
theorem dL_law_114 : decode cL_law 114 = .ok (.iload_n 3, 1) := by decide +kernel
theorem dL_law_115 : decode cL_law 115 = .ok (.iconst 1, 1) := by decide +kernel
theorem dL_law_116 : decode cL_law 116 = .ok (.iadd, 1) := by decide +kernel
theorem dL_law_117 : decode cL_law 117 = .ok (.iaload, 1) := by decide +kernel
theorem dL_law_118 : decode cL_law 118 = .ok (.aload_n 0, 1) := by decide +kernel
theorem dL_law_119 : decode cL_law 119 = .ok (.iload_n 3, 1) := by decide +kernel
theorem dL_law_120 : decode cL_law 120 = .ok (.iconst 2, 1) := by decide +kernel
theorem dL_law_121 : decode cL_law 121 = .ok (.iadd, 1) := by decide +kernel
theorem dL_law_122 : decode cL_law 122 = .ok (.iaload, 1) := by decide +kernel
theorem dL_law_123 : decode cL_law 123 = .ok (.invokevirtual 13, 3) := by decide +kernel
theorem dL_law_126 : decode cL_law 126 = .ok (.aload_n 2, 1) := by decide +kernel
theorem dL_law_127 : decode cL_law 127 = .ok (.aload_n 0, 1) := by decide +kernel
theorem dL_law_128 : decode cL_law 128 = .ok (.iload_n 3, 1) := by decide +kernel
theorem dL_law_129 : decode cL_law 129 = .ok (.iconst 1, 1) := by decide +kernel
theorem dL_law_130 : decode cL_law 130 = .ok (.iadd, 1) := by decide +kernel
theorem dL_law_131 : decode cL_law 131 = .ok (.iaload, 1) := by decide +kernel
theorem dL_law_132 : decode cL_law 132 = .ok (.aload_n 0, 1) := by decide +kernel
theorem dL_law_133 : decode cL_law 133 = .ok (.iload_n 3, 1) := by decide +kernel
theorem dL_law_134 : decode cL_law 134 = .ok (.iconst 2, 1) := by decide +kernel
theorem dL_law_135 : decode cL_law 135 = .ok (.iadd, 1) := by decide +kernel
theorem dL_law_136 : decode cL_law 136 = .ok (.iaload, 1) := by decide +kernel
theorem dL_law_137 : decode cL_law 137 = .ok (.invokevirtual 17, 3) := by decide +kernel
theorem dL_law_140 : decode cL_law 140 = .ok (.if_icmp .eq 456, 3) := by decide +kernel
theorem dL_law_143 : decode cL_law 143 = .ok (.iconst 0, 1) := by decide +kernel
theorem dL_law_144 : decode cL_law 144 = .ok (.ireturn, 1) := by decide +kernel
theorem dL_law_145 : decode cL_law 145 = .ok (.aload_n 1, 1) := by decide +kernel
theorem dL_law_146 : decode cL_law 146 = .ok (.aload_n 0, 1) := by decide +kernel
theorem dL_law_147 : decode cL_law 147 = .ok (.iload_n 3, 1) := by decide +kernel
theorem dL_law_148 : decode cL_law 148 = .ok (.iconst 1, 1) := by decide +kernel
theorem dL_law_149 : decode cL_law 149 = .ok (.iadd, 1) := by decide +kernel
theorem dL_law_150 : decode cL_law 150 = .ok (.iaload, 1) := by decide +kernel
theorem dL_law_151 : decode cL_law 151 = .ok (.aload_n 0, 1) := by decide +kernel
theorem dL_law_152 : decode cL_law 152 = .ok (.iload_n 3, 1) := by decide +kernel
theorem dL_law_153 : decode cL_law 153 = .ok (.iconst 2, 1) := by decide +kernel
theorem dL_law_154 : decode cL_law 154 = .ok (.iadd, 1) := by decide +kernel
theorem dL_law_155 : decode cL_law 155 = .ok (.iaload, 1) := by decide +kernel
theorem dL_law_156 : decode cL_law 156 = .ok (.invokevirtual 18, 3) := by decide +kernel
theorem dL_law_159 : decode cL_law 159 = .ok (.aload_n 2, 1) := by decide +kernel
theorem dL_law_160 : decode cL_law 160 = .ok (.aload_n 0, 1) := by decide +kernel
theorem dL_law_161 : decode cL_law 161 = .ok (.iload_n 3, 1) := by decide +kernel
theorem dL_law_162 : decode cL_law 162 = .ok (.iconst 1, 1) := by decide +kernel
theorem dL_law_163 : decode cL_law 163 = .ok (.iadd, 1) := by decide +kernel
theorem dL_law_164 : decode cL_law 164 = .ok (.iaload, 1) := by decide +kernel
theorem dL_law_165 : decode cL_law 165 = .ok (.aload_n 0, 1) := by decide +kernel
theorem dL_law_166 : decode cL_law 166 = .ok (.iload_n 3, 1) := by decide +kernel
theorem dL_law_167 : decode cL_law 167 = .ok (.iconst 2, 1) := by decide +kernel
theorem dL_law_168 : decode cL_law 168 = .ok (.iadd, 1) := by decide +kernel
theorem dL_law_169 : decode cL_law 169 = .ok (.iaload, 1) := by decide +kernel
theorem dL_law_170 : decode cL_law 170 = .ok (.invokevirtual 21, 3) := by decide +kernel
theorem dL_law_173 : decode cL_law 173 = .ok (.if_icmp .eq 423, 3) := by decide +kernel
theorem dL_law_176 : decode cL_law 176 = .ok (.iconst 0, 1) := by decide +kernel
theorem dL_law_177 : decode cL_law 177 = .ok (.ireturn, 1) := by decide +kernel
theorem dL_law_178 : decode cL_law 178 = .ok (.aload_n 1, 1) := by decide +kernel
theorem dL_law_179 : decode cL_law 179 = .ok (.aload_n 0, 1) := by decide +kernel
theorem dL_law_180 : decode cL_law 180 = .ok (.iload_n 3, 1) := by decide +kernel
theorem dL_law_181 : decode cL_law 181 = .ok (.iconst 1, 1) := by decide +kernel
theorem dL_law_182 : decode cL_law 182 = .ok (.iadd, 1) := by decide +kernel
theorem dL_law_183 : decode cL_law 183 = .ok (.iaload, 1) := by decide +kernel
theorem dL_law_184 : decode cL_law 184 = .ok (.aload_n 0, 1) := by decide +kernel
theorem dL_law_185 : decode cL_law 185 = .ok (.iload_n 3, 1) := by decide +kernel
theorem dL_law_186 : decode cL_law 186 = .ok (.iconst 2, 1) := by decide +kernel
theorem dL_law_187 : decode cL_law 187 = .ok (.iadd, 1) := by decide +kernel
theorem dL_law_188 : decode cL_law 188 = .ok (.iaload, 1) := by decide +kernel
theorem dL_law_189 : decode cL_law 189 = .ok (.aload_n 0, 1) := by decide +kernel
theorem dL_law_190 : decode cL_law 190 = .ok (.iload_n 3, 1) := by decide +kernel
theorem dL_law_191 : decode cL_law 191 = .ok (.iconst 3, 1) := by decide +kernel
theorem dL_law_192 : decode cL_law 192 = .ok (.iadd, 1) := by decide +kernel
theorem dL_law_193 : decode cL_law 193 = .ok (.iaload, 1) := by decide +kernel
theorem dL_law_194 : decode cL_law 194 = .ok (.aload_n 0, 1) := by decide +kernel
theorem dL_law_195 : decode cL_law 195 = .ok (.iload_n 3, 1) := by decide +kernel
theorem dL_law_196 : decode cL_law 196 = .ok (.iconst 4, 1) := by decide +kernel
theorem dL_law_197 : decode cL_law 197 = .ok (.iadd, 1) := by decide +kernel
theorem dL_law_198 : decode cL_law 198 = .ok (.iaload, 1) := by decide +kernel
theorem dL_law_199 : decode cL_law 199 = .ok (.aload_n 0, 1) := by decide +kernel
theorem dL_law_200 : decode cL_law 200 = .ok (.iload_n 3, 1) := by decide +kernel
theorem dL_law_201 : decode cL_law 201 = .ok (.iconst 5, 1) := by decide +kernel
theorem dL_law_202 : decode cL_law 202 = .ok (.iadd, 1) := by decide +kernel
theorem dL_law_203 : decode cL_law 203 = .ok (.iaload, 1) := by decide +kernel
theorem dL_law_204 : decode cL_law 204 = .ok (.invokevirtual 22, 3) := by decide +kernel
theorem dL_law_207 : decode cL_law 207 = .ok (.aload_n 2, 1) := by decide +kernel
theorem dL_law_208 : decode cL_law 208 = .ok (.aload_n 0, 1) := by decide +kernel
theorem dL_law_209 : decode cL_law 209 = .ok (.iload_n 3, 1) := by decide +kernel
theorem dL_law_210 : decode cL_law 210 = .ok (.iconst 1, 1) := by decide +kernel
theorem dL_law_211 : decode cL_law 211 = .ok (.iadd, 1) := by decide +kernel
theorem dL_law_212 : decode cL_law 212 = .ok (.iaload, 1) := by decide +kernel
theorem dL_law_213 : decode cL_law 213 = .ok (.aload_n 0, 1) := by decide +kernel
theorem dL_law_214 : decode cL_law 214 = .ok (.iload_n 3, 1) := by decide +kernel
theorem dL_law_215 : decode cL_law 215 = .ok (.iconst 2, 1) := by decide +kernel
theorem dL_law_216 : decode cL_law 216 = .ok (.iadd, 1) := by decide +kernel
theorem dL_law_217 : decode cL_law 217 = .ok (.iaload, 1) := by decide +kernel
theorem dL_law_218 : decode cL_law 218 = .ok (.aload_n 0, 1) := by decide +kernel
theorem dL_law_219 : decode cL_law 219 = .ok (.iload_n 3, 1) := by decide +kernel
theorem dL_law_220 : decode cL_law 220 = .ok (.iconst 3, 1) := by decide +kernel
theorem dL_law_221 : decode cL_law 221 = .ok (.iadd, 1) := by decide +kernel
theorem dL_law_222 : decode cL_law 222 = .ok (.iaload, 1) := by decide +kernel
theorem dL_law_223 : decode cL_law 223 = .ok (.aload_n 0, 1) := by decide +kernel
theorem dL_law_224 : decode cL_law 224 = .ok (.iload_n 3, 1) := by decide +kernel
theorem dL_law_225 : decode cL_law 225 = .ok (.iconst 4, 1) := by decide +kernel
theorem dL_law_226 : decode cL_law 226 = .ok (.iadd, 1) := by decide +kernel
theorem dL_law_227 : decode cL_law 227 = .ok (.iaload, 1) := by decide +kernel
theorem dL_law_228 : decode cL_law 228 = .ok (.aload_n 0, 1) := by decide +kernel
theorem dL_law_229 : decode cL_law 229 = .ok (.iload_n 3, 1) := by decide +kernel
theorem dL_law_230 : decode cL_law 230 = .ok (.iconst 5, 1) := by decide +kernel
theorem dL_law_231 : decode cL_law 231 = .ok (.iadd, 1) := by decide +kernel
theorem dL_law_232 : decode cL_law 232 = .ok (.iaload, 1) := by decide +kernel
theorem dL_law_233 : decode cL_law 233 = .ok (.invokevirtual 26, 3) := by decide +kernel
theorem dL_law_236 : decode cL_law 236 = .ok (.if_icmp .eq 360, 3) := by decide +kernel
theorem dL_law_239 : decode cL_law 239 = .ok (.iconst 0, 1) := by decide +kernel
theorem dL_law_240 : decode cL_law 240 = .ok (.ireturn, 1) := by decide +kernel
theorem dL_law_241 : decode cL_law 241 = .ok (.aload_n 1, 1) := by decide +kernel
theorem dL_law_242 : decode cL_law 242 = .ok (.aload_n 0, 1) := by decide +kernel
theorem dL_law_243 : decode cL_law 243 = .ok (.iload_n 3, 1) := by decide +kernel
theorem dL_law_244 : decode cL_law 244 = .ok (.iconst 1, 1) := by decide +kernel
theorem dL_law_245 : decode cL_law 245 = .ok (.iadd, 1) := by decide +kernel
theorem dL_law_246 : decode cL_law 246 = .ok (.iaload, 1) := by decide +kernel
theorem dL_law_247 : decode cL_law 247 = .ok (.aload_n 0, 1) := by decide +kernel
theorem dL_law_248 : decode cL_law 248 = .ok (.iload_n 3, 1) := by decide +kernel
theorem dL_law_249 : decode cL_law 249 = .ok (.iconst 2, 1) := by decide +kernel
theorem dL_law_250 : decode cL_law 250 = .ok (.iadd, 1) := by decide +kernel
theorem dL_law_251 : decode cL_law 251 = .ok (.iaload, 1) := by decide +kernel
theorem dL_law_252 : decode cL_law 252 = .ok (.aload_n 0, 1) := by decide +kernel
theorem dL_law_253 : decode cL_law 253 = .ok (.iload_n 3, 1) := by decide +kernel
theorem dL_law_254 : decode cL_law 254 = .ok (.iconst 3, 1) := by decide +kernel
theorem dL_law_255 : decode cL_law 255 = .ok (.iadd, 1) := by decide +kernel
theorem dL_law_256 : decode cL_law 256 = .ok (.iaload, 1) := by decide +kernel
theorem dL_law_257 : decode cL_law 257 = .ok (.invokevirtual 27, 3) := by decide +kernel
theorem dL_law_260 : decode cL_law 260 = .ok (.aload_n 2, 1) := by decide +kernel
theorem dL_law_261 : decode cL_law 261 = .ok (.aload_n 0, 1) := by decide +kernel
theorem dL_law_262 : decode cL_law 262 = .ok (.iload_n 3, 1) := by decide +kernel
theorem dL_law_263 : decode cL_law 263 = .ok (.iconst 1, 1) := by decide +kernel
theorem dL_law_264 : decode cL_law 264 = .ok (.iadd, 1) := by decide +kernel
theorem dL_law_265 : decode cL_law 265 = .ok (.iaload, 1) := by decide +kernel
theorem dL_law_266 : decode cL_law 266 = .ok (.aload_n 0, 1) := by decide +kernel
theorem dL_law_267 : decode cL_law 267 = .ok (.iload_n 3, 1) := by decide +kernel
theorem dL_law_268 : decode cL_law 268 = .ok (.iconst 2, 1) := by decide +kernel
theorem dL_law_269 : decode cL_law 269 = .ok (.iadd, 1) := by decide +kernel
theorem dL_law_270 : decode cL_law 270 = .ok (.iaload, 1) := by decide +kernel
theorem dL_law_271 : decode cL_law 271 = .ok (.aload_n 0, 1) := by decide +kernel
theorem dL_law_272 : decode cL_law 272 = .ok (.iload_n 3, 1) := by decide +kernel
theorem dL_law_273 : decode cL_law 273 = .ok (.iconst 3, 1) := by decide +kernel
theorem dL_law_274 : decode cL_law 274 = .ok (.iadd, 1) := by decide +kernel
theorem dL_law_275 : decode cL_law 275 = .ok (.iaload, 1) := by decide +kernel
theorem dL_law_276 : decode cL_law 276 = .ok (.invokevirtual 31, 3) := by decide +kernel
theorem dL_law_279 : decode cL_law 279 = .ok (.if_icmp .eq 317, 3) := by decide +kernel
theorem dL_law_282 : decode cL_law 282 = .ok (.iconst 0, 1) := by decide +kernel
theorem dL_law_283 : decode cL_law 283 = .ok (.ireturn, 1) := by decide +kernel
theorem dL_law_284 : decode cL_law 284 = .ok (.aload_n 1, 1) := by decide +kernel
theorem dL_law_285 : decode cL_law 285 = .ok (.invokevirtual 32, 3) := by decide +kernel
theorem dL_law_288 : decode cL_law 288 = .ok (.aload_n 2, 1) := by decide +kernel
theorem dL_law_289 : decode cL_law 289 = .ok (.invokevirtual 36, 3) := by decide +kernel
theorem dL_law_292 : decode cL_law 292 = .ok (.if_icmp .eq 304, 3) := by decide +kernel
theorem dL_law_295 : decode cL_law 295 = .ok (.iconst 0, 1) := by decide +kernel
theorem dL_law_296 : decode cL_law 296 = .ok (.ireturn, 1) := by decide +kernel
theorem dL_law_297 : decode cL_law 297 = .ok (.aload_n 1, 1) := by decide +kernel
theorem dL_law_298 : decode cL_law 298 = .ok (.aload_n 0, 1) := by decide +kernel
theorem dL_law_299 : decode cL_law 299 = .ok (.iload_n 3, 1) := by decide +kernel
theorem dL_law_300 : decode cL_law 300 = .ok (.iconst 1, 1) := by decide +kernel
theorem dL_law_301 : decode cL_law 301 = .ok (.iadd, 1) := by decide +kernel
theorem dL_law_302 : decode cL_law 302 = .ok (.iaload, 1) := by decide +kernel
theorem dL_law_303 : decode cL_law 303 = .ok (.aload_n 0, 1) := by decide +kernel
theorem dL_law_304 : decode cL_law 304 = .ok (.iload_n 3, 1) := by decide +kernel
theorem dL_law_305 : decode cL_law 305 = .ok (.iconst 2, 1) := by decide +kernel
theorem dL_law_306 : decode cL_law 306 = .ok (.iadd, 1) := by decide +kernel
theorem dL_law_307 : decode cL_law 307 = .ok (.iaload, 1) := by decide +kernel
theorem dL_law_308 : decode cL_law 308 = .ok (.invokevirtual 37, 3) := by decide +kernel
theorem dL_law_311 : decode cL_law 311 = .ok (.aload_n 2, 1) := by decide +kernel
theorem dL_law_312 : decode cL_law 312 = .ok (.aload_n 0, 1) := by decide +kernel
theorem dL_law_313 : decode cL_law 313 = .ok (.iload_n 3, 1) := by decide +kernel
theorem dL_law_314 : decode cL_law 314 = .ok (.iconst 1, 1) := by decide +kernel
theorem dL_law_315 : decode cL_law 315 = .ok (.iadd, 1) := by decide +kernel
theorem dL_law_316 : decode cL_law 316 = .ok (.iaload, 1) := by decide +kernel
theorem dL_law_317 : decode cL_law 317 = .ok (.aload_n 0, 1) := by decide +kernel
theorem dL_law_318 : decode cL_law 318 = .ok (.iload_n 3, 1) := by decide +kernel
theorem dL_law_319 : decode cL_law 319 = .ok (.iconst 2, 1) := by decide +kernel
theorem dL_law_320 : decode cL_law 320 = .ok (.iadd, 1) := by decide +kernel
theorem dL_law_321 : decode cL_law 321 = .ok (.iaload, 1) := by decide +kernel
theorem dL_law_322 : decode cL_law 322 = .ok (.invokevirtual 40, 3) := by decide +kernel
theorem dL_law_325 : decode cL_law 325 = .ok (.if_icmp .eq 271, 3) := by decide +kernel
theorem dL_law_328 : decode cL_law 328 = .ok (.iconst 0, 1) := by decide +kernel
theorem dL_law_329 : decode cL_law 329 = .ok (.ireturn, 1) := by decide +kernel
theorem dL_law_330 : decode cL_law 330 = .ok (.aload_n 1, 1) := by decide +kernel
theorem dL_law_331 : decode cL_law 331 = .ok (.invokevirtual 41, 3) := by decide +kernel
theorem dL_law_334 : decode cL_law 334 = .ok (.aload_n 2, 1) := by decide +kernel
theorem dL_law_335 : decode cL_law 335 = .ok (.invokevirtual 44, 3) := by decide +kernel
theorem dL_law_338 : decode cL_law 338 = .ok (.if_icmp .eq 258, 3) := by decide +kernel
theorem dL_law_341 : decode cL_law 341 = .ok (.iconst 0, 1) := by decide +kernel
theorem dL_law_342 : decode cL_law 342 = .ok (.ireturn, 1) := by decide +kernel
theorem dL_law_343 : decode cL_law 343 = .ok (.aload_n 1, 1) := by decide +kernel
theorem dL_law_344 : decode cL_law 344 = .ok (.aload_n 0, 1) := by decide +kernel
theorem dL_law_345 : decode cL_law 345 = .ok (.iload_n 3, 1) := by decide +kernel
theorem dL_law_346 : decode cL_law 346 = .ok (.iconst 1, 1) := by decide +kernel
theorem dL_law_347 : decode cL_law 347 = .ok (.iadd, 1) := by decide +kernel
theorem dL_law_348 : decode cL_law 348 = .ok (.iaload, 1) := by decide +kernel
theorem dL_law_349 : decode cL_law 349 = .ok (.aload_n 0, 1) := by decide +kernel
theorem dL_law_350 : decode cL_law 350 = .ok (.iload_n 3, 1) := by decide +kernel
theorem dL_law_351 : decode cL_law 351 = .ok (.iconst 2, 1) := by decide +kernel
theorem dL_law_352 : decode cL_law 352 = .ok (.iadd, 1) := by decide +kernel
theorem dL_law_353 : decode cL_law 353 = .ok (.iaload, 1) := by decide +kernel
theorem dL_law_354 : decode cL_law 354 = .ok (.invokevirtual 45, 3) := by decide +kernel
theorem dL_law_357 : decode cL_law 357 = .ok (.aload_n 2, 1) := by decide +kernel
theorem dL_law_358 : decode cL_law 358 = .ok (.aload_n 0, 1) := by decide +kernel
theorem dL_law_359 : decode cL_law 359 = .ok (.iload_n 3, 1) := by decide +kernel
theorem dL_law_360 : decode cL_law 360 = .ok (.iconst 1, 1) := by decide +kernel
theorem dL_law_361 : decode cL_law 361 = .ok (.iadd, 1) := by decide +kernel
theorem dL_law_362 : decode cL_law 362 = .ok (.iaload, 1) := by decide +kernel
theorem dL_law_363 : decode cL_law 363 = .ok (.aload_n 0, 1) := by decide +kernel
theorem dL_law_364 : decode cL_law 364 = .ok (.iload_n 3, 1) := by decide +kernel
theorem dL_law_365 : decode cL_law 365 = .ok (.iconst 2, 1) := by decide +kernel
theorem dL_law_366 : decode cL_law 366 = .ok (.iadd, 1) := by decide +kernel
theorem dL_law_367 : decode cL_law 367 = .ok (.iaload, 1) := by decide +kernel
theorem dL_law_368 : decode cL_law 368 = .ok (.invokevirtual 48, 3) := by decide +kernel
theorem dL_law_371 : decode cL_law 371 = .ok (.if_icmp .eq 225, 3) := by decide +kernel
theorem dL_law_374 : decode cL_law 374 = .ok (.iconst 0, 1) := by decide +kernel
theorem dL_law_375 : decode cL_law 375 = .ok (.ireturn, 1) := by decide +kernel
theorem dL_law_376 : decode cL_law 376 = .ok (.aload_n 1, 1) := by decide +kernel
theorem dL_law_377 : decode cL_law 377 = .ok (.aload_n 0, 1) := by decide +kernel
theorem dL_law_378 : decode cL_law 378 = .ok (.iload_n 3, 1) := by decide +kernel
theorem dL_law_379 : decode cL_law 379 = .ok (.iconst 1, 1) := by decide +kernel
theorem dL_law_380 : decode cL_law 380 = .ok (.iadd, 1) := by decide +kernel
theorem dL_law_381 : decode cL_law 381 = .ok (.iaload, 1) := by decide +kernel
theorem dL_law_382 : decode cL_law 382 = .ok (.aload_n 0, 1) := by decide +kernel
theorem dL_law_383 : decode cL_law 383 = .ok (.iload_n 3, 1) := by decide +kernel
theorem dL_law_384 : decode cL_law 384 = .ok (.iconst 2, 1) := by decide +kernel
theorem dL_law_385 : decode cL_law 385 = .ok (.iadd, 1) := by decide +kernel
theorem dL_law_386 : decode cL_law 386 = .ok (.iaload, 1) := by decide +kernel
theorem dL_law_387 : decode cL_law 387 = .ok (.ifCond .eq 7, 3) := by decide +kernel
theorem dL_law_390 : decode cL_law 390 = .ok (.iconst 1, 1) := by decide +kernel
theorem dL_law_391 : decode cL_law 391 = .ok (.goto 4, 3) := by decide +kernel
theorem dL_law_394 : decode cL_law 394 = .ok (.iconst 0, 1) := by decide +kernel
theorem dL_law_395 : decode cL_law 395 = .ok (.invokevirtual 49, 3) := by decide +kernel
theorem dL_law_398 : decode cL_law 398 = .ok (.aload_n 2, 1) := by decide +kernel
theorem dL_law_399 : decode cL_law 399 = .ok (.aload_n 0, 1) := by decide +kernel
theorem dL_law_400 : decode cL_law 400 = .ok (.iload_n 3, 1) := by decide +kernel
theorem dL_law_401 : decode cL_law 401 = .ok (.iconst 1, 1) := by decide +kernel
theorem dL_law_402 : decode cL_law 402 = .ok (.iadd, 1) := by decide +kernel
theorem dL_law_403 : decode cL_law 403 = .ok (.iaload, 1) := by decide +kernel
theorem dL_law_404 : decode cL_law 404 = .ok (.aload_n 0, 1) := by decide +kernel
theorem dL_law_405 : decode cL_law 405 = .ok (.iload_n 3, 1) := by decide +kernel
theorem dL_law_406 : decode cL_law 406 = .ok (.iconst 2, 1) := by decide +kernel
theorem dL_law_407 : decode cL_law 407 = .ok (.iadd, 1) := by decide +kernel
theorem dL_law_408 : decode cL_law 408 = .ok (.iaload, 1) := by decide +kernel
theorem dL_law_409 : decode cL_law 409 = .ok (.ifCond .eq 7, 3) := by decide +kernel
theorem dL_law_412 : decode cL_law 412 = .ok (.iconst 1, 1) := by decide +kernel
theorem dL_law_413 : decode cL_law 413 = .ok (.goto 4, 3) := by decide +kernel
theorem dL_law_416 : decode cL_law 416 = .ok (.iconst 0, 1) := by decide +kernel
theorem dL_law_417 : decode cL_law 417 = .ok (.invokevirtual 53, 3) := by decide +kernel
theorem dL_law_420 : decode cL_law 420 = .ok (.if_icmp .eq 176, 3) := by decide +kernel
theorem dL_law_423 : decode cL_law 423 = .ok (.iconst 0, 1) := by decide +kernel
theorem dL_law_424 : decode cL_law 424 = .ok (.ireturn, 1) := by decide +kernel
theorem dL_law_425 : decode cL_law 425 = .ok (.aload_n 1, 1) := by decide +kernel
theorem dL_law_426 : decode cL_law 426 = .ok (.aload_n 0, 1) := by decide +kernel
theorem dL_law_427 : decode cL_law 427 = .ok (.iload_n 3, 1) := by decide +kernel
theorem dL_law_428 : decode cL_law 428 = .ok (.iconst 1, 1) := by decide +kernel
theorem dL_law_429 : decode cL_law 429 = .ok (.iadd, 1) := by decide +kernel
theorem dL_law_430 : decode cL_law 430 = .ok (.iaload, 1) := by decide +kernel
theorem dL_law_431 : decode cL_law 431 = .ok (.invokevirtual 54, 3) := by decide +kernel
theorem dL_law_434 : decode cL_law 434 = .ok (.aload_n 2, 1) := by decide +kernel
theorem dL_law_435 : decode cL_law 435 = .ok (.aload_n 0, 1) := by decide +kernel
theorem dL_law_436 : decode cL_law 436 = .ok (.iload_n 3, 1) := by decide +kernel
theorem dL_law_437 : decode cL_law 437 = .ok (.iconst 1, 1) := by decide +kernel
theorem dL_law_438 : decode cL_law 438 = .ok (.iadd, 1) := by decide +kernel
theorem dL_law_439 : decode cL_law 439 = .ok (.iaload, 1) := by decide +kernel
theorem dL_law_440 : decode cL_law 440 = .ok (.invokevirtual 58, 3) := by decide +kernel
theorem dL_law_443 : decode cL_law 443 = .ok (.if_icmp .eq 153, 3) := by decide +kernel
theorem dL_law_446 : decode cL_law 446 = .ok (.iconst 0, 1) := by decide +kernel
theorem dL_law_447 : decode cL_law 447 = .ok (.ireturn, 1) := by decide +kernel
theorem dL_law_448 : decode cL_law 448 = .ok (.aload_n 1, 1) := by decide +kernel
theorem dL_law_449 : decode cL_law 449 = .ok (.invokevirtual 59, 3) := by decide +kernel
theorem dL_law_452 : decode cL_law 452 = .ok (.aload_n 2, 1) := by decide +kernel
theorem dL_law_453 : decode cL_law 453 = .ok (.invokevirtual 62, 3) := by decide +kernel
theorem dL_law_456 : decode cL_law 456 = .ok (.if_icmp .eq 140, 3) := by decide +kernel
theorem dL_law_459 : decode cL_law 459 = .ok (.iconst 0, 1) := by decide +kernel
theorem dL_law_460 : decode cL_law 460 = .ok (.ireturn, 1) := by decide +kernel
theorem dL_law_461 : decode cL_law 461 = .ok (.aload_n 1, 1) := by decide +kernel
theorem dL_law_462 : decode cL_law 462 = .ok (.aload_n 0, 1) := by decide +kernel
theorem dL_law_463 : decode cL_law 463 = .ok (.iload_n 3, 1) := by decide +kernel
theorem dL_law_464 : decode cL_law 464 = .ok (.iconst 1, 1) := by decide +kernel
theorem dL_law_465 : decode cL_law 465 = .ok (.iadd, 1) := by decide +kernel
theorem dL_law_466 : decode cL_law 466 = .ok (.iaload, 1) := by decide +kernel
theorem dL_law_467 : decode cL_law 467 = .ok (.aload_n 0, 1) := by decide +kernel
theorem dL_law_468 : decode cL_law 468 = .ok (.iload_n 3, 1) := by decide +kernel
theorem dL_law_469 : decode cL_law 469 = .ok (.iconst 2, 1) := by decide +kernel
theorem dL_law_470 : decode cL_law 470 = .ok (.iadd, 1) := by decide +kernel
theorem dL_law_471 : decode cL_law 471 = .ok (.iaload, 1) := by decide +kernel
theorem dL_law_472 : decode cL_law 472 = .ok (.invokevirtual 63, 3) := by decide +kernel
theorem dL_law_475 : decode cL_law 475 = .ok (.aload_n 2, 1) := by decide +kernel
theorem dL_law_476 : decode cL_law 476 = .ok (.aload_n 0, 1) := by decide +kernel
theorem dL_law_477 : decode cL_law 477 = .ok (.iload_n 3, 1) := by decide +kernel
theorem dL_law_478 : decode cL_law 478 = .ok (.iconst 1, 1) := by decide +kernel
theorem dL_law_479 : decode cL_law 479 = .ok (.iadd, 1) := by decide +kernel
theorem dL_law_480 : decode cL_law 480 = .ok (.iaload, 1) := by decide +kernel
theorem dL_law_481 : decode cL_law 481 = .ok (.aload_n 0, 1) := by decide +kernel
theorem dL_law_482 : decode cL_law 482 = .ok (.iload_n 3, 1) := by decide +kernel
theorem dL_law_483 : decode cL_law 483 = .ok (.iconst 2, 1) := by decide +kernel
theorem dL_law_484 : decode cL_law 484 = .ok (.iadd, 1) := by decide +kernel
theorem dL_law_485 : decode cL_law 485 = .ok (.iaload, 1) := by decide +kernel
theorem dL_law_486 : decode cL_law 486 = .ok (.invokevirtual 66, 3) := by decide +kernel
theorem dL_law_489 : decode cL_law 489 = .ok (.if_icmp .eq 107, 3) := by decide +kernel
theorem dL_law_492 : decode cL_law 492 = .ok (.iconst 0, 1) := by decide +kernel
theorem dL_law_493 : decode cL_law 493 = .ok (.ireturn, 1) := by decide +kernel
theorem dL_law_494 : decode cL_law 494 = .ok (.aload_n 1, 1) := by decide +kernel
theorem dL_law_495 : decode cL_law 495 = .ok (.aload_n 0, 1) := by decide +kernel
theorem dL_law_496 : decode cL_law 496 = .ok (.iload_n 3, 1) := by decide +kernel
theorem dL_law_497 : decode cL_law 497 = .ok (.iconst 1, 1) := by decide +kernel
theorem dL_law_498 : decode cL_law 498 = .ok (.iadd, 1) := by decide +kernel
theorem dL_law_499 : decode cL_law 499 = .ok (.iaload, 1) := by decide +kernel
theorem dL_law_500 : decode cL_law 500 = .ok (.invokevirtual 67, 3) := by decide +kernel
theorem dL_law_503 : decode cL_law 503 = .ok (.aload_n 2, 1) := by decide +kernel
theorem dL_law_504 : decode cL_law 504 = .ok (.aload_n 0, 1) := by decide +kernel
theorem dL_law_505 : decode cL_law 505 = .ok (.iload_n 3, 1) := by decide +kernel
theorem dL_law_506 : decode cL_law 506 = .ok (.iconst 1, 1) := by decide +kernel
theorem dL_law_507 : decode cL_law 507 = .ok (.iadd, 1) := by decide +kernel
theorem dL_law_508 : decode cL_law 508 = .ok (.iaload, 1) := by decide +kernel
theorem dL_law_509 : decode cL_law 509 = .ok (.invokevirtual 70, 3) := by decide +kernel
theorem dL_law_512 : decode cL_law 512 = .ok (.if_icmp .eq 84, 3) := by decide +kernel
theorem dL_law_515 : decode cL_law 515 = .ok (.iconst 0, 1) := by decide +kernel
theorem dL_law_516 : decode cL_law 516 = .ok (.ireturn, 1) := by decide +kernel
theorem dL_law_517 : decode cL_law 517 = .ok (.aload_n 1, 1) := by decide +kernel
theorem dL_law_518 : decode cL_law 518 = .ok (.aload_n 0, 1) := by decide +kernel
theorem dL_law_519 : decode cL_law 519 = .ok (.iload_n 3, 1) := by decide +kernel
theorem dL_law_520 : decode cL_law 520 = .ok (.iconst 1, 1) := by decide +kernel
theorem dL_law_521 : decode cL_law 521 = .ok (.iadd, 1) := by decide +kernel
theorem dL_law_522 : decode cL_law 522 = .ok (.iaload, 1) := by decide +kernel
theorem dL_law_523 : decode cL_law 523 = .ok (.aload_n 0, 1) := by decide +kernel
theorem dL_law_524 : decode cL_law 524 = .ok (.iload_n 3, 1) := by decide +kernel
theorem dL_law_525 : decode cL_law 525 = .ok (.iconst 2, 1) := by decide +kernel
theorem dL_law_526 : decode cL_law 526 = .ok (.iadd, 1) := by decide +kernel
theorem dL_law_527 : decode cL_law 527 = .ok (.iaload, 1) := by decide +kernel
theorem dL_law_528 : decode cL_law 528 = .ok (.invokevirtual 71, 3) := by decide +kernel
theorem dL_law_531 : decode cL_law 531 = .ok (.aload_n 2, 1) := by decide +kernel
theorem dL_law_532 : decode cL_law 532 = .ok (.aload_n 0, 1) := by decide +kernel
theorem dL_law_533 : decode cL_law 533 = .ok (.iload_n 3, 1) := by decide +kernel
theorem dL_law_534 : decode cL_law 534 = .ok (.iconst 1, 1) := by decide +kernel
theorem dL_law_535 : decode cL_law 535 = .ok (.iadd, 1) := by decide +kernel
theorem dL_law_536 : decode cL_law 536 = .ok (.iaload, 1) := by decide +kernel
theorem dL_law_537 : decode cL_law 537 = .ok (.aload_n 0, 1) := by decide +kernel
theorem dL_law_538 : decode cL_law 538 = .ok (.iload_n 3, 1) := by decide +kernel
theorem dL_law_539 : decode cL_law 539 = .ok (.iconst 2, 1) := by decide +kernel
theorem dL_law_540 : decode cL_law 540 = .ok (.iadd, 1) := by decide +kernel
theorem dL_law_541 : decode cL_law 541 = .ok (.iaload, 1) := by decide +kernel
theorem dL_law_542 : decode cL_law 542 = .ok (.invokevirtual 74, 3) := by decide +kernel
theorem dL_law_545 : decode cL_law 545 = .ok (.if_icmp .eq 51, 3) := by decide +kernel
theorem dL_law_548 : decode cL_law 548 = .ok (.iconst 0, 1) := by decide +kernel
theorem dL_law_549 : decode cL_law 549 = .ok (.ireturn, 1) := by decide +kernel
theorem dL_law_550 : decode cL_law 550 = .ok (.aload_n 1, 1) := by decide +kernel
theorem dL_law_551 : decode cL_law 551 = .ok (.aload_n 0, 1) := by decide +kernel
theorem dL_law_552 : decode cL_law 552 = .ok (.iload_n 3, 1) := by decide +kernel
theorem dL_law_553 : decode cL_law 553 = .ok (.iconst 1, 1) := by decide +kernel
theorem dL_law_554 : decode cL_law 554 = .ok (.iadd, 1) := by decide +kernel
theorem dL_law_555 : decode cL_law 555 = .ok (.iaload, 1) := by decide +kernel
theorem dL_law_556 : decode cL_law 556 = .ok (.aload_n 0, 1) := by decide +kernel
theorem dL_law_557 : decode cL_law 557 = .ok (.iload_n 3, 1) := by decide +kernel
theorem dL_law_558 : decode cL_law 558 = .ok (.iconst 2, 1) := by decide +kernel
theorem dL_law_559 : decode cL_law 559 = .ok (.iadd, 1) := by decide +kernel
theorem dL_law_560 : decode cL_law 560 = .ok (.iaload, 1) := by decide +kernel
theorem dL_law_561 : decode cL_law 561 = .ok (.invokevirtual 75, 3) := by decide +kernel
theorem dL_law_564 : decode cL_law 564 = .ok (.aload_n 2, 1) := by decide +kernel
theorem dL_law_565 : decode cL_law 565 = .ok (.aload_n 0, 1) := by decide +kernel
theorem dL_law_566 : decode cL_law 566 = .ok (.iload_n 3, 1) := by decide +kernel
theorem dL_law_567 : decode cL_law 567 = .ok (.iconst 1, 1) := by decide +kernel
theorem dL_law_568 : decode cL_law 568 = .ok (.iadd, 1) := by decide +kernel
theorem dL_law_569 : decode cL_law 569 = .ok (.iaload, 1) := by decide +kernel
theorem dL_law_570 : decode cL_law 570 = .ok (.aload_n 0, 1) := by decide +kernel
theorem dL_law_571 : decode cL_law 571 = .ok (.iload_n 3, 1) := by decide +kernel
theorem dL_law_572 : decode cL_law 572 = .ok (.iconst 2, 1) := by decide +kernel
theorem dL_law_573 : decode cL_law 573 = .ok (.iadd, 1) := by decide +kernel
theorem dL_law_574 : decode cL_law 574 = .ok (.iaload, 1) := by decide +kernel
theorem dL_law_575 : decode cL_law 575 = .ok (.invokevirtual 78, 3) := by decide +kernel
theorem dL_law_578 : decode cL_law 578 = .ok (.if_icmp .eq 18, 3) := by decide +kernel
theorem dL_law_581 : decode cL_law 581 = .ok (.iconst 0, 1) := by decide +kernel
theorem dL_law_582 : decode cL_law 582 = .ok (.ireturn, 1) := by decide +kernel
theorem dL_law_583 : decode cL_law 583 = .ok (.aload_n 1, 1) := by decide +kernel
theorem dL_law_584 : decode cL_law 584 = .ok (.invokevirtual 79, 3) := by decide +kernel
theorem dL_law_587 : decode cL_law 587 = .ok (.aload_n 2, 1) := by decide +kernel
theorem dL_law_588 : decode cL_law 588 = .ok (.invokevirtual 82, 3) := by decide +kernel
theorem dL_law_591 : decode cL_law 591 = .ok (.if_icmp .eq 5, 3) := by decide +kernel
theorem dL_law_594 : decode cL_law 594 = .ok (.iconst 0, 1) := by decide +kernel
theorem dL_law_595 : decode cL_law 595 = .ok (.ireturn, 1) := by decide +kernel
theorem dL_law_596 : decode cL_law 596 = .ok (.iinc 3 6, 3) := by decide +kernel
theorem dL_law_599 : decode cL_law 599 = .ok (.goto (-581), 3) := by decide +kernel
theorem dL_law_602 : decode cL_law 602 = .ok (.iconst 1, 1) := by decide +kernel
theorem dL_law_603 : decode cL_law 603 = .ok (.ireturn, 1) := by decide +kernel
end
section
/-! machine ints as whole numbers -/
def iI (z : Int) : Int32 := Int32.ofInt z
theorem iI_add (a b : Int) : iI a + iI b = iI (a + b) := (Int32.ofInt_add a b).symm
theorem iI_sub (a b : Int) : iI a - iI b = iI (a - b) := (Int32.ofInt_sub a b).symm
theorem iI_mul (a b : Int) : iI a * iI b = iI (a * b) := (Int32.ofInt_mul a b).symm
theorem iI_neg (a : Int) : -iI a = iI (-a) := (Int32.ofInt_neg a).symm
theorem iI_toInt {z : Int} (h : -2147483648 ≤ z ∧ z ≤ 2147483647) : (iI z).toInt = z := Int32.toInt_ofInt_of_le (by omega) (by omega)
theorem iI_of (x : Int32) : x = iI x.toInt := (Int32.ofInt_toInt x).symm
theorem iI_rg (x : Int32) : -2147483648 ≤ x.toInt ∧ x.toInt ≤ 2147483647 := by
  have h1 := Int32.toInt_lt x
  have h2 := Int32.le_toInt x
  omega
theorem iI_lt {a b : Int} (ha : -2147483648 ≤ a ∧ a ≤ 2147483647) (hb : -2147483648 ≤ b ∧ b ≤ 2147483647) : iI a < iI b ↔ a < b := by
  rw [Int32.lt_iff_toInt_lt, iI_toInt ha, iI_toInt hb]
theorem iI_le {a b : Int} (ha : -2147483648 ≤ a ∧ a ≤ 2147483647) (hb : -2147483648 ≤ b ∧ b ≤ 2147483647) : iI a ≤ iI b ↔ a ≤ b := by
  rw [Int32.le_iff_toInt_le, iI_toInt ha, iI_toInt hb]
theorem iI_eq {a b : Int} (ha : -2147483648 ≤ a ∧ a ≤ 2147483647) (hb : -2147483648 ≤ b ∧ b ≤ 2147483647) : iI a = iI b ↔ a = b := by
  rw [← Int32.toInt_inj, iI_toInt ha, iI_toInt hb]
theorem iI_0 : (0 : Int32) = iI 0 := rfl
theorem iI_clamp {a : Int} (h0 : 0 ≤ a) (h1 : a ≤ 2147483647) : ((iI a).toNatClampNeg : Int) = a := by
  show (((iI a).toInt.toNat : Nat) : Int) = a
  rw [iI_toInt ⟨by omega, h1⟩]
  omega
theorem iI_in {a : Int} {n : Nat} (h0 : 0 ≤ a) (h1 : a < n) (hn : n ≤ 2147483647) : vp_in (iI a) n := by
  rw [vp_in_iff, iI_toInt ⟨by omega, by omega⟩]
  exact ⟨h0, h1⟩
theorem iI_div {a b : Int} (ha : -2147483647 ≤ a ∧ a ≤ 2147483647) (hb : -2147483648 ≤ b ∧ b ≤ 2147483647) : iI a / iI b = iI (a.tdiv b) := by
  have h1 : (iI a / iI b).toInt = (iI a).toInt.tdiv (iI b).toInt := Int32.toInt_div_of_ne_left _ _ (fun h => by
    have h2 := congrArg Int32.toInt h
    rw [iI_toInt ⟨by omega, by omega⟩] at h2
    have h3 : Int32.minValue.toInt = -2147483648 := by decide
    omega)
  rw [iI_of (iI a / iI b), h1, iI_toInt ⟨by omega, by omega⟩, iI_toInt hb]
theorem iI_rem {a b : Int} (ha : -2147483647 ≤ a ∧ a ≤ 2147483647) (hb : -2147483648 ≤ b ∧ b ≤ 2147483647) : iI a - iI a / iI b * iI b = iI (a - a.tdiv b * b) := by
  rw [iI_div ha hb, iI_mul, iI_sub]
/-! the words that all methods share -/
def gw : List Cond := lw_tbl.filter goodWord
def isNest : Cond → Bool
  | .methodLinkNest _ _ _ _ => true
  | _ => false
def nw : List Cond := lw_tbl.filter isNest
def Nst (U : State) : Prop := ∀ w ∈ nw, va_Nw w U
theorem gw_in {w : Cond} (h : w ∈ lw_tbl) (hg : goodWord w = true) : w ∈ gw := List.mem_filter.mpr ⟨h, hg⟩
theorem nw_in {w : Cond} (h : w ∈ lw_tbl) (hg : isNest w = true) : w ∈ nw := List.mem_filter.mpr ⟨h, hg⟩
theorem Nst.warm {s U : State} (hW : s.WarmedH U.vm) (h : Nst s) : Nst U := by
  intro w hw
  have h2 := h w hw
  have h3 := (List.mem_filter.mp hw).2
  cases w <;> first | exact va_Nw.warmM hW h2 | exact absurd h3 (by simp [isNest])
theorem Nst.same {u U : State} (he : u.vm = U.vm) (h : Nst u) : Nst U := by
  intro w hw
  have h2 := h w hw
  have h3 := (List.mem_filter.mp hw).2
  cases w <;> first | exact va_Nw.same rfl he h2 | exact absurd h3 (by simp [isNest])
def wM (y : MethodName) (cc : ByteArray) (n : Nat) (ret : Option FieldType) : List Cond := .code y cc n ret :: gw
theorem wM_good {y : MethodName} {cc : ByteArray} {n : Nat} {ret : Option FieldType} (h : Cond.code y cc n ret ∈ gw) : GoodIn gw (wM y cc n ret) := by
  intro w hw
  rcases List.mem_cons.mp hw with rfl | hw
  · exact ⟨h, good_of_word (List.mem_filter.mp h).2⟩
  · exact ⟨hw, good_of_word (List.mem_filter.mp hw).2⟩
/-! the world: 64 cells at fixed places; what they hold is a function of whole numbers -/
abbrev GT : Type := ((Nat → ClassId) × (Nat → Nat → Nat)) × (Nat → Nat) × (Nat → ClassId)
abbrev Mem : Type := (Nat → Int → Int) × (Nat → Int → Int64)
def tysG (G : GT) : List (ClassId × FieldType) := [(G.2.2 0, .int), (G.2.2 1, .long), (G.2.2 2, .boolean), (G.2.2 3, .object "LinearReach$Row")]
abbrev aI (G : GT) (n : Nat) (f : Int → Int) : va_E := .inl (G.2.2 0, n, .inl (fun j => iI (f (j : Int))))
abbrev aZ (G : GT) (n : Nat) (f : Int → Int) : va_E := .inl (G.2.2 2, n, .inl (fun j => iI (f (j : Int))))
abbrev aL (G : GT) (n : Nat) (f : Int → Int64) : va_E := .inl (G.2.2 1, n, .inr (.inl (fun j => f (j : Int))))
abbrev oI (f : Int → Int) (k : Int) : Value := .int (iI (f k))
def cE1 (G : GT) (v : Mem) (i : Nat) : va_E := match i with
  | 0 => .inr (7, [.ref (G.2.1 1), .ref (G.2.1 10), .ref (G.2.1 12), .ref (G.2.1 18), .ref (G.2.1 22)])
  | 1 => .inr (3, [oI (v.1 1) 0, .ref (G.2.1 2), .ref (G.2.1 3), .ref (G.2.1 4), .ref (G.2.1 7)])
  | 2 => aL G 8 (v.2 2)
  | 3 => aL G 8 (v.2 3)
  | 4 => .inr (5, [.ref (G.2.1 5), .ref (G.2.1 6)])
  | 5 => aI G 8 (v.1 5)
  | 6 => aI G 8 (v.1 6)
  | 7 => .inr (5, [.ref (G.2.1 8), .ref (G.2.1 9)])
  | 8 => aI G 8 (v.1 8)
  | 9 => aI G 8 (v.1 9)
  | 10 => .inr (2, [oI (v.1 10) 0, .ref (G.2.1 11)])
  | 11 => .inl (G.2.2 3, 12, .inr (.inr (.inr (.inr (fun j => some (G.2.1 (40 + j)))))))
  | 12 => .inr (6, [oI (v.1 12) 0, .ref (G.2.1 13), .ref (G.2.1 14), .ref (G.2.1 15), .ref (G.2.1 16), .ref (G.2.1 17)])
  | 13 => aI G 512 (v.1 13)
  | 14 => aI G 512 (v.1 14)
  | 15 => aI G 512 (v.1 15)
  | 16 => aI G 512 (v.1 16)
  | 17 => aI G 512 (v.1 17)
  | 18 => .inr (4, [oI (v.1 18) 0, oI (v.1 18) 1, .ref (G.2.1 1), .ref (G.2.1 10), .ref (G.2.1 12), .ref (G.2.1 19)])
  | 19 => .inr (5, [.ref (G.2.1 20), .ref (G.2.1 21)])
  | 20 => aI G 8 (v.1 20)
  | 21 => aI G 8 (v.1 21)
  | 22 => .inr (0, [.ref (G.2.1 1), .ref (G.2.1 10), .ref (G.2.1 23), .ref (G.2.1 24)])
  | 23 => aI G 8 (v.1 23)
  | 24 => aI G 12 (v.1 24)
  | 25 => .inr (8, [oI (v.1 25) 0, oI (v.1 25) 1, .ref (G.2.1 26), .ref (G.2.1 27), .ref (G.2.1 28), .ref (G.2.1 29), .ref (G.2.1 30), .ref (G.2.1 31), oI (v.1 25) 8, oI (v.1 25) 9, oI (v.1 25) 10, .ref (G.2.1 32), .ref (G.2.1 33), .ref (G.2.1 34), .ref (G.2.1 35), .ref (G.2.1 36), .ref (G.2.1 37), .ref (G.2.1 38), .ref (G.2.1 39)])
  | 26 => aZ G 512 (v.1 26)
  | 27 => aZ G 512 (v.1 27)
  | 28 => aI G 12 (v.1 28)
  | 29 => aI G 36 (v.1 29)
  | 30 => aI G 12 (v.1 30)
  | 31 => aI G 96 (v.1 31)
  | 32 => aI G 512 (v.1 32)
  | 33 => aI G 512 (v.1 33)
  | 34 => aI G 512 (v.1 34)
  | 35 => aI G 512 (v.1 35)
  | 36 => aZ G 8192 (v.1 36)
  | 37 => aI G 8192 (v.1 37)
  | 38 => aI G 8 (v.1 38)
  | _ => aI G 8 (v.1 39)
def cE (G : GT) (v : Mem) (i : Nat) : va_E :=
  if i < 40 then cE1 G v i
  else if i < 52 then .inr (1, [oI (v.1 i) 0, oI (v.1 i) 1, oI (v.1 i) 2, oI (v.1 i) 3, oI (v.1 i) 4, .ref (G.2.1 (i + 12))])
  else aI G 8 (v.1 i)
def wd (G : GT) (v : Mem) : va_W := (List.range 64).map (fun i => (G.2.1 i, cE G v i))
def gok (G : GT) : Prop := ∀ i j : Nat, i < 64 → j < 64 → G.2.1 i = G.2.1 j → i = j
def aW (G : GT) : Nat → Prop := fun q => ∃ i : Nat, i < 64 ∧ G.2.1 i = q
theorem wd_at {G : GT} {v : Mem} {i : Nat} (hi : i < 64) : (wd G v)[i]? = some (G.2.1 i, cE G v i) := by
  simp [wd, hi]
theorem wd_len {G : GT} {v : Mem} : (wd G v).length = 64 := by simp [wd]
theorem wd_lt {G : GT} {v : Mem} {i : Nat} {q : Nat × va_E} (h : (wd G v)[i]? = some q) : i < 64 := by
  have := (List.getElem?_eq_some_iff.mp h).1
  rwa [wd_len] at this
theorem wd_D {G : GT} {v : Mem} {A : Nat → Prop} (hG : gok G) (hA : ∀ i, i < 64 → A (G.2.1 i)) : va_D A (wd G v) := by
  refine ⟨fun i j x y hi hj hxy => ?_, fun k q hk => ?_⟩
  · have h1 := wd_lt hi
    have h2 := wd_lt hj
    rw [wd_at h1] at hi
    rw [wd_at h2] at hj
    cases hi; cases hj
    exact hG i j h1 h2 hxy
  · have h1 := wd_lt hk
    rw [wd_at h1] at hk
    cases hk
    exact hA k h1
theorem wd_set {G : GT} {v v' : Mem} {i : Nat} {e : va_E} (he : cE G v' i = e) (ho : ∀ j, j ≠ i → cE G v' j = cE G v j) : (wd G v).set i (G.2.1 i, e) = wd G v' := by
  apply List.ext_getElem?
  intro j
  by_cases hj : j < 64
  · rw [wd_at hj]
    by_cases hji : j = i
    · subst hji
      rw [List.getElem?_set_self (by rw [wd_len]; exact hj), he]
    · rw [List.getElem?_set_ne (Ne.symm hji), wd_at hj, ho j hji]
  · rw [List.getElem?_eq_none (by rw [List.length_set, wd_len]; omega), List.getElem?_eq_none (by rw [wd_len]; omega)]
theorem cE1_loc {G : GT} {v v' : Mem} : ∀ (j : Nat) (_ : j < 40) (_ : v'.1 j = v.1 j) (_ : v'.2 j = v.2 j), cE1 G v' j = cE1 G v j
  | 0, _, h1, h2 => by simp only [cE1, h1, h2]
  | 1, _, h1, h2 => by simp only [cE1, h1, h2]
  | 2, _, h1, h2 => by simp only [cE1, h1, h2]
  | 3, _, h1, h2 => by simp only [cE1, h1, h2]
  | 4, _, h1, h2 => by simp only [cE1, h1, h2]
  | 5, _, h1, h2 => by simp only [cE1, h1, h2]
  | 6, _, h1, h2 => by simp only [cE1, h1, h2]
  | 7, _, h1, h2 => by simp only [cE1, h1, h2]
  | 8, _, h1, h2 => by simp only [cE1, h1, h2]
  | 9, _, h1, h2 => by simp only [cE1, h1, h2]
  | 10, _, h1, h2 => by simp only [cE1, h1, h2]
  | 11, _, h1, h2 => by simp only [cE1, h1, h2]
  | 12, _, h1, h2 => by simp only [cE1, h1, h2]
  | 13, _, h1, h2 => by simp only [cE1, h1, h2]
  | 14, _, h1, h2 => by simp only [cE1, h1, h2]
  | 15, _, h1, h2 => by simp only [cE1, h1, h2]
  | 16, _, h1, h2 => by simp only [cE1, h1, h2]
  | 17, _, h1, h2 => by simp only [cE1, h1, h2]
  | 18, _, h1, h2 => by simp only [cE1, h1, h2]
  | 19, _, h1, h2 => by simp only [cE1, h1, h2]
  | 20, _, h1, h2 => by simp only [cE1, h1, h2]
  | 21, _, h1, h2 => by simp only [cE1, h1, h2]
  | 22, _, h1, h2 => by simp only [cE1, h1, h2]
  | 23, _, h1, h2 => by simp only [cE1, h1, h2]
  | 24, _, h1, h2 => by simp only [cE1, h1, h2]
  | 25, _, h1, h2 => by simp only [cE1, h1, h2]
  | 26, _, h1, h2 => by simp only [cE1, h1, h2]
  | 27, _, h1, h2 => by simp only [cE1, h1, h2]
  | 28, _, h1, h2 => by simp only [cE1, h1, h2]
  | 29, _, h1, h2 => by simp only [cE1, h1, h2]
  | 30, _, h1, h2 => by simp only [cE1, h1, h2]
  | 31, _, h1, h2 => by simp only [cE1, h1, h2]
  | 32, _, h1, h2 => by simp only [cE1, h1, h2]
  | 33, _, h1, h2 => by simp only [cE1, h1, h2]
  | 34, _, h1, h2 => by simp only [cE1, h1, h2]
  | 35, _, h1, h2 => by simp only [cE1, h1, h2]
  | 36, _, h1, h2 => by simp only [cE1, h1, h2]
  | 37, _, h1, h2 => by simp only [cE1, h1, h2]
  | 38, _, h1, h2 => by simp only [cE1, h1, h2]
  | 39, _, h1, h2 => by simp only [cE1, h1, h2]
  | j + 40, hj, _, _ => by omega
theorem cE_loc {G : GT} {v v' : Mem} {j : Nat} (h1 : v'.1 j = v.1 j) (h2 : v'.2 j = v.2 j) : cE G v' j = cE G v j := by
  unfold cE
  by_cases hj : j < 40
  · rw [if_pos hj, if_pos hj, cE1_loc j hj h1 h2]
  · rw [if_neg hj, if_neg hj]
    simp only [h1]
/-! memory: one place changed -/
def u2 {α : Type} (f : Nat → Int → α) (i : Nat) (x : Int) (z : α) : Nat → Int → α := fun a b => if a = i ∧ b = x then z else f a b
def wI (v : Mem) (i : Nat) (x z : Int) : Mem := (u2 v.1 i x z, v.2)
def wL (v : Mem) (i : Nat) (x : Int) (z : Int64) : Mem := (v.1, u2 v.2 i x z)
theorem u2_s {α : Type} {f : Nat → Int → α} {i : Nat} {x : Int} {z : α} : u2 f i x z i x = z := by simp [u2]
theorem u2_n {α : Type} {f : Nat → Int → α} {i j : Nat} {x y : Int} {z : α} (h : ¬ (j = i ∧ y = x)) : u2 f i x z j y = f j y := by simp [u2, h]
theorem u2_r {α : Type} {f : Nat → Int → α} {i j : Nat} {x : Int} {z : α} (h : j ≠ i) : u2 f i x z j = f j := by
  funext y; simp [u2, h]
theorem cE_wI {G : GT} {v : Mem} {i : Nat} {x z : Int} {j : Nat} (h : j ≠ i) : cE G (wI v i x z) j = cE G v j := cE_loc (u2_r h) rfl
theorem cE_wL {G : GT} {v : Mem} {i : Nat} {x : Int} {z : Int64} {j : Nat} (h : j ≠ i) : cE G (wL v i x z) j = cE G v j := cE_loc rfl (u2_r h)
end
section
/-! places of variables, by their numbers -/
def lvq : Nat → List (Option Value) → List (Nat × Value)
  | _, [] => []
  | i, none :: r => lvq (i + 1) r
  | i, some x :: r => (i, x) :: lvq (i + 1) r
def lvl (L : List (Option Value)) : List (Nat × Value) := lvq 0 L
theorem lvq_mem : ∀ (L : List (Option Value)) (i j : Nat) (x : Value), (j, x) ∈ lvq i L ↔ i ≤ j ∧ L[j - i]? = some (some x)
  | [], i, j, x => by simp [lvq]
  | o :: r, i, j, x => by
    have ih := lvq_mem r (i + 1) j x
    cases o with
    | none =>
      simp only [lvq]
      rw [ih]
      constructor
      · rintro ⟨h1, h2⟩
        refine ⟨by omega, ?_⟩
        rw [show j - i = (j - (i + 1)) + 1 by omega, List.getElem?_cons_succ]
        exact h2
      · rintro ⟨h1, h2⟩
        by_cases hij : j = i
        · subst hij
          rw [Nat.sub_self, List.getElem?_cons_zero] at h2
          cases h2
        · refine ⟨by omega, ?_⟩
          rw [show j - i = (j - (i + 1)) + 1 by omega, List.getElem?_cons_succ] at h2
          exact h2
    | some y =>
      simp only [lvq, List.mem_cons]
      rw [ih]
      constructor
      · rintro (h | ⟨h1, h2⟩)
        · cases h
          exact ⟨Nat.le_refl _, by rw [Nat.sub_self]; rfl⟩
        · refine ⟨by omega, ?_⟩
          rw [show j - i = (j - (i + 1)) + 1 by omega, List.getElem?_cons_succ]
          exact h2
      · rintro ⟨h1, h2⟩
        by_cases hij : j = i
        · subst hij
          rw [Nat.sub_self, List.getElem?_cons_zero] at h2
          cases h2
          exact Or.inl rfl
        · refine Or.inr ⟨by omega, ?_⟩
          rw [show j - i = (j - (i + 1)) + 1 by omega, List.getElem?_cons_succ] at h2
          exact h2
theorem lvl_mem {L : List (Option Value)} {j : Nat} {x : Value} : (j, x) ∈ lvl L ↔ L[j]? = some (some x) := by
  unfold lvl
  rw [lvq_mem]
  simp
def noL (L : List (Option Value)) (i : Nat) : Bool := match i with
  | 0 => true
  | k + 1 => match L[k]? with
    | some (some w) => w.category != 2
    | _ => true
theorem lv_set1 {ls : Array Slot} {nL : Nat} {L : List (Option Value)} {i : Nat} {x : Value} (hn : noL L i = true) (h : lv_has ls nL ((i, x) :: (lvl L).filter (fun q => !(q.1 == i) && !(q.1 + 1 == i && q.2.category == 2)))) : lv_has ls nL (lvl (L.set i (some x))) := by
  refine ⟨h.1, h.2.1, fun q hq => h.2.2 q ?_⟩
  obtain ⟨j, y⟩ := q
  rw [lvl_mem] at hq
  by_cases hji : j = i
  · subst hji
    have hl : j < (L.set j (some x)).length := (List.getElem?_eq_some_iff.mp hq).1
    rw [List.length_set] at hl
    rw [List.getElem?_set_self hl] at hq
    cases hq
    exact List.mem_cons_self
  · rw [List.getElem?_set_ne (Ne.symm hji)] at hq
    refine List.mem_cons_of_mem _ (List.mem_filter.mpr ⟨lvl_mem.mpr hq, ?_⟩)
    simp only [Bool.and_eq_true, Bool.not_eq_true', beq_eq_false_iff_ne, ne_eq, Bool.and_eq_false_imp, beq_iff_eq]
    refine ⟨hji, fun h1 => ?_⟩
    subst h1
    simp only [noL] at hn
    rw [hq] at hn
    simpa using hn
theorem lv_set2 {ls : Array Slot} {nL : Nat} {L : List (Option Value)} {i : Nat} {x : Value} (hn : noL L i = true) (h : lv_has ls nL ((i, x) :: (lvl L).filter (fun q => !(q.1 == i) && (!(q.1 == i + 1) && !(q.1 + 1 == i && q.2.category == 2))))) : lv_has ls nL (lvl ((L.set i (some x)).set (i + 1) none)) := by
  refine ⟨h.1, h.2.1, fun q hq => h.2.2 q ?_⟩
  obtain ⟨j, y⟩ := q
  rw [lvl_mem] at hq
  by_cases hj1 : j = i + 1
  · subst hj1
    have hl := (List.getElem?_eq_some_iff.mp hq).1
    rw [List.length_set] at hl
    rw [List.getElem?_set_self hl] at hq
    cases hq
  · rw [List.getElem?_set_ne (Ne.symm hj1)] at hq
    by_cases hji : j = i
    · subst hji
      have hl : j < (L.set j (some x)).length := (List.getElem?_eq_some_iff.mp hq).1
      rw [List.length_set] at hl
      rw [List.getElem?_set_self hl] at hq
      cases hq
      exact List.mem_cons_self
    · rw [List.getElem?_set_ne (Ne.symm hji)] at hq
      refine List.mem_cons_of_mem _ (List.mem_filter.mpr ⟨lvl_mem.mpr hq, ?_⟩)
      simp only [Bool.and_eq_true, Bool.not_eq_true', beq_eq_false_iff_ne, ne_eq, Bool.and_eq_false_imp, beq_iff_eq]
      refine ⟨hji, hj1, fun h1 => ?_⟩
      subst h1
      simp only [noL] at hn
      rw [hq] at hn
      simpa using hn
/-! the judgement: the machine stands at pc with the world v, variables lv, stack st -/
abbrev CX : Type := Program × Launch × Env × Room × State × MethodId × Array Value × List Frame × Method × Code × Nat × Nat × (State → Prop) × (Nat → Prop)
abbrev x_p (X : CX) : Program := X.1
abbrev x_l (X : CX) : Launch := X.2.1
abbrev x_e (X : CX) : Env := X.2.2.1
abbrev x_R (X : CX) : Room := X.2.2.2.1
abbrev x_s (X : CX) : State := X.2.2.2.2.1
abbrev x_m (X : CX) : MethodId := X.2.2.2.2.2.1
abbrev x_a (X : CX) : Array Value := X.2.2.2.2.2.2.1
abbrev x_b (X : CX) : List Frame := X.2.2.2.2.2.2.2.1
abbrev x_me (X : CX) : Method := X.2.2.2.2.2.2.2.2.1
abbrev x_c (X : CX) : Code := X.2.2.2.2.2.2.2.2.2.1
abbrev x_k (X : CX) : Nat := X.2.2.2.2.2.2.2.2.2.2.1
abbrev x_n (X : CX) : Nat := X.2.2.2.2.2.2.2.2.2.2.2.1
abbrev x_Q (X : CX) : State → Prop := X.2.2.2.2.2.2.2.2.2.2.2.2.1
abbrev x_A (X : CX) : Nat → Prop := X.2.2.2.2.2.2.2.2.2.2.2.2.2
abbrev x_W (X : CX) (H : Heap) (locs : List Loc) (g : JFrame) : Prop := W (x_p X) (x_l X) (x_e X) (x_R X) (x_s X) (x_m X) (x_a X) (x_b X) (x_me X) (x_c X) H locs (x_k X) (x_n X) (x_Q X) g
def M (X : CX) (G : GT) (nL : Nat) (v : Mem) (pc : Nat) (lv : List (Option Value)) (st : List Value) : Prop :=
  ∀ (H : Heap) (locs : List Loc) (ls : Array Slot), va_P G.1 vwCl (wd G v) H → va_S (x_A X) (x_s X).heap H locs → lv_has ls nL (lvl lv) → x_W X H locs (F0 (x_m X) pc ls st)
def Ok (X : CX) (G : GT) (nL : Nat) (cc : ByteArray) (own : String) (D : Nat) : Prop :=
  (x_p X).tables.exec = Jvm.exec ∧ (x_c X).code = cc ∧ (x_c X).maxLocals = nL ∧ (x_s X).vm.findClass own = some (x_m X).cls ∧ (∀ w ∈ gw, w.before (x_a X) (x_s X) = true) ∧ va_K G.1 vwCl (tysG G) (x_s X) ∧ Nst (x_s X) ∧ gok G ∧ (∀ i, i < 64 → x_A X (G.2.1 i)) ∧ (x_me X).locks = false ∧ (D ≤ (x_R X).frames ∧ 40 * D ≤ (x_R X).locals) ∧ (x_k X ≤ (x_R X).cells ∧ x_n X ≤ (x_R X).slots)
section Rules
variable {X : CX} {G : GT} {nL : Nat} {cc : ByteArray} {own : String} {D : Nat} {v : Mem} {pc : Nat} {lv : List (Option Value)} {st : List Value}
theorem lvl_at {ls : Array Slot} {L : List (Option Value)} (h : lv_has ls nL (lvl L)) {i : Nat} {x : Value} (hi : L[i]? = some (some x)) : ls[i]? = some (.val x) := h.2.2 (i, x) (lvl_mem.mpr hi)
theorem m_iconst (h : Ok X G nL cc own D) {n : Int} (hd : decode cc pc = .ok (.iconst n, 1)) (k : M X G nL v (pc + 1) lv (.int (iI n) :: st)) : M X G nL v pc lv st :=
  fun H locs ls hP hS hl => lv_iconst h.1 h.2.1 hd rfl (k H locs ls hP hS hl)
theorem m_bipush (h : Ok X G nL cc own D) {n : Int} (hd : decode cc pc = .ok (.bipush n, 2)) (hn : (Int8.ofInt n).toInt32 = iI n) (k : M X G nL v (pc + 2) lv (.int (iI n) :: st)) : M X G nL v pc lv st :=
  fun H locs ls hP hS hl => lv_bipush h.1 h.2.1 hd hn (k H locs ls hP hS hl)
theorem m_sipush (h : Ok X G nL cc own D) {n : Int} (hd : decode cc pc = .ok (.sipush n, 3)) (hn : (Int16.ofInt n).toInt32 = iI n) (k : M X G nL v (pc + 3) lv (.int (iI n) :: st)) : M X G nL v pc lv st :=
  fun H locs ls hP hS hl => lv_sipush h.1 h.2.1 hd hn (k H locs ls hP hS hl)
theorem m_lconst (h : Ok X G nL cc own D) {n : Fin 2} {z : Int64} (hd : decode cc pc = .ok (.lconst n, 1)) (hz : Int64.ofNat (n : Nat) = z) (k : M X G nL v (pc + 1) lv (.long z :: st)) : M X G nL v pc lv st :=
  fun H locs ls hP hS hl => lv_lconst h.1 h.2.1 hd hz (k H locs ls hP hS hl)
theorem m_iload_n (h : Ok X G nL cc own D) {q : Fin 4} {i : Nat} {x : Int32} (hd : decode cc pc = .ok (.iload_n q, 1)) (hi : (q : Nat) = i) (hx : lv[i]? = some (some (.int x))) (k : M X G nL v (pc + 1) lv (.int x :: st)) : M X G nL v pc lv st :=
  fun H locs ls hP hS hl => lv_iload_n h.1 h.2.1 hd hi (lvl_at hl hx) (k H locs ls hP hS hl)
theorem m_iload (h : Ok X G nL cc own D) {i : Nat} {x : Int32} (hd : decode cc pc = .ok (.iload i, 2)) (hx : lv[i]? = some (some (.int x))) (k : M X G nL v (pc + 2) lv (.int x :: st)) : M X G nL v pc lv st :=
  fun H locs ls hP hS hl => lv_iload h.1 h.2.1 hd (lvl_at hl hx) (k H locs ls hP hS hl)
theorem m_lload_n (h : Ok X G nL cc own D) {q : Fin 4} {i : Nat} {x : Int64} (hd : decode cc pc = .ok (.lload_n q, 1)) (hi : (q : Nat) = i) (hx : lv[i]? = some (some (.long x))) (k : M X G nL v (pc + 1) lv (.long x :: st)) : M X G nL v pc lv st :=
  fun H locs ls hP hS hl => lv_lload_n h.1 h.2.1 hd hi (lvl_at hl hx) (k H locs ls hP hS hl)
theorem m_lload (h : Ok X G nL cc own D) {i : Nat} {x : Int64} (hd : decode cc pc = .ok (.lload i, 2)) (hx : lv[i]? = some (some (.long x))) (k : M X G nL v (pc + 2) lv (.long x :: st)) : M X G nL v pc lv st :=
  fun H locs ls hP hS hl => lv_lload h.1 h.2.1 hd (lvl_at hl hx) (k H locs ls hP hS hl)
theorem m_aload_n (h : Ok X G nL cc own D) {q : Fin 4} {i : Nat} {x : Nat} (hd : decode cc pc = .ok (.aload_n q, 1)) (hi : (q : Nat) = i) (hx : lv[i]? = some (some (.ref x))) (k : M X G nL v (pc + 1) lv (.ref x :: st)) : M X G nL v pc lv st :=
  fun H locs ls hP hS hl => lv_aload_n h.1 h.2.1 hd hi (lvl_at hl hx) (k H locs ls hP hS hl)
theorem m_aload (h : Ok X G nL cc own D) {i : Nat} {x : Nat} (hd : decode cc pc = .ok (.aload i, 2)) (hx : lv[i]? = some (some (.ref x))) (k : M X G nL v (pc + 2) lv (.ref x :: st)) : M X G nL v pc lv st :=
  fun H locs ls hP hS hl => lv_aload h.1 h.2.1 hd (lvl_at hl hx) (k H locs ls hP hS hl)
theorem m_istore_n (h : Ok X G nL cc own D) {q : Fin 4} {i : Nat} {x : Int32} (hd : decode cc pc = .ok (.istore_n q, 1)) (hi : (q : Nat) = i) (hn : i < nL) (hg : noL lv i = true) (k : M X G nL v (pc + 1) (lv.set i (some (.int x))) st) : M X G nL v pc lv (.int x :: st) :=
  fun H locs ls hP hS hl => lv_istore_n h.1 h.2.1 hd hi hl hn rfl (fun ls' hl' => k H locs ls' hP hS (lv_set1 hg hl'))
theorem m_istore (h : Ok X G nL cc own D) {i : Nat} {x : Int32} (hd : decode cc pc = .ok (.istore i, 2)) (hn : i < nL) (hg : noL lv i = true) (k : M X G nL v (pc + 2) (lv.set i (some (.int x))) st) : M X G nL v pc lv (.int x :: st) :=
  fun H locs ls hP hS hl => lv_istore h.1 h.2.1 hd hl hn rfl (fun ls' hl' => k H locs ls' hP hS (lv_set1 hg hl'))
theorem m_astore_n (h : Ok X G nL cc own D) {q : Fin 4} {i : Nat} {x : Nat} (hd : decode cc pc = .ok (.astore_n q, 1)) (hi : (q : Nat) = i) (hn : i < nL) (hg : noL lv i = true) (k : M X G nL v (pc + 1) (lv.set i (some (.ref x))) st) : M X G nL v pc lv (.ref x :: st) :=
  fun H locs ls hP hS hl => lv_astore_n h.1 h.2.1 hd hi hl hn rfl (fun ls' hl' => k H locs ls' hP hS (lv_set1 hg hl'))
theorem m_astore (h : Ok X G nL cc own D) {i : Nat} {x : Nat} (hd : decode cc pc = .ok (.astore i, 2)) (hn : i < nL) (hg : noL lv i = true) (k : M X G nL v (pc + 2) (lv.set i (some (.ref x))) st) : M X G nL v pc lv (.ref x :: st) :=
  fun H locs ls hP hS hl => lv_astore h.1 h.2.1 hd hl hn rfl (fun ls' hl' => k H locs ls' hP hS (lv_set1 hg hl'))
theorem m_lstore_n (h : Ok X G nL cc own D) {q : Fin 4} {i : Nat} {x : Int64} (hd : decode cc pc = .ok (.lstore_n q, 1)) (hi : (q : Nat) = i) (hn : i + 1 < nL) (hg : noL lv i = true) (k : M X G nL v (pc + 1) ((lv.set i (some (.long x))).set (i + 1) none) st) : M X G nL v pc lv (.long x :: st) :=
  fun H locs ls hP hS hl => lv_lstore_n h.1 h.2.1 hd hi hl hn rfl (fun ls' hl' => k H locs ls' hP hS (lv_set2 hg hl'))
theorem m_lstore (h : Ok X G nL cc own D) {i : Nat} {x : Int64} (hd : decode cc pc = .ok (.lstore i, 2)) (hn : i + 1 < nL) (hg : noL lv i = true) (k : M X G nL v (pc + 2) ((lv.set i (some (.long x))).set (i + 1) none) st) : M X G nL v pc lv (.long x :: st) :=
  fun H locs ls hP hS hl => lv_lstore h.1 h.2.1 hd hl hn rfl (fun ls' hl' => k H locs ls' hP hS (lv_set2 hg hl'))
theorem m_iinc (h : Ok X G nL cc own D) {i : Nat} {n x : Int} (hd : decode cc pc = .ok (.iinc i n, 3)) (hx : lv[i]? = some (some (.int (iI x)))) (hn : i < nL) (hg : noL lv i = true) (k : M X G nL v (pc + 3) (lv.set i (some (.int (iI (x + n))))) st) : M X G nL v pc lv st := by
  intro H locs ls hP hS hl
  obtain ⟨q, hq⟩ := List.getElem?_of_mem (lvl_mem.mpr hx)
  exact lv_iinc (v := iI (x + n)) h.1 h.2.1 hd hl hq (iI_add x n) hn rfl (fun ls' hl' => k H locs ls' hP hS (lv_set1 hg hl'))
theorem m_dup (h : Ok X G nL cc own D) {a : Value} (hd : decode cc pc = .ok (.dup, 1)) (ha : a.category = 1) (k : M X G nL v (pc + 1) lv (a :: a :: st)) : M X G nL v pc lv (a :: st) :=
  fun H locs ls hP hS hl => lv_dup h.1 h.2.1 hd ha (k H locs ls hP hS hl)
theorem m_dup2 (h : Ok X G nL cc own D) {a b : Value} (hd : decode cc pc = .ok (.dup2, 1)) (ha : a.category = 1) (hb : b.category = 1) (k : M X G nL v (pc + 1) lv (a :: b :: a :: b :: st)) : M X G nL v pc lv (a :: b :: st) :=
  fun H locs ls hP hS hl => lv_dup2_11 h.1 h.2.1 hd ha hb (k H locs ls hP hS hl)
theorem m_iadd (h : Ok X G nL cc own D) {a b : Int} (hd : decode cc pc = .ok (.iadd, 1)) (k : M X G nL v (pc + 1) lv (.int (iI (a + b)) :: st)) : M X G nL v pc lv (.int (iI b) :: .int (iI a) :: st) :=
  fun H locs ls hP hS hl => lv_iadd h.1 h.2.1 hd (by rw [iI_add]; exact k H locs ls hP hS hl)
theorem m_isub (h : Ok X G nL cc own D) {a b : Int} (hd : decode cc pc = .ok (.isub, 1)) (k : M X G nL v (pc + 1) lv (.int (iI (a - b)) :: st)) : M X G nL v pc lv (.int (iI b) :: .int (iI a) :: st) :=
  fun H locs ls hP hS hl => lv_isub h.1 h.2.1 hd (by rw [iI_sub]; exact k H locs ls hP hS hl)
theorem m_imul (h : Ok X G nL cc own D) {a b : Int} (hd : decode cc pc = .ok (.imul, 1)) (k : M X G nL v (pc + 1) lv (.int (iI (a * b)) :: st)) : M X G nL v pc lv (.int (iI b) :: .int (iI a) :: st) :=
  fun H locs ls hP hS hl => lv_imul h.1 h.2.1 hd (by rw [iI_mul]; exact k H locs ls hP hS hl)
theorem m_ineg (h : Ok X G nL cc own D) {a : Int} (hd : decode cc pc = .ok (.ineg, 1)) (k : M X G nL v (pc + 1) lv (.int (iI (-a)) :: st)) : M X G nL v pc lv (.int (iI a) :: st) :=
  fun H locs ls hP hS hl => lv_ineg h.1 h.2.1 hd (by first | (rw [iI_neg]; exact k H locs ls hP hS hl) | (rw [iI_0, iI_sub, Int.zero_sub]; exact k H locs ls hP hS hl))
theorem m_idiv (h : Ok X G nL cc own D) {a b : Int} (hd : decode cc pc = .ok (.idiv, 1)) (ha : -2147483647 ≤ a ∧ a ≤ 2147483647) (hb : -2147483648 ≤ b ∧ b ≤ 2147483647) (h0 : b ≠ 0) (k : M X G nL v (pc + 1) lv (.int (iI (a.tdiv b)) :: st)) : M X G nL v pc lv (.int (iI b) :: .int (iI a) :: st) :=
  fun H locs ls hP hS hl => lv_idiv h.1 h.2.1 hd (fun q => h0 ((iI_eq hb ⟨by omega, by omega⟩).mp q)) (by rw [iI_div ha hb]; exact k H locs ls hP hS hl)
theorem m_irem (h : Ok X G nL cc own D) {a b : Int} (hd : decode cc pc = .ok (.irem, 1)) (ha : -2147483647 ≤ a ∧ a ≤ 2147483647) (hb : -2147483648 ≤ b ∧ b ≤ 2147483647) (h0 : b ≠ 0) (k : M X G nL v (pc + 1) lv (.int (iI (a.tmod b)) :: st)) : M X G nL v pc lv (.int (iI b) :: .int (iI a) :: st) :=
  fun H locs ls hP hS hl => lv_irem h.1 h.2.1 hd (fun q => h0 ((iI_eq hb ⟨by omega, by omega⟩).mp q)) (by
    rw [iI_rem ha hb, show a - a.tdiv b * b = a.tmod b by have := Int.tmod_def a b; rw [Int.mul_comm]; omega]; exact k H locs ls hP hS hl)
theorem m_goto (h : Ok X G nL cc own D) {off : Int} {tgt : Nat} (hd : decode cc pc = .ok (.goto off, 3)) (ht : (pc : Int) + off = (tgt : Int)) (k : M X G nL v tgt lv st) : M X G nL v pc lv st :=
  fun H locs ls hP hS hl => lv_goto h.1 h.2.1 hd ht (k H locs ls hP hS hl)
theorem m_if_eq (h : Ok X G nL cc own D) {a off : Int} {tgt : Nat} (hd : decode cc pc = .ok (.ifCond .eq off, 3)) (ht : (pc : Int) + off = (tgt : Int)) (ha : -2147483648 ≤ a ∧ a ≤ 2147483647) (kt : a = 0 → M X G nL v tgt lv st) (kf : a ≠ 0 → M X G nL v (pc + 3) lv st) : M X G nL v pc lv (.int (iI a) :: st) :=
  fun H locs ls hP hS hl => lv_if_eq h.1 h.2.1 hd ht (fun q => kt ((iI_eq ha ⟨by omega, by omega⟩).mp q) H locs ls hP hS hl) (fun q => kf (fun z => q ((iI_eq ha ⟨by omega, by omega⟩).mpr z)) H locs ls hP hS hl)
theorem m_if_ne (h : Ok X G nL cc own D) {a off : Int} {tgt : Nat} (hd : decode cc pc = .ok (.ifCond .ne off, 3)) (ht : (pc : Int) + off = (tgt : Int)) (ha : -2147483648 ≤ a ∧ a ≤ 2147483647) (kt : a ≠ 0 → M X G nL v tgt lv st) (kf : a = 0 → M X G nL v (pc + 3) lv st) : M X G nL v pc lv (.int (iI a) :: st) :=
  fun H locs ls hP hS hl => lv_if_ne h.1 h.2.1 hd ht (fun q => kt (fun z => q ((iI_eq ha ⟨by omega, by omega⟩).mpr z)) H locs ls hP hS hl) (fun q => kf ((iI_eq ha ⟨by omega, by omega⟩).mp (by first | exact q | exact Decidable.not_not.mp q)) H locs ls hP hS hl)
theorem m_if_lt (h : Ok X G nL cc own D) {a off : Int} {tgt : Nat} (hd : decode cc pc = .ok (.ifCond .lt off, 3)) (ht : (pc : Int) + off = (tgt : Int)) (ha : -2147483648 ≤ a ∧ a ≤ 2147483647) (kt : a < 0 → M X G nL v tgt lv st) (kf : 0 ≤ a → M X G nL v (pc + 3) lv st) : M X G nL v pc lv (.int (iI a) :: st) := by
  intro H locs ls hP hS hl
  have e1 := iI_lt ha (b := 0) ⟨by omega, by omega⟩
  have e2 := iI_le ha (b := 0) ⟨by omega, by omega⟩
  have e3 := iI_lt (a := 0) ⟨by omega, by omega⟩ ha
  have e4 := iI_le (a := 0) ⟨by omega, by omega⟩ ha
  rw [← iI_0] at e1 e2 e3 e4
  refine lv_if_lt h.1 h.2.1 hd ht (fun q => kt ?_ H locs ls hP hS hl) (fun q => kf ?_ H locs ls hP hS hl)
  · simp only [gt_iff_lt, ge_iff_le, e1, e2, e3, e4] at q; omega
  · simp only [gt_iff_lt, ge_iff_le, e1, e2, e3, e4] at q; omega
theorem m_if_ge (h : Ok X G nL cc own D) {a off : Int} {tgt : Nat} (hd : decode cc pc = .ok (.ifCond .ge off, 3)) (ht : (pc : Int) + off = (tgt : Int)) (ha : -2147483648 ≤ a ∧ a ≤ 2147483647) (kt : 0 ≤ a → M X G nL v tgt lv st) (kf : a < 0 → M X G nL v (pc + 3) lv st) : M X G nL v pc lv (.int (iI a) :: st) := by
  intro H locs ls hP hS hl
  have e1 := iI_lt ha (b := 0) ⟨by omega, by omega⟩
  have e2 := iI_le ha (b := 0) ⟨by omega, by omega⟩
  have e3 := iI_lt (a := 0) ⟨by omega, by omega⟩ ha
  have e4 := iI_le (a := 0) ⟨by omega, by omega⟩ ha
  rw [← iI_0] at e1 e2 e3 e4
  refine lv_if_ge h.1 h.2.1 hd ht (fun q => kt ?_ H locs ls hP hS hl) (fun q => kf ?_ H locs ls hP hS hl)
  · simp only [gt_iff_lt, ge_iff_le, e1, e2, e3, e4] at q; omega
  · simp only [gt_iff_lt, ge_iff_le, e1, e2, e3, e4] at q; omega
theorem m_if_gt (h : Ok X G nL cc own D) {a off : Int} {tgt : Nat} (hd : decode cc pc = .ok (.ifCond .gt off, 3)) (ht : (pc : Int) + off = (tgt : Int)) (ha : -2147483648 ≤ a ∧ a ≤ 2147483647) (kt : 0 < a → M X G nL v tgt lv st) (kf : a ≤ 0 → M X G nL v (pc + 3) lv st) : M X G nL v pc lv (.int (iI a) :: st) := by
  intro H locs ls hP hS hl
  have e1 := iI_lt ha (b := 0) ⟨by omega, by omega⟩
  have e2 := iI_le ha (b := 0) ⟨by omega, by omega⟩
  have e3 := iI_lt (a := 0) ⟨by omega, by omega⟩ ha
  have e4 := iI_le (a := 0) ⟨by omega, by omega⟩ ha
  rw [← iI_0] at e1 e2 e3 e4
  refine lv_if_gt h.1 h.2.1 hd ht (fun q => kt ?_ H locs ls hP hS hl) (fun q => kf ?_ H locs ls hP hS hl)
  · simp only [gt_iff_lt, ge_iff_le, e1, e2, e3, e4] at q; omega
  · simp only [gt_iff_lt, ge_iff_le, e1, e2, e3, e4] at q; omega
theorem m_if_le (h : Ok X G nL cc own D) {a off : Int} {tgt : Nat} (hd : decode cc pc = .ok (.ifCond .le off, 3)) (ht : (pc : Int) + off = (tgt : Int)) (ha : -2147483648 ≤ a ∧ a ≤ 2147483647) (kt : a ≤ 0 → M X G nL v tgt lv st) (kf : 0 < a → M X G nL v (pc + 3) lv st) : M X G nL v pc lv (.int (iI a) :: st) := by
  intro H locs ls hP hS hl
  have e1 := iI_lt ha (b := 0) ⟨by omega, by omega⟩
  have e2 := iI_le ha (b := 0) ⟨by omega, by omega⟩
  have e3 := iI_lt (a := 0) ⟨by omega, by omega⟩ ha
  have e4 := iI_le (a := 0) ⟨by omega, by omega⟩ ha
  rw [← iI_0] at e1 e2 e3 e4
  refine lv_if_le h.1 h.2.1 hd ht (fun q => kt ?_ H locs ls hP hS hl) (fun q => kf ?_ H locs ls hP hS hl)
  · simp only [gt_iff_lt, ge_iff_le, e1, e2, e3, e4] at q; omega
  · simp only [gt_iff_lt, ge_iff_le, e1, e2, e3, e4] at q; omega
theorem m_icmp_eq (h : Ok X G nL cc own D) {a b off : Int} {tgt : Nat} (hd : decode cc pc = .ok (.if_icmp .eq off, 3)) (ht : (pc : Int) + off = (tgt : Int)) (ha : -2147483648 ≤ a ∧ a ≤ 2147483647) (hb : -2147483648 ≤ b ∧ b ≤ 2147483647) (kt : a = b → M X G nL v tgt lv st) (kf : a ≠ b → M X G nL v (pc + 3) lv st) : M X G nL v pc lv (.int (iI b) :: .int (iI a) :: st) := by
  intro H locs ls hP hS hl
  have e1 := iI_lt ha hb
  have e2 := iI_le ha hb
  have e3 := iI_lt hb ha
  have e4 := iI_le hb ha
  have e5 := iI_eq ha hb
  refine lv_icmp_eq h.1 h.2.1 hd ht (fun q => kt ?_ H locs ls hP hS hl) (fun q => kf ?_ H locs ls hP hS hl)
  · simp only [gt_iff_lt, ge_iff_le, ne_eq, Decidable.not_not, e1, e2, e3, e4, e5] at q; omega
  · simp only [gt_iff_lt, ge_iff_le, ne_eq, Decidable.not_not, e1, e2, e3, e4, e5] at q; omega
theorem m_icmp_ne (h : Ok X G nL cc own D) {a b off : Int} {tgt : Nat} (hd : decode cc pc = .ok (.if_icmp .ne off, 3)) (ht : (pc : Int) + off = (tgt : Int)) (ha : -2147483648 ≤ a ∧ a ≤ 2147483647) (hb : -2147483648 ≤ b ∧ b ≤ 2147483647) (kt : a ≠ b → M X G nL v tgt lv st) (kf : a = b → M X G nL v (pc + 3) lv st) : M X G nL v pc lv (.int (iI b) :: .int (iI a) :: st) := by
  intro H locs ls hP hS hl
  have e1 := iI_lt ha hb
  have e2 := iI_le ha hb
  have e3 := iI_lt hb ha
  have e4 := iI_le hb ha
  have e5 := iI_eq ha hb
  refine lv_icmp_ne h.1 h.2.1 hd ht (fun q => kt ?_ H locs ls hP hS hl) (fun q => kf ?_ H locs ls hP hS hl)
  · simp only [gt_iff_lt, ge_iff_le, ne_eq, Decidable.not_not, e1, e2, e3, e4, e5] at q; omega
  · simp only [gt_iff_lt, ge_iff_le, ne_eq, Decidable.not_not, e1, e2, e3, e4, e5] at q; omega
theorem m_icmp_lt (h : Ok X G nL cc own D) {a b off : Int} {tgt : Nat} (hd : decode cc pc = .ok (.if_icmp .lt off, 3)) (ht : (pc : Int) + off = (tgt : Int)) (ha : -2147483648 ≤ a ∧ a ≤ 2147483647) (hb : -2147483648 ≤ b ∧ b ≤ 2147483647) (kt : a < b → M X G nL v tgt lv st) (kf : b ≤ a → M X G nL v (pc + 3) lv st) : M X G nL v pc lv (.int (iI b) :: .int (iI a) :: st) := by
  intro H locs ls hP hS hl
  have e1 := iI_lt ha hb
  have e2 := iI_le ha hb
  have e3 := iI_lt hb ha
  have e4 := iI_le hb ha
  have e5 := iI_eq ha hb
  refine lv_icmp_lt h.1 h.2.1 hd ht (fun q => kt ?_ H locs ls hP hS hl) (fun q => kf ?_ H locs ls hP hS hl)
  · simp only [gt_iff_lt, ge_iff_le, ne_eq, Decidable.not_not, e1, e2, e3, e4, e5] at q; omega
  · simp only [gt_iff_lt, ge_iff_le, ne_eq, Decidable.not_not, e1, e2, e3, e4, e5] at q; omega
theorem m_icmp_ge (h : Ok X G nL cc own D) {a b off : Int} {tgt : Nat} (hd : decode cc pc = .ok (.if_icmp .ge off, 3)) (ht : (pc : Int) + off = (tgt : Int)) (ha : -2147483648 ≤ a ∧ a ≤ 2147483647) (hb : -2147483648 ≤ b ∧ b ≤ 2147483647) (kt : b ≤ a → M X G nL v tgt lv st) (kf : a < b → M X G nL v (pc + 3) lv st) : M X G nL v pc lv (.int (iI b) :: .int (iI a) :: st) := by
  intro H locs ls hP hS hl
  have e1 := iI_lt ha hb
  have e2 := iI_le ha hb
  have e3 := iI_lt hb ha
  have e4 := iI_le hb ha
  have e5 := iI_eq ha hb
  refine lv_icmp_ge h.1 h.2.1 hd ht (fun q => kt ?_ H locs ls hP hS hl) (fun q => kf ?_ H locs ls hP hS hl)
  · simp only [gt_iff_lt, ge_iff_le, ne_eq, Decidable.not_not, e1, e2, e3, e4, e5] at q; omega
  · simp only [gt_iff_lt, ge_iff_le, ne_eq, Decidable.not_not, e1, e2, e3, e4, e5] at q; omega
theorem m_icmp_gt (h : Ok X G nL cc own D) {a b off : Int} {tgt : Nat} (hd : decode cc pc = .ok (.if_icmp .gt off, 3)) (ht : (pc : Int) + off = (tgt : Int)) (ha : -2147483648 ≤ a ∧ a ≤ 2147483647) (hb : -2147483648 ≤ b ∧ b ≤ 2147483647) (kt : b < a → M X G nL v tgt lv st) (kf : a ≤ b → M X G nL v (pc + 3) lv st) : M X G nL v pc lv (.int (iI b) :: .int (iI a) :: st) := by
  intro H locs ls hP hS hl
  have e1 := iI_lt ha hb
  have e2 := iI_le ha hb
  have e3 := iI_lt hb ha
  have e4 := iI_le hb ha
  have e5 := iI_eq ha hb
  refine lv_icmp_gt h.1 h.2.1 hd ht (fun q => kt ?_ H locs ls hP hS hl) (fun q => kf ?_ H locs ls hP hS hl)
  · simp only [gt_iff_lt, ge_iff_le, ne_eq, Decidable.not_not, e1, e2, e3, e4, e5] at q; omega
  · simp only [gt_iff_lt, ge_iff_le, ne_eq, Decidable.not_not, e1, e2, e3, e4, e5] at q; omega
theorem m_icmp_le (h : Ok X G nL cc own D) {a b off : Int} {tgt : Nat} (hd : decode cc pc = .ok (.if_icmp .le off, 3)) (ht : (pc : Int) + off = (tgt : Int)) (ha : -2147483648 ≤ a ∧ a ≤ 2147483647) (hb : -2147483648 ≤ b ∧ b ≤ 2147483647) (kt : a ≤ b → M X G nL v tgt lv st) (kf : b < a → M X G nL v (pc + 3) lv st) : M X G nL v pc lv (.int (iI b) :: .int (iI a) :: st) := by
  intro H locs ls hP hS hl
  have e1 := iI_lt ha hb
  have e2 := iI_le ha hb
  have e3 := iI_lt hb ha
  have e4 := iI_le hb ha
  have e5 := iI_eq ha hb
  refine lv_icmp_le h.1 h.2.1 hd ht (fun q => kt ?_ H locs ls hP hS hl) (fun q => kf ?_ H locs ls hP hS hl)
  · simp only [gt_iff_lt, ge_iff_le, ne_eq, Decidable.not_not, e1, e2, e3, e4, e5] at q; omega
  · simp only [gt_iff_lt, ge_iff_le, ne_eq, Decidable.not_not, e1, e2, e3, e4, e5] at q; omega
theorem m_tsIn (h : Ok X G nL cc own D) {a dflt lo hi off : Int} {offs : Array Int} {len tgt : Nat} (hd : decode cc pc = .ok (.tableswitch dflt lo hi offs, len)) (ha : -2147483648 ≤ a ∧ a ≤ 2147483647) (h1 : lo ≤ a) (h2 : a ≤ hi) (ho : offs[(a - lo).toNat]? = some off) (ht : (pc : Int) + off = (tgt : Int)) (k : M X G nL v tgt lv st) : M X G nL v pc lv (.int (iI a) :: st) :=
  fun H locs ls hP hS hl => lv_tableIn h.1 h.2.1 hd (by rw [iI_toInt ha]; omega) (by rw [iI_toInt ha]; omega) (by rw [iI_toInt ha]; exact ho) ht (k H locs ls hP hS hl)
theorem m_tsOut (h : Ok X G nL cc own D) {a dflt lo hi : Int} {offs : Array Int} {len tgt : Nat} (hd : decode cc pc = .ok (.tableswitch dflt lo hi offs, len)) (ha : -2147483648 ≤ a ∧ a ≤ 2147483647) (h1 : a < lo ∨ hi < a) (ht : (pc : Int) + dflt = (tgt : Int)) (k : M X G nL v tgt lv st) : M X G nL v pc lv (.int (iI a) :: st) :=
  fun H locs ls hP hS hl => lv_tableOut h.1 h.2.1 hd (by rw [iI_toInt ha]; exact h1) ht (k H locs ls hP hS hl)
theorem m_iand (h : Ok X G nL cc own D) {a b c : Int} (hd : decode cc pc = .ok (.iand, 1)) (hc : iI a &&& iI b = iI c) (k : M X G nL v (pc + 1) lv (.int (iI c) :: st)) : M X G nL v pc lv (.int (iI b) :: .int (iI a) :: st) :=
  fun H locs ls hP hS hl => lv_iand h.1 h.2.1 hd (by rw [hc]; exact k H locs ls hP hS hl)
theorem m_ior (h : Ok X G nL cc own D) {a b c : Int} (hd : decode cc pc = .ok (.ior, 1)) (hc : iI a ||| iI b = iI c) (k : M X G nL v (pc + 1) lv (.int (iI c) :: st)) : M X G nL v pc lv (.int (iI b) :: .int (iI a) :: st) :=
  fun H locs ls hP hS hl => lv_ior h.1 h.2.1 hd (by rw [hc]; exact k H locs ls hP hS hl)
theorem m_ixor (h : Ok X G nL cc own D) {a b c : Int} (hd : decode cc pc = .ok (.ixor, 1)) (hc : iI a ^^^ iI b = iI c) (k : M X G nL v (pc + 1) lv (.int (iI c) :: st)) : M X G nL v pc lv (.int (iI b) :: .int (iI a) :: st) :=
  fun H locs ls hP hS hl => lv_ixor h.1 h.2.1 hd (by rw [hc]; exact k H locs ls hP hS hl)
theorem m_ishl (h : Ok X G nL cc own D) {a b c : Int} (hd : decode cc pc = .ok (.ishl, 1)) (hc : iI a <<< (iI b &&& 31) = iI c) (k : M X G nL v (pc + 1) lv (.int (iI c) :: st)) : M X G nL v pc lv (.int (iI b) :: .int (iI a) :: st) :=
  fun H locs ls hP hS hl => lv_ishl h.1 h.2.1 hd (by rw [hc]; exact k H locs ls hP hS hl)
theorem m_ishr (h : Ok X G nL cc own D) {a b c : Int} (hd : decode cc pc = .ok (.ishr, 1)) (hc : iI a >>> (iI b &&& 31) = iI c) (k : M X G nL v (pc + 1) lv (.int (iI c) :: st)) : M X G nL v pc lv (.int (iI b) :: .int (iI a) :: st) :=
  fun H locs ls hP hS hl => lv_ishr h.1 h.2.1 hd (by rw [hc]; exact k H locs ls hP hS hl)
theorem m_iandR (h : Ok X G nL cc own D) {a b c : Int32} (hd : decode cc pc = .ok (.iand, 1)) (hc : a &&& b = c) (k : M X G nL v (pc + 1) lv (.int c :: st)) : M X G nL v pc lv (.int b :: .int a :: st) :=
  fun H locs ls hP hS hl => lv_iand h.1 h.2.1 hd (by rw [hc]; exact k H locs ls hP hS hl)
theorem m_ixorR (h : Ok X G nL cc own D) {a b c : Int32} (hd : decode cc pc = .ok (.ixor, 1)) (hc : a ^^^ b = c) (k : M X G nL v (pc + 1) lv (.int c :: st)) : M X G nL v pc lv (.int b :: .int a :: st) :=
  fun H locs ls hP hS hl => lv_ixor h.1 h.2.1 hd (by rw [hc]; exact k H locs ls hP hS hl)
theorem m_iaddR (h : Ok X G nL cc own D) {a b c : Int32} (hd : decode cc pc = .ok (.iadd, 1)) (hc : a + b = c) (k : M X G nL v (pc + 1) lv (.int c :: st)) : M X G nL v pc lv (.int b :: .int a :: st) :=
  fun H locs ls hP hS hl => lv_iadd h.1 h.2.1 hd (by rw [hc]; exact k H locs ls hP hS hl)
theorem m_isubR (h : Ok X G nL cc own D) {a b c : Int32} (hd : decode cc pc = .ok (.isub, 1)) (hc : a - b = c) (k : M X G nL v (pc + 1) lv (.int c :: st)) : M X G nL v pc lv (.int b :: .int a :: st) :=
  fun H locs ls hP hS hl => lv_isub h.1 h.2.1 hd (by rw [hc]; exact k H locs ls hP hS hl)
theorem m_iushrR (h : Ok X G nL cc own D) {a b c : Int32} (hd : decode cc pc = .ok (.iushr, 1)) (hc : (a.toUInt32 >>> (b.toUInt32 &&& Int32.toUInt32 31)).toInt32 = c) (k : M X G nL v (pc + 1) lv (.int c :: st)) : M X G nL v pc lv (.int b :: .int a :: st) :=
  fun H locs ls hP hS hl => lv_iushr h.1 h.2.1 hd hc (k H locs ls hP hS hl)
theorem m_ldcw (h : Ok X G nL cc own D) {index : Nat} {z : Int32} (hw : Cond.constant own index z ∈ gw) (hd : decode cc pc = .ok (.ldc_w index, 3)) (k : M X G nL v (pc + 3) lv (.int z :: st)) : M X G nL v pc lv st :=
  fun H locs ls hP hS hl => lv_ldcw h.1 h.2.1 h.2.2.2.1 (h.2.2.2.2.1 _ hw) hd (k H locs ls hP hS hl)
theorem m_ldc2 (h : Ok X G nL cc own D) {index : Nat} {z : Int64} (hw : Cond.constantLong own index z ∈ gw) (hd : decode cc pc = .ok (.ldc2_w index, 3)) (k : M X G nL v (pc + 3) lv (.long z :: st)) : M X G nL v pc lv st :=
  fun H locs ls hP hS hl => lv_ldc2 h.1 h.2.1 h.2.2.2.1 (h.2.2.2.2.1 _ hw) hd (k H locs ls hP hS hl)
theorem m_ladd (h : Ok X G nL cc own D) {a b c : Int64} (hd : decode cc pc = .ok (.ladd, 1)) (hc : a + b = c) (k : M X G nL v (pc + 1) lv (.long c :: st)) : M X G nL v pc lv (.long b :: .long a :: st) :=
  fun H locs ls hP hS hl => lv_ladd h.1 h.2.1 hd (by rw [hc]; exact k H locs ls hP hS hl)
theorem m_lsub (h : Ok X G nL cc own D) {a b c : Int64} (hd : decode cc pc = .ok (.lsub, 1)) (hc : a - b = c) (k : M X G nL v (pc + 1) lv (.long c :: st)) : M X G nL v pc lv (.long b :: .long a :: st) :=
  fun H locs ls hP hS hl => lv_lsub h.1 h.2.1 hd (by rw [hc]; exact k H locs ls hP hS hl)
theorem m_lmul (h : Ok X G nL cc own D) {a b c : Int64} (hd : decode cc pc = .ok (.lmul, 1)) (hc : a * b = c) (k : M X G nL v (pc + 1) lv (.long c :: st)) : M X G nL v pc lv (.long b :: .long a :: st) :=
  fun H locs ls hP hS hl => lv_lmul h.1 h.2.1 hd (by rw [hc]; exact k H locs ls hP hS hl)
theorem m_land (h : Ok X G nL cc own D) {a b c : Int64} (hd : decode cc pc = .ok (.land, 1)) (hc : a &&& b = c) (k : M X G nL v (pc + 1) lv (.long c :: st)) : M X G nL v pc lv (.long b :: .long a :: st) :=
  fun H locs ls hP hS hl => lv_land h.1 h.2.1 hd (by rw [hc]; exact k H locs ls hP hS hl)
theorem m_lxor (h : Ok X G nL cc own D) {a b c : Int64} (hd : decode cc pc = .ok (.lxor, 1)) (hc : a ^^^ b = c) (k : M X G nL v (pc + 1) lv (.long c :: st)) : M X G nL v pc lv (.long b :: .long a :: st) :=
  fun H locs ls hP hS hl => lv_lxor h.1 h.2.1 hd (by rw [hc]; exact k H locs ls hP hS hl)
theorem m_lushr (h : Ok X G nL cc own D) {a c : Int64} {b : Int32} (hd : decode cc pc = .ok (.lushr, 1)) (hc : (a.toUInt64 >>> (b.toInt64.toUInt64 &&& Int64.toUInt64 63)).toInt64 = c) (k : M X G nL v (pc + 1) lv (.long c :: st)) : M X G nL v pc lv (.int b :: .long a :: st) :=
  fun H locs ls hP hS hl => lv_lushr h.1 h.2.1 hd hc (k H locs ls hP hS hl)
theorem m_lshl (h : Ok X G nL cc own D) {a c : Int64} {b : Int32} (hd : decode cc pc = .ok (.lshl, 1)) (hc : a <<< (b.toInt64 &&& 63) = c) (k : M X G nL v (pc + 1) lv (.long c :: st)) : M X G nL v pc lv (.int b :: .long a :: st) :=
  fun H locs ls hP hS hl => lv_lshl h.1 h.2.1 hd hc (k H locs ls hP hS hl)
theorem m_i2l (h : Ok X G nL cc own D) {a : Int32} {c : Int64} (hd : decode cc pc = .ok (.i2l, 1)) (hc : a.toInt64 = c) (k : M X G nL v (pc + 1) lv (.long c :: st)) : M X G nL v pc lv (.int a :: st) :=
  fun H locs ls hP hS hl => lv_i2l h.1 h.2.1 hd hc (k H locs ls hP hS hl)
theorem m_l2i (h : Ok X G nL cc own D) {a : Int64} {c : Int32} (hd : decode cc pc = .ok (.l2i, 1)) (hc : a.toInt32 = c) (k : M X G nL v (pc + 1) lv (.int c :: st)) : M X G nL v pc lv (.long a :: st) :=
  fun H locs ls hP hS hl => lv_l2i h.1 h.2.1 hd hc (k H locs ls hP hS hl)
theorem m_lcmp (h : Ok X G nL cc own D) {a b : Int64} {c : Int} (hd : decode cc pc = .ok (.lcmp, 1)) (hc : lg_cmp a b = iI c) (k : M X G nL v (pc + 1) lv (.int (iI c) :: st)) : M X G nL v pc lv (.long b :: .long a :: st) :=
  fun H locs ls hP hS hl => W.lcmp h.1 h.2.1 hd (by rw [hc]; exact k H locs ls hP hS hl)
end Rules
end
section
/-! fields, rows of cells -/
def FldOk (ci k : Nat) (own : String) (index : Nat) : Prop := ∃ (C : String) (T : u_T) (N : Nat), vwCl[ci]? = some (C, T, N) ∧ k < N ∧ (∀ w ∈ u_ws C T N, w ∈ gw) ∧ Cond.fieldLink own index (T k).1 (T k).2.1 (T k).2.2.1 ∈ gw
def FldW (ci k : Nat) (own : String) (index : Nat) : Prop := ∃ (C : String) (T : u_T) (N : Nat) (ty0 : Nat → FieldType), vwCl[ci]? = some (C, T, N) ∧ k < N ∧ (∀ w ∈ u_ws C T N, w ∈ gw) ∧ Cond.fieldLink own index (T k).1 (T k).2.1 (T k).2.2.1 ∈ gw ∧ (∀ k, k < N → parseFieldDescriptor (T k).2.2.1 = some (ty0 k)) ∧ (∀ a, a < N → ∀ b, b < N → a ≠ b → (T a).2.1 ≠ (T b).2.1) ∧ (T k).2.2.2 = false ∧ parseFieldDescriptor (T k).2.2.1 = some .int
def isAI (G : GT) (i n : Nat) : Prop := i < 64 ∧ n ≤ 100000 ∧ ∀ u : Mem, cE G u i = aI G n (u.1 i)
def isAZ (G : GT) (i n : Nat) : Prop := i < 64 ∧ n ≤ 100000 ∧ ∀ u : Mem, cE G u i = aZ G n (u.1 i)
def isAL (G : GT) (i n : Nat) : Prop := i < 64 ∧ n ≤ 100000 ∧ ∀ u : Mem, cE G u i = aL G n (u.2 i)
section Heap
variable {X : CX} {G : GT} {nL : Nat} {cc : ByteArray} {own : String} {D : Nat} {v : Mem} {pc : Nat} {lv : List (Option Value)} {st : List Value}
theorem m_get (h : Ok X G nL cc own D) {ci k i index : Nat} {fs : List Value} {val : Value} (f : FldOk ci k own index) (hi : i < 64) (hE : cE G v i = .inr (ci, fs)) (hv : fs[k]? = some val) (hd : decode cc pc = .ok (.getfield index, 3)) (kk : M X G nL v (pc + 3) lv (val :: st)) : M X G nL v pc lv (.ref (G.2.1 i) :: st) := by
  intro H locs ls hP hS hl
  obtain ⟨C, T, N, hc, hk, hin, hlink⟩ := f
  exact va_get (D := G.1) h.1 h.2.1 h.2.2.2.2.1 hin h.2.2.2.1 h.2.2.2.2.2.1 hP i (by rw [wd_at hi, hE]) hc k hk (h.2.2.2.2.1 _ hlink) (fun _ h9 => h9) hv hd (kk H locs ls hP hS hl)
theorem m_putI (h : Ok X G nL cc own D) {ci k i index : Nat} {fs : List Value} {z : Int} (f : FldW ci k own index) (hi : i < 64) (hE : cE G v i = .inr (ci, fs)) (hl0 : k < fs.length) (hE' : cE G (wI v i (k : Int) z) i = .inr (ci, fs.set k (.int (iI z)))) (hd : decode cc pc = .ok (.putfield index, 3)) (kk : M X G nL (wI v i (k : Int) z) (pc + 3) lv st) : M X G nL v pc lv (.int (iI z) :: .ref (G.2.1 i) :: st) := by
  intro H locs ls hP hS hl
  obtain ⟨C, T, N, ty0, hc, hk, hin, hlink, hty, hnm, hfin, hint⟩ := f
  refine va_put (D := G.1) (ty := .int) (v := .int (iI z)) h.1 h.2.1 h.2.2.2.2.1 hin ty0 hty hnm h.2.2.2.1 h.2.2.2.2.2.1 hP (wd_D h.2.2.2.2.2.2.2.1 h.2.2.2.2.2.2.2.2.1) hS i (by rw [wd_at hi, hE]) hc k hk (h.2.2.2.2.1 _ hlink) (fun _ h9 => h9) hfin hint rfl rfl hl0 hd (fun H1 locs1 hP1 _ hS1 => ?_)
  rw [wd_set hE' (fun j hj => cE_wI hj)] at hP1
  exact kk H1 locs1 ls hP1 hS1 hl
theorem m_iald (h : Ok X G nL cc own D) {i n : Nat} {x : Int} (ha : isAI G i n) (hx : 0 ≤ x) (hxn : x < n) (hd : decode cc pc = .ok (.iaload, 1)) (kk : M X G nL v (pc + 1) lv (.int (iI (v.1 i x)) :: st)) : M X G nL v pc lv (.int (iI x) :: .ref (G.2.1 i) :: st) := by
  intro H locs ls hP hS hl
  obtain ⟨hi, hn, hE⟩ := ha
  refine va_iald (D := G.1) h.1 h.2.1 h.2.2.2.2.2.1 hP i 0 (by rw [wd_at hi, hE]) rfl (iI_in hx hxn (by omega)) hd ?_
  rw [iI_clamp hx (by omega)]
  exact kk H locs ls hP hS hl
theorem m_zald (h : Ok X G nL cc own D) {i n : Nat} {x : Int} (ha : isAZ G i n) (hx : 0 ≤ x) (hxn : x < n) (hd : decode cc pc = .ok (.baload, 1)) (kk : M X G nL v (pc + 1) lv (.int (iI (v.1 i x)) :: st)) : M X G nL v pc lv (.int (iI x) :: .ref (G.2.1 i) :: st) := by
  intro H locs ls hP hS hl
  obtain ⟨hi, hn, hE⟩ := ha
  refine va_zald (D := G.1) h.1 h.2.1 h.2.2.2.2.2.1 hP i 2 (by rw [wd_at hi, hE]) rfl (iI_in hx hxn (by omega)) hd ?_
  rw [iI_clamp hx (by omega)]
  exact kk H locs ls hP hS hl
theorem m_lald (h : Ok X G nL cc own D) {i n : Nat} {x : Int} (ha : isAL G i n) (hx : 0 ≤ x) (hxn : x < n) (hd : decode cc pc = .ok (.laload, 1)) (kk : M X G nL v (pc + 1) lv (.long (v.2 i x) :: st)) : M X G nL v pc lv (.int (iI x) :: .ref (G.2.1 i) :: st) := by
  intro H locs ls hP hS hl
  obtain ⟨hi, hn, hE⟩ := ha
  refine va_lald (D := G.1) h.1 h.2.1 h.2.2.2.2.2.1 hP i 1 (by rw [wd_at hi, hE]) rfl (iI_in hx hxn (by omega)) hd ?_
  rw [iI_clamp hx (by omega)]
  exact kk H locs ls hP hS hl
theorem m_aald (h : Ok X G nL cc own D) {x : Int} (j : Nat) (hx : x = (j : Int)) (hj : j < 12) (hd : decode cc pc = .ok (.aaload, 1)) (kk : M X G nL v (pc + 1) lv (.ref (G.2.1 (40 + j)) :: st)) : M X G nL v pc lv (.int (iI x) :: .ref (G.2.1 11) :: st) := by
  intro H locs ls hP hS hl
  subst hx
  refine va_aldq (D := G.1) h.1 h.2.1 h.2.2.2.2.2.1 hP 11 3 (wd_at (by omega)) rfl (iI_in (by omega) (by omega) (by omega)) hd ?_
  have e : (iI (j : Int)).toNatClampNeg = j := by
    have := iI_clamp (a := (j : Int)) (by omega) (by omega)
    omega
  rw [e]
  exact kk H locs ls hP hS hl
theorem upd_wI {v : Mem} {i : Nat} {x z : Int} (hx : 0 ≤ x) (hx2 : x ≤ 2147483647) : upd (fun j : Nat => iI (v.1 i (j : Int))) (iI x).toNatClampNeg (iI z) = fun j : Nat => iI ((wI v i x z).1 i (j : Int)) := by
  funext j
  have hc := iI_clamp hx hx2
  unfold upd
  by_cases hj : j = (iI x).toNatClampNeg
  · rw [if_pos hj, show (j : Int) = x by rw [hj]; exact hc]
    show iI z = iI (u2 v.1 i x z i x)
    rw [u2_s]
  · rw [if_neg hj]
    show iI (v.1 i j) = iI (u2 v.1 i x z i j)
    rw [u2_n (by rintro ⟨-, q⟩; exact hj (by omega))]
theorem m_iast (h : Ok X G nL cc own D) {i n : Nat} {x z : Int} (ha : isAI G i n) (hx : 0 ≤ x) (hxn : x < n) (hd : decode cc pc = .ok (.iastore, 1)) (kk : M X G nL (wI v i x z) (pc + 1) lv st) : M X G nL v pc lv (.int (iI z) :: .int (iI x) :: .ref (G.2.1 i) :: st) := by
  intro H locs ls hP hS hl
  obtain ⟨hi, hn, hE⟩ := ha
  refine va_iast (D := G.1) h.1 h.2.1 h.2.2.2.2.2.1 hP (wd_D h.2.2.2.2.2.2.2.1 h.2.2.2.2.2.2.2.2.1) hS i 0 (by rw [wd_at hi, hE]) rfl (iI_in hx hxn (by omega)) hd (fun H1 locs1 hP1 _ hS1 => ?_)
  rw [upd_wI hx (by omega), wd_set (v' := wI v i x z) (hE _) (fun j hj => cE_wI hj)] at hP1
  exact kk H1 locs1 ls hP1 hS1 hl
theorem m_zast (h : Ok X G nL cc own D) {i n : Nat} {x z : Int} (ha : isAZ G i n) (hx : 0 ≤ x) (hxn : x < n) (hz : z = 0 ∨ z = 1) (hd : decode cc pc = .ok (.bastore, 1)) (kk : M X G nL (wI v i x z) (pc + 1) lv st) : M X G nL v pc lv (.int (iI z) :: .int (iI x) :: .ref (G.2.1 i) :: st) := by
  intro H locs ls hP hS hl
  obtain ⟨hi, hn, hE⟩ := ha
  have hzn : vp_nar .boolean (iI z) = iI z := by rcases hz with rfl | rfl <;> decide
  refine va_zast (D := G.1) h.1 h.2.1 h.2.2.2.2.2.1 hP (wd_D h.2.2.2.2.2.2.2.1 h.2.2.2.2.2.2.2.2.1) hS i 2 (by rw [wd_at hi, hE]) rfl (iI_in hx hxn (by omega)) hd (fun H1 locs1 hP1 _ hS1 => ?_)
  rw [hzn, upd_wI hx (by omega), wd_set (v' := wI v i x z) (hE _) (fun j hj => cE_wI hj)] at hP1
  exact kk H1 locs1 ls hP1 hS1 hl
theorem m_last (h : Ok X G nL cc own D) {i n : Nat} {x : Int} {z : Int64} (ha : isAL G i n) (hx : 0 ≤ x) (hxn : x < n) (hd : decode cc pc = .ok (.lastore, 1)) (kk : M X G nL (wL v i x z) (pc + 1) lv st) : M X G nL v pc lv (.long z :: .int (iI x) :: .ref (G.2.1 i) :: st) := by
  intro H locs ls hP hS hl
  obtain ⟨hi, hn, hE⟩ := ha
  refine va_last (D := G.1) h.1 h.2.1 h.2.2.2.2.2.1 hP (wd_D h.2.2.2.2.2.2.2.1 h.2.2.2.2.2.2.2.2.1) hS i 1 (by rw [wd_at hi, hE]) rfl (iI_in hx hxn (by omega)) hd (fun H1 locs1 hP1 _ hS1 => ?_)
  have e : vp_updL (fun j : Nat => v.2 i (j : Int)) (iI x).toNatClampNeg z = fun j : Nat => (wL v i x z).2 i (j : Int) := by
    funext j
    have hc := iI_clamp hx (show x ≤ 2147483647 by omega)
    unfold vp_updL
    by_cases hj : j = (iI x).toNatClampNeg
    · rw [if_pos hj, show (j : Int) = x by rw [hj]; exact hc]
      show z = u2 v.2 i x z i x
      rw [u2_s]
    · rw [if_neg hj]
      show v.2 i j = u2 v.2 i x z i j
      rw [u2_n (by rintro ⟨-, q⟩; exact hj (by omega))]
  rw [e, wd_set (v' := wL v i x z) (hE _) (fun j hj => cE_wL hj)] at hP1
  exact kk H1 locs1 ls hP1 hS1 hl
end Heap
/-! contracts, calls, ends -/
def Pw (G : GT) (v : Mem) (U : State) : Prop := va_P G.1 vwCl (wd G v) U.heap ∧ va_K G.1 vwCl (tysG G) U ∧ Nst U
def Bw (G : GT) (v : Mem) (t : State) : Prop := va_P G.1 vwCl (wd G v) t.heap
def rmL (d : Nat) : Room := { frames := d, cells := 0, slots := 0, locals := 40 * d }
def qI (G : GT) (post : Int → Mem → Prop) : Array Value → State → Outcome → State → Prop := va_Qi (fun (x : Int32) (u : Mem) => ∃ r : Int, x = iI r ∧ post r u) (Bw G) (aW G)
def qL (G : GT) (post : Int64 → Mem → Prop) : Array Value → State → Outcome → State → Prop := va_Ql post (Bw G) (aW G)
def qV (G : GT) (post : Mem → Prop) : Array Value → State → Outcome → State → Prop := va_Qv post (Bw G) (aW G)
abbrev MN : Type := MethodName × ByteArray × Nat × Option FieldType
def CC (l : Launch) (G : GT) (y : MN) (d : Nat) (As : List Value) (v : Mem) (Q : Array Value → State → Outcome → State → Prop) : Prop := Met l y.1 (wM y.1 y.2.1 y.2.2.1 y.2.2.2) (rmL d) (va_Pc As (Pw G v)) Q 0 0 (aW G)
def Ret (X : CX) (G : GT) (y : MN) (Q : Array Value → State → Outcome → State → Prop) : Prop := (x_me X).sig.returnType = y.2.2.2 ∧ x_A X = aW G ∧ x_Q X = MQ (x_b X) Q (x_a X) (x_s X) (x_k X) (x_n X) (aW G)
def MOk (y : MN) (n : Nat) : Prop := Cond.initialized y.1.cls ∈ gw ∧ Cond.code y.1 y.2.1 y.2.2.1 y.2.2.2 ∈ gw ∧ (y.1.cls ≠ "java/lang/invoke/MethodHandle" ∧ y.1.cls ≠ "java/lang/invoke/VarHandle" ∧ (parseMethodDescriptor y.1.desc).map (fun d => d.parameters.length) = some n) ∧ y.2.2.1 ≤ 21
def VOk (y : MN) (ci : Nat) : Prop := Cond.instanceMethod y.1 ∈ gw ∧ Cond.selects y.1.cls y.1 y.1 ∈ gw ∧ ∃ q : vw_C, vwCl[ci]? = some q ∧ q.1 = y.1.cls
section Call
variable {X : CX} {G : GT} {nL : Nat} {cc : ByteArray} {own : String} {D : Nat} {v : Mem} {pc : Nat} {lv : List (Option Value)} {st : List Value}
theorem pw_blind {As : List Value} : FrameBlind (va_Pc As (Pw G v)) := by
  intro a U g mk q
  obtain ⟨q0, qP, qK, qN⟩ := q
  exact ⟨q0, qP, va_K.moved (u := U) (U := U.calling g mk a) (Vm.Alike.refl U.vm) qK, Nst.same (u := U) rfl qN⟩
theorem m_cb (h : Ok X G nL cc own D) {y : MN} {d n index : Nat} (mo : MOk y n) (hD : d + 1 ≤ D) (hl : Cond.methodLink own index y.1 ∈ gw) : CallB (x_R X) (x_s X) (x_a X) own index y.1 y.2.1 y.2.2.1 y.2.2.2 (wM y.1 y.2.1 y.2.2.1 y.2.2.2) (rmL d) 0 0 n := by
  obtain ⟨hini, hcode, hdd, hm⟩ := mo
  have hts := h.2.2.2.2.1
  have hR := h.2.2.2.2.2.2.2.2.2.2.1
  exact callB_of n hts (wM_good hcode) rfl rfl rfl (hts _ hini) (hts _ hl) hdd ⟨by show d + 1 ≤ _; omega, by show 8 + (y.2.2.1 + 11) + 40 * d ≤ _; omega⟩
theorem m_run (h : Ok X G nL cc own D) {y : MN} {d n index ci i : Nat} {As rest : List Value} {fs : List Value} {Q : Array Value → State → Outcome → State → Prop} (hM : CC (x_l X) G y d (.ref (G.2.1 i) :: As) v Q) (mo : MOk y n) (vo : VOk y ci) (hD : d + 1 ≤ D) (hl : Cond.methodLink own index y.1 ∈ gw) (hi : i < 64) (hE : cE G v i = .inr (ci, fs)) (hn : As.length = n) (hW : (rest.map fun v => v.category).sum ≤ 8) (hd : decode cc pc = .ok (.invokevirtual index, 3)) {H : Heap} {locs : List Loc} {ls : Array Slot} (hP : va_P G.1 vwCl (wd G v) H) (hsz : ls.size = nL) : va_Run (x_p X) (x_l X) (x_e X) (x_R X) (x_s X) (x_m X) (x_a X) (x_b X) (x_me X) (x_c X) H locs (x_k X) (x_n X) 0 0 (F0 (x_m X) pc ls (As.reverse ++ .ref (G.2.1 i) :: rest)) rest (Q (Value.ref (G.2.1 i) :: As).toArray) (aW G) := by
  have hts := h.2.2.2.2.1
  obtain ⟨h1, h2, q, hq, hqc⟩ := vo
  refine va_runV (C := y.1.cls) (As := As) (rest := rest) ⟨h.1, h.2.1, h.2.2.1, h.2.2.2.1, hts⟩ hM ⟨m_cb h mo hD hl, hts _ h1, hts _ h2⟩ ⟨pw_blind, ?_, fun U hU hWm => ⟨rfl, by rw [hU]; exact hP, va_K.moved hWm.alike h.2.2.2.2.2.1, Nst.warm hWm h.2.2.2.2.2.2.1⟩⟩ rfl hn hsz rfl (lv_room hW) hd h.2.2.2.2.2.2.2.2.2.2.2
  rw [← hqc]
  exact va_recv h.2.2.2.2.2.1 hP hq (by rw [wd_at hi, hE])
theorem m_runS (h : Ok X G nL cc own D) {y : MN} {d n index : Nat} {As rest : List Value} {Q : Array Value → State → Outcome → State → Prop} (hM : CC (x_l X) G y d As v Q) (mo : MOk y n) (hst : Cond.static y.1 ∈ gw) (hD : d + 1 ≤ D) (hl : Cond.methodLink own index y.1 ∈ gw) (hn : As.length = n) (hW : (rest.map fun v => v.category).sum ≤ 8) (hd : decode cc pc = .ok (.invokestatic index, 3)) {H : Heap} {locs : List Loc} {ls : Array Slot} (hP : va_P G.1 vwCl (wd G v) H) (hsz : ls.size = nL) : va_Run (x_p X) (x_l X) (x_e X) (x_R X) (x_s X) (x_m X) (x_a X) (x_b X) (x_me X) (x_c X) H locs (x_k X) (x_n X) 0 0 (F0 (x_m X) pc ls (As.reverse ++ rest)) rest (Q As.toArray) (aW G) := by
  have hts := h.2.2.2.2.1
  exact va_runS (As := As) (rest := rest) ⟨h.1, h.2.1, h.2.2.1, h.2.2.2.1, hts⟩ hM ⟨m_cb h mo hD hl, hts _ hst⟩ ⟨pw_blind, fun U hU hWm => ⟨rfl, by rw [hU]; exact hP, va_K.moved hWm.alike h.2.2.2.2.2.1, Nst.warm hWm h.2.2.2.2.2.2.1⟩⟩ rfl hn hsz rfl (lv_room hW) hd h.2.2.2.2.2.2.2.2.2.2.2
theorem m_runSN (h : Ok X G nL cc own D) {y : MN} {d n index : Nat} {host : String} {As rest : List Value} {Q : Array Value → State → Outcome → State → Prop} (hM : CC (x_l X) G y d As v Q) (mo : MOk y n) (hst : Cond.static y.1 ∈ gw) (hD : d + 1 ≤ D) (hl : Cond.methodLinkNest own index y.1 host ∈ nw) (hn : As.length = n) (hW : (rest.map fun v => v.category).sum ≤ 8) (hd : decode cc pc = .ok (.invokestatic index, 3)) {H : Heap} {locs : List Loc} {ls : Array Slot} (hP : va_P G.1 vwCl (wd G v) H) (hsz : ls.size = nL) : va_Run (x_p X) (x_l X) (x_e X) (x_R X) (x_s X) (x_m X) (x_a X) (x_b X) (x_me X) (x_c X) H locs (x_k X) (x_n X) 0 0 (F0 (x_m X) pc ls (As.reverse ++ rest)) rest (Q As.toArray) (aW G) := by
  have hts := h.2.2.2.2.1
  have hR := h.2.2.2.2.2.2.2.2.2.2.1
  obtain ⟨hini, hcode, hdd, hm⟩ := mo
  exact va_runSN (host := host) (As := As) (rest := rest) ⟨h.1, h.2.1, h.2.2.1, h.2.2.2.1, hts⟩ hM ⟨va_cnB n hts (wM_good hcode) rfl rfl rfl (h.2.2.2.2.2.2.1 _ hl) (hts _ hini) hdd ⟨by show d + 1 ≤ _; omega, by show 8 + (y.2.2.1 + 11) + 40 * d ≤ _; omega⟩, hts _ hst, trivial⟩ ⟨pw_blind, fun U hU hWm => ⟨rfl, by rw [hU]; exact hP, va_K.moved hWm.alike h.2.2.2.2.2.1, Nst.warm hWm h.2.2.2.2.2.2.1⟩⟩ rfl hn hsz rfl (lv_room hW) hd h.2.2.2.2.2.2.2.2.2.2.2
theorem aW_A (h : Ok X G nL cc own D) : ∀ q, aW G q → x_A X q := fun q ⟨i, hi, e⟩ => e ▸ h.2.2.2.2.2.2.2.2.1 i hi
theorem m_backI (h : Ok X G nL cc own D) {post : Int → Mem → Prop} {a : Array Value} {st0 rest : List Value} {H : Heap} {locs : List Loc} {ls : Array Slot} (hr : va_Run (x_p X) (x_l X) (x_e X) (x_R X) (x_s X) (x_m X) (x_a X) (x_b X) (x_me X) (x_c X) H locs (x_k X) (x_n X) 0 0 (F0 (x_m X) pc ls st0) rest (qI G post a) (aW G)) (hS : va_S (x_A X) (x_s X).heap H locs) (hl : lv_has ls nL (lvl lv)) (k : ∀ (r : Int) (u : Mem), post r u → M X G nL u (pc + 3) lv (.int (iI r) :: rest)) : x_W X H locs (F0 (x_m X) pc ls st0) := by
  refine va_calli hr hS (fun q _ => aW_A h q) (aW_A h) (fun r u t H1 locs1 ht hvm hp hB hz hk hS1 => ?_)
  obtain ⟨r', rfl, hp'⟩ := hp
  exact k r' u hp' H1 locs1 ls (by rw [← ht]; exact hB) hS1 hl
theorem m_backL (h : Ok X G nL cc own D) {post : Int64 → Mem → Prop} {a : Array Value} {st0 rest : List Value} {H : Heap} {locs : List Loc} {ls : Array Slot} (hr : va_Run (x_p X) (x_l X) (x_e X) (x_R X) (x_s X) (x_m X) (x_a X) (x_b X) (x_me X) (x_c X) H locs (x_k X) (x_n X) 0 0 (F0 (x_m X) pc ls st0) rest (qL G post a) (aW G)) (hS : va_S (x_A X) (x_s X).heap H locs) (hl : lv_has ls nL (lvl lv)) (k : ∀ (r : Int64) (u : Mem), post r u → M X G nL u (pc + 3) lv (.long r :: rest)) : x_W X H locs (F0 (x_m X) pc ls st0) := by
  refine va_calll hr hS (fun q _ => aW_A h q) (aW_A h) (fun r u t H1 locs1 ht hvm hp hB hz hk hS1 => ?_)
  exact k r u hp H1 locs1 ls (by rw [← ht]; exact hB) hS1 hl
theorem m_backV (h : Ok X G nL cc own D) {post : Mem → Prop} {a : Array Value} {st0 rest : List Value} {H : Heap} {locs : List Loc} {ls : Array Slot} (hr : va_Run (x_p X) (x_l X) (x_e X) (x_R X) (x_s X) (x_m X) (x_a X) (x_b X) (x_me X) (x_c X) H locs (x_k X) (x_n X) 0 0 (F0 (x_m X) pc ls st0) rest (qV G post a) (aW G)) (hS : va_S (x_A X) (x_s X).heap H locs) (hl : lv_has ls nL (lvl lv)) (k : ∀ (u : Mem), post u → M X G nL u (pc + 3) lv rest) : x_W X H locs (F0 (x_m X) pc ls st0) := by
  refine va_callv hr hS (fun q _ => aW_A h q) (aW_A h) (fun u t H1 locs1 ht hvm hp hB hz hk hS1 => ?_)
  exact k u hp H1 locs1 ls (by rw [← ht]; exact hB) hS1 hl
theorem m_vI (h : Ok X G nL cc own D) {y : MN} {d n index ci i : Nat} {As rest stk fs : List Value} {post : Int → Mem → Prop} (hM : CC (x_l X) G y d (.ref (G.2.1 i) :: As) v (qI G post)) (mo : MOk y n) (vo : VOk y ci) (hl : Cond.methodLink own index y.1 ∈ gw) (hd : decode cc pc = .ok (.invokevirtual index, 3)) (hD : d + 1 ≤ D) (hi : i < 64) (hE : cE G v i = .inr (ci, fs)) (hs : stk = As.reverse ++ .ref (G.2.1 i) :: rest) (hn : As.length = n) (hW : (rest.map fun v => v.category).sum ≤ 8) (k : ∀ (r : Int) (u : Mem), post r u → M X G nL u (pc + 3) lv (.int (iI r) :: rest)) : M X G nL v pc lv stk := by
  intro H locs ls hP hS hlv
  subst hs
  exact m_backI h (m_run h hM mo vo hD hl hi hE hn hW hd hP hlv.1) hS hlv k
theorem m_vL (h : Ok X G nL cc own D) {y : MN} {d n index ci i : Nat} {As rest stk fs : List Value} {post : Int64 → Mem → Prop} (hM : CC (x_l X) G y d (.ref (G.2.1 i) :: As) v (qL G post)) (mo : MOk y n) (vo : VOk y ci) (hl : Cond.methodLink own index y.1 ∈ gw) (hd : decode cc pc = .ok (.invokevirtual index, 3)) (hD : d + 1 ≤ D) (hi : i < 64) (hE : cE G v i = .inr (ci, fs)) (hs : stk = As.reverse ++ .ref (G.2.1 i) :: rest) (hn : As.length = n) (hW : (rest.map fun v => v.category).sum ≤ 8) (k : ∀ (r : Int64) (u : Mem), post r u → M X G nL u (pc + 3) lv (.long r :: rest)) : M X G nL v pc lv stk := by
  intro H locs ls hP hS hlv
  subst hs
  exact m_backL h (m_run h hM mo vo hD hl hi hE hn hW hd hP hlv.1) hS hlv k
theorem m_vV (h : Ok X G nL cc own D) {y : MN} {d n index ci i : Nat} {As rest stk fs : List Value} {post : Mem → Prop} (hM : CC (x_l X) G y d (.ref (G.2.1 i) :: As) v (qV G post)) (mo : MOk y n) (vo : VOk y ci) (hl : Cond.methodLink own index y.1 ∈ gw) (hd : decode cc pc = .ok (.invokevirtual index, 3)) (hD : d + 1 ≤ D) (hi : i < 64) (hE : cE G v i = .inr (ci, fs)) (hs : stk = As.reverse ++ .ref (G.2.1 i) :: rest) (hn : As.length = n) (hW : (rest.map fun v => v.category).sum ≤ 8) (k : ∀ (u : Mem), post u → M X G nL u (pc + 3) lv rest) : M X G nL v pc lv stk := by
  intro H locs ls hP hS hlv
  subst hs
  exact m_backV h (m_run h hM mo vo hD hl hi hE hn hW hd hP hlv.1) hS hlv k
theorem m_sI (h : Ok X G nL cc own D) {y : MN} {d n index : Nat} {As rest stk : List Value} {post : Int → Mem → Prop} (hM : CC (x_l X) G y d As v (qI G post)) (mo : MOk y n) (hst : Cond.static y.1 ∈ gw) (hl : Cond.methodLink own index y.1 ∈ gw) (hd : decode cc pc = .ok (.invokestatic index, 3)) (hD : d + 1 ≤ D) (hs : stk = As.reverse ++ rest) (hn : As.length = n) (hW : (rest.map fun v => v.category).sum ≤ 8) (k : ∀ (r : Int) (u : Mem), post r u → M X G nL u (pc + 3) lv (.int (iI r) :: rest)) : M X G nL v pc lv stk := by
  intro H locs ls hP hS hlv
  subst hs
  exact m_backI h (m_runS h hM mo hst hD hl hn hW hd hP hlv.1) hS hlv k
theorem m_sL (h : Ok X G nL cc own D) {y : MN} {d n index : Nat} {As rest stk : List Value} {post : Int64 → Mem → Prop} (hM : CC (x_l X) G y d As v (qL G post)) (mo : MOk y n) (hst : Cond.static y.1 ∈ gw) (hl : Cond.methodLink own index y.1 ∈ gw) (hd : decode cc pc = .ok (.invokestatic index, 3)) (hD : d + 1 ≤ D) (hs : stk = As.reverse ++ rest) (hn : As.length = n) (hW : (rest.map fun v => v.category).sum ≤ 8) (k : ∀ (r : Int64) (u : Mem), post r u → M X G nL u (pc + 3) lv (.long r :: rest)) : M X G nL v pc lv stk := by
  intro H locs ls hP hS hlv
  subst hs
  exact m_backL h (m_runS h hM mo hst hD hl hn hW hd hP hlv.1) hS hlv k
theorem m_nI (h : Ok X G nL cc own D) {y : MN} {d n index : Nat} {host : String} {As rest stk : List Value} {post : Int → Mem → Prop} (hM : CC (x_l X) G y d As v (qI G post)) (mo : MOk y n) (hst : Cond.static y.1 ∈ gw) (hl : Cond.methodLinkNest own index y.1 host ∈ nw) (hd : decode cc pc = .ok (.invokestatic index, 3)) (hD : d + 1 ≤ D) (hs : stk = As.reverse ++ rest) (hn : As.length = n) (hW : (rest.map fun v => v.category).sum ≤ 8) (k : ∀ (r : Int) (u : Mem), post r u → M X G nL u (pc + 3) lv (.int (iI r) :: rest)) : M X G nL v pc lv stk := by
  intro H locs ls hP hS hlv
  subst hs
  exact m_backI h (m_runSN h hM mo hst hD hl hn hW hd hP hlv.1) hS hlv k
theorem m_nL (h : Ok X G nL cc own D) {y : MN} {d n index : Nat} {host : String} {As rest stk : List Value} {post : Int64 → Mem → Prop} (hM : CC (x_l X) G y d As v (qL G post)) (mo : MOk y n) (hst : Cond.static y.1 ∈ gw) (hl : Cond.methodLinkNest own index y.1 host ∈ nw) (hd : decode cc pc = .ok (.invokestatic index, 3)) (hD : d + 1 ≤ D) (hs : stk = As.reverse ++ rest) (hn : As.length = n) (hW : (rest.map fun v => v.category).sum ≤ 8) (k : ∀ (r : Int64) (u : Mem), post r u → M X G nL u (pc + 3) lv (.long r :: rest)) : M X G nL v pc lv stk := by
  intro H locs ls hP hS hlv
  subst hs
  exact m_backL h (m_runSN h hM mo hst hD hl hn hW hd hP hlv.1) hS hlv k
theorem m_iret (h : Ok X G nL cc own D) {y : MN} {post : Int → Mem → Prop} (hR : Ret X G y (qI G post)) (hy : y.2.2.2 = some .int) {z : Int} (hd : decode cc pc = .ok (.ireturn, 1)) (hp : post z v) : M X G nL v pc lv [.int (iI z)] := by
  intro H locs ls hP hS hl
  obtain ⟨hr, hA, hQ⟩ := hR
  rw [hy] at hr
  rw [hA] at hS
  show W _ _ _ _ _ _ _ _ _ _ _ _ _ _ (x_Q X) _
  rw [hQ]
  exact W.iret h.1 h.2.1 hr (fun t ht hW => ⟨⟨iI z, v, rfl, ⟨z, rfl, hp⟩, by show va_P _ _ _ _; rw [ht]; exact hP⟩, hS.F ht⟩) hS.2.2 hd h.2.2.2.2.2.2.2.2.2.1
theorem m_zret (h : Ok X G nL cc own D) {y : MN} {post : Int → Mem → Prop} (hR : Ret X G y (qI G post)) (hy : y.2.2.2 = some .boolean) {z : Int} (hd : decode cc pc = .ok (.ireturn, 1)) (hz : z = 0 ∨ z = 1) (hp : post z v) : M X G nL v pc lv [.int (iI z)] := by
  intro H locs ls hP hS hl
  obtain ⟨hr, hA, hQ⟩ := hR
  rw [hy] at hr
  rw [hA] at hS
  show W _ _ _ _ _ _ _ _ _ _ _ _ _ _ (x_Q X) _
  rw [hQ]
  exact W.zret h.1 h.2.1 hr (by rcases hz with rfl | rfl <;> decide) (fun t ht hW => ⟨⟨iI z, v, rfl, ⟨z, rfl, hp⟩, by show va_P _ _ _ _; rw [ht]; exact hP⟩, hS.F ht⟩) hS.2.2 hd h.2.2.2.2.2.2.2.2.2.1
theorem m_lret (h : Ok X G nL cc own D) {y : MN} {post : Int64 → Mem → Prop} (hR : Ret X G y (qL G post)) (hy : y.2.2.2 = some .long) {z : Int64} (hd : decode cc pc = .ok (.lreturn, 1)) (hp : post z v) : M X G nL v pc lv [.long z] := by
  intro H locs ls hP hS hl
  obtain ⟨hr, hA, hQ⟩ := hR
  rw [hy] at hr
  rw [hA] at hS
  show W _ _ _ _ _ _ _ _ _ _ _ _ _ _ (x_Q X) _
  rw [hQ]
  exact W.lret h.1 h.2.1 hr (fun t ht hW => ⟨⟨z, v, rfl, hp, by show va_P _ _ _ _; rw [ht]; exact hP⟩, hS.F ht⟩) hS.2.2 hd h.2.2.2.2.2.2.2.2.2.1
theorem m_vret (h : Ok X G nL cc own D) {y : MN} {post : Mem → Prop} (hR : Ret X G y (qV G post)) (hy : y.2.2.2 = none) (hd : decode cc pc = .ok (.return_, 1)) (hp : post v) : M X G nL v pc lv [] := by
  intro H locs ls hP hS hl
  obtain ⟨hr, hA, hQ⟩ := hR
  rw [hy] at hr
  rw [hA] at hS
  show W _ _ _ _ _ _ _ _ _ _ _ _ _ _ (x_Q X) _
  rw [hQ]
  exact W.vret h.1 h.2.1 hr (fun t ht hW => ⟨⟨v, rfl, hp, by show va_P _ _ _ _; rw [ht]; exact hP⟩, hS.F ht⟩) hS.2.2 hd h.2.2.2.2.2.2.2.2.2.1
theorem m_start {l : Launch} {y : MN} {d : Nat} {As : List Value} {Q : Array Value → State → Outcome → State → Prop} (hG : gok G) (hy : plainName y.1.cls = true) (hlv : lvl lv = lv_args 0 As) (hln : (lg_sl As).length ≤ y.2.2.1) (body : ∀ X : CX, x_l X = l → Ok X G y.2.2.1 y.2.1 y.1.cls d → Ret X G y Q → M X G y.2.2.1 v 0 lv []) : CC l G y d As v Q := by
  refine Met.ofW (cc := y.2.1) (maxL := y.2.2.1) (ret := y.2.2.2) hy rfl ?_
  intro p e s m args below meth c s₁ B hml hv
  obtain ⟨rfl, hP, hK, hN⟩ := hv
  have hts := atoms_spec (ws := wM y.1 y.2.1 y.2.2.1 y.2.2.2) B.pre
  have hb := body (p, l, e, rmL d, s, m, As.toArray, below, meth, c, 0, 0, MQ below Q As.toArray s 0 0 (aW G), aW G) rfl ⟨B.exec, B.bytes, hml, findClass_of_methodNamed B.named, fun w hw => hts w (List.mem_cons_of_mem _ hw), hK, hN, hG, fun i hi => ⟨i, hi, rfl⟩, B.notSynchronized, ⟨Nat.le_refl _, Nat.le_refl _⟩, ⟨Nat.le_refl _, Nat.le_refl _⟩⟩ ⟨B.returns, rfl, rfl⟩ s.heap [] _ hP va_S.rf (by rw [hlv]; exact lv_entry As hln)
  rw [lg_entry_eq]
  exact hb
end Call
end
section
/-! words: which of the tables' words say what -/
theorem tb_in {i : Nat} {w : Cond} (h : tables_1[i]? = some w) (hg : goodWord w = true) : w ∈ gw := gw_in (List.mem_append_right _ (List.mem_of_getElem? h)) hg
theorem tb_nw {i : Nat} {w : Cond} (h : tables_1[i]? = some w) (hg : isNest w = true) : w ∈ nw := nw_in (List.mem_append_right _ (List.mem_of_getElem? h)) hg
theorem pv_in {i : Nat} {w : Cond} (h : (k2_sels lw_privs)[i]? = some w) (hg : goodWord w = true) : w ∈ gw := gw_in (List.mem_append_left _ (List.mem_of_getElem? h)) hg
theorem ini_X0 : Cond.initialized RX0 ∈ gw := tb_in (i := 8) (by decide +kernel) (by decide +kernel)
theorem ini_X1 : Cond.initialized RX1 ∈ gw := tb_in (i := 5) (by decide +kernel) (by decide +kernel)
theorem ini_X2 : Cond.initialized RX2 ∈ gw := tb_in (i := 4) (by decide +kernel) (by decide +kernel)
theorem ini_X3 : Cond.initialized RX3 ∈ gw := tb_in (i := 2) (by decide +kernel) (by decide +kernel)
theorem ini_X4 : Cond.initialized RX4 ∈ gw := tb_in (i := 7) (by decide +kernel) (by decide +kernel)
theorem ini_X5 : Cond.initialized RX5 ∈ gw := tb_in (i := 3) (by decide +kernel) (by decide +kernel)
theorem ini_X6 : Cond.initialized RX6 ∈ gw := tb_in (i := 6) (by decide +kernel) (by decide +kernel)
theorem ini_X7 : Cond.initialized RX7 ∈ gw := tb_in (i := 1) (by decide +kernel) (by decide +kernel)
theorem ini_X8 : Cond.initialized RX8 ∈ gw := tb_in (i := 9) (by decide +kernel) (by decide +kernel)
theorem ini_J6 : Cond.initialized RJ6 ∈ gw := tb_in (i := 11) (by decide +kernel) (by decide +kernel)
theorem ini_J13 : Cond.initialized RJ13 ∈ gw := tb_in (i := 10) (by decide +kernel) (by decide +kernel)
theorem ini_J9 : Cond.initialized RJ9 ∈ gw := tb_in (i := 13) (by decide +kernel) (by decide +kernel)
theorem ini_J10 : Cond.initialized RJ10 ∈ gw := tb_in (i := 12) (by decide +kernel) (by decide +kernel)
theorem ini_L : Cond.initialized RL ∈ gw := tb_in (i := 0) (by decide +kernel) (by decide +kernel)
def nX7_init : MN := (yX7_init, cX7_init, 1, none)
theorem moX7_init : MOk nX7_init 0 := ⟨ini_X7, tb_in (i := 18) (by decide +kernel) (by decide +kernel), by decide +kernel, by decide⟩
def nX3_init : MN := (yX3_init, cX3_init, 1, none)
theorem moX3_init : MOk nX3_init 0 := ⟨ini_X3, tb_in (i := 26) (by decide +kernel) (by decide +kernel), by decide +kernel, by decide⟩
def nX5_init : MN := (yX5_init, cX5_init, 1, none)
theorem moX5_init : MOk nX5_init 0 := ⟨ini_X5, tb_in (i := 32) (by decide +kernel) (by decide +kernel), by decide +kernel, by decide⟩
def nX2_init : MN := (yX2_init, cX2_init, 2, none)
theorem moX2_init : MOk nX2_init 0 := ⟨ini_X2, tb_in (i := 79) (by decide +kernel) (by decide +kernel), by decide +kernel, by decide⟩
def nX1_init : MN := (yX1_init, cX1_init, 1, none)
theorem moX1_init : MOk nX1_init 0 := ⟨ini_X1, tb_in (i := 86) (by decide +kernel) (by decide +kernel), by decide +kernel, by decide⟩
def nX6_init : MN := (yX6_init, cX6_init, 1, none)
theorem moX6_init : MOk nX6_init 0 := ⟨ini_X6, tb_in (i := 126) (by decide +kernel) (by decide +kernel), by decide +kernel, by decide⟩
def nX4_init : MN := (yX4_init, cX4_init, 4, none)
theorem moX4_init : MOk nX4_init 3 := ⟨ini_X4, tb_in (i := 157) (by decide +kernel) (by decide +kernel), by decide +kernel, by decide⟩
def nX0_init : MN := (yX0_init, cX0_init, 3, none)
theorem moX0_init : MOk nX0_init 2 := ⟨ini_X0, tb_in (i := 185) (by decide +kernel) (by decide +kernel), by decide +kernel, by decide⟩
def nX7_name : MN := (yX7_name, cX7_name, 3, (some .int))
theorem moX7_name : MOk nX7_name 2 := ⟨ini_X7, tb_in (i := 219) (by decide +kernel) (by decide +kernel), by decide +kernel, by decide⟩
theorem voX7_name : VOk nX7_name 7 := ⟨tb_in (i := 217) (by decide +kernel) (by decide +kernel), tb_in (i := 218) (by decide +kernel) (by decide +kernel), _, rfl, by decide +kernel⟩
def nX7_isNumber : MN := (yX7_isNumber, cX7_isNumber, 1, (some .boolean))
theorem moX7_isNumber : MOk nX7_isNumber 1 := ⟨ini_X7, tb_in (i := 222) (by decide +kernel) (by decide +kernel), by decide +kernel, by decide⟩
theorem stX7_isNumber : Cond.static nX7_isNumber.1 ∈ gw := tb_in (i := 221) (by decide +kernel) (by decide +kernel)
def nX3_add : MN := (yX3_add, cX3_add, 7, none)
theorem moX3_add : MOk nX3_add 2 := ⟨ini_X3, tb_in (i := 226) (by decide +kernel) (by decide +kernel), by decide +kernel, by decide⟩
theorem voX3_add : VOk nX3_add 3 := ⟨tb_in (i := 224) (by decide +kernel) (by decide +kernel), tb_in (i := 225) (by decide +kernel) (by decide +kernel), _, rfl, by decide +kernel⟩
def nX5_fit : MN := (yX5_fit, cX5_fit, 4, none)
theorem moX5_fit : MOk nX5_fit 2 := ⟨ini_X5, tb_in (i := 231) (by decide +kernel) (by decide +kernel), by decide +kernel, by decide⟩
theorem voX5_fit : VOk nX5_fit 5 := ⟨tb_in (i := 229) (by decide +kernel) (by decide +kernel), tb_in (i := 230) (by decide +kernel) (by decide +kernel), _, rfl, by decide +kernel⟩
def nX7_leastOf : MN := (yX7_leastOf, cX7_leastOf, 2, (some .int))
theorem moX7_leastOf : MOk nX7_leastOf 1 := ⟨ini_X7, tb_in (i := 234) (by decide +kernel) (by decide +kernel), by decide +kernel, by decide⟩
theorem stX7_leastOf : Cond.static nX7_leastOf.1 ∈ gw := tb_in (i := 233) (by decide +kernel) (by decide +kernel)
def nJ13_numberOfTrailingZeros_95d88 : MN := (yJ13_numberOfTrailingZeros_95d88, cJ13_numberOfTrailingZeros_95d88, 3, (some .int))
theorem moJ13_numberOfTrailingZeros_95d88 : MOk nJ13_numberOfTrailingZeros_95d88 1 := ⟨ini_J13, tb_in (i := 237) (by decide +kernel) (by decide +kernel), by decide +kernel, by decide⟩
theorem stJ13_numberOfTrailingZeros_95d88 : Cond.static nJ13_numberOfTrailingZeros_95d88.1 ∈ gw := tb_in (i := 236) (by decide +kernel) (by decide +kernel)
def nJ6_numberOfTrailingZeros_0f7a4 : MN := (yJ6_numberOfTrailingZeros_0f7a4, cJ6_numberOfTrailingZeros_0f7a4, 2, (some .int))
theorem moJ6_numberOfTrailingZeros_0f7a4 : MOk nJ6_numberOfTrailingZeros_0f7a4 1 := ⟨ini_J6, tb_in (i := 240) (by decide +kernel) (by decide +kernel), by decide +kernel, by decide⟩
theorem stJ6_numberOfTrailingZeros_0f7a4 : Cond.static nJ6_numberOfTrailingZeros_0f7a4.1 ∈ gw := tb_in (i := 239) (by decide +kernel) (by decide +kernel)
def nX7_mostOf : MN := (yX7_mostOf, cX7_mostOf, 2, (some .int))
theorem moX7_mostOf : MOk nX7_mostOf 1 := ⟨ini_X7, tb_in (i := 244) (by decide +kernel) (by decide +kernel), by decide +kernel, by decide⟩
theorem stX7_mostOf : Cond.static nX7_mostOf.1 ∈ gw := tb_in (i := 243) (by decide +kernel) (by decide +kernel)
def nJ13_numberOfLeadingZeros_95d88 : MN := (yJ13_numberOfLeadingZeros_95d88, cJ13_numberOfLeadingZeros_95d88, 3, (some .int))
theorem moJ13_numberOfLeadingZeros_95d88 : MOk nJ13_numberOfLeadingZeros_95d88 1 := ⟨ini_J13, tb_in (i := 247) (by decide +kernel) (by decide +kernel), by decide +kernel, by decide⟩
theorem stJ13_numberOfLeadingZeros_95d88 : Cond.static nJ13_numberOfLeadingZeros_95d88.1 ∈ gw := tb_in (i := 246) (by decide +kernel) (by decide +kernel)
def nJ6_numberOfLeadingZeros_0f7a4 : MN := (yJ6_numberOfLeadingZeros_0f7a4, cJ6_numberOfLeadingZeros_0f7a4, 2, (some .int))
theorem moJ6_numberOfLeadingZeros_0f7a4 : MOk nJ6_numberOfLeadingZeros_0f7a4 1 := ⟨ini_J6, tb_in (i := 250) (by decide +kernel) (by decide +kernel), by decide +kernel, by decide⟩
theorem stJ6_numberOfLeadingZeros_0f7a4 : Cond.static nJ6_numberOfLeadingZeros_0f7a4.1 ∈ gw := tb_in (i := 249) (by decide +kernel) (by decide +kernel)
def nX7_beginAnew : MN := (yX7_beginAnew, cX7_beginAnew, 1, none)
theorem moX7_beginAnew : MOk nX7_beginAnew 0 := ⟨ini_X7, tb_in (i := 254) (by decide +kernel) (by decide +kernel), by decide +kernel, by decide⟩
theorem voX7_beginAnew : VOk nX7_beginAnew 7 := ⟨tb_in (i := 253) (by decide +kernel) (by decide +kernel), pv_in (i := 0) (by decide +kernel) (by decide +kernel), _, rfl, by decide +kernel⟩
def nX3_restore : MN := (yX3_restore, cX3_restore, 1, none)
theorem moX3_restore : MOk nX3_restore 0 := ⟨ini_X3, tb_in (i := 258) (by decide +kernel) (by decide +kernel), by decide +kernel, by decide⟩
theorem voX3_restore : VOk nX3_restore 3 := ⟨tb_in (i := 256) (by decide +kernel) (by decide +kernel), tb_in (i := 257) (by decide +kernel) (by decide +kernel), _, rfl, by decide +kernel⟩
def nX5_copy : MN := (yX5_copy, cX5_copy, 2, none)
theorem moX5_copy : MOk nX5_copy 1 := ⟨ini_X5, tb_in (i := 265) (by decide +kernel) (by decide +kernel), by decide +kernel, by decide⟩
theorem voX5_copy : VOk nX5_copy 5 := ⟨tb_in (i := 263) (by decide +kernel) (by decide +kernel), tb_in (i := 264) (by decide +kernel) (by decide +kernel), _, rfl, by decide +kernel⟩
def nX4_forget : MN := (yX4_forget, cX4_forget, 1, none)
theorem moX4_forget : MOk nX4_forget 0 := ⟨ini_X4, tb_in (i := 270) (by decide +kernel) (by decide +kernel), by decide +kernel, by decide⟩
theorem voX4_forget : VOk nX4_forget 4 := ⟨tb_in (i := 268) (by decide +kernel) (by decide +kernel), tb_in (i := 269) (by decide +kernel) (by decide +kernel), _, rfl, by decide +kernel⟩
def nX7_leave : MN := (yX7_leave, cX7_leave, 5, (some .int))
theorem moX7_leave : MOk nX7_leave 2 := ⟨ini_X7, tb_in (i := 274) (by decide +kernel) (by decide +kernel), by decide +kernel, by decide⟩
theorem voX7_leave : VOk nX7_leave 7 := ⟨tb_in (i := 272) (by decide +kernel) (by decide +kernel), tb_in (i := 273) (by decide +kernel) (by decide +kernel), _, rfl, by decide +kernel⟩
def nX7_isName : MN := (yX7_isName, cX7_isName, 2, (some .boolean))
theorem moX7_isName : MOk nX7_isName 1 := ⟨ini_X7, tb_in (i := 278) (by decide +kernel) (by decide +kernel), by decide +kernel, by decide⟩
theorem voX7_isName : VOk nX7_isName 7 := ⟨tb_in (i := 277) (by decide +kernel) (by decide +kernel), pv_in (i := 1) (by decide +kernel) (by decide +kernel), _, rfl, by decide +kernel⟩
def nX7_bitOf : MN := (yX7_bitOf, cX7_bitOf, 1, (some .long))
theorem moX7_bitOf : MOk nX7_bitOf 1 := ⟨ini_X7, tb_in (i := 281) (by decide +kernel) (by decide +kernel), by decide +kernel, by decide⟩
theorem stX7_bitOf : Cond.static nX7_bitOf.1 ∈ gw := tb_in (i := 280) (by decide +kernel) (by decide +kernel)
def nX3_leaveOut : MN := (yX3_leaveOut, cX3_leaveOut, 3, none)
theorem moX3_leaveOut : MOk nX3_leaveOut 2 := ⟨ini_X3, tb_in (i := 285) (by decide +kernel) (by decide +kernel), by decide +kernel, by decide⟩
theorem voX3_leaveOut : VOk nX3_leaveOut 3 := ⟨tb_in (i := 283) (by decide +kernel) (by decide +kernel), tb_in (i := 284) (by decide +kernel) (by decide +kernel), _, rfl, by decide +kernel⟩
def nX7_hasBit : MN := (yX7_hasBit, cX7_hasBit, 3, (some .boolean))
theorem moX7_hasBit : MOk nX7_hasBit 2 := ⟨ini_X7, tb_in (i := 289) (by decide +kernel) (by decide +kernel), by decide +kernel, by decide⟩
theorem stX7_hasBit : Cond.static nX7_hasBit.1 ∈ gw := tb_in (i := 288) (by decide +kernel) (by decide +kernel)
def nX7_row : MN := (yX7_row, cX7_row, 8, (some .int))
theorem moX7_row : MOk nX7_row 5 := ⟨ini_X7, tb_in (i := 293) (by decide +kernel) (by decide +kernel), by decide +kernel, by decide⟩
theorem voX7_row : VOk nX7_row 7 := ⟨tb_in (i := 291) (by decide +kernel) (by decide +kernel), tb_in (i := 292) (by decide +kernel) (by decide +kernel), _, rfl, by decide +kernel⟩
def nX7_areDifferentNames : MN := (yX7_areDifferentNames, cX7_areDifferentNames, 5, (some .boolean))
theorem moX7_areDifferentNames : MOk nX7_areDifferentNames 4 := ⟨ini_X7, tb_in (i := 299) (by decide +kernel) (by decide +kernel), by decide +kernel, by decide⟩
theorem voX7_areDifferentNames : VOk nX7_areDifferentNames 7 := ⟨tb_in (i := 298) (by decide +kernel) (by decide +kernel), pv_in (i := 2) (by decide +kernel) (by decide +kernel), _, rfl, by decide +kernel⟩
def nX1_become : MN := (yX1_become, cX1_become, 4, none)
theorem moX1_become : MOk nX1_become 2 := ⟨ini_X1, tb_in (i := 303) (by decide +kernel) (by decide +kernel), by decide +kernel, by decide⟩
theorem voX1_become : VOk nX1_become 1 := ⟨tb_in (i := 301) (by decide +kernel) (by decide +kernel), tb_in (i := 302) (by decide +kernel) (by decide +kernel), _, rfl, by decide +kernel⟩
def nX1_tie : MN := (yX1_tie, cX1_tie, 4, none)
theorem moX1_tie : MOk nX1_tie 3 := ⟨ini_X1, tb_in (i := 307) (by decide +kernel) (by decide +kernel), by decide +kernel, by decide⟩
theorem voX1_tie : VOk nX1_tie 1 := ⟨tb_in (i := 305) (by decide +kernel) (by decide +kernel), tb_in (i := 306) (by decide +kernel) (by decide +kernel), _, rfl, by decide +kernel⟩
def nX7_factor : MN := (yX7_factor, cX7_factor, 6, (some .int))
theorem moX7_factor : MOk nX7_factor 3 := ⟨ini_X7, tb_in (i := 311) (by decide +kernel) (by decide +kernel), by decide +kernel, by decide⟩
theorem voX7_factor : VOk nX7_factor 7 := ⟨tb_in (i := 309) (by decide +kernel) (by decide +kernel), tb_in (i := 310) (by decide +kernel) (by decide +kernel), _, rfl, by decide +kernel⟩
def nX7_isRow : MN := (yX7_isRow, cX7_isRow, 2, (some .boolean))
theorem moX7_isRow : MOk nX7_isRow 1 := ⟨ini_X7, tb_in (i := 315) (by decide +kernel) (by decide +kernel), by decide +kernel, by decide⟩
theorem voX7_isRow : VOk nX7_isRow 7 := ⟨tb_in (i := 314) (by decide +kernel) (by decide +kernel), pv_in (i := 3) (by decide +kernel) (by decide +kernel), _, rfl, by decide +kernel⟩
def nX1_hasFactors : MN := (yX1_hasFactors, cX1_hasFactors, 1, (some .boolean))
theorem moX1_hasFactors : MOk nX1_hasFactors 0 := ⟨ini_X1, tb_in (i := 319) (by decide +kernel) (by decide +kernel), by decide +kernel, by decide⟩
theorem voX1_hasFactors : VOk nX1_hasFactors 1 := ⟨tb_in (i := 317) (by decide +kernel) (by decide +kernel), tb_in (i := 318) (by decide +kernel) (by decide +kernel), _, rfl, by decide +kernel⟩
def nX7_clear : MN := (yX7_clear, cX7_clear, 2, (some .int))
theorem moX7_clear : MOk nX7_clear 0 := ⟨ini_X7, tb_in (i := 323) (by decide +kernel) (by decide +kernel), by decide +kernel, by decide⟩
theorem voX7_clear : VOk nX7_clear 7 := ⟨tb_in (i := 321) (by decide +kernel) (by decide +kernel), tb_in (i := 322) (by decide +kernel) (by decide +kernel), _, rfl, by decide +kernel⟩
def nX7_run : MN := (yX7_run, cX7_run, 6, (some .int))
theorem moX7_run : MOk nX7_run 2 := ⟨ini_X7, tb_in (i := 327) (by decide +kernel) (by decide +kernel), by decide +kernel, by decide⟩
theorem voX7_run : VOk nX7_run 7 := ⟨tb_in (i := 325) (by decide +kernel) (by decide +kernel), tb_in (i := 326) (by decide +kernel) (by decide +kernel), _, rfl, by decide +kernel⟩
def nX4_doOne : MN := (yX4_doOne, cX4_doOne, 5, none)
theorem moX4_doOne : MOk nX4_doOne 1 := ⟨ini_X4, tb_in (i := 331) (by decide +kernel) (by decide +kernel), by decide +kernel, by decide⟩
theorem voX4_doOne : VOk nX4_doOne 4 := ⟨tb_in (i := 329) (by decide +kernel) (by decide +kernel), tb_in (i := 330) (by decide +kernel) (by decide +kernel), _, rfl, by decide +kernel⟩
def nX1_isAbout : MN := (yX1_isAbout, cX1_isAbout, 2, (some .boolean))
theorem moX1_isAbout : MOk nX1_isAbout 1 := ⟨ini_X1, tb_in (i := 335) (by decide +kernel) (by decide +kernel), by decide +kernel, by decide⟩
theorem voX1_isAbout : VOk nX1_isAbout 1 := ⟨tb_in (i := 333) (by decide +kernel) (by decide +kernel), tb_in (i := 334) (by decide +kernel) (by decide +kernel), _, rfl, by decide +kernel⟩
def nX4_sift : MN := (yX4_sift, cX4_sift, 9, none)
theorem moX4_sift : MOk nX4_sift 2 := ⟨ini_X4, tb_in (i := 339) (by decide +kernel) (by decide +kernel), by decide +kernel, by decide⟩
theorem voX4_sift : VOk nX4_sift 4 := ⟨tb_in (i := 338) (by decide +kernel) (by decide +kernel), pv_in (i := 4) (by decide +kernel) (by decide +kernel), _, rfl, by decide +kernel⟩
def nX1_endOfOthers : MN := (yX1_endOfOthers, cX1_endOfOthers, 8, (some .int))
theorem moX1_endOfOthers : MOk nX1_endOfOthers 3 := ⟨ini_X1, tb_in (i := 343) (by decide +kernel) (by decide +kernel), by decide +kernel, by decide⟩
theorem voX1_endOfOthers : VOk nX1_endOfOthers 1 := ⟨tb_in (i := 341) (by decide +kernel) (by decide +kernel), tb_in (i := 342) (by decide +kernel) (by decide +kernel), _, rfl, by decide +kernel⟩
def nX5_covers : MN := (yX5_covers, cX5_covers, 3, (some .boolean))
theorem moX5_covers : MOk nX5_covers 2 := ⟨ini_X5, tb_in (i := 347) (by decide +kernel) (by decide +kernel), by decide +kernel, by decide⟩
theorem voX5_covers : VOk nX5_covers 5 := ⟨tb_in (i := 345) (by decide +kernel) (by decide +kernel), tb_in (i := 346) (by decide +kernel) (by decide +kernel), _, rfl, by decide +kernel⟩
def nX5_isOnly : MN := (yX5_isOnly, cX5_isOnly, 3, (some .boolean))
theorem moX5_isOnly : MOk nX5_isOnly 2 := ⟨ini_X5, tb_in (i := 351) (by decide +kernel) (by decide +kernel), by decide +kernel, by decide⟩
theorem voX5_isOnly : VOk nX5_isOnly 5 := ⟨tb_in (i := 349) (by decide +kernel) (by decide +kernel), tb_in (i := 350) (by decide +kernel) (by decide +kernel), _, rfl, by decide +kernel⟩
def nX1_allows : MN := (yX1_allows, cX1_allows, 7, (some .boolean))
theorem moX1_allows : MOk nX1_allows 5 := ⟨ini_X1, tb_in (i := 356) (by decide +kernel) (by decide +kernel), by decide +kernel, by decide⟩
theorem voX1_allows : VOk nX1_allows 1 := ⟨tb_in (i := 354) (by decide +kernel) (by decide +kernel), tb_in (i := 355) (by decide +kernel) (by decide +kernel), _, rfl, by decide +kernel⟩
def nX1_allowsProduct : MN := (yX1_allowsProduct, cX1_allowsProduct, 4, (some .boolean))
theorem moX1_allowsProduct : MOk nX1_allowsProduct 2 := ⟨ini_X1, tb_in (i := 360) (by decide +kernel) (by decide +kernel), by decide +kernel, by decide⟩
theorem voX1_allowsProduct : VOk nX1_allowsProduct 1 := ⟨tb_in (i := 359) (by decide +kernel) (by decide +kernel), pv_in (i := 5) (by decide +kernel) (by decide +kernel), _, rfl, by decide +kernel⟩
def nX1_allowsMultiplier : MN := (yX1_allowsMultiplier, cX1_allowsMultiplier, 8, (some .boolean))
theorem moX1_allowsMultiplier : MOk nX1_allowsMultiplier 3 := ⟨ini_X1, tb_in (i := 364) (by decide +kernel) (by decide +kernel), by decide +kernel, by decide⟩
theorem voX1_allowsMultiplier : VOk nX1_allowsMultiplier 1 := ⟨tb_in (i := 363) (by decide +kernel) (by decide +kernel), pv_in (i := 6) (by decide +kernel) (by decide +kernel), _, rfl, by decide +kernel⟩
def nJ9_abs_0f7a4 : MN := (yJ9_abs_0f7a4, cJ9_abs_0f7a4, 1, (some .int))
theorem moJ9_abs_0f7a4 : MOk nJ9_abs_0f7a4 1 := ⟨ini_J9, tb_in (i := 367) (by decide +kernel) (by decide +kernel), by decide +kernel, by decide⟩
theorem stJ9_abs_0f7a4 : Cond.static nJ9_abs_0f7a4.1 ∈ gw := tb_in (i := 366) (by decide +kernel) (by decide +kernel)
def nJ9_floorDiv_7cf53 : MN := (yJ9_floorDiv_7cf53, cJ9_floorDiv_7cf53, 3, (some .int))
theorem moJ9_floorDiv_7cf53 : MOk nJ9_floorDiv_7cf53 2 := ⟨ini_J9, tb_in (i := 370) (by decide +kernel) (by decide +kernel), by decide +kernel, by decide⟩
theorem stJ9_floorDiv_7cf53 : Cond.static nJ9_floorDiv_7cf53.1 ∈ gw := tb_in (i := 369) (by decide +kernel) (by decide +kernel)
def nX5_meets : MN := (yX5_meets, cX5_meets, 4, (some .boolean))
theorem moX5_meets : MOk nX5_meets 3 := ⟨ini_X5, tb_in (i := 374) (by decide +kernel) (by decide +kernel), by decide +kernel, by decide⟩
theorem voX5_meets : VOk nX5_meets 5 := ⟨tb_in (i := 372) (by decide +kernel) (by decide +kernel), tb_in (i := 373) (by decide +kernel) (by decide +kernel), _, rfl, by decide +kernel⟩
def nJ9_max_7cf53 : MN := (yJ9_max_7cf53, cJ9_max_7cf53, 2, (some .int))
theorem moJ9_max_7cf53 : MOk nJ9_max_7cf53 2 := ⟨ini_J9, tb_in (i := 377) (by decide +kernel) (by decide +kernel), by decide +kernel, by decide⟩
theorem stJ9_max_7cf53 : Cond.static nJ9_max_7cf53.1 ∈ gw := tb_in (i := 376) (by decide +kernel) (by decide +kernel)
def nJ9_min_7cf53 : MN := (yJ9_min_7cf53, cJ9_min_7cf53, 2, (some .int))
theorem moJ9_min_7cf53 : MOk nJ9_min_7cf53 2 := ⟨ini_J9, tb_in (i := 380) (by decide +kernel) (by decide +kernel), by decide +kernel, by decide⟩
theorem stJ9_min_7cf53 : Cond.static nJ9_min_7cf53.1 ∈ gw := tb_in (i := 379) (by decide +kernel) (by decide +kernel)
def nX1_allowsQuotient : MN := (yX1_allowsQuotient, cX1_allowsQuotient, 6, (some .boolean))
theorem moX1_allowsQuotient : MOk nX1_allowsQuotient 2 := ⟨ini_X1, tb_in (i := 384) (by decide +kernel) (by decide +kernel), by decide +kernel, by decide⟩
theorem voX1_allowsQuotient : VOk nX1_allowsQuotient 1 := ⟨tb_in (i := 383) (by decide +kernel) (by decide +kernel), pv_in (i := 7) (by decide +kernel) (by decide +kernel), _, rfl, by decide +kernel⟩
def nX1_allowsDividend : MN := (yX1_allowsDividend, cX1_allowsDividend, 4, (some .boolean))
theorem moX1_allowsDividend : MOk nX1_allowsDividend 2 := ⟨ini_X1, tb_in (i := 388) (by decide +kernel) (by decide +kernel), by decide +kernel, by decide⟩
theorem voX1_allowsDividend : VOk nX1_allowsDividend 1 := ⟨tb_in (i := 387) (by decide +kernel) (by decide +kernel), pv_in (i := 8) (by decide +kernel) (by decide +kernel), _, rfl, by decide +kernel⟩
def nX1_allowsDivisor : MN := (yX1_allowsDivisor, cX1_allowsDivisor, 5, (some .boolean))
theorem moX1_allowsDivisor : MOk nX1_allowsDivisor 2 := ⟨ini_X1, tb_in (i := 392) (by decide +kernel) (by decide +kernel), by decide +kernel, by decide⟩
theorem voX1_allowsDivisor : VOk nX1_allowsDivisor 1 := ⟨tb_in (i := 391) (by decide +kernel) (by decide +kernel), pv_in (i := 9) (by decide +kernel) (by decide +kernel), _, rfl, by decide +kernel⟩
def nX1_allowsGreatest : MN := (yX1_allowsGreatest, cX1_allowsGreatest, 3, (some .boolean))
theorem moX1_allowsGreatest : MOk nX1_allowsGreatest 2 := ⟨ini_X1, tb_in (i := 398) (by decide +kernel) (by decide +kernel), by decide +kernel, by decide⟩
theorem voX1_allowsGreatest : VOk nX1_allowsGreatest 1 := ⟨tb_in (i := 397) (by decide +kernel) (by decide +kernel), pv_in (i := 10) (by decide +kernel) (by decide +kernel), _, rfl, by decide +kernel⟩
def nX1_allowsBesideGreatest : MN := (yX1_allowsBesideGreatest, cX1_allowsBesideGreatest, 4, (some .boolean))
theorem moX1_allowsBesideGreatest : MOk nX1_allowsBesideGreatest 3 := ⟨ini_X1, tb_in (i := 402) (by decide +kernel) (by decide +kernel), by decide +kernel, by decide⟩
theorem voX1_allowsBesideGreatest : VOk nX1_allowsBesideGreatest 1 := ⟨tb_in (i := 401) (by decide +kernel) (by decide +kernel), pv_in (i := 11) (by decide +kernel) (by decide +kernel), _, rfl, by decide +kernel⟩
def nX1_allowsLeast : MN := (yX1_allowsLeast, cX1_allowsLeast, 3, (some .boolean))
theorem moX1_allowsLeast : MOk nX1_allowsLeast 2 := ⟨ini_X1, tb_in (i := 406) (by decide +kernel) (by decide +kernel), by decide +kernel, by decide⟩
theorem voX1_allowsLeast : VOk nX1_allowsLeast 1 := ⟨tb_in (i := 405) (by decide +kernel) (by decide +kernel), pv_in (i := 12) (by decide +kernel) (by decide +kernel), _, rfl, by decide +kernel⟩
def nX1_allowsBesideLeast : MN := (yX1_allowsBesideLeast, cX1_allowsBesideLeast, 4, (some .boolean))
theorem moX1_allowsBesideLeast : MOk nX1_allowsBesideLeast 3 := ⟨ini_X1, tb_in (i := 410) (by decide +kernel) (by decide +kernel), by decide +kernel, by decide⟩
theorem voX1_allowsBesideLeast : VOk nX1_allowsBesideLeast 1 := ⟨tb_in (i := 409) (by decide +kernel) (by decide +kernel), pv_in (i := 13) (by decide +kernel) (by decide +kernel), _, rfl, by decide +kernel⟩
def nX1_allowsInCount : MN := (yX1_allowsInCount, cX1_allowsInCount, 7, (some .boolean))
theorem moX1_allowsInCount : MOk nX1_allowsInCount 5 := ⟨ini_X1, tb_in (i := 414) (by decide +kernel) (by decide +kernel), by decide +kernel, by decide⟩
theorem voX1_allowsInCount : VOk nX1_allowsInCount 1 := ⟨tb_in (i := 413) (by decide +kernel) (by decide +kernel), pv_in (i := 14) (by decide +kernel) (by decide +kernel), _, rfl, by decide +kernel⟩
def nX4_findReason : MN := (yX4_findReason, cX4_findReason, 9, (some .int))
theorem moX4_findReason : MOk nX4_findReason 3 := ⟨ini_X4, tb_in (i := 418) (by decide +kernel) (by decide +kernel), by decide +kernel, by decide⟩
theorem voX4_findReason : VOk nX4_findReason 4 := ⟨tb_in (i := 417) (by decide +kernel) (by decide +kernel), pv_in (i := 15) (by decide +kernel) (by decide +kernel), _, rfl, by decide +kernel⟩
def nX5_copyPart : MN := (yX5_copyPart, cX5_copyPart, 4, none)
theorem moX5_copyPart : MOk nX5_copyPart 2 := ⟨ini_X5, tb_in (i := 423) (by decide +kernel) (by decide +kernel), by decide +kernel, by decide⟩
theorem voX5_copyPart : VOk nX5_copyPart 5 := ⟨tb_in (i := 421) (by decide +kernel) (by decide +kernel), tb_in (i := 422) (by decide +kernel) (by decide +kernel), _, rfl, by decide +kernel⟩
def nX6_add : MN := (yX6_add, cX6_add, 6, none)
theorem moX6_add : MOk nX6_add 5 := ⟨ini_X6, tb_in (i := 427) (by decide +kernel) (by decide +kernel), by decide +kernel, by decide⟩
theorem voX6_add : VOk nX6_add 6 := ⟨tb_in (i := 425) (by decide +kernel) (by decide +kernel), tb_in (i := 426) (by decide +kernel) (by decide +kernel), _, rfl, by decide +kernel⟩
def nX3_takeOut : MN := (yX3_takeOut, cX3_takeOut, 3, none)
theorem moX3_takeOut : MOk nX3_takeOut 2 := ⟨ini_X3, tb_in (i := 431) (by decide +kernel) (by decide +kernel), by decide +kernel, by decide⟩
theorem voX3_takeOut : VOk nX3_takeOut 3 := ⟨tb_in (i := 429) (by decide +kernel) (by decide +kernel), tb_in (i := 430) (by decide +kernel) (by decide +kernel), _, rfl, by decide +kernel⟩
def nX7_clash : MN := (yX7_clash, cX7_clash, 1, (some .int))
theorem moX7_clash : MOk nX7_clash 0 := ⟨ini_X7, tb_in (i := 435) (by decide +kernel) (by decide +kernel), by decide +kernel, by decide⟩
theorem voX7_clash : VOk nX7_clash 7 := ⟨tb_in (i := 433) (by decide +kernel) (by decide +kernel), tb_in (i := 434) (by decide +kernel) (by decide +kernel), _, rfl, by decide +kernel⟩
def nX7_has : MN := (yX7_has, cX7_has, 3, (some .int))
theorem moX7_has : MOk nX7_has 2 := ⟨ini_X7, tb_in (i := 439) (by decide +kernel) (by decide +kernel), by decide +kernel, by decide⟩
theorem voX7_has : VOk nX7_has 7 := ⟨tb_in (i := 437) (by decide +kernel) (by decide +kernel), tb_in (i := 438) (by decide +kernel) (by decide +kernel), _, rfl, by decide +kernel⟩
def nX7_end : MN := (yX7_end, cX7_end, 5, (some .int))
theorem moX7_end : MOk nX7_end 2 := ⟨ini_X7, tb_in (i := 443) (by decide +kernel) (by decide +kernel), by decide +kernel, by decide⟩
theorem voX7_end : VOk nX7_end 7 := ⟨tb_in (i := 441) (by decide +kernel) (by decide +kernel), tb_in (i := 442) (by decide +kernel) (by decide +kernel), _, rfl, by decide +kernel⟩
def nX7_size : MN := (yX7_size, cX7_size, 2, (some .int))
theorem moX7_size : MOk nX7_size 1 := ⟨ini_X7, tb_in (i := 449) (by decide +kernel) (by decide +kernel), by decide +kernel, by decide⟩
theorem voX7_size : VOk nX7_size 7 := ⟨tb_in (i := 447) (by decide +kernel) (by decide +kernel), tb_in (i := 448) (by decide +kernel) (by decide +kernel), _, rfl, by decide +kernel⟩
def nJ13_bitCount_95d88 : MN := (yJ13_bitCount_95d88, cJ13_bitCount_95d88, 2, (some .int))
theorem moJ13_bitCount_95d88 : MOk nJ13_bitCount_95d88 1 := ⟨ini_J13, tb_in (i := 452) (by decide +kernel) (by decide +kernel), by decide +kernel, by decide⟩
theorem stJ13_bitCount_95d88 : Cond.static nJ13_bitCount_95d88.1 ∈ gw := tb_in (i := 451) (by decide +kernel) (by decide +kernel)
def nX7_steps : MN := (yX7_steps, cX7_steps, 1, (some .int))
theorem moX7_steps : MOk nX7_steps 0 := ⟨ini_X7, tb_in (i := 459) (by decide +kernel) (by decide +kernel), by decide +kernel, by decide⟩
theorem voX7_steps : VOk nX7_steps 7 := ⟨tb_in (i := 457) (by decide +kernel) (by decide +kernel), tb_in (i := 458) (by decide +kernel) (by decide +kernel), _, rfl, by decide +kernel⟩
def nX7_step : MN := (yX7_step, cX7_step, 3, (some .int))
theorem moX7_step : MOk nX7_step 2 := ⟨ini_X7, tb_in (i := 463) (by decide +kernel) (by decide +kernel), by decide +kernel, by decide⟩
theorem voX7_step : VOk nX7_step 7 := ⟨tb_in (i := 461) (by decide +kernel) (by decide +kernel), tb_in (i := 462) (by decide +kernel) (by decide +kernel), _, rfl, by decide +kernel⟩
def nX7_isStep : MN := (yX7_isStep, cX7_isStep, 2, (some .boolean))
theorem moX7_isStep : MOk nX7_isStep 1 := ⟨ini_X7, tb_in (i := 467) (by decide +kernel) (by decide +kernel), by decide +kernel, by decide⟩
theorem voX7_isStep : VOk nX7_isStep 7 := ⟨tb_in (i := 466) (by decide +kernel) (by decide +kernel), pv_in (i := 16) (by decide +kernel) (by decide +kernel), _, rfl, by decide +kernel⟩
def nX7_reason : MN := (yX7_reason, cX7_reason, 2, (some .int))
theorem moX7_reason : MOk nX7_reason 1 := ⟨ini_X7, tb_in (i := 471) (by decide +kernel) (by decide +kernel), by decide +kernel, by decide⟩
theorem voX7_reason : VOk nX7_reason 7 := ⟨tb_in (i := 469) (by decide +kernel) (by decide +kernel), tb_in (i := 470) (by decide +kernel) (by decide +kernel), _, rfl, by decide +kernel⟩
def nJ6_bitCount_0f7a4 : MN := (yJ6_bitCount_0f7a4, cJ6_bitCount_0f7a4, 1, (some .int))
theorem moJ6_bitCount_0f7a4 : MOk nJ6_bitCount_0f7a4 1 := ⟨ini_J6, tb_in (i := 474) (by decide +kernel) (by decide +kernel), by decide +kernel, by decide⟩
theorem stJ6_bitCount_0f7a4 : Cond.static nJ6_bitCount_0f7a4.1 ∈ gw := tb_in (i := 473) (by decide +kernel) (by decide +kernel)
def nX7_part : MN := (yX7_part, cX7_part, 3, (some .int))
theorem moX7_part : MOk nX7_part 2 := ⟨ini_X7, tb_in (i := 481) (by decide +kernel) (by decide +kernel), by decide +kernel, by decide⟩
theorem voX7_part : VOk nX7_part 7 := ⟨tb_in (i := 479) (by decide +kernel) (by decide +kernel), tb_in (i := 480) (by decide +kernel) (by decide +kernel), _, rfl, by decide +kernel⟩
def nX7_isPart : MN := (yX7_isPart, cX7_isPart, 3, (some .boolean))
theorem moX7_isPart : MOk nX7_isPart 2 := ⟨ini_X7, tb_in (i := 485) (by decide +kernel) (by decide +kernel), by decide +kernel, by decide⟩
theorem voX7_isPart : VOk nX7_isPart 7 := ⟨tb_in (i := 484) (by decide +kernel) (by decide +kernel), pv_in (i := 17) (by decide +kernel) (by decide +kernel), _, rfl, by decide +kernel⟩
def nX6_partAt : MN := (yX6_partAt, cX6_partAt, 5, (some .int))
theorem moX6_partAt : MOk nX6_partAt 2 := ⟨ini_X6, tb_in (i := 489) (by decide +kernel) (by decide +kernel), by decide +kernel, by decide⟩
theorem voX6_partAt : VOk nX6_partAt 6 := ⟨tb_in (i := 487) (by decide +kernel) (by decide +kernel), tb_in (i := 488) (by decide +kernel) (by decide +kernel), _, rfl, by decide +kernel⟩
def nX7_told : MN := (yX7_told, cX7_told, 7, (some .int))
theorem moX7_told : MOk nX7_told 2 := ⟨ini_X7, tb_in (i := 493) (by decide +kernel) (by decide +kernel), by decide +kernel, by decide⟩
theorem voX7_told : VOk nX7_told 7 := ⟨tb_in (i := 491) (by decide +kernel) (by decide +kernel), tb_in (i := 492) (by decide +kernel) (by decide +kernel), _, rfl, by decide +kernel⟩
def nX6_without : MN := (yX6_without, cX6_without, 8, (some .long))
theorem moX6_without : MOk nX6_without 3 := ⟨ini_X6, tb_in (i := 497) (by decide +kernel) (by decide +kernel), by decide +kernel, by decide⟩
theorem voX6_without : VOk nX6_without 6 := ⟨tb_in (i := 495) (by decide +kernel) (by decide +kernel), tb_in (i := 496) (by decide +kernel) (by decide +kernel), _, rfl, by decide +kernel⟩
def nX7_plans : MN := (yX7_plans, cX7_plans, 3, (some .int))
theorem moX7_plans : MOk nX7_plans 0 := ⟨ini_X7, tb_in (i := 503) (by decide +kernel) (by decide +kernel), by decide +kernel, by decide⟩
theorem voX7_plans : VOk nX7_plans 7 := ⟨tb_in (i := 501) (by decide +kernel) (by decide +kernel), tb_in (i := 502) (by decide +kernel) (by decide +kernel), _, rfl, by decide +kernel⟩
def nX3_choices : MN := (yX3_choices, cX3_choices, 4, (some .long))
theorem moX3_choices : MOk nX3_choices 0 := ⟨ini_X3, tb_in (i := 507) (by decide +kernel) (by decide +kernel), by decide +kernel, by decide⟩
theorem voX3_choices : VOk nX3_choices 3 := ⟨tb_in (i := 505) (by decide +kernel) (by decide +kernel), tb_in (i := 506) (by decide +kernel) (by decide +kernel), _, rfl, by decide +kernel⟩
def nX0_countAll : MN := (yX0_countAll, cX0_countAll, 2, (some .int))
theorem moX0_countAll : MOk nX0_countAll 0 := ⟨ini_X0, tb_in (i := 513) (by decide +kernel) (by decide +kernel), by decide +kernel, by decide⟩
theorem voX0_countAll : VOk nX0_countAll 0 := ⟨tb_in (i := 511) (by decide +kernel) (by decide +kernel), tb_in (i := 512) (by decide +kernel) (by decide +kernel), _, rfl, by decide +kernel⟩
def nX1_lastName : MN := (yX1_lastName, cX1_lastName, 3, (some .int))
theorem moX1_lastName : MOk nX1_lastName 0 := ⟨ini_X1, tb_in (i := 517) (by decide +kernel) (by decide +kernel), by decide +kernel, by decide⟩
theorem voX1_lastName : VOk nX1_lastName 1 := ⟨tb_in (i := 515) (by decide +kernel) (by decide +kernel), tb_in (i := 516) (by decide +kernel) (by decide +kernel), _, rfl, by decide +kernel⟩
def nX0_rowsHoldWith : MN := (yX0_rowsHoldWith, cX0_rowsHoldWith, 3, (some .boolean))
theorem moX0_rowsHoldWith : MOk nX0_rowsHoldWith 1 := ⟨ini_X0, tb_in (i := 522) (by decide +kernel) (by decide +kernel), by decide +kernel, by decide⟩
theorem voX0_rowsHoldWith : VOk nX0_rowsHoldWith 0 := ⟨tb_in (i := 521) (by decide +kernel) (by decide +kernel), pv_in (i := 18) (by decide +kernel) (by decide +kernel), _, rfl, by decide +kernel⟩
def nX1_holds : MN := (yX1_holds, cX1_holds, 2, (some .boolean))
theorem moX1_holds : MOk nX1_holds 1 := ⟨ini_X1, tb_in (i := 526) (by decide +kernel) (by decide +kernel), by decide +kernel, by decide⟩
theorem voX1_holds : VOk nX1_holds 1 := ⟨tb_in (i := 524) (by decide +kernel) (by decide +kernel), tb_in (i := 525) (by decide +kernel) (by decide +kernel), _, rfl, by decide +kernel⟩
def nX1_sumOf : MN := (yX1_sumOf, cX1_sumOf, 4, (some .int))
theorem moX1_sumOf : MOk nX1_sumOf 1 := ⟨ini_X1, tb_in (i := 530) (by decide +kernel) (by decide +kernel), by decide +kernel, by decide⟩
theorem voX1_sumOf : VOk nX1_sumOf 1 := ⟨tb_in (i := 529) (by decide +kernel) (by decide +kernel), pv_in (i := 19) (by decide +kernel) (by decide +kernel), _, rfl, by decide +kernel⟩
def nX1_countOf : MN := (yX1_countOf, cX1_countOf, 4, (some .int))
theorem moX1_countOf : MOk nX1_countOf 1 := ⟨ini_X1, tb_in (i := 534) (by decide +kernel) (by decide +kernel), by decide +kernel, by decide⟩
theorem voX1_countOf : VOk nX1_countOf 1 := ⟨tb_in (i := 533) (by decide +kernel) (by decide +kernel), pv_in (i := 20) (by decide +kernel) (by decide +kernel), _, rfl, by decide +kernel⟩
def nX0_countFrom : MN := (yX0_countFrom, cX0_countFrom, 4, (some .int))
theorem moX0_countFrom : MOk nX0_countFrom 1 := ⟨ini_X0, tb_in (i := 538) (by decide +kernel) (by decide +kernel), by decide +kernel, by decide⟩
theorem voX0_countFrom : VOk nX0_countFrom 0 := ⟨tb_in (i := 537) (by decide +kernel) (by decide +kernel), pv_in (i := 21) (by decide +kernel) (by decide +kernel), _, rfl, by decide +kernel⟩
def nX8_init : MN := (yX8_init, cX8_init, 1, none)
theorem moX8_init : MOk nX8_init 0 := ⟨ini_X8, tb_in (i := 544) (by decide +kernel) (by decide +kernel), by decide +kernel, by decide⟩
def nX8_name : MN := (yX8_name, cX8_name, 4, (some .int))
theorem moX8_name : MOk nX8_name 2 := ⟨ini_X8, tb_in (i := 608) (by decide +kernel) (by decide +kernel), by decide +kernel, by decide⟩
theorem voX8_name : VOk nX8_name 8 := ⟨tb_in (i := 606) (by decide +kernel) (by decide +kernel), tb_in (i := 607) (by decide +kernel) (by decide +kernel), _, rfl, by decide +kernel⟩
def nX8_in : MN := (yX8_in, cX8_in, 3, (some .boolean))
theorem moX8_in : MOk nX8_in 3 := ⟨ini_X8, tb_in (i := 611) (by decide +kernel) (by decide +kernel), by decide +kernel, by decide⟩
theorem stX8_in : Cond.static nX8_in.1 ∈ gw := tb_in (i := 610) (by decide +kernel) (by decide +kernel)
def nX8_anew : MN := (yX8_anew, cX8_anew, 2, none)
theorem moX8_anew : MOk nX8_anew 0 := ⟨ini_X8, tb_in (i := 615) (by decide +kernel) (by decide +kernel), by decide +kernel, by decide⟩
theorem voX8_anew : VOk nX8_anew 8 := ⟨tb_in (i := 614) (by decide +kernel) (by decide +kernel), pv_in (i := 22) (by decide +kernel) (by decide +kernel), _, rfl, by decide +kernel⟩
def nX8_leave : MN := (yX8_leave, cX8_leave, 4, (some .int))
theorem moX8_leave : MOk nX8_leave 2 := ⟨ini_X8, tb_in (i := 619) (by decide +kernel) (by decide +kernel), by decide +kernel, by decide⟩
theorem voX8_leave : VOk nX8_leave 8 := ⟨tb_in (i := 617) (by decide +kernel) (by decide +kernel), tb_in (i := 618) (by decide +kernel) (by decide +kernel), _, rfl, by decide +kernel⟩
def nX8_isName : MN := (yX8_isName, cX8_isName, 2, (some .boolean))
theorem moX8_isName : MOk nX8_isName 1 := ⟨ini_X8, tb_in (i := 623) (by decide +kernel) (by decide +kernel), by decide +kernel, by decide⟩
theorem voX8_isName : VOk nX8_isName 8 := ⟨tb_in (i := 622) (by decide +kernel) (by decide +kernel), pv_in (i := 23) (by decide +kernel) (by decide +kernel), _, rfl, by decide +kernel⟩
def nX8_many : MN := (yX8_many, cX8_many, 5, (some .int))
theorem moX8_many : MOk nX8_many 2 := ⟨ini_X8, tb_in (i := 627) (by decide +kernel) (by decide +kernel), by decide +kernel, by decide⟩
theorem voX8_many : VOk nX8_many 8 := ⟨tb_in (i := 626) (by decide +kernel) (by decide +kernel), pv_in (i := 24) (by decide +kernel) (by decide +kernel), _, rfl, by decide +kernel⟩
def nX8_row : MN := (yX8_row, cX8_row, 9, (some .int))
theorem moX8_row : MOk nX8_row 5 := ⟨ini_X8, tb_in (i := 631) (by decide +kernel) (by decide +kernel), by decide +kernel, by decide⟩
theorem voX8_row : VOk nX8_row 8 := ⟨tb_in (i := 629) (by decide +kernel) (by decide +kernel), tb_in (i := 630) (by decide +kernel) (by decide +kernel), _, rfl, by decide +kernel⟩
def nX8_owns : MN := (yX8_owns, cX8_owns, 1, (some .int))
theorem moX8_owns : MOk nX8_owns 1 := ⟨ini_X8, tb_in (i := 634) (by decide +kernel) (by decide +kernel), by decide +kernel, by decide⟩
theorem stX8_owns : Cond.static nX8_owns.1 ∈ gw := tb_in (i := 633) (by decide +kernel) (by decide +kernel)
def nX8_factor : MN := (yX8_factor, cX8_factor, 5, (some .int))
theorem moX8_factor : MOk nX8_factor 3 := ⟨ini_X8, tb_in (i := 638) (by decide +kernel) (by decide +kernel), by decide +kernel, by decide⟩
theorem voX8_factor : VOk nX8_factor 8 := ⟨tb_in (i := 636) (by decide +kernel) (by decide +kernel), tb_in (i := 637) (by decide +kernel) (by decide +kernel), _, rfl, by decide +kernel⟩
def nX8_isRow : MN := (yX8_isRow, cX8_isRow, 2, (some .boolean))
theorem moX8_isRow : MOk nX8_isRow 1 := ⟨ini_X8, tb_in (i := 642) (by decide +kernel) (by decide +kernel), by decide +kernel, by decide⟩
theorem voX8_isRow : VOk nX8_isRow 8 := ⟨tb_in (i := 641) (by decide +kernel) (by decide +kernel), pv_in (i := 25) (by decide +kernel) (by decide +kernel), _, rfl, by decide +kernel⟩
def nX8_hasFactors : MN := (yX8_hasFactors, cX8_hasFactors, 1, (some .boolean))
theorem moX8_hasFactors : MOk nX8_hasFactors 1 := ⟨ini_X8, tb_in (i := 645) (by decide +kernel) (by decide +kernel), by decide +kernel, by decide⟩
theorem stX8_hasFactors : Cond.static nX8_hasFactors.1 ∈ gw := tb_in (i := 644) (by decide +kernel) (by decide +kernel)
def nX8_clear : MN := (yX8_clear, cX8_clear, 2, (some .int))
theorem moX8_clear : MOk nX8_clear 0 := ⟨ini_X8, tb_in (i := 649) (by decide +kernel) (by decide +kernel), by decide +kernel, by decide⟩
theorem voX8_clear : VOk nX8_clear 8 := ⟨tb_in (i := 647) (by decide +kernel) (by decide +kernel), tb_in (i := 648) (by decide +kernel) (by decide +kernel), _, rfl, by decide +kernel⟩
def nX8_run : MN := (yX8_run, cX8_run, 7, (some .int))
theorem moX8_run : MOk nX8_run 2 := ⟨ini_X8, tb_in (i := 653) (by decide +kernel) (by decide +kernel), by decide +kernel, by decide⟩
theorem voX8_run : VOk nX8_run 8 := ⟨tb_in (i := 651) (by decide +kernel) (by decide +kernel), tb_in (i := 652) (by decide +kernel) (by decide +kernel), _, rfl, by decide +kernel⟩
def nX8_bounds : MN := (yX8_bounds, cX8_bounds, 2, none)
theorem moX8_bounds : MOk nX8_bounds 0 := ⟨ini_X8, tb_in (i := 657) (by decide +kernel) (by decide +kernel), by decide +kernel, by decide⟩
theorem voX8_bounds : VOk nX8_bounds 8 := ⟨tb_in (i := 656) (by decide +kernel) (by decide +kernel), pv_in (i := 26) (by decide +kernel) (by decide +kernel), _, rfl, by decide +kernel⟩
def nX8_least : MN := (yX8_least, cX8_least, 5, (some .int))
theorem moX8_least : MOk nX8_least 2 := ⟨ini_X8, tb_in (i := 661) (by decide +kernel) (by decide +kernel), by decide +kernel, by decide⟩
theorem voX8_least : VOk nX8_least 8 := ⟨tb_in (i := 660) (by decide +kernel) (by decide +kernel), pv_in (i := 27) (by decide +kernel) (by decide +kernel), _, rfl, by decide +kernel⟩
def nX8_most : MN := (yX8_most, cX8_most, 5, (some .int))
theorem moX8_most : MOk nX8_most 2 := ⟨ini_X8, tb_in (i := 665) (by decide +kernel) (by decide +kernel), by decide +kernel, by decide⟩
theorem voX8_most : VOk nX8_most 8 := ⟨tb_in (i := 664) (by decide +kernel) (by decide +kernel), pv_in (i := 28) (by decide +kernel) (by decide +kernel), _, rfl, by decide +kernel⟩
def nX8_byRow : MN := (yX8_byRow, cX8_byRow, 4, none)
theorem moX8_byRow : MOk nX8_byRow 1 := ⟨ini_X8, tb_in (i := 669) (by decide +kernel) (by decide +kernel), by decide +kernel, by decide⟩
theorem voX8_byRow : VOk nX8_byRow 8 := ⟨tb_in (i := 668) (by decide +kernel) (by decide +kernel), pv_in (i := 29) (by decide +kernel) (by decide +kernel), _, rfl, by decide +kernel⟩
def nX8_isAbout : MN := (yX8_isAbout, cX8_isAbout, 3, (some .boolean))
theorem moX8_isAbout : MOk nX8_isAbout 2 := ⟨ini_X8, tb_in (i := 673) (by decide +kernel) (by decide +kernel), by decide +kernel, by decide⟩
theorem voX8_isAbout : VOk nX8_isAbout 8 := ⟨tb_in (i := 672) (by decide +kernel) (by decide +kernel), pv_in (i := 30) (by decide +kernel) (by decide +kernel), _, rfl, by decide +kernel⟩
def nX8_impossible : MN := (yX8_impossible, cX8_impossible, 7, (some .boolean))
theorem moX8_impossible : MOk nX8_impossible 3 := ⟨ini_X8, tb_in (i := 677) (by decide +kernel) (by decide +kernel), by decide +kernel, by decide⟩
theorem voX8_impossible : VOk nX8_impossible 8 := ⟨tb_in (i := 676) (by decide +kernel) (by decide +kernel), pv_in (i := 31) (by decide +kernel) (by decide +kernel), _, rfl, by decide +kernel⟩
def nX8_can : MN := (yX8_can, cX8_can, 3, (some .boolean))
theorem moX8_can : MOk nX8_can 1 := ⟨ini_X8, tb_in (i := 681) (by decide +kernel) (by decide +kernel), by decide +kernel, by decide⟩
theorem voX8_can : VOk nX8_can 8 := ⟨tb_in (i := 680) (by decide +kernel) (by decide +kernel), pv_in (i := 32) (by decide +kernel) (by decide +kernel), _, rfl, by decide +kernel⟩
def nX8_leastSum : MN := (yX8_leastSum, cX8_leastSum, 6, (some .int))
theorem moX8_leastSum : MOk nX8_leastSum 2 := ⟨ini_X8, tb_in (i := 685) (by decide +kernel) (by decide +kernel), by decide +kernel, by decide⟩
theorem voX8_leastSum : VOk nX8_leastSum 8 := ⟨tb_in (i := 684) (by decide +kernel) (by decide +kernel), pv_in (i := 33) (by decide +kernel) (by decide +kernel), _, rfl, by decide +kernel⟩
def nX8_byTwo : MN := (yX8_byTwo, cX8_byTwo, 7, (some .boolean))
theorem moX8_byTwo : MOk nX8_byTwo 1 := ⟨ini_X8, tb_in (i := 689) (by decide +kernel) (by decide +kernel), by decide +kernel, by decide⟩
theorem voX8_byTwo : VOk nX8_byTwo 8 := ⟨tb_in (i := 688) (by decide +kernel) (by decide +kernel), pv_in (i := 34) (by decide +kernel) (by decide +kernel), _, rfl, by decide +kernel⟩
def nX8_byCount : MN := (yX8_byCount, cX8_byCount, 5, (some .boolean))
theorem moX8_byCount : MOk nX8_byCount 1 := ⟨ini_X8, tb_in (i := 693) (by decide +kernel) (by decide +kernel), by decide +kernel, by decide⟩
theorem voX8_byCount : VOk nX8_byCount 8 := ⟨tb_in (i := 692) (by decide +kernel) (by decide +kernel), pv_in (i := 35) (by decide +kernel) (by decide +kernel), _, rfl, by decide +kernel⟩
def nX8_may : MN := (yX8_may, cX8_may, 3, (some .boolean))
theorem moX8_may : MOk nX8_may 2 := ⟨ini_X8, tb_in (i := 697) (by decide +kernel) (by decide +kernel), by decide +kernel, by decide⟩
theorem voX8_may : VOk nX8_may 8 := ⟨tb_in (i := 696) (by decide +kernel) (by decide +kernel), pv_in (i := 36) (by decide +kernel) (by decide +kernel), _, rfl, by decide +kernel⟩
def nX8_byThree : MN := (yX8_byThree, cX8_byThree, 8, (some .boolean))
theorem moX8_byThree : MOk nX8_byThree 1 := ⟨ini_X8, tb_in (i := 701) (by decide +kernel) (by decide +kernel), by decide +kernel, by decide⟩
theorem voX8_byThree : VOk nX8_byThree 8 := ⟨tb_in (i := 700) (by decide +kernel) (by decide +kernel), pv_in (i := 37) (by decide +kernel) (by decide +kernel), _, rfl, by decide +kernel⟩
def nX8_come : MN := (yX8_come, cX8_come, 3, (some .int))
theorem moX8_come : MOk nX8_come 3 := ⟨ini_X8, tb_in (i := 704) (by decide +kernel) (by decide +kernel), by decide +kernel, by decide⟩
theorem stX8_come : Cond.static nX8_come.1 ∈ gw := tb_in (i := 703) (by decide +kernel) (by decide +kernel)
def nX8_down : MN := (yX8_down, cX8_down, 3, (some .int))
theorem moX8_down : MOk nX8_down 2 := ⟨ini_X8, tb_in (i := 707) (by decide +kernel) (by decide +kernel), by decide +kernel, by decide⟩
theorem stX8_down : Cond.static nX8_down.1 ∈ gw := tb_in (i := 706) (by decide +kernel) (by decide +kernel)
def nX8_take : MN := (yX8_take, cX8_take, 10, none)
theorem moX8_take : MOk nX8_take 3 := ⟨ini_X8, tb_in (i := 711) (by decide +kernel) (by decide +kernel), by decide +kernel, by decide⟩
theorem voX8_take : VOk nX8_take 8 := ⟨tb_in (i := 710) (by decide +kernel) (by decide +kernel), pv_in (i := 38) (by decide +kernel) (by decide +kernel), _, rfl, by decide +kernel⟩
def nX8_setBound : MN := (yX8_setBound, cX8_setBound, 3, none)
theorem moX8_setBound : MOk nX8_setBound 2 := ⟨ini_X8, tb_in (i := 715) (by decide +kernel) (by decide +kernel), by decide +kernel, by decide⟩
theorem voX8_setBound : VOk nX8_setBound 8 := ⟨tb_in (i := 714) (by decide +kernel) (by decide +kernel), pv_in (i := 39) (by decide +kernel) (by decide +kernel), _, rfl, by decide +kernel⟩
def nX8_clash : MN := (yX8_clash, cX8_clash, 1, (some .int))
theorem moX8_clash : MOk nX8_clash 0 := ⟨ini_X8, tb_in (i := 719) (by decide +kernel) (by decide +kernel), by decide +kernel, by decide⟩
theorem voX8_clash : VOk nX8_clash 8 := ⟨tb_in (i := 717) (by decide +kernel) (by decide +kernel), tb_in (i := 718) (by decide +kernel) (by decide +kernel), _, rfl, by decide +kernel⟩
def nX8_has : MN := (yX8_has, cX8_has, 3, (some .int))
theorem moX8_has : MOk nX8_has 2 := ⟨ini_X8, tb_in (i := 723) (by decide +kernel) (by decide +kernel), by decide +kernel, by decide⟩
theorem voX8_has : VOk nX8_has 8 := ⟨tb_in (i := 721) (by decide +kernel) (by decide +kernel), tb_in (i := 722) (by decide +kernel) (by decide +kernel), _, rfl, by decide +kernel⟩
def nX8_end : MN := (yX8_end, cX8_end, 3, (some .int))
theorem moX8_end : MOk nX8_end 2 := ⟨ini_X8, tb_in (i := 727) (by decide +kernel) (by decide +kernel), by decide +kernel, by decide⟩
theorem voX8_end : VOk nX8_end 8 := ⟨tb_in (i := 725) (by decide +kernel) (by decide +kernel), tb_in (i := 726) (by decide +kernel) (by decide +kernel), _, rfl, by decide +kernel⟩
def nX8_size : MN := (yX8_size, cX8_size, 2, (some .int))
theorem moX8_size : MOk nX8_size 1 := ⟨ini_X8, tb_in (i := 731) (by decide +kernel) (by decide +kernel), by decide +kernel, by decide⟩
theorem voX8_size : VOk nX8_size 8 := ⟨tb_in (i := 729) (by decide +kernel) (by decide +kernel), tb_in (i := 730) (by decide +kernel) (by decide +kernel), _, rfl, by decide +kernel⟩
def nX8_steps : MN := (yX8_steps, cX8_steps, 1, (some .int))
theorem moX8_steps : MOk nX8_steps 0 := ⟨ini_X8, tb_in (i := 735) (by decide +kernel) (by decide +kernel), by decide +kernel, by decide⟩
theorem voX8_steps : VOk nX8_steps 8 := ⟨tb_in (i := 733) (by decide +kernel) (by decide +kernel), tb_in (i := 734) (by decide +kernel) (by decide +kernel), _, rfl, by decide +kernel⟩
def nX8_step : MN := (yX8_step, cX8_step, 3, (some .int))
theorem moX8_step : MOk nX8_step 2 := ⟨ini_X8, tb_in (i := 739) (by decide +kernel) (by decide +kernel), by decide +kernel, by decide⟩
theorem voX8_step : VOk nX8_step 8 := ⟨tb_in (i := 737) (by decide +kernel) (by decide +kernel), tb_in (i := 738) (by decide +kernel) (by decide +kernel), _, rfl, by decide +kernel⟩
def nX8_reason : MN := (yX8_reason, cX8_reason, 4, (some .int))
theorem moX8_reason : MOk nX8_reason 1 := ⟨ini_X8, tb_in (i := 743) (by decide +kernel) (by decide +kernel), by decide +kernel, by decide⟩
theorem voX8_reason : VOk nX8_reason 8 := ⟨tb_in (i := 741) (by decide +kernel) (by decide +kernel), tb_in (i := 742) (by decide +kernel) (by decide +kernel), _, rfl, by decide +kernel⟩
def nX8_part : MN := (yX8_part, cX8_part, 4, (some .int))
theorem moX8_part : MOk nX8_part 2 := ⟨ini_X8, tb_in (i := 747) (by decide +kernel) (by decide +kernel), by decide +kernel, by decide⟩
theorem voX8_part : VOk nX8_part 8 := ⟨tb_in (i := 745) (by decide +kernel) (by decide +kernel), tb_in (i := 746) (by decide +kernel) (by decide +kernel), _, rfl, by decide +kernel⟩
def nX8_placeOf : MN := (yX8_placeOf, cX8_placeOf, 5, (some .int))
theorem moX8_placeOf : MOk nX8_placeOf 2 := ⟨ini_X8, tb_in (i := 751) (by decide +kernel) (by decide +kernel), by decide +kernel, by decide⟩
theorem voX8_placeOf : VOk nX8_placeOf 8 := ⟨tb_in (i := 750) (by decide +kernel) (by decide +kernel), pv_in (i := 40) (by decide +kernel) (by decide +kernel), _, rfl, by decide +kernel⟩
def nX8_told : MN := (yX8_told, cX8_told, 4, (some .int))
theorem moX8_told : MOk nX8_told 2 := ⟨ini_X8, tb_in (i := 755) (by decide +kernel) (by decide +kernel), by decide +kernel, by decide⟩
theorem voX8_told : VOk nX8_told 8 := ⟨tb_in (i := 753) (by decide +kernel) (by decide +kernel), tb_in (i := 754) (by decide +kernel) (by decide +kernel), _, rfl, by decide +kernel⟩
def nX8_plans : MN := (yX8_plans, cX8_plans, 6, (some .int))
theorem moX8_plans : MOk nX8_plans 0 := ⟨ini_X8, tb_in (i := 759) (by decide +kernel) (by decide +kernel), by decide +kernel, by decide⟩
theorem voX8_plans : VOk nX8_plans 8 := ⟨tb_in (i := 757) (by decide +kernel) (by decide +kernel), tb_in (i := 758) (by decide +kernel) (by decide +kernel), _, rfl, by decide +kernel⟩
def nX8_holds : MN := (yX8_holds, cX8_holds, 3, (some .boolean))
theorem moX8_holds : MOk nX8_holds 1 := ⟨ini_X8, tb_in (i := 763) (by decide +kernel) (by decide +kernel), by decide +kernel, by decide⟩
theorem voX8_holds : VOk nX8_holds 8 := ⟨tb_in (i := 762) (by decide +kernel) (by decide +kernel), pv_in (i := 41) (by decide +kernel) (by decide +kernel), _, rfl, by decide +kernel⟩
def nX8_nextPlan : MN := (yX8_nextPlan, cX8_nextPlan, 3, (some .boolean))
theorem moX8_nextPlan : MOk nX8_nextPlan 0 := ⟨ini_X8, tb_in (i := 767) (by decide +kernel) (by decide +kernel), by decide +kernel, by decide⟩
theorem voX8_nextPlan : VOk nX8_nextPlan 8 := ⟨tb_in (i := 766) (by decide +kernel) (by decide +kernel), pv_in (i := 42) (by decide +kernel) (by decide +kernel), _, rfl, by decide +kernel⟩
theorem lk_L_9 : Cond.methodLink RL 9 nX7_init.1 ∈ gw := tb_in (i := 16) (by decide +kernel) (by decide +kernel)
theorem lk_X7_1 : Cond.methodLink RX7 1 objectInit ∈ gw := tb_in (i := 19) (by decide +kernel) (by decide +kernel)
theorem lk_X7_9 : Cond.methodLinkNest RX7 9 nX3_init.1 "LinearReach" ∈ nw := tb_nw (i := 24) (by decide +kernel) (by decide +kernel)
theorem lk_X3_3 : Cond.methodLink RX3 3 objectInit ∈ gw := tb_in (i := 27) (by decide +kernel) (by decide +kernel)
theorem lk_X3_24 : Cond.methodLinkNest RX3 24 nX5_init.1 "LinearReach" ∈ nw := tb_nw (i := 30) (by decide +kernel) (by decide +kernel)
theorem lk_X5_3 : Cond.methodLink RX5 3 objectInit ∈ gw := tb_in (i := 33) (by decide +kernel) (by decide +kernel)
theorem lk_X7_18 : Cond.methodLink RX7 18 nX2_init.1 ∈ gw := tb_in (i := 77) (by decide +kernel) (by decide +kernel)
theorem lk_X2_3 : Cond.methodLink RX2 3 objectInit ∈ gw := tb_in (i := 80) (by decide +kernel) (by decide +kernel)
theorem lk_X2_21 : Cond.methodLinkNest RX2 21 nX1_init.1 "LinearReach" ∈ nw := tb_nw (i := 84) (by decide +kernel) (by decide +kernel)
theorem lk_X1_3 : Cond.methodLink RX1 3 objectInit ∈ gw := tb_in (i := 87) (by decide +kernel) (by decide +kernel)
theorem lk_X7_25 : Cond.methodLinkNest RX7 25 nX6_init.1 "LinearReach" ∈ nw := tb_nw (i := 124) (by decide +kernel) (by decide +kernel)
theorem lk_X6_3 : Cond.methodLink RX6 3 objectInit ∈ gw := tb_in (i := 127) (by decide +kernel) (by decide +kernel)
theorem lk_X7_32 : Cond.methodLink RX7 32 nX4_init.1 ∈ gw := tb_in (i := 155) (by decide +kernel) (by decide +kernel)
theorem lk_X4_3 : Cond.methodLink RX4 3 objectInit ∈ gw := tb_in (i := 158) (by decide +kernel) (by decide +kernel)
theorem lk_X4_20 : Cond.methodLinkNest RX4 20 nX5_init.1 "LinearReach" ∈ nw := tb_nw (i := 160) (by decide +kernel) (by decide +kernel)
theorem lk_X7_41 : Cond.methodLink RX7 41 nX0_init.1 ∈ gw := tb_in (i := 183) (by decide +kernel) (by decide +kernel)
theorem lk_X0_3 : Cond.methodLink RX0 3 objectInit ∈ gw := tb_in (i := 186) (by decide +kernel) (by decide +kernel)
theorem lk_L_13 : Cond.methodLink RL 13 nX7_name.1 ∈ gw := tb_in (i := 216) (by decide +kernel) (by decide +kernel)
theorem lk_X7_48 : Cond.methodLink RX7 48 nX7_isNumber.1 ∈ gw := tb_in (i := 220) (by decide +kernel) (by decide +kernel)
theorem lk_X7_56 : Cond.methodLink RX7 56 nX3_add.1 ∈ gw := tb_in (i := 223) (by decide +kernel) (by decide +kernel)
theorem lk_X3_34 : Cond.methodLink RX3 34 nX5_fit.1 ∈ gw := tb_in (i := 228) (by decide +kernel) (by decide +kernel)
theorem lk_X5_18 : Cond.methodLinkNest RX5 18 nX7_leastOf.1 "LinearReach" ∈ nw := tb_nw (i := 232) (by decide +kernel) (by decide +kernel)
theorem lk_X7_190 : Cond.methodLink RX7 190 nJ13_numberOfTrailingZeros_95d88.1 ∈ gw := tb_in (i := 235) (by decide +kernel) (by decide +kernel)
theorem lk_J13_311 : Cond.methodLink RJ13 311 nJ6_numberOfTrailingZeros_0f7a4.1 ∈ gw := tb_in (i := 238) (by decide +kernel) (by decide +kernel)
theorem lk_X5_22 : Cond.methodLinkNest RX5 22 nX7_mostOf.1 "LinearReach" ∈ nw := tb_nw (i := 242) (by decide +kernel) (by decide +kernel)
theorem lk_X7_193 : Cond.methodLink RX7 193 nJ13_numberOfLeadingZeros_95d88.1 ∈ gw := tb_in (i := 245) (by decide +kernel) (by decide +kernel)
theorem lk_J13_308 : Cond.methodLink RJ13 308 nJ6_numberOfLeadingZeros_0f7a4.1 ∈ gw := tb_in (i := 248) (by decide +kernel) (by decide +kernel)
theorem lk_X7_60 : Cond.methodLink RX7 60 nX7_beginAnew.1 ∈ gw := tb_in (i := 251) (by decide +kernel) (by decide +kernel)
theorem lk_X7_184 : Cond.methodLink RX7 184 nX3_restore.1 ∈ gw := tb_in (i := 255) (by decide +kernel) (by decide +kernel)
theorem lk_X3_42 : Cond.methodLink RX3 42 arraycopyName ∈ gw := tb_in (i := 259) (by decide +kernel) (by decide +kernel)
theorem lk_X3_48 : Cond.methodLink RX3 48 nX5_copy.1 ∈ gw := tb_in (i := 262) (by decide +kernel) (by decide +kernel)
theorem lk_X5_25 : Cond.methodLink RX5 25 arraycopyName ∈ gw := tb_in (i := 266) (by decide +kernel) (by decide +kernel)
theorem lk_X7_187 : Cond.methodLink RX7 187 nX4_forget.1 ∈ gw := tb_in (i := 267) (by decide +kernel) (by decide +kernel)
theorem lk_L_18 : Cond.methodLink RL 18 nX7_leave.1 ∈ gw := tb_in (i := 271) (by decide +kernel) (by decide +kernel)
theorem lk_X7_63 : Cond.methodLink RX7 63 nX7_isName.1 ∈ gw := tb_in (i := 275) (by decide +kernel) (by decide +kernel)
theorem lk_X7_70 : Cond.methodLink RX7 70 nX7_bitOf.1 ∈ gw := tb_in (i := 279) (by decide +kernel) (by decide +kernel)
theorem lk_X7_74 : Cond.methodLink RX7 74 nX3_leaveOut.1 ∈ gw := tb_in (i := 282) (by decide +kernel) (by decide +kernel)
theorem lk_X3_38 : Cond.methodLinkNest RX3 38 nX7_bitOf.1 "LinearReach" ∈ nw := tb_nw (i := 286) (by decide +kernel) (by decide +kernel)
theorem lk_X7_77 : Cond.methodLink RX7 77 nX7_hasBit.1 ∈ gw := tb_in (i := 287) (by decide +kernel) (by decide +kernel)
theorem lk_L_22 : Cond.methodLink RL 22 nX7_row.1 ∈ gw := tb_in (i := 290) (by decide +kernel) (by decide +kernel)
theorem lk_X7_85 : Cond.methodLink RX7 85 nX7_areDifferentNames.1 ∈ gw := tb_in (i := 296) (by decide +kernel) (by decide +kernel)
theorem lk_X7_94 : Cond.methodLink RX7 94 nX1_become.1 ∈ gw := tb_in (i := 300) (by decide +kernel) (by decide +kernel)
theorem lk_X7_99 : Cond.methodLink RX7 99 nX1_tie.1 ∈ gw := tb_in (i := 304) (by decide +kernel) (by decide +kernel)
theorem lk_L_27 : Cond.methodLink RL 27 nX7_factor.1 ∈ gw := tb_in (i := 308) (by decide +kernel) (by decide +kernel)
theorem lk_X7_103 : Cond.methodLink RX7 103 nX7_isRow.1 ∈ gw := tb_in (i := 312) (by decide +kernel) (by decide +kernel)
theorem lk_X7_106 : Cond.methodLink RX7 106 nX1_hasFactors.1 ∈ gw := tb_in (i := 316) (by decide +kernel) (by decide +kernel)
theorem lk_L_32 : Cond.methodLink RL 32 nX7_clear.1 ∈ gw := tb_in (i := 320) (by decide +kernel) (by decide +kernel)
theorem lk_L_37 : Cond.methodLink RL 37 nX7_run.1 ∈ gw := tb_in (i := 324) (by decide +kernel) (by decide +kernel)
theorem lk_X7_120 : Cond.methodLink RX7 120 nX4_doOne.1 ∈ gw := tb_in (i := 328) (by decide +kernel) (by decide +kernel)
theorem lk_X4_49 : Cond.methodLink RX4 49 nX1_isAbout.1 ∈ gw := tb_in (i := 332) (by decide +kernel) (by decide +kernel)
theorem lk_X4_55 : Cond.methodLink RX4 55 nX4_sift.1 ∈ gw := tb_in (i := 336) (by decide +kernel) (by decide +kernel)
theorem lk_X4_62 : Cond.methodLink RX4 62 nX1_endOfOthers.1 ∈ gw := tb_in (i := 340) (by decide +kernel) (by decide +kernel)
theorem lk_X1_75 : Cond.methodLink RX1 75 nX5_covers.1 ∈ gw := tb_in (i := 344) (by decide +kernel) (by decide +kernel)
theorem lk_X1_93 : Cond.methodLink RX1 93 nX5_isOnly.1 ∈ gw := tb_in (i := 348) (by decide +kernel) (by decide +kernel)
theorem lk_X4_77 : Cond.methodLinkNest RX4 77 nX7_hasBit.1 "LinearReach" ∈ nw := tb_nw (i := 352) (by decide +kernel) (by decide +kernel)
theorem lk_X4_81 : Cond.methodLink RX4 81 nX1_allows.1 ∈ gw := tb_in (i := 353) (by decide +kernel) (by decide +kernel)
theorem lk_X1_58 : Cond.methodLink RX1 58 nX1_allowsProduct.1 ∈ gw := tb_in (i := 357) (by decide +kernel) (by decide +kernel)
theorem lk_X1_62 : Cond.methodLink RX1 62 nX1_allowsMultiplier.1 ∈ gw := tb_in (i := 361) (by decide +kernel) (by decide +kernel)
theorem lk_X1_45 : Cond.methodLink RX1 45 nJ9_abs_0f7a4.1 ∈ gw := tb_in (i := 365) (by decide +kernel) (by decide +kernel)
theorem lk_X1_39 : Cond.methodLink RX1 39 nJ9_floorDiv_7cf53.1 ∈ gw := tb_in (i := 368) (by decide +kernel) (by decide +kernel)
theorem lk_X1_106 : Cond.methodLink RX1 106 nX5_meets.1 ∈ gw := tb_in (i := 371) (by decide +kernel) (by decide +kernel)
theorem lk_X5_31 : Cond.methodLink RX5 31 nJ9_max_7cf53.1 ∈ gw := tb_in (i := 375) (by decide +kernel) (by decide +kernel)
theorem lk_X5_37 : Cond.methodLink RX5 37 nJ9_min_7cf53.1 ∈ gw := tb_in (i := 378) (by decide +kernel) (by decide +kernel)
theorem lk_X1_66 : Cond.methodLink RX1 66 nX1_allowsQuotient.1 ∈ gw := tb_in (i := 381) (by decide +kernel) (by decide +kernel)
theorem lk_X1_69 : Cond.methodLink RX1 69 nX1_allowsDividend.1 ∈ gw := tb_in (i := 385) (by decide +kernel) (by decide +kernel)
theorem lk_X1_72 : Cond.methodLink RX1 72 nX1_allowsDivisor.1 ∈ gw := tb_in (i := 389) (by decide +kernel) (by decide +kernel)
theorem lk_X1_52 : Cond.methodLink RX1 52 nJ9_min_7cf53.1 ∈ gw := tb_in (i := 393) (by decide +kernel) (by decide +kernel)
theorem lk_X1_49 : Cond.methodLink RX1 49 nJ9_max_7cf53.1 ∈ gw := tb_in (i := 394) (by decide +kernel) (by decide +kernel)
theorem lk_X1_81 : Cond.methodLink RX1 81 nX1_allowsGreatest.1 ∈ gw := tb_in (i := 395) (by decide +kernel) (by decide +kernel)
theorem lk_X1_84 : Cond.methodLink RX1 84 nX1_allowsBesideGreatest.1 ∈ gw := tb_in (i := 399) (by decide +kernel) (by decide +kernel)
theorem lk_X1_87 : Cond.methodLink RX1 87 nX1_allowsLeast.1 ∈ gw := tb_in (i := 403) (by decide +kernel) (by decide +kernel)
theorem lk_X1_90 : Cond.methodLink RX1 90 nX1_allowsBesideLeast.1 ∈ gw := tb_in (i := 407) (by decide +kernel) (by decide +kernel)
theorem lk_X1_96 : Cond.methodLink RX1 96 nX1_allowsInCount.1 ∈ gw := tb_in (i := 411) (by decide +kernel) (by decide +kernel)
theorem lk_X4_85 : Cond.methodLink RX4 85 nX4_findReason.1 ∈ gw := tb_in (i := 415) (by decide +kernel) (by decide +kernel)
theorem lk_X4_98 : Cond.methodLink RX4 98 nX5_copy.1 ∈ gw := tb_in (i := 419) (by decide +kernel) (by decide +kernel)
theorem lk_X4_105 : Cond.methodLink RX4 105 nX5_copyPart.1 ∈ gw := tb_in (i := 420) (by decide +kernel) (by decide +kernel)
theorem lk_X4_89 : Cond.methodLink RX4 89 nX6_add.1 ∈ gw := tb_in (i := 424) (by decide +kernel) (by decide +kernel)
theorem lk_X4_95 : Cond.methodLink RX4 95 nX3_takeOut.1 ∈ gw := tb_in (i := 428) (by decide +kernel) (by decide +kernel)
theorem lk_L_41 : Cond.methodLink RL 41 nX7_clash.1 ∈ gw := tb_in (i := 432) (by decide +kernel) (by decide +kernel)
theorem lk_L_45 : Cond.methodLink RL 45 nX7_has.1 ∈ gw := tb_in (i := 436) (by decide +kernel) (by decide +kernel)
theorem lk_L_49 : Cond.methodLink RL 49 nX7_end.1 ∈ gw := tb_in (i := 440) (by decide +kernel) (by decide +kernel)
theorem lk_X7_127 : Cond.methodLink RX7 127 nX7_mostOf.1 ∈ gw := tb_in (i := 444) (by decide +kernel) (by decide +kernel)
theorem lk_X7_131 : Cond.methodLink RX7 131 nX7_leastOf.1 ∈ gw := tb_in (i := 445) (by decide +kernel) (by decide +kernel)
theorem lk_L_54 : Cond.methodLink RL 54 nX7_size.1 ∈ gw := tb_in (i := 446) (by decide +kernel) (by decide +kernel)
theorem lk_X7_134 : Cond.methodLink RX7 134 nJ13_bitCount_95d88.1 ∈ gw := tb_in (i := 450) (by decide +kernel) (by decide +kernel)
theorem lk_L_59 : Cond.methodLink RL 59 nX7_steps.1 ∈ gw := tb_in (i := 456) (by decide +kernel) (by decide +kernel)
theorem lk_L_63 : Cond.methodLink RL 63 nX7_step.1 ∈ gw := tb_in (i := 460) (by decide +kernel) (by decide +kernel)
theorem lk_X7_139 : Cond.methodLink RX7 139 nX7_isStep.1 ∈ gw := tb_in (i := 464) (by decide +kernel) (by decide +kernel)
theorem lk_L_67 : Cond.methodLink RL 67 nX7_reason.1 ∈ gw := tb_in (i := 468) (by decide +kernel) (by decide +kernel)
theorem lk_X7_157 : Cond.methodLink RX7 157 nJ6_bitCount_0f7a4.1 ∈ gw := tb_in (i := 472) (by decide +kernel) (by decide +kernel)
theorem lk_L_71 : Cond.methodLink RL 71 nX7_part.1 ∈ gw := tb_in (i := 478) (by decide +kernel) (by decide +kernel)
theorem lk_X7_162 : Cond.methodLink RX7 162 nX7_isPart.1 ∈ gw := tb_in (i := 482) (by decide +kernel) (by decide +kernel)
theorem lk_X7_166 : Cond.methodLink RX7 166 nX6_partAt.1 ∈ gw := tb_in (i := 486) (by decide +kernel) (by decide +kernel)
theorem lk_L_75 : Cond.methodLink RL 75 nX7_told.1 ∈ gw := tb_in (i := 490) (by decide +kernel) (by decide +kernel)
theorem lk_X7_170 : Cond.methodLink RX7 170 nX6_without.1 ∈ gw := tb_in (i := 494) (by decide +kernel) (by decide +kernel)
theorem lk_X6_31 : Cond.methodLinkNest RX6 31 nX7_bitOf.1 "LinearReach" ∈ nw := tb_nw (i := 498) (by decide +kernel) (by decide +kernel)
theorem lk_L_79 : Cond.methodLink RL 79 nX7_plans.1 ∈ gw := tb_in (i := 500) (by decide +kernel) (by decide +kernel)
theorem lk_X7_174 : Cond.methodLink RX7 174 nX3_choices.1 ∈ gw := tb_in (i := 504) (by decide +kernel) (by decide +kernel)
theorem lk_X3_52 : Cond.methodLink RX3 52 nJ13_bitCount_95d88.1 ∈ gw := tb_in (i := 508) (by decide +kernel) (by decide +kernel)
theorem lk_X7_180 : Cond.methodLink RX7 180 nX0_countAll.1 ∈ gw := tb_in (i := 510) (by decide +kernel) (by decide +kernel)
theorem lk_X0_36 : Cond.methodLink RX0 36 nX1_lastName.1 ∈ gw := tb_in (i := 514) (by decide +kernel) (by decide +kernel)
theorem lk_X1_31 : Cond.methodLink RX1 31 nX1_isAbout.1 ∈ gw := tb_in (i := 518) (by decide +kernel) (by decide +kernel)
theorem lk_X0_42 : Cond.methodLink RX0 42 nX0_rowsHoldWith.1 ∈ gw := tb_in (i := 519) (by decide +kernel) (by decide +kernel)
theorem lk_X0_73 : Cond.methodLink RX0 73 nX1_holds.1 ∈ gw := tb_in (i := 523) (by decide +kernel) (by decide +kernel)
theorem lk_X1_35 : Cond.methodLink RX1 35 nX1_sumOf.1 ∈ gw := tb_in (i := 527) (by decide +kernel) (by decide +kernel)
theorem lk_X1_55 : Cond.methodLink RX1 55 nX1_countOf.1 ∈ gw := tb_in (i := 531) (by decide +kernel) (by decide +kernel)
theorem lk_X0_46 : Cond.methodLink RX0 46 nX0_countFrom.1 ∈ gw := tb_in (i := 535) (by decide +kernel) (by decide +kernel)
theorem lk_X0_69 : Cond.methodLinkNest RX0 69 nX7_hasBit.1 "LinearReach" ∈ nw := tb_nw (i := 539) (by decide +kernel) (by decide +kernel)
theorem lk_L_12 : Cond.methodLink RL 12 nX8_init.1 ∈ gw := tb_in (i := 542) (by decide +kernel) (by decide +kernel)
theorem lk_X8_1 : Cond.methodLink RX8 1 objectInit ∈ gw := tb_in (i := 545) (by decide +kernel) (by decide +kernel)
theorem lk_L_17 : Cond.methodLink RL 17 nX8_name.1 ∈ gw := tb_in (i := 605) (by decide +kernel) (by decide +kernel)
theorem lk_X8_60 : Cond.methodLink RX8 60 nX8_in.1 ∈ gw := tb_in (i := 609) (by decide +kernel) (by decide +kernel)
theorem lk_X8_73 : Cond.methodLink RX8 73 nX8_anew.1 ∈ gw := tb_in (i := 612) (by decide +kernel) (by decide +kernel)
theorem lk_L_21 : Cond.methodLink RL 21 nX8_leave.1 ∈ gw := tb_in (i := 616) (by decide +kernel) (by decide +kernel)
theorem lk_X8_76 : Cond.methodLink RX8 76 nX8_isName.1 ∈ gw := tb_in (i := 620) (by decide +kernel) (by decide +kernel)
theorem lk_X8_80 : Cond.methodLink RX8 80 nX8_many.1 ∈ gw := tb_in (i := 624) (by decide +kernel) (by decide +kernel)
theorem lk_L_26 : Cond.methodLink RL 26 nX8_row.1 ∈ gw := tb_in (i := 628) (by decide +kernel) (by decide +kernel)
theorem lk_X8_84 : Cond.methodLink RX8 84 nX8_owns.1 ∈ gw := tb_in (i := 632) (by decide +kernel) (by decide +kernel)
theorem lk_L_31 : Cond.methodLink RL 31 nX8_factor.1 ∈ gw := tb_in (i := 635) (by decide +kernel) (by decide +kernel)
theorem lk_X8_88 : Cond.methodLink RX8 88 nX8_isRow.1 ∈ gw := tb_in (i := 639) (by decide +kernel) (by decide +kernel)
theorem lk_X8_91 : Cond.methodLink RX8 91 nX8_hasFactors.1 ∈ gw := tb_in (i := 643) (by decide +kernel) (by decide +kernel)
theorem lk_L_36 : Cond.methodLink RL 36 nX8_clear.1 ∈ gw := tb_in (i := 646) (by decide +kernel) (by decide +kernel)
theorem lk_L_40 : Cond.methodLink RL 40 nX8_run.1 ∈ gw := tb_in (i := 650) (by decide +kernel) (by decide +kernel)
theorem lk_X8_137 : Cond.methodLink RX8 137 nX8_bounds.1 ∈ gw := tb_in (i := 654) (by decide +kernel) (by decide +kernel)
theorem lk_X8_121 : Cond.methodLink RX8 121 nX8_least.1 ∈ gw := tb_in (i := 658) (by decide +kernel) (by decide +kernel)
theorem lk_X8_124 : Cond.methodLink RX8 124 nX8_most.1 ∈ gw := tb_in (i := 662) (by decide +kernel) (by decide +kernel)
theorem lk_X8_144 : Cond.methodLink RX8 144 nX8_byRow.1 ∈ gw := tb_in (i := 666) (by decide +kernel) (by decide +kernel)
theorem lk_X8_127 : Cond.methodLink RX8 127 nX8_isAbout.1 ∈ gw := tb_in (i := 670) (by decide +kernel) (by decide +kernel)
theorem lk_X8_134 : Cond.methodLink RX8 134 nX8_impossible.1 ∈ gw := tb_in (i := 674) (by decide +kernel) (by decide +kernel)
theorem lk_X8_118 : Cond.methodLink RX8 118 nX8_can.1 ∈ gw := tb_in (i := 678) (by decide +kernel) (by decide +kernel)
theorem lk_X8_106 : Cond.methodLink RX8 106 nX8_leastSum.1 ∈ gw := tb_in (i := 682) (by decide +kernel) (by decide +kernel)
theorem lk_X8_109 : Cond.methodLink RX8 109 nX8_byTwo.1 ∈ gw := tb_in (i := 686) (by decide +kernel) (by decide +kernel)
theorem lk_X8_112 : Cond.methodLink RX8 112 nX8_byCount.1 ∈ gw := tb_in (i := 690) (by decide +kernel) (by decide +kernel)
theorem lk_X8_102 : Cond.methodLink RX8 102 nX8_may.1 ∈ gw := tb_in (i := 694) (by decide +kernel) (by decide +kernel)
theorem lk_X8_115 : Cond.methodLink RX8 115 nX8_byThree.1 ∈ gw := tb_in (i := 698) (by decide +kernel) (by decide +kernel)
theorem lk_X8_98 : Cond.methodLink RX8 98 nX8_come.1 ∈ gw := tb_in (i := 702) (by decide +kernel) (by decide +kernel)
theorem lk_X8_94 : Cond.methodLink RX8 94 nX8_down.1 ∈ gw := tb_in (i := 705) (by decide +kernel) (by decide +kernel)
theorem lk_X8_140 : Cond.methodLink RX8 140 nX8_take.1 ∈ gw := tb_in (i := 708) (by decide +kernel) (by decide +kernel)
theorem lk_X8_130 : Cond.methodLink RX8 130 nX8_setBound.1 ∈ gw := tb_in (i := 712) (by decide +kernel) (by decide +kernel)
theorem lk_L_44 : Cond.methodLink RL 44 nX8_clash.1 ∈ gw := tb_in (i := 716) (by decide +kernel) (by decide +kernel)
theorem lk_L_48 : Cond.methodLink RL 48 nX8_has.1 ∈ gw := tb_in (i := 720) (by decide +kernel) (by decide +kernel)
theorem lk_L_53 : Cond.methodLink RL 53 nX8_end.1 ∈ gw := tb_in (i := 724) (by decide +kernel) (by decide +kernel)
theorem lk_L_58 : Cond.methodLink RL 58 nX8_size.1 ∈ gw := tb_in (i := 728) (by decide +kernel) (by decide +kernel)
theorem lk_L_62 : Cond.methodLink RL 62 nX8_steps.1 ∈ gw := tb_in (i := 732) (by decide +kernel) (by decide +kernel)
theorem lk_L_66 : Cond.methodLink RL 66 nX8_step.1 ∈ gw := tb_in (i := 736) (by decide +kernel) (by decide +kernel)
theorem lk_L_70 : Cond.methodLink RL 70 nX8_reason.1 ∈ gw := tb_in (i := 740) (by decide +kernel) (by decide +kernel)
theorem lk_L_74 : Cond.methodLink RL 74 nX8_part.1 ∈ gw := tb_in (i := 744) (by decide +kernel) (by decide +kernel)
theorem lk_X8_148 : Cond.methodLink RX8 148 nX8_placeOf.1 ∈ gw := tb_in (i := 748) (by decide +kernel) (by decide +kernel)
theorem lk_L_78 : Cond.methodLink RL 78 nX8_told.1 ∈ gw := tb_in (i := 752) (by decide +kernel) (by decide +kernel)
theorem lk_L_82 : Cond.methodLink RL 82 nX8_plans.1 ∈ gw := tb_in (i := 756) (by decide +kernel) (by decide +kernel)
theorem lk_X8_151 : Cond.methodLink RX8 151 nX8_holds.1 ∈ gw := tb_in (i := 760) (by decide +kernel) (by decide +kernel)
theorem lk_X8_154 : Cond.methodLink RX8 154 nX8_nextPlan.1 ∈ gw := tb_in (i := 764) (by decide +kernel) (by decide +kernel)
theorem stM_max : Cond.static Lib.Math.max.name ∈ gw := tb_in (i := 376) (by decide +kernel) (by decide +kernel)
theorem cdM_max : Cond.code Lib.Math.max.name Lib.Math.max.code 2 (some .int) ∈ gw := tb_in (i := 377) (by decide +kernel) (by decide +kernel)
theorem stM_min : Cond.static Lib.Math.min.name ∈ gw := tb_in (i := 379) (by decide +kernel) (by decide +kernel)
theorem cdM_min : Cond.code Lib.Math.min.name Lib.Math.min.code 2 (some .int) ∈ gw := tb_in (i := 380) (by decide +kernel) (by decide +kernel)
theorem stM_abs : Cond.static Lib.Math.abs.name ∈ gw := tb_in (i := 366) (by decide +kernel) (by decide +kernel)
theorem cdM_abs : Cond.code Lib.Math.abs.name Lib.Math.abs.code 1 (some .int) ∈ gw := tb_in (i := 367) (by decide +kernel) (by decide +kernel)
theorem ntM_copy : Cond.native arraycopyName ∈ gw := tb_in (i := 261) (by decide +kernel) (by decide +kernel)
theorem stM_copy : Cond.static arraycopyName ∈ gw := tb_in (i := 260) (by decide +kernel) (by decide +kernel)
theorem iniM : Cond.initialized "java/lang/Math" ∈ gw := tb_in (i := 13) (by decide +kernel) (by decide +kernel)
theorem iniS : Cond.initialized "java/lang/System" ∈ gw := tb_in (i := 12) (by decide +kernel) (by decide +kernel)
theorem kt_X3_32 : Cond.constantLong RX3 32 (-1) ∈ gw := tb_in (i := 227) (by decide +kernel) (by decide +kernel)
theorem kt_J6_264 : Cond.constant RJ6 264 (65536) ∈ gw := tb_in (i := 241) (by decide +kernel) (by decide +kernel)
theorem kt_J13_314 : Cond.constantLong RJ13 314 (6148914691236517205) ∈ gw := tb_in (i := 453) (by decide +kernel) (by decide +kernel)
theorem kt_J13_316 : Cond.constantLong RJ13 316 (3689348814741910323) ∈ gw := tb_in (i := 454) (by decide +kernel) (by decide +kernel)
theorem kt_J13_318 : Cond.constantLong RJ13 318 (1085102592571150095) ∈ gw := tb_in (i := 455) (by decide +kernel) (by decide +kernel)
theorem kt_J6_265 : Cond.constant RJ6 265 (1431655765) ∈ gw := tb_in (i := 475) (by decide +kernel) (by decide +kernel)
theorem kt_J6_266 : Cond.constant RJ6 266 (858993459) ∈ gw := tb_in (i := 476) (by decide +kernel) (by decide +kernel)
theorem kt_J6_267 : Cond.constant RJ6 267 (252645135) ∈ gw := tb_in (i := 477) (by decide +kernel) (by decide +kernel)
theorem kt_X6_35 : Cond.constantLong RX6 35 (-1) ∈ gw := tb_in (i := 499) (by decide +kernel) (by decide +kernel)
theorem kt_X7_178 : Cond.constantLong RX7 178 (4000) ∈ gw := tb_in (i := 509) (by decide +kernel) (by decide +kernel)
theorem in_l0 : ∀ j, j < 4 → u_lay RX0 TX0 j ∈ gw
  | 0, _ => tb_in (i := 191) (by decide +kernel) (by decide +kernel)
  | 1, _ => tb_in (i := 193) (by decide +kernel) (by decide +kernel)
  | 2, _ => tb_in (i := 195) (by decide +kernel) (by decide +kernel)
  | 3, _ => tb_in (i := 197) (by decide +kernel) (by decide +kernel)
  | j + 4, h => by omega
theorem in_X0 : ∀ w ∈ u_ws RX0 TX0 4, w ∈ gw := by
  intro w hw
  obtain ⟨j, hj, rfl⟩ := List.mem_map.mp hw
  exact in_l0 j (List.mem_range.mp hj)
theorem in_l1 : ∀ j, j < 6 → u_lay RX1 TX1 j ∈ gw
  | 0, _ => tb_in (i := 96) (by decide +kernel) (by decide +kernel)
  | 1, _ => tb_in (i := 98) (by decide +kernel) (by decide +kernel)
  | 2, _ => tb_in (i := 100) (by decide +kernel) (by decide +kernel)
  | 3, _ => tb_in (i := 102) (by decide +kernel) (by decide +kernel)
  | 4, _ => tb_in (i := 104) (by decide +kernel) (by decide +kernel)
  | 5, _ => tb_in (i := 106) (by decide +kernel) (by decide +kernel)
  | j + 6, h => by omega
theorem in_X1 : ∀ w ∈ u_ws RX1 TX1 6, w ∈ gw := by
  intro w hw
  obtain ⟨j, hj, rfl⟩ := List.mem_map.mp hw
  exact in_l1 j (List.mem_range.mp hj)
theorem in_l2 : ∀ j, j < 2 → u_lay RX2 TX2 j ∈ gw
  | 0, _ => tb_in (i := 117) (by decide +kernel) (by decide +kernel)
  | 1, _ => tb_in (i := 119) (by decide +kernel) (by decide +kernel)
  | j + 2, h => by omega
theorem in_X2 : ∀ w ∈ u_ws RX2 TX2 2, w ∈ gw := by
  intro w hw
  obtain ⟨j, hj, rfl⟩ := List.mem_map.mp hw
  exact in_l2 j (List.mem_range.mp hj)
theorem in_l3 : ∀ j, j < 5 → u_lay RX3 TX3 j ∈ gw
  | 0, _ => tb_in (i := 64) (by decide +kernel) (by decide +kernel)
  | 1, _ => tb_in (i := 66) (by decide +kernel) (by decide +kernel)
  | 2, _ => tb_in (i := 68) (by decide +kernel) (by decide +kernel)
  | 3, _ => tb_in (i := 70) (by decide +kernel) (by decide +kernel)
  | 4, _ => tb_in (i := 72) (by decide +kernel) (by decide +kernel)
  | j + 5, h => by omega
theorem in_X3 : ∀ w ∈ u_ws RX3 TX3 5, w ∈ gw := by
  intro w hw
  obtain ⟨j, hj, rfl⟩ := List.mem_map.mp hw
  exact in_l3 j (List.mem_range.mp hj)
theorem in_l4 : ∀ j, j < 6 → u_lay RX4 TX4 j ∈ gw
  | 0, _ => tb_in (i := 168) (by decide +kernel) (by decide +kernel)
  | 1, _ => tb_in (i := 170) (by decide +kernel) (by decide +kernel)
  | 2, _ => tb_in (i := 172) (by decide +kernel) (by decide +kernel)
  | 3, _ => tb_in (i := 174) (by decide +kernel) (by decide +kernel)
  | 4, _ => tb_in (i := 176) (by decide +kernel) (by decide +kernel)
  | 5, _ => tb_in (i := 178) (by decide +kernel) (by decide +kernel)
  | j + 6, h => by omega
theorem in_X4 : ∀ w ∈ u_ws RX4 TX4 6, w ∈ gw := by
  intro w hw
  obtain ⟨j, hj, rfl⟩ := List.mem_map.mp hw
  exact in_l4 j (List.mem_range.mp hj)
theorem in_l5 : ∀ j, j < 2 → u_lay RX5 TX5 j ∈ gw
  | 0, _ => tb_in (i := 42) (by decide +kernel) (by decide +kernel)
  | 1, _ => tb_in (i := 44) (by decide +kernel) (by decide +kernel)
  | j + 2, h => by omega
theorem in_X5 : ∀ w ∈ u_ws RX5 TX5 2, w ∈ gw := by
  intro w hw
  obtain ⟨j, hj, rfl⟩ := List.mem_map.mp hw
  exact in_l5 j (List.mem_range.mp hj)
theorem in_l6 : ∀ j, j < 6 → u_lay RX6 TX6 j ∈ gw
  | 0, _ => tb_in (i := 140) (by decide +kernel) (by decide +kernel)
  | 1, _ => tb_in (i := 142) (by decide +kernel) (by decide +kernel)
  | 2, _ => tb_in (i := 144) (by decide +kernel) (by decide +kernel)
  | 3, _ => tb_in (i := 146) (by decide +kernel) (by decide +kernel)
  | 4, _ => tb_in (i := 148) (by decide +kernel) (by decide +kernel)
  | 5, _ => tb_in (i := 150) (by decide +kernel) (by decide +kernel)
  | j + 6, h => by omega
theorem in_X6 : ∀ w ∈ u_ws RX6 TX6 6, w ∈ gw := by
  intro w hw
  obtain ⟨j, hj, rfl⟩ := List.mem_map.mp hw
  exact in_l6 j (List.mem_range.mp hj)
theorem in_l7 : ∀ j, j < 5 → u_lay RX7 TX7 j ∈ gw
  | 0, _ => tb_in (i := 205) (by decide +kernel) (by decide +kernel)
  | 1, _ => tb_in (i := 207) (by decide +kernel) (by decide +kernel)
  | 2, _ => tb_in (i := 209) (by decide +kernel) (by decide +kernel)
  | 3, _ => tb_in (i := 211) (by decide +kernel) (by decide +kernel)
  | 4, _ => tb_in (i := 213) (by decide +kernel) (by decide +kernel)
  | j + 5, h => by omega
theorem in_X7 : ∀ w ∈ u_ws RX7 TX7 5, w ∈ gw := by
  intro w hw
  obtain ⟨j, hj, rfl⟩ := List.mem_map.mp hw
  exact in_l7 j (List.mem_range.mp hj)
theorem in_l8 : ∀ j, j < 19 → u_lay RX8 TX8 j ∈ gw
  | 0, _ => tb_in (i := 565) (by decide +kernel) (by decide +kernel)
  | 1, _ => tb_in (i := 567) (by decide +kernel) (by decide +kernel)
  | 2, _ => tb_in (i := 569) (by decide +kernel) (by decide +kernel)
  | 3, _ => tb_in (i := 571) (by decide +kernel) (by decide +kernel)
  | 4, _ => tb_in (i := 573) (by decide +kernel) (by decide +kernel)
  | 5, _ => tb_in (i := 575) (by decide +kernel) (by decide +kernel)
  | 6, _ => tb_in (i := 577) (by decide +kernel) (by decide +kernel)
  | 7, _ => tb_in (i := 579) (by decide +kernel) (by decide +kernel)
  | 8, _ => tb_in (i := 581) (by decide +kernel) (by decide +kernel)
  | 9, _ => tb_in (i := 583) (by decide +kernel) (by decide +kernel)
  | 10, _ => tb_in (i := 585) (by decide +kernel) (by decide +kernel)
  | 11, _ => tb_in (i := 587) (by decide +kernel) (by decide +kernel)
  | 12, _ => tb_in (i := 589) (by decide +kernel) (by decide +kernel)
  | 13, _ => tb_in (i := 591) (by decide +kernel) (by decide +kernel)
  | 14, _ => tb_in (i := 593) (by decide +kernel) (by decide +kernel)
  | 15, _ => tb_in (i := 595) (by decide +kernel) (by decide +kernel)
  | 16, _ => tb_in (i := 597) (by decide +kernel) (by decide +kernel)
  | 17, _ => tb_in (i := 599) (by decide +kernel) (by decide +kernel)
  | 18, _ => tb_in (i := 601) (by decide +kernel) (by decide +kernel)
  | j + 19, h => by omega
theorem in_X8 : ∀ w ∈ u_ws RX8 TX8 19, w ∈ gw := by
  intro w hw
  obtain ⟨j, hj, rfl⟩ := List.mem_map.mp hw
  exact in_l8 j (List.mem_range.mp hj)
theorem fo_X5_9 : FldOk 5 0 RX5 9 := ⟨RX5, TX5, 2, rfl, by decide, in_X5, tb_in (i := 34) (by decide +kernel) (by decide +kernel)⟩
theorem fo_X0_57 : FldOk 5 0 RX0 57 := ⟨RX5, TX5, 2, rfl, by decide, in_X5, tb_in (i := 35) (by decide +kernel) (by decide +kernel)⟩
theorem fo_X4_70 : FldOk 5 0 RX4 70 := ⟨RX5, TX5, 2, rfl, by decide, in_X5, tb_in (i := 36) (by decide +kernel) (by decide +kernel)⟩
theorem fo_X1_103 : FldOk 5 0 RX1 103 := ⟨RX5, TX5, 2, rfl, by decide, in_X5, tb_in (i := 37) (by decide +kernel) (by decide +kernel)⟩
theorem fo_X5_15 : FldOk 5 1 RX5 15 := ⟨RX5, TX5, 2, rfl, by decide, in_X5, tb_in (i := 38) (by decide +kernel) (by decide +kernel)⟩
theorem fo_X0_62 : FldOk 5 1 RX0 62 := ⟨RX5, TX5, 2, rfl, by decide, in_X5, tb_in (i := 39) (by decide +kernel) (by decide +kernel)⟩
theorem fo_X4_66 : FldOk 5 1 RX4 66 := ⟨RX5, TX5, 2, rfl, by decide, in_X5, tb_in (i := 40) (by decide +kernel) (by decide +kernel)⟩
theorem fo_X1_100 : FldOk 5 1 RX1 100 := ⟨RX5, TX5, 2, rfl, by decide, in_X5, tb_in (i := 41) (by decide +kernel) (by decide +kernel)⟩
theorem fo_X3_9 : FldOk 3 0 RX3 9 := ⟨RX3, TX3, 5, rfl, by decide, in_X3, tb_in (i := 49) (by decide +kernel) (by decide +kernel)⟩
theorem fw_X3_9 : FldW 3 0 RX3 9 := ⟨RX3, TX3, 5, tyX3, rfl, by decide, in_X3, tb_in (i := 49) (by decide +kernel) (by decide +kernel), tyX3_ok, nmX3, rfl, by decide +kernel⟩
theorem fo_X7_52 : FldOk 3 0 RX7 52 := ⟨RX3, TX3, 5, rfl, by decide, in_X3, tb_in (i := 50) (by decide +kernel) (by decide +kernel)⟩
theorem fw_X7_52 : FldW 3 0 RX7 52 := ⟨RX3, TX3, 5, tyX3, rfl, by decide, in_X3, tb_in (i := 50) (by decide +kernel) (by decide +kernel), tyX3_ok, nmX3, rfl, by decide +kernel⟩
theorem fo_X0_50 : FldOk 3 0 RX0 50 := ⟨RX3, TX3, 5, rfl, by decide, in_X3, tb_in (i := 51) (by decide +kernel) (by decide +kernel)⟩
theorem fw_X0_50 : FldW 3 0 RX0 50 := ⟨RX3, TX3, 5, tyX3, rfl, by decide, in_X3, tb_in (i := 51) (by decide +kernel) (by decide +kernel), tyX3_ok, nmX3, rfl, by decide +kernel⟩
theorem fo_X4_42 : FldOk 3 0 RX4 42 := ⟨RX3, TX3, 5, rfl, by decide, in_X3, tb_in (i := 52) (by decide +kernel) (by decide +kernel)⟩
theorem fw_X4_42 : FldW 3 0 RX4 42 := ⟨RX3, TX3, 5, tyX3, rfl, by decide, in_X3, tb_in (i := 52) (by decide +kernel) (by decide +kernel), tyX3_ok, nmX3, rfl, by decide +kernel⟩
theorem fo_X3_15 : FldOk 3 1 RX3 15 := ⟨RX3, TX3, 5, rfl, by decide, in_X3, tb_in (i := 53) (by decide +kernel) (by decide +kernel)⟩
theorem fo_X7_66 : FldOk 3 1 RX7 66 := ⟨RX3, TX3, 5, rfl, by decide, in_X3, tb_in (i := 54) (by decide +kernel) (by decide +kernel)⟩
theorem fo_X3_19 : FldOk 3 2 RX3 19 := ⟨RX3, TX3, 5, rfl, by decide, in_X3, tb_in (i := 55) (by decide +kernel) (by decide +kernel)⟩
theorem fo_X0_65 : FldOk 3 2 RX0 65 := ⟨RX3, TX3, 5, rfl, by decide, in_X3, tb_in (i := 56) (by decide +kernel) (by decide +kernel)⟩
theorem fo_X4_73 : FldOk 3 2 RX4 73 := ⟨RX3, TX3, 5, rfl, by decide, in_X3, tb_in (i := 57) (by decide +kernel) (by decide +kernel)⟩
theorem fo_X7_124 : FldOk 3 2 RX7 124 := ⟨RX3, TX3, 5, rfl, by decide, in_X3, tb_in (i := 58) (by decide +kernel) (by decide +kernel)⟩
theorem fo_X3_25 : FldOk 3 3 RX3 25 := ⟨RX3, TX3, 5, rfl, by decide, in_X3, tb_in (i := 59) (by decide +kernel) (by decide +kernel)⟩
theorem fo_X4_102 : FldOk 3 3 RX4 102 := ⟨RX3, TX3, 5, rfl, by decide, in_X3, tb_in (i := 60) (by decide +kernel) (by decide +kernel)⟩
theorem fo_X3_29 : FldOk 3 4 RX3 29 := ⟨RX3, TX3, 5, rfl, by decide, in_X3, tb_in (i := 61) (by decide +kernel) (by decide +kernel)⟩
theorem fo_X0_53 : FldOk 3 4 RX0 53 := ⟨RX3, TX3, 5, rfl, by decide, in_X3, tb_in (i := 62) (by decide +kernel) (by decide +kernel)⟩
theorem fo_X4_59 : FldOk 3 4 RX4 59 := ⟨RX3, TX3, 5, rfl, by decide, in_X3, tb_in (i := 63) (by decide +kernel) (by decide +kernel)⟩
theorem fo_X1_9 : FldOk 1 0 RX1 9 := ⟨RX1, TX1, 6, rfl, by decide, in_X1, tb_in (i := 88) (by decide +kernel) (by decide +kernel)⟩
theorem fw_X1_9 : FldW 1 0 RX1 9 := ⟨RX1, TX1, 6, tyX1, rfl, by decide, in_X1, tb_in (i := 88) (by decide +kernel) (by decide +kernel), tyX1_ok, nmX1, rfl, by decide +kernel⟩
theorem fo_X1_15 : FldOk 1 1 RX1 15 := ⟨RX1, TX1, 6, rfl, by decide, in_X1, tb_in (i := 89) (by decide +kernel) (by decide +kernel)⟩
theorem fw_X1_15 : FldW 1 1 RX1 15 := ⟨RX1, TX1, 6, tyX1, rfl, by decide, in_X1, tb_in (i := 89) (by decide +kernel) (by decide +kernel), tyX1_ok, nmX1, rfl, by decide +kernel⟩
theorem fo_X7_110 : FldOk 1 1 RX7 110 := ⟨RX1, TX1, 6, rfl, by decide, in_X1, tb_in (i := 90) (by decide +kernel) (by decide +kernel)⟩
theorem fw_X7_110 : FldW 1 1 RX7 110 := ⟨RX1, TX1, 6, tyX1, rfl, by decide, in_X1, tb_in (i := 90) (by decide +kernel) (by decide +kernel), tyX1_ok, nmX1, rfl, by decide +kernel⟩
theorem fo_X1_18 : FldOk 1 2 RX1 18 := ⟨RX1, TX1, 6, rfl, by decide, in_X1, tb_in (i := 91) (by decide +kernel) (by decide +kernel)⟩
theorem fw_X1_18 : FldW 1 2 RX1 18 := ⟨RX1, TX1, 6, tyX1, rfl, by decide, in_X1, tb_in (i := 91) (by decide +kernel) (by decide +kernel), tyX1_ok, nmX1, rfl, by decide +kernel⟩
theorem fo_X1_21 : FldOk 1 3 RX1 21 := ⟨RX1, TX1, 6, rfl, by decide, in_X1, tb_in (i := 92) (by decide +kernel) (by decide +kernel)⟩
theorem fw_X1_21 : FldW 1 3 RX1 21 := ⟨RX1, TX1, 6, tyX1, rfl, by decide, in_X1, tb_in (i := 92) (by decide +kernel) (by decide +kernel), tyX1_ok, nmX1, rfl, by decide +kernel⟩
theorem fo_X1_24 : FldOk 1 4 RX1 24 := ⟨RX1, TX1, 6, rfl, by decide, in_X1, tb_in (i := 93) (by decide +kernel) (by decide +kernel)⟩
theorem fw_X1_24 : FldW 1 4 RX1 24 := ⟨RX1, TX1, 6, tyX1, rfl, by decide, in_X1, tb_in (i := 93) (by decide +kernel) (by decide +kernel), tyX1_ok, nmX1, rfl, by decide +kernel⟩
theorem fo_X1_27 : FldOk 1 5 RX1 27 := ⟨RX1, TX1, 6, rfl, by decide, in_X1, tb_in (i := 94) (by decide +kernel) (by decide +kernel)⟩
theorem fo_X7_113 : FldOk 1 5 RX7 113 := ⟨RX1, TX1, 6, rfl, by decide, in_X1, tb_in (i := 95) (by decide +kernel) (by decide +kernel)⟩
theorem fo_X2_9 : FldOk 2 0 RX2 9 := ⟨RX2, TX2, 2, rfl, by decide, in_X2, tb_in (i := 109) (by decide +kernel) (by decide +kernel)⟩
theorem fw_X2_9 : FldW 2 0 RX2 9 := ⟨RX2, TX2, 2, tyX2, rfl, by decide, in_X2, tb_in (i := 109) (by decide +kernel) (by decide +kernel), tyX2_ok, nmX2, rfl, by decide +kernel⟩
theorem fo_X0_26 : FldOk 2 0 RX0 26 := ⟨RX2, TX2, 2, rfl, by decide, in_X2, tb_in (i := 110) (by decide +kernel) (by decide +kernel)⟩
theorem fw_X0_26 : FldW 2 0 RX0 26 := ⟨RX2, TX2, 2, tyX2, rfl, by decide, in_X2, tb_in (i := 110) (by decide +kernel) (by decide +kernel), tyX2_ok, nmX2, rfl, by decide +kernel⟩
theorem fo_X4_37 : FldOk 2 0 RX4 37 := ⟨RX2, TX2, 2, rfl, by decide, in_X2, tb_in (i := 111) (by decide +kernel) (by decide +kernel)⟩
theorem fw_X4_37 : FldW 2 0 RX4 37 := ⟨RX2, TX2, 2, tyX2, rfl, by decide, in_X2, tb_in (i := 111) (by decide +kernel) (by decide +kernel), tyX2_ok, nmX2, rfl, by decide +kernel⟩
theorem fo_X7_89 : FldOk 2 0 RX7 89 := ⟨RX2, TX2, 2, rfl, by decide, in_X2, tb_in (i := 112) (by decide +kernel) (by decide +kernel)⟩
theorem fw_X7_89 : FldW 2 0 RX7 89 := ⟨RX2, TX2, 2, tyX2, rfl, by decide, in_X2, tb_in (i := 112) (by decide +kernel) (by decide +kernel), tyX2_ok, nmX2, rfl, by decide +kernel⟩
theorem fo_X2_17 : FldOk 2 1 RX2 17 := ⟨RX2, TX2, 2, rfl, by decide, in_X2, tb_in (i := 113) (by decide +kernel) (by decide +kernel)⟩
theorem fo_X0_32 : FldOk 2 1 RX0 32 := ⟨RX2, TX2, 2, rfl, by decide, in_X2, tb_in (i := 114) (by decide +kernel) (by decide +kernel)⟩
theorem fo_X4_45 : FldOk 2 1 RX4 45 := ⟨RX2, TX2, 2, rfl, by decide, in_X2, tb_in (i := 115) (by decide +kernel) (by decide +kernel)⟩
theorem fo_X7_90 : FldOk 2 1 RX7 90 := ⟨RX2, TX2, 2, rfl, by decide, in_X2, tb_in (i := 116) (by decide +kernel) (by decide +kernel)⟩
theorem fo_X6_9 : FldOk 6 0 RX6 9 := ⟨RX6, TX6, 6, rfl, by decide, in_X6, tb_in (i := 128) (by decide +kernel) (by decide +kernel)⟩
theorem fw_X6_9 : FldW 6 0 RX6 9 := ⟨RX6, TX6, 6, tyX6, rfl, by decide, in_X6, tb_in (i := 128) (by decide +kernel) (by decide +kernel), tyX6_ok, nmX6, rfl, by decide +kernel⟩
theorem fo_X7_119 : FldOk 6 0 RX7 119 := ⟨RX6, TX6, 6, rfl, by decide, in_X6, tb_in (i := 129) (by decide +kernel) (by decide +kernel)⟩
theorem fw_X7_119 : FldW 6 0 RX7 119 := ⟨RX6, TX6, 6, tyX6, rfl, by decide, in_X6, tb_in (i := 129) (by decide +kernel) (by decide +kernel), tyX6_ok, nmX6, rfl, by decide +kernel⟩
theorem fo_X6_15 : FldOk 6 1 RX6 15 := ⟨RX6, TX6, 6, rfl, by decide, in_X6, tb_in (i := 130) (by decide +kernel) (by decide +kernel)⟩
theorem fo_X7_142 : FldOk 6 1 RX7 142 := ⟨RX6, TX6, 6, rfl, by decide, in_X6, tb_in (i := 131) (by decide +kernel) (by decide +kernel)⟩
theorem fo_X6_19 : FldOk 6 2 RX6 19 := ⟨RX6, TX6, 6, rfl, by decide, in_X6, tb_in (i := 132) (by decide +kernel) (by decide +kernel)⟩
theorem fo_X7_145 : FldOk 6 2 RX7 145 := ⟨RX6, TX6, 6, rfl, by decide, in_X6, tb_in (i := 133) (by decide +kernel) (by decide +kernel)⟩
theorem fo_X6_22 : FldOk 6 3 RX6 22 := ⟨RX6, TX6, 6, rfl, by decide, in_X6, tb_in (i := 134) (by decide +kernel) (by decide +kernel)⟩
theorem fo_X7_148 : FldOk 6 3 RX7 148 := ⟨RX6, TX6, 6, rfl, by decide, in_X6, tb_in (i := 135) (by decide +kernel) (by decide +kernel)⟩
theorem fo_X6_25 : FldOk 6 4 RX6 25 := ⟨RX6, TX6, 6, rfl, by decide, in_X6, tb_in (i := 136) (by decide +kernel) (by decide +kernel)⟩
theorem fo_X7_151 : FldOk 6 4 RX7 151 := ⟨RX6, TX6, 6, rfl, by decide, in_X6, tb_in (i := 137) (by decide +kernel) (by decide +kernel)⟩
theorem fo_X6_28 : FldOk 6 5 RX6 28 := ⟨RX6, TX6, 6, rfl, by decide, in_X6, tb_in (i := 138) (by decide +kernel) (by decide +kernel)⟩
theorem fo_X7_154 : FldOk 6 5 RX7 154 := ⟨RX6, TX6, 6, rfl, by decide, in_X6, tb_in (i := 139) (by decide +kernel) (by decide +kernel)⟩
theorem fo_X4_9 : FldOk 4 0 RX4 9 := ⟨RX4, TX4, 6, rfl, by decide, in_X4, tb_in (i := 161) (by decide +kernel) (by decide +kernel)⟩
theorem fw_X4_9 : FldW 4 0 RX4 9 := ⟨RX4, TX4, 6, tyX4, rfl, by decide, in_X4, tb_in (i := 161) (by decide +kernel) (by decide +kernel), tyX4_ok, nmX4, rfl, by decide +kernel⟩
theorem fo_X7_116 : FldOk 4 0 RX7 116 := ⟨RX4, TX4, 6, rfl, by decide, in_X4, tb_in (i := 162) (by decide +kernel) (by decide +kernel)⟩
theorem fw_X7_116 : FldW 4 0 RX7 116 := ⟨RX4, TX4, 6, tyX4, rfl, by decide, in_X4, tb_in (i := 162) (by decide +kernel) (by decide +kernel), tyX4_ok, nmX4, rfl, by decide +kernel⟩
theorem fo_X4_15 : FldOk 4 1 RX4 15 := ⟨RX4, TX4, 6, rfl, by decide, in_X4, tb_in (i := 163) (by decide +kernel) (by decide +kernel)⟩
theorem fw_X4_15 : FldW 4 1 RX4 15 := ⟨RX4, TX4, 6, tyX4, rfl, by decide, in_X4, tb_in (i := 163) (by decide +kernel) (by decide +kernel), tyX4_ok, nmX4, rfl, by decide +kernel⟩
theorem fo_X4_25 : FldOk 4 2 RX4 25 := ⟨RX4, TX4, 6, rfl, by decide, in_X4, tb_in (i := 164) (by decide +kernel) (by decide +kernel)⟩
theorem fo_X4_29 : FldOk 4 3 RX4 29 := ⟨RX4, TX4, 6, rfl, by decide, in_X4, tb_in (i := 165) (by decide +kernel) (by decide +kernel)⟩
theorem fo_X4_33 : FldOk 4 4 RX4 33 := ⟨RX4, TX4, 6, rfl, by decide, in_X4, tb_in (i := 166) (by decide +kernel) (by decide +kernel)⟩
theorem fo_X4_21 : FldOk 4 5 RX4 21 := ⟨RX4, TX4, 6, rfl, by decide, in_X4, tb_in (i := 167) (by decide +kernel) (by decide +kernel)⟩
theorem fo_X0_18 : FldOk 0 0 RX0 18 := ⟨RX0, TX0, 4, rfl, by decide, in_X0, tb_in (i := 187) (by decide +kernel) (by decide +kernel)⟩
theorem fo_X0_22 : FldOk 0 1 RX0 22 := ⟨RX0, TX0, 4, rfl, by decide, in_X0, tb_in (i := 188) (by decide +kernel) (by decide +kernel)⟩
theorem fo_X0_9 : FldOk 0 2 RX0 9 := ⟨RX0, TX0, 4, rfl, by decide, in_X0, tb_in (i := 189) (by decide +kernel) (by decide +kernel)⟩
theorem fo_X0_15 : FldOk 0 3 RX0 15 := ⟨RX0, TX0, 4, rfl, by decide, in_X0, tb_in (i := 190) (by decide +kernel) (by decide +kernel)⟩
theorem fo_X7_10 : FldOk 7 0 RX7 10 := ⟨RX7, TX7, 5, rfl, by decide, in_X7, tb_in (i := 200) (by decide +kernel) (by decide +kernel)⟩
theorem fo_X7_19 : FldOk 7 1 RX7 19 := ⟨RX7, TX7, 5, rfl, by decide, in_X7, tb_in (i := 201) (by decide +kernel) (by decide +kernel)⟩
theorem fo_X7_26 : FldOk 7 2 RX7 26 := ⟨RX7, TX7, 5, rfl, by decide, in_X7, tb_in (i := 202) (by decide +kernel) (by decide +kernel)⟩
theorem fo_X7_35 : FldOk 7 3 RX7 35 := ⟨RX7, TX7, 5, rfl, by decide, in_X7, tb_in (i := 203) (by decide +kernel) (by decide +kernel)⟩
theorem fo_X7_44 : FldOk 7 4 RX7 44 := ⟨RX7, TX7, 5, rfl, by decide, in_X7, tb_in (i := 204) (by decide +kernel) (by decide +kernel)⟩
theorem fo_X8_57 : FldOk 8 0 RX8 57 := ⟨RX8, TX8, 19, rfl, by decide, in_X8, tb_in (i := 546) (by decide +kernel) (by decide +kernel)⟩
theorem fw_X8_57 : FldW 8 0 RX8 57 := ⟨RX8, TX8, 19, tyX8, rfl, by decide, in_X8, tb_in (i := 546) (by decide +kernel) (by decide +kernel), tyX8_ok, nmX8, rfl, by decide +kernel⟩
theorem fo_X8_64 : FldOk 8 1 RX8 64 := ⟨RX8, TX8, 19, rfl, by decide, in_X8, tb_in (i := 547) (by decide +kernel) (by decide +kernel)⟩
theorem fw_X8_64 : FldW 8 1 RX8 64 := ⟨RX8, TX8, 19, tyX8, rfl, by decide, in_X8, tb_in (i := 547) (by decide +kernel) (by decide +kernel), tyX8_ok, nmX8, rfl, by decide +kernel⟩
theorem fo_X8_7 : FldOk 8 2 RX8 7 := ⟨RX8, TX8, 19, rfl, by decide, in_X8, tb_in (i := 548) (by decide +kernel) (by decide +kernel)⟩
theorem fo_X8_13 : FldOk 8 3 RX8 13 := ⟨RX8, TX8, 19, rfl, by decide, in_X8, tb_in (i := 549) (by decide +kernel) (by decide +kernel)⟩
theorem fo_X8_16 : FldOk 8 4 RX8 16 := ⟨RX8, TX8, 19, rfl, by decide, in_X8, tb_in (i := 550) (by decide +kernel) (by decide +kernel)⟩
theorem fo_X8_20 : FldOk 8 5 RX8 20 := ⟨RX8, TX8, 19, rfl, by decide, in_X8, tb_in (i := 551) (by decide +kernel) (by decide +kernel)⟩
theorem fo_X8_23 : FldOk 8 6 RX8 23 := ⟨RX8, TX8, 19, rfl, by decide, in_X8, tb_in (i := 552) (by decide +kernel) (by decide +kernel)⟩
theorem fo_X8_26 : FldOk 8 7 RX8 26 := ⟨RX8, TX8, 19, rfl, by decide, in_X8, tb_in (i := 553) (by decide +kernel) (by decide +kernel)⟩
theorem fo_X8_67 : FldOk 8 8 RX8 67 := ⟨RX8, TX8, 19, rfl, by decide, in_X8, tb_in (i := 554) (by decide +kernel) (by decide +kernel)⟩
theorem fw_X8_67 : FldW 8 8 RX8 67 := ⟨RX8, TX8, 19, tyX8, rfl, by decide, in_X8, tb_in (i := 554) (by decide +kernel) (by decide +kernel), tyX8_ok, nmX8, rfl, by decide +kernel⟩
theorem fo_X8_29 : FldOk 8 9 RX8 29 := ⟨RX8, TX8, 19, rfl, by decide, in_X8, tb_in (i := 555) (by decide +kernel) (by decide +kernel)⟩
theorem fw_X8_29 : FldW 8 9 RX8 29 := ⟨RX8, TX8, 19, tyX8, rfl, by decide, in_X8, tb_in (i := 555) (by decide +kernel) (by decide +kernel), tyX8_ok, nmX8, rfl, by decide +kernel⟩
theorem fo_X8_70 : FldOk 8 10 RX8 70 := ⟨RX8, TX8, 19, rfl, by decide, in_X8, tb_in (i := 556) (by decide +kernel) (by decide +kernel)⟩
theorem fw_X8_70 : FldW 8 10 RX8 70 := ⟨RX8, TX8, 19, tyX8, rfl, by decide, in_X8, tb_in (i := 556) (by decide +kernel) (by decide +kernel), tyX8_ok, nmX8, rfl, by decide +kernel⟩
theorem fo_X8_33 : FldOk 8 11 RX8 33 := ⟨RX8, TX8, 19, rfl, by decide, in_X8, tb_in (i := 557) (by decide +kernel) (by decide +kernel)⟩
theorem fo_X8_36 : FldOk 8 12 RX8 36 := ⟨RX8, TX8, 19, rfl, by decide, in_X8, tb_in (i := 558) (by decide +kernel) (by decide +kernel)⟩
theorem fo_X8_39 : FldOk 8 13 RX8 39 := ⟨RX8, TX8, 19, rfl, by decide, in_X8, tb_in (i := 559) (by decide +kernel) (by decide +kernel)⟩
theorem fo_X8_42 : FldOk 8 14 RX8 42 := ⟨RX8, TX8, 19, rfl, by decide, in_X8, tb_in (i := 560) (by decide +kernel) (by decide +kernel)⟩
theorem fo_X8_45 : FldOk 8 15 RX8 45 := ⟨RX8, TX8, 19, rfl, by decide, in_X8, tb_in (i := 561) (by decide +kernel) (by decide +kernel)⟩
theorem fo_X8_48 : FldOk 8 16 RX8 48 := ⟨RX8, TX8, 19, rfl, by decide, in_X8, tb_in (i := 562) (by decide +kernel) (by decide +kernel)⟩
theorem fo_X8_51 : FldOk 8 17 RX8 51 := ⟨RX8, TX8, 19, rfl, by decide, in_X8, tb_in (i := 563) (by decide +kernel) (by decide +kernel)⟩
theorem fo_X8_54 : FldOk 8 18 RX8 54 := ⟨RX8, TX8, 19, rfl, by decide, in_X8, tb_in (i := 564) (by decide +kernel) (by decide +kernel)⟩
theorem ar_2 (G : GT) : isAL G 2 8 := ⟨by decide, by decide, fun _ => rfl⟩
theorem ar_3 (G : GT) : isAL G 3 8 := ⟨by decide, by decide, fun _ => rfl⟩
theorem ar_5 (G : GT) : isAI G 5 8 := ⟨by decide, by decide, fun _ => rfl⟩
theorem ar_6 (G : GT) : isAI G 6 8 := ⟨by decide, by decide, fun _ => rfl⟩
theorem ar_8 (G : GT) : isAI G 8 8 := ⟨by decide, by decide, fun _ => rfl⟩
theorem ar_9 (G : GT) : isAI G 9 8 := ⟨by decide, by decide, fun _ => rfl⟩
theorem ar_20 (G : GT) : isAI G 20 8 := ⟨by decide, by decide, fun _ => rfl⟩
theorem ar_21 (G : GT) : isAI G 21 8 := ⟨by decide, by decide, fun _ => rfl⟩
theorem ar_23 (G : GT) : isAI G 23 8 := ⟨by decide, by decide, fun _ => rfl⟩
theorem ar_38 (G : GT) : isAI G 38 8 := ⟨by decide, by decide, fun _ => rfl⟩
theorem ar_39 (G : GT) : isAI G 39 8 := ⟨by decide, by decide, fun _ => rfl⟩
theorem ar_13 (G : GT) : isAI G 13 512 := ⟨by decide, by decide, fun _ => rfl⟩
theorem ar_14 (G : GT) : isAI G 14 512 := ⟨by decide, by decide, fun _ => rfl⟩
theorem ar_15 (G : GT) : isAI G 15 512 := ⟨by decide, by decide, fun _ => rfl⟩
theorem ar_16 (G : GT) : isAI G 16 512 := ⟨by decide, by decide, fun _ => rfl⟩
theorem ar_17 (G : GT) : isAI G 17 512 := ⟨by decide, by decide, fun _ => rfl⟩
theorem ar_32 (G : GT) : isAI G 32 512 := ⟨by decide, by decide, fun _ => rfl⟩
theorem ar_33 (G : GT) : isAI G 33 512 := ⟨by decide, by decide, fun _ => rfl⟩
theorem ar_34 (G : GT) : isAI G 34 512 := ⟨by decide, by decide, fun _ => rfl⟩
theorem ar_35 (G : GT) : isAI G 35 512 := ⟨by decide, by decide, fun _ => rfl⟩
theorem ar_24 (G : GT) : isAI G 24 12 := ⟨by decide, by decide, fun _ => rfl⟩
theorem ar_28 (G : GT) : isAI G 28 12 := ⟨by decide, by decide, fun _ => rfl⟩
theorem ar_29 (G : GT) : isAI G 29 36 := ⟨by decide, by decide, fun _ => rfl⟩
theorem ar_30 (G : GT) : isAI G 30 12 := ⟨by decide, by decide, fun _ => rfl⟩
theorem ar_31 (G : GT) : isAI G 31 96 := ⟨by decide, by decide, fun _ => rfl⟩
theorem ar_37 (G : GT) : isAI G 37 8192 := ⟨by decide, by decide, fun _ => rfl⟩
theorem ar_26 (G : GT) : isAZ G 26 512 := ⟨by decide, by decide, fun _ => rfl⟩
theorem ar_27 (G : GT) : isAZ G 27 512 := ⟨by decide, by decide, fun _ => rfl⟩
theorem ar_36 (G : GT) : isAZ G 36 8192 := ⟨by decide, by decide, fun _ => rfl⟩
theorem ar_fac (G : GT) {r : Nat} (hr : r < 12) : isAI G (52 + r) 8 := ⟨by omega, by decide, fun u => by unfold cE; rw [if_neg (by omega), if_neg (by omega)]⟩
theorem cE_row (G : GT) (v : Mem) {r : Nat} (hr : r < 12) : cE G v (40 + r) = .inr (1, [oI (v.1 (40 + r)) 0, oI (v.1 (40 + r)) 1, oI (v.1 (40 + r)) 2, oI (v.1 (40 + r)) 3, oI (v.1 (40 + r)) 4, .ref (G.2.1 (52 + r))]) := by
  unfold cE; rw [if_neg (by omega), if_pos (by omega), show 40 + r + 12 = 52 + r by omega]
end
section
/-! Math, arraycopy -/
def cpI (v : Mem) (i0 i1 : Nat) (n : Int) : Mem := (fun a b => if a = i1 ∧ 0 ≤ b ∧ b < n then v.1 i0 b else v.1 a b, v.2)
def cpL (v : Mem) (i0 i1 : Nat) (n : Int) : Mem := (v.1, fun a b => if a = i1 ∧ 0 ≤ b ∧ b < n then v.2 i0 b else v.2 a b)
section Lib
variable {X : CX} {G : GT} {nL : Nat} {cc : ByteArray} {own : String} {D : Nat} {v : Mem} {pc : Nat} {lv : List (Option Value)} {st : List Value}
theorem m_max (h : Ok X G nL cc own D) {a b : Int} {index : Nat} (hl : Cond.methodLink own index Lib.Math.max.name ∈ gw) (hd : decode cc pc = .ok (.invokestatic index, 3)) (hD : 1 ≤ D) (hW : (st.map fun v => v.category).sum ≤ 8) (ha : -2147483648 ≤ a ∧ a ≤ 2147483647) (hb : -2147483648 ≤ b ∧ b ≤ 2147483647) (k : M X G nL v (pc + 3) lv (.int (iI (max a b)) :: st)) : M X G nL v pc lv (.int (iI b) :: .int (iI a) :: st) := by
  intro H locs ls hP hS hlv
  have hts := h.2.2.2.2.1
  have hR := h.2.2.2.2.2.2.2.2.2.2.1
  have hc := h.2.2.2.2.2.2.2.2.2.2.2
  refine va_mmax h.1 h.2.1 (h.2.2.1.trans hlv.1.symm) h.2.2.2.1 (hts _ hl) (hts _ stM_max) (hts _ iniM) (hts _ cdM_max) (by omega) (by omega) hc.1 hc.2 hd ?_
  rw [show (if iI a < iI b then iI b else iI a) = iI (max a b) by
    simp only [iI_lt ha hb]
    by_cases hab : a < b
    · rw [if_pos hab, Int.max_eq_right (by omega)]
    · rw [if_neg hab, Int.max_eq_left (by omega)]]
  exact k H locs ls hP hS hlv
theorem m_min (h : Ok X G nL cc own D) {a b : Int} {index : Nat} (hl : Cond.methodLink own index Lib.Math.min.name ∈ gw) (hd : decode cc pc = .ok (.invokestatic index, 3)) (hD : 1 ≤ D) (hW : (st.map fun v => v.category).sum ≤ 8) (ha : -2147483648 ≤ a ∧ a ≤ 2147483647) (hb : -2147483648 ≤ b ∧ b ≤ 2147483647) (k : M X G nL v (pc + 3) lv (.int (iI (min a b)) :: st)) : M X G nL v pc lv (.int (iI b) :: .int (iI a) :: st) := by
  intro H locs ls hP hS hlv
  have hts := h.2.2.2.2.1
  have hR := h.2.2.2.2.2.2.2.2.2.2.1
  have hc := h.2.2.2.2.2.2.2.2.2.2.2
  refine va_mmin h.1 h.2.1 (h.2.2.1.trans hlv.1.symm) h.2.2.2.1 (hts _ hl) (hts _ stM_min) (hts _ iniM) (hts _ cdM_min) (by omega) (by omega) hc.1 hc.2 hd ?_
  rw [show (if iI b < iI a then iI b else iI a) = iI (min a b) by
    simp only [iI_lt hb ha]
    by_cases hab : b < a
    · rw [if_pos hab, Int.min_eq_right (by omega)]
    · rw [if_neg hab, Int.min_eq_left (by omega)]]
  exact k H locs ls hP hS hlv
theorem m_abs (h : Ok X G nL cc own D) {a : Int} {index : Nat} (hl : Cond.methodLink own index Lib.Math.abs.name ∈ gw) (hd : decode cc pc = .ok (.invokestatic index, 3)) (hD : 1 ≤ D) (hW : (st.map fun v => v.category).sum ≤ 8) (ha : -2147483648 ≤ a ∧ a ≤ 2147483647) (k : M X G nL v (pc + 3) lv (.int (iI (if 0 ≤ a then a else -a)) :: st)) : M X G nL v pc lv (.int (iI a) :: st) := by
  intro H locs ls hP hS hlv
  have hts := h.2.2.2.2.1
  have hR := h.2.2.2.2.2.2.2.2.2.2.1
  have hc := h.2.2.2.2.2.2.2.2.2.2.2
  refine va_mabs h.1 h.2.1 (h.2.2.1.trans hlv.1.symm) h.2.2.2.1 (hts _ hl) (hts _ stM_abs) (hts _ iniM) (hts _ cdM_abs) (by omega) (by omega) hc.1 hc.2 hd ?_
  rw [show (if 0 ≤ iI a then iI a else 0 - iI a) = iI (if 0 ≤ a then a else -a) by
    have e0 : (0 : Int32) ≤ iI a ↔ 0 ≤ a := iI_le (a := 0) ⟨by omega, by omega⟩ ha
    by_cases hab : 0 ≤ a
    · rw [if_pos (e0.mpr hab), if_pos hab]
    · rw [if_neg (fun q => hab (e0.mp q)), if_neg hab, iI_0, iI_sub, Int.zero_sub]]
  exact k H locs ls hP hS hlv
theorem cp_words : nativeFrameWords "java/lang/System" "arraycopy" 5 + 11 ≤ 32 := by decide +kernel
theorem m_copyI (h : Ok X G nL cc own D) {index i0 i1 n : Nat} {c : Int} (hl : Cond.methodLink own index arraycopyName ∈ gw) (hd : decode cc pc = .ok (.invokestatic index, 3)) (hD : 1 ≤ D) (hW : (st.map fun v => v.category).sum ≤ 8) (a0 : isAI G i0 n) (a1 : isAI G i1 n) (hc : c = n) (k : M X G nL (cpI v i0 i1 n) (pc + 3) lv st) : M X G nL v pc lv (.int (iI c) :: .int (iI 0) :: .ref (G.2.1 i1) :: .int (iI 0) :: .ref (G.2.1 i0) :: st) := by
  intro H locs ls hP hS hlv
  subst hc
  have hts := h.2.2.2.2.1
  have hR := h.2.2.2.2.2.2.2.2.2.2.1
  obtain ⟨hi0, hn, hE0⟩ := a0
  obtain ⟨hi1, -, hE1⟩ := a1
  have hcl : (iI (n : Int)).toNatClampNeg = n := by
    have := iI_clamp (a := (n : Int)) (by omega) (by omega)
    omega
  have hcl0 : (iI 0).toNatClampNeg = 0 := rfl
  have hneg : ¬ iI (n : Int) < 0 := by
    rw [iI_0, iI_lt ⟨by omega, by omega⟩ ⟨by omega, by omega⟩]; omega
  have hw := cp_words
  refine va_copyi (D := G.1) (ty := .int) h.1 h.2.1 (h.2.2.1.trans hlv.1.symm) h.2.2.2.1 (hts _ hl) (hts _ ntM_copy) (hts _ stM_copy) (hts _ iniS) h.2.2.2.2.2.1 hP (wd_D h.2.2.2.2.2.2.2.1 h.2.2.2.2.2.2.2.2.1) hS i0 i1 0 0 (by rw [wd_at hi0, hE0]) (by rw [wd_at hi1, hE1]) rfl rfl rfl (by decide) (by decide) hneg (by rw [hcl, hcl0]; omega) (by rw [hcl, hcl0]; omega) (fun _ _ => rfl) (by omega) (by omega) hd (fun H1 locs1 hP1 _ hS1 => ?_)
  rw [hcl, hcl0] at hP1
  have e : va_cpy (fun j : Nat => iI (v.1 i0 (j : Int))) (fun j : Nat => iI (v.1 i1 (j : Int))) 0 0 n = fun j : Nat => iI ((cpI v i0 i1 n).1 i1 (j : Int)) := by
    funext j
    by_cases hj : j < n
    · rw [pk_cpy_in (by omega) (by omega)]
      simp only [cpI]
      rw [if_pos ⟨trivial, by omega, by omega⟩]
      rw [show 0 + (j - 0) = j by omega]
    · rw [pk_cpy_out (by omega)]
      simp only [cpI]
      rw [if_neg (by omega)]
  rw [e, wd_set (v := v) (v' := cpI v i0 i1 n) (hE1 _) (fun j hj => cE_loc (by funext b; simp [cpI, hj]) rfl)] at hP1
  exact k H1 locs1 ls hP1 hS1 hlv
theorem m_copyL (h : Ok X G nL cc own D) {index i0 i1 n : Nat} {c : Int} (hl : Cond.methodLink own index arraycopyName ∈ gw) (hd : decode cc pc = .ok (.invokestatic index, 3)) (hD : 1 ≤ D) (hW : (st.map fun v => v.category).sum ≤ 8) (a0 : isAL G i0 n) (a1 : isAL G i1 n) (hc : c = n) (k : M X G nL (cpL v i0 i1 n) (pc + 3) lv st) : M X G nL v pc lv (.int (iI c) :: .int (iI 0) :: .ref (G.2.1 i1) :: .int (iI 0) :: .ref (G.2.1 i0) :: st) := by
  intro H locs ls hP hS hlv
  subst hc
  have hts := h.2.2.2.2.1
  have hR := h.2.2.2.2.2.2.2.2.2.2.1
  obtain ⟨hi0, hn, hE0⟩ := a0
  obtain ⟨hi1, -, hE1⟩ := a1
  have hcl : (iI (n : Int)).toNatClampNeg = n := by
    have := iI_clamp (a := (n : Int)) (by omega) (by omega)
    omega
  have hcl0 : (iI 0).toNatClampNeg = 0 := rfl
  have hneg : ¬ iI (n : Int) < 0 := by
    rw [iI_0, iI_lt ⟨by omega, by omega⟩ ⟨by omega, by omega⟩]; omega
  have hw := cp_words
  refine va_copyl (D := G.1) (ty := .long) h.1 h.2.1 (h.2.2.1.trans hlv.1.symm) h.2.2.2.1 (hts _ hl) (hts _ ntM_copy) (hts _ stM_copy) (hts _ iniS) h.2.2.2.2.2.1 hP (wd_D h.2.2.2.2.2.2.2.1 h.2.2.2.2.2.2.2.2.1) hS i0 i1 1 1 (by rw [wd_at hi0, hE0]) (by rw [wd_at hi1, hE1]) rfl rfl rfl (by decide) (by decide) hneg (by rw [hcl, hcl0]; omega) (by rw [hcl, hcl0]; omega) (fun _ _ => rfl) (by omega) (by omega) hd (fun H1 locs1 hP1 _ hS1 => ?_)
  rw [hcl, hcl0] at hP1
  have e : va_cpy (fun j : Nat => v.2 i0 (j : Int)) (fun j : Nat => v.2 i1 (j : Int)) 0 0 n = fun j : Nat => (cpL v i0 i1 n).2 i1 (j : Int) := by
    funext j
    by_cases hj : j < n
    · rw [pk_cpy_in (by omega) (by omega)]
      simp only [cpL]
      rw [if_pos ⟨trivial, by omega, by omega⟩]
      rw [show 0 + (j - 0) = j by omega]
    · rw [pk_cpy_out (by omega)]
      simp only [cpL]
      rw [if_neg (by omega)]
  rw [e, wd_set (v := v) (v' := cpL v i0 i1 n) (hE1 _) (fun j hj => cE_loc rfl (by funext b; simp [cpL, hj]))] at hP1
  exact k H1 locs1 ls hP1 hS1 hlv
end Lib
end
section
/-! places of spans -/
theorem m_putJ {X : CX} {G : GT} {nL : Nat} {cc : ByteArray} {own : String} {D : Nat} {v : Mem} {pc : Nat} {lv : List (Option Value)} {st : List Value} (h : Ok X G nL cc own D) {ci k i index : Nat} {fs : List Value} {z : Int} (f : FldW ci k own index) (hi : i < 64) (hE : cE G v i = .inr (ci, fs)) (hl0 : k < fs.length) {kz : Int} (hk : ((k : Nat) : Int) = kz) (hE' : cE G (wI v i kz z) i = .inr (ci, fs.set k (.int (iI z)))) (hd : decode cc pc = .ok (.putfield index, 3)) (kk : M X G nL (wI v i kz z) (pc + 3) lv st) : M X G nL v pc lv (.int (iI z) :: .ref (G.2.1 i) :: st) := by
  subst hk
  exact m_putI h f hi hE hl0 hE' hd kk
def isSp (si : Nat) : Prop := si = 4 ∨ si = 7 ∨ si = 19
theorem isSp_lt {si : Nat} (h : isSp si) : si < 64 := by rcases h with rfl | rfl | rfl <;> decide
theorem cE_sp {G : GT} {v : Mem} {si : Nat} (h : isSp si) : cE G v si = .inr (5, [.ref (G.2.1 (si + 1)), .ref (G.2.1 (si + 2))]) := by rcases h with rfl | rfl | rfl <;> rfl
theorem ar_sp1 {G : GT} {si : Nat} (h : isSp si) : isAI G (si + 1) 8 := by rcases h with rfl | rfl | rfl <;> exact ⟨by decide, by decide, fun _ => rfl⟩
theorem ar_sp2 {G : GT} {si : Nat} (h : isSp si) : isAI G (si + 2) 8 := by rcases h with rfl | rfl | rfl <;> exact ⟨by decide, by decide, fun _ => rfl⟩
/-- a truth as 0 or 1 -/
def bz (z : Int) (P : Prop) : Prop := (z = 1 ∧ P) ∨ (z = 0 ∧ ¬ P)
theorem bz1 {P : Prop} (h : P) : bz 1 P := Or.inl ⟨rfl, h⟩
theorem bz0 {P : Prop} (h : ¬ P) : bz 0 P := Or.inr ⟨rfl, h⟩
theorem bz.in {z : Int} {P : Prop} (h : bz z P) : z = 0 ∨ z = 1 := h.elim (fun q => Or.inr q.1) (fun q => Or.inl q.1)
theorem bz.yes {z : Int} {P : Prop} (h : bz z P) (hz : z ≠ 0) : P := h.elim (fun q => q.2) (fun q => absurd q.1 hz)
theorem bz.no {z : Int} {P : Prop} (h : bz z P) (hz : z = 0) : ¬ P := h.elim (fun q => absurd (q.1.symm.trans hz) (by decide)) (fun q => q.2)

set_option maxRecDepth 100000 in
set_option maxHeartbeats 4000000 in
theorem c_covers (l : Launch) {G : GT} (hG : gok G) {si : Nat} (hsp : isSp si) (v : Mem) (n z : Int) (hn : 0 ≤ n ∧ n < 8) (hz : -2147483648 ≤ z ∧ z ≤ 2147483647) (hm : ∀ i x, -2147483648 ≤ v.1 i x ∧ v.1 i x ≤ 2147483647) : CC l G nX5_covers 0 [.ref (G.2.1 si), .int (iI n), .int (iI z)] v (qI G (fun r u => u = v ∧ bz r (v.1 (si + 1) n ≤ z ∧ z ≤ v.1 (si + 2) n))) := by
  refine m_start (lv := [some (.ref (G.2.1 si)), some (.int (iI n)), some (.int (iI z))]) hG (by decide +kernel) rfl (Nat.le_of_ble_eq_true rfl) ?_
  intro X hL h hR
  subst hL
  have h1 := hm (si + 1) n
  have h2 := hm (si + 2) n
  show M X G 3 v 0 [some (.ref (G.2.1 si)), some (.int (iI n)), some (.int (iI z))] []
  refine m_aload_n h dX5_covers_0 rfl rfl ?_
  refine m_get h fo_X5_9 (isSp_lt hsp) (cE_sp hsp) rfl dX5_covers_1 ?_
  refine m_iload_n h dX5_covers_4 rfl rfl ?_
  refine m_iald h (ar_sp1 hsp) (by omega) (by omega) dX5_covers_5 ?_
  refine m_iload_n h dX5_covers_6 rfl rfl ?_
  refine m_icmp_gt h dX5_covers_7 (tgt := 24) (by decide) (by omega) (by omega) (fun c1 => ?_) (fun c1 => ?_)
  · skip
    refine m_iconst h dX5_covers_24 ?_
    refine m_zret h hR rfl dX5_covers_25 (by omega) ?_
    exact ⟨rfl, bz0 (by omega)⟩
  · skip
    refine m_iload_n h dX5_covers_10 rfl rfl ?_
    refine m_aload_n h dX5_covers_11 rfl rfl ?_
    refine m_get h fo_X5_15 (isSp_lt hsp) (cE_sp hsp) rfl dX5_covers_12 ?_
    refine m_iload_n h dX5_covers_15 rfl rfl ?_
    refine m_iald h (ar_sp2 hsp) (by omega) (by omega) dX5_covers_16 ?_
    refine m_icmp_gt h dX5_covers_17 (tgt := 24) (by decide) (by omega) (by omega) (fun c2 => ?_) (fun c2 => ?_)
    · skip
      refine m_iconst h dX5_covers_24 ?_
      refine m_zret h hR rfl dX5_covers_25 (by omega) ?_
      exact ⟨rfl, bz0 (by omega)⟩
    · skip
      refine m_iconst h dX5_covers_20 ?_
      refine m_goto h dX5_covers_21 (tgt := 25) (by decide) ?_
      refine m_zret h hR rfl dX5_covers_25 (by omega) ?_
      exact ⟨rfl, bz1 (by omega)⟩

set_option maxRecDepth 100000 in
set_option maxHeartbeats 4000000 in
theorem c_isOnly (l : Launch) {G : GT} (hG : gok G) {si : Nat} (hsp : isSp si) (v : Mem) (n z : Int) (hn : 0 ≤ n ∧ n < 8) (hz : -2147483648 ≤ z ∧ z ≤ 2147483647) (hm : ∀ i x, -2147483648 ≤ v.1 i x ∧ v.1 i x ≤ 2147483647) : CC l G nX5_isOnly 0 [.ref (G.2.1 si), .int (iI n), .int (iI z)] v (qI G (fun r u => u = v ∧ bz r (v.1 (si + 1) n = z ∧ v.1 (si + 2) n = z))) := by
  refine m_start (lv := [some (.ref (G.2.1 si)), some (.int (iI n)), some (.int (iI z))]) hG (by decide +kernel) rfl (Nat.le_of_ble_eq_true rfl) ?_
  intro X hL h hR
  subst hL
  have h1 := hm (si + 1) n
  have h2 := hm (si + 2) n
  show M X G 3 v 0 [some (.ref (G.2.1 si)), some (.int (iI n)), some (.int (iI z))] []
  refine m_aload_n h dX5_isOnly_0 rfl rfl ?_
  refine m_get h fo_X5_9 (isSp_lt hsp) (cE_sp hsp) rfl dX5_isOnly_1 ?_
  refine m_iload_n h dX5_isOnly_4 rfl rfl ?_
  refine m_iald h (ar_sp1 hsp) (by omega) (by omega) dX5_isOnly_5 ?_
  refine m_iload_n h dX5_isOnly_6 rfl rfl ?_
  refine m_icmp_ne h dX5_isOnly_7 (tgt := 24) (by decide) (by omega) (by omega) (fun c1 => ?_) (fun c1 => ?_)
  · skip
    refine m_iconst h dX5_isOnly_24 ?_
    refine m_zret h hR rfl dX5_isOnly_25 (by omega) ?_
    exact ⟨rfl, bz0 (by omega)⟩
  · skip
    refine m_aload_n h dX5_isOnly_10 rfl rfl ?_
    refine m_get h fo_X5_15 (isSp_lt hsp) (cE_sp hsp) rfl dX5_isOnly_11 ?_
    refine m_iload_n h dX5_isOnly_14 rfl rfl ?_
    refine m_iald h (ar_sp2 hsp) (by omega) (by omega) dX5_isOnly_15 ?_
    refine m_iload_n h dX5_isOnly_16 rfl rfl ?_
    refine m_icmp_ne h dX5_isOnly_17 (tgt := 24) (by decide) (by omega) (by omega) (fun c2 => ?_) (fun c2 => ?_)
    · skip
      refine m_iconst h dX5_isOnly_24 ?_
      refine m_zret h hR rfl dX5_isOnly_25 (by omega) ?_
      exact ⟨rfl, bz0 (by omega)⟩
    · skip
      refine m_iconst h dX5_isOnly_20 ?_
      refine m_goto h dX5_isOnly_21 (tgt := 25) (by decide) ?_
      refine m_zret h hR rfl dX5_isOnly_25 (by omega) ?_
      exact ⟨rfl, bz1 (by omega)⟩
end
section
/-! sums over the first k names; what is known of a row, of spans -/
def sm (g : Int → Int) : Nat → Int
  | 0 => 0
  | k + 1 => sm g k + g (k : Int)
theorem sm_b {g : Int → Int} {B : Int} (h : ∀ x, -B ≤ g x ∧ g x ≤ B) : ∀ k : Nat, -(B * k) ≤ sm g k ∧ sm g k ≤ B * k
  | 0 => by simp [sm]
  | k + 1 => by
    have h1 := sm_b h k
    have h2 := h (k : Int)
    simp only [sm]
    have e : B * ((k + 1 : Nat) : Int) = B * k + B := by
      rw [Int.natCast_add, Int.mul_add]
      simp
    rw [e]
    omega
theorem sm_c {g g' : Int → Int} : ∀ k : Nat, (∀ j : Nat, j < k → g j = g' j) → sm g k = sm g' k
  | 0, _ => rfl
  | k + 1, h => by
    simp only [sm]
    rw [sm_c k (fun j hj => h j (by omega)), h k (by omega)]
def RM (v : Mem) : Prop := ∀ i x, -2147483648 ≤ v.1 i x ∧ v.1 i x ≤ 2147483647
def SpOk (v : Mem) (si : Nat) : Prop := ∀ x, -32 ≤ v.1 (si + 1) x ∧ v.1 (si + 1) x ≤ v.1 (si + 2) x ∧ v.1 (si + 2) x ≤ 31
def RwOk (v : Mem) (r : Nat) : Prop := (0 ≤ v.1 (40 + r) 0 ∧ v.1 (40 + r) 0 ≤ 9) ∧ (-1 ≤ v.1 (40 + r) 1 ∧ v.1 (40 + r) 1 ≤ 7) ∧ (-1 ≤ v.1 (40 + r) 2 ∧ v.1 (40 + r) 2 ≤ 7) ∧ (-1 ≤ v.1 (40 + r) 3 ∧ v.1 (40 + r) 3 ≤ 7) ∧ (-1000 ≤ v.1 (40 + r) 4 ∧ v.1 (40 + r) 4 ≤ 1000) ∧ (∀ x, -9 ≤ v.1 (52 + r) x ∧ v.1 (52 + r) x ≤ 9) ∧
  (v.1 (40 + r) 0 ≤ 1 → v.1 (40 + r) 1 = -1 ∧ v.1 (40 + r) 2 = -1 ∧ v.1 (40 + r) 3 = -1) ∧
  ((v.1 (40 + r) 0 = 2 ∨ v.1 (40 + r) 0 = 3 ∨ v.1 (40 + r) 0 = 5 ∨ v.1 (40 + r) 0 = 6) → 0 ≤ v.1 (40 + r) 1 ∧ 0 ≤ v.1 (40 + r) 2 ∧ 0 ≤ v.1 (40 + r) 3 ∧ v.1 (40 + r) 1 ≠ v.1 (40 + r) 2 ∧ v.1 (40 + r) 1 ≠ v.1 (40 + r) 3 ∧ v.1 (40 + r) 2 ≠ v.1 (40 + r) 3) ∧
  ((v.1 (40 + r) 0 = 4 ∨ v.1 (40 + r) 0 = 7) → 0 ≤ v.1 (40 + r) 1 ∧ 0 ≤ v.1 (40 + r) 2 ∧ v.1 (40 + r) 3 = -1 ∧ v.1 (40 + r) 1 ≠ v.1 (40 + r) 2) ∧
  ((v.1 (40 + r) 0 = 8 ∨ v.1 (40 + r) 0 = 9) → 0 ≤ v.1 (40 + r) 1 ∧ v.1 (40 + r) 2 = -1 ∧ v.1 (40 + r) 3 = -1 ∧ v.1 (52 + r) (v.1 (40 + r) 1) = 0) ∧
  (2 ≤ v.1 (40 + r) 0 → v.1 (40 + r) 0 ≤ 7 → ∀ x, v.1 (52 + r) x = 0)
theorem mem_ext {u w : Mem} (h1 : ∀ i x, u.1 i x = w.1 i x) (h2 : ∀ i x, u.2 i x = w.2 i x) : u = w := by
  obtain ⟨a, b⟩ := u
  obtain ⟨c, d⟩ := w
  have e1 : a = c := by funext i x; exact h1 i x
  have e2 : b = d := by funext i x; exact h2 i x
  rw [e1, e2]

theorem cE_rowp0 (G : GT) (v : Mem) {r : Nat} (hr : r < 12) {z : Int} : cE G (wI v (40 + r) 0 z) (40 + r) = .inr (1, ([oI (v.1 (40 + r)) 0, oI (v.1 (40 + r)) 1, oI (v.1 (40 + r)) 2, oI (v.1 (40 + r)) 3, oI (v.1 (40 + r)) 4, .ref (G.2.1 (52 + r))] : List Value).set 0 (.int (iI z))) := by
  rw [cE_row G _ hr]
  simp [wI, u2, oI]
theorem cE_rowp1 (G : GT) (v : Mem) {r : Nat} (hr : r < 12) {z : Int} : cE G (wI v (40 + r) 1 z) (40 + r) = .inr (1, ([oI (v.1 (40 + r)) 0, oI (v.1 (40 + r)) 1, oI (v.1 (40 + r)) 2, oI (v.1 (40 + r)) 3, oI (v.1 (40 + r)) 4, .ref (G.2.1 (52 + r))] : List Value).set 1 (.int (iI z))) := by
  rw [cE_row G _ hr]
  simp [wI, u2, oI]
theorem cE_rowp2 (G : GT) (v : Mem) {r : Nat} (hr : r < 12) {z : Int} : cE G (wI v (40 + r) 2 z) (40 + r) = .inr (1, ([oI (v.1 (40 + r)) 0, oI (v.1 (40 + r)) 1, oI (v.1 (40 + r)) 2, oI (v.1 (40 + r)) 3, oI (v.1 (40 + r)) 4, .ref (G.2.1 (52 + r))] : List Value).set 2 (.int (iI z))) := by
  rw [cE_row G _ hr]
  simp [wI, u2, oI]
theorem cE_rowp3 (G : GT) (v : Mem) {r : Nat} (hr : r < 12) {z : Int} : cE G (wI v (40 + r) 3 z) (40 + r) = .inr (1, ([oI (v.1 (40 + r)) 0, oI (v.1 (40 + r)) 1, oI (v.1 (40 + r)) 2, oI (v.1 (40 + r)) 3, oI (v.1 (40 + r)) 4, .ref (G.2.1 (52 + r))] : List Value).set 3 (.int (iI z))) := by
  rw [cE_row G _ hr]
  simp [wI, u2, oI]
theorem cE_rowp4 (G : GT) (v : Mem) {r : Nat} (hr : r < 12) {z : Int} : cE G (wI v (40 + r) 4 z) (40 + r) = .inr (1, ([oI (v.1 (40 + r)) 0, oI (v.1 (40 + r)) 1, oI (v.1 (40 + r)) 2, oI (v.1 (40 + r)) 3, oI (v.1 (40 + r)) 4, .ref (G.2.1 (52 + r))] : List Value).set 4 (.int (iI z))) := by
  rw [cE_row G _ hr]
  simp [wI, u2, oI]
set_option maxRecDepth 100000 in
set_option maxHeartbeats 4000000 in
theorem c_meets (l : Launch) {G : GT} (hG : gok G) {si : Nat} (hsp : isSp si) (v : Mem) (n p q : Int) (hn : 0 ≤ n ∧ n < 8) (hp : -2147483648 ≤ p ∧ p ≤ 2147483647) (hq : -2147483648 ≤ q ∧ q ≤ 2147483647) (hm : SpOk v si) : CC l G nX5_meets 1 [.ref (G.2.1 si), .int (iI n), .int (iI p), .int (iI q)] v (qI G (fun r u => u = v ∧ bz r (v.1 (si + 1) n ≤ q ∧ v.1 (si + 1) n ≤ v.1 (si + 2) n ∧ p ≤ v.1 (si + 2) n ∧ p ≤ q))) := by
  refine m_start (lv := [some (.ref (G.2.1 si)), some (.int (iI n)), some (.int (iI p)), some (.int (iI q))]) hG (by decide +kernel) rfl (Nat.le_of_ble_eq_true rfl) ?_
  intro X hL h hR
  subst hL
  have h1 := hm n
  show M X G 4 v 0 [some (.ref (G.2.1 si)), some (.int (iI n)), some (.int (iI p)), some (.int (iI q))] []
  refine m_aload_n h dX5_meets_0 rfl rfl ?_
  refine m_get h fo_X5_9 (isSp_lt hsp) (cE_sp hsp) rfl dX5_meets_1 ?_
  refine m_iload_n h dX5_meets_4 rfl rfl ?_
  refine m_iald h (ar_sp1 hsp) (by omega) (by omega) dX5_meets_5 ?_
  refine m_iload_n h dX5_meets_6 rfl rfl ?_
  refine m_max h lk_X5_31 dX5_meets_7 (by decide) (Nat.le_of_ble_eq_true rfl) (by omega) (by omega) ?_
  refine m_aload_n h dX5_meets_10 rfl rfl ?_
  refine m_get h fo_X5_15 (isSp_lt hsp) (cE_sp hsp) rfl dX5_meets_11 ?_
  refine m_iload_n h dX5_meets_14 rfl rfl ?_
  refine m_iald h (ar_sp2 hsp) (by omega) (by omega) dX5_meets_15 ?_
  refine m_iload_n h dX5_meets_16 rfl rfl ?_
  refine m_min h lk_X5_37 dX5_meets_17 (by decide) (Nat.le_of_ble_eq_true rfl) (by omega) (by omega) ?_
  refine m_icmp_gt h dX5_meets_20 (tgt := 27) (by decide) (by omega) (by omega) (fun c1 => ?_) (fun c1 => ?_)
  · skip
    refine m_iconst h dX5_meets_27 ?_
    refine m_zret h hR rfl dX5_meets_28 (by omega) ?_
    exact ⟨rfl, bz0 (by omega)⟩
  · skip
    refine m_iconst h dX5_meets_23 ?_
    refine m_goto h dX5_meets_24 (tgt := 28) (by decide) ?_
    refine m_zret h hR rfl dX5_meets_28 (by omega) ?_
    exact ⟨rfl, bz1 (by omega)⟩

set_option maxRecDepth 100000 in
set_option maxHeartbeats 4000000 in
theorem c_copy (l : Launch) {G : GT} (hG : gok G) {si sj : Nat} (hsp : isSp si) (hsq : isSp sj) (v : Mem) : CC l G nX5_copy 1 [.ref (G.2.1 si), .ref (G.2.1 sj)] v (qV G (fun u => u = cpI (cpI v (sj + 1) (si + 1) 8) (sj + 2) (si + 2) 8)) := by
  refine m_start (lv := [some (.ref (G.2.1 si)), some (.ref (G.2.1 sj))]) hG (by decide +kernel) rfl (Nat.le_of_ble_eq_true rfl) ?_
  intro X hL h hR
  subst hL
  show M X G 2 v 0 [some (.ref (G.2.1 si)), some (.ref (G.2.1 sj))] []
  refine m_aload_n h dX5_copy_0 rfl rfl ?_
  refine m_get h fo_X5_9 (isSp_lt hsq) (cE_sp hsq) rfl dX5_copy_1 ?_
  refine m_iconst h dX5_copy_4 ?_
  refine m_aload_n h dX5_copy_5 rfl rfl ?_
  refine m_get h fo_X5_9 (isSp_lt hsp) (cE_sp hsp) rfl dX5_copy_6 ?_
  refine m_iconst h dX5_copy_9 ?_
  refine m_bipush h dX5_copy_10 (by decide) ?_
  refine m_copyI h lk_X5_25 dX5_copy_12 (by decide) (Nat.le_of_ble_eq_true rfl) (ar_sp1 hsq) (ar_sp1 hsp) rfl ?_
  refine m_aload_n h dX5_copy_15 rfl rfl ?_
  refine m_get h fo_X5_15 (isSp_lt hsq) (cE_sp hsq) rfl dX5_copy_16 ?_
  refine m_iconst h dX5_copy_19 ?_
  refine m_aload_n h dX5_copy_20 rfl rfl ?_
  refine m_get h fo_X5_15 (isSp_lt hsp) (cE_sp hsp) rfl dX5_copy_21 ?_
  refine m_iconst h dX5_copy_24 ?_
  refine m_bipush h dX5_copy_25 (by decide) ?_
  refine m_copyI h lk_X5_25 dX5_copy_27 (by decide) (Nat.le_of_ble_eq_true rfl) (ar_sp2 hsq) (ar_sp2 hsp) rfl ?_
  refine m_vret h hR rfl dX5_copy_30 ?_
  rfl

set_option maxRecDepth 100000 in
set_option maxHeartbeats 4000000 in
theorem c_copyPart (l : Launch) {G : GT} (hG : gok G) {si sj : Nat} (hsp : isSp si) (hsq : isSp sj) (v : Mem) (n b : Int) (hn : 0 ≤ n ∧ n < 8) (hb : b = 0 ∨ b = 1) : CC l G nX5_copyPart 0 [.ref (G.2.1 si), .int (iI (2 * n + b)), .ref (G.2.1 sj)] v (qV G (fun u => u = if b = 1 then wI v (si + 2) n (v.1 (sj + 2) n) else wI v (si + 1) n (v.1 (sj + 1) n))) := by
  refine m_start (lv := [some (.ref (G.2.1 si)), some (.int (iI (2 * n + b))), some (.ref (G.2.1 sj)), none]) hG (by decide +kernel) rfl (Nat.le_of_ble_eq_true rfl) ?_
  intro X hL h hR
  subst hL
  have e1 : (2 * n + b).tdiv 2 = n := by rw [Int.tdiv_eq_ediv_of_nonneg (by omega)]; omega
  have e2 : (2 * n + b).tmod 2 = b := by rw [Int.tmod_eq_emod_of_nonneg (by omega)]; omega
  show M X G 4 v 0 [some (.ref (G.2.1 si)), some (.int (iI (2 * n + b))), some (.ref (G.2.1 sj)), none] []
  refine m_iload_n h dX5_copyPart_0 rfl rfl ?_
  refine m_iconst h dX5_copyPart_1 ?_
  refine m_idiv h dX5_copyPart_2 (by omega) (by omega) (by omega) ?_
  rw [e1]
  refine m_istore_n h dX5_copyPart_3 rfl (by decide) rfl ?_
  refine m_iload_n h dX5_copyPart_4 rfl rfl ?_
  refine m_iconst h dX5_copyPart_5 ?_
  refine m_irem h dX5_copyPart_6 (by omega) (by omega) (by omega) ?_
  rw [e2]
  refine m_iconst h dX5_copyPart_7 ?_
  refine m_icmp_ne h dX5_copyPart_8 (tgt := 26) (by decide) (by omega) (by omega) (fun c1 => ?_) (fun c1 => ?_)
  · skip
    refine m_aload_n h dX5_copyPart_26 rfl rfl ?_
    refine m_get h fo_X5_9 (isSp_lt hsp) (cE_sp hsp) rfl dX5_copyPart_27 ?_
    refine m_iload_n h dX5_copyPart_30 rfl rfl ?_
    refine m_aload_n h dX5_copyPart_31 rfl rfl ?_
    refine m_get h fo_X5_9 (isSp_lt hsq) (cE_sp hsq) rfl dX5_copyPart_32 ?_
    refine m_iload_n h dX5_copyPart_35 rfl rfl ?_
    refine m_iald h (ar_sp1 hsq) (by omega) (by omega) dX5_copyPart_36 ?_
    refine m_iast h (ar_sp1 hsp) (by omega) (by omega) dX5_copyPart_37 ?_
    refine m_vret h hR rfl dX5_copyPart_38 ?_
    rw [if_neg (by omega)]
  · skip
    refine m_aload_n h dX5_copyPart_11 rfl rfl ?_
    refine m_get h fo_X5_15 (isSp_lt hsp) (cE_sp hsp) rfl dX5_copyPart_12 ?_
    refine m_iload_n h dX5_copyPart_15 rfl rfl ?_
    refine m_aload_n h dX5_copyPart_16 rfl rfl ?_
    refine m_get h fo_X5_15 (isSp_lt hsq) (cE_sp hsq) rfl dX5_copyPart_17 ?_
    refine m_iload_n h dX5_copyPart_20 rfl rfl ?_
    refine m_iald h (ar_sp2 hsq) (by omega) (by omega) dX5_copyPart_21 ?_
    refine m_iast h (ar_sp2 hsp) (by omega) (by omega) dX5_copyPart_22 ?_
    refine m_goto h dX5_copyPart_23 (tgt := 38) (by decide) ?_
    refine m_vret h hR rfl dX5_copyPart_38 ?_
    rw [if_pos (by omega)]

set_option maxRecDepth 100000 in
set_option maxHeartbeats 4000000 in
theorem c_isAbout (l : Launch) {G : GT} (hG : gok G) (v : Mem) {r : Nat} (hr : r < 12) (hrw : RwOk v r) (n : Int) (hn : 0 ≤ n ∧ n < 8) : CC l G nX1_isAbout 0 [.ref (G.2.1 (40 + r)), .int (iI n)] v (qI G (fun z u => u = v ∧ bz z (n = v.1 (40 + r) 1 ∨ n = v.1 (40 + r) 2 ∨ n = v.1 (40 + r) 3 ∨ v.1 (52 + r) n ≠ 0))) := by
  refine m_start (lv := [some (.ref (G.2.1 (40 + r))), some (.int (iI n))]) hG (by decide +kernel) rfl (Nat.le_of_ble_eq_true rfl) ?_
  intro X hL h hR
  subst hL
  obtain ⟨k0, a0, b0, c0, R0, f0, -, -, -, -, -⟩ := hrw
  have f1 := f0 n
  show M X G 2 v 0 [some (.ref (G.2.1 (40 + r))), some (.int (iI n))] []
  refine m_iload_n h dX1_isAbout_0 rfl rfl ?_
  refine m_aload_n h dX1_isAbout_1 rfl rfl ?_
  refine m_get h fo_X1_15 (by omega) (cE_row G _ hr) rfl dX1_isAbout_2 ?_
  refine m_icmp_eq h dX1_isAbout_5 (tgt := 33) (by decide) (by omega) (by omega) (fun c1 => ?_) (fun c1 => ?_)
  · skip
    refine m_iconst h dX1_isAbout_33 ?_
    refine m_goto h dX1_isAbout_34 (tgt := 38) (by decide) ?_
    refine m_zret h hR rfl dX1_isAbout_38 (by omega) ?_
    exact ⟨rfl, bz1 (by omega)⟩
  · skip
    refine m_iload_n h dX1_isAbout_8 rfl rfl ?_
    refine m_aload_n h dX1_isAbout_9 rfl rfl ?_
    refine m_get h fo_X1_18 (by omega) (cE_row G _ hr) rfl dX1_isAbout_10 ?_
    refine m_icmp_eq h dX1_isAbout_13 (tgt := 33) (by decide) (by omega) (by omega) (fun c2 => ?_) (fun c2 => ?_)
    · skip
      refine m_iconst h dX1_isAbout_33 ?_
      refine m_goto h dX1_isAbout_34 (tgt := 38) (by decide) ?_
      refine m_zret h hR rfl dX1_isAbout_38 (by omega) ?_
      exact ⟨rfl, bz1 (by omega)⟩
    · skip
      refine m_iload_n h dX1_isAbout_16 rfl rfl ?_
      refine m_aload_n h dX1_isAbout_17 rfl rfl ?_
      refine m_get h fo_X1_21 (by omega) (cE_row G _ hr) rfl dX1_isAbout_18 ?_
      refine m_icmp_eq h dX1_isAbout_21 (tgt := 33) (by decide) (by omega) (by omega) (fun c3 => ?_) (fun c3 => ?_)
      · skip
        refine m_iconst h dX1_isAbout_33 ?_
        refine m_goto h dX1_isAbout_34 (tgt := 38) (by decide) ?_
        refine m_zret h hR rfl dX1_isAbout_38 (by omega) ?_
        exact ⟨rfl, bz1 (by omega)⟩
      · skip
        refine m_aload_n h dX1_isAbout_24 rfl rfl ?_
        refine m_get h fo_X1_27 (by omega) (cE_row G _ hr) rfl dX1_isAbout_25 ?_
        refine m_iload_n h dX1_isAbout_28 rfl rfl ?_
        refine m_iald h (ar_fac G hr) (by omega) (by omega) dX1_isAbout_29 ?_
        refine m_if_eq h dX1_isAbout_30 (tgt := 37) (by decide) (by omega) (fun c4 => ?_) (fun c4 => ?_)
        · skip
          refine m_iconst h dX1_isAbout_37 ?_
          refine m_zret h hR rfl dX1_isAbout_38 (by omega) ?_
          exact ⟨rfl, bz0 (by omega)⟩
        · skip
          refine m_iconst h dX1_isAbout_33 ?_
          refine m_goto h dX1_isAbout_34 (tgt := 38) (by decide) ?_
          refine m_zret h hR rfl dX1_isAbout_38 (by omega) ?_
          exact ⟨rfl, bz1 (by omega)⟩

set_option maxRecDepth 100000 in
set_option maxHeartbeats 4000000 in
theorem c_hasFactors (l : Launch) {G : GT} (hG : gok G) (v : Mem) {r : Nat} (hr : r < 12) (hrw : RwOk v r) : CC l G nX1_hasFactors 0 [.ref (G.2.1 (40 + r))] v (qI G (fun z u => u = v ∧ bz z (v.1 (40 + r) 0 ≤ 1 ∨ 8 ≤ v.1 (40 + r) 0))) := by
  refine m_start (lv := [some (.ref (G.2.1 (40 + r)))]) hG (by decide +kernel) rfl (Nat.le_of_ble_eq_true rfl) ?_
  intro X hL h hR
  subst hL
  obtain ⟨k0, a0, b0, c0, R0, f0, -, -, -, -, -⟩ := hrw
  show M X G 1 v 0 [some (.ref (G.2.1 (40 + r)))] []
  refine m_aload_n h dX1_hasFactors_0 rfl rfl ?_
  refine m_get h fo_X1_9 (by omega) (cE_row G _ hr) rfl dX1_hasFactors_1 ?_
  refine m_if_eq h dX1_hasFactors_4 (tgt := 33) (by decide) (by omega) (fun c1 => ?_) (fun c1 => ?_)
  · skip
    refine m_iconst h dX1_hasFactors_33 ?_
    refine m_goto h dX1_hasFactors_34 (tgt := 38) (by decide) ?_
    refine m_zret h hR rfl dX1_hasFactors_38 (by omega) ?_
    exact ⟨rfl, bz1 (by omega)⟩
  · skip
    refine m_aload_n h dX1_hasFactors_7 rfl rfl ?_
    refine m_get h fo_X1_9 (by omega) (cE_row G _ hr) rfl dX1_hasFactors_8 ?_
    refine m_iconst h dX1_hasFactors_11 ?_
    refine m_icmp_eq h dX1_hasFactors_12 (tgt := 33) (by decide) (by omega) (by omega) (fun c2 => ?_) (fun c2 => ?_)
    · skip
      refine m_iconst h dX1_hasFactors_33 ?_
      refine m_goto h dX1_hasFactors_34 (tgt := 38) (by decide) ?_
      refine m_zret h hR rfl dX1_hasFactors_38 (by omega) ?_
      exact ⟨rfl, bz1 (by omega)⟩
    · skip
      refine m_aload_n h dX1_hasFactors_15 rfl rfl ?_
      refine m_get h fo_X1_9 (by omega) (cE_row G _ hr) rfl dX1_hasFactors_16 ?_
      refine m_bipush h dX1_hasFactors_19 (by decide) ?_
      refine m_icmp_eq h dX1_hasFactors_21 (tgt := 33) (by decide) (by omega) (by omega) (fun c3 => ?_) (fun c3 => ?_)
      · skip
        refine m_iconst h dX1_hasFactors_33 ?_
        refine m_goto h dX1_hasFactors_34 (tgt := 38) (by decide) ?_
        refine m_zret h hR rfl dX1_hasFactors_38 (by omega) ?_
        exact ⟨rfl, bz1 (by omega)⟩
      · skip
        refine m_aload_n h dX1_hasFactors_24 rfl rfl ?_
        refine m_get h fo_X1_9 (by omega) (cE_row G _ hr) rfl dX1_hasFactors_25 ?_
        refine m_bipush h dX1_hasFactors_28 (by decide) ?_
        refine m_icmp_ne h dX1_hasFactors_30 (tgt := 37) (by decide) (by omega) (by omega) (fun c4 => ?_) (fun c4 => ?_)
        · skip
          refine m_iconst h dX1_hasFactors_37 ?_
          refine m_zret h hR rfl dX1_hasFactors_38 (by omega) ?_
          exact ⟨rfl, bz0 (by omega)⟩
        · skip
          refine m_iconst h dX1_hasFactors_33 ?_
          refine m_goto h dX1_hasFactors_34 (tgt := 38) (by decide) ?_
          refine m_zret h hR rfl dX1_hasFactors_38 (by omega) ?_
          exact ⟨rfl, bz1 (by omega)⟩

set_option maxRecDepth 100000 in
set_option maxHeartbeats 4000000 in
theorem c_tie (l : Launch) {G : GT} (hG : gok G) (v : Mem) {r : Nat} (hr : r < 12) (a b c : Int) : CC l G nX1_tie 0 [.ref (G.2.1 (40 + r)), .int (iI a), .int (iI b), .int (iI c)] v (qV G (fun u => u = wI (wI (wI v (40 + r) 1 a) (40 + r) 2 b) (40 + r) 3 c)) := by
  refine m_start (lv := [some (.ref (G.2.1 (40 + r))), some (.int (iI a)), some (.int (iI b)), some (.int (iI c))]) hG (by decide +kernel) rfl (Nat.le_of_ble_eq_true rfl) ?_
  intro X hL h hR
  subst hL
  show M X G 4 v 0 [some (.ref (G.2.1 (40 + r))), some (.int (iI a)), some (.int (iI b)), some (.int (iI c))] []
  refine m_aload_n h dX1_tie_0 rfl rfl ?_
  refine m_iload_n h dX1_tie_1 rfl rfl ?_
  refine m_putJ h fw_X1_15 (by omega) (cE_row G _ hr) (Nat.le_of_ble_eq_true rfl) (kz := 1) rfl (cE_rowp1 G _ hr) dX1_tie_2 ?_
  refine m_aload_n h dX1_tie_5 rfl rfl ?_
  refine m_iload_n h dX1_tie_6 rfl rfl ?_
  refine m_putJ h fw_X1_18 (by omega) (cE_row G _ hr) (Nat.le_of_ble_eq_true rfl) (kz := 2) rfl (cE_rowp2 G _ hr) dX1_tie_7 ?_
  refine m_aload_n h dX1_tie_10 rfl rfl ?_
  refine m_iload_n h dX1_tie_11 rfl rfl ?_
  refine m_putJ h fw_X1_21 (by omega) (cE_row G _ hr) (Nat.le_of_ble_eq_true rfl) (kz := 3) rfl (cE_rowp3 G _ hr) dX1_tie_12 ?_
  refine m_vret h hR rfl dX1_tie_15 ?_
  rfl

set_option maxRecDepth 100000 in
set_option maxHeartbeats 4000000 in
theorem c_sumOf (l : Launch) {G : GT} (hG : gok G) (v : Mem) {r : Nat} (hr : r < 12) (hrw : RwOk v r) (hch : ∀ x, -32 ≤ v.1 23 x ∧ v.1 23 x ≤ 31) : CC l G nX1_sumOf 0 [.ref (G.2.1 (40 + r)), .ref (G.2.1 23)] v (qI G (fun z u => u = v ∧ z = sm (fun n => v.1 (52 + r) n * v.1 23 n) 8)) := by
  refine m_start (lv := [some (.ref (G.2.1 (40 + r))), some (.ref (G.2.1 23)), none, none]) hG (by decide +kernel) rfl (Nat.le_of_ble_eq_true rfl) ?_
  intro X hL h hR
  subst hL
  show M X G 4 v 0 [some (.ref (G.2.1 (40 + r))), some (.ref (G.2.1 23)), none, none] []
  refine m_iconst h dX1_sumOf_0 ?_
  refine m_istore_n h dX1_sumOf_1 rfl (by decide) rfl ?_
  refine m_iconst h dX1_sumOf_2 ?_
  refine m_istore_n h dX1_sumOf_3 rfl (by decide) rfl ?_
  have lp4 : ∀ (fuel : Nat) (k : Nat), k ≤ 8 → 8 - k < fuel → M X G 4 v 4 [some (.ref (G.2.1 (40 + r))), some (.ref (G.2.1 23)), some (.int (iI (sm (fun n => v.1 (52 + r) n * v.1 23 n) k))), some (.int (iI (k : Int)))] [] := by
    intro fuel
    induction fuel with
    | zero => intro k hy0 hy1; exfalso; omega
    | succ fuel ih =>
      intro k hy0 hy1
      refine m_iload_n h dX1_sumOf_4 rfl rfl ?_
      refine m_bipush h dX1_sumOf_5 (by decide) ?_
      refine m_icmp_ge h dX1_sumOf_7 (tgt := 29) (by decide) (by omega) (by omega) (fun c1 => ?_) (fun c1 => ?_)
      · skip
        refine m_iload_n h dX1_sumOf_29 rfl rfl ?_
        refine m_iret h hR rfl dX1_sumOf_30 ?_
        exact ⟨rfl, by rw [show k = 8 by omega]⟩
      · skip
        refine m_iload_n h dX1_sumOf_10 rfl rfl ?_
        refine m_aload_n h dX1_sumOf_11 rfl rfl ?_
        refine m_get h fo_X1_27 (by omega) (cE_row G _ hr) rfl dX1_sumOf_12 ?_
        refine m_iload_n h dX1_sumOf_15 rfl rfl ?_
        refine m_iald h (ar_fac G hr) (by omega) (by omega) dX1_sumOf_16 ?_
        refine m_aload_n h dX1_sumOf_17 rfl rfl ?_
        refine m_iload_n h dX1_sumOf_18 rfl rfl ?_
        refine m_iald h (ar_23 G) (by omega) (by omega) dX1_sumOf_19 ?_
        refine m_imul h dX1_sumOf_20 ?_
        refine m_iadd h dX1_sumOf_21 ?_
        refine m_istore_n h dX1_sumOf_22 rfl (by decide) rfl ?_
        refine m_iinc h dX1_sumOf_23 rfl (by decide) rfl ?_
        refine m_goto h dX1_sumOf_26 (tgt := 4) (by decide) ?_
        exact ih (k + 1) (by omega) (by omega)
  exact lp4 9 0 (by omega) (by omega)

set_option maxRecDepth 100000 in
set_option maxHeartbeats 4000000 in
theorem c_countOf (l : Launch) {G : GT} (hG : gok G) (v : Mem) {r : Nat} (hr : r < 12) (hrw : RwOk v r) (hch : ∀ x, -32 ≤ v.1 23 x ∧ v.1 23 x ≤ 31) : CC l G nX1_countOf 0 [.ref (G.2.1 (40 + r)), .ref (G.2.1 23)] v (qI G (fun z u => u = v ∧ z = sm (fun n => if v.1 (52 + r) n ≠ 0 ∧ v.1 23 n = v.1 (40 + r) 4 then 1 else 0) 8)) := by
  refine m_start (lv := [some (.ref (G.2.1 (40 + r))), some (.ref (G.2.1 23)), none, none]) hG (by decide +kernel) rfl (Nat.le_of_ble_eq_true rfl) ?_
  intro X hL h hR
  subst hL
  obtain ⟨k0, a0, b0, c0, R0, f0, -, -, -, -, -⟩ := hrw
  show M X G 4 v 0 [some (.ref (G.2.1 (40 + r))), some (.ref (G.2.1 23)), none, none] []
  refine m_iconst h dX1_countOf_0 ?_
  refine m_istore_n h dX1_countOf_1 rfl (by decide) rfl ?_
  refine m_iconst h dX1_countOf_2 ?_
  refine m_istore_n h dX1_countOf_3 rfl (by decide) rfl ?_
  have lp4 : ∀ (fuel : Nat) (k : Nat), k ≤ 8 → 8 - k < fuel → M X G 4 v 4 [some (.ref (G.2.1 (40 + r))), some (.ref (G.2.1 23)), some (.int (iI (sm (fun n => if v.1 (52 + r) n ≠ 0 ∧ v.1 23 n = v.1 (40 + r) 4 then 1 else 0) k))), some (.int (iI (k : Int)))] [] := by
    intro fuel
    induction fuel with
    | zero => intro k hy0 hy1; exfalso; omega
    | succ fuel ih =>
      intro k hy0 hy1
      have f1 := f0 k
      have h1 := hch k
      refine m_iload_n h dX1_countOf_4 rfl rfl ?_
      refine m_bipush h dX1_countOf_5 (by decide) ?_
      refine m_icmp_ge h dX1_countOf_7 (tgt := 38) (by decide) (by omega) (by omega) (fun c1 => ?_) (fun c1 => ?_)
      · skip
        refine m_iload_n h dX1_countOf_38 rfl rfl ?_
        refine m_iret h hR rfl dX1_countOf_39 ?_
        exact ⟨rfl, by rw [show k = 8 by omega]⟩
      · skip
        refine m_aload_n h dX1_countOf_10 rfl rfl ?_
        refine m_get h fo_X1_27 (by omega) (cE_row G _ hr) rfl dX1_countOf_11 ?_
        refine m_iload_n h dX1_countOf_14 rfl rfl ?_
        refine m_iald h (ar_fac G hr) (by omega) (by omega) dX1_countOf_15 ?_
        refine m_if_eq h dX1_countOf_16 (tgt := 32) (by decide) (by omega) (fun c2 => ?_) (fun c2 => ?_)
        · skip
          refine m_iinc h dX1_countOf_32 rfl (by decide) rfl ?_
          refine m_goto h dX1_countOf_35 (tgt := 4) (by decide) ?_
          have e : sm (fun n => if v.1 (52 + r) n ≠ 0 ∧ v.1 23 n = v.1 (40 + r) 4 then 1 else 0) (k + 1) = sm (fun n => if v.1 (52 + r) n ≠ 0 ∧ v.1 23 n = v.1 (40 + r) 4 then 1 else 0) k := by simp only [sm]; rw [if_neg (by omega), Int.add_zero]
          rw [← e]
          exact ih (k + 1) (by omega) (by omega)
        · skip
          refine m_aload_n h dX1_countOf_19 rfl rfl ?_
          refine m_iload_n h dX1_countOf_20 rfl rfl ?_
          refine m_iald h (ar_23 G) (by omega) (by omega) dX1_countOf_21 ?_
          refine m_aload_n h dX1_countOf_22 rfl rfl ?_
          refine m_get h fo_X1_24 (by omega) (cE_row G _ hr) rfl dX1_countOf_23 ?_
          refine m_icmp_ne h dX1_countOf_26 (tgt := 32) (by decide) (by omega) (by omega) (fun c3 => ?_) (fun c3 => ?_)
          · skip
            refine m_iinc h dX1_countOf_32 rfl (by decide) rfl ?_
            refine m_goto h dX1_countOf_35 (tgt := 4) (by decide) ?_
            have e : sm (fun n => if v.1 (52 + r) n ≠ 0 ∧ v.1 23 n = v.1 (40 + r) 4 then 1 else 0) (k + 1) = sm (fun n => if v.1 (52 + r) n ≠ 0 ∧ v.1 23 n = v.1 (40 + r) 4 then 1 else 0) k := by simp only [sm]; rw [if_neg (by omega), Int.add_zero]
            rw [← e]
            exact ih (k + 1) (by omega) (by omega)
          · skip
            refine m_iinc h dX1_countOf_29 rfl (by decide) rfl ?_
            refine m_iinc h dX1_countOf_32 rfl (by decide) rfl ?_
            refine m_goto h dX1_countOf_35 (tgt := 4) (by decide) ?_
            have e : sm (fun n => if v.1 (52 + r) n ≠ 0 ∧ v.1 23 n = v.1 (40 + r) 4 then 1 else 0) (k + 1) = sm (fun n => if v.1 (52 + r) n ≠ 0 ∧ v.1 23 n = v.1 (40 + r) 4 then 1 else 0) k + 1 := by simp only [sm]; rw [if_pos (by omega)]
            rw [← e]
            exact ih (k + 1) (by omega) (by omega)
  exact lp4 9 0 (by omega) (by omega)
end
section
/-! numbers: division rounded down, products, signs -/
theorem mulR {a b : Int} (ha : -40 ≤ a ∧ a ≤ 40) (hb : -40 ≤ b ∧ b ≤ 40) : -1600 ≤ a * b ∧ a * b ≤ 1600 := by
  rcases Int.le_total 0 b with h | h
  · have h1 : a * b ≤ 40 * b := Int.mul_le_mul_of_nonneg_right ha.2 h
    have h2 : (-40) * b ≤ a * b := Int.mul_le_mul_of_nonneg_right ha.1 h
    omega
  · have h1 : 40 * b ≤ a * b := Int.mul_le_mul_of_nonpos_right ha.2 h
    have h2 : a * b ≤ (-40) * b := Int.mul_le_mul_of_nonpos_right ha.1 h
    omega
def fd (a b : Int) : Int := if 0 < b then a / b else (-a) / (-b)
theorem fd_iff {a b q : Int} (hb : b ≠ 0) : fd a b = q ↔ (0 < b ∧ q * b ≤ a ∧ a < q * b + b) ∨ (b < 0 ∧ q * b + b < a ∧ a ≤ q * b) := by
  unfold fd
  by_cases h : 0 < b
  · rw [if_pos h]
    have e1 := Int.le_ediv_iff_mul_le (a := q) (b := a) h
    have e2 := Int.ediv_le_iff_le_mul (x := a) (y := q) h
    omega
  · rw [if_neg h]
    have hb' : 0 < -b := by omega
    have e1 := Int.le_ediv_iff_mul_le (a := q) (b := -a) hb'
    have e2 := Int.ediv_le_iff_le_mul (x := -a) (y := q) hb'
    rw [Int.mul_neg] at e1 e2
    omega
theorem fd_sp {a b : Int} (hb : b ≠ 0) : (0 < b ∧ fd a b * b ≤ a ∧ a < fd a b * b + b) ∨ (b < 0 ∧ fd a b * b + b < a ∧ a ≤ fd a b * b) := (fd_iff hb).mp rfl
theorem tmod_sg {a b : Int} (hb : b ≠ 0) : (0 ≤ a → 0 ≤ a.tmod b) ∧ (a ≤ 0 → a.tmod b ≤ 0) ∧ (0 < b → -b < a.tmod b ∧ a.tmod b < b) ∧ (b < 0 → b < a.tmod b ∧ a.tmod b < -b) := by
  refine ⟨fun h => ?_, fun h => ?_, fun h => ⟨Int.lt_tmod_of_pos a h, Int.tmod_lt_of_pos a h⟩, fun h => ?_⟩
  · rw [Int.tmod_eq_emod_of_nonneg h]; exact Int.emod_nonneg a hb
  · have h1 : (-a).tmod b = -(a.tmod b) := Int.neg_tmod a b
    have h2 : (0 : Int) ≤ (-a).tmod b := by rw [Int.tmod_eq_emod_of_nonneg (by omega)]; exact Int.emod_nonneg _ hb
    omega
  · have h1 : a.tmod (-b) = a.tmod b := Int.tmod_neg a b
    have h2 := Int.lt_tmod_of_pos a (b := -b) (by omega)
    have h3 := Int.tmod_lt_of_pos a (b := -b) (by omega)
    omega
theorem fd_java {a b : Int} (hb : b ≠ 0) : fd a b = if ((a < 0 ∧ 0 < b) ∨ (0 ≤ a ∧ b < 0)) ∧ a.tdiv b * b ≠ a then a.tdiv b - 1 else a.tdiv b := by
  have h0 := Int.tdiv_mul_add_tmod a b
  obtain ⟨h1, h2, h3, h4⟩ := tmod_sg (a := a) hb
  by_cases h : ((a < 0 ∧ 0 < b) ∨ (0 ≤ a ∧ b < 0)) ∧ a.tdiv b * b ≠ a
  · rw [if_pos h, fd_iff hb, Int.sub_mul, Int.one_mul]
    omega
  · rw [if_neg h, fd_iff hb]
    omega
theorem tdiv_rg {a b : Int} (ha : -1000000 ≤ a ∧ a ≤ 1000000) (hb : -1000000 ≤ b ∧ b ≤ 1000000) (h0 : b ≠ 0) : -2000000 ≤ a.tdiv b * b ∧ a.tdiv b * b ≤ 2000000 := by
  have h0 := Int.tdiv_mul_add_tmod a b
  obtain ⟨h1, h2, h3, h4⟩ := tmod_sg (a := a) (b := b) (by assumption)
  omega
theorem fd_rg {a b : Int} (ha : -1000000 ≤ a ∧ a ≤ 1000000) (h0 : b ≠ 0) : -1000001 ≤ fd a b ∧ fd a b ≤ 1000001 := by
  have h := fd_sp (a := a) h0
  rcases h with ⟨hb, h1, h2⟩ | ⟨hb, h1, h2⟩
  · constructor
    · apply Int.not_lt.mp
      intro h3
      have h4 : fd a b * b ≤ (-1000002) * b := Int.mul_le_mul_of_nonneg_right (by omega) (by omega)
      omega
    · apply Int.not_lt.mp
      intro h3
      have h4 : 1000002 * b ≤ fd a b * b := Int.mul_le_mul_of_nonneg_right (by omega) (by omega)
      omega
  · constructor
    · apply Int.not_lt.mp
      intro h3
      have h4 : (-1000002) * b ≤ fd a b * b := Int.mul_le_mul_of_nonpos_right (by omega) (by omega)
      omega
    · apply Int.not_lt.mp
      intro h3
      have h4 : fd a b * b ≤ 1000002 * b := Int.mul_le_mul_of_nonpos_right (by omega) (by omega)
      omega
theorem xsgn {a b : Int} (ha : -2147483648 ≤ a ∧ a ≤ 2147483647) (hb : -2147483648 ≤ b ∧ b ≤ 2147483647) : (iI a ^^^ iI b).toInt < 0 ↔ (a < 0 ∧ 0 ≤ b) ∨ (0 ≤ a ∧ b < 0) := by
  have e : ∀ x : Int32, x.toBitVec.msb = decide (x.toInt < 0) := fun x => BitVec.msb_eq_toInt
  have h1 := e (iI a ^^^ iI b)
  have h2 : (iI a ^^^ iI b).toBitVec = (iI a).toBitVec ^^^ (iI b).toBitVec := rfl
  rw [h2, BitVec.msb_xor, e, e, iI_toInt ha, iI_toInt hb] at h1
  by_cases ha0 : a < 0 <;> by_cases hb0 : b < 0 <;> simp [ha0, hb0] at h1 <;> omega
theorem pd {p x y : Int} (hx : x ≠ 0) (h : x * y = p) : p.tmod x = 0 ∧ p.tdiv x = y := by
  subst h
  exact ⟨Int.mul_tmod_right x y, Int.mul_tdiv_cancel_left y hx⟩
theorem pd' {p x : Int} (h : p.tmod x = 0) : x * p.tdiv x = p := by
  have := Int.mul_tdiv_add_tmod p x
  omega
/-- n times y is at most h, at least l -/
theorem mulHi {n y h : Int} (hn : 0 < n) : n * y ≤ h ↔ y ≤ fd h n := by
  unfold fd
  rw [if_pos hn, Int.le_ediv_iff_mul_le hn, Int.mul_comm]
theorem mulLo {n y l : Int} (hn : 0 < n) : l ≤ n * y ↔ -fd (-l) n ≤ y := by
  have h := mulHi (n := n) (y := -y) (h := -l) hn
  rw [Int.mul_neg] at h
  omega
theorem fd_mono {x y z : Int} (hx : x ≠ 0) (h : y ≤ z) : (0 < x → fd y x ≤ fd z x) ∧ (x < 0 → fd z x ≤ fd y x) := by
  refine ⟨fun hp => ?_, fun hp => ?_⟩
  · unfold fd
    rw [if_pos hp, if_pos hp]
    exact Int.ediv_le_ediv hp h
  · unfold fd
    rw [if_neg (by omega), if_neg (by omega)]
    exact Int.ediv_le_ediv (by omega) (by omega)
/-- every number between the quotients of the ends is one of a number between the ends -/
theorem fd_all {x l h q : Int} (hx : x ≠ 0) (hlh : l ≤ h) (h1 : fd l x ≤ q ∨ fd h x ≤ q) (h2 : q ≤ fd l x ∨ q ≤ fd h x) : ∃ y, l ≤ y ∧ y ≤ h ∧ fd y x = q := by
  obtain ⟨m1, m2⟩ := fd_mono hx hlh
  rcases Int.lt_or_gt_of_ne hx with hn | hp
  · have m := m2 hn
    have s1 := fd_sp (a := l) hx
    have s2 := fd_sp (a := h) hx
    have g1 : fd l x * x ≤ q * x := Int.mul_le_mul_of_nonpos_right (by omega) (by omega)
    have g2 : q * x ≤ fd h x * x := Int.mul_le_mul_of_nonpos_right (by omega) (by omega)
    refine ⟨max l (q * x + x + 1), by omega, by omega, (fd_iff hx).mpr (Or.inr ⟨hn, by omega, by omega⟩)⟩
  · have m := m1 hp
    have s1 := fd_sp (a := l) hx
    have s2 := fd_sp (a := h) hx
    have g1 : fd l x * x ≤ q * x := Int.mul_le_mul_of_nonneg_right (by omega) (by omega)
    have g2 : q * x ≤ fd h x * x := Int.mul_le_mul_of_nonneg_right (by omega) (by omega)
    refine ⟨max l (q * x), by omega, by omega, (fd_iff hx).mpr (Or.inl ⟨hp, by omega, by omega⟩)⟩
end
section
theorem sp_rg {v : Mem} {si : Nat} (h : SpOk v si) (x : Int) : (-32 ≤ v.1 (si + 1) x ∧ v.1 (si + 1) x ≤ 31) ∧ (-32 ≤ v.1 (si + 2) x ∧ v.1 (si + 2) x ≤ 31) := by
  have := h x
  omega
section CallF
variable {G : GT} {v : Mem} {lv : List (Option Value)}
theorem m_startF {l : Launch} {y : MN} {d : Nat} {As : List Value} {Q : Array Value → State → Outcome → State → Prop} (hG : gok G) (hy : plainFor y.1 = true) (hlv : lvl lv = lv_args 0 As) (hln : (lg_sl As).length ≤ y.2.2.1) (body : ∀ X : CX, x_l X = l → Ok X G y.2.2.1 y.2.1 y.1.cls d → Ret X G y Q → M X G y.2.2.1 v 0 lv []) : CC l G y d As v Q := by
  refine va_MetF (cc := y.2.1) (maxL := y.2.2.1) (ret := y.2.2.2) hy rfl ?_
  intro p e s m args below meth c s₁ B hml hv
  obtain ⟨rfl, hP, hK, hN⟩ := hv
  have hts := atoms_spec (ws := wM y.1 y.2.1 y.2.2.1 y.2.2.2) B.pre
  have hb := body (p, l, e, rmL d, s, m, As.toArray, below, meth, c, 0, 0, MQ below Q As.toArray s 0 0 (aW G), aW G) rfl ⟨B.exec, B.bytes, hml, findClass_of_methodNamed B.named, fun w hw => hts w (List.mem_cons_of_mem _ hw), hK, hN, hG, fun i hi => ⟨i, hi, rfl⟩, B.notSynchronized, ⟨Nat.le_refl _, Nat.le_refl _⟩, ⟨Nat.le_refl _, Nat.le_refl _⟩⟩ ⟨B.returns, rfl, rfl⟩ s.heap [] _ hP va_S.rf (by rw [hlv]; exact lv_entry As hln)
  rw [lg_entry_eq]
  exact hb
end CallF

set_option maxRecDepth 100000 in
set_option maxHeartbeats 4000000 in
theorem c_floorDiv (l : Launch) {G : GT} (hG : gok G) (v : Mem) (a b : Int) (ha : -1000000 ≤ a ∧ a ≤ 1000000) (hb : -1000000 ≤ b ∧ b ≤ 1000000) (h0 : b ≠ 0) : CC l G nJ9_floorDiv_7cf53 0 [.int (iI a), .int (iI b)] v (qI G (fun z u => u = v ∧ z = fd a b)) := by
  refine m_startF (lv := [some (.int (iI a)), some (.int (iI b)), none]) hG (by decide +kernel) rfl (Nat.le_of_ble_eq_true rfl) ?_
  intro X hL h hR
  subst hL
  have t1 := tdiv_rg ha hb h0
  have x1 := xsgn (a := a) (b := b) (by omega) (by omega)
  show M X G 3 v 0 [some (.int (iI a)), some (.int (iI b)), none] []
  refine m_iload_n h dJ9_floorDiv_7cf53_0 rfl rfl ?_
  refine m_iload_n h dJ9_floorDiv_7cf53_1 rfl rfl ?_
  refine m_idiv h dJ9_floorDiv_7cf53_2 (by omega) (by omega) (by omega) ?_
  refine m_istore_n h dJ9_floorDiv_7cf53_3 rfl (by decide) rfl ?_
  refine m_iload_n h dJ9_floorDiv_7cf53_4 rfl rfl ?_
  refine m_iload_n h dJ9_floorDiv_7cf53_5 rfl rfl ?_
  refine m_ixor h dJ9_floorDiv_7cf53_6 (c := (iI a ^^^ iI b).toInt) (iI_of _) ?_
  refine m_if_ge h dJ9_floorDiv_7cf53_7 (tgt := 21) (by decide) (iI_rg _) (fun c1 => ?_) (fun c1 => ?_)
  · skip
    refine m_iload_n h dJ9_floorDiv_7cf53_21 rfl rfl ?_
    refine m_iret h hR rfl dJ9_floorDiv_7cf53_22 ?_
    refine ⟨rfl, ?_⟩
    rw [fd_java h0]
    rw [if_neg (by omega)]
  · skip
    refine m_iload_n h dJ9_floorDiv_7cf53_10 rfl rfl ?_
    refine m_iload_n h dJ9_floorDiv_7cf53_11 rfl rfl ?_
    refine m_imul h dJ9_floorDiv_7cf53_12 ?_
    refine m_iload_n h dJ9_floorDiv_7cf53_13 rfl rfl ?_
    refine m_icmp_eq h dJ9_floorDiv_7cf53_14 (tgt := 21) (by decide) (by omega) (by omega) (fun c2 => ?_) (fun c2 => ?_)
    · skip
      refine m_iload_n h dJ9_floorDiv_7cf53_21 rfl rfl ?_
      refine m_iret h hR rfl dJ9_floorDiv_7cf53_22 ?_
      refine ⟨rfl, ?_⟩
      rw [fd_java h0]
      rw [if_neg (by omega)]
    · skip
      refine m_iload_n h dJ9_floorDiv_7cf53_17 rfl rfl ?_
      refine m_iconst h dJ9_floorDiv_7cf53_18 ?_
      refine m_isub h dJ9_floorDiv_7cf53_19 ?_
      refine m_iret h hR rfl dJ9_floorDiv_7cf53_20 ?_
      refine ⟨rfl, ?_⟩
      rw [fd_java h0]
      rw [if_pos ⟨by omega, by omega⟩]

set_option maxRecDepth 100000 in
set_option maxHeartbeats 4000000 in
theorem c_cov (l : Launch) {G : GT} (hG : gok G) {si : Nat} (hsp : isSp si) (v : Mem) (n z : Int) (hn : 0 ≤ n ∧ n < 8) (hz : -2147483648 ≤ z ∧ z ≤ 2147483647) (hm : SpOk v si) : CC l G nX5_covers 0 [.ref (G.2.1 si), .int (iI n), .int (iI z)] v (qI G (fun r u => u = v ∧ bz r (v.1 (si + 1) n ≤ z ∧ z ≤ v.1 (si + 2) n))) := by
  refine m_start (lv := [some (.ref (G.2.1 si)), some (.int (iI n)), some (.int (iI z))]) hG (by decide +kernel) rfl (Nat.le_of_ble_eq_true rfl) ?_
  intro X hL h hR
  subst hL
  have h1 := hm n
  show M X G 3 v 0 [some (.ref (G.2.1 si)), some (.int (iI n)), some (.int (iI z))] []
  refine m_aload_n h dX5_covers_0 rfl rfl ?_
  refine m_get h fo_X5_9 (isSp_lt hsp) (cE_sp hsp) rfl dX5_covers_1 ?_
  refine m_iload_n h dX5_covers_4 rfl rfl ?_
  refine m_iald h (ar_sp1 hsp) (by omega) (by omega) dX5_covers_5 ?_
  refine m_iload_n h dX5_covers_6 rfl rfl ?_
  refine m_icmp_gt h dX5_covers_7 (tgt := 24) (by decide) (by omega) (by omega) (fun c1 => ?_) (fun c1 => ?_)
  · skip
    refine m_iconst h dX5_covers_24 ?_
    refine m_zret h hR rfl dX5_covers_25 (by omega) ?_
    exact ⟨rfl, bz0 (by omega)⟩
  · skip
    refine m_iload_n h dX5_covers_10 rfl rfl ?_
    refine m_aload_n h dX5_covers_11 rfl rfl ?_
    refine m_get h fo_X5_15 (isSp_lt hsp) (cE_sp hsp) rfl dX5_covers_12 ?_
    refine m_iload_n h dX5_covers_15 rfl rfl ?_
    refine m_iald h (ar_sp2 hsp) (by omega) (by omega) dX5_covers_16 ?_
    refine m_icmp_gt h dX5_covers_17 (tgt := 24) (by decide) (by omega) (by omega) (fun c2 => ?_) (fun c2 => ?_)
    · skip
      refine m_iconst h dX5_covers_24 ?_
      refine m_zret h hR rfl dX5_covers_25 (by omega) ?_
      exact ⟨rfl, bz0 (by omega)⟩
    · skip
      refine m_iconst h dX5_covers_20 ?_
      refine m_goto h dX5_covers_21 (tgt := 25) (by decide) ?_
      refine m_zret h hR rfl dX5_covers_25 (by omega) ?_
      exact ⟨rfl, bz1 (by omega)⟩

set_option maxRecDepth 100000 in
set_option maxHeartbeats 4000000 in
theorem c_onl (l : Launch) {G : GT} (hG : gok G) {si : Nat} (hsp : isSp si) (v : Mem) (n z : Int) (hn : 0 ≤ n ∧ n < 8) (hz : -2147483648 ≤ z ∧ z ≤ 2147483647) (hm : SpOk v si) : CC l G nX5_isOnly 0 [.ref (G.2.1 si), .int (iI n), .int (iI z)] v (qI G (fun r u => u = v ∧ bz r (v.1 (si + 1) n = z ∧ v.1 (si + 2) n = z))) := by
  refine m_start (lv := [some (.ref (G.2.1 si)), some (.int (iI n)), some (.int (iI z))]) hG (by decide +kernel) rfl (Nat.le_of_ble_eq_true rfl) ?_
  intro X hL h hR
  subst hL
  have h1 := hm n
  show M X G 3 v 0 [some (.ref (G.2.1 si)), some (.int (iI n)), some (.int (iI z))] []
  refine m_aload_n h dX5_isOnly_0 rfl rfl ?_
  refine m_get h fo_X5_9 (isSp_lt hsp) (cE_sp hsp) rfl dX5_isOnly_1 ?_
  refine m_iload_n h dX5_isOnly_4 rfl rfl ?_
  refine m_iald h (ar_sp1 hsp) (by omega) (by omega) dX5_isOnly_5 ?_
  refine m_iload_n h dX5_isOnly_6 rfl rfl ?_
  refine m_icmp_ne h dX5_isOnly_7 (tgt := 24) (by decide) (by omega) (by omega) (fun c1 => ?_) (fun c1 => ?_)
  · skip
    refine m_iconst h dX5_isOnly_24 ?_
    refine m_zret h hR rfl dX5_isOnly_25 (by omega) ?_
    exact ⟨rfl, bz0 (by omega)⟩
  · skip
    refine m_aload_n h dX5_isOnly_10 rfl rfl ?_
    refine m_get h fo_X5_15 (isSp_lt hsp) (cE_sp hsp) rfl dX5_isOnly_11 ?_
    refine m_iload_n h dX5_isOnly_14 rfl rfl ?_
    refine m_iald h (ar_sp2 hsp) (by omega) (by omega) dX5_isOnly_15 ?_
    refine m_iload_n h dX5_isOnly_16 rfl rfl ?_
    refine m_icmp_ne h dX5_isOnly_17 (tgt := 24) (by decide) (by omega) (by omega) (fun c2 => ?_) (fun c2 => ?_)
    · skip
      refine m_iconst h dX5_isOnly_24 ?_
      refine m_zret h hR rfl dX5_isOnly_25 (by omega) ?_
      exact ⟨rfl, bz0 (by omega)⟩
    · skip
      refine m_iconst h dX5_isOnly_20 ?_
      refine m_goto h dX5_isOnly_21 (tgt := 25) (by decide) ?_
      refine m_zret h hR rfl dX5_isOnly_25 (by omega) ?_
      exact ⟨rfl, bz1 (by omega)⟩

set_option maxRecDepth 100000 in
set_option maxHeartbeats 4000000 in
theorem c_allowsProduct (l : Launch) {G : GT} (hG : gok G) (v : Mem) {r : Nat} (hr : r < 12) (hrw : RwOk v r) {si : Nat} (hsp : isSp si) (hm : SpOk v si) (z : Int) (hz : -32 ≤ z ∧ z ≤ 31) (hB : 0 ≤ (v.1 (40 + r) 2)) (hC : 0 ≤ (v.1 (40 + r) 3)) : CC l G nX1_allowsProduct 1 [.ref (G.2.1 (40 + r)), .int (iI z), .ref (G.2.1 si)] v (qI G (fun q u => u = v ∧ bz q (∃ x y, v.1 (si + 1) (v.1 (40 + r) 2) ≤ x ∧ x ≤ v.1 (si + 2) (v.1 (40 + r) 2) ∧ v.1 (si + 1) (v.1 (40 + r) 3) ≤ y ∧ y ≤ v.1 (si + 2) (v.1 (40 + r) 3) ∧ x * y = z))) := by
  refine m_start (lv := [some (.ref (G.2.1 (40 + r))), some (.int (iI z)), some (.ref (G.2.1 si)), none]) hG (by decide +kernel) rfl (Nat.le_of_ble_eq_true rfl) ?_
  intro X hL h hR
  subst hL
  obtain ⟨k0, a0, b0, c0, R0, f0, -, -, -, -, -⟩ := hrw
  have hmB := hm (v.1 (40 + r) 2)
  have hmC := hm (v.1 (40 + r) 3)
  show M X G 4 v 0 [some (.ref (G.2.1 (40 + r))), some (.int (iI z)), some (.ref (G.2.1 si)), none] []
  refine m_aload_n h dX1_allowsProduct_0 rfl rfl ?_
  refine m_get h fo_X1_103 (isSp_lt hsp) (cE_sp hsp) rfl dX1_allowsProduct_1 ?_
  refine m_aload_n h dX1_allowsProduct_4 rfl rfl ?_
  refine m_get h fo_X1_18 (by omega) (cE_row G _ hr) rfl dX1_allowsProduct_5 ?_
  refine m_iald h (ar_sp1 hsp) (by omega) (by omega) dX1_allowsProduct_8 ?_
  refine m_istore_n h dX1_allowsProduct_9 rfl (by decide) rfl ?_
  have lp10 : ∀ (fuel : Nat) (x : Int), v.1 (si + 1) (v.1 (40 + r) 2) ≤ x → x ≤ v.1 (si + 2) (v.1 (40 + r) 2) + 1 → (∀ x1 y : Int, v.1 (si + 1) (v.1 (40 + r) 2) ≤ x1 → x1 < x → v.1 (si + 1) (v.1 (40 + r) 3) ≤ y → y ≤ v.1 (si + 2) (v.1 (40 + r) 3) → x1 * y ≠ z) → (33 - x).toNat < fuel → M X G 4 v 10 [some (.ref (G.2.1 (40 + r))), some (.int (iI z)), some (.ref (G.2.1 si)), some (.int (iI x))] [] := by
    intro fuel
    induction fuel with
    | zero => intro x hx1 hx2 hno hf; exfalso; omega
    | succ fuel ih =>
      intro x hx1 hx2 hno hf
      refine m_iload_n h dX1_allowsProduct_10 rfl rfl ?_
      refine m_aload_n h dX1_allowsProduct_11 rfl rfl ?_
      refine m_get h fo_X1_100 (isSp_lt hsp) (cE_sp hsp) rfl dX1_allowsProduct_12 ?_
      refine m_aload_n h dX1_allowsProduct_15 rfl rfl ?_
      refine m_get h fo_X1_18 (by omega) (cE_row G _ hr) rfl dX1_allowsProduct_16 ?_
      refine m_iald h (ar_sp2 hsp) (by omega) (by omega) dX1_allowsProduct_19 ?_
      refine m_icmp_gt h dX1_allowsProduct_20 (tgt := 62) (by decide) (by omega) (by omega) (fun c1 => ?_) (fun c1 => ?_)
      · skip
        refine m_iconst h dX1_allowsProduct_62 ?_
        refine m_zret h hR rfl dX1_allowsProduct_63 (by omega) ?_
        refine ⟨rfl, bz0 ?_⟩
        rintro ⟨x1, y, q1, q2, q3, q4, q5⟩
        exact hno x1 y q1 (by omega) q3 q4 q5
      · skip
        refine m_iload_n h dX1_allowsProduct_23 rfl rfl ?_
        refine m_if_ne h dX1_allowsProduct_24 (tgt := 34) (by decide) (by omega) (fun c2 => ?_) (fun c2 => ?_)
        · skip
          refine m_iload_n h dX1_allowsProduct_34 rfl rfl ?_
          refine m_iload_n h dX1_allowsProduct_35 rfl rfl ?_
          refine m_irem h dX1_allowsProduct_36 (by omega) (by omega) (by omega) ?_
          refine m_if_ne h dX1_allowsProduct_37 (tgt := 56) (by decide) (by have := tmod_sg (a := z) (b := x) (by omega); omega) (fun c3 => ?_) (fun c3 => ?_)
          · skip
            refine m_iinc h dX1_allowsProduct_56 rfl (by decide) rfl ?_
            refine m_goto h dX1_allowsProduct_59 (tgt := 10) (by decide) ?_
            refine ih (x + 1) (by omega) (by omega) (fun x1 y q1 q2 q3 q4 q5 => ?_) (by omega)
            by_cases hx1 : x1 < x
            · exact hno x1 y q1 hx1 q3 q4 q5
            · obtain rfl : x1 = x := by omega
              first
                | (have q6 : x1 = 0 := by omega
                   rw [q6, Int.zero_mul] at q5; omega)
                | (have q6 := pd (p := z) (x := x1) (y := y) (by omega) q5; omega)
                | (have q6 := pd (p := z) (x := x1) (y := y) (by omega) q5
                   rw [q6.2] at hb
                   exact hb.no (by omega) ⟨q3, q4⟩)
          · skip
            refine m_aload_n h dX1_allowsProduct_40 rfl rfl ?_
            refine m_aload_n h dX1_allowsProduct_41 rfl rfl ?_
            refine m_get h fo_X1_21 (by omega) (cE_row G _ hr) rfl dX1_allowsProduct_42 ?_
            refine m_iload_n h dX1_allowsProduct_45 rfl rfl ?_
            refine m_iload_n h dX1_allowsProduct_46 rfl rfl ?_
            refine m_idiv h dX1_allowsProduct_47 (by omega) (by omega) (by omega) ?_
            have hq : -2147483648 ≤ z.tdiv x ∧ z.tdiv x ≤ 2147483647 := by
              have q1 := Int.natAbs_tdiv_le_natAbs z x
              omega
            refine m_vI h (c_cov _ hG hsp _ (v.1 (40 + r) 3) (z.tdiv x) (by omega) hq hm) moX5_covers voX5_covers lk_X1_75 dX1_allowsProduct_48 (by decide) (isSp_lt hsp) (cE_sp hsp) rfl rfl (Nat.le_of_ble_eq_true rfl) (fun r4 u5 p6 => ?_)
            obtain ⟨rfl, hb⟩ := p6
            have hbi := hb.in
            refine m_if_eq h dX1_allowsProduct_51 (tgt := 56) (by decide) (by omega) (fun c7 => ?_) (fun c7 => ?_)
            · skip
              refine m_iinc h dX1_allowsProduct_56 rfl (by decide) rfl ?_
              refine m_goto h dX1_allowsProduct_59 (tgt := 10) (by decide) ?_
              refine ih (x + 1) (by omega) (by omega) (fun x1 y q1 q2 q3 q4 q5 => ?_) (by omega)
              by_cases hx1 : x1 < x
              · exact hno x1 y q1 hx1 q3 q4 q5
              · obtain rfl : x1 = x := by omega
                first
                  | (have q6 : x1 = 0 := by omega
                     rw [q6, Int.zero_mul] at q5; omega)
                  | (have q6 := pd (p := z) (x := x1) (y := y) (by omega) q5; omega)
                  | (have q6 := pd (p := z) (x := x1) (y := y) (by omega) q5
                     rw [q6.2] at hb
                     exact hb.no (by omega) ⟨q3, q4⟩)
            · skip
              refine m_iconst h dX1_allowsProduct_54 ?_
              refine m_zret h hR rfl dX1_allowsProduct_55 (by omega) ?_
              refine ⟨rfl, bz1 ?_⟩
              first
                | (refine ⟨x, v.1 (si + 1) (v.1 (40 + r) 3), by omega, by omega, by omega, by omega, ?_⟩
                   rw [show x = 0 by omega, Int.zero_mul]; omega)
                | (have q6 := hb.yes (by omega)
                   exact ⟨x, z.tdiv x, by omega, by omega, q6.1, q6.2, pd' (by omega)⟩)
        · skip
          refine m_iload_n h dX1_allowsProduct_27 rfl rfl ?_
          refine m_if_ne h dX1_allowsProduct_28 (tgt := 56) (by decide) (by omega) (fun c8 => ?_) (fun c8 => ?_)
          · skip
            refine m_iinc h dX1_allowsProduct_56 rfl (by decide) rfl ?_
            refine m_goto h dX1_allowsProduct_59 (tgt := 10) (by decide) ?_
            refine ih (x + 1) (by omega) (by omega) (fun x1 y q1 q2 q3 q4 q5 => ?_) (by omega)
            by_cases hx1 : x1 < x
            · exact hno x1 y q1 hx1 q3 q4 q5
            · obtain rfl : x1 = x := by omega
              first
                | (have q6 : x1 = 0 := by omega
                   rw [q6, Int.zero_mul] at q5; omega)
                | (have q6 := pd (p := z) (x := x1) (y := y) (by omega) q5; omega)
                | (have q6 := pd (p := z) (x := x1) (y := y) (by omega) q5
                   rw [q6.2] at hb
                   exact hb.no (by omega) ⟨q3, q4⟩)
          · skip
            refine m_goto h dX1_allowsProduct_31 (tgt := 54) (by decide) ?_
            refine m_iconst h dX1_allowsProduct_54 ?_
            refine m_zret h hR rfl dX1_allowsProduct_55 (by omega) ?_
            refine ⟨rfl, bz1 ?_⟩
            first
              | (refine ⟨x, v.1 (si + 1) (v.1 (40 + r) 3), by omega, by omega, by omega, by omega, ?_⟩
                 rw [show x = 0 by omega, Int.zero_mul]; omega)
              | (have q6 := hb.yes (by omega)
                 exact ⟨x, z.tdiv x, by omega, by omega, q6.1, q6.2, pd' (by omega)⟩)
  exact lp10 100 _ (by omega) (by omega) (fun x1 y q1 q2 q3 q4 q5 => by omega) (by omega)
end
section
theorem m_kill {X : CX} {G : GT} {nL : Nat} {v : Mem} {pc : Nat} {lv : List (Option Value)} {st : List Value} (i : Nat) (k : M X G nL v pc (lv.set i none) st) : M X G nL v pc lv st := by
  intro H locs ls hP hS hl
  refine k H locs ls hP hS ⟨hl.1, hl.2.1, fun q hq => hl.2.2 q ?_⟩
  obtain ⟨j, y⟩ := q
  rw [lvl_mem] at hq ⊢
  by_cases hji : j = i
  · subst hji
    have hlt := (List.getElem?_eq_some_iff.mp hq).1
    rw [List.length_set] at hlt
    rw [List.getElem?_set_self hlt] at hq
    cases hq
  · rwa [List.getElem?_set_ne (Ne.symm hji)] at hq

set_option maxRecDepth 100000 in
set_option maxHeartbeats 4000000 in
theorem c_allowsMultiplier (l : Launch) {G : GT} (hG : gok G) (v : Mem) {r : Nat} (hr : r < 12) (hrw : RwOk v r) {si : Nat} (hsp : isSp si) (hm : SpOk v si) (z : Int) (hz : -32 ≤ z ∧ z ≤ 31) (w : Int) (hw : 0 ≤ w ∧ w < 8) (hA : 0 ≤ (v.1 (40 + r) 1)) : CC l G nX1_allowsMultiplier 2 [.ref (G.2.1 (40 + r)), .int (iI z), .int (iI w), .ref (G.2.1 si)] v (qI G (fun q u => u = v ∧ bz q (∃ y, v.1 (si + 1) w ≤ y ∧ y ≤ v.1 (si + 2) w ∧ v.1 (si + 1) (v.1 (40 + r) 1) ≤ z * y ∧ z * y ≤ v.1 (si + 2) (v.1 (40 + r) 1)))) := by
  refine m_start (lv := [some (.ref (G.2.1 (40 + r))), some (.int (iI z)), some (.int (iI w)), some (.ref (G.2.1 si)), none, none, none, none]) hG (by decide +kernel) rfl (Nat.le_of_ble_eq_true rfl) ?_
  intro X hL h hR
  subst hL
  obtain ⟨k0, a0, b0, c0, R0, f0, -, -, -, -, -⟩ := hrw
  have hmA := hm (v.1 (40 + r) 1)
  have hmw := hm w
  show M X G 8 v 0 [some (.ref (G.2.1 (40 + r))), some (.int (iI z)), some (.int (iI w)), some (.ref (G.2.1 si)), none, none, none, none] []
  refine m_iload_n h dX1_allowsMultiplier_0 rfl rfl ?_
  refine m_if_ne h dX1_allowsMultiplier_1 (tgt := 14) (by decide) (by omega) (fun c1 => ?_) (fun c1 => ?_)
  · skip
    refine m_iload_n h dX1_allowsMultiplier_14 rfl rfl ?_
    refine m_abs h lk_X1_45 dX1_allowsMultiplier_15 (by decide) (Nat.le_of_ble_eq_true rfl) (by omega) ?_
    generalize hdv : (if 0 ≤ z then z else -z) = dv
    have hd2 : (0 ≤ z ∧ dv = z) ∨ (z < 0 ∧ dv = -z) := by
      by_cases hz0 : 0 ≤ z
      · rw [if_pos hz0] at hdv; omega
      · rw [if_neg hz0] at hdv; omega
    refine m_istore h dX1_allowsMultiplier_18 (by decide) rfl ?_
    refine m_iload_n h dX1_allowsMultiplier_20 rfl rfl ?_
    refine m_if_le h dX1_allowsMultiplier_21 (tgt := 36) (by decide) (by omega) (fun c2 => ?_) (fun c2 => ?_)
    · skip
      refine m_aload_n h dX1_allowsMultiplier_36 rfl rfl ?_
      refine m_get h fo_X1_100 (isSp_lt hsp) (cE_sp hsp) rfl dX1_allowsMultiplier_37 ?_
      refine m_aload_n h dX1_allowsMultiplier_40 rfl rfl ?_
      refine m_get h fo_X1_15 (by omega) (cE_row G _ hr) rfl dX1_allowsMultiplier_41 ?_
      refine m_iald h (ar_sp2 hsp) (by omega) (by omega) dX1_allowsMultiplier_44 ?_
      refine m_ineg h dX1_allowsMultiplier_45 ?_
      refine m_istore h dX1_allowsMultiplier_46 (by decide) rfl ?_
      refine m_iload_n h dX1_allowsMultiplier_48 rfl rfl ?_
      refine m_if_le h dX1_allowsMultiplier_49 (tgt := 64) (by decide) (by omega) (fun c3 => ?_) (fun c3 => ?_)
      · skip
        refine m_aload_n h dX1_allowsMultiplier_64 rfl rfl ?_
        refine m_get h fo_X1_103 (isSp_lt hsp) (cE_sp hsp) rfl dX1_allowsMultiplier_65 ?_
        refine m_aload_n h dX1_allowsMultiplier_68 rfl rfl ?_
        refine m_get h fo_X1_15 (by omega) (cE_row G _ hr) rfl dX1_allowsMultiplier_69 ?_
        refine m_iald h (ar_sp1 hsp) (by omega) (by omega) dX1_allowsMultiplier_72 ?_
        refine m_ineg h dX1_allowsMultiplier_73 ?_
        refine m_istore h dX1_allowsMultiplier_74 (by decide) rfl ?_
        refine m_iload h dX1_allowsMultiplier_76 rfl ?_
        refine m_ineg h dX1_allowsMultiplier_78 ?_
        refine m_iload h dX1_allowsMultiplier_79 rfl ?_
        refine m_sI h (c_floorDiv _ hG _ (-(-(v.1 (si + 2) (v.1 (40 + r) 1)))) dv (by omega) (by omega) (by omega)) moJ9_floorDiv_7cf53 stJ9_floorDiv_7cf53 lk_X1_39 dX1_allowsMultiplier_81 (by decide) rfl rfl (Nat.le_of_ble_eq_true rfl) (fun p1 u5 p6 => ?_)
        obtain ⟨hu9, ep1⟩ := p6
        rw [hu9]
        have gp1 := fd_rg (a := -(-(v.1 (si + 2) (v.1 (40 + r) 1)))) (b := dv) (by omega) (by omega)
        rw [← ep1] at gp1
        refine m_ineg h dX1_allowsMultiplier_84 ?_
        refine m_istore h dX1_allowsMultiplier_85 (by decide) rfl ?_
        refine m_aload_n h dX1_allowsMultiplier_87 rfl rfl ?_
        refine m_iload_n h dX1_allowsMultiplier_88 rfl rfl ?_
        refine m_iload h dX1_allowsMultiplier_89 rfl ?_
        refine m_iload h dX1_allowsMultiplier_91 rfl ?_
        refine m_iload h dX1_allowsMultiplier_93 rfl ?_
        refine m_sI h (c_floorDiv _ hG _ (-(v.1 (si + 1) (v.1 (40 + r) 1))) dv (by omega) (by omega) (by omega)) moJ9_floorDiv_7cf53 stJ9_floorDiv_7cf53 lk_X1_39 dX1_allowsMultiplier_95 (by decide) rfl rfl (Nat.le_of_ble_eq_true rfl) (fun p2 u8 p9 => ?_)
        obtain ⟨hu9, ep2⟩ := p9
        rw [hu9]
        have gp2 := fd_rg (a := -(v.1 (si + 1) (v.1 (40 + r) 1))) (b := dv) (by omega) (by omega)
        rw [← ep2] at gp2
        refine m_vI h (c_meets _ hG hsp _ w (-p1) p2 (by omega) (by omega) (by omega) hm) moX5_meets voX5_meets lk_X1_106 dX1_allowsMultiplier_98 (by decide) (isSp_lt hsp) (cE_sp hsp) rfl rfl (Nat.le_of_ble_eq_true rfl) (fun r10 u11 p12 => ?_)
        obtain ⟨hu9, hb⟩ := p12
        rw [hu9]
        have hbi := hb.in
        refine m_zret h hR rfl dX1_allowsMultiplier_101 hbi ?_
        refine ⟨rfl, ?_⟩
        have hd0 : 0 < dv := by omega
        have hmul : ∀ y : Int, (v.1 (si + 1) (v.1 (40 + r) 1) ≤ z * y ∧ z * y ≤ v.1 (si + 2) (v.1 (40 + r) 1)) ↔ (-p1 ≤ y ∧ y ≤ p2) := by
          intro y
          rw [ep1, ep2]
          have q1 := mulHi (n := dv) (y := y) (h := -v.1 (si + 1) (v.1 (40 + r) 1)) hd0
          have q2 := mulLo (n := dv) (y := y) (l := -v.1 (si + 2) (v.1 (40 + r) 1)) hd0
          have q3 : z * y = -(dv * y) := by rw [show z = -dv by omega, Int.neg_mul]
          rw [q3]
          omega
        rcases hb with ⟨e1, e2⟩ | ⟨e1, e2⟩
        · rw [e1]
          exact bz1 ⟨max (v.1 (si + 1) w) (-p1), by omega, by omega, (hmul _).mpr ⟨by omega, by omega⟩⟩
        · rw [e1]
          refine bz0 ?_
          rintro ⟨y, q1, q2, q3⟩
          have q4 := (hmul y).mp q3
          exact e2 ⟨by omega, by omega, by omega, by omega⟩
      · skip
        omega
    · skip
      refine m_aload_n h dX1_allowsMultiplier_24 rfl rfl ?_
      refine m_get h fo_X1_103 (isSp_lt hsp) (cE_sp hsp) rfl dX1_allowsMultiplier_25 ?_
      refine m_aload_n h dX1_allowsMultiplier_28 rfl rfl ?_
      refine m_get h fo_X1_15 (by omega) (cE_row G _ hr) rfl dX1_allowsMultiplier_29 ?_
      refine m_iald h (ar_sp1 hsp) (by omega) (by omega) dX1_allowsMultiplier_32 ?_
      refine m_goto h dX1_allowsMultiplier_33 (tgt := 46) (by decide) ?_
      refine m_istore h dX1_allowsMultiplier_46 (by decide) rfl ?_
      refine m_iload_n h dX1_allowsMultiplier_48 rfl rfl ?_
      refine m_if_le h dX1_allowsMultiplier_49 (tgt := 64) (by decide) (by omega) (fun c13 => ?_) (fun c13 => ?_)
      · skip
        omega
      · skip
        refine m_aload_n h dX1_allowsMultiplier_52 rfl rfl ?_
        refine m_get h fo_X1_100 (isSp_lt hsp) (cE_sp hsp) rfl dX1_allowsMultiplier_53 ?_
        refine m_aload_n h dX1_allowsMultiplier_56 rfl rfl ?_
        refine m_get h fo_X1_15 (by omega) (cE_row G _ hr) rfl dX1_allowsMultiplier_57 ?_
        refine m_iald h (ar_sp2 hsp) (by omega) (by omega) dX1_allowsMultiplier_60 ?_
        refine m_goto h dX1_allowsMultiplier_61 (tgt := 74) (by decide) ?_
        refine m_istore h dX1_allowsMultiplier_74 (by decide) rfl ?_
        refine m_iload h dX1_allowsMultiplier_76 rfl ?_
        refine m_ineg h dX1_allowsMultiplier_78 ?_
        refine m_iload h dX1_allowsMultiplier_79 rfl ?_
        refine m_sI h (c_floorDiv _ hG _ (-(v.1 (si + 1) (v.1 (40 + r) 1))) dv (by omega) (by omega) (by omega)) moJ9_floorDiv_7cf53 stJ9_floorDiv_7cf53 lk_X1_39 dX1_allowsMultiplier_81 (by decide) rfl rfl (Nat.le_of_ble_eq_true rfl) (fun p1 u15 p16 => ?_)
        obtain ⟨hu9, ep1⟩ := p16
        rw [hu9]
        have gp1 := fd_rg (a := -(v.1 (si + 1) (v.1 (40 + r) 1))) (b := dv) (by omega) (by omega)
        rw [← ep1] at gp1
        refine m_ineg h dX1_allowsMultiplier_84 ?_
        refine m_istore h dX1_allowsMultiplier_85 (by decide) rfl ?_
        refine m_aload_n h dX1_allowsMultiplier_87 rfl rfl ?_
        refine m_iload_n h dX1_allowsMultiplier_88 rfl rfl ?_
        refine m_iload h dX1_allowsMultiplier_89 rfl ?_
        refine m_iload h dX1_allowsMultiplier_91 rfl ?_
        refine m_iload h dX1_allowsMultiplier_93 rfl ?_
        refine m_sI h (c_floorDiv _ hG _ (v.1 (si + 2) (v.1 (40 + r) 1)) dv (by omega) (by omega) (by omega)) moJ9_floorDiv_7cf53 stJ9_floorDiv_7cf53 lk_X1_39 dX1_allowsMultiplier_95 (by decide) rfl rfl (Nat.le_of_ble_eq_true rfl) (fun p2 u18 p19 => ?_)
        obtain ⟨hu9, ep2⟩ := p19
        rw [hu9]
        have gp2 := fd_rg (a := v.1 (si + 2) (v.1 (40 + r) 1)) (b := dv) (by omega) (by omega)
        rw [← ep2] at gp2
        refine m_vI h (c_meets _ hG hsp _ w (-p1) p2 (by omega) (by omega) (by omega) hm) moX5_meets voX5_meets lk_X1_106 dX1_allowsMultiplier_98 (by decide) (isSp_lt hsp) (cE_sp hsp) rfl rfl (Nat.le_of_ble_eq_true rfl) (fun r20 u21 p22 => ?_)
        obtain ⟨hu9, hb⟩ := p22
        rw [hu9]
        have hbi := hb.in
        refine m_zret h hR rfl dX1_allowsMultiplier_101 hbi ?_
        refine ⟨rfl, ?_⟩
        have hd0 : 0 < dv := by omega
        have hmul : ∀ y : Int, (v.1 (si + 1) (v.1 (40 + r) 1) ≤ z * y ∧ z * y ≤ v.1 (si + 2) (v.1 (40 + r) 1)) ↔ (-p1 ≤ y ∧ y ≤ p2) := by
          intro y
          rw [ep1, ep2]
          rw [show z = dv by omega]
          have q1 := mulHi (n := dv) (y := y) (h := v.1 (si + 2) (v.1 (40 + r) 1)) hd0
          have q2 := mulLo (n := dv) (y := y) (l := v.1 (si + 1) (v.1 (40 + r) 1)) hd0
          omega
        rcases hb with ⟨e1, e2⟩ | ⟨e1, e2⟩
        · rw [e1]
          exact bz1 ⟨max (v.1 (si + 1) w) (-p1), by omega, by omega, (hmul _).mpr ⟨by omega, by omega⟩⟩
        · rw [e1]
          refine bz0 ?_
          rintro ⟨y, q1, q2, q3⟩
          have q4 := (hmul y).mp q3
          exact e2 ⟨by omega, by omega, by omega, by omega⟩
  · skip
    refine m_aload_n h dX1_allowsMultiplier_4 rfl rfl ?_
    refine m_aload_n h dX1_allowsMultiplier_5 rfl rfl ?_
    refine m_get h fo_X1_15 (by omega) (cE_row G _ hr) rfl dX1_allowsMultiplier_6 ?_
    refine m_iconst h dX1_allowsMultiplier_9 ?_
    refine m_vI h (c_cov _ hG hsp _ (v.1 (40 + r) 1) 0 (by omega) (by omega) hm) moX5_covers voX5_covers lk_X1_75 dX1_allowsMultiplier_10 (by decide) (isSp_lt hsp) (cE_sp hsp) rfl rfl (Nat.le_of_ble_eq_true rfl) (fun r23 u24 p25 => ?_)
    obtain ⟨hu9, hb⟩ := p25
    rw [hu9]
    have hbi := hb.in
    refine m_zret h hR rfl dX1_allowsMultiplier_13 hbi ?_
    refine ⟨rfl, ?_⟩
    rcases hb with ⟨e1, e2⟩ | ⟨e1, e2⟩
    · subst e1
      exact bz1 ⟨v.1 (si + 1) w, by omega, by omega, by rw [show z = 0 by omega, Int.zero_mul]; exact e2.1, by rw [show z = 0 by omega, Int.zero_mul]; exact e2.2⟩
    · subst e1
      refine bz0 ?_
      rintro ⟨y, q1, q2, q3, q4⟩
      rw [show z = 0 by omega, Int.zero_mul] at q3 q4
      exact e2 ⟨q3, q4⟩

set_option maxRecDepth 100000 in
set_option maxHeartbeats 4000000 in
theorem c_allowsQuotient (l : Launch) {G : GT} (hG : gok G) (v : Mem) {r : Nat} (hr : r < 12) (hrw : RwOk v r) {si : Nat} (hsp : isSp si) (hm : SpOk v si) (z : Int) (hz : -32 ≤ z ∧ z ≤ 31) (hB : 0 ≤ (v.1 (40 + r) 2)) (hC : 0 ≤ (v.1 (40 + r) 3)) : CC l G nX1_allowsQuotient 2 [.ref (G.2.1 (40 + r)), .int (iI z), .ref (G.2.1 si)] v (qI G (fun q u => u = v ∧ bz q (∃ x y, v.1 (si + 1) (v.1 (40 + r) 3) ≤ x ∧ x ≤ v.1 (si + 2) (v.1 (40 + r) 3) ∧ v.1 (si + 1) (v.1 (40 + r) 2) ≤ y ∧ y ≤ v.1 (si + 2) (v.1 (40 + r) 2) ∧ x ≠ 0 ∧ fd y x = z))) := by
  refine m_start (lv := [some (.ref (G.2.1 (40 + r))), some (.int (iI z)), some (.ref (G.2.1 si)), none, none, none]) hG (by decide +kernel) rfl (Nat.le_of_ble_eq_true rfl) ?_
  intro X hL h hR
  subst hL
  obtain ⟨k0, a0, b0, c0, R0, f0, -, -, -, -, -⟩ := hrw
  have hmB := hm (v.1 (40 + r) 2)
  have hmC := hm (v.1 (40 + r) 3)
  show M X G 6 v 0 [some (.ref (G.2.1 (40 + r))), some (.int (iI z)), some (.ref (G.2.1 si)), none, none, none] []
  refine m_aload_n h dX1_allowsQuotient_0 rfl rfl ?_
  refine m_get h fo_X1_103 (isSp_lt hsp) (cE_sp hsp) rfl dX1_allowsQuotient_1 ?_
  refine m_aload_n h dX1_allowsQuotient_4 rfl rfl ?_
  refine m_get h fo_X1_21 (by omega) (cE_row G _ hr) rfl dX1_allowsQuotient_5 ?_
  refine m_iald h (ar_sp1 hsp) (by omega) (by omega) dX1_allowsQuotient_8 ?_
  refine m_istore_n h dX1_allowsQuotient_9 rfl (by decide) rfl ?_
  have lp10 : ∀ (fuel : Nat) (x : Int), v.1 (si + 1) (v.1 (40 + r) 3) ≤ x → x ≤ v.1 (si + 2) (v.1 (40 + r) 3) + 1 → (∀ x1 y : Int, v.1 (si + 1) (v.1 (40 + r) 3) ≤ x1 → x1 < x → v.1 (si + 1) (v.1 (40 + r) 2) ≤ y → y ≤ v.1 (si + 2) (v.1 (40 + r) 2) → x1 ≠ 0 → fd y x1 ≠ z) → (33 - x).toNat < fuel → M X G 6 v 10 [some (.ref (G.2.1 (40 + r))), some (.int (iI z)), some (.ref (G.2.1 si)), some (.int (iI x)), none, none] [] := by
    intro fuel
    induction fuel with
    | zero => intro x hx1 hx2 hno hf; exfalso; omega
    | succ fuel ih =>
      intro x hx1 hx2 hno hf
      have hzx := mulR (a := z) (b := x) (by omega) (by omega)
      have hzx1 : (z + 1) * x = z * x + x := by rw [Int.add_mul, Int.one_mul]
      refine m_iload_n h dX1_allowsQuotient_10 rfl rfl ?_
      refine m_aload_n h dX1_allowsQuotient_11 rfl rfl ?_
      refine m_get h fo_X1_100 (isSp_lt hsp) (cE_sp hsp) rfl dX1_allowsQuotient_12 ?_
      refine m_aload_n h dX1_allowsQuotient_15 rfl rfl ?_
      refine m_get h fo_X1_21 (by omega) (cE_row G _ hr) rfl dX1_allowsQuotient_16 ?_
      refine m_iald h (ar_sp2 hsp) (by omega) (by omega) dX1_allowsQuotient_19 ?_
      refine m_icmp_gt h dX1_allowsQuotient_20 (tgt := 88) (by decide) (by omega) (by omega) (fun c1 => ?_) (fun c1 => ?_)
      · skip
        refine m_iconst h dX1_allowsQuotient_88 ?_
        refine m_zret h hR rfl dX1_allowsQuotient_89 (by omega) ?_
        refine ⟨rfl, bz0 ?_⟩
        rintro ⟨x1, y, q1, q2, q3, q4, q5, q6⟩
        exact hno x1 y q1 (by omega) q3 q4 q5 q6
      · skip
        refine m_iload_n h dX1_allowsQuotient_23 rfl rfl ?_
        refine m_if_le h dX1_allowsQuotient_24 (tgt := 33) (by decide) (by omega) (fun c2 => ?_) (fun c2 => ?_)
        · skip
          refine m_iload_n h dX1_allowsQuotient_33 rfl rfl ?_
          refine m_iconst h dX1_allowsQuotient_34 ?_
          refine m_iadd h dX1_allowsQuotient_35 ?_
          refine m_iload_n h dX1_allowsQuotient_36 rfl rfl ?_
          refine m_imul h dX1_allowsQuotient_37 ?_
          refine m_iconst h dX1_allowsQuotient_38 ?_
          refine m_iadd h dX1_allowsQuotient_39 ?_
          refine m_istore h dX1_allowsQuotient_40 (by decide) rfl ?_
          refine m_iload_n h dX1_allowsQuotient_42 rfl rfl ?_
          refine m_if_le h dX1_allowsQuotient_43 (tgt := 56) (by decide) (by omega) (fun c3 => ?_) (fun c3 => ?_)
          · skip
            refine m_iload_n h dX1_allowsQuotient_56 rfl rfl ?_
            refine m_iload_n h dX1_allowsQuotient_57 rfl rfl ?_
            refine m_imul h dX1_allowsQuotient_58 ?_
            refine m_istore h dX1_allowsQuotient_59 (by decide) rfl ?_
            refine m_iload_n h dX1_allowsQuotient_61 rfl rfl ?_
            refine m_if_eq h dX1_allowsQuotient_62 (tgt := 82) (by decide) (by omega) (fun c4 => ?_) (fun c4 => ?_)
            · skip
              refine m_iinc h dX1_allowsQuotient_82 rfl (by decide) rfl ?_
              refine m_goto h dX1_allowsQuotient_85 (tgt := 10) (by decide) ?_
              refine m_kill 4 ?_
              refine m_kill 5 ?_
              refine ih (x + 1) (by omega) (by omega) (fun x1 y q1 q2 q3 q4 q5 q6 => ?_) (by omega)
              by_cases hx1 : x1 < x
              · exact hno x1 y q1 hx1 q3 q4 q5 q6
              · obtain rfl : x1 = x := by omega
                first
                  | omega
                  | (have q7 := (fd_iff q5).mp q6
                     have q8 : (z + 1) * x1 = z * x1 + x1 := by rw [Int.add_mul, Int.one_mul]
                     exact hb.no (by omega) ⟨by omega, by omega, by omega, by omega⟩)
            · skip
              refine m_aload_n h dX1_allowsQuotient_65 rfl rfl ?_
              refine m_aload_n h dX1_allowsQuotient_66 rfl rfl ?_
              refine m_get h fo_X1_18 (by omega) (cE_row G _ hr) rfl dX1_allowsQuotient_67 ?_
              refine m_iload h dX1_allowsQuotient_70 rfl ?_
              refine m_iload h dX1_allowsQuotient_72 rfl ?_
              refine m_vI h (c_meets _ hG hsp _ (v.1 (40 + r) 2) (((z + 1) * x) + 1) (z * x) (by omega) (by omega) (by omega) hm) moX5_meets voX5_meets lk_X1_106 dX1_allowsQuotient_74 (by decide) (isSp_lt hsp) (cE_sp hsp) rfl rfl (Nat.le_of_ble_eq_true rfl) (fun r5 u6 p7 => ?_)
              obtain ⟨hu9, hb⟩ := p7
              rw [hu9]
              have hbi := hb.in
              refine m_if_eq h dX1_allowsQuotient_77 (tgt := 82) (by decide) (by omega) (fun c8 => ?_) (fun c8 => ?_)
              · skip
                refine m_iinc h dX1_allowsQuotient_82 rfl (by decide) rfl ?_
                refine m_goto h dX1_allowsQuotient_85 (tgt := 10) (by decide) ?_
                refine m_kill 4 ?_
                refine m_kill 5 ?_
                refine ih (x + 1) (by omega) (by omega) (fun x1 y q1 q2 q3 q4 q5 q6 => ?_) (by omega)
                by_cases hx1 : x1 < x
                · exact hno x1 y q1 hx1 q3 q4 q5 q6
                · obtain rfl : x1 = x := by omega
                  first
                    | omega
                    | (have q7 := (fd_iff q5).mp q6
                       have q8 : (z + 1) * x1 = z * x1 + x1 := by rw [Int.add_mul, Int.one_mul]
                       exact hb.no (by omega) ⟨by omega, by omega, by omega, by omega⟩)
              · skip
                refine m_iconst h dX1_allowsQuotient_80 ?_
                refine m_zret h hR rfl dX1_allowsQuotient_81 (by omega) ?_
                refine ⟨rfl, bz1 ?_⟩
                have q6 := hb.yes (by omega)
                have q7 : x ≠ 0 := by assumption
                first
                  | (refine ⟨x, max (v.1 (si + 1) (v.1 (40 + r) 2)) (z * x), by omega, by omega, by omega, by omega, q7, (fd_iff q7).mpr ?_⟩; omega)
                  | (refine ⟨x, max (v.1 (si + 1) (v.1 (40 + r) 2)) ((z + 1) * x + 1), by omega, by omega, by omega, by omega, q7, (fd_iff q7).mpr ?_⟩; omega)
          · skip
            omega
        · skip
          refine m_iload_n h dX1_allowsQuotient_27 rfl rfl ?_
          refine m_iload_n h dX1_allowsQuotient_28 rfl rfl ?_
          refine m_imul h dX1_allowsQuotient_29 ?_
          refine m_goto h dX1_allowsQuotient_30 (tgt := 40) (by decide) ?_
          refine m_istore h dX1_allowsQuotient_40 (by decide) rfl ?_
          refine m_iload_n h dX1_allowsQuotient_42 rfl rfl ?_
          refine m_if_le h dX1_allowsQuotient_43 (tgt := 56) (by decide) (by omega) (fun c9 => ?_) (fun c9 => ?_)
          · skip
            omega
          · skip
            refine m_iload_n h dX1_allowsQuotient_46 rfl rfl ?_
            refine m_iload_n h dX1_allowsQuotient_47 rfl rfl ?_
            refine m_imul h dX1_allowsQuotient_48 ?_
            refine m_iload_n h dX1_allowsQuotient_49 rfl rfl ?_
            refine m_iadd h dX1_allowsQuotient_50 ?_
            refine m_iconst h dX1_allowsQuotient_51 ?_
            refine m_isub h dX1_allowsQuotient_52 ?_
            refine m_goto h dX1_allowsQuotient_53 (tgt := 59) (by decide) ?_
            refine m_istore h dX1_allowsQuotient_59 (by decide) rfl ?_
            refine m_iload_n h dX1_allowsQuotient_61 rfl rfl ?_
            refine m_if_eq h dX1_allowsQuotient_62 (tgt := 82) (by decide) (by omega) (fun c10 => ?_) (fun c10 => ?_)
            · skip
              refine m_iinc h dX1_allowsQuotient_82 rfl (by decide) rfl ?_
              refine m_goto h dX1_allowsQuotient_85 (tgt := 10) (by decide) ?_
              refine m_kill 4 ?_
              refine m_kill 5 ?_
              refine ih (x + 1) (by omega) (by omega) (fun x1 y q1 q2 q3 q4 q5 q6 => ?_) (by omega)
              by_cases hx1 : x1 < x
              · exact hno x1 y q1 hx1 q3 q4 q5 q6
              · obtain rfl : x1 = x := by omega
                first
                  | omega
                  | (have q7 := (fd_iff q5).mp q6
                     have q8 : (z + 1) * x1 = z * x1 + x1 := by rw [Int.add_mul, Int.one_mul]
                     exact hb.no (by omega) ⟨by omega, by omega, by omega, by omega⟩)
            · skip
              refine m_aload_n h dX1_allowsQuotient_65 rfl rfl ?_
              refine m_aload_n h dX1_allowsQuotient_66 rfl rfl ?_
              refine m_get h fo_X1_18 (by omega) (cE_row G _ hr) rfl dX1_allowsQuotient_67 ?_
              refine m_iload h dX1_allowsQuotient_70 rfl ?_
              refine m_iload h dX1_allowsQuotient_72 rfl ?_
              refine m_vI h (c_meets _ hG hsp _ (v.1 (40 + r) 2) (z * x) (((z * x) + x) - 1) (by omega) (by omega) (by omega) hm) moX5_meets voX5_meets lk_X1_106 dX1_allowsQuotient_74 (by decide) (isSp_lt hsp) (cE_sp hsp) rfl rfl (Nat.le_of_ble_eq_true rfl) (fun r11 u12 p13 => ?_)
              obtain ⟨hu9, hb⟩ := p13
              rw [hu9]
              have hbi := hb.in
              refine m_if_eq h dX1_allowsQuotient_77 (tgt := 82) (by decide) (by omega) (fun c14 => ?_) (fun c14 => ?_)
              · skip
                refine m_iinc h dX1_allowsQuotient_82 rfl (by decide) rfl ?_
                refine m_goto h dX1_allowsQuotient_85 (tgt := 10) (by decide) ?_
                refine m_kill 4 ?_
                refine m_kill 5 ?_
                refine ih (x + 1) (by omega) (by omega) (fun x1 y q1 q2 q3 q4 q5 q6 => ?_) (by omega)
                by_cases hx1 : x1 < x
                · exact hno x1 y q1 hx1 q3 q4 q5 q6
                · obtain rfl : x1 = x := by omega
                  first
                    | omega
                    | (have q7 := (fd_iff q5).mp q6
                       have q8 : (z + 1) * x1 = z * x1 + x1 := by rw [Int.add_mul, Int.one_mul]
                       exact hb.no (by omega) ⟨by omega, by omega, by omega, by omega⟩)
              · skip
                refine m_iconst h dX1_allowsQuotient_80 ?_
                refine m_zret h hR rfl dX1_allowsQuotient_81 (by omega) ?_
                refine ⟨rfl, bz1 ?_⟩
                have q6 := hb.yes (by omega)
                have q7 : x ≠ 0 := by assumption
                first
                  | (refine ⟨x, max (v.1 (si + 1) (v.1 (40 + r) 2)) (z * x), by omega, by omega, by omega, by omega, q7, (fd_iff q7).mpr ?_⟩; omega)
                  | (refine ⟨x, max (v.1 (si + 1) (v.1 (40 + r) 2)) ((z + 1) * x + 1), by omega, by omega, by omega, by omega, q7, (fd_iff q7).mpr ?_⟩; omega)
  exact lp10 100 _ (by omega) (by omega) (fun x1 y q1 q2 q3 q4 q5 => by omega) (by omega)

set_option maxRecDepth 100000 in
set_option maxHeartbeats 4000000 in
theorem c_allowsDividend (l : Launch) {G : GT} (hG : gok G) (v : Mem) {r : Nat} (hr : r < 12) (hrw : RwOk v r) {si : Nat} (hsp : isSp si) (hm : SpOk v si) (z : Int) (hz : -32 ≤ z ∧ z ≤ 31) (hA : 0 ≤ (v.1 (40 + r) 1)) (hC : 0 ≤ (v.1 (40 + r) 3)) : CC l G nX1_allowsDividend 1 [.ref (G.2.1 (40 + r)), .int (iI z), .ref (G.2.1 si)] v (qI G (fun q u => u = v ∧ bz q (∃ x, v.1 (si + 1) (v.1 (40 + r) 3) ≤ x ∧ x ≤ v.1 (si + 2) (v.1 (40 + r) 3) ∧ x ≠ 0 ∧ v.1 (si + 1) (v.1 (40 + r) 1) ≤ fd z x ∧ fd z x ≤ v.1 (si + 2) (v.1 (40 + r) 1)))) := by
  refine m_start (lv := [some (.ref (G.2.1 (40 + r))), some (.int (iI z)), some (.ref (G.2.1 si)), none]) hG (by decide +kernel) rfl (Nat.le_of_ble_eq_true rfl) ?_
  intro X hL h hR
  subst hL
  obtain ⟨k0, a0, b0, c0, R0, f0, -, -, -, -, -⟩ := hrw
  have hmA := hm (v.1 (40 + r) 1)
  have hmC := hm (v.1 (40 + r) 3)
  show M X G 4 v 0 [some (.ref (G.2.1 (40 + r))), some (.int (iI z)), some (.ref (G.2.1 si)), none] []
  refine m_aload_n h dX1_allowsDividend_0 rfl rfl ?_
  refine m_get h fo_X1_103 (isSp_lt hsp) (cE_sp hsp) rfl dX1_allowsDividend_1 ?_
  refine m_aload_n h dX1_allowsDividend_4 rfl rfl ?_
  refine m_get h fo_X1_21 (by omega) (cE_row G _ hr) rfl dX1_allowsDividend_5 ?_
  refine m_iald h (ar_sp1 hsp) (by omega) (by omega) dX1_allowsDividend_8 ?_
  refine m_istore_n h dX1_allowsDividend_9 rfl (by decide) rfl ?_
  have lp10 : ∀ (fuel : Nat) (x : Int), v.1 (si + 1) (v.1 (40 + r) 3) ≤ x → x ≤ v.1 (si + 2) (v.1 (40 + r) 3) + 1 → (∀ x1 : Int, v.1 (si + 1) (v.1 (40 + r) 3) ≤ x1 → x1 < x → x1 ≠ 0 → ¬ (v.1 (si + 1) (v.1 (40 + r) 1) ≤ fd z x1 ∧ fd z x1 ≤ v.1 (si + 2) (v.1 (40 + r) 1))) → (33 - x).toNat < fuel → M X G 4 v 10 [some (.ref (G.2.1 (40 + r))), some (.int (iI z)), some (.ref (G.2.1 si)), some (.int (iI x))] [] := by
    intro fuel
    induction fuel with
    | zero => intro x hx1 hx2 hno hf; exfalso; omega
    | succ fuel ih =>
      intro x hx1 hx2 hno hf
      refine m_iload_n h dX1_allowsDividend_10 rfl rfl ?_
      refine m_aload_n h dX1_allowsDividend_11 rfl rfl ?_
      refine m_get h fo_X1_100 (isSp_lt hsp) (cE_sp hsp) rfl dX1_allowsDividend_12 ?_
      refine m_aload_n h dX1_allowsDividend_15 rfl rfl ?_
      refine m_get h fo_X1_21 (by omega) (cE_row G _ hr) rfl dX1_allowsDividend_16 ?_
      refine m_iald h (ar_sp2 hsp) (by omega) (by omega) dX1_allowsDividend_19 ?_
      refine m_icmp_gt h dX1_allowsDividend_20 (tgt := 51) (by decide) (by omega) (by omega) (fun c1 => ?_) (fun c1 => ?_)
      · skip
        refine m_iconst h dX1_allowsDividend_51 ?_
        refine m_zret h hR rfl dX1_allowsDividend_52 (by omega) ?_
        refine ⟨rfl, bz0 ?_⟩
        rintro ⟨x1, q1, q2, q3, q4⟩
        exact hno x1 q1 (by omega) q3 q4
      · skip
        refine m_iload_n h dX1_allowsDividend_23 rfl rfl ?_
        refine m_if_eq h dX1_allowsDividend_24 (tgt := 45) (by decide) (by omega) (fun c2 => ?_) (fun c2 => ?_)
        · skip
          refine m_iinc h dX1_allowsDividend_45 rfl (by decide) rfl ?_
          refine m_goto h dX1_allowsDividend_48 (tgt := 10) (by decide) ?_
          refine ih (x + 1) (by omega) (by omega) (fun x1 q1 q2 q3 q4 => ?_) (by omega)
          by_cases hx1 : x1 < x
          · exact hno x1 q1 hx1 q3 q4
          · obtain rfl : x1 = x := by omega
            first
              | omega
              | (rw [ep1] at hb; exact hb.no (by omega) q4)
        · skip
          refine m_aload_n h dX1_allowsDividend_27 rfl rfl ?_
          refine m_aload_n h dX1_allowsDividend_28 rfl rfl ?_
          refine m_get h fo_X1_15 (by omega) (cE_row G _ hr) rfl dX1_allowsDividend_29 ?_
          refine m_iload_n h dX1_allowsDividend_32 rfl rfl ?_
          refine m_iload_n h dX1_allowsDividend_33 rfl rfl ?_
          refine m_sI h (c_floorDiv _ hG _ z x (by omega) (by omega) (by omega)) moJ9_floorDiv_7cf53 stJ9_floorDiv_7cf53 lk_X1_39 dX1_allowsDividend_34 (by decide) rfl rfl (Nat.le_of_ble_eq_true rfl) (fun p1 u4 p5 => ?_)
          obtain ⟨hu9, ep1⟩ := p5
          rw [hu9]
          have gp1 := fd_rg (a := z) (b := x) (by omega) (by omega)
          rw [← ep1] at gp1
          refine m_vI h (c_cov _ hG hsp _ (v.1 (40 + r) 1) p1 (by omega) (by omega) hm) moX5_covers voX5_covers lk_X1_75 dX1_allowsDividend_37 (by decide) (isSp_lt hsp) (cE_sp hsp) rfl rfl (Nat.le_of_ble_eq_true rfl) (fun r6 u7 p8 => ?_)
          obtain ⟨hu9, hb⟩ := p8
          rw [hu9]
          have hbi := hb.in
          refine m_if_eq h dX1_allowsDividend_40 (tgt := 45) (by decide) (by omega) (fun c9 => ?_) (fun c9 => ?_)
          · skip
            refine m_iinc h dX1_allowsDividend_45 rfl (by decide) rfl ?_
            refine m_goto h dX1_allowsDividend_48 (tgt := 10) (by decide) ?_
            refine ih (x + 1) (by omega) (by omega) (fun x1 q1 q2 q3 q4 => ?_) (by omega)
            by_cases hx1 : x1 < x
            · exact hno x1 q1 hx1 q3 q4
            · obtain rfl : x1 = x := by omega
              first
                | omega
                | (rw [ep1] at hb; exact hb.no (by omega) q4)
          · skip
            refine m_iconst h dX1_allowsDividend_43 ?_
            refine m_zret h hR rfl dX1_allowsDividend_44 (by omega) ?_
            have q6 := hb.yes (by omega)
            rw [ep1] at q6
            have q7 : x ≠ 0 := by assumption
            exact ⟨rfl, bz1 ⟨x, by omega, by omega, q7, q6.1, q6.2⟩⟩
  exact lp10 100 _ (by omega) (by omega) (fun x1 q1 q2 q3 q4 => by omega) (by omega)

set_option maxRecDepth 100000 in
set_option maxHeartbeats 4000000 in
theorem c_allowsDivisor (l : Launch) {G : GT} (hG : gok G) (v : Mem) {r : Nat} (hr : r < 12) (hrw : RwOk v r) {si : Nat} (hsp : isSp si) (hm : SpOk v si) (z : Int) (hz : -32 ≤ z ∧ z ≤ 31) (hA : 0 ≤ (v.1 (40 + r) 1)) (hB : 0 ≤ (v.1 (40 + r) 2)) : CC l G nX1_allowsDivisor 2 [.ref (G.2.1 (40 + r)), .int (iI z), .ref (G.2.1 si)] v (qI G (fun q u => u = v ∧ bz q (z ≠ 0 ∧ ∃ y, v.1 (si + 1) (v.1 (40 + r) 2) ≤ y ∧ y ≤ v.1 (si + 2) (v.1 (40 + r) 2) ∧ v.1 (si + 1) (v.1 (40 + r) 1) ≤ fd y z ∧ fd y z ≤ v.1 (si + 2) (v.1 (40 + r) 1)))) := by
  refine m_start (lv := [some (.ref (G.2.1 (40 + r))), some (.int (iI z)), some (.ref (G.2.1 si)), none, none]) hG (by decide +kernel) rfl (Nat.le_of_ble_eq_true rfl) ?_
  intro X hL h hR
  subst hL
  obtain ⟨k0, a0, b0, c0, R0, f0, -, -, -, -, -⟩ := hrw
  have hmA := hm (v.1 (40 + r) 1)
  have hmB := hm (v.1 (40 + r) 2)
  show M X G 5 v 0 [some (.ref (G.2.1 (40 + r))), some (.int (iI z)), some (.ref (G.2.1 si)), none, none] []
  refine m_iload_n h dX1_allowsDivisor_0 rfl rfl ?_
  refine m_if_ne h dX1_allowsDivisor_1 (tgt := 6) (by decide) (by omega) (fun c1 => ?_) (fun c1 => ?_)
  · skip
    refine m_aload_n h dX1_allowsDivisor_6 rfl rfl ?_
    refine m_get h fo_X1_103 (isSp_lt hsp) (cE_sp hsp) rfl dX1_allowsDivisor_7 ?_
    refine m_aload_n h dX1_allowsDivisor_10 rfl rfl ?_
    refine m_get h fo_X1_18 (by omega) (cE_row G _ hr) rfl dX1_allowsDivisor_11 ?_
    refine m_iald h (ar_sp1 hsp) (by omega) (by omega) dX1_allowsDivisor_14 ?_
    refine m_iload_n h dX1_allowsDivisor_15 rfl rfl ?_
    refine m_sI h (c_floorDiv _ hG _ (v.1 (si + 1) (v.1 (40 + r) 2)) z (by omega) (by omega) (by omega)) moJ9_floorDiv_7cf53 stJ9_floorDiv_7cf53 lk_X1_39 dX1_allowsDivisor_16 (by decide) rfl rfl (Nat.le_of_ble_eq_true rfl) (fun p1 u3 p4 => ?_)
    obtain ⟨hu9, ep1⟩ := p4
    rw [hu9]
    have gp1 := fd_rg (a := v.1 (si + 1) (v.1 (40 + r) 2)) (b := z) (by omega) (by omega)
    rw [← ep1] at gp1
    refine m_istore_n h dX1_allowsDivisor_19 rfl (by decide) rfl ?_
    refine m_aload_n h dX1_allowsDivisor_20 rfl rfl ?_
    refine m_get h fo_X1_100 (isSp_lt hsp) (cE_sp hsp) rfl dX1_allowsDivisor_21 ?_
    refine m_aload_n h dX1_allowsDivisor_24 rfl rfl ?_
    refine m_get h fo_X1_18 (by omega) (cE_row G _ hr) rfl dX1_allowsDivisor_25 ?_
    refine m_iald h (ar_sp2 hsp) (by omega) (by omega) dX1_allowsDivisor_28 ?_
    refine m_iload_n h dX1_allowsDivisor_29 rfl rfl ?_
    refine m_sI h (c_floorDiv _ hG _ (v.1 (si + 2) (v.1 (40 + r) 2)) z (by omega) (by omega) (by omega)) moJ9_floorDiv_7cf53 stJ9_floorDiv_7cf53 lk_X1_39 dX1_allowsDivisor_30 (by decide) rfl rfl (Nat.le_of_ble_eq_true rfl) (fun p2 u6 p7 => ?_)
    obtain ⟨hu9, ep2⟩ := p7
    rw [hu9]
    have gp2 := fd_rg (a := v.1 (si + 2) (v.1 (40 + r) 2)) (b := z) (by omega) (by omega)
    rw [← ep2] at gp2
    refine m_istore h dX1_allowsDivisor_33 (by decide) rfl ?_
    refine m_aload_n h dX1_allowsDivisor_35 rfl rfl ?_
    refine m_aload_n h dX1_allowsDivisor_36 rfl rfl ?_
    refine m_get h fo_X1_15 (by omega) (cE_row G _ hr) rfl dX1_allowsDivisor_37 ?_
    refine m_iload_n h dX1_allowsDivisor_40 rfl rfl ?_
    refine m_iload h dX1_allowsDivisor_41 rfl ?_
    refine m_min h lk_X1_52 dX1_allowsDivisor_43 (by decide) (Nat.le_of_ble_eq_true rfl) (by omega) (by omega) ?_
    refine m_iload_n h dX1_allowsDivisor_46 rfl rfl ?_
    refine m_iload h dX1_allowsDivisor_47 rfl ?_
    refine m_max h lk_X1_49 dX1_allowsDivisor_49 (by decide) (Nat.le_of_ble_eq_true rfl) (by omega) (by omega) ?_
    refine m_vI h (c_meets _ hG hsp _ (v.1 (40 + r) 1) (min p1 p2) (max p1 p2) (by omega) (by omega) (by omega) hm) moX5_meets voX5_meets lk_X1_106 dX1_allowsDivisor_52 (by decide) (isSp_lt hsp) (cE_sp hsp) rfl rfl (Nat.le_of_ble_eq_true rfl) (fun r8 u9 p10 => ?_)
    obtain ⟨hu9, hb⟩ := p10
    rw [hu9]
    have hbi := hb.in
    refine m_zret h hR rfl dX1_allowsDivisor_55 hbi ?_
    refine ⟨rfl, ?_⟩
    have hz0 : z ≠ 0 := by assumption
    rcases hb with ⟨e1, e2⟩ | ⟨e1, e2⟩
    · rw [e1]
      obtain ⟨y, y1, y2, y3⟩ := fd_all (x := z) (l := v.1 (si + 1) (v.1 (40 + r) 2)) (h := v.1 (si + 2) (v.1 (40 + r) 2)) (q := max (v.1 (si + 1) (v.1 (40 + r) 1)) (min p1 p2)) hz0 (by omega) (by rw [← ep1, ← ep2]; omega) (by rw [← ep1, ← ep2]; omega)
      exact bz1 ⟨hz0, y, y1, y2, by omega, by omega⟩
    · rw [e1]
      refine bz0 ?_
      rintro ⟨-, y, y1, y2, y3, y4⟩
      have m1 := fd_mono (x := z) hz0 y1
      have m2 := fd_mono (x := z) hz0 y2
      rw [← ep1] at m1
      rw [← ep2] at m2
      apply e2
      rcases Int.lt_or_gt_of_ne hz0 with hn | hp
      · have := m1.2 hn
        have := m2.2 hn
        omega
      · have := m1.1 hp
        have := m2.1 hp
        omega
  · skip
    refine m_iconst h dX1_allowsDivisor_4 ?_
    refine m_zret h hR rfl dX1_allowsDivisor_5 (by omega) ?_
    exact ⟨rfl, bz0 (fun q => q.1 (by omega))⟩

set_option maxRecDepth 100000 in
set_option maxHeartbeats 4000000 in
theorem c_allowsGreatest (l : Launch) {G : GT} (hG : gok G) (v : Mem) {r : Nat} (hr : r < 12) (hrw : RwOk v r) {si : Nat} (hsp : isSp si) (hm : SpOk v si) (z : Int) (hz : -32 ≤ z ∧ z ≤ 31) (hB : 0 ≤ (v.1 (40 + r) 2)) (hC : 0 ≤ (v.1 (40 + r) 3)) : CC l G nX1_allowsGreatest 1 [.ref (G.2.1 (40 + r)), .int (iI z), .ref (G.2.1 si)] v (qI G (fun q u => u = v ∧ bz q ((v.1 (si + 1) (v.1 (40 + r) 2) ≤ z ∧ z ≤ v.1 (si + 2) (v.1 (40 + r) 2) ∧ v.1 (si + 1) (v.1 (40 + r) 3) ≤ z) ∨ (v.1 (si + 1) (v.1 (40 + r) 3) ≤ z ∧ z ≤ v.1 (si + 2) (v.1 (40 + r) 3) ∧ v.1 (si + 1) (v.1 (40 + r) 2) ≤ z)))) := by
  refine m_start (lv := [some (.ref (G.2.1 (40 + r))), some (.int (iI z)), some (.ref (G.2.1 si))]) hG (by decide +kernel) rfl (Nat.le_of_ble_eq_true rfl) ?_
  intro X hL h hR
  subst hL
  obtain ⟨k0, a0, b0, c0, R0, f0, -, -, -, -, -⟩ := hrw
  have hmB := hm (v.1 (40 + r) 2)
  have hmC := hm (v.1 (40 + r) 3)
  show M X G 3 v 0 [some (.ref (G.2.1 (40 + r))), some (.int (iI z)), some (.ref (G.2.1 si))] []
  refine m_aload_n h dX1_allowsGreatest_0 rfl rfl ?_
  refine m_aload_n h dX1_allowsGreatest_1 rfl rfl ?_
  refine m_get h fo_X1_18 (by omega) (cE_row G _ hr) rfl dX1_allowsGreatest_2 ?_
  refine m_iload_n h dX1_allowsGreatest_5 rfl rfl ?_
  refine m_vI h (c_cov _ hG hsp _ (v.1 (40 + r) 2) z (by omega) (by omega) hm) moX5_covers voX5_covers lk_X1_75 dX1_allowsGreatest_6 (by decide) (isSp_lt hsp) (cE_sp hsp) rfl rfl (Nat.le_of_ble_eq_true rfl) (fun r1 u2 p3 => ?_)
  obtain ⟨hu9, hb1⟩ := p3
  rw [hu9]
  have hb1i := hb1.in
  refine m_if_eq h dX1_allowsGreatest_9 (tgt := 25) (by decide) (by omega) (fun c4 => ?_) (fun c4 => ?_)
  · skip
    refine m_aload_n h dX1_allowsGreatest_25 rfl rfl ?_
    refine m_aload_n h dX1_allowsGreatest_26 rfl rfl ?_
    refine m_get h fo_X1_21 (by omega) (cE_row G _ hr) rfl dX1_allowsGreatest_27 ?_
    refine m_iload_n h dX1_allowsGreatest_30 rfl rfl ?_
    refine m_vI h (c_cov _ hG hsp _ (v.1 (40 + r) 3) z (by omega) (by omega) hm) moX5_covers voX5_covers lk_X1_75 dX1_allowsGreatest_31 (by decide) (isSp_lt hsp) (cE_sp hsp) rfl rfl (Nat.le_of_ble_eq_true rfl) (fun r5 u6 p7 => ?_)
    obtain ⟨hu9, hb2⟩ := p7
    rw [hu9]
    have hb2i := hb2.in
    refine m_if_eq h dX1_allowsGreatest_34 (tgt := 54) (by decide) (by omega) (fun c8 => ?_) (fun c8 => ?_)
    · skip
      refine m_iconst h dX1_allowsGreatest_54 ?_
      refine m_zret h hR rfl dX1_allowsGreatest_55 (by omega) ?_
      refine ⟨rfl, ?_⟩
      rcases hb1 with ⟨e1, e2⟩ | ⟨e1, e2⟩ <;> first | (rcases hb2 with ⟨e3, e4⟩ | ⟨e3, e4⟩ <;> first | omega | (refine bz1 ?_; omega) | (refine bz0 ?_; omega)) | (first | omega | (refine bz1 ?_; omega) | (refine bz0 ?_; omega))
    · skip
      refine m_aload_n h dX1_allowsGreatest_37 rfl rfl ?_
      refine m_get h fo_X1_103 (isSp_lt hsp) (cE_sp hsp) rfl dX1_allowsGreatest_38 ?_
      refine m_aload_n h dX1_allowsGreatest_41 rfl rfl ?_
      refine m_get h fo_X1_18 (by omega) (cE_row G _ hr) rfl dX1_allowsGreatest_42 ?_
      refine m_iald h (ar_sp1 hsp) (by omega) (by omega) dX1_allowsGreatest_45 ?_
      refine m_iload_n h dX1_allowsGreatest_46 rfl rfl ?_
      refine m_icmp_gt h dX1_allowsGreatest_47 (tgt := 54) (by decide) (by omega) (by omega) (fun c9 => ?_) (fun c9 => ?_)
      · skip
        refine m_iconst h dX1_allowsGreatest_54 ?_
        refine m_zret h hR rfl dX1_allowsGreatest_55 (by omega) ?_
        refine ⟨rfl, ?_⟩
        rcases hb1 with ⟨e1, e2⟩ | ⟨e1, e2⟩ <;> first | (rcases hb2 with ⟨e3, e4⟩ | ⟨e3, e4⟩ <;> first | omega | (refine bz1 ?_; omega) | (refine bz0 ?_; omega)) | (first | omega | (refine bz1 ?_; omega) | (refine bz0 ?_; omega))
      · skip
        refine m_iconst h dX1_allowsGreatest_50 ?_
        refine m_goto h dX1_allowsGreatest_51 (tgt := 55) (by decide) ?_
        refine m_zret h hR rfl dX1_allowsGreatest_55 (by omega) ?_
        refine ⟨rfl, ?_⟩
        rcases hb1 with ⟨e1, e2⟩ | ⟨e1, e2⟩ <;> first | (rcases hb2 with ⟨e3, e4⟩ | ⟨e3, e4⟩ <;> first | omega | (refine bz1 ?_; omega) | (refine bz0 ?_; omega)) | (first | omega | (refine bz1 ?_; omega) | (refine bz0 ?_; omega))
  · skip
    refine m_aload_n h dX1_allowsGreatest_12 rfl rfl ?_
    refine m_get h fo_X1_103 (isSp_lt hsp) (cE_sp hsp) rfl dX1_allowsGreatest_13 ?_
    refine m_aload_n h dX1_allowsGreatest_16 rfl rfl ?_
    refine m_get h fo_X1_21 (by omega) (cE_row G _ hr) rfl dX1_allowsGreatest_17 ?_
    refine m_iald h (ar_sp1 hsp) (by omega) (by omega) dX1_allowsGreatest_20 ?_
    refine m_iload_n h dX1_allowsGreatest_21 rfl rfl ?_
    refine m_icmp_le h dX1_allowsGreatest_22 (tgt := 50) (by decide) (by omega) (by omega) (fun c10 => ?_) (fun c10 => ?_)
    · skip
      refine m_iconst h dX1_allowsGreatest_50 ?_
      refine m_goto h dX1_allowsGreatest_51 (tgt := 55) (by decide) ?_
      refine m_zret h hR rfl dX1_allowsGreatest_55 (by omega) ?_
      refine ⟨rfl, ?_⟩
      rcases hb1 with ⟨e1, e2⟩ | ⟨e1, e2⟩ <;> first | (rcases hb2 with ⟨e3, e4⟩ | ⟨e3, e4⟩ <;> first | omega | (refine bz1 ?_; omega) | (refine bz0 ?_; omega)) | (first | omega | (refine bz1 ?_; omega) | (refine bz0 ?_; omega))
    · skip
      refine m_aload_n h dX1_allowsGreatest_25 rfl rfl ?_
      refine m_aload_n h dX1_allowsGreatest_26 rfl rfl ?_
      refine m_get h fo_X1_21 (by omega) (cE_row G _ hr) rfl dX1_allowsGreatest_27 ?_
      refine m_iload_n h dX1_allowsGreatest_30 rfl rfl ?_
      refine m_vI h (c_cov _ hG hsp _ (v.1 (40 + r) 3) z (by omega) (by omega) hm) moX5_covers voX5_covers lk_X1_75 dX1_allowsGreatest_31 (by decide) (isSp_lt hsp) (cE_sp hsp) rfl rfl (Nat.le_of_ble_eq_true rfl) (fun r11 u12 p13 => ?_)
      obtain ⟨hu9, hb2⟩ := p13
      rw [hu9]
      have hb2i := hb2.in
      refine m_if_eq h dX1_allowsGreatest_34 (tgt := 54) (by decide) (by omega) (fun c14 => ?_) (fun c14 => ?_)
      · skip
        refine m_iconst h dX1_allowsGreatest_54 ?_
        refine m_zret h hR rfl dX1_allowsGreatest_55 (by omega) ?_
        refine ⟨rfl, ?_⟩
        rcases hb1 with ⟨e1, e2⟩ | ⟨e1, e2⟩ <;> first | (rcases hb2 with ⟨e3, e4⟩ | ⟨e3, e4⟩ <;> first | omega | (refine bz1 ?_; omega) | (refine bz0 ?_; omega)) | (first | omega | (refine bz1 ?_; omega) | (refine bz0 ?_; omega))
      · skip
        refine m_aload_n h dX1_allowsGreatest_37 rfl rfl ?_
        refine m_get h fo_X1_103 (isSp_lt hsp) (cE_sp hsp) rfl dX1_allowsGreatest_38 ?_
        refine m_aload_n h dX1_allowsGreatest_41 rfl rfl ?_
        refine m_get h fo_X1_18 (by omega) (cE_row G _ hr) rfl dX1_allowsGreatest_42 ?_
        refine m_iald h (ar_sp1 hsp) (by omega) (by omega) dX1_allowsGreatest_45 ?_
        refine m_iload_n h dX1_allowsGreatest_46 rfl rfl ?_
        refine m_icmp_gt h dX1_allowsGreatest_47 (tgt := 54) (by decide) (by omega) (by omega) (fun c15 => ?_) (fun c15 => ?_)
        · skip
          refine m_iconst h dX1_allowsGreatest_54 ?_
          refine m_zret h hR rfl dX1_allowsGreatest_55 (by omega) ?_
          refine ⟨rfl, ?_⟩
          rcases hb1 with ⟨e1, e2⟩ | ⟨e1, e2⟩ <;> first | (rcases hb2 with ⟨e3, e4⟩ | ⟨e3, e4⟩ <;> first | omega | (refine bz1 ?_; omega) | (refine bz0 ?_; omega)) | (first | omega | (refine bz1 ?_; omega) | (refine bz0 ?_; omega))
        · skip
          refine m_iconst h dX1_allowsGreatest_50 ?_
          refine m_goto h dX1_allowsGreatest_51 (tgt := 55) (by decide) ?_
          refine m_zret h hR rfl dX1_allowsGreatest_55 (by omega) ?_
          refine ⟨rfl, ?_⟩
          rcases hb1 with ⟨e1, e2⟩ | ⟨e1, e2⟩ <;> first | (rcases hb2 with ⟨e3, e4⟩ | ⟨e3, e4⟩ <;> first | omega | (refine bz1 ?_; omega) | (refine bz0 ?_; omega)) | (first | omega | (refine bz1 ?_; omega) | (refine bz0 ?_; omega))

set_option maxRecDepth 100000 in
set_option maxHeartbeats 4000000 in
theorem c_allowsLeast (l : Launch) {G : GT} (hG : gok G) (v : Mem) {r : Nat} (hr : r < 12) (hrw : RwOk v r) {si : Nat} (hsp : isSp si) (hm : SpOk v si) (z : Int) (hz : -32 ≤ z ∧ z ≤ 31) (hB : 0 ≤ (v.1 (40 + r) 2)) (hC : 0 ≤ (v.1 (40 + r) 3)) : CC l G nX1_allowsLeast 1 [.ref (G.2.1 (40 + r)), .int (iI z), .ref (G.2.1 si)] v (qI G (fun q u => u = v ∧ bz q ((v.1 (si + 1) (v.1 (40 + r) 2) ≤ z ∧ z ≤ v.1 (si + 2) (v.1 (40 + r) 2) ∧ v.1 (si + 2) (v.1 (40 + r) 3) ≥ z) ∨ (v.1 (si + 1) (v.1 (40 + r) 3) ≤ z ∧ z ≤ v.1 (si + 2) (v.1 (40 + r) 3) ∧ v.1 (si + 2) (v.1 (40 + r) 2) ≥ z)))) := by
  refine m_start (lv := [some (.ref (G.2.1 (40 + r))), some (.int (iI z)), some (.ref (G.2.1 si))]) hG (by decide +kernel) rfl (Nat.le_of_ble_eq_true rfl) ?_
  intro X hL h hR
  subst hL
  obtain ⟨k0, a0, b0, c0, R0, f0, -, -, -, -, -⟩ := hrw
  have hmB := hm (v.1 (40 + r) 2)
  have hmC := hm (v.1 (40 + r) 3)
  show M X G 3 v 0 [some (.ref (G.2.1 (40 + r))), some (.int (iI z)), some (.ref (G.2.1 si))] []
  refine m_aload_n h dX1_allowsLeast_0 rfl rfl ?_
  refine m_aload_n h dX1_allowsLeast_1 rfl rfl ?_
  refine m_get h fo_X1_18 (by omega) (cE_row G _ hr) rfl dX1_allowsLeast_2 ?_
  refine m_iload_n h dX1_allowsLeast_5 rfl rfl ?_
  refine m_vI h (c_cov _ hG hsp _ (v.1 (40 + r) 2) z (by omega) (by omega) hm) moX5_covers voX5_covers lk_X1_75 dX1_allowsLeast_6 (by decide) (isSp_lt hsp) (cE_sp hsp) rfl rfl (Nat.le_of_ble_eq_true rfl) (fun r1 u2 p3 => ?_)
  obtain ⟨hu9, hb1⟩ := p3
  rw [hu9]
  have hb1i := hb1.in
  refine m_if_eq h dX1_allowsLeast_9 (tgt := 25) (by decide) (by omega) (fun c4 => ?_) (fun c4 => ?_)
  · skip
    refine m_aload_n h dX1_allowsLeast_25 rfl rfl ?_
    refine m_aload_n h dX1_allowsLeast_26 rfl rfl ?_
    refine m_get h fo_X1_21 (by omega) (cE_row G _ hr) rfl dX1_allowsLeast_27 ?_
    refine m_iload_n h dX1_allowsLeast_30 rfl rfl ?_
    refine m_vI h (c_cov _ hG hsp _ (v.1 (40 + r) 3) z (by omega) (by omega) hm) moX5_covers voX5_covers lk_X1_75 dX1_allowsLeast_31 (by decide) (isSp_lt hsp) (cE_sp hsp) rfl rfl (Nat.le_of_ble_eq_true rfl) (fun r5 u6 p7 => ?_)
    obtain ⟨hu9, hb2⟩ := p7
    rw [hu9]
    have hb2i := hb2.in
    refine m_if_eq h dX1_allowsLeast_34 (tgt := 54) (by decide) (by omega) (fun c8 => ?_) (fun c8 => ?_)
    · skip
      refine m_iconst h dX1_allowsLeast_54 ?_
      refine m_zret h hR rfl dX1_allowsLeast_55 (by omega) ?_
      refine ⟨rfl, ?_⟩
      rcases hb1 with ⟨e1, e2⟩ | ⟨e1, e2⟩ <;> first | (rcases hb2 with ⟨e3, e4⟩ | ⟨e3, e4⟩ <;> first | omega | (refine bz1 ?_; omega) | (refine bz0 ?_; omega)) | (first | omega | (refine bz1 ?_; omega) | (refine bz0 ?_; omega))
    · skip
      refine m_aload_n h dX1_allowsLeast_37 rfl rfl ?_
      refine m_get h fo_X1_100 (isSp_lt hsp) (cE_sp hsp) rfl dX1_allowsLeast_38 ?_
      refine m_aload_n h dX1_allowsLeast_41 rfl rfl ?_
      refine m_get h fo_X1_18 (by omega) (cE_row G _ hr) rfl dX1_allowsLeast_42 ?_
      refine m_iald h (ar_sp2 hsp) (by omega) (by omega) dX1_allowsLeast_45 ?_
      refine m_iload_n h dX1_allowsLeast_46 rfl rfl ?_
      refine m_icmp_lt h dX1_allowsLeast_47 (tgt := 54) (by decide) (by omega) (by omega) (fun c9 => ?_) (fun c9 => ?_)
      · skip
        refine m_iconst h dX1_allowsLeast_54 ?_
        refine m_zret h hR rfl dX1_allowsLeast_55 (by omega) ?_
        refine ⟨rfl, ?_⟩
        rcases hb1 with ⟨e1, e2⟩ | ⟨e1, e2⟩ <;> first | (rcases hb2 with ⟨e3, e4⟩ | ⟨e3, e4⟩ <;> first | omega | (refine bz1 ?_; omega) | (refine bz0 ?_; omega)) | (first | omega | (refine bz1 ?_; omega) | (refine bz0 ?_; omega))
      · skip
        refine m_iconst h dX1_allowsLeast_50 ?_
        refine m_goto h dX1_allowsLeast_51 (tgt := 55) (by decide) ?_
        refine m_zret h hR rfl dX1_allowsLeast_55 (by omega) ?_
        refine ⟨rfl, ?_⟩
        rcases hb1 with ⟨e1, e2⟩ | ⟨e1, e2⟩ <;> first | (rcases hb2 with ⟨e3, e4⟩ | ⟨e3, e4⟩ <;> first | omega | (refine bz1 ?_; omega) | (refine bz0 ?_; omega)) | (first | omega | (refine bz1 ?_; omega) | (refine bz0 ?_; omega))
  · skip
    refine m_aload_n h dX1_allowsLeast_12 rfl rfl ?_
    refine m_get h fo_X1_100 (isSp_lt hsp) (cE_sp hsp) rfl dX1_allowsLeast_13 ?_
    refine m_aload_n h dX1_allowsLeast_16 rfl rfl ?_
    refine m_get h fo_X1_21 (by omega) (cE_row G _ hr) rfl dX1_allowsLeast_17 ?_
    refine m_iald h (ar_sp2 hsp) (by omega) (by omega) dX1_allowsLeast_20 ?_
    refine m_iload_n h dX1_allowsLeast_21 rfl rfl ?_
    refine m_icmp_ge h dX1_allowsLeast_22 (tgt := 50) (by decide) (by omega) (by omega) (fun c10 => ?_) (fun c10 => ?_)
    · skip
      refine m_iconst h dX1_allowsLeast_50 ?_
      refine m_goto h dX1_allowsLeast_51 (tgt := 55) (by decide) ?_
      refine m_zret h hR rfl dX1_allowsLeast_55 (by omega) ?_
      refine ⟨rfl, ?_⟩
      rcases hb1 with ⟨e1, e2⟩ | ⟨e1, e2⟩ <;> first | (rcases hb2 with ⟨e3, e4⟩ | ⟨e3, e4⟩ <;> first | omega | (refine bz1 ?_; omega) | (refine bz0 ?_; omega)) | (first | omega | (refine bz1 ?_; omega) | (refine bz0 ?_; omega))
    · skip
      refine m_aload_n h dX1_allowsLeast_25 rfl rfl ?_
      refine m_aload_n h dX1_allowsLeast_26 rfl rfl ?_
      refine m_get h fo_X1_21 (by omega) (cE_row G _ hr) rfl dX1_allowsLeast_27 ?_
      refine m_iload_n h dX1_allowsLeast_30 rfl rfl ?_
      refine m_vI h (c_cov _ hG hsp _ (v.1 (40 + r) 3) z (by omega) (by omega) hm) moX5_covers voX5_covers lk_X1_75 dX1_allowsLeast_31 (by decide) (isSp_lt hsp) (cE_sp hsp) rfl rfl (Nat.le_of_ble_eq_true rfl) (fun r11 u12 p13 => ?_)
      obtain ⟨hu9, hb2⟩ := p13
      rw [hu9]
      have hb2i := hb2.in
      refine m_if_eq h dX1_allowsLeast_34 (tgt := 54) (by decide) (by omega) (fun c14 => ?_) (fun c14 => ?_)
      · skip
        refine m_iconst h dX1_allowsLeast_54 ?_
        refine m_zret h hR rfl dX1_allowsLeast_55 (by omega) ?_
        refine ⟨rfl, ?_⟩
        rcases hb1 with ⟨e1, e2⟩ | ⟨e1, e2⟩ <;> first | (rcases hb2 with ⟨e3, e4⟩ | ⟨e3, e4⟩ <;> first | omega | (refine bz1 ?_; omega) | (refine bz0 ?_; omega)) | (first | omega | (refine bz1 ?_; omega) | (refine bz0 ?_; omega))
      · skip
        refine m_aload_n h dX1_allowsLeast_37 rfl rfl ?_
        refine m_get h fo_X1_100 (isSp_lt hsp) (cE_sp hsp) rfl dX1_allowsLeast_38 ?_
        refine m_aload_n h dX1_allowsLeast_41 rfl rfl ?_
        refine m_get h fo_X1_18 (by omega) (cE_row G _ hr) rfl dX1_allowsLeast_42 ?_
        refine m_iald h (ar_sp2 hsp) (by omega) (by omega) dX1_allowsLeast_45 ?_
        refine m_iload_n h dX1_allowsLeast_46 rfl rfl ?_
        refine m_icmp_lt h dX1_allowsLeast_47 (tgt := 54) (by decide) (by omega) (by omega) (fun c15 => ?_) (fun c15 => ?_)
        · skip
          refine m_iconst h dX1_allowsLeast_54 ?_
          refine m_zret h hR rfl dX1_allowsLeast_55 (by omega) ?_
          refine ⟨rfl, ?_⟩
          rcases hb1 with ⟨e1, e2⟩ | ⟨e1, e2⟩ <;> first | (rcases hb2 with ⟨e3, e4⟩ | ⟨e3, e4⟩ <;> first | omega | (refine bz1 ?_; omega) | (refine bz0 ?_; omega)) | (first | omega | (refine bz1 ?_; omega) | (refine bz0 ?_; omega))
        · skip
          refine m_iconst h dX1_allowsLeast_50 ?_
          refine m_goto h dX1_allowsLeast_51 (tgt := 55) (by decide) ?_
          refine m_zret h hR rfl dX1_allowsLeast_55 (by omega) ?_
          refine ⟨rfl, ?_⟩
          rcases hb1 with ⟨e1, e2⟩ | ⟨e1, e2⟩ <;> first | (rcases hb2 with ⟨e3, e4⟩ | ⟨e3, e4⟩ <;> first | omega | (refine bz1 ?_; omega) | (refine bz0 ?_; omega)) | (first | omega | (refine bz1 ?_; omega) | (refine bz0 ?_; omega))

set_option maxRecDepth 100000 in
set_option maxHeartbeats 4000000 in
theorem c_allowsBesideGreatest (l : Launch) {G : GT} (hG : gok G) (v : Mem) {r : Nat} (hr : r < 12) (hrw : RwOk v r) {si : Nat} (hsp : isSp si) (hm : SpOk v si) (z : Int) (hz : -32 ≤ z ∧ z ≤ 31) (w : Int) (hw : 0 ≤ w ∧ w < 8) (hA : 0 ≤ (v.1 (40 + r) 1)) : CC l G nX1_allowsBesideGreatest 2 [.ref (G.2.1 (40 + r)), .int (iI z), .int (iI w), .ref (G.2.1 si)] v (qI G (fun q u => u = v ∧ bz q (v.1 (si + 1) (v.1 (40 + r) 1) ≤ max z (v.1 (si + 2) w) ∧ max z (v.1 (si + 1) w) ≤ v.1 (si + 2) (v.1 (40 + r) 1)))) := by
  refine m_start (lv := [some (.ref (G.2.1 (40 + r))), some (.int (iI z)), some (.int (iI w)), some (.ref (G.2.1 si))]) hG (by decide +kernel) rfl (Nat.le_of_ble_eq_true rfl) ?_
  intro X hL h hR
  subst hL
  obtain ⟨k0, a0, b0, c0, R0, f0, -, -, -, -, -⟩ := hrw
  have hmA := hm (v.1 (40 + r) 1)
  have hmw := hm w
  show M X G 4 v 0 [some (.ref (G.2.1 (40 + r))), some (.int (iI z)), some (.int (iI w)), some (.ref (G.2.1 si))] []
  refine m_aload_n h dX1_allowsBesideGreatest_0 rfl rfl ?_
  refine m_aload_n h dX1_allowsBesideGreatest_1 rfl rfl ?_
  refine m_get h fo_X1_15 (by omega) (cE_row G _ hr) rfl dX1_allowsBesideGreatest_2 ?_
  refine m_iload_n h dX1_allowsBesideGreatest_5 rfl rfl ?_
  refine m_aload_n h dX1_allowsBesideGreatest_6 rfl rfl ?_
  refine m_get h fo_X1_103 (isSp_lt hsp) (cE_sp hsp) rfl dX1_allowsBesideGreatest_7 ?_
  refine m_iload_n h dX1_allowsBesideGreatest_10 rfl rfl ?_
  refine m_iald h (ar_sp1 hsp) (by omega) (by omega) dX1_allowsBesideGreatest_11 ?_
  refine m_max h lk_X1_49 dX1_allowsBesideGreatest_12 (by decide) (Nat.le_of_ble_eq_true rfl) (by omega) (by omega) ?_
  refine m_iload_n h dX1_allowsBesideGreatest_15 rfl rfl ?_
  refine m_aload_n h dX1_allowsBesideGreatest_16 rfl rfl ?_
  refine m_get h fo_X1_100 (isSp_lt hsp) (cE_sp hsp) rfl dX1_allowsBesideGreatest_17 ?_
  refine m_iload_n h dX1_allowsBesideGreatest_20 rfl rfl ?_
  refine m_iald h (ar_sp2 hsp) (by omega) (by omega) dX1_allowsBesideGreatest_21 ?_
  refine m_max h lk_X1_49 dX1_allowsBesideGreatest_22 (by decide) (Nat.le_of_ble_eq_true rfl) (by omega) (by omega) ?_
  refine m_vI h (c_meets _ hG hsp _ (v.1 (40 + r) 1) (max z (v.1 (si + 1) w)) (max z (v.1 (si + 2) w)) (by omega) (by omega) (by omega) hm) moX5_meets voX5_meets lk_X1_106 dX1_allowsBesideGreatest_25 (by decide) (isSp_lt hsp) (cE_sp hsp) rfl rfl (Nat.le_of_ble_eq_true rfl) (fun r1 u2 p3 => ?_)
  obtain ⟨hu9, hb⟩ := p3
  rw [hu9]
  have hbi := hb.in
  refine m_zret h hR rfl dX1_allowsBesideGreatest_28 hbi ?_
  refine ⟨rfl, ?_⟩
  rcases hb with ⟨e1, e2⟩ | ⟨e1, e2⟩
  · rw [e1]
    exact bz1 (by omega)
  · rw [e1]
    exact bz0 (by omega)

set_option maxRecDepth 100000 in
set_option maxHeartbeats 4000000 in
theorem c_allowsBesideLeast (l : Launch) {G : GT} (hG : gok G) (v : Mem) {r : Nat} (hr : r < 12) (hrw : RwOk v r) {si : Nat} (hsp : isSp si) (hm : SpOk v si) (z : Int) (hz : -32 ≤ z ∧ z ≤ 31) (w : Int) (hw : 0 ≤ w ∧ w < 8) (hA : 0 ≤ (v.1 (40 + r) 1)) : CC l G nX1_allowsBesideLeast 2 [.ref (G.2.1 (40 + r)), .int (iI z), .int (iI w), .ref (G.2.1 si)] v (qI G (fun q u => u = v ∧ bz q (v.1 (si + 1) (v.1 (40 + r) 1) ≤ min z (v.1 (si + 2) w) ∧ min z (v.1 (si + 1) w) ≤ v.1 (si + 2) (v.1 (40 + r) 1)))) := by
  refine m_start (lv := [some (.ref (G.2.1 (40 + r))), some (.int (iI z)), some (.int (iI w)), some (.ref (G.2.1 si))]) hG (by decide +kernel) rfl (Nat.le_of_ble_eq_true rfl) ?_
  intro X hL h hR
  subst hL
  obtain ⟨k0, a0, b0, c0, R0, f0, -, -, -, -, -⟩ := hrw
  have hmA := hm (v.1 (40 + r) 1)
  have hmw := hm w
  show M X G 4 v 0 [some (.ref (G.2.1 (40 + r))), some (.int (iI z)), some (.int (iI w)), some (.ref (G.2.1 si))] []
  refine m_aload_n h dX1_allowsBesideLeast_0 rfl rfl ?_
  refine m_aload_n h dX1_allowsBesideLeast_1 rfl rfl ?_
  refine m_get h fo_X1_15 (by omega) (cE_row G _ hr) rfl dX1_allowsBesideLeast_2 ?_
  refine m_iload_n h dX1_allowsBesideLeast_5 rfl rfl ?_
  refine m_aload_n h dX1_allowsBesideLeast_6 rfl rfl ?_
  refine m_get h fo_X1_103 (isSp_lt hsp) (cE_sp hsp) rfl dX1_allowsBesideLeast_7 ?_
  refine m_iload_n h dX1_allowsBesideLeast_10 rfl rfl ?_
  refine m_iald h (ar_sp1 hsp) (by omega) (by omega) dX1_allowsBesideLeast_11 ?_
  refine m_min h lk_X1_52 dX1_allowsBesideLeast_12 (by decide) (Nat.le_of_ble_eq_true rfl) (by omega) (by omega) ?_
  refine m_iload_n h dX1_allowsBesideLeast_15 rfl rfl ?_
  refine m_aload_n h dX1_allowsBesideLeast_16 rfl rfl ?_
  refine m_get h fo_X1_100 (isSp_lt hsp) (cE_sp hsp) rfl dX1_allowsBesideLeast_17 ?_
  refine m_iload_n h dX1_allowsBesideLeast_20 rfl rfl ?_
  refine m_iald h (ar_sp2 hsp) (by omega) (by omega) dX1_allowsBesideLeast_21 ?_
  refine m_min h lk_X1_52 dX1_allowsBesideLeast_22 (by decide) (Nat.le_of_ble_eq_true rfl) (by omega) (by omega) ?_
  refine m_vI h (c_meets _ hG hsp _ (v.1 (40 + r) 1) (min z (v.1 (si + 1) w)) (min z (v.1 (si + 2) w)) (by omega) (by omega) (by omega) hm) moX5_meets voX5_meets lk_X1_106 dX1_allowsBesideLeast_25 (by decide) (isSp_lt hsp) (cE_sp hsp) rfl rfl (Nat.le_of_ble_eq_true rfl) (fun r1 u2 p3 => ?_)
  obtain ⟨hu9, hb⟩ := p3
  rw [hu9]
  have hbi := hb.in
  refine m_zret h hR rfl dX1_allowsBesideLeast_28 hbi ?_
  refine ⟨rfl, ?_⟩
  rcases hb with ⟨e1, e2⟩ | ⟨e1, e2⟩
  · rw [e1]
    exact bz1 (by omega)
  · rw [e1]
    exact bz0 (by omega)

set_option maxRecDepth 100000 in
set_option maxHeartbeats 4000000 in
theorem c_allowsInCount (l : Launch) {G : GT} (hG : gok G) (v : Mem) {r : Nat} (hr : r < 12) (hrw : RwOk v r) {si : Nat} (hsp : isSp si) (hm : SpOk v si) (n : Int) (hn : 0 ≤ n ∧ n < 8) (z : Int) (hz : -32 ≤ z ∧ z ≤ 31) (p q : Int) (hp : 0 ≤ p ∧ p ≤ q) (hq : q ≤ 8) (hA : 0 ≤ (v.1 (40 + r) 1)) : CC l G nX1_allowsInCount 2 [.ref (G.2.1 (40 + r)), .int (iI n), .int (iI z), .ref (G.2.1 si), .int (iI p), .int (iI q)] v (qI G (fun qq u => u = v ∧ bz qq ((n = (v.1 (40 + r) 1) → p ≤ z ∧ z ≤ q) ∧ (n ≠ (v.1 (40 + r) 1) → z = (v.1 (40 + r) 4) → v.1 (si + 1) (v.1 (40 + r) 1) ≤ q + 1 ∧ p + 1 ≤ v.1 (si + 2) (v.1 (40 + r) 1)) ∧ (n ≠ (v.1 (40 + r) 1) → z ≠ (v.1 (40 + r) 4) → v.1 (si + 1) (v.1 (40 + r) 1) ≤ q ∧ p ≤ v.1 (si + 2) (v.1 (40 + r) 1))))) := by
  refine m_start (lv := [some (.ref (G.2.1 (40 + r))), some (.int (iI n)), some (.int (iI z)), some (.ref (G.2.1 si)), some (.int (iI p)), some (.int (iI q)), none]) hG (by decide +kernel) rfl (Nat.le_of_ble_eq_true rfl) ?_
  intro X hL h hR
  subst hL
  obtain ⟨k0, a0, b0, c0, R0, f0, -, -, -, -, -⟩ := hrw
  have hmA := hm (v.1 (40 + r) 1)
  show M X G 7 v 0 [some (.ref (G.2.1 (40 + r))), some (.int (iI n)), some (.int (iI z)), some (.ref (G.2.1 si)), some (.int (iI p)), some (.int (iI q)), none] []
  refine m_iload_n h dX1_allowsInCount_0 rfl rfl ?_
  refine m_aload_n h dX1_allowsInCount_1 rfl rfl ?_
  refine m_get h fo_X1_15 (by omega) (cE_row G _ hr) rfl dX1_allowsInCount_2 ?_
  refine m_icmp_ne h dX1_allowsInCount_5 (tgt := 26) (by decide) (by omega) (by omega) (fun c1 => ?_) (fun c1 => ?_)
  · skip
    refine m_iload_n h dX1_allowsInCount_26 rfl rfl ?_
    refine m_aload_n h dX1_allowsInCount_27 rfl rfl ?_
    refine m_get h fo_X1_24 (by omega) (cE_row G _ hr) rfl dX1_allowsInCount_28 ?_
    refine m_icmp_ne h dX1_allowsInCount_31 (tgt := 38) (by decide) (by omega) (by omega) (fun c2 => ?_) (fun c2 => ?_)
    · skip
      refine m_iconst h dX1_allowsInCount_38 ?_
      refine m_istore h dX1_allowsInCount_39 (by decide) rfl ?_
      refine m_aload_n h dX1_allowsInCount_41 rfl rfl ?_
      refine m_aload_n h dX1_allowsInCount_42 rfl rfl ?_
      refine m_get h fo_X1_15 (by omega) (cE_row G _ hr) rfl dX1_allowsInCount_43 ?_
      refine m_iload h dX1_allowsInCount_46 rfl ?_
      refine m_iload h dX1_allowsInCount_48 rfl ?_
      refine m_iadd h dX1_allowsInCount_50 ?_
      refine m_iload h dX1_allowsInCount_51 rfl ?_
      refine m_iload h dX1_allowsInCount_53 rfl ?_
      refine m_iadd h dX1_allowsInCount_55 ?_
      refine m_vI h (c_meets _ hG hsp _ (v.1 (40 + r) 1) (p + 0) (q + 0) (by omega) (by omega) (by omega) hm) moX5_meets voX5_meets lk_X1_106 dX1_allowsInCount_56 (by decide) (isSp_lt hsp) (cE_sp hsp) rfl rfl (Nat.le_of_ble_eq_true rfl) (fun r3 u4 p5 => ?_)
      obtain ⟨hu9, hb⟩ := p5
      rw [hu9]
      have hbi := hb.in
      refine m_zret h hR rfl dX1_allowsInCount_59 hbi ?_
      refine ⟨rfl, ?_⟩
      rcases hb with ⟨e1, e2⟩ | ⟨e1, e2⟩
      · rw [e1]
        exact bz1 (by omega)
      · rw [e1]
        exact bz0 (by omega)
    · skip
      refine m_iconst h dX1_allowsInCount_34 ?_
      refine m_goto h dX1_allowsInCount_35 (tgt := 39) (by decide) ?_
      refine m_istore h dX1_allowsInCount_39 (by decide) rfl ?_
      refine m_aload_n h dX1_allowsInCount_41 rfl rfl ?_
      refine m_aload_n h dX1_allowsInCount_42 rfl rfl ?_
      refine m_get h fo_X1_15 (by omega) (cE_row G _ hr) rfl dX1_allowsInCount_43 ?_
      refine m_iload h dX1_allowsInCount_46 rfl ?_
      refine m_iload h dX1_allowsInCount_48 rfl ?_
      refine m_iadd h dX1_allowsInCount_50 ?_
      refine m_iload h dX1_allowsInCount_51 rfl ?_
      refine m_iload h dX1_allowsInCount_53 rfl ?_
      refine m_iadd h dX1_allowsInCount_55 ?_
      refine m_vI h (c_meets _ hG hsp _ (v.1 (40 + r) 1) (p + 1) (q + 1) (by omega) (by omega) (by omega) hm) moX5_meets voX5_meets lk_X1_106 dX1_allowsInCount_56 (by decide) (isSp_lt hsp) (cE_sp hsp) rfl rfl (Nat.le_of_ble_eq_true rfl) (fun r6 u7 p8 => ?_)
      obtain ⟨hu9, hb⟩ := p8
      rw [hu9]
      have hbi := hb.in
      refine m_zret h hR rfl dX1_allowsInCount_59 hbi ?_
      refine ⟨rfl, ?_⟩
      rcases hb with ⟨e1, e2⟩ | ⟨e1, e2⟩
      · rw [e1]
        exact bz1 (by omega)
      · rw [e1]
        exact bz0 (by omega)
  · skip
    refine m_iload h dX1_allowsInCount_8 rfl ?_
    refine m_iload_n h dX1_allowsInCount_10 rfl rfl ?_
    refine m_icmp_gt h dX1_allowsInCount_11 (tgt := 24) (by decide) (by omega) (by omega) (fun c9 => ?_) (fun c9 => ?_)
    · skip
      refine m_iconst h dX1_allowsInCount_24 ?_
      refine m_zret h hR rfl dX1_allowsInCount_25 (by omega) ?_
      exact ⟨rfl, bz0 (by omega)⟩
    · skip
      refine m_iload_n h dX1_allowsInCount_14 rfl rfl ?_
      refine m_iload h dX1_allowsInCount_15 rfl ?_
      refine m_icmp_gt h dX1_allowsInCount_17 (tgt := 24) (by decide) (by omega) (by omega) (fun c10 => ?_) (fun c10 => ?_)
      · skip
        refine m_iconst h dX1_allowsInCount_24 ?_
        refine m_zret h hR rfl dX1_allowsInCount_25 (by omega) ?_
        exact ⟨rfl, bz0 (by omega)⟩
      · skip
        refine m_iconst h dX1_allowsInCount_20 ?_
        refine m_goto h dX1_allowsInCount_21 (tgt := 25) (by decide) ?_
        refine m_zret h hR rfl dX1_allowsInCount_25 (by omega) ?_
        exact ⟨rfl, bz1 (by omega)⟩
end
section
/-! whether a row can hold, each name anywhere between two bounds -/
def up (f : Int → Int) (n z : Int) : Int → Int := fun x => if x = n then z else f x
theorem up_s {f : Int → Int} {n z : Int} : up f n z n = z := by simp [up]
theorem up_n {f : Int → Int} {n z x : Int} (h : x ≠ n) : up f n z x = f x := by simp [up, h]
def lsum (f lo hi : Int → Int) (n : Nat) : Int := sm (fun i => if 0 < f i then f i * lo i else f i * hi i) n
def cmin (f lo hi : Int → Int) (R : Int) (n : Nat) : Int := sm (fun i => if f i ≠ 0 ∧ lo i = R ∧ hi i = R then 1 else 0) n
def cmax (f lo hi : Int → Int) (R : Int) (n : Nat) : Int := sm (fun i => if f i ≠ 0 ∧ lo i ≤ R ∧ R ≤ hi i then 1 else 0) n
def Cn (k a b c R : Int) (f lo hi : Int → Int) : Prop :=
  (k = 0 → lsum f lo hi 8 ≤ R) ∧
  (k = 1 → lsum f lo hi 8 ≤ R ∧ lsum (fun i => -f i) lo hi 8 ≤ -R) ∧
  (k = 2 → ∃ x y, lo b ≤ x ∧ x ≤ hi b ∧ lo c ≤ y ∧ y ≤ hi c ∧ lo a ≤ x * y ∧ x * y ≤ hi a) ∧
  (k = 3 → ∃ x y, lo b ≤ x ∧ x ≤ hi b ∧ lo c ≤ y ∧ y ≤ hi c ∧ y ≠ 0 ∧ lo a ≤ fd x y ∧ fd x y ≤ hi a) ∧
  (k = 4 → ∃ x y, lo a ≤ x ∧ x ≤ hi a ∧ lo b ≤ y ∧ y ≤ hi b ∧ ((0 ≤ y ∧ x = y) ∨ (y < 0 ∧ x = -y))) ∧
  (k = 5 → ∃ x y, lo b ≤ x ∧ x ≤ hi b ∧ lo c ≤ y ∧ y ≤ hi c ∧ lo a ≤ max x y ∧ max x y ≤ hi a) ∧
  (k = 6 → ∃ x y, lo b ≤ x ∧ x ≤ hi b ∧ lo c ≤ y ∧ y ≤ hi c ∧ lo a ≤ min x y ∧ min x y ≤ hi a) ∧
  (k = 7 → ∃ x y, lo a ≤ x ∧ x ≤ hi a ∧ lo b ≤ y ∧ y ≤ hi b ∧ x ≠ y + R) ∧
  (k = 8 → lo a ≠ 1 ∨ hi a ≠ 1 ∨ lsum f lo hi 8 ≤ R) ∧
  (k = 9 → lo a ≤ cmax f lo hi R 8 ∧ cmin f lo hi R 8 ≤ hi a)
theorem cn_0 {k a b c R : Int} {f lo hi : Int → Int} (h : k = 0) : Cn k a b c R f lo hi ↔ lsum f lo hi 8 ≤ R := by
  subst h; simp [Cn]
theorem cn_1 {k a b c R : Int} {f lo hi : Int → Int} (h : k = 1) : Cn k a b c R f lo hi ↔ lsum f lo hi 8 ≤ R ∧ lsum (fun i => -f i) lo hi 8 ≤ -R := by
  subst h; simp [Cn]
theorem cn_2 {k a b c R : Int} {f lo hi : Int → Int} (h : k = 2) : Cn k a b c R f lo hi ↔ ∃ x y, lo b ≤ x ∧ x ≤ hi b ∧ lo c ≤ y ∧ y ≤ hi c ∧ lo a ≤ x * y ∧ x * y ≤ hi a := by
  subst h; simp [Cn]
theorem cn_3 {k a b c R : Int} {f lo hi : Int → Int} (h : k = 3) : Cn k a b c R f lo hi ↔ ∃ x y, lo b ≤ x ∧ x ≤ hi b ∧ lo c ≤ y ∧ y ≤ hi c ∧ y ≠ 0 ∧ lo a ≤ fd x y ∧ fd x y ≤ hi a := by
  subst h; simp [Cn]
theorem cn_4 {k a b c R : Int} {f lo hi : Int → Int} (h : k = 4) : Cn k a b c R f lo hi ↔ ∃ x y, lo a ≤ x ∧ x ≤ hi a ∧ lo b ≤ y ∧ y ≤ hi b ∧ ((0 ≤ y ∧ x = y) ∨ (y < 0 ∧ x = -y)) := by
  subst h; simp [Cn]
theorem cn_5 {k a b c R : Int} {f lo hi : Int → Int} (h : k = 5) : Cn k a b c R f lo hi ↔ ∃ x y, lo b ≤ x ∧ x ≤ hi b ∧ lo c ≤ y ∧ y ≤ hi c ∧ lo a ≤ max x y ∧ max x y ≤ hi a := by
  subst h; simp [Cn]
theorem cn_6 {k a b c R : Int} {f lo hi : Int → Int} (h : k = 6) : Cn k a b c R f lo hi ↔ ∃ x y, lo b ≤ x ∧ x ≤ hi b ∧ lo c ≤ y ∧ y ≤ hi c ∧ lo a ≤ min x y ∧ min x y ≤ hi a := by
  subst h; simp [Cn]
theorem cn_7 {k a b c R : Int} {f lo hi : Int → Int} (h : k = 7) : Cn k a b c R f lo hi ↔ ∃ x y, lo a ≤ x ∧ x ≤ hi a ∧ lo b ≤ y ∧ y ≤ hi b ∧ x ≠ y + R := by
  subst h; simp [Cn]
theorem cn_8 {k a b c R : Int} {f lo hi : Int → Int} (h : k = 8) : Cn k a b c R f lo hi ↔ lo a ≠ 1 ∨ hi a ≠ 1 ∨ lsum f lo hi 8 ≤ R := by
  subst h; simp [Cn]
theorem cn_9 {k a b c R : Int} {f lo hi : Int → Int} (h : k = 9) : Cn k a b c R f lo hi ↔ lo a ≤ cmax f lo hi R 8 ∧ cmin f lo hi R 8 ≤ hi a := by
  subst h; simp [Cn]
theorem sm_take {g : Int → Int} {n : Int} : ∀ k : Nat, 0 ≤ n → sm g k = sm (fun i => if i = n then 0 else g i) k + (if n < k then g n else 0)
  | 0, h => by
    simp only [sm]
    rw [if_neg (by omega)]
    rfl
  | k + 1, h => by
    have ih := sm_take (g := g) k h
    simp only [sm]
    by_cases hk : (k : Int) = n
    · rw [if_pos hk, if_pos (by omega)]
      rw [if_neg (by omega)] at ih
      rw [hk]
      omega
    · rw [if_neg hk]
      by_cases hn : n < (k : Int)
      · rw [if_pos hn] at ih
        rw [if_pos (by omega)]
        omega
      · rw [if_neg hn] at ih
        rw [if_neg (by omega)]
        omega
theorem sm_put {g h : Int → Int} {n : Int} (hn : 0 ≤ n ∧ n < 8) (hg : ∀ j : Int, j ≠ n → g j = h j) (h0 : h n = 0) : sm g 8 = g n + sm h 8 := by
  have e1 := sm_take (g := g) 8 hn.1
  have e2 := sm_take (g := h) 8 hn.1
  rw [if_pos (by omega)] at e1 e2
  have e3 : sm (fun i => if i = n then 0 else g i) 8 = sm (fun i => if i = n then 0 else h i) 8 := by
    apply sm_c
    intro j _
    by_cases hj : (j : Int) = n
    · simp only [if_pos hj]
    · simp only [if_neg hj]
      exact hg _ hj
  omega
end
section
/-! one name's number fixed: what the row asks of the others -/
theorem bz.iff {z : Int} {P Q : Prop} (h : bz z P) (e : P ↔ Q) : bz z Q := h.elim (fun q => Or.inl ⟨q.1, e.mp q.2⟩) (fun q => Or.inr ⟨q.1, fun x => q.2 (e.mpr x)⟩)
def eoP (k R : Int) (f lo hi : Int → Int) (n mb : Int) : Int → Int := fun o => if o = n ∨ f o = 0 then 0 else if k = 9 then (if (mb = 1 ∧ lo o ≤ R ∧ R ≤ hi o) ∨ (mb = 0 ∧ lo o = R ∧ hi o = R) then 1 else 0) else f o * (if (mb = 1 ∧ 0 < f o) ∨ (mb = 0 ∧ f o < 0) then hi o else lo o)
theorem sm_neg {g h : Int → Int} (e : ∀ x, g x = -h x) : ∀ k : Nat, sm g k = -sm h k
  | 0 => rfl
  | k + 1 => by
    simp only [sm]
    rw [sm_neg e k, e]
    omega
section Al
variable {k a b c R : Int} {f lo hi : Int → Int} {n z : Int}
theorem ls_up (hk : k ≠ 9) (hn : 0 ≤ n ∧ n < 8) : lsum f (up lo n z) (up hi n z) 8 = f n * z + sm (eoP k R f lo hi n 0) 8 := by
  unfold lsum
  rw [sm_put (h := eoP k R f lo hi n 0) hn]
  · simp only [up_s]
    rw [ite_self]
  · intro j hj
    simp only [up_n hj]
    by_cases h0 : f j = 0
    · simp [eoP, h0]
    · by_cases h1 : 0 < f j
      · have h2 : ¬ f j < 0 := by omega
        simp [eoP, hk, hj, h0, h1, h2]
      · have h2 : f j < 0 := by omega
        simp [eoP, hk, hj, h0, h1, h2]
  · simp [eoP]
theorem ls_up1 (hk : k ≠ 9) (hn : 0 ≤ n ∧ n < 8) : lsum (fun i => -f i) (up lo n z) (up hi n z) 8 = -(f n * z + sm (eoP k R f lo hi n 1) 8) := by
  unfold lsum
  rw [sm_put (h := fun i => -eoP k R f lo hi n 1 i) hn]
  · simp only [up_s]
    rw [ite_self, sm_neg (h := eoP k R f lo hi n 1) (fun x => rfl), Int.neg_mul]
    omega
  · intro j hj
    simp only [up_n hj]
    by_cases h0 : f j = 0
    · simp [eoP, h0]
    · by_cases h1 : 0 < f j
      · have h2 : ¬ f j < 0 := by omega
        simp [eoP, hk, hj, h0, h1, h2, Int.neg_mul]
      · have h2 : f j < 0 := by omega
        simp [eoP, hk, hj, h0, h1, h2, Int.neg_mul]
  · simp [eoP]
theorem cx_up (hk : k = 9) (hn : 0 ≤ n ∧ n < 8) : cmax f (up lo n z) (up hi n z) R 8 = (if f n ≠ 0 ∧ z = R then 1 else 0) + sm (eoP k R f lo hi n 1) 8 := by
  unfold cmax
  rw [sm_put (h := eoP k R f lo hi n 1) hn]
  · simp only [up_s]
    congr 1
    by_cases h : f n ≠ 0 ∧ z = R
    · rw [if_pos h, if_pos (by omega)]
    · rw [if_neg h, if_neg (by omega)]
  · intro j hj
    simp only [up_n hj]
    by_cases h0 : f j = 0
    · simp [eoP, h0]
    · by_cases h1 : lo j ≤ R ∧ R ≤ hi j
      · simp [eoP, hk, hj, h0, h1]
      · simp [eoP, hk, hj, h0, h1]
  · simp [eoP]
theorem cm_up (hk : k = 9) (hn : 0 ≤ n ∧ n < 8) : cmin f (up lo n z) (up hi n z) R 8 = (if f n ≠ 0 ∧ z = R then 1 else 0) + sm (eoP k R f lo hi n 0) 8 := by
  unfold cmin
  rw [sm_put (h := eoP k R f lo hi n 0) hn]
  · simp only [up_s]
    congr 1
    by_cases h : f n ≠ 0 ∧ z = R
    · rw [if_pos h, if_pos (by omega)]
    · rw [if_neg h, if_neg (by omega)]
  · intro j hj
    simp only [up_n hj]
    by_cases h0 : f j = 0
    · simp [eoP, h0]
    · by_cases h1 : lo j = R ∧ hi j = R
      · simp [eoP, hk, hj, h0, h1]
      · simp [eoP, hk, hj, h0, h1]
  · simp [eoP]
theorem al_0 (hk : k = 0) (hn : 0 ≤ n ∧ n < 8) : f n * z + sm (eoP k R f lo hi n 0) 8 ≤ R ↔ Cn k a b c R f (up lo n z) (up hi n z) := by
  rw [cn_0 hk, ls_up (k := k) (R := R) (by omega) hn]
theorem al_1 (hk : k = 1) (hn : 0 ≤ n ∧ n < 8) : (f n * z + sm (eoP k R f lo hi n 0) 8 ≤ R ∧ R ≤ f n * z + sm (eoP k R f lo hi n 1) 8) ↔ Cn k a b c R f (up lo n z) (up hi n z) := by
  rw [cn_1 hk, ls_up (k := k) (R := R) (by omega) hn, ls_up1 (k := k) (R := R) (by omega) hn]
  omega
theorem al_2a (hk : k = 2) (hn : n = a) (h1 : a ≠ b) (h2 : a ≠ c) : (∃ x y, lo b ≤ x ∧ x ≤ hi b ∧ lo c ≤ y ∧ y ≤ hi c ∧ x * y = z) ↔ Cn k a b c R f (up lo n z) (up hi n z) := by
  subst hn
  rw [cn_2 hk]
  simp only [up_s, up_n h1.symm, up_n h2.symm]
  constructor
  · rintro ⟨x, y, q1, q2, q3, q4, q5⟩
    exact ⟨x, y, q1, q2, q3, q4, by omega, by omega⟩
  · rintro ⟨x, y, q1, q2, q3, q4, q5, q6⟩
    exact ⟨x, y, q1, q2, q3, q4, by omega⟩
theorem al_2b (hk : k = 2) (hn : n = b) (h1 : a ≠ b) (h2 : b ≠ c) : (∃ y, lo c ≤ y ∧ y ≤ hi c ∧ lo a ≤ z * y ∧ z * y ≤ hi a) ↔ Cn k a b c R f (up lo n z) (up hi n z) := by
  subst hn
  rw [cn_2 hk]
  simp only [up_s, up_n h1, up_n h2.symm]
  constructor
  · rintro ⟨y, q1, q2, q3, q4⟩
    exact ⟨z, y, by omega, by omega, q1, q2, q3, q4⟩
  · rintro ⟨x, y, q1, q2, q3, q4, q5, q6⟩
    obtain rfl : x = z := by omega
    exact ⟨y, q3, q4, q5, q6⟩
theorem al_2c (hk : k = 2) (hn : n = c) (h1 : a ≠ c) (h2 : b ≠ c) : (∃ y, lo b ≤ y ∧ y ≤ hi b ∧ lo a ≤ z * y ∧ z * y ≤ hi a) ↔ Cn k a b c R f (up lo n z) (up hi n z) := by
  subst hn
  rw [cn_2 hk]
  simp only [up_s, up_n h1, up_n h2]
  constructor
  · rintro ⟨y, q1, q2, q3, q4⟩
    exact ⟨y, z, q1, q2, by omega, by omega, by rw [Int.mul_comm]; exact q3, by rw [Int.mul_comm]; exact q4⟩
  · rintro ⟨y, x, q1, q2, q3, q4, q5, q6⟩
    obtain rfl : x = z := by omega
    exact ⟨y, q1, q2, by rw [Int.mul_comm]; exact q5, by rw [Int.mul_comm]; exact q6⟩
theorem al_3a (hk : k = 3) (hn : n = a) (h1 : a ≠ b) (h2 : a ≠ c) : (∃ x y, lo c ≤ x ∧ x ≤ hi c ∧ lo b ≤ y ∧ y ≤ hi b ∧ x ≠ 0 ∧ fd y x = z) ↔ Cn k a b c R f (up lo n z) (up hi n z) := by
  subst hn
  rw [cn_3 hk]
  simp only [up_s, up_n h1.symm, up_n h2.symm]
  constructor
  · rintro ⟨x, y, q1, q2, q3, q4, q5, q6⟩
    exact ⟨y, x, q3, q4, q1, q2, q5, by omega, by omega⟩
  · rintro ⟨y, x, q3, q4, q1, q2, q5, q6, q7⟩
    exact ⟨x, y, q1, q2, q3, q4, q5, by omega⟩
theorem al_3b (hk : k = 3) (hn : n = b) (h1 : a ≠ b) (h2 : b ≠ c) : (∃ x, lo c ≤ x ∧ x ≤ hi c ∧ x ≠ 0 ∧ lo a ≤ fd z x ∧ fd z x ≤ hi a) ↔ Cn k a b c R f (up lo n z) (up hi n z) := by
  subst hn
  rw [cn_3 hk]
  simp only [up_s, up_n h1, up_n h2.symm]
  constructor
  · rintro ⟨x, q1, q2, q3, q4, q5⟩
    exact ⟨z, x, by omega, by omega, q1, q2, q3, q4, q5⟩
  · rintro ⟨y, x, q1, q2, q3, q4, q5, q6, q7⟩
    obtain rfl : y = z := by omega
    exact ⟨x, q3, q4, q5, q6, q7⟩
theorem al_3c (hk : k = 3) (hn : n = c) (h1 : a ≠ c) (h2 : b ≠ c) : (z ≠ 0 ∧ ∃ y, lo b ≤ y ∧ y ≤ hi b ∧ lo a ≤ fd y z ∧ fd y z ≤ hi a) ↔ Cn k a b c R f (up lo n z) (up hi n z) := by
  subst hn
  rw [cn_3 hk]
  simp only [up_s, up_n h1, up_n h2]
  constructor
  · rintro ⟨q0, y, q1, q2, q3, q4⟩
    exact ⟨y, z, q1, q2, by omega, by omega, q0, q3, q4⟩
  · rintro ⟨y, x, q1, q2, q3, q4, q5, q6, q7⟩
    obtain rfl : x = z := by omega
    exact ⟨q5, y, q1, q2, q6, q7⟩
theorem al_4a (hk : k = 4) (hn : n = a) (h1 : a ≠ b) : (0 ≤ z ∧ ((lo b ≤ z ∧ z ≤ hi b) ∨ (lo b ≤ -z ∧ -z ≤ hi b))) ↔ Cn k a b c R f (up lo n z) (up hi n z) := by
  subst hn
  rw [cn_4 hk]
  simp only [up_s, up_n h1.symm]
  constructor
  · rintro ⟨q0, q1 | q1⟩
    · exact ⟨z, z, by omega, by omega, q1.1, q1.2, Or.inl ⟨q0, rfl⟩⟩
    · by_cases hz : z = 0
      · exact ⟨z, z, by omega, by omega, by omega, by omega, Or.inl ⟨q0, rfl⟩⟩
      · exact ⟨z, -z, by omega, by omega, q1.1, q1.2, by omega⟩
  · rintro ⟨x, y, q1, q2, q3, q4, q5⟩
    omega
theorem al_4b (hk : k = 4) (hn : n = b) (h1 : a ≠ b) {w : Int} (hw : (0 ≤ z ∧ w = z) ∨ (z < 0 ∧ w = -z)) : (lo a ≤ w ∧ w ≤ hi a) ↔ Cn k a b c R f (up lo n z) (up hi n z) := by
  subst hn
  rw [cn_4 hk]
  simp only [up_s, up_n h1]
  constructor
  · rintro ⟨q1, q2⟩
    exact ⟨w, z, q1, q2, by omega, by omega, hw⟩
  · rintro ⟨x, y, q1, q2, q3, q4, q5⟩
    omega
theorem al_5a (hk : k = 5) (hn : n = a) (h1 : a ≠ b) (h2 : a ≠ c) (hb : lo b ≤ hi b) (hc : lo c ≤ hi c) : ((lo b ≤ z ∧ z ≤ hi b ∧ lo c ≤ z) ∨ (lo c ≤ z ∧ z ≤ hi c ∧ lo b ≤ z)) ↔ Cn k a b c R f (up lo n z) (up hi n z) := by
  subst hn
  rw [cn_5 hk]
  simp only [up_s, up_n h1.symm, up_n h2.symm]
  constructor
  · rintro (⟨q1, q2, q3⟩ | ⟨q1, q2, q3⟩)
    · exact ⟨z, lo c, q1, q2, by omega, hc, by omega, by omega⟩
    · exact ⟨lo b, z, by omega, hb, q1, q2, by omega, by omega⟩
  · rintro ⟨x, y, q1, q2, q3, q4, q5, q6⟩
    omega
theorem al_5b (hk : k = 5) (hn : n = b) (h1 : a ≠ b) (h2 : b ≠ c) (ha : lo a ≤ hi a) (hc : lo c ≤ hi c) : (lo a ≤ max z (hi c) ∧ max z (lo c) ≤ hi a) ↔ Cn k a b c R f (up lo n z) (up hi n z) := by
  subst hn
  rw [cn_5 hk]
  simp only [up_s, up_n h1, up_n h2.symm]
  constructor
  · rintro ⟨q1, q2⟩
    exact ⟨z, min (hi c) (max (lo c) (lo a)), by omega, by omega, by omega, by omega, by omega, by omega⟩
  · rintro ⟨x, y, q1, q2, q3, q4, q5, q6⟩
    omega
theorem al_5c (hk : k = 5) (hn : n = c) (h1 : a ≠ c) (h2 : b ≠ c) (ha : lo a ≤ hi a) (hb : lo b ≤ hi b) : (lo a ≤ max z (hi b) ∧ max z (lo b) ≤ hi a) ↔ Cn k a b c R f (up lo n z) (up hi n z) := by
  subst hn
  rw [cn_5 hk]
  simp only [up_s, up_n h1, up_n h2]
  constructor
  · rintro ⟨q1, q2⟩
    exact ⟨min (hi b) (max (lo b) (lo a)), z, by omega, by omega, by omega, by omega, by omega, by omega⟩
  · rintro ⟨x, y, q1, q2, q3, q4, q5, q6⟩
    omega
theorem al_6a (hk : k = 6) (hn : n = a) (h1 : a ≠ b) (h2 : a ≠ c) (hb : lo b ≤ hi b) (hc : lo c ≤ hi c) : ((lo b ≤ z ∧ z ≤ hi b ∧ hi c ≥ z) ∨ (lo c ≤ z ∧ z ≤ hi c ∧ hi b ≥ z)) ↔ Cn k a b c R f (up lo n z) (up hi n z) := by
  subst hn
  rw [cn_6 hk]
  simp only [up_s, up_n h1.symm, up_n h2.symm]
  constructor
  · rintro (⟨q1, q2, q3⟩ | ⟨q1, q2, q3⟩)
    · exact ⟨z, hi c, q1, q2, by omega, by omega, by omega, by omega⟩
    · exact ⟨hi b, z, by omega, by omega, q1, q2, by omega, by omega⟩
  · rintro ⟨x, y, q1, q2, q3, q4, q5, q6⟩
    omega
theorem al_6b (hk : k = 6) (hn : n = b) (h1 : a ≠ b) (h2 : b ≠ c) (ha : lo a ≤ hi a) (hc : lo c ≤ hi c) : (lo a ≤ min z (hi c) ∧ min z (lo c) ≤ hi a) ↔ Cn k a b c R f (up lo n z) (up hi n z) := by
  subst hn
  rw [cn_6 hk]
  simp only [up_s, up_n h1, up_n h2.symm]
  constructor
  · rintro ⟨q1, q2⟩
    exact ⟨z, max (lo c) (min (hi c) (hi a)), by omega, by omega, by omega, by omega, by omega, by omega⟩
  · rintro ⟨x, y, q1, q2, q3, q4, q5, q6⟩
    omega
theorem al_6c (hk : k = 6) (hn : n = c) (h1 : a ≠ c) (h2 : b ≠ c) (ha : lo a ≤ hi a) (hb : lo b ≤ hi b) : (lo a ≤ min z (hi b) ∧ min z (lo b) ≤ hi a) ↔ Cn k a b c R f (up lo n z) (up hi n z) := by
  subst hn
  rw [cn_6 hk]
  simp only [up_s, up_n h1, up_n h2]
  constructor
  · rintro ⟨q1, q2⟩
    exact ⟨max (lo b) (min (hi b) (hi a)), z, by omega, by omega, by omega, by omega, by omega, by omega⟩
  · rintro ⟨x, y, q1, q2, q3, q4, q5, q6⟩
    omega
theorem al_7a (hk : k = 7) (hn : n = a) (h1 : a ≠ b) (hb : lo b ≤ hi b) : ¬ (lo b = z - R ∧ hi b = z - R) ↔ Cn k a b c R f (up lo n z) (up hi n z) := by
  subst hn
  rw [cn_7 hk]
  simp only [up_s, up_n h1.symm]
  constructor
  · intro q
    by_cases h : lo b = z - R
    · exact ⟨z, hi b, by omega, by omega, by omega, by omega, by omega⟩
    · exact ⟨z, lo b, by omega, by omega, by omega, by omega, by omega⟩
  · rintro ⟨x, y, q1, q2, q3, q4, q5⟩
    omega
theorem al_7b (hk : k = 7) (hn : n = b) (h1 : a ≠ b) (ha : lo a ≤ hi a) : ¬ (lo a = z + R ∧ hi a = z + R) ↔ Cn k a b c R f (up lo n z) (up hi n z) := by
  subst hn
  rw [cn_7 hk]
  simp only [up_s, up_n h1]
  constructor
  · intro q
    by_cases h : lo a = z + R
    · exact ⟨hi a, z, by omega, by omega, by omega, by omega, by omega⟩
    · exact ⟨lo a, z, by omega, by omega, by omega, by omega, by omega⟩
  · rintro ⟨x, y, q1, q2, q3, q4, q5⟩
    omega
theorem al_8 (hk : k = 8) (hn : 0 ≤ n ∧ n < 8) : ((n = a ∧ z ≠ 1) ∨ (n ≠ a ∧ ¬ (lo a = 1 ∧ hi a = 1)) ∨ f n * z + sm (eoP k R f lo hi n 0) 8 ≤ R) ↔ Cn k a b c R f (up lo n z) (up hi n z) := by
  rw [cn_8 hk, ls_up (k := k) (R := R) (by omega) hn]
  by_cases h : n = a
  · subst h
    rw [up_s, up_s]
    omega
  · rw [up_n (Ne.symm h), up_n (Ne.symm h)]
    omega
theorem al_9 (hk : k = 9) (hn : 0 ≤ n ∧ n < 8) (hf : f a = 0) (hab : n = a ∨ f n ≠ 0) : ((n = a → sm (eoP k R f lo hi n 0) 8 ≤ z ∧ z ≤ sm (eoP k R f lo hi n 1) 8) ∧ (n ≠ a → z = R → lo a ≤ sm (eoP k R f lo hi n 1) 8 + 1 ∧ sm (eoP k R f lo hi n 0) 8 + 1 ≤ hi a) ∧ (n ≠ a → z ≠ R → lo a ≤ sm (eoP k R f lo hi n 1) 8 ∧ sm (eoP k R f lo hi n 0) 8 ≤ hi a)) ↔ Cn k a b c R f (up lo n z) (up hi n z) := by
  rw [cn_9 hk, cx_up (k := k) hk hn, cm_up (k := k) hk hn]
  by_cases h : n = a
  · subst h
    rw [up_s, up_s, if_neg (by omega)]
    omega
  · rw [up_n (Ne.symm h), up_n (Ne.symm h)]
    by_cases hz : z = R
    · rw [if_pos (by omega)]
      omega
    · rw [if_neg (by omega)]
      omega
end Al
end
section
/-! rows: the rest -/
def zf (m : Mem) (i : Nat) (k : Int) : Mem := (fun a x => if a = i ∧ 0 ≤ x ∧ x < k then 0 else m.1 a x, m.2)
theorem zf_0 (m : Mem) (i : Nat) : zf m i 0 = m := by
  apply mem_ext
  · intro a x
    simp only [zf]
    rw [if_neg (by omega)]
  · intro a x; rfl
theorem zf_s (m : Mem) (i : Nat) {k : Int} (hk : 0 ≤ k) : wI (zf m i k) i k 0 = zf m i (k + 1) := by
  apply mem_ext
  · intro a x
    simp only [zf, wI, u2]
    by_cases h1 : a = i ∧ x = k
    · rw [if_pos h1, if_pos (by omega)]
    · rw [if_neg h1]
      by_cases h2 : a = i ∧ 0 ≤ x ∧ x < k
      · rw [if_pos h2, if_pos (by omega)]
      · rw [if_neg h2, if_neg (by omega)]
  · intro a x; rfl
def LastN (P : Int → Prop) (k w : Int) : Prop := (-1 ≤ w ∧ w < k) ∧ (0 ≤ w → P w) ∧ ∀ j, 0 ≤ j → w < j → j < k → ¬ P j
def Ab (v : Mem) (r : Nat) (n : Int) : Prop := n = v.1 (40 + r) 1 ∨ n = v.1 (40 + r) 2 ∨ n = v.1 (40 + r) 3 ∨ v.1 (52 + r) n ≠ 0
theorem eoP_b {k R : Int} {f lo hi : Int → Int} {n mb : Int} (hf : ∀ x, -9 ≤ f x ∧ f x ≤ 9) (hl : ∀ x, -32 ≤ lo x ∧ lo x ≤ 31) (hh : ∀ x, -32 ≤ hi x ∧ hi x ≤ 31) : -12800 ≤ sm (eoP k R f lo hi n mb) 8 ∧ sm (eoP k R f lo hi n mb) 8 ≤ 12800 := by
  have h := sm_b (g := eoP k R f lo hi n mb) (B := 1600) (fun x => by
    have h1 := hf x
    have h2 := hl x
    have h3 := hh x
    have h4 := mulR (a := f x) (b := lo x) (by omega) (by omega)
    have h5 := mulR (a := f x) (b := hi x) (by omega) (by omega)
    unfold eoP
    (repeat' split) <;> omega) 8
  omega
theorem eoP_c {R : Int} {f lo hi : Int → Int} {n : Int} (hl : ∀ x, lo x ≤ hi x) : ∀ k : Nat, 0 ≤ sm (eoP 9 R f lo hi n 0) k ∧ sm (eoP 9 R f lo hi n 0) k ≤ sm (eoP 9 R f lo hi n 1) k ∧ sm (eoP 9 R f lo hi n 1) k ≤ k
  | 0 => by simp [sm]
  | k + 1 => by
    have ih := eoP_c (R := R) (f := f) (n := n) hl k
    have h2 : 0 ≤ eoP 9 R f lo hi n 0 k ∧ eoP 9 R f lo hi n 0 k ≤ eoP 9 R f lo hi n 1 k ∧ eoP 9 R f lo hi n 1 k ≤ 1 := by
      have := hl k
      by_cases h0 : (k : Int) = n ∨ f k = 0
      · simp [eoP, h0]
      · by_cases h1 : lo k ≤ R ∧ R ≤ hi k
        · by_cases h3 : lo k = R ∧ hi k = R
          · simp [eoP, h0, h1, h3]
          · simp [eoP, h0, h1, h3]
        · by_cases h3 : lo k = R ∧ hi k = R
          · omega
          · simp [eoP, h0, h1, h3]
    simp only [sm]
    omega
theorem pt_ls {f x : Int → Int} : lsum f x x 8 = sm (fun n => f n * x n) 8 := by
  unfold lsum
  apply sm_c
  intro j _
  exact ite_self _
theorem pt_l1 {f x : Int → Int} : lsum (fun i => -f i) x x 8 = -sm (fun n => f n * x n) 8 := by
  unfold lsum
  apply sm_neg
  intro j
  rw [ite_self, Int.neg_mul]
theorem pt_cx {f x : Int → Int} {R : Int} : cmax f x x R 8 = sm (fun n => if f n ≠ 0 ∧ x n = R then 1 else 0) 8 := by
  unfold cmax
  apply sm_c
  intro j _
  by_cases h : f j ≠ 0 ∧ x j = R
  · rw [if_pos h, if_pos (by omega)]
  · rw [if_neg h, if_neg (by omega)]
theorem pt_cm {f x : Int → Int} {R : Int} : cmin f x x R 8 = sm (fun n => if f n ≠ 0 ∧ x n = R then 1 else 0) 8 := by
  unfold cmin
  apply sm_c
  intro j _
  by_cases h : f j ≠ 0 ∧ x j = R
  · rw [if_pos h, if_pos (by omega)]
  · rw [if_neg h, if_neg (by omega)]
section Pt
variable {k a b c R : Int} {f x : Int → Int}
theorem pt_0 (h : k = 0) : sm (fun n => f n * x n) 8 ≤ R ↔ Cn k a b c R f x x := by rw [cn_0 h, pt_ls]
theorem pt_1 (h : k = 1) : sm (fun n => f n * x n) 8 = R ↔ Cn k a b c R f x x := by rw [cn_1 h, pt_ls, pt_l1]; omega
theorem pt_2 (h : k = 2) : x a = x b * x c ↔ Cn k a b c R f x x := by
  rw [cn_2 h]
  constructor
  · intro q
    exact ⟨x b, x c, by omega, by omega, by omega, by omega, by omega, by omega⟩
  · rintro ⟨p, q, q1, q2, q3, q4, q5, q6⟩
    obtain rfl : p = x b := by omega
    obtain rfl : q = x c := by omega
    omega
theorem pt_3 (h : k = 3) : (x c ≠ 0 ∧ x a = fd (x b) (x c)) ↔ Cn k a b c R f x x := by
  rw [cn_3 h]
  constructor
  · rintro ⟨q0, q⟩
    exact ⟨x b, x c, by omega, by omega, by omega, by omega, q0, by omega, by omega⟩
  · rintro ⟨p, q, q1, q2, q3, q4, q5, q6, q7⟩
    obtain rfl : p = x b := by omega
    obtain rfl : q = x c := by omega
    exact ⟨q5, by omega⟩
theorem pt_4 (h : k = 4) : ((0 ≤ x b ∧ x a = x b) ∨ (x b < 0 ∧ x a = -x b)) ↔ Cn k a b c R f x x := by
  rw [cn_4 h]
  constructor
  · intro q
    exact ⟨x a, x b, by omega, by omega, by omega, by omega, q⟩
  · rintro ⟨p, q, q1, q2, q3, q4, q5⟩
    omega
theorem pt_5 (h : k = 5) : x a = max (x b) (x c) ↔ Cn k a b c R f x x := by
  rw [cn_5 h]
  constructor
  · intro q
    exact ⟨x b, x c, by omega, by omega, by omega, by omega, by omega, by omega⟩
  · rintro ⟨p, q, q1, q2, q3, q4, q5⟩
    omega
theorem pt_6 (h : k = 6) : x a = min (x b) (x c) ↔ Cn k a b c R f x x := by
  rw [cn_6 h]
  constructor
  · intro q
    exact ⟨x b, x c, by omega, by omega, by omega, by omega, by omega, by omega⟩
  · rintro ⟨p, q, q1, q2, q3, q4, q5⟩
    omega
theorem pt_7 (h : k = 7) : x a ≠ x b + R ↔ Cn k a b c R f x x := by
  rw [cn_7 h]
  constructor
  · intro q
    exact ⟨x a, x b, by omega, by omega, by omega, by omega, q⟩
  · rintro ⟨p, q, q1, q2, q3, q4, q5⟩
    omega
theorem pt_8 (h : k = 8) : (x a ≠ 1 ∨ sm (fun n => f n * x n) 8 ≤ R) ↔ Cn k a b c R f x x := by rw [cn_8 h, pt_ls]; omega
theorem pt_9 (h : k = 9) : x a = sm (fun n => if f n ≠ 0 ∧ x n = R then 1 else 0) 8 ↔ Cn k a b c R f x x := by rw [cn_9 h, pt_cx, pt_cm]; omega
end Pt

set_option maxRecDepth 100000 in
set_option maxHeartbeats 4000000 in
theorem c_become (l : Launch) {G : GT} (hG : gok G) (v : Mem) {r : Nat} (hr : r < 12) (kd rt : Int) : CC l G nX1_become 0 [.ref (G.2.1 (40 + r)), .int (iI kd), .int (iI rt)] v (qV G (fun u => u = zf (wI (wI v (40 + r) 0 kd) (40 + r) 4 rt) (52 + r) 8)) := by
  refine m_start (lv := [some (.ref (G.2.1 (40 + r))), some (.int (iI kd)), some (.int (iI rt)), none]) hG (by decide +kernel) rfl (Nat.le_of_ble_eq_true rfl) ?_
  intro X hL h hR
  subst hL
  show M X G 4 v 0 [some (.ref (G.2.1 (40 + r))), some (.int (iI kd)), some (.int (iI rt)), none] []
  refine m_aload_n h dX1_become_0 rfl rfl ?_
  refine m_iload_n h dX1_become_1 rfl rfl ?_
  refine m_putJ h fw_X1_9 (by omega) (cE_row G _ hr) (Nat.le_of_ble_eq_true rfl) (kz := 0) rfl (cE_rowp0 G _ hr) dX1_become_2 ?_
  refine m_aload_n h dX1_become_5 rfl rfl ?_
  refine m_iload_n h dX1_become_6 rfl rfl ?_
  refine m_putJ h fw_X1_24 (by omega) (cE_row G _ hr) (Nat.le_of_ble_eq_true rfl) (kz := 4) rfl (cE_rowp4 G _ hr) dX1_become_7 ?_
  refine m_iconst h dX1_become_10 ?_
  refine m_istore_n h dX1_become_11 rfl (by decide) rfl ?_
  have lp12 : ∀ (fuel : Nat) (k : Nat), k ≤ 8 → 8 - k < fuel → M X G 4 (zf (wI (wI v (40 + r) 0 kd) (40 + r) 4 rt) (52 + r) (k : Int)) 12 [some (.ref (G.2.1 (40 + r))), some (.int (iI kd)), some (.int (iI rt)), some (.int (iI (k : Int)))] [] := by
    intro fuel
    induction fuel with
    | zero => intro k hy0 hy1; exfalso; omega
    | succ fuel ih =>
      intro k hy0 hy1
      refine m_iload_n h dX1_become_12 rfl rfl ?_
      refine m_bipush h dX1_become_13 (by decide) ?_
      refine m_icmp_ge h dX1_become_15 (tgt := 31) (by decide) (by omega) (by omega) (fun c1 => ?_) (fun c1 => ?_)
      · skip
        refine m_vret h hR rfl dX1_become_31 ?_
        rw [show (k : Int) = 8 by omega]
      · skip
        refine m_aload_n h dX1_become_18 rfl rfl ?_
        refine m_get h fo_X1_27 (by omega) (cE_row G _ hr) rfl dX1_become_19 ?_
        refine m_iload_n h dX1_become_22 rfl rfl ?_
        refine m_iconst h dX1_become_23 ?_
        refine m_iast h (ar_fac G hr) (by omega) (by omega) dX1_become_24 ?_
        refine m_iinc h dX1_become_25 rfl (by decide) rfl ?_
        refine m_goto h dX1_become_28 (tgt := 12) (by decide) ?_
        have hdummy := trivial
        rw [zf_s _ _ (by omega)]
        exact ih (k + 1) (by omega) (by omega)
  rw [← zf_0 (wI (wI v (40 + r) 0 kd) (40 + r) 4 rt) (52 + r)]
  exact lp12 9 0 (by omega) (by omega)

set_option maxRecDepth 100000 in
set_option maxHeartbeats 4000000 in
theorem c_endOfOthers (l : Launch) {G : GT} (hG : gok G) (v : Mem) {r : Nat} (hr : r < 12) (hrw : RwOk v r) {si : Nat} (hsp : isSp si) (hm : SpOk v si) (n mb : Int) (hn : 0 ≤ n ∧ n < 8) (hmb : mb = 0 ∨ mb = 1) : CC l G nX1_endOfOthers 1 [.ref (G.2.1 (40 + r)), .int (iI n), .ref (G.2.1 si), .int (iI mb)] v (qI G (fun z u => u = v ∧ z = sm (eoP (v.1 (40 + r) 0) (v.1 (40 + r) 4) (v.1 (52 + r)) (v.1 (si + 1)) (v.1 (si + 2)) n mb) 8)) := by
  refine m_start (lv := [some (.ref (G.2.1 (40 + r))), some (.int (iI n)), some (.ref (G.2.1 si)), some (.int (iI mb)), none, none, none, none]) hG (by decide +kernel) rfl (Nat.le_of_ble_eq_true rfl) ?_
  intro X hL h hR
  subst hL
  obtain ⟨k0, a0, b0, c0, R0, f0, kA, kB, kC, kD, kE⟩ := hrw
  show M X G 8 v 0 [some (.ref (G.2.1 (40 + r))), some (.int (iI n)), some (.ref (G.2.1 si)), some (.int (iI mb)), none, none, none, none] []
  refine m_iconst h dX1_endOfOthers_0 ?_
  refine m_istore h dX1_endOfOthers_1 (by decide) rfl ?_
  refine m_iconst h dX1_endOfOthers_3 ?_
  refine m_istore h dX1_endOfOthers_4 (by decide) rfl ?_
  have lp6 : ∀ (fuel : Nat) (k : Nat), k ≤ 8 → 8 - k < fuel → M X G 8 v 6 [some (.ref (G.2.1 (40 + r))), some (.int (iI n)), some (.ref (G.2.1 si)), some (.int (iI mb)), some (.int (iI (sm (eoP (v.1 (40 + r) 0) (v.1 (40 + r) 4) (v.1 (52 + r)) (v.1 (si + 1)) (v.1 (si + 2)) n mb) k))), some (.int (iI (k : Int))), none, none] [] := by
    intro fuel
    induction fuel with
    | zero => intro k hy0 hy1; exfalso; omega
    | succ fuel ih =>
      intro k hy0 hy1
      have f1 := f0 k
      have m1 := hm k
      refine m_iload h dX1_endOfOthers_6 rfl ?_
      refine m_bipush h dX1_endOfOthers_8 (by decide) ?_
      refine m_icmp_ge h dX1_endOfOthers_10 (tgt := 149) (by decide) (by omega) (by omega) (fun c1 => ?_) (fun c1 => ?_)
      · skip
        refine m_iload h dX1_endOfOthers_149 rfl ?_
        refine m_iret h hR rfl dX1_endOfOthers_151 ?_
        exact ⟨rfl, by rw [show k = 8 by omega]⟩
      · skip
        refine m_aload_n h dX1_endOfOthers_13 rfl rfl ?_
        refine m_get h fo_X1_27 (by omega) (cE_row G _ hr) rfl dX1_endOfOthers_14 ?_
        refine m_iload h dX1_endOfOthers_17 rfl ?_
        refine m_iald h (ar_fac G hr) (by omega) (by omega) dX1_endOfOthers_19 ?_
        refine m_istore h dX1_endOfOthers_20 (by decide) rfl ?_
        refine m_iload h dX1_endOfOthers_22 rfl ?_
        refine m_iload_n h dX1_endOfOthers_24 rfl rfl ?_
        refine m_icmp_eq h dX1_endOfOthers_25 (tgt := 143) (by decide) (by omega) (by omega) (fun c2 => ?_) (fun c2 => ?_)
        · skip
          refine m_iinc h dX1_endOfOthers_143 rfl (by decide) rfl ?_
          refine m_goto h dX1_endOfOthers_146 (tgt := 6) (by decide) ?_
          refine m_kill 6 ?_
          have e2 : (eoP (v.1 (40 + r) 0) (v.1 (40 + r) 4) (v.1 (52 + r)) (v.1 (si + 1)) (v.1 (si + 2)) n mb) (k : Int) = 0 := by
            unfold eoP
            (repeat' split) <;> omega
          have e3 : sm (eoP (v.1 (40 + r) 0) (v.1 (40 + r) 4) (v.1 (52 + r)) (v.1 (si + 1)) (v.1 (si + 2)) n mb) (k + 1) = sm (eoP (v.1 (40 + r) 0) (v.1 (40 + r) 4) (v.1 (52 + r)) (v.1 (si + 1)) (v.1 (si + 2)) n mb) k + (eoP (v.1 (40 + r) 0) (v.1 (40 + r) 4) (v.1 (52 + r)) (v.1 (si + 1)) (v.1 (si + 2)) n mb) (k : Int) := rfl
          have e4 : sm (eoP (v.1 (40 + r) 0) (v.1 (40 + r) 4) (v.1 (52 + r)) (v.1 (si + 1)) (v.1 (si + 2)) n mb) (k + 1) = sm (eoP (v.1 (40 + r) 0) (v.1 (40 + r) 4) (v.1 (52 + r)) (v.1 (si + 1)) (v.1 (si + 2)) n mb) k := by omega
          rw [← e4]
          exact ih (k + 1) (by omega) (by omega)
        · skip
          refine m_iload h dX1_endOfOthers_28 rfl ?_
          refine m_if_ne h dX1_endOfOthers_30 (tgt := 36) (by decide) (by omega) (fun c3 => ?_) (fun c3 => ?_)
          · skip
            refine m_aload_n h dX1_endOfOthers_36 rfl rfl ?_
            refine m_get h fo_X1_9 (by omega) (cE_row G _ hr) rfl dX1_endOfOthers_37 ?_
            refine m_bipush h dX1_endOfOthers_40 (by decide) ?_
            refine m_icmp_ne h dX1_endOfOthers_42 (tgt := 92) (by decide) (by omega) (by omega) (fun c4 => ?_) (fun c4 => ?_)
            · skip
              refine m_iload_n h dX1_endOfOthers_92 rfl rfl ?_
              refine m_iload h dX1_endOfOthers_93 rfl ?_
              refine m_if_le h dX1_endOfOthers_95 (tgt := 102) (by decide) (by omega) (fun c5 => ?_) (fun c5 => ?_)
              · skip
                refine m_iconst h dX1_endOfOthers_102 ?_
                refine m_icmp_ne h dX1_endOfOthers_103 (tgt := 110) (by decide) (by omega) (by omega) (fun c6 => ?_) (fun c6 => ?_)
                · skip
                  refine m_iconst h dX1_endOfOthers_110 ?_
                  refine m_istore h dX1_endOfOthers_111 (by decide) rfl ?_
                  refine m_iload h dX1_endOfOthers_113 rfl ?_
                  refine m_iload h dX1_endOfOthers_115 rfl ?_
                  refine m_iload h dX1_endOfOthers_117 rfl ?_
                  refine m_if_eq h dX1_endOfOthers_119 (tgt := 132) (by decide) (by omega) (fun c7 => ?_) (fun c7 => ?_)
                  · skip
                    refine m_aload_n h dX1_endOfOthers_132 rfl rfl ?_
                    refine m_get h fo_X1_103 (isSp_lt hsp) (cE_sp hsp) rfl dX1_endOfOthers_133 ?_
                    refine m_iload h dX1_endOfOthers_136 rfl ?_
                    refine m_iald h (ar_sp1 hsp) (by omega) (by omega) dX1_endOfOthers_138 ?_
                    refine m_imul h dX1_endOfOthers_139 ?_
                    refine m_iadd h dX1_endOfOthers_140 ?_
                    refine m_istore h dX1_endOfOthers_141 (by decide) rfl ?_
                    refine m_iinc h dX1_endOfOthers_143 rfl (by decide) rfl ?_
                    refine m_goto h dX1_endOfOthers_146 (tgt := 6) (by decide) ?_
                    refine m_kill 6 ?_
                    refine m_kill 7 ?_
                    have e2 : (eoP (v.1 (40 + r) 0) (v.1 (40 + r) 4) (v.1 (52 + r)) (v.1 (si + 1)) (v.1 (si + 2)) n mb) (k : Int) = ((v.1 (52 + r) (k : Int)) * (v.1 (si + 1) (k : Int))) := by
                      unfold eoP
                      (repeat' split) <;> omega
                    have e3 : sm (eoP (v.1 (40 + r) 0) (v.1 (40 + r) 4) (v.1 (52 + r)) (v.1 (si + 1)) (v.1 (si + 2)) n mb) (k + 1) = sm (eoP (v.1 (40 + r) 0) (v.1 (40 + r) 4) (v.1 (52 + r)) (v.1 (si + 1)) (v.1 (si + 2)) n mb) k + (eoP (v.1 (40 + r) 0) (v.1 (40 + r) 4) (v.1 (52 + r)) (v.1 (si + 1)) (v.1 (si + 2)) n mb) (k : Int) := rfl
                    have e4 : sm (eoP (v.1 (40 + r) 0) (v.1 (40 + r) 4) (v.1 (52 + r)) (v.1 (si + 1)) (v.1 (si + 2)) n mb) (k + 1) = (sm (eoP (v.1 (40 + r) 0) (v.1 (40 + r) 4) (v.1 (52 + r)) (v.1 (si + 1)) (v.1 (si + 2)) n mb) k) + ((v.1 (52 + r) (k : Int)) * (v.1 (si + 1) (k : Int))) := by omega
                    rw [← e4]
                    exact ih (k + 1) (by omega) (by omega)
                  · skip
                    omega
                · skip
                  refine m_iconst h dX1_endOfOthers_106 ?_
                  refine m_goto h dX1_endOfOthers_107 (tgt := 111) (by decide) ?_
                  refine m_istore h dX1_endOfOthers_111 (by decide) rfl ?_
                  refine m_iload h dX1_endOfOthers_113 rfl ?_
                  refine m_iload h dX1_endOfOthers_115 rfl ?_
                  refine m_iload h dX1_endOfOthers_117 rfl ?_
                  refine m_if_eq h dX1_endOfOthers_119 (tgt := 132) (by decide) (by omega) (fun c8 => ?_) (fun c8 => ?_)
                  · skip
                    omega
                  · skip
                    refine m_aload_n h dX1_endOfOthers_122 rfl rfl ?_
                    refine m_get h fo_X1_100 (isSp_lt hsp) (cE_sp hsp) rfl dX1_endOfOthers_123 ?_
                    refine m_iload h dX1_endOfOthers_126 rfl ?_
                    refine m_iald h (ar_sp2 hsp) (by omega) (by omega) dX1_endOfOthers_128 ?_
                    refine m_goto h dX1_endOfOthers_129 (tgt := 139) (by decide) ?_
                    refine m_imul h dX1_endOfOthers_139 ?_
                    refine m_iadd h dX1_endOfOthers_140 ?_
                    refine m_istore h dX1_endOfOthers_141 (by decide) rfl ?_
                    refine m_iinc h dX1_endOfOthers_143 rfl (by decide) rfl ?_
                    refine m_goto h dX1_endOfOthers_146 (tgt := 6) (by decide) ?_
                    refine m_kill 6 ?_
                    refine m_kill 7 ?_
                    have e2 : (eoP (v.1 (40 + r) 0) (v.1 (40 + r) 4) (v.1 (52 + r)) (v.1 (si + 1)) (v.1 (si + 2)) n mb) (k : Int) = ((v.1 (52 + r) (k : Int)) * (v.1 (si + 2) (k : Int))) := by
                      unfold eoP
                      (repeat' split) <;> omega
                    have e3 : sm (eoP (v.1 (40 + r) 0) (v.1 (40 + r) 4) (v.1 (52 + r)) (v.1 (si + 1)) (v.1 (si + 2)) n mb) (k + 1) = sm (eoP (v.1 (40 + r) 0) (v.1 (40 + r) 4) (v.1 (52 + r)) (v.1 (si + 1)) (v.1 (si + 2)) n mb) k + (eoP (v.1 (40 + r) 0) (v.1 (40 + r) 4) (v.1 (52 + r)) (v.1 (si + 1)) (v.1 (si + 2)) n mb) (k : Int) := rfl
                    have e4 : sm (eoP (v.1 (40 + r) 0) (v.1 (40 + r) 4) (v.1 (52 + r)) (v.1 (si + 1)) (v.1 (si + 2)) n mb) (k + 1) = (sm (eoP (v.1 (40 + r) 0) (v.1 (40 + r) 4) (v.1 (52 + r)) (v.1 (si + 1)) (v.1 (si + 2)) n mb) k) + ((v.1 (52 + r) (k : Int)) * (v.1 (si + 2) (k : Int))) := by omega
                    rw [← e4]
                    exact ih (k + 1) (by omega) (by omega)
              · skip
                refine m_iconst h dX1_endOfOthers_98 ?_
                refine m_goto h dX1_endOfOthers_99 (tgt := 103) (by decide) ?_
                refine m_icmp_ne h dX1_endOfOthers_103 (tgt := 110) (by decide) (by omega) (by omega) (fun c9 => ?_) (fun c9 => ?_)
                · skip
                  refine m_iconst h dX1_endOfOthers_110 ?_
                  refine m_istore h dX1_endOfOthers_111 (by decide) rfl ?_
                  refine m_iload h dX1_endOfOthers_113 rfl ?_
                  refine m_iload h dX1_endOfOthers_115 rfl ?_
                  refine m_iload h dX1_endOfOthers_117 rfl ?_
                  refine m_if_eq h dX1_endOfOthers_119 (tgt := 132) (by decide) (by omega) (fun c10 => ?_) (fun c10 => ?_)
                  · skip
                    refine m_aload_n h dX1_endOfOthers_132 rfl rfl ?_
                    refine m_get h fo_X1_103 (isSp_lt hsp) (cE_sp hsp) rfl dX1_endOfOthers_133 ?_
                    refine m_iload h dX1_endOfOthers_136 rfl ?_
                    refine m_iald h (ar_sp1 hsp) (by omega) (by omega) dX1_endOfOthers_138 ?_
                    refine m_imul h dX1_endOfOthers_139 ?_
                    refine m_iadd h dX1_endOfOthers_140 ?_
                    refine m_istore h dX1_endOfOthers_141 (by decide) rfl ?_
                    refine m_iinc h dX1_endOfOthers_143 rfl (by decide) rfl ?_
                    refine m_goto h dX1_endOfOthers_146 (tgt := 6) (by decide) ?_
                    refine m_kill 6 ?_
                    refine m_kill 7 ?_
                    have e2 : (eoP (v.1 (40 + r) 0) (v.1 (40 + r) 4) (v.1 (52 + r)) (v.1 (si + 1)) (v.1 (si + 2)) n mb) (k : Int) = ((v.1 (52 + r) (k : Int)) * (v.1 (si + 1) (k : Int))) := by
                      unfold eoP
                      (repeat' split) <;> omega
                    have e3 : sm (eoP (v.1 (40 + r) 0) (v.1 (40 + r) 4) (v.1 (52 + r)) (v.1 (si + 1)) (v.1 (si + 2)) n mb) (k + 1) = sm (eoP (v.1 (40 + r) 0) (v.1 (40 + r) 4) (v.1 (52 + r)) (v.1 (si + 1)) (v.1 (si + 2)) n mb) k + (eoP (v.1 (40 + r) 0) (v.1 (40 + r) 4) (v.1 (52 + r)) (v.1 (si + 1)) (v.1 (si + 2)) n mb) (k : Int) := rfl
                    have e4 : sm (eoP (v.1 (40 + r) 0) (v.1 (40 + r) 4) (v.1 (52 + r)) (v.1 (si + 1)) (v.1 (si + 2)) n mb) (k + 1) = (sm (eoP (v.1 (40 + r) 0) (v.1 (40 + r) 4) (v.1 (52 + r)) (v.1 (si + 1)) (v.1 (si + 2)) n mb) k) + ((v.1 (52 + r) (k : Int)) * (v.1 (si + 1) (k : Int))) := by omega
                    rw [← e4]
                    exact ih (k + 1) (by omega) (by omega)
                  · skip
                    omega
                · skip
                  refine m_iconst h dX1_endOfOthers_106 ?_
                  refine m_goto h dX1_endOfOthers_107 (tgt := 111) (by decide) ?_
                  refine m_istore h dX1_endOfOthers_111 (by decide) rfl ?_
                  refine m_iload h dX1_endOfOthers_113 rfl ?_
                  refine m_iload h dX1_endOfOthers_115 rfl ?_
                  refine m_iload h dX1_endOfOthers_117 rfl ?_
                  refine m_if_eq h dX1_endOfOthers_119 (tgt := 132) (by decide) (by omega) (fun c11 => ?_) (fun c11 => ?_)
                  · skip
                    omega
                  · skip
                    refine m_aload_n h dX1_endOfOthers_122 rfl rfl ?_
                    refine m_get h fo_X1_100 (isSp_lt hsp) (cE_sp hsp) rfl dX1_endOfOthers_123 ?_
                    refine m_iload h dX1_endOfOthers_126 rfl ?_
                    refine m_iald h (ar_sp2 hsp) (by omega) (by omega) dX1_endOfOthers_128 ?_
                    refine m_goto h dX1_endOfOthers_129 (tgt := 139) (by decide) ?_
                    refine m_imul h dX1_endOfOthers_139 ?_
                    refine m_iadd h dX1_endOfOthers_140 ?_
                    refine m_istore h dX1_endOfOthers_141 (by decide) rfl ?_
                    refine m_iinc h dX1_endOfOthers_143 rfl (by decide) rfl ?_
                    refine m_goto h dX1_endOfOthers_146 (tgt := 6) (by decide) ?_
                    refine m_kill 6 ?_
                    refine m_kill 7 ?_
                    have e2 : (eoP (v.1 (40 + r) 0) (v.1 (40 + r) 4) (v.1 (52 + r)) (v.1 (si + 1)) (v.1 (si + 2)) n mb) (k : Int) = ((v.1 (52 + r) (k : Int)) * (v.1 (si + 2) (k : Int))) := by
                      unfold eoP
                      (repeat' split) <;> omega
                    have e3 : sm (eoP (v.1 (40 + r) 0) (v.1 (40 + r) 4) (v.1 (52 + r)) (v.1 (si + 1)) (v.1 (si + 2)) n mb) (k + 1) = sm (eoP (v.1 (40 + r) 0) (v.1 (40 + r) 4) (v.1 (52 + r)) (v.1 (si + 1)) (v.1 (si + 2)) n mb) k + (eoP (v.1 (40 + r) 0) (v.1 (40 + r) 4) (v.1 (52 + r)) (v.1 (si + 1)) (v.1 (si + 2)) n mb) (k : Int) := rfl
                    have e4 : sm (eoP (v.1 (40 + r) 0) (v.1 (40 + r) 4) (v.1 (52 + r)) (v.1 (si + 1)) (v.1 (si + 2)) n mb) (k + 1) = (sm (eoP (v.1 (40 + r) 0) (v.1 (40 + r) 4) (v.1 (52 + r)) (v.1 (si + 1)) (v.1 (si + 2)) n mb) k) + ((v.1 (52 + r) (k : Int)) * (v.1 (si + 2) (k : Int))) := by omega
                    rw [← e4]
                    exact ih (k + 1) (by omega) (by omega)
            · skip
              refine m_iload_n h dX1_endOfOthers_45 rfl rfl ?_
              refine m_if_eq h dX1_endOfOthers_46 (tgt := 62) (by decide) (by omega) (fun c12 => ?_) (fun c12 => ?_)
              · skip
                refine m_aload_n h dX1_endOfOthers_62 rfl rfl ?_
                refine m_iload h dX1_endOfOthers_63 rfl ?_
                refine m_aload_n h dX1_endOfOthers_65 rfl rfl ?_
                refine m_get h fo_X1_24 (by omega) (cE_row G _ hr) rfl dX1_endOfOthers_66 ?_
                refine m_vI h (c_onl _ hG hsp _ (k : Int) (v.1 (40 + r) 4) (by omega) (by omega) hm) moX5_isOnly voX5_isOnly lk_X1_93 dX1_endOfOthers_69 (by decide) (isSp_lt hsp) (cE_sp hsp) rfl rfl (Nat.le_of_ble_eq_true rfl) (fun r13 u14 p15 => ?_)
                obtain ⟨hu9, hb⟩ := p15
                rw [hu9]
                have hbi := hb.in
                unfold bz at hb
                refine m_istore h dX1_endOfOthers_72 (by decide) rfl ?_
                refine m_iload h dX1_endOfOthers_74 rfl ?_
                refine m_iload h dX1_endOfOthers_76 rfl ?_
                refine m_if_eq h dX1_endOfOthers_78 (tgt := 85) (by decide) (by omega) (fun c16 => ?_) (fun c16 => ?_)
                · skip
                  refine m_iconst h dX1_endOfOthers_85 ?_
                  refine m_iadd h dX1_endOfOthers_86 ?_
                  refine m_istore h dX1_endOfOthers_87 (by decide) rfl ?_
                  refine m_goto h dX1_endOfOthers_89 (tgt := 143) (by decide) ?_
                  refine m_iinc h dX1_endOfOthers_143 rfl (by decide) rfl ?_
                  refine m_goto h dX1_endOfOthers_146 (tgt := 6) (by decide) ?_
                  refine m_kill 6 ?_
                  refine m_kill 7 ?_
                  have e2 : (eoP (v.1 (40 + r) 0) (v.1 (40 + r) 4) (v.1 (52 + r)) (v.1 (si + 1)) (v.1 (si + 2)) n mb) (k : Int) = 0 := by
                    unfold eoP
                    (repeat' split) <;> omega
                  have e3 : sm (eoP (v.1 (40 + r) 0) (v.1 (40 + r) 4) (v.1 (52 + r)) (v.1 (si + 1)) (v.1 (si + 2)) n mb) (k + 1) = sm (eoP (v.1 (40 + r) 0) (v.1 (40 + r) 4) (v.1 (52 + r)) (v.1 (si + 1)) (v.1 (si + 2)) n mb) k + (eoP (v.1 (40 + r) 0) (v.1 (40 + r) 4) (v.1 (52 + r)) (v.1 (si + 1)) (v.1 (si + 2)) n mb) (k : Int) := rfl
                  have e4 : sm (eoP (v.1 (40 + r) 0) (v.1 (40 + r) 4) (v.1 (52 + r)) (v.1 (si + 1)) (v.1 (si + 2)) n mb) (k + 1) = (sm (eoP (v.1 (40 + r) 0) (v.1 (40 + r) 4) (v.1 (52 + r)) (v.1 (si + 1)) (v.1 (si + 2)) n mb) k) + 0 := by omega
                  rw [← e4]
                  exact ih (k + 1) (by omega) (by omega)
                · skip
                  refine m_iconst h dX1_endOfOthers_81 ?_
                  refine m_goto h dX1_endOfOthers_82 (tgt := 86) (by decide) ?_
                  refine m_iadd h dX1_endOfOthers_86 ?_
                  refine m_istore h dX1_endOfOthers_87 (by decide) rfl ?_
                  refine m_goto h dX1_endOfOthers_89 (tgt := 143) (by decide) ?_
                  refine m_iinc h dX1_endOfOthers_143 rfl (by decide) rfl ?_
                  refine m_goto h dX1_endOfOthers_146 (tgt := 6) (by decide) ?_
                  refine m_kill 6 ?_
                  refine m_kill 7 ?_
                  have e2 : (eoP (v.1 (40 + r) 0) (v.1 (40 + r) 4) (v.1 (52 + r)) (v.1 (si + 1)) (v.1 (si + 2)) n mb) (k : Int) = 1 := by
                    unfold eoP
                    (repeat' split) <;> omega
                  have e3 : sm (eoP (v.1 (40 + r) 0) (v.1 (40 + r) 4) (v.1 (52 + r)) (v.1 (si + 1)) (v.1 (si + 2)) n mb) (k + 1) = sm (eoP (v.1 (40 + r) 0) (v.1 (40 + r) 4) (v.1 (52 + r)) (v.1 (si + 1)) (v.1 (si + 2)) n mb) k + (eoP (v.1 (40 + r) 0) (v.1 (40 + r) 4) (v.1 (52 + r)) (v.1 (si + 1)) (v.1 (si + 2)) n mb) (k : Int) := rfl
                  have e4 : sm (eoP (v.1 (40 + r) 0) (v.1 (40 + r) 4) (v.1 (52 + r)) (v.1 (si + 1)) (v.1 (si + 2)) n mb) (k + 1) = (sm (eoP (v.1 (40 + r) 0) (v.1 (40 + r) 4) (v.1 (52 + r)) (v.1 (si + 1)) (v.1 (si + 2)) n mb) k) + 1 := by omega
                  rw [← e4]
                  exact ih (k + 1) (by omega) (by omega)
              · skip
                refine m_aload_n h dX1_endOfOthers_49 rfl rfl ?_
                refine m_iload h dX1_endOfOthers_50 rfl ?_
                refine m_aload_n h dX1_endOfOthers_52 rfl rfl ?_
                refine m_get h fo_X1_24 (by omega) (cE_row G _ hr) rfl dX1_endOfOthers_53 ?_
                refine m_vI h (c_cov _ hG hsp _ (k : Int) (v.1 (40 + r) 4) (by omega) (by omega) hm) moX5_covers voX5_covers lk_X1_75 dX1_endOfOthers_56 (by decide) (isSp_lt hsp) (cE_sp hsp) rfl rfl (Nat.le_of_ble_eq_true rfl) (fun r17 u18 p19 => ?_)
                obtain ⟨hu9, hb⟩ := p19
                rw [hu9]
                have hbi := hb.in
                unfold bz at hb
                refine m_goto h dX1_endOfOthers_59 (tgt := 72) (by decide) ?_
                refine m_istore h dX1_endOfOthers_72 (by decide) rfl ?_
                refine m_iload h dX1_endOfOthers_74 rfl ?_
                refine m_iload h dX1_endOfOthers_76 rfl ?_
                refine m_if_eq h dX1_endOfOthers_78 (tgt := 85) (by decide) (by omega) (fun c20 => ?_) (fun c20 => ?_)
                · skip
                  refine m_iconst h dX1_endOfOthers_85 ?_
                  refine m_iadd h dX1_endOfOthers_86 ?_
                  refine m_istore h dX1_endOfOthers_87 (by decide) rfl ?_
                  refine m_goto h dX1_endOfOthers_89 (tgt := 143) (by decide) ?_
                  refine m_iinc h dX1_endOfOthers_143 rfl (by decide) rfl ?_
                  refine m_goto h dX1_endOfOthers_146 (tgt := 6) (by decide) ?_
                  refine m_kill 6 ?_
                  refine m_kill 7 ?_
                  have e2 : (eoP (v.1 (40 + r) 0) (v.1 (40 + r) 4) (v.1 (52 + r)) (v.1 (si + 1)) (v.1 (si + 2)) n mb) (k : Int) = 0 := by
                    unfold eoP
                    (repeat' split) <;> omega
                  have e3 : sm (eoP (v.1 (40 + r) 0) (v.1 (40 + r) 4) (v.1 (52 + r)) (v.1 (si + 1)) (v.1 (si + 2)) n mb) (k + 1) = sm (eoP (v.1 (40 + r) 0) (v.1 (40 + r) 4) (v.1 (52 + r)) (v.1 (si + 1)) (v.1 (si + 2)) n mb) k + (eoP (v.1 (40 + r) 0) (v.1 (40 + r) 4) (v.1 (52 + r)) (v.1 (si + 1)) (v.1 (si + 2)) n mb) (k : Int) := rfl
                  have e4 : sm (eoP (v.1 (40 + r) 0) (v.1 (40 + r) 4) (v.1 (52 + r)) (v.1 (si + 1)) (v.1 (si + 2)) n mb) (k + 1) = (sm (eoP (v.1 (40 + r) 0) (v.1 (40 + r) 4) (v.1 (52 + r)) (v.1 (si + 1)) (v.1 (si + 2)) n mb) k) + 0 := by omega
                  rw [← e4]
                  exact ih (k + 1) (by omega) (by omega)
                · skip
                  refine m_iconst h dX1_endOfOthers_81 ?_
                  refine m_goto h dX1_endOfOthers_82 (tgt := 86) (by decide) ?_
                  refine m_iadd h dX1_endOfOthers_86 ?_
                  refine m_istore h dX1_endOfOthers_87 (by decide) rfl ?_
                  refine m_goto h dX1_endOfOthers_89 (tgt := 143) (by decide) ?_
                  refine m_iinc h dX1_endOfOthers_143 rfl (by decide) rfl ?_
                  refine m_goto h dX1_endOfOthers_146 (tgt := 6) (by decide) ?_
                  refine m_kill 6 ?_
                  refine m_kill 7 ?_
                  have e2 : (eoP (v.1 (40 + r) 0) (v.1 (40 + r) 4) (v.1 (52 + r)) (v.1 (si + 1)) (v.1 (si + 2)) n mb) (k : Int) = 1 := by
                    unfold eoP
                    (repeat' split) <;> omega
                  have e3 : sm (eoP (v.1 (40 + r) 0) (v.1 (40 + r) 4) (v.1 (52 + r)) (v.1 (si + 1)) (v.1 (si + 2)) n mb) (k + 1) = sm (eoP (v.1 (40 + r) 0) (v.1 (40 + r) 4) (v.1 (52 + r)) (v.1 (si + 1)) (v.1 (si + 2)) n mb) k + (eoP (v.1 (40 + r) 0) (v.1 (40 + r) 4) (v.1 (52 + r)) (v.1 (si + 1)) (v.1 (si + 2)) n mb) (k : Int) := rfl
                  have e4 : sm (eoP (v.1 (40 + r) 0) (v.1 (40 + r) 4) (v.1 (52 + r)) (v.1 (si + 1)) (v.1 (si + 2)) n mb) (k + 1) = (sm (eoP (v.1 (40 + r) 0) (v.1 (40 + r) 4) (v.1 (52 + r)) (v.1 (si + 1)) (v.1 (si + 2)) n mb) k) + 1 := by omega
                  rw [← e4]
                  exact ih (k + 1) (by omega) (by omega)
          · skip
            refine m_goto h dX1_endOfOthers_33 (tgt := 143) (by decide) ?_
            refine m_iinc h dX1_endOfOthers_143 rfl (by decide) rfl ?_
            refine m_goto h dX1_endOfOthers_146 (tgt := 6) (by decide) ?_
            refine m_kill 6 ?_
            have e2 : (eoP (v.1 (40 + r) 0) (v.1 (40 + r) 4) (v.1 (52 + r)) (v.1 (si + 1)) (v.1 (si + 2)) n mb) (k : Int) = 0 := by
              unfold eoP
              (repeat' split) <;> omega
            have e3 : sm (eoP (v.1 (40 + r) 0) (v.1 (40 + r) 4) (v.1 (52 + r)) (v.1 (si + 1)) (v.1 (si + 2)) n mb) (k + 1) = sm (eoP (v.1 (40 + r) 0) (v.1 (40 + r) 4) (v.1 (52 + r)) (v.1 (si + 1)) (v.1 (si + 2)) n mb) k + (eoP (v.1 (40 + r) 0) (v.1 (40 + r) 4) (v.1 (52 + r)) (v.1 (si + 1)) (v.1 (si + 2)) n mb) (k : Int) := rfl
            have e4 : sm (eoP (v.1 (40 + r) 0) (v.1 (40 + r) 4) (v.1 (52 + r)) (v.1 (si + 1)) (v.1 (si + 2)) n mb) (k + 1) = sm (eoP (v.1 (40 + r) 0) (v.1 (40 + r) 4) (v.1 (52 + r)) (v.1 (si + 1)) (v.1 (si + 2)) n mb) k := by omega
            rw [← e4]
            exact ih (k + 1) (by omega) (by omega)
  exact lp6 9 0 (by omega) (by omega)

set_option maxRecDepth 100000 in
set_option maxHeartbeats 4000000 in
theorem c_lastName (l : Launch) {G : GT} (hG : gok G) (v : Mem) {r : Nat} (hr : r < 12) (hrw : RwOk v r) : CC l G nX1_lastName 1 [.ref (G.2.1 (40 + r))] v (qI G (fun z u => u = v ∧ LastN (Ab v r) 8 z)) := by
  refine m_start (lv := [some (.ref (G.2.1 (40 + r))), none, none]) hG (by decide +kernel) rfl (Nat.le_of_ble_eq_true rfl) ?_
  intro X hL h hR
  subst hL
  show M X G 3 v 0 [some (.ref (G.2.1 (40 + r))), none, none] []
  refine m_iconst h dX1_lastName_0 ?_
  refine m_istore_n h dX1_lastName_1 rfl (by decide) rfl ?_
  refine m_iconst h dX1_lastName_2 ?_
  refine m_istore_n h dX1_lastName_3 rfl (by decide) rfl ?_
  have lp4 : ∀ (fuel : Nat) (k : Nat) (w : Int), k ≤ 8 → 8 - k < fuel → LastN (Ab v r) k w → M X G 3 v 4 [some (.ref (G.2.1 (40 + r))), some (.int (iI w)), some (.int (iI (k : Int)))] [] := by
    intro fuel
    induction fuel with
    | zero => intro k w hy0 hy1 hy2; exfalso; omega
    | succ fuel ih =>
      intro k w hy0 hy1 hy2
      refine m_iload_n h dX1_lastName_4 rfl rfl ?_
      refine m_bipush h dX1_lastName_5 (by decide) ?_
      refine m_icmp_ge h dX1_lastName_7 (tgt := 26) (by decide) (by omega) (by omega) (fun c1 => ?_) (fun c1 => ?_)
      · skip
        refine m_iload_n h dX1_lastName_26 rfl rfl ?_
        refine m_iret h hR rfl dX1_lastName_27 ?_
        exact ⟨rfl, by rw [show (8 : Int) = k by omega]; exact hy2⟩
      · skip
        refine m_aload_n h dX1_lastName_10 rfl rfl ?_
        refine m_iload_n h dX1_lastName_11 rfl rfl ?_
        refine m_vI h (c_isAbout _ hG _ hr hrw (k : Int) (by omega)) moX1_isAbout voX1_isAbout lk_X1_31 dX1_lastName_12 (by decide) (by omega) (cE_row G _ hr) rfl rfl (Nat.le_of_ble_eq_true rfl) (fun r2 u3 p4 => ?_)
        obtain ⟨hu9, hb⟩ := p4
        rw [hu9]
        have hbi := hb.in
        refine m_if_eq h dX1_lastName_15 (tgt := 20) (by decide) (by omega) (fun c5 => ?_) (fun c5 => ?_)
        · skip
          refine m_iinc h dX1_lastName_20 rfl (by decide) rfl ?_
          refine m_goto h dX1_lastName_23 (tgt := 4) (by decide) ?_
          refine ih (k + 1) w (by omega) (by omega) ⟨by have := hy2.1; omega, hy2.2.1, fun j q1 q2 q3 => ?_⟩
          by_cases hj : j < k
          · exact hy2.2.2 j q1 q2 hj
          · obtain rfl : j = k := by omega
            exact hb.no (by assumption)
        · skip
          refine m_iload_n h dX1_lastName_18 rfl rfl ?_
          refine m_istore_n h dX1_lastName_19 rfl (by decide) rfl ?_
          refine m_iinc h dX1_lastName_20 rfl (by decide) rfl ?_
          refine m_goto h dX1_lastName_23 (tgt := 4) (by decide) ?_
          exact ih (k + 1) k (by omega) (by omega) ⟨by omega, fun _ => hb.yes (by assumption), fun j q1 q2 q3 => by omega⟩
  exact lp4 9 0 (-1) (by omega) (by omega) ⟨by omega, fun q => by omega, fun j q1 q2 q3 => by omega⟩

set_option maxRecDepth 100000 in
set_option maxHeartbeats 4000000 in
theorem c_holds (l : Launch) {G : GT} (hG : gok G) (v : Mem) {r : Nat} (hr : r < 12) (hrw : RwOk v r) (hch : ∀ x, -32 ≤ v.1 23 x ∧ v.1 23 x ≤ 31) : CC l G nX1_holds 1 [.ref (G.2.1 (40 + r)), .ref (G.2.1 23)] v (qI G (fun z u => u = v ∧ bz z (Cn (v.1 (40 + r) 0) (v.1 (40 + r) 1) (v.1 (40 + r) 2) (v.1 (40 + r) 3) (v.1 (40 + r) 4) (v.1 (52 + r)) (v.1 23) (v.1 23)))) := by
  refine m_start (lv := [some (.ref (G.2.1 (40 + r))), some (.ref (G.2.1 23))]) hG (by decide +kernel) rfl (Nat.le_of_ble_eq_true rfl) ?_
  intro X hL h hR
  subst hL
  have hrw0 := hrw
  obtain ⟨k0, a0, b0, c0, R0, f0, kA, kB, kC, kD, kE⟩ := hrw
  have q1 := hch (v.1 (40 + r) 1)
  have q2 := hch (v.1 (40 + r) 2)
  have q3 := hch (v.1 (40 + r) 3)
  have g2 := mulR (a := v.1 23 (v.1 (40 + r) 2)) (b := v.1 23 (v.1 (40 + r) 3)) (by omega) (by omega)
  show M X G 2 v 0 [some (.ref (G.2.1 (40 + r))), some (.ref (G.2.1 23))] []
  refine m_aload_n h dX1_holds_0 rfl rfl ?_
  refine m_get h fo_X1_9 (by omega) (cE_row G _ hr) rfl dX1_holds_1 ?_
  rcases (show v.1 (40 + r) 0 = 0 ∨ v.1 (40 + r) 0 = 1 ∨ v.1 (40 + r) 0 = 2 ∨ v.1 (40 + r) 0 = 3 ∨ v.1 (40 + r) 0 = 4 ∨ v.1 (40 + r) 0 = 5 ∨ v.1 (40 + r) 0 = 6 ∨ v.1 (40 + r) 0 = 7 ∨ v.1 (40 + r) 0 = 8 ∨ (v.1 (40 + r) 0 < 0 ∨ 8 < v.1 (40 + r) 0) by omega) with sw1 | sw1 | sw1 | sw1 | sw1 | sw1 | sw1 | sw1 | sw1 | sw1
  · skip
    refine m_tsIn h dX1_holds_4 (off := 52) (tgt := 56) (by omega) (by omega) (by omega) (by rw [sw1]; rfl) (by decide) ?_
    refine m_aload_n h dX1_holds_56 rfl rfl ?_
    refine m_aload_n h dX1_holds_57 rfl rfl ?_
    refine m_vI h (c_sumOf _ hG _ hr hrw0 hch) moX1_sumOf voX1_sumOf lk_X1_35 dX1_holds_58 (by decide) (by omega) (cE_row G _ hr) rfl rfl (Nat.le_of_ble_eq_true rfl) (fun r2 u3 p4 => ?_)
    obtain ⟨hu9, es⟩ := p4
    rw [hu9]
    have gs := sm_b (g := fun n => v.1 (52 + r) n * v.1 23 n) (B := 1600) (fun x => mulR (a := v.1 (52 + r) x) (b := v.1 23 x) (by have := f0 x; omega) (by have := hch x; omega)) 8
    rw [← es] at gs
    refine m_aload_n h dX1_holds_61 rfl rfl ?_
    refine m_get h fo_X1_24 (by omega) (cE_row G _ hr) rfl dX1_holds_62 ?_
    refine m_icmp_gt h dX1_holds_65 (tgt := 72) (by decide) (by omega) (by omega) (fun c5 => ?_) (fun c5 => ?_)
    · skip
      refine m_iconst h dX1_holds_72 ?_
      refine m_zret h hR rfl dX1_holds_73 (by omega) ?_
      refine ⟨rfl, bz.iff ?_ (pt_0 (by omega))⟩
      rw [← es]
      exact bz0 (by omega)
    · skip
      refine m_iconst h dX1_holds_68 ?_
      refine m_goto h dX1_holds_69 (tgt := 73) (by decide) ?_
      refine m_zret h hR rfl dX1_holds_73 (by omega) ?_
      refine ⟨rfl, bz.iff ?_ (pt_0 (by omega))⟩
      rw [← es]
      exact bz1 (by omega)
  · skip
    refine m_tsIn h dX1_holds_4 (off := 70) (tgt := 74) (by omega) (by omega) (by omega) (by rw [sw1]; rfl) (by decide) ?_
    refine m_aload_n h dX1_holds_74 rfl rfl ?_
    refine m_aload_n h dX1_holds_75 rfl rfl ?_
    refine m_vI h (c_sumOf _ hG _ hr hrw0 hch) moX1_sumOf voX1_sumOf lk_X1_35 dX1_holds_76 (by decide) (by omega) (cE_row G _ hr) rfl rfl (Nat.le_of_ble_eq_true rfl) (fun r6 u7 p8 => ?_)
    obtain ⟨hu9, es⟩ := p8
    rw [hu9]
    have gs := sm_b (g := fun n => v.1 (52 + r) n * v.1 23 n) (B := 1600) (fun x => mulR (a := v.1 (52 + r) x) (b := v.1 23 x) (by have := f0 x; omega) (by have := hch x; omega)) 8
    rw [← es] at gs
    refine m_aload_n h dX1_holds_79 rfl rfl ?_
    refine m_get h fo_X1_24 (by omega) (cE_row G _ hr) rfl dX1_holds_80 ?_
    refine m_icmp_ne h dX1_holds_83 (tgt := 90) (by decide) (by omega) (by omega) (fun c9 => ?_) (fun c9 => ?_)
    · skip
      refine m_iconst h dX1_holds_90 ?_
      refine m_zret h hR rfl dX1_holds_91 (by omega) ?_
      refine ⟨rfl, bz.iff ?_ (pt_1 (by omega))⟩
      rw [← es]
      exact bz0 (by omega)
    · skip
      refine m_iconst h dX1_holds_86 ?_
      refine m_goto h dX1_holds_87 (tgt := 91) (by decide) ?_
      refine m_zret h hR rfl dX1_holds_91 (by omega) ?_
      refine ⟨rfl, bz.iff ?_ (pt_1 (by omega))⟩
      rw [← es]
      exact bz1 (by omega)
  · skip
    refine m_tsIn h dX1_holds_4 (off := 88) (tgt := 92) (by omega) (by omega) (by omega) (by rw [sw1]; rfl) (by decide) ?_
    refine m_aload_n h dX1_holds_92 rfl rfl ?_
    refine m_aload_n h dX1_holds_93 rfl rfl ?_
    refine m_get h fo_X1_15 (by omega) (cE_row G _ hr) rfl dX1_holds_94 ?_
    refine m_iald h (ar_23 G) (by omega) (by omega) dX1_holds_97 ?_
    refine m_aload_n h dX1_holds_98 rfl rfl ?_
    refine m_aload_n h dX1_holds_99 rfl rfl ?_
    refine m_get h fo_X1_18 (by omega) (cE_row G _ hr) rfl dX1_holds_100 ?_
    refine m_iald h (ar_23 G) (by omega) (by omega) dX1_holds_103 ?_
    refine m_aload_n h dX1_holds_104 rfl rfl ?_
    refine m_aload_n h dX1_holds_105 rfl rfl ?_
    refine m_get h fo_X1_21 (by omega) (cE_row G _ hr) rfl dX1_holds_106 ?_
    refine m_iald h (ar_23 G) (by omega) (by omega) dX1_holds_109 ?_
    refine m_imul h dX1_holds_110 ?_
    refine m_icmp_ne h dX1_holds_111 (tgt := 118) (by decide) (by omega) (by omega) (fun c10 => ?_) (fun c10 => ?_)
    · skip
      refine m_iconst h dX1_holds_118 ?_
      refine m_zret h hR rfl dX1_holds_119 (by omega) ?_
      refine ⟨rfl, bz.iff ?_ (pt_2 (by omega))⟩
      exact bz0 (by omega)
    · skip
      refine m_iconst h dX1_holds_114 ?_
      refine m_goto h dX1_holds_115 (tgt := 119) (by decide) ?_
      refine m_zret h hR rfl dX1_holds_119 (by omega) ?_
      refine ⟨rfl, bz.iff ?_ (pt_2 (by omega))⟩
      exact bz1 (by omega)
  · skip
    refine m_tsIn h dX1_holds_4 (off := 116) (tgt := 120) (by omega) (by omega) (by omega) (by rw [sw1]; rfl) (by decide) ?_
    refine m_aload_n h dX1_holds_120 rfl rfl ?_
    refine m_aload_n h dX1_holds_121 rfl rfl ?_
    refine m_get h fo_X1_21 (by omega) (cE_row G _ hr) rfl dX1_holds_122 ?_
    refine m_iald h (ar_23 G) (by omega) (by omega) dX1_holds_125 ?_
    refine m_if_eq h dX1_holds_126 (tgt := 157) (by decide) (by omega) (fun c11 => ?_) (fun c11 => ?_)
    · skip
      refine m_iconst h dX1_holds_157 ?_
      refine m_zret h hR rfl dX1_holds_158 (by omega) ?_
      refine ⟨rfl, bz.iff ?_ (pt_3 (by omega))⟩
      first | (rw [← ep]; exact bz0 (by omega)) | exact bz0 (by omega)
    · skip
      refine m_aload_n h dX1_holds_129 rfl rfl ?_
      refine m_aload_n h dX1_holds_130 rfl rfl ?_
      refine m_get h fo_X1_15 (by omega) (cE_row G _ hr) rfl dX1_holds_131 ?_
      refine m_iald h (ar_23 G) (by omega) (by omega) dX1_holds_134 ?_
      refine m_aload_n h dX1_holds_135 rfl rfl ?_
      refine m_aload_n h dX1_holds_136 rfl rfl ?_
      refine m_get h fo_X1_18 (by omega) (cE_row G _ hr) rfl dX1_holds_137 ?_
      refine m_iald h (ar_23 G) (by omega) (by omega) dX1_holds_140 ?_
      refine m_aload_n h dX1_holds_141 rfl rfl ?_
      refine m_aload_n h dX1_holds_142 rfl rfl ?_
      refine m_get h fo_X1_21 (by omega) (cE_row G _ hr) rfl dX1_holds_143 ?_
      refine m_iald h (ar_23 G) (by omega) (by omega) dX1_holds_146 ?_
      refine m_sI h (c_floorDiv _ hG _ (v.1 23 (v.1 (40 + r) 2)) (v.1 23 (v.1 (40 + r) 3)) (by omega) (by omega) (by omega)) moJ9_floorDiv_7cf53 stJ9_floorDiv_7cf53 lk_X1_39 dX1_holds_147 (by decide) rfl rfl (Nat.le_of_ble_eq_true rfl) (fun r12 u13 p14 => ?_)
      obtain ⟨hu9, ep⟩ := p14
      rw [hu9]
      have gp := fd_rg (a := v.1 23 (v.1 (40 + r) 2)) (b := v.1 23 (v.1 (40 + r) 3)) (by omega) (by omega)
      rw [← ep] at gp
      refine m_icmp_ne h dX1_holds_150 (tgt := 157) (by decide) (by omega) (by omega) (fun c15 => ?_) (fun c15 => ?_)
      · skip
        refine m_iconst h dX1_holds_157 ?_
        refine m_zret h hR rfl dX1_holds_158 (by omega) ?_
        refine ⟨rfl, bz.iff ?_ (pt_3 (by omega))⟩
        first | (rw [← ep]; exact bz0 (by omega)) | exact bz0 (by omega)
      · skip
        refine m_iconst h dX1_holds_153 ?_
        refine m_goto h dX1_holds_154 (tgt := 158) (by decide) ?_
        refine m_zret h hR rfl dX1_holds_158 (by omega) ?_
        refine ⟨rfl, bz.iff ?_ (pt_3 (by omega))⟩
        first | (rw [← ep]; exact bz1 (by omega)) | exact bz0 (by omega)
  · skip
    refine m_tsIn h dX1_holds_4 (off := 155) (tgt := 159) (by omega) (by omega) (by omega) (by rw [sw1]; rfl) (by decide) ?_
    refine m_aload_n h dX1_holds_159 rfl rfl ?_
    refine m_aload_n h dX1_holds_160 rfl rfl ?_
    refine m_get h fo_X1_15 (by omega) (cE_row G _ hr) rfl dX1_holds_161 ?_
    refine m_iald h (ar_23 G) (by omega) (by omega) dX1_holds_164 ?_
    refine m_aload_n h dX1_holds_165 rfl rfl ?_
    refine m_aload_n h dX1_holds_166 rfl rfl ?_
    refine m_get h fo_X1_18 (by omega) (cE_row G _ hr) rfl dX1_holds_167 ?_
    refine m_iald h (ar_23 G) (by omega) (by omega) dX1_holds_170 ?_
    refine m_abs h lk_X1_45 dX1_holds_171 (by decide) (Nat.le_of_ble_eq_true rfl) (by omega) ?_
    generalize hdv : (if 0 ≤ v.1 23 (v.1 (40 + r) 2) then v.1 23 (v.1 (40 + r) 2) else -(v.1 23 (v.1 (40 + r) 2))) = dv
    have hd2 : (0 ≤ v.1 23 (v.1 (40 + r) 2) ∧ dv = v.1 23 (v.1 (40 + r) 2)) ∨ (v.1 23 (v.1 (40 + r) 2) < 0 ∧ dv = -v.1 23 (v.1 (40 + r) 2)) := by
      split at hdv <;> omega
    refine m_icmp_ne h dX1_holds_174 (tgt := 181) (by decide) (by omega) (by omega) (fun c16 => ?_) (fun c16 => ?_)
    · skip
      refine m_iconst h dX1_holds_181 ?_
      refine m_zret h hR rfl dX1_holds_182 (by omega) ?_
      refine ⟨rfl, bz.iff ?_ (pt_4 (by omega))⟩
      exact bz0 (by omega)
    · skip
      refine m_iconst h dX1_holds_177 ?_
      refine m_goto h dX1_holds_178 (tgt := 182) (by decide) ?_
      refine m_zret h hR rfl dX1_holds_182 (by omega) ?_
      refine ⟨rfl, bz.iff ?_ (pt_4 (by omega))⟩
      exact bz1 (by omega)
  · skip
    refine m_tsIn h dX1_holds_4 (off := 179) (tgt := 183) (by omega) (by omega) (by omega) (by rw [sw1]; rfl) (by decide) ?_
    refine m_aload_n h dX1_holds_183 rfl rfl ?_
    refine m_aload_n h dX1_holds_184 rfl rfl ?_
    refine m_get h fo_X1_15 (by omega) (cE_row G _ hr) rfl dX1_holds_185 ?_
    refine m_iald h (ar_23 G) (by omega) (by omega) dX1_holds_188 ?_
    refine m_aload_n h dX1_holds_189 rfl rfl ?_
    refine m_aload_n h dX1_holds_190 rfl rfl ?_
    refine m_get h fo_X1_18 (by omega) (cE_row G _ hr) rfl dX1_holds_191 ?_
    refine m_iald h (ar_23 G) (by omega) (by omega) dX1_holds_194 ?_
    refine m_aload_n h dX1_holds_195 rfl rfl ?_
    refine m_aload_n h dX1_holds_196 rfl rfl ?_
    refine m_get h fo_X1_21 (by omega) (cE_row G _ hr) rfl dX1_holds_197 ?_
    refine m_iald h (ar_23 G) (by omega) (by omega) dX1_holds_200 ?_
    refine m_max h lk_X1_49 dX1_holds_201 (by decide) (Nat.le_of_ble_eq_true rfl) (by omega) (by omega) ?_
    refine m_icmp_ne h dX1_holds_204 (tgt := 211) (by decide) (by omega) (by omega) (fun c17 => ?_) (fun c17 => ?_)
    · skip
      refine m_iconst h dX1_holds_211 ?_
      refine m_zret h hR rfl dX1_holds_212 (by omega) ?_
      refine ⟨rfl, bz.iff ?_ (pt_5 (by omega))⟩
      exact bz0 (by omega)
    · skip
      refine m_iconst h dX1_holds_207 ?_
      refine m_goto h dX1_holds_208 (tgt := 212) (by decide) ?_
      refine m_zret h hR rfl dX1_holds_212 (by omega) ?_
      refine ⟨rfl, bz.iff ?_ (pt_5 (by omega))⟩
      exact bz1 (by omega)
  · skip
    refine m_tsIn h dX1_holds_4 (off := 209) (tgt := 213) (by omega) (by omega) (by omega) (by rw [sw1]; rfl) (by decide) ?_
    refine m_aload_n h dX1_holds_213 rfl rfl ?_
    refine m_aload_n h dX1_holds_214 rfl rfl ?_
    refine m_get h fo_X1_15 (by omega) (cE_row G _ hr) rfl dX1_holds_215 ?_
    refine m_iald h (ar_23 G) (by omega) (by omega) dX1_holds_218 ?_
    refine m_aload_n h dX1_holds_219 rfl rfl ?_
    refine m_aload_n h dX1_holds_220 rfl rfl ?_
    refine m_get h fo_X1_18 (by omega) (cE_row G _ hr) rfl dX1_holds_221 ?_
    refine m_iald h (ar_23 G) (by omega) (by omega) dX1_holds_224 ?_
    refine m_aload_n h dX1_holds_225 rfl rfl ?_
    refine m_aload_n h dX1_holds_226 rfl rfl ?_
    refine m_get h fo_X1_21 (by omega) (cE_row G _ hr) rfl dX1_holds_227 ?_
    refine m_iald h (ar_23 G) (by omega) (by omega) dX1_holds_230 ?_
    refine m_min h lk_X1_52 dX1_holds_231 (by decide) (Nat.le_of_ble_eq_true rfl) (by omega) (by omega) ?_
    refine m_icmp_ne h dX1_holds_234 (tgt := 241) (by decide) (by omega) (by omega) (fun c18 => ?_) (fun c18 => ?_)
    · skip
      refine m_iconst h dX1_holds_241 ?_
      refine m_zret h hR rfl dX1_holds_242 (by omega) ?_
      refine ⟨rfl, bz.iff ?_ (pt_6 (by omega))⟩
      exact bz0 (by omega)
    · skip
      refine m_iconst h dX1_holds_237 ?_
      refine m_goto h dX1_holds_238 (tgt := 242) (by decide) ?_
      refine m_zret h hR rfl dX1_holds_242 (by omega) ?_
      refine ⟨rfl, bz.iff ?_ (pt_6 (by omega))⟩
      exact bz1 (by omega)
  · skip
    refine m_tsIn h dX1_holds_4 (off := 239) (tgt := 243) (by omega) (by omega) (by omega) (by rw [sw1]; rfl) (by decide) ?_
    refine m_aload_n h dX1_holds_243 rfl rfl ?_
    refine m_aload_n h dX1_holds_244 rfl rfl ?_
    refine m_get h fo_X1_15 (by omega) (cE_row G _ hr) rfl dX1_holds_245 ?_
    refine m_iald h (ar_23 G) (by omega) (by omega) dX1_holds_248 ?_
    refine m_aload_n h dX1_holds_249 rfl rfl ?_
    refine m_aload_n h dX1_holds_250 rfl rfl ?_
    refine m_get h fo_X1_18 (by omega) (cE_row G _ hr) rfl dX1_holds_251 ?_
    refine m_iald h (ar_23 G) (by omega) (by omega) dX1_holds_254 ?_
    refine m_aload_n h dX1_holds_255 rfl rfl ?_
    refine m_get h fo_X1_24 (by omega) (cE_row G _ hr) rfl dX1_holds_256 ?_
    refine m_iadd h dX1_holds_259 ?_
    refine m_icmp_eq h dX1_holds_260 (tgt := 267) (by decide) (by omega) (by omega) (fun c19 => ?_) (fun c19 => ?_)
    · skip
      refine m_iconst h dX1_holds_267 ?_
      refine m_zret h hR rfl dX1_holds_268 (by omega) ?_
      refine ⟨rfl, bz.iff ?_ (pt_7 (by omega))⟩
      exact bz0 (by omega)
    · skip
      refine m_iconst h dX1_holds_263 ?_
      refine m_goto h dX1_holds_264 (tgt := 268) (by decide) ?_
      refine m_zret h hR rfl dX1_holds_268 (by omega) ?_
      refine ⟨rfl, bz.iff ?_ (pt_7 (by omega))⟩
      exact bz1 (by omega)
  · skip
    refine m_tsIn h dX1_holds_4 (off := 265) (tgt := 269) (by omega) (by omega) (by omega) (by rw [sw1]; rfl) (by decide) ?_
    refine m_aload_n h dX1_holds_269 rfl rfl ?_
    refine m_aload_n h dX1_holds_270 rfl rfl ?_
    refine m_get h fo_X1_15 (by omega) (cE_row G _ hr) rfl dX1_holds_271 ?_
    refine m_iald h (ar_23 G) (by omega) (by omega) dX1_holds_274 ?_
    refine m_iconst h dX1_holds_275 ?_
    refine m_icmp_ne h dX1_holds_276 (tgt := 291) (by decide) (by omega) (by omega) (fun c20 => ?_) (fun c20 => ?_)
    · skip
      refine m_iconst h dX1_holds_291 ?_
      refine m_goto h dX1_holds_292 (tgt := 296) (by decide) ?_
      refine m_zret h hR rfl dX1_holds_296 (by omega) ?_
      refine ⟨rfl, bz.iff ?_ (pt_8 (by omega))⟩
      first | (rw [← es]; exact bz1 (by omega)) | exact bz1 (Or.inl (by assumption))
    · skip
      refine m_aload_n h dX1_holds_279 rfl rfl ?_
      refine m_aload_n h dX1_holds_280 rfl rfl ?_
      refine m_vI h (c_sumOf _ hG _ hr hrw0 hch) moX1_sumOf voX1_sumOf lk_X1_35 dX1_holds_281 (by decide) (by omega) (cE_row G _ hr) rfl rfl (Nat.le_of_ble_eq_true rfl) (fun r21 u22 p23 => ?_)
      obtain ⟨hu9, es⟩ := p23
      rw [hu9]
      have gs := sm_b (g := fun n => v.1 (52 + r) n * v.1 23 n) (B := 1600) (fun x => mulR (a := v.1 (52 + r) x) (b := v.1 23 x) (by have := f0 x; omega) (by have := hch x; omega)) 8
      rw [← es] at gs
      refine m_aload_n h dX1_holds_284 rfl rfl ?_
      refine m_get h fo_X1_24 (by omega) (cE_row G _ hr) rfl dX1_holds_285 ?_
      refine m_icmp_gt h dX1_holds_288 (tgt := 295) (by decide) (by omega) (by omega) (fun c24 => ?_) (fun c24 => ?_)
      · skip
        refine m_iconst h dX1_holds_295 ?_
        refine m_zret h hR rfl dX1_holds_296 (by omega) ?_
        refine ⟨rfl, bz.iff ?_ (pt_8 (by omega))⟩
        first | (rw [← es]; exact bz0 (by omega)) | exact bz1 (Or.inl (by assumption))
      · skip
        refine m_iconst h dX1_holds_291 ?_
        refine m_goto h dX1_holds_292 (tgt := 296) (by decide) ?_
        refine m_zret h hR rfl dX1_holds_296 (by omega) ?_
        refine ⟨rfl, bz.iff ?_ (pt_8 (by omega))⟩
        first | (rw [← es]; exact bz1 (by omega)) | exact bz1 (Or.inl (by assumption))
  · skip
    refine m_tsOut h dX1_holds_4 (tgt := 297) (by omega) (by omega) (by decide) ?_
    refine m_aload_n h dX1_holds_297 rfl rfl ?_
    refine m_aload_n h dX1_holds_298 rfl rfl ?_
    refine m_get h fo_X1_15 (by omega) (cE_row G _ hr) rfl dX1_holds_299 ?_
    refine m_iald h (ar_23 G) (by omega) (by omega) dX1_holds_302 ?_
    refine m_aload_n h dX1_holds_303 rfl rfl ?_
    refine m_aload_n h dX1_holds_304 rfl rfl ?_
    refine m_vI h (c_countOf _ hG _ hr hrw0 hch) moX1_countOf voX1_countOf lk_X1_55 dX1_holds_305 (by decide) (by omega) (cE_row G _ hr) rfl rfl (Nat.le_of_ble_eq_true rfl) (fun r25 u26 p27 => ?_)
    obtain ⟨hu9, es⟩ := p27
    rw [hu9]
    have gs := sm_b (g := fun n => if v.1 (52 + r) n ≠ 0 ∧ v.1 23 n = v.1 (40 + r) 4 then 1 else 0) (B := 1) (fun x => by split <;> omega) 8
    rw [← es] at gs
    refine m_icmp_ne h dX1_holds_308 (tgt := 315) (by decide) (by omega) (by omega) (fun c28 => ?_) (fun c28 => ?_)
    · skip
      refine m_iconst h dX1_holds_315 ?_
      refine m_zret h hR rfl dX1_holds_316 (by omega) ?_
      refine ⟨rfl, bz.iff ?_ (pt_9 (by omega))⟩
      rw [← es]
      exact bz0 (by omega)
    · skip
      refine m_iconst h dX1_holds_311 ?_
      refine m_goto h dX1_holds_312 (tgt := 316) (by decide) ?_
      refine m_zret h hR rfl dX1_holds_316 (by omega) ?_
      refine ⟨rfl, bz.iff ?_ (pt_9 (by omega))⟩
      rw [← es]
      exact bz1 (by omega)
end
section
set_option maxRecDepth 100000 in
set_option maxHeartbeats 4000000 in
theorem c_allows (l : Launch) {G : GT} (hG : gok G) (v : Mem) {r : Nat} (hr : r < 12) (hrw : RwOk v r) {si : Nat} (hsp : isSp si) (hm : SpOk v si) (n : Int) (hn : 0 ≤ n ∧ n < 8) (z : Int) (hz : -32 ≤ z ∧ z ≤ 31) (p q : Int) (hp : p = sm (eoP (v.1 (40 + r) 0) (v.1 (40 + r) 4) (v.1 (52 + r)) (v.1 (si + 1)) (v.1 (si + 2)) n 0) 8) (hq : q = sm (eoP (v.1 (40 + r) 0) (v.1 (40 + r) 4) (v.1 (52 + r)) (v.1 (si + 1)) (v.1 (si + 2)) n 1) 8) (hab : Ab v r n) : CC l G nX1_allows 3 [.ref (G.2.1 (40 + r)), .int (iI n), .int (iI z), .ref (G.2.1 si), .int (iI p), .int (iI q)] v (qI G (fun w u => u = v ∧ bz w (Cn (v.1 (40 + r) 0) (v.1 (40 + r) 1) (v.1 (40 + r) 2) (v.1 (40 + r) 3) (v.1 (40 + r) 4) (v.1 (52 + r)) (up (v.1 (si + 1)) n z) (up (v.1 (si + 2)) n z)))) := by
  refine m_start (lv := [some (.ref (G.2.1 (40 + r))), some (.int (iI n)), some (.int (iI z)), some (.ref (G.2.1 si)), some (.int (iI p)), some (.int (iI q)), none]) hG (by decide +kernel) rfl (Nat.le_of_ble_eq_true rfl) ?_
  intro X hL h hR
  subst hL
  have hrw0 := hrw
  obtain ⟨k0, a0, b0, c0, R0, f0, kA, kB, kC, kD, kE⟩ := hrw
  have mA := hm (v.1 (40 + r) 1)
  have mB := hm (v.1 (40 + r) 2)
  have mC := hm (v.1 (40 + r) 3)
  have fn := f0 n
  have own := mulR (a := v.1 (52 + r) n) (b := z) (by omega) (by omega)
  have ge := eoP_b (k := (v.1 (40 + r) 0)) (R := (v.1 (40 + r) 4)) (n := n) (mb := 0) f0 (fun x => (sp_rg hm x).1) (fun x => (sp_rg hm x).2)
  have gf := eoP_b (k := (v.1 (40 + r) 0)) (R := (v.1 (40 + r) 4)) (n := n) (mb := 1) f0 (fun x => (sp_rg hm x).1) (fun x => (sp_rg hm x).2)
  rw [← hp] at ge
  rw [← hq] at gf
  unfold Ab at hab
  have kE2 : 2 ≤ v.1 (40 + r) 0 → v.1 (40 + r) 0 ≤ 7 → v.1 (52 + r) n = 0 := fun q1 q2 => kE q1 q2 n
  show M X G 7 v 0 [some (.ref (G.2.1 (40 + r))), some (.int (iI n)), some (.int (iI z)), some (.ref (G.2.1 si)), some (.int (iI p)), some (.int (iI q)), none] []
  refine m_aload_n h dX1_allows_0 rfl rfl ?_
  refine m_get h fo_X1_27 (by omega) (cE_row G _ hr) rfl dX1_allows_1 ?_
  refine m_iload_n h dX1_allows_4 rfl rfl ?_
  refine m_iald h (ar_fac G hr) (by omega) (by omega) dX1_allows_5 ?_
  refine m_iload_n h dX1_allows_6 rfl rfl ?_
  refine m_imul h dX1_allows_7 ?_
  refine m_istore h dX1_allows_8 (by decide) rfl ?_
  refine m_aload_n h dX1_allows_10 rfl rfl ?_
  refine m_get h fo_X1_9 (by omega) (cE_row G _ hr) rfl dX1_allows_11 ?_
  rcases (show v.1 (40 + r) 0 = 0 ∨ v.1 (40 + r) 0 = 1 ∨ v.1 (40 + r) 0 = 2 ∨ v.1 (40 + r) 0 = 3 ∨ v.1 (40 + r) 0 = 4 ∨ v.1 (40 + r) 0 = 5 ∨ v.1 (40 + r) 0 = 6 ∨ v.1 (40 + r) 0 = 7 ∨ v.1 (40 + r) 0 = 8 ∨ (v.1 (40 + r) 0 < 0 ∨ 8 < v.1 (40 + r) 0) by omega) with sw1 | sw1 | sw1 | sw1 | sw1 | sw1 | sw1 | sw1 | sw1 | sw1
  · skip
    refine m_tsIn h dX1_allows_14 (off := 50) (tgt := 64) (by omega) (by omega) (by omega) (by rw [sw1]; rfl) (by decide) ?_
    refine m_iload h dX1_allows_64 rfl ?_
    refine m_iload h dX1_allows_66 rfl ?_
    refine m_iadd h dX1_allows_68 ?_
    refine m_aload_n h dX1_allows_69 rfl rfl ?_
    refine m_get h fo_X1_24 (by omega) (cE_row G _ hr) rfl dX1_allows_70 ?_
    refine m_icmp_gt h dX1_allows_73 (tgt := 80) (by decide) (by omega) (by omega) (fun c2 => ?_) (fun c2 => ?_)
    · skip
      refine m_iconst h dX1_allows_80 ?_
      refine m_zret h hR rfl dX1_allows_81 (by omega) ?_
      refine ⟨rfl, bz.iff ?_ (al_0 (by omega) hn)⟩
      rw [← hp]
      exact bz0 (by omega)
    · skip
      refine m_iconst h dX1_allows_76 ?_
      refine m_goto h dX1_allows_77 (tgt := 81) (by decide) ?_
      refine m_zret h hR rfl dX1_allows_81 (by omega) ?_
      refine ⟨rfl, bz.iff ?_ (al_0 (by omega) hn)⟩
      rw [← hp]
      exact bz1 (by omega)
  · skip
    refine m_tsIn h dX1_allows_14 (off := 68) (tgt := 82) (by omega) (by omega) (by omega) (by rw [sw1]; rfl) (by decide) ?_
    refine m_iload h dX1_allows_82 rfl ?_
    refine m_iload h dX1_allows_84 rfl ?_
    refine m_iadd h dX1_allows_86 ?_
    refine m_aload_n h dX1_allows_87 rfl rfl ?_
    refine m_get h fo_X1_24 (by omega) (cE_row G _ hr) rfl dX1_allows_88 ?_
    refine m_icmp_gt h dX1_allows_91 (tgt := 110) (by decide) (by omega) (by omega) (fun c3 => ?_) (fun c3 => ?_)
    · skip
      refine m_iconst h dX1_allows_110 ?_
      refine m_zret h hR rfl dX1_allows_111 (by omega) ?_
      refine ⟨rfl, bz.iff ?_ (al_1 (by omega) hn)⟩
      rw [← hp, ← hq]
      exact bz0 (by omega)
    · skip
      refine m_iload h dX1_allows_94 rfl ?_
      refine m_iload h dX1_allows_96 rfl ?_
      refine m_iadd h dX1_allows_98 ?_
      refine m_aload_n h dX1_allows_99 rfl rfl ?_
      refine m_get h fo_X1_24 (by omega) (cE_row G _ hr) rfl dX1_allows_100 ?_
      refine m_icmp_lt h dX1_allows_103 (tgt := 110) (by decide) (by omega) (by omega) (fun c4 => ?_) (fun c4 => ?_)
      · skip
        refine m_iconst h dX1_allows_110 ?_
        refine m_zret h hR rfl dX1_allows_111 (by omega) ?_
        refine ⟨rfl, bz.iff ?_ (al_1 (by omega) hn)⟩
        rw [← hp, ← hq]
        exact bz0 (by omega)
      · skip
        refine m_iconst h dX1_allows_106 ?_
        refine m_goto h dX1_allows_107 (tgt := 111) (by decide) ?_
        refine m_zret h hR rfl dX1_allows_111 (by omega) ?_
        refine ⟨rfl, bz.iff ?_ (al_1 (by omega) hn)⟩
        rw [← hp, ← hq]
        exact bz1 (by omega)
  · skip
    refine m_tsIn h dX1_allows_14 (off := 98) (tgt := 112) (by omega) (by omega) (by omega) (by rw [sw1]; rfl) (by decide) ?_
    refine m_iload_n h dX1_allows_112 rfl rfl ?_
    refine m_aload_n h dX1_allows_113 rfl rfl ?_
    refine m_get h fo_X1_15 (by omega) (cE_row G _ hr) rfl dX1_allows_114 ?_
    refine m_icmp_ne h dX1_allows_117 (tgt := 129) (by decide) (by omega) (by omega) (fun c5 => ?_) (fun c5 => ?_)
    · skip
      refine m_aload_n h dX1_allows_129 rfl rfl ?_
      refine m_iload_n h dX1_allows_130 rfl rfl ?_
      refine m_iload_n h dX1_allows_131 rfl rfl ?_
      refine m_aload_n h dX1_allows_132 rfl rfl ?_
      refine m_get h fo_X1_18 (by omega) (cE_row G _ hr) rfl dX1_allows_133 ?_
      refine m_icmp_ne h dX1_allows_136 (tgt := 146) (by decide) (by omega) (by omega) (fun c6 => ?_) (fun c6 => ?_)
      · skip
        refine m_aload_n h dX1_allows_146 rfl rfl ?_
        refine m_get h fo_X1_18 (by omega) (cE_row G _ hr) rfl dX1_allows_147 ?_
        refine m_aload_n h dX1_allows_150 rfl rfl ?_
        refine m_vI h (c_allowsMultiplier _ hG _ hr hrw0 hsp hm z hz (v.1 (40 + r) 2) (by omega) (by omega)) moX1_allowsMultiplier voX1_allowsMultiplier lk_X1_62 dX1_allows_151 (by decide) (by omega) (cE_row G _ hr) rfl rfl (Nat.le_of_ble_eq_true rfl) (fun r7 u8 p9 => ?_)
        obtain ⟨hu9, hb⟩ := p9
        rw [hu9]
        have hbi := hb.in
        refine m_zret h hR rfl dX1_allows_154 hbi ?_
        first
          | (refine ⟨rfl, hb.iff (al_2a ?_ ?_ ?_ ?_)⟩ <;> omega)
          | (refine ⟨rfl, hb.iff (al_2b ?_ ?_ ?_ ?_)⟩ <;> omega)
          | (refine ⟨rfl, hb.iff (al_2c ?_ ?_ ?_ ?_)⟩ <;> omega)
      · skip
        refine m_aload_n h dX1_allows_139 rfl rfl ?_
        refine m_get h fo_X1_21 (by omega) (cE_row G _ hr) rfl dX1_allows_140 ?_
        refine m_goto h dX1_allows_143 (tgt := 150) (by decide) ?_
        refine m_aload_n h dX1_allows_150 rfl rfl ?_
        refine m_vI h (c_allowsMultiplier _ hG _ hr hrw0 hsp hm z hz (v.1 (40 + r) 3) (by omega) (by omega)) moX1_allowsMultiplier voX1_allowsMultiplier lk_X1_62 dX1_allows_151 (by decide) (by omega) (cE_row G _ hr) rfl rfl (Nat.le_of_ble_eq_true rfl) (fun r10 u11 p12 => ?_)
        obtain ⟨hu9, hb⟩ := p12
        rw [hu9]
        have hbi := hb.in
        refine m_zret h hR rfl dX1_allows_154 hbi ?_
        first
          | (refine ⟨rfl, hb.iff (al_2a ?_ ?_ ?_ ?_)⟩ <;> omega)
          | (refine ⟨rfl, hb.iff (al_2b ?_ ?_ ?_ ?_)⟩ <;> omega)
          | (refine ⟨rfl, hb.iff (al_2c ?_ ?_ ?_ ?_)⟩ <;> omega)
    · skip
      refine m_aload_n h dX1_allows_120 rfl rfl ?_
      refine m_iload_n h dX1_allows_121 rfl rfl ?_
      refine m_aload_n h dX1_allows_122 rfl rfl ?_
      refine m_vI h (c_allowsProduct _ hG _ hr hrw0 hsp hm z hz (by omega) (by omega)) moX1_allowsProduct voX1_allowsProduct lk_X1_58 dX1_allows_123 (by decide) (by omega) (cE_row G _ hr) rfl rfl (Nat.le_of_ble_eq_true rfl) (fun r13 u14 p15 => ?_)
      obtain ⟨hu9, hb⟩ := p15
      rw [hu9]
      have hbi := hb.in
      refine m_goto h dX1_allows_126 (tgt := 154) (by decide) ?_
      refine m_zret h hR rfl dX1_allows_154 hbi ?_
      first
        | (refine ⟨rfl, hb.iff (al_2a ?_ ?_ ?_ ?_)⟩ <;> omega)
        | (refine ⟨rfl, hb.iff (al_2b ?_ ?_ ?_ ?_)⟩ <;> omega)
        | (refine ⟨rfl, hb.iff (al_2c ?_ ?_ ?_ ?_)⟩ <;> omega)
  · skip
    refine m_tsIn h dX1_allows_14 (off := 141) (tgt := 155) (by omega) (by omega) (by omega) (by rw [sw1]; rfl) (by decide) ?_
    refine m_iload_n h dX1_allows_155 rfl rfl ?_
    refine m_aload_n h dX1_allows_156 rfl rfl ?_
    refine m_get h fo_X1_15 (by omega) (cE_row G _ hr) rfl dX1_allows_157 ?_
    refine m_icmp_ne h dX1_allows_160 (tgt := 172) (by decide) (by omega) (by omega) (fun c16 => ?_) (fun c16 => ?_)
    · skip
      refine m_iload_n h dX1_allows_172 rfl rfl ?_
      refine m_aload_n h dX1_allows_173 rfl rfl ?_
      refine m_get h fo_X1_18 (by omega) (cE_row G _ hr) rfl dX1_allows_174 ?_
      refine m_icmp_ne h dX1_allows_177 (tgt := 189) (by decide) (by omega) (by omega) (fun c17 => ?_) (fun c17 => ?_)
      · skip
        refine m_aload_n h dX1_allows_189 rfl rfl ?_
        refine m_iload_n h dX1_allows_190 rfl rfl ?_
        refine m_aload_n h dX1_allows_191 rfl rfl ?_
        refine m_vI h (c_allowsDivisor _ hG _ hr hrw0 hsp hm z hz (by omega) (by omega)) moX1_allowsDivisor voX1_allowsDivisor lk_X1_72 dX1_allows_192 (by decide) (by omega) (cE_row G _ hr) rfl rfl (Nat.le_of_ble_eq_true rfl) (fun r18 u19 p20 => ?_)
        obtain ⟨hu9, hb⟩ := p20
        rw [hu9]
        have hbi := hb.in
        refine m_zret h hR rfl dX1_allows_195 hbi ?_
        first
          | (refine ⟨rfl, hb.iff (al_3a ?_ ?_ ?_ ?_)⟩ <;> omega)
          | (refine ⟨rfl, hb.iff (al_3b ?_ ?_ ?_ ?_)⟩ <;> omega)
          | (refine ⟨rfl, hb.iff (al_3c ?_ ?_ ?_ ?_)⟩ <;> omega)
      · skip
        refine m_aload_n h dX1_allows_180 rfl rfl ?_
        refine m_iload_n h dX1_allows_181 rfl rfl ?_
        refine m_aload_n h dX1_allows_182 rfl rfl ?_
        refine m_vI h (c_allowsDividend _ hG _ hr hrw0 hsp hm z hz (by omega) (by omega)) moX1_allowsDividend voX1_allowsDividend lk_X1_69 dX1_allows_183 (by decide) (by omega) (cE_row G _ hr) rfl rfl (Nat.le_of_ble_eq_true rfl) (fun r21 u22 p23 => ?_)
        obtain ⟨hu9, hb⟩ := p23
        rw [hu9]
        have hbi := hb.in
        refine m_goto h dX1_allows_186 (tgt := 195) (by decide) ?_
        refine m_zret h hR rfl dX1_allows_195 hbi ?_
        first
          | (refine ⟨rfl, hb.iff (al_3a ?_ ?_ ?_ ?_)⟩ <;> omega)
          | (refine ⟨rfl, hb.iff (al_3b ?_ ?_ ?_ ?_)⟩ <;> omega)
          | (refine ⟨rfl, hb.iff (al_3c ?_ ?_ ?_ ?_)⟩ <;> omega)
    · skip
      refine m_aload_n h dX1_allows_163 rfl rfl ?_
      refine m_iload_n h dX1_allows_164 rfl rfl ?_
      refine m_aload_n h dX1_allows_165 rfl rfl ?_
      refine m_vI h (c_allowsQuotient _ hG _ hr hrw0 hsp hm z hz (by omega) (by omega)) moX1_allowsQuotient voX1_allowsQuotient lk_X1_66 dX1_allows_166 (by decide) (by omega) (cE_row G _ hr) rfl rfl (Nat.le_of_ble_eq_true rfl) (fun r24 u25 p26 => ?_)
      obtain ⟨hu9, hb⟩ := p26
      rw [hu9]
      have hbi := hb.in
      refine m_goto h dX1_allows_169 (tgt := 195) (by decide) ?_
      refine m_zret h hR rfl dX1_allows_195 hbi ?_
      first
        | (refine ⟨rfl, hb.iff (al_3a ?_ ?_ ?_ ?_)⟩ <;> omega)
        | (refine ⟨rfl, hb.iff (al_3b ?_ ?_ ?_ ?_)⟩ <;> omega)
        | (refine ⟨rfl, hb.iff (al_3c ?_ ?_ ?_ ?_)⟩ <;> omega)
  · skip
    refine m_tsIn h dX1_allows_14 (off := 182) (tgt := 196) (by omega) (by omega) (by omega) (by rw [sw1]; rfl) (by decide) ?_
    refine m_iload_n h dX1_allows_196 rfl rfl ?_
    refine m_aload_n h dX1_allows_197 rfl rfl ?_
    refine m_get h fo_X1_15 (by omega) (cE_row G _ hr) rfl dX1_allows_198 ?_
    refine m_icmp_ne h dX1_allows_201 (tgt := 241) (by decide) (by omega) (by omega) (fun c27 => ?_) (fun c27 => ?_)
    · skip
      refine m_aload_n h dX1_allows_241 rfl rfl ?_
      refine m_aload_n h dX1_allows_242 rfl rfl ?_
      refine m_get h fo_X1_15 (by omega) (cE_row G _ hr) rfl dX1_allows_243 ?_
      refine m_iload_n h dX1_allows_246 rfl rfl ?_
      refine m_abs h lk_X1_45 dX1_allows_247 (by decide) (Nat.le_of_ble_eq_true rfl) (by omega) ?_
      generalize hdv : (if 0 ≤ z then z else -z) = dv
      have hd2 : (0 ≤ z ∧ dv = z) ∨ (z < 0 ∧ dv = -z) := by
        split at hdv <;> omega
      refine m_vI h (c_cov _ hG hsp _ (v.1 (40 + r) 1) dv (by omega) (by omega) hm) moX5_covers voX5_covers lk_X1_75 dX1_allows_250 (by decide) (isSp_lt hsp) (cE_sp hsp) rfl rfl (Nat.le_of_ble_eq_true rfl) (fun r28 u29 p30 => ?_)
      obtain ⟨hu9, hb⟩ := p30
      rw [hu9]
      have hbi := hb.in
      refine m_zret h hR rfl dX1_allows_253 (by omega) ?_
      exact ⟨rfl, hb.iff (al_4b (by omega) (by omega) (by omega) hd2)⟩
    · skip
      refine m_iload_n h dX1_allows_204 rfl rfl ?_
      refine m_if_lt h dX1_allows_205 (tgt := 237) (by decide) (by omega) (fun c31 => ?_) (fun c31 => ?_)
      · skip
        refine m_iconst h dX1_allows_237 ?_
        refine m_goto h dX1_allows_238 (tgt := 253) (by decide) ?_
        refine m_zret h hR rfl dX1_allows_253 (by omega) ?_
        refine ⟨rfl, bz.iff ?_ (al_4a (by omega) (by omega) (by omega))⟩
        first | (exact bz0 ⟨by omega, Or.inl (hb.yes (by omega))⟩) | (exact bz0 ⟨by omega, Or.inr (hb2.yes (by omega))⟩) | (exact bz0 (fun q => by omega)) | (exact bz0 (fun q => q.2.elim (fun q => hb.no (by omega) q) (fun q => hb2.no (by omega) q)))
      · skip
        refine m_aload_n h dX1_allows_208 rfl rfl ?_
        refine m_aload_n h dX1_allows_209 rfl rfl ?_
        refine m_get h fo_X1_18 (by omega) (cE_row G _ hr) rfl dX1_allows_210 ?_
        refine m_iload_n h dX1_allows_213 rfl rfl ?_
        refine m_vI h (c_cov _ hG hsp _ (v.1 (40 + r) 2) z (by omega) (by omega) hm) moX5_covers voX5_covers lk_X1_75 dX1_allows_214 (by decide) (isSp_lt hsp) (cE_sp hsp) rfl rfl (Nat.le_of_ble_eq_true rfl) (fun r32 u33 p34 => ?_)
        obtain ⟨hu9, hb⟩ := p34
        rw [hu9]
        have hbi := hb.in
        refine m_if_ne h dX1_allows_217 (tgt := 233) (by decide) (by omega) (fun c35 => ?_) (fun c35 => ?_)
        · skip
          refine m_iconst h dX1_allows_233 ?_
          refine m_goto h dX1_allows_234 (tgt := 253) (by decide) ?_
          refine m_zret h hR rfl dX1_allows_253 (by omega) ?_
          refine ⟨rfl, bz.iff ?_ (al_4a (by omega) (by omega) (by omega))⟩
          first | (exact bz1 ⟨by omega, Or.inl (hb.yes (by omega))⟩) | (exact bz1 ⟨by omega, Or.inr (hb2.yes (by omega))⟩) | (exact bz1 (fun q => by omega)) | (exact bz1 (fun q => q.2.elim (fun q => hb.no (by omega) q) (fun q => hb2.no (by omega) q)))
        · skip
          refine m_aload_n h dX1_allows_220 rfl rfl ?_
          refine m_aload_n h dX1_allows_221 rfl rfl ?_
          refine m_get h fo_X1_18 (by omega) (cE_row G _ hr) rfl dX1_allows_222 ?_
          refine m_iload_n h dX1_allows_225 rfl rfl ?_
          refine m_ineg h dX1_allows_226 ?_
          refine m_vI h (c_cov _ hG hsp _ (v.1 (40 + r) 2) (-z) (by omega) (by omega) hm) moX5_covers voX5_covers lk_X1_75 dX1_allows_227 (by decide) (isSp_lt hsp) (cE_sp hsp) rfl rfl (Nat.le_of_ble_eq_true rfl) (fun r36 u37 p38 => ?_)
          obtain ⟨hu9, hb2⟩ := p38
          rw [hu9]
          have hbi2 := hb2.in
          refine m_if_eq h dX1_allows_230 (tgt := 237) (by decide) (by omega) (fun c39 => ?_) (fun c39 => ?_)
          · skip
            refine m_iconst h dX1_allows_237 ?_
            refine m_goto h dX1_allows_238 (tgt := 253) (by decide) ?_
            refine m_zret h hR rfl dX1_allows_253 (by omega) ?_
            refine ⟨rfl, bz.iff ?_ (al_4a (by omega) (by omega) (by omega))⟩
            first | (exact bz0 ⟨by omega, Or.inl (hb.yes (by omega))⟩) | (exact bz0 ⟨by omega, Or.inr (hb2.yes (by omega))⟩) | (exact bz0 (fun q => by omega)) | (exact bz0 (fun q => q.2.elim (fun q => hb.no (by omega) q) (fun q => hb2.no (by omega) q)))
          · skip
            refine m_iconst h dX1_allows_233 ?_
            refine m_goto h dX1_allows_234 (tgt := 253) (by decide) ?_
            refine m_zret h hR rfl dX1_allows_253 (by omega) ?_
            refine ⟨rfl, bz.iff ?_ (al_4a (by omega) (by omega) (by omega))⟩
            first | (exact bz1 ⟨by omega, Or.inl (hb.yes (by omega))⟩) | (exact bz1 ⟨by omega, Or.inr (hb2.yes (by omega))⟩) | (exact bz1 (fun q => by omega)) | (exact bz1 (fun q => q.2.elim (fun q => hb.no (by omega) q) (fun q => hb2.no (by omega) q)))
  · skip
    refine m_tsIn h dX1_allows_14 (off := 240) (tgt := 254) (by omega) (by omega) (by omega) (by rw [sw1]; rfl) (by decide) ?_
    refine m_iload_n h dX1_allows_254 rfl rfl ?_
    refine m_aload_n h dX1_allows_255 rfl rfl ?_
    refine m_get h fo_X1_15 (by omega) (cE_row G _ hr) rfl dX1_allows_256 ?_
    refine m_icmp_ne h dX1_allows_259 (tgt := 271) (by decide) (by omega) (by omega) (fun c40 => ?_) (fun c40 => ?_)
    · skip
      refine m_aload_n h dX1_allows_271 rfl rfl ?_
      refine m_iload_n h dX1_allows_272 rfl rfl ?_
      refine m_iload_n h dX1_allows_273 rfl rfl ?_
      refine m_aload_n h dX1_allows_274 rfl rfl ?_
      refine m_get h fo_X1_18 (by omega) (cE_row G _ hr) rfl dX1_allows_275 ?_
      refine m_icmp_ne h dX1_allows_278 (tgt := 288) (by decide) (by omega) (by omega) (fun c41 => ?_) (fun c41 => ?_)
      · skip
        refine m_aload_n h dX1_allows_288 rfl rfl ?_
        refine m_get h fo_X1_18 (by omega) (cE_row G _ hr) rfl dX1_allows_289 ?_
        refine m_aload_n h dX1_allows_292 rfl rfl ?_
        refine m_vI h (c_allowsBesideGreatest _ hG _ hr hrw0 hsp hm z hz (v.1 (40 + r) 2) (by omega) (by omega)) moX1_allowsBesideGreatest voX1_allowsBesideGreatest lk_X1_84 dX1_allows_293 (by decide) (by omega) (cE_row G _ hr) rfl rfl (Nat.le_of_ble_eq_true rfl) (fun r42 u43 p44 => ?_)
        obtain ⟨hu9, hb⟩ := p44
        rw [hu9]
        have hbi := hb.in
        refine m_zret h hR rfl dX1_allows_296 hbi ?_
        first
          | (refine ⟨rfl, hb.iff (al_5a ?_ ?_ ?_ ?_ ?_ ?_)⟩ <;> omega)
          | (refine ⟨rfl, hb.iff (al_5b ?_ ?_ ?_ ?_ ?_ ?_)⟩ <;> omega)
          | (refine ⟨rfl, hb.iff (al_5c ?_ ?_ ?_ ?_ ?_ ?_)⟩ <;> omega)
      · skip
        refine m_aload_n h dX1_allows_281 rfl rfl ?_
        refine m_get h fo_X1_21 (by omega) (cE_row G _ hr) rfl dX1_allows_282 ?_
        refine m_goto h dX1_allows_285 (tgt := 292) (by decide) ?_
        refine m_aload_n h dX1_allows_292 rfl rfl ?_
        refine m_vI h (c_allowsBesideGreatest _ hG _ hr hrw0 hsp hm z hz (v.1 (40 + r) 3) (by omega) (by omega)) moX1_allowsBesideGreatest voX1_allowsBesideGreatest lk_X1_84 dX1_allows_293 (by decide) (by omega) (cE_row G _ hr) rfl rfl (Nat.le_of_ble_eq_true rfl) (fun r45 u46 p47 => ?_)
        obtain ⟨hu9, hb⟩ := p47
        rw [hu9]
        have hbi := hb.in
        refine m_zret h hR rfl dX1_allows_296 hbi ?_
        first
          | (refine ⟨rfl, hb.iff (al_5a ?_ ?_ ?_ ?_ ?_ ?_)⟩ <;> omega)
          | (refine ⟨rfl, hb.iff (al_5b ?_ ?_ ?_ ?_ ?_ ?_)⟩ <;> omega)
          | (refine ⟨rfl, hb.iff (al_5c ?_ ?_ ?_ ?_ ?_ ?_)⟩ <;> omega)
    · skip
      refine m_aload_n h dX1_allows_262 rfl rfl ?_
      refine m_iload_n h dX1_allows_263 rfl rfl ?_
      refine m_aload_n h dX1_allows_264 rfl rfl ?_
      refine m_vI h (c_allowsGreatest _ hG _ hr hrw0 hsp hm z hz (by omega) (by omega)) moX1_allowsGreatest voX1_allowsGreatest lk_X1_81 dX1_allows_265 (by decide) (by omega) (cE_row G _ hr) rfl rfl (Nat.le_of_ble_eq_true rfl) (fun r48 u49 p50 => ?_)
      obtain ⟨hu9, hb⟩ := p50
      rw [hu9]
      have hbi := hb.in
      refine m_goto h dX1_allows_268 (tgt := 296) (by decide) ?_
      refine m_zret h hR rfl dX1_allows_296 hbi ?_
      first
        | (refine ⟨rfl, hb.iff (al_5a ?_ ?_ ?_ ?_ ?_ ?_)⟩ <;> omega)
        | (refine ⟨rfl, hb.iff (al_5b ?_ ?_ ?_ ?_ ?_ ?_)⟩ <;> omega)
        | (refine ⟨rfl, hb.iff (al_5c ?_ ?_ ?_ ?_ ?_ ?_)⟩ <;> omega)
  · skip
    refine m_tsIn h dX1_allows_14 (off := 283) (tgt := 297) (by omega) (by omega) (by omega) (by rw [sw1]; rfl) (by decide) ?_
    refine m_iload_n h dX1_allows_297 rfl rfl ?_
    refine m_aload_n h dX1_allows_298 rfl rfl ?_
    refine m_get h fo_X1_15 (by omega) (cE_row G _ hr) rfl dX1_allows_299 ?_
    refine m_icmp_ne h dX1_allows_302 (tgt := 314) (by decide) (by omega) (by omega) (fun c51 => ?_) (fun c51 => ?_)
    · skip
      refine m_aload_n h dX1_allows_314 rfl rfl ?_
      refine m_iload_n h dX1_allows_315 rfl rfl ?_
      refine m_iload_n h dX1_allows_316 rfl rfl ?_
      refine m_aload_n h dX1_allows_317 rfl rfl ?_
      refine m_get h fo_X1_18 (by omega) (cE_row G _ hr) rfl dX1_allows_318 ?_
      refine m_icmp_ne h dX1_allows_321 (tgt := 331) (by decide) (by omega) (by omega) (fun c52 => ?_) (fun c52 => ?_)
      · skip
        refine m_aload_n h dX1_allows_331 rfl rfl ?_
        refine m_get h fo_X1_18 (by omega) (cE_row G _ hr) rfl dX1_allows_332 ?_
        refine m_aload_n h dX1_allows_335 rfl rfl ?_
        refine m_vI h (c_allowsBesideLeast _ hG _ hr hrw0 hsp hm z hz (v.1 (40 + r) 2) (by omega) (by omega)) moX1_allowsBesideLeast voX1_allowsBesideLeast lk_X1_90 dX1_allows_336 (by decide) (by omega) (cE_row G _ hr) rfl rfl (Nat.le_of_ble_eq_true rfl) (fun r53 u54 p55 => ?_)
        obtain ⟨hu9, hb⟩ := p55
        rw [hu9]
        have hbi := hb.in
        refine m_zret h hR rfl dX1_allows_339 hbi ?_
        first
          | (refine ⟨rfl, hb.iff (al_6a ?_ ?_ ?_ ?_ ?_ ?_)⟩ <;> omega)
          | (refine ⟨rfl, hb.iff (al_6b ?_ ?_ ?_ ?_ ?_ ?_)⟩ <;> omega)
          | (refine ⟨rfl, hb.iff (al_6c ?_ ?_ ?_ ?_ ?_ ?_)⟩ <;> omega)
      · skip
        refine m_aload_n h dX1_allows_324 rfl rfl ?_
        refine m_get h fo_X1_21 (by omega) (cE_row G _ hr) rfl dX1_allows_325 ?_
        refine m_goto h dX1_allows_328 (tgt := 335) (by decide) ?_
        refine m_aload_n h dX1_allows_335 rfl rfl ?_
        refine m_vI h (c_allowsBesideLeast _ hG _ hr hrw0 hsp hm z hz (v.1 (40 + r) 3) (by omega) (by omega)) moX1_allowsBesideLeast voX1_allowsBesideLeast lk_X1_90 dX1_allows_336 (by decide) (by omega) (cE_row G _ hr) rfl rfl (Nat.le_of_ble_eq_true rfl) (fun r56 u57 p58 => ?_)
        obtain ⟨hu9, hb⟩ := p58
        rw [hu9]
        have hbi := hb.in
        refine m_zret h hR rfl dX1_allows_339 hbi ?_
        first
          | (refine ⟨rfl, hb.iff (al_6a ?_ ?_ ?_ ?_ ?_ ?_)⟩ <;> omega)
          | (refine ⟨rfl, hb.iff (al_6b ?_ ?_ ?_ ?_ ?_ ?_)⟩ <;> omega)
          | (refine ⟨rfl, hb.iff (al_6c ?_ ?_ ?_ ?_ ?_ ?_)⟩ <;> omega)
    · skip
      refine m_aload_n h dX1_allows_305 rfl rfl ?_
      refine m_iload_n h dX1_allows_306 rfl rfl ?_
      refine m_aload_n h dX1_allows_307 rfl rfl ?_
      refine m_vI h (c_allowsLeast _ hG _ hr hrw0 hsp hm z hz (by omega) (by omega)) moX1_allowsLeast voX1_allowsLeast lk_X1_87 dX1_allows_308 (by decide) (by omega) (cE_row G _ hr) rfl rfl (Nat.le_of_ble_eq_true rfl) (fun r59 u60 p61 => ?_)
      obtain ⟨hu9, hb⟩ := p61
      rw [hu9]
      have hbi := hb.in
      refine m_goto h dX1_allows_311 (tgt := 339) (by decide) ?_
      refine m_zret h hR rfl dX1_allows_339 hbi ?_
      first
        | (refine ⟨rfl, hb.iff (al_6a ?_ ?_ ?_ ?_ ?_ ?_)⟩ <;> omega)
        | (refine ⟨rfl, hb.iff (al_6b ?_ ?_ ?_ ?_ ?_ ?_)⟩ <;> omega)
        | (refine ⟨rfl, hb.iff (al_6c ?_ ?_ ?_ ?_ ?_ ?_)⟩ <;> omega)
  · skip
    refine m_tsIn h dX1_allows_14 (off := 326) (tgt := 340) (by omega) (by omega) (by omega) (by rw [sw1]; rfl) (by decide) ?_
    refine m_iload_n h dX1_allows_340 rfl rfl ?_
    refine m_aload_n h dX1_allows_341 rfl rfl ?_
    refine m_get h fo_X1_15 (by omega) (cE_row G _ hr) rfl dX1_allows_342 ?_
    refine m_icmp_ne h dX1_allows_345 (tgt := 373) (by decide) (by omega) (by omega) (fun c62 => ?_) (fun c62 => ?_)
    · skip
      refine m_aload_n h dX1_allows_373 rfl rfl ?_
      refine m_aload_n h dX1_allows_374 rfl rfl ?_
      refine m_get h fo_X1_15 (by omega) (cE_row G _ hr) rfl dX1_allows_375 ?_
      refine m_iload_n h dX1_allows_378 rfl rfl ?_
      refine m_aload_n h dX1_allows_379 rfl rfl ?_
      refine m_get h fo_X1_24 (by omega) (cE_row G _ hr) rfl dX1_allows_380 ?_
      refine m_iadd h dX1_allows_383 ?_
      refine m_vI h (c_onl _ hG hsp _ (v.1 (40 + r) 1) (z + (v.1 (40 + r) 4)) (by omega) (by omega) hm) moX5_isOnly voX5_isOnly lk_X1_93 dX1_allows_384 (by decide) (isSp_lt hsp) (cE_sp hsp) rfl rfl (Nat.le_of_ble_eq_true rfl) (fun r63 u64 p65 => ?_)
      obtain ⟨hu9, hb⟩ := p65
      rw [hu9]
      have hbi := hb.in
      refine m_if_ne h dX1_allows_387 (tgt := 394) (by decide) (by omega) (fun c66 => ?_) (fun c66 => ?_)
      · skip
        refine m_iconst h dX1_allows_394 ?_
        refine m_zret h hR rfl dX1_allows_395 (by omega) ?_
        first
          | (refine ⟨rfl, bz.iff ?_ (al_7a ?_ ?_ ?_ ?_)⟩ <;> first | omega | exact bz1 (hb.no (by omega)) | exact bz0 (fun q => q (hb.yes (by omega))))
          | (refine ⟨rfl, bz.iff ?_ (al_7b ?_ ?_ ?_ ?_)⟩ <;> first | omega | exact bz1 (hb.no (by omega)) | exact bz0 (fun q => q (hb.yes (by omega))))
      · skip
        refine m_iconst h dX1_allows_390 ?_
        refine m_goto h dX1_allows_391 (tgt := 395) (by decide) ?_
        refine m_zret h hR rfl dX1_allows_395 (by omega) ?_
        first
          | (refine ⟨rfl, bz.iff ?_ (al_7a ?_ ?_ ?_ ?_)⟩ <;> first | omega | exact bz1 (hb.no (by omega)) | exact bz0 (fun q => q (hb.yes (by omega))))
          | (refine ⟨rfl, bz.iff ?_ (al_7b ?_ ?_ ?_ ?_)⟩ <;> first | omega | exact bz1 (hb.no (by omega)) | exact bz0 (fun q => q (hb.yes (by omega))))
    · skip
      refine m_aload_n h dX1_allows_348 rfl rfl ?_
      refine m_aload_n h dX1_allows_349 rfl rfl ?_
      refine m_get h fo_X1_18 (by omega) (cE_row G _ hr) rfl dX1_allows_350 ?_
      refine m_iload_n h dX1_allows_353 rfl rfl ?_
      refine m_aload_n h dX1_allows_354 rfl rfl ?_
      refine m_get h fo_X1_24 (by omega) (cE_row G _ hr) rfl dX1_allows_355 ?_
      refine m_isub h dX1_allows_358 ?_
      refine m_vI h (c_onl _ hG hsp _ (v.1 (40 + r) 2) (z - (v.1 (40 + r) 4)) (by omega) (by omega) hm) moX5_isOnly voX5_isOnly lk_X1_93 dX1_allows_359 (by decide) (isSp_lt hsp) (cE_sp hsp) rfl rfl (Nat.le_of_ble_eq_true rfl) (fun r67 u68 p69 => ?_)
      obtain ⟨hu9, hb⟩ := p69
      rw [hu9]
      have hbi := hb.in
      refine m_if_ne h dX1_allows_362 (tgt := 369) (by decide) (by omega) (fun c70 => ?_) (fun c70 => ?_)
      · skip
        refine m_iconst h dX1_allows_369 ?_
        refine m_goto h dX1_allows_370 (tgt := 395) (by decide) ?_
        refine m_zret h hR rfl dX1_allows_395 (by omega) ?_
        first
          | (refine ⟨rfl, bz.iff ?_ (al_7a ?_ ?_ ?_ ?_)⟩ <;> first | omega | exact bz1 (hb.no (by omega)) | exact bz0 (fun q => q (hb.yes (by omega))))
          | (refine ⟨rfl, bz.iff ?_ (al_7b ?_ ?_ ?_ ?_)⟩ <;> first | omega | exact bz1 (hb.no (by omega)) | exact bz0 (fun q => q (hb.yes (by omega))))
      · skip
        refine m_iconst h dX1_allows_365 ?_
        refine m_goto h dX1_allows_366 (tgt := 395) (by decide) ?_
        refine m_zret h hR rfl dX1_allows_395 (by omega) ?_
        first
          | (refine ⟨rfl, bz.iff ?_ (al_7a ?_ ?_ ?_ ?_)⟩ <;> first | omega | exact bz1 (hb.no (by omega)) | exact bz0 (fun q => q (hb.yes (by omega))))
          | (refine ⟨rfl, bz.iff ?_ (al_7b ?_ ?_ ?_ ?_)⟩ <;> first | omega | exact bz1 (hb.no (by omega)) | exact bz0 (fun q => q (hb.yes (by omega))))
  · skip
    refine m_tsIn h dX1_allows_14 (off := 382) (tgt := 396) (by omega) (by omega) (by omega) (by rw [sw1]; rfl) (by decide) ?_
    refine m_iload_n h dX1_allows_396 rfl rfl ?_
    refine m_aload_n h dX1_allows_397 rfl rfl ?_
    refine m_get h fo_X1_15 (by omega) (cE_row G _ hr) rfl dX1_allows_398 ?_
    refine m_icmp_ne h dX1_allows_401 (tgt := 412) (by decide) (by omega) (by omega) (fun c71 => ?_) (fun c71 => ?_)
    · skip
      refine m_aload_n h dX1_allows_412 rfl rfl ?_
      refine m_aload_n h dX1_allows_413 rfl rfl ?_
      refine m_get h fo_X1_15 (by omega) (cE_row G _ hr) rfl dX1_allows_414 ?_
      refine m_iconst h dX1_allows_417 ?_
      refine m_vI h (c_onl _ hG hsp _ (v.1 (40 + r) 1) 1 (by omega) (by omega) hm) moX5_isOnly voX5_isOnly lk_X1_93 dX1_allows_418 (by decide) (isSp_lt hsp) (cE_sp hsp) rfl rfl (Nat.le_of_ble_eq_true rfl) (fun r72 u73 p74 => ?_)
      obtain ⟨hu9, hb⟩ := p74
      rw [hu9]
      have hbi := hb.in
      refine m_if_eq h dX1_allows_421 (tgt := 436) (by decide) (by omega) (fun c75 => ?_) (fun c75 => ?_)
      · skip
        refine m_iconst h dX1_allows_436 ?_
        refine m_goto h dX1_allows_437 (tgt := 441) (by decide) ?_
        refine m_zret h hR rfl dX1_allows_441 (by omega) ?_
        refine ⟨rfl, bz.iff ?_ (al_8 (by omega) hn)⟩
        rw [← hp]
        first | (exact bz1 (by omega)) | (have q9 := hb.yes (by omega); exact bz1 (by omega)) | (have q9 := hb.no (by omega); exact bz1 (by omega))
      · skip
        refine m_iload h dX1_allows_424 rfl ?_
        refine m_iload h dX1_allows_426 rfl ?_
        refine m_iadd h dX1_allows_428 ?_
        refine m_aload_n h dX1_allows_429 rfl rfl ?_
        refine m_get h fo_X1_24 (by omega) (cE_row G _ hr) rfl dX1_allows_430 ?_
        refine m_icmp_gt h dX1_allows_433 (tgt := 440) (by decide) (by omega) (by omega) (fun c76 => ?_) (fun c76 => ?_)
        · skip
          refine m_iconst h dX1_allows_440 ?_
          refine m_zret h hR rfl dX1_allows_441 (by omega) ?_
          refine ⟨rfl, bz.iff ?_ (al_8 (by omega) hn)⟩
          rw [← hp]
          first | (exact bz0 (by omega)) | (have q9 := hb.yes (by omega); exact bz0 (by omega)) | (have q9 := hb.no (by omega); exact bz0 (by omega))
        · skip
          refine m_iconst h dX1_allows_436 ?_
          refine m_goto h dX1_allows_437 (tgt := 441) (by decide) ?_
          refine m_zret h hR rfl dX1_allows_441 (by omega) ?_
          refine ⟨rfl, bz.iff ?_ (al_8 (by omega) hn)⟩
          rw [← hp]
          first | (exact bz1 (by omega)) | (have q9 := hb.yes (by omega); exact bz1 (by omega)) | (have q9 := hb.no (by omega); exact bz1 (by omega))
    · skip
      refine m_iload_n h dX1_allows_404 rfl rfl ?_
      refine m_iconst h dX1_allows_405 ?_
      refine m_icmp_eq h dX1_allows_406 (tgt := 424) (by decide) (by omega) (by omega) (fun c77 => ?_) (fun c77 => ?_)
      · skip
        refine m_iload h dX1_allows_424 rfl ?_
        refine m_iload h dX1_allows_426 rfl ?_
        refine m_iadd h dX1_allows_428 ?_
        refine m_aload_n h dX1_allows_429 rfl rfl ?_
        refine m_get h fo_X1_24 (by omega) (cE_row G _ hr) rfl dX1_allows_430 ?_
        refine m_icmp_gt h dX1_allows_433 (tgt := 440) (by decide) (by omega) (by omega) (fun c78 => ?_) (fun c78 => ?_)
        · skip
          refine m_iconst h dX1_allows_440 ?_
          refine m_zret h hR rfl dX1_allows_441 (by omega) ?_
          refine ⟨rfl, bz.iff ?_ (al_8 (by omega) hn)⟩
          rw [← hp]
          first | (exact bz0 (by omega)) | (have q9 := hb.yes (by omega); exact bz0 (by omega)) | (have q9 := hb.no (by omega); exact bz0 (by omega))
        · skip
          refine m_iconst h dX1_allows_436 ?_
          refine m_goto h dX1_allows_437 (tgt := 441) (by decide) ?_
          refine m_zret h hR rfl dX1_allows_441 (by omega) ?_
          refine ⟨rfl, bz.iff ?_ (al_8 (by omega) hn)⟩
          rw [← hp]
          first | (exact bz1 (by omega)) | (have q9 := hb.yes (by omega); exact bz1 (by omega)) | (have q9 := hb.no (by omega); exact bz1 (by omega))
      · skip
        refine m_goto h dX1_allows_409 (tgt := 436) (by decide) ?_
        refine m_iconst h dX1_allows_436 ?_
        refine m_goto h dX1_allows_437 (tgt := 441) (by decide) ?_
        refine m_zret h hR rfl dX1_allows_441 (by omega) ?_
        refine ⟨rfl, bz.iff ?_ (al_8 (by omega) hn)⟩
        rw [← hp]
        first | (exact bz1 (by omega)) | (have q9 := hb.yes (by omega); exact bz1 (by omega)) | (have q9 := hb.no (by omega); exact bz1 (by omega))
  · skip
    refine m_tsOut h dX1_allows_14 (tgt := 442) (by omega) (by omega) (by decide) ?_
    have hc9 : (0 ≤ p ∧ p ≤ q) ∧ q ≤ 8 := by
      have h9 := eoP_c (R := (v.1 (40 + r) 4)) (f := (v.1 (52 + r))) (lo := (v.1 (si + 1))) (hi := (v.1 (si + 2))) (n := n) (fun x => (hm x).2.1) 8
      rw [show v.1 (40 + r) 0 = 9 by omega] at hp hq
      rw [← hp, ← hq] at h9
      omega
    refine m_aload_n h dX1_allows_442 rfl rfl ?_
    refine m_iload_n h dX1_allows_443 rfl rfl ?_
    refine m_iload_n h dX1_allows_444 rfl rfl ?_
    refine m_aload_n h dX1_allows_445 rfl rfl ?_
    refine m_iload h dX1_allows_446 rfl ?_
    refine m_iload h dX1_allows_448 rfl ?_
    refine m_vI h (c_allowsInCount _ hG _ hr hrw0 hsp hm n hn z hz p q hc9.1 hc9.2 (by omega)) moX1_allowsInCount voX1_allowsInCount lk_X1_96 dX1_allows_450 (by decide) (by omega) (cE_row G _ hr) rfl rfl (Nat.le_of_ble_eq_true rfl) (fun r79 u80 p81 => ?_)
    obtain ⟨hu9, hb⟩ := p81
    rw [hu9]
    have hbi := hb.in
    refine m_zret h hR rfl dX1_allows_453 hbi ?_
    refine ⟨rfl, bz.iff ?_ (al_9 (by omega) hn (by omega) (by omega))⟩
    rw [← hp, ← hq]
    exact hb
end
