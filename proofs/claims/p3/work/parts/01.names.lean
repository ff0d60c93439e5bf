-- ===== PART A: goes FIRST, ahead of the names: the tables' words, and 'selects' of the private methods out of them =====
/-- a private method of a class that the tables say can be made, by its rows of tables_1 -/
def lw_okq (q : MethodName × Nat) : Prop := (q.1.cls ≠ "java/lang/invoke/MethodHandle" ∧ q.1.cls ≠ "java/lang/invoke/VarHandle") ∧ Cond.instantiable q.1.cls q.2 ∈ tables_1 ∧ Cond.privateMethod q.1 ∈ tables_1 ∧ Cond.instanceMethod q.1 ∈ tables_1
theorem lw_p0 : lw_okq (⟨"Gridmender", "isFirstSound", "()Z"⟩, 10) := ⟨⟨by decide +kernel, by decide +kernel⟩, List.mem_of_getElem? (i := 31) (by decide +kernel), List.mem_of_getElem? (i := 177) (by decide +kernel), List.mem_of_getElem? (i := 178) (by decide +kernel)⟩
theorem lw_p1 : lw_okq (⟨"Gridmender$RowSteps", "clearColumn", "(II)Z"⟩, 3) := ⟨⟨by decide +kernel, by decide +kernel⟩, List.mem_of_getElem? (i := 67) (by decide +kernel), List.mem_of_getElem? (i := 227) (by decide +kernel), List.mem_of_getElem? (i := 228) (by decide +kernel)⟩
theorem lw_p2 : lw_okq (⟨"Gridmender$RowSteps", "findLeastRow", "(II)I"⟩, 3) := ⟨⟨by decide +kernel, by decide +kernel⟩, List.mem_of_getElem? (i := 67) (by decide +kernel), List.mem_of_getElem? (i := 232) (by decide +kernel), List.mem_of_getElem? (i := 233) (by decide +kernel)⟩
theorem lw_p3 : lw_okq (⟨"Gridmender$RowSteps", "bring", "(III)V"⟩, 3) := ⟨⟨by decide +kernel, by decide +kernel⟩, List.mem_of_getElem? (i := 67) (by decide +kernel), List.mem_of_getElem? (i := 240) (by decide +kernel), List.mem_of_getElem? (i := 241) (by decide +kernel)⟩
theorem lw_p4 : lw_okq (⟨"Gridmender$RowSteps", "takeOff", "(III)V"⟩, 3) := ⟨⟨by decide +kernel, by decide +kernel⟩, List.mem_of_getElem? (i := 67) (by decide +kernel), List.mem_of_getElem? (i := 253) (by decide +kernel), List.mem_of_getElem? (i := 254) (by decide +kernel)⟩
theorem lw_p5 : lw_okq (⟨"Gridmender$RowSteps", "isClearBelow", "(II)Z"⟩, 3) := ⟨⟨by decide +kernel, by decide +kernel⟩, List.mem_of_getElem? (i := 67) (by decide +kernel), List.mem_of_getElem? (i := 273) (by decide +kernel), List.mem_of_getElem? (i := 274) (by decide +kernel)⟩
theorem lw_p6 : lw_okq (⟨"Gridmender", "isSoundByRowSteps", "(LGridmender$Grid;)Z"⟩, 10) := ⟨⟨by decide +kernel, by decide +kernel⟩, List.mem_of_getElem? (i := 31) (by decide +kernel), List.mem_of_getElem? (i := 277) (by decide +kernel), List.mem_of_getElem? (i := 278) (by decide +kernel)⟩
theorem lw_p7 : lw_okq (⟨"Gridmender$DiagonalSteps", "clearCross", "(I)Z"⟩, 4) := ⟨⟨by decide +kernel, by decide +kernel⟩, List.mem_of_getElem? (i := 88) (by decide +kernel), List.mem_of_getElem? (i := 319) (by decide +kernel), List.mem_of_getElem? (i := 320) (by decide +kernel)⟩
theorem lw_p8 : lw_okq (⟨"Gridmender$DiagonalSteps", "findLeastPlace", "(I)I"⟩, 4) := ⟨⟨by decide +kernel, by decide +kernel⟩, List.mem_of_getElem? (i := 88) (by decide +kernel), List.mem_of_getElem? (i := 324) (by decide +kernel), List.mem_of_getElem? (i := 325) (by decide +kernel)⟩
theorem lw_p9 : lw_okq (⟨"Gridmender$DiagonalSteps", "bring", "(III)V"⟩, 4) := ⟨⟨by decide +kernel, by decide +kernel⟩, List.mem_of_getElem? (i := 88) (by decide +kernel), List.mem_of_getElem? (i := 330) (by decide +kernel), List.mem_of_getElem? (i := 331) (by decide +kernel)⟩
theorem lw_p10 : lw_okq (⟨"Gridmender$DiagonalSteps", "addRow", "(IIJ)V"⟩, 4) := ⟨⟨by decide +kernel, by decide +kernel⟩, List.mem_of_getElem? (i := 88) (by decide +kernel), List.mem_of_getElem? (i := 337) (by decide +kernel), List.mem_of_getElem? (i := 338) (by decide +kernel)⟩
theorem lw_p11 : lw_okq (⟨"Gridmender$DiagonalSteps", "addColumn", "(IIJ)V"⟩, 4) := ⟨⟨by decide +kernel, by decide +kernel⟩, List.mem_of_getElem? (i := 88) (by decide +kernel), List.mem_of_getElem? (i := 344) (by decide +kernel), List.mem_of_getElem? (i := 345) (by decide +kernel)⟩
theorem lw_p12 : lw_okq (⟨"Gridmender$DiagonalSteps", "isCrossClear", "(I)Z"⟩, 4) := ⟨⟨by decide +kernel, by decide +kernel⟩, List.mem_of_getElem? (i := 88) (by decide +kernel), List.mem_of_getElem? (i := 348) (by decide +kernel), List.mem_of_getElem? (i := 349) (by decide +kernel)⟩
theorem lw_p13 : lw_okq (⟨"Gridmender$DiagonalSteps", "findUndividedRow", "(I)I"⟩, 4) := ⟨⟨by decide +kernel, by decide +kernel⟩, List.mem_of_getElem? (i := 88) (by decide +kernel), List.mem_of_getElem? (i := 352) (by decide +kernel), List.mem_of_getElem? (i := 353) (by decide +kernel)⟩
theorem lw_p14 : lw_okq (⟨"Gridmender", "isSoundBySteps", "(LGridmender$Grid;)Z"⟩, 10) := ⟨⟨by decide +kernel, by decide +kernel⟩, List.mem_of_getElem? (i := 31) (by decide +kernel), List.mem_of_getElem? (i := 359) (by decide +kernel), List.mem_of_getElem? (i := 360) (by decide +kernel)⟩
theorem lw_p15 : lw_okq (⟨"Gridmender", "countHouse", "(I)I"⟩, 10) := ⟨⟨by decide +kernel, by decide +kernel⟩, List.mem_of_getElem? (i := 31) (by decide +kernel), List.mem_of_getElem? (i := 376) (by decide +kernel), List.mem_of_getElem? (i := 377) (by decide +kernel)⟩
def lw_privs_1 : List (MethodName × Nat) := [(⟨"Gridmender", "isFirstSound", "()Z"⟩, 10), (⟨"Gridmender$RowSteps", "clearColumn", "(II)Z"⟩, 3), (⟨"Gridmender$RowSteps", "findLeastRow", "(II)I"⟩, 3), (⟨"Gridmender$RowSteps", "bring", "(III)V"⟩, 3), (⟨"Gridmender$RowSteps", "takeOff", "(III)V"⟩, 3), (⟨"Gridmender$RowSteps", "isClearBelow", "(II)Z"⟩, 3), (⟨"Gridmender", "isSoundByRowSteps", "(LGridmender$Grid;)Z"⟩, 10), (⟨"Gridmender$DiagonalSteps", "clearCross", "(I)Z"⟩, 4), (⟨"Gridmender$DiagonalSteps", "findLeastPlace", "(I)I"⟩, 4), (⟨"Gridmender$DiagonalSteps", "bring", "(III)V"⟩, 4), (⟨"Gridmender$DiagonalSteps", "addRow", "(IIJ)V"⟩, 4), (⟨"Gridmender$DiagonalSteps", "addColumn", "(IIJ)V"⟩, 4), (⟨"Gridmender$DiagonalSteps", "isCrossClear", "(I)Z"⟩, 4), (⟨"Gridmender$DiagonalSteps", "findUndividedRow", "(I)I"⟩, 4), (⟨"Gridmender", "isSoundBySteps", "(LGridmender$Grid;)Z"⟩, 10), (⟨"Gridmender", "countHouse", "(I)I"⟩, 10)]
theorem lw_r1 : ∀ q ∈ lw_privs_1, lw_okq q := List.forall_mem_cons.mpr ⟨lw_p0, List.forall_mem_cons.mpr ⟨lw_p1, List.forall_mem_cons.mpr ⟨lw_p2, List.forall_mem_cons.mpr ⟨lw_p3, List.forall_mem_cons.mpr ⟨lw_p4, List.forall_mem_cons.mpr ⟨lw_p5, List.forall_mem_cons.mpr ⟨lw_p6, List.forall_mem_cons.mpr ⟨lw_p7, List.forall_mem_cons.mpr ⟨lw_p8, List.forall_mem_cons.mpr ⟨lw_p9, List.forall_mem_cons.mpr ⟨lw_p10, List.forall_mem_cons.mpr ⟨lw_p11, List.forall_mem_cons.mpr ⟨lw_p12, List.forall_mem_cons.mpr ⟨lw_p13, List.forall_mem_cons.mpr ⟨lw_p14, List.forall_mem_cons.mpr ⟨lw_p15, fun _ h => absurd h List.not_mem_nil⟩⟩⟩⟩⟩⟩⟩⟩⟩⟩⟩⟩⟩⟩⟩⟩
theorem lw_p16 : lw_okq (⟨"Gridmender", "countLikePairs", "()I"⟩, 10) := ⟨⟨by decide +kernel, by decide +kernel⟩, List.mem_of_getElem? (i := 31) (by decide +kernel), List.mem_of_getElem? (i := 380) (by decide +kernel), List.mem_of_getElem? (i := 381) (by decide +kernel)⟩
theorem lw_p17 : lw_okq (⟨"Gridmender", "needTable", "(I)LGridmender$Grid;"⟩, 10) := ⟨⟨by decide +kernel, by decide +kernel⟩, List.mem_of_getElem? (i := 31) (by decide +kernel), List.mem_of_getElem? (i := 406) (by decide +kernel), List.mem_of_getElem? (i := 407) (by decide +kernel)⟩
theorem lw_p18 : lw_okq (⟨"java/lang/Throwable", "fillInStackTrace", "(I)Ljava/lang/Throwable;"⟩, 6) := ⟨⟨by decide +kernel, by decide +kernel⟩, List.mem_of_getElem? (i := 448) (by decide +kernel), List.mem_of_getElem? (i := 446) (by decide +kernel), List.mem_of_getElem? (i := 447) (by decide +kernel)⟩
theorem lw_p19 : lw_okq (⟨"Gridmender", "tellDone", "(I)I"⟩, 10) := ⟨⟨by decide +kernel, by decide +kernel⟩, List.mem_of_getElem? (i := 31) (by decide +kernel), List.mem_of_getElem? (i := 505) (by decide +kernel), List.mem_of_getElem? (i := 506) (by decide +kernel)⟩
theorem lw_p20 : lw_okq (⟨"Gridmender", "settleChange", "(LGridmender$Grid;)I"⟩, 10) := ⟨⟨by decide +kernel, by decide +kernel⟩, List.mem_of_getElem? (i := 31) (by decide +kernel), List.mem_of_getElem? (i := 578) (by decide +kernel), List.mem_of_getElem? (i := 579) (by decide +kernel)⟩
theorem lw_p21 : lw_okq (⟨"Gridmender", "tellRefused", "()I"⟩, 10) := ⟨⟨by decide +kernel, by decide +kernel⟩, List.mem_of_getElem? (i := 31) (by decide +kernel), List.mem_of_getElem? (i := 584) (by decide +kernel), List.mem_of_getElem? (i := 585) (by decide +kernel)⟩
theorem lw_p22 : lw_okq (⟨"Gridmender", "settleForm", "(LGridmender$Grid;LGridmender$Grid;)I"⟩, 10) := ⟨⟨by decide +kernel, by decide +kernel⟩, List.mem_of_getElem? (i := 31) (by decide +kernel), List.mem_of_getElem? (i := 634) (by decide +kernel), List.mem_of_getElem? (i := 635) (by decide +kernel)⟩
theorem lw_p23 : lw_okq (⟨"Gridmender", "findForm", "(LGridmender$Grid;I)LGridmender$Grid;"⟩, 10) := ⟨⟨by decide +kernel, by decide +kernel⟩, List.mem_of_getElem? (i := 31) (by decide +kernel), List.mem_of_getElem? (i := 655) (by decide +kernel), List.mem_of_getElem? (i := 656) (by decide +kernel)⟩
theorem lw_p24 : lw_okq (⟨"Gridmender", "leavesRests", "(LGridmender$Grid;)Z"⟩, 10) := ⟨⟨by decide +kernel, by decide +kernel⟩, List.mem_of_getElem? (i := 31) (by decide +kernel), List.mem_of_getElem? (i := 1066) (by decide +kernel), List.mem_of_getElem? (i := 1067) (by decide +kernel)⟩
theorem lw_p25 : lw_okq (⟨"Gridmender", "setRowNumber", "(IJ)V"⟩, 10) := ⟨⟨by decide +kernel, by decide +kernel⟩, List.mem_of_getElem? (i := 31) (by decide +kernel), List.mem_of_getElem? (i := 1070) (by decide +kernel), List.mem_of_getElem? (i := 1071) (by decide +kernel)⟩
theorem lw_p26 : lw_okq (⟨"Gridmender", "rowNumber", "(I)J"⟩, 10) := ⟨⟨by decide +kernel, by decide +kernel⟩, List.mem_of_getElem? (i := 31) (by decide +kernel), List.mem_of_getElem? (i := 1075) (by decide +kernel), List.mem_of_getElem? (i := 1076) (by decide +kernel)⟩
theorem lw_p27 : lw_okq (⟨"GridmenderModel", "isThrown", "(ZZ)Z"⟩, 5) := ⟨⟨by decide +kernel, by decide +kernel⟩, List.mem_of_getElem? (i := 1093) (by decide +kernel), List.mem_of_getElem? (i := 1153) (by decide +kernel), List.mem_of_getElem? (i := 1154) (by decide +kernel)⟩
theorem lw_p28 : lw_okq (⟨"GridmenderModel", "isThrown", "(ZZZ)Z"⟩, 5) := ⟨⟨by decide +kernel, by decide +kernel⟩, List.mem_of_getElem? (i := 1093) (by decide +kernel), List.mem_of_getElem? (i := 1157) (by decide +kernel), List.mem_of_getElem? (i := 1158) (by decide +kernel)⟩
theorem lw_p29 : lw_okq (⟨"GridmenderModel", "lay", "(ILGridmenderModel$Grid;)I"⟩, 5) := ⟨⟨by decide +kernel, by decide +kernel⟩, List.mem_of_getElem? (i := 1093) (by decide +kernel), List.mem_of_getElem? (i := 1161) (by decide +kernel), List.mem_of_getElem? (i := 1162) (by decide +kernel)⟩
theorem lw_p30 : lw_okq (⟨"GridmenderModel", "told", "(I)I"⟩, 5) := ⟨⟨by decide +kernel, by decide +kernel⟩, List.mem_of_getElem? (i := 1093) (by decide +kernel), List.mem_of_getElem? (i := 1169) (by decide +kernel), List.mem_of_getElem? (i := 1170) (by decide +kernel)⟩
theorem lw_p31 : lw_okq (⟨"GridmenderModel", "isRow", "(II)Z"⟩, 5) := ⟨⟨by decide +kernel, by decide +kernel⟩, List.mem_of_getElem? (i := 1093) (by decide +kernel), List.mem_of_getElem? (i := 1190) (by decide +kernel), List.mem_of_getElem? (i := 1191) (by decide +kernel)⟩
def lw_privs_2 : List (MethodName × Nat) := [(⟨"Gridmender", "countLikePairs", "()I"⟩, 10), (⟨"Gridmender", "needTable", "(I)LGridmender$Grid;"⟩, 10), (⟨"java/lang/Throwable", "fillInStackTrace", "(I)Ljava/lang/Throwable;"⟩, 6), (⟨"Gridmender", "tellDone", "(I)I"⟩, 10), (⟨"Gridmender", "settleChange", "(LGridmender$Grid;)I"⟩, 10), (⟨"Gridmender", "tellRefused", "()I"⟩, 10), (⟨"Gridmender", "settleForm", "(LGridmender$Grid;LGridmender$Grid;)I"⟩, 10), (⟨"Gridmender", "findForm", "(LGridmender$Grid;I)LGridmender$Grid;"⟩, 10), (⟨"Gridmender", "leavesRests", "(LGridmender$Grid;)Z"⟩, 10), (⟨"Gridmender", "setRowNumber", "(IJ)V"⟩, 10), (⟨"Gridmender", "rowNumber", "(I)J"⟩, 10), (⟨"GridmenderModel", "isThrown", "(ZZ)Z"⟩, 5), (⟨"GridmenderModel", "isThrown", "(ZZZ)Z"⟩, 5), (⟨"GridmenderModel", "lay", "(ILGridmenderModel$Grid;)I"⟩, 5), (⟨"GridmenderModel", "told", "(I)I"⟩, 5), (⟨"GridmenderModel", "isRow", "(II)Z"⟩, 5)]
theorem lw_r2 : ∀ q ∈ lw_privs_2, lw_okq q := List.forall_mem_cons.mpr ⟨lw_p16, List.forall_mem_cons.mpr ⟨lw_p17, List.forall_mem_cons.mpr ⟨lw_p18, List.forall_mem_cons.mpr ⟨lw_p19, List.forall_mem_cons.mpr ⟨lw_p20, List.forall_mem_cons.mpr ⟨lw_p21, List.forall_mem_cons.mpr ⟨lw_p22, List.forall_mem_cons.mpr ⟨lw_p23, List.forall_mem_cons.mpr ⟨lw_p24, List.forall_mem_cons.mpr ⟨lw_p25, List.forall_mem_cons.mpr ⟨lw_p26, List.forall_mem_cons.mpr ⟨lw_p27, List.forall_mem_cons.mpr ⟨lw_p28, List.forall_mem_cons.mpr ⟨lw_p29, List.forall_mem_cons.mpr ⟨lw_p30, List.forall_mem_cons.mpr ⟨lw_p31, fun _ h => absurd h List.not_mem_nil⟩⟩⟩⟩⟩⟩⟩⟩⟩⟩⟩⟩⟩⟩⟩⟩
theorem lw_p32 : lw_okq (⟨"GridmenderModel", "isColumn", "(II)Z"⟩, 5) := ⟨⟨by decide +kernel, by decide +kernel⟩, List.mem_of_getElem? (i := 1093) (by decide +kernel), List.mem_of_getElem? (i := 1194) (by decide +kernel), List.mem_of_getElem? (i := 1195) (by decide +kernel)⟩
theorem lw_p33 : lw_okq (⟨"GridmenderModel", "isThrown", "(Z)Z"⟩, 5) := ⟨⟨by decide +kernel, by decide +kernel⟩, List.mem_of_getElem? (i := 1093) (by decide +kernel), List.mem_of_getElem? (i := 1216) (by decide +kernel), List.mem_of_getElem? (i := 1217) (by decide +kernel)⟩
theorem lw_p34 : lw_okq (⟨"GridmenderModel", "isLine", "(IZI)Z"⟩, 5) := ⟨⟨by decide +kernel, by decide +kernel⟩, List.mem_of_getElem? (i := 1093) (by decide +kernel), List.mem_of_getElem? (i := 1243) (by decide +kernel), List.mem_of_getElem? (i := 1244) (by decide +kernel)⟩
theorem lw_p35 : lw_okq (⟨"GridmenderModel", "changed", "(ILGridmenderModel$Grid;)I"⟩, 5) := ⟨⟨by decide +kernel, by decide +kernel⟩, List.mem_of_getElem? (i := 1093) (by decide +kernel), List.mem_of_getElem? (i := 1256) (by decide +kernel), List.mem_of_getElem? (i := 1257) (by decide +kernel)⟩
theorem lw_p36 : lw_okq (⟨"GridmenderModel", "no", "()I"⟩, 5) := ⟨⟨by decide +kernel, by decide +kernel⟩, List.mem_of_getElem? (i := 1093) (by decide +kernel), List.mem_of_getElem? (i := 1290) (by decide +kernel), List.mem_of_getElem? (i := 1291) (by decide +kernel)⟩
theorem lw_p37 : lw_okq (⟨"GridmenderModel", "become", "(ILGridmenderModel$Grid;)I"⟩, 5) := ⟨⟨by decide +kernel, by decide +kernel⟩, List.mem_of_getElem? (i := 1093) (by decide +kernel), List.mem_of_getElem? (i := 1309) (by decide +kernel), List.mem_of_getElem? (i := 1310) (by decide +kernel)⟩
theorem lw_p38 : lw_okq (⟨"GridmenderModel$Stepped", "isCleared", "(II)Z"⟩, 4) := ⟨⟨by decide +kernel, by decide +kernel⟩, List.mem_of_getElem? (i := 1328) (by decide +kernel), List.mem_of_getElem? (i := 1336) (by decide +kernel), List.mem_of_getElem? (i := 1337) (by decide +kernel)⟩
theorem lw_p39 : lw_okq (⟨"GridmenderModel$Stepped", "least", "(II)I"⟩, 4) := ⟨⟨by decide +kernel, by decide +kernel⟩, List.mem_of_getElem? (i := 1328) (by decide +kernel), List.mem_of_getElem? (i := 1340) (by decide +kernel), List.mem_of_getElem? (i := 1341) (by decide +kernel)⟩
theorem lw_p40 : lw_okq (⟨"GridmenderModel$Stepped", "takeOff", "(III)V"⟩, 4) := ⟨⟨by decide +kernel, by decide +kernel⟩, List.mem_of_getElem? (i := 1328) (by decide +kernel), List.mem_of_getElem? (i := 1348) (by decide +kernel), List.mem_of_getElem? (i := 1349) (by decide +kernel)⟩
theorem lw_p41 : lw_okq (⟨"GridmenderModel$Straight", "isCleared", "(I)Z"⟩, 7) := ⟨⟨by decide +kernel, by decide +kernel⟩, List.mem_of_getElem? (i := 1377) (by decide +kernel), List.mem_of_getElem? (i := 1385) (by decide +kernel), List.mem_of_getElem? (i := 1386) (by decide +kernel)⟩
theorem lw_p42 : lw_okq (⟨"GridmenderModel$Straight", "isLess", "(JJ)Z"⟩, 7) := ⟨⟨by decide +kernel, by decide +kernel⟩, List.mem_of_getElem? (i := 1377) (by decide +kernel), List.mem_of_getElem? (i := 1390) (by decide +kernel), List.mem_of_getElem? (i := 1391) (by decide +kernel)⟩
theorem lw_p43 : lw_okq (⟨"GridmenderModel$Straight", "bring", "(III)V"⟩, 7) := ⟨⟨by decide +kernel, by decide +kernel⟩, List.mem_of_getElem? (i := 1377) (by decide +kernel), List.mem_of_getElem? (i := 1395) (by decide +kernel), List.mem_of_getElem? (i := 1396) (by decide +kernel)⟩
theorem lw_p44 : lw_okq (⟨"GridmenderModel$Straight", "takeOff", "(I)V"⟩, 7) := ⟨⟨by decide +kernel, by decide +kernel⟩, List.mem_of_getElem? (i := 1377) (by decide +kernel), List.mem_of_getElem? (i := 1402) (by decide +kernel), List.mem_of_getElem? (i := 1403) (by decide +kernel)⟩
theorem lw_p45 : lw_okq (⟨"GridmenderModel$Straight", "look", "()V"⟩, 7) := ⟨⟨by decide +kernel, by decide +kernel⟩, List.mem_of_getElem? (i := 1377) (by decide +kernel), List.mem_of_getElem? (i := 1408) (by decide +kernel), List.mem_of_getElem? (i := 1409) (by decide +kernel)⟩
theorem lw_p46 : lw_okq (⟨"GridmenderModel$Straight", "isAlone", "(I)Z"⟩, 7) := ⟨⟨by decide +kernel, by decide +kernel⟩, List.mem_of_getElem? (i := 1377) (by decide +kernel), List.mem_of_getElem? (i := 1414) (by decide +kernel), List.mem_of_getElem? (i := 1415) (by decide +kernel)⟩
theorem lw_p47 : lw_okq (⟨"GridmenderModel$Straight", "isDividing", "(I)Z"⟩, 7) := ⟨⟨by decide +kernel, by decide +kernel⟩, List.mem_of_getElem? (i := 1377) (by decide +kernel), List.mem_of_getElem? (i := 1418) (by decide +kernel), List.mem_of_getElem? (i := 1419) (by decide +kernel)⟩
def lw_privs_3 : List (MethodName × Nat) := [(⟨"GridmenderModel", "isColumn", "(II)Z"⟩, 5), (⟨"GridmenderModel", "isThrown", "(Z)Z"⟩, 5), (⟨"GridmenderModel", "isLine", "(IZI)Z"⟩, 5), (⟨"GridmenderModel", "changed", "(ILGridmenderModel$Grid;)I"⟩, 5), (⟨"GridmenderModel", "no", "()I"⟩, 5), (⟨"GridmenderModel", "become", "(ILGridmenderModel$Grid;)I"⟩, 5), (⟨"GridmenderModel$Stepped", "isCleared", "(II)Z"⟩, 4), (⟨"GridmenderModel$Stepped", "least", "(II)I"⟩, 4), (⟨"GridmenderModel$Stepped", "takeOff", "(III)V"⟩, 4), (⟨"GridmenderModel$Straight", "isCleared", "(I)Z"⟩, 7), (⟨"GridmenderModel$Straight", "isLess", "(JJ)Z"⟩, 7), (⟨"GridmenderModel$Straight", "bring", "(III)V"⟩, 7), (⟨"GridmenderModel$Straight", "takeOff", "(I)V"⟩, 7), (⟨"GridmenderModel$Straight", "look", "()V"⟩, 7), (⟨"GridmenderModel$Straight", "isAlone", "(I)Z"⟩, 7), (⟨"GridmenderModel$Straight", "isDividing", "(I)Z"⟩, 7)]
theorem lw_r3 : ∀ q ∈ lw_privs_3, lw_okq q := List.forall_mem_cons.mpr ⟨lw_p32, List.forall_mem_cons.mpr ⟨lw_p33, List.forall_mem_cons.mpr ⟨lw_p34, List.forall_mem_cons.mpr ⟨lw_p35, List.forall_mem_cons.mpr ⟨lw_p36, List.forall_mem_cons.mpr ⟨lw_p37, List.forall_mem_cons.mpr ⟨lw_p38, List.forall_mem_cons.mpr ⟨lw_p39, List.forall_mem_cons.mpr ⟨lw_p40, List.forall_mem_cons.mpr ⟨lw_p41, List.forall_mem_cons.mpr ⟨lw_p42, List.forall_mem_cons.mpr ⟨lw_p43, List.forall_mem_cons.mpr ⟨lw_p44, List.forall_mem_cons.mpr ⟨lw_p45, List.forall_mem_cons.mpr ⟨lw_p46, List.forall_mem_cons.mpr ⟨lw_p47, fun _ h => absurd h List.not_mem_nil⟩⟩⟩⟩⟩⟩⟩⟩⟩⟩⟩⟩⟩⟩⟩⟩
theorem lw_p48 : lw_okq (⟨"GridmenderModel", "column", "(II)LGridmenderModel$Grid;"⟩, 5) := ⟨⟨by decide +kernel, by decide +kernel⟩, List.mem_of_getElem? (i := 1093) (by decide +kernel), List.mem_of_getElem? (i := 1455) (by decide +kernel), List.mem_of_getElem? (i := 1456) (by decide +kernel)⟩
theorem lw_p49 : lw_okq (⟨"GridmenderModel", "houseNow", "(I)I"⟩, 5) := ⟨⟨by decide +kernel, by decide +kernel⟩, List.mem_of_getElem? (i := 1093) (by decide +kernel), List.mem_of_getElem? (i := 1603) (by decide +kernel), List.mem_of_getElem? (i := 1604) (by decide +kernel)⟩
theorem lw_p50 : lw_okq (⟨"GridmenderModel", "isSoundNow", "()Z"⟩, 5) := ⟨⟨by decide +kernel, by decide +kernel⟩, List.mem_of_getElem? (i := 1093) (by decide +kernel), List.mem_of_getElem? (i := 1615) (by decide +kernel), List.mem_of_getElem? (i := 1616) (by decide +kernel)⟩
def lw_privs_4 : List (MethodName × Nat) := [(⟨"GridmenderModel", "column", "(II)LGridmenderModel$Grid;"⟩, 5), (⟨"GridmenderModel", "houseNow", "(I)I"⟩, 5), (⟨"GridmenderModel", "isSoundNow", "()Z"⟩, 5)]
theorem lw_r4 : ∀ q ∈ lw_privs_4, lw_okq q := List.forall_mem_cons.mpr ⟨lw_p48, List.forall_mem_cons.mpr ⟨lw_p49, List.forall_mem_cons.mpr ⟨lw_p50, fun _ h => absurd h List.not_mem_nil⟩⟩⟩
def lw_privs : List (MethodName × Nat) := lw_privs_1 ++ (lw_privs_2 ++ (lw_privs_3 ++ (lw_privs_4)))
def lw_tbl : List Cond := k2_sels lw_privs ++ tables_1
theorem lw_privs_ok : ∀ q ∈ lw_privs, lw_okq q := by
  show ∀ q ∈ lw_privs_1 ++ (lw_privs_2 ++ (lw_privs_3 ++ (lw_privs_4))), lw_okq q
  exact List.forall_mem_append.mpr ⟨lw_r1, List.forall_mem_append.mpr ⟨lw_r2, List.forall_mem_append.mpr ⟨lw_r3, lw_r4⟩⟩⟩

def RX0 : String := "Gridmender$Determinants"
def TX0 : u_T := fun k => match k with
  | _ => ("", "", "", false)
def tyX0 : Nat → FieldType := fun k => match k with
  | _ => .int
abbrev wsX00 : List Cond := u_ws RX0 TX0 0
theorem nmX0 : ∀ a, a < 0 → ∀ b, b < 0 → a ≠ b → (TX0 a).2.1 ≠ (TX0 b).2.1 := by decide +kernel
theorem tyX0_ok : ∀ k, k < 0 → parseFieldDescriptor (TX0 k).2.2.1 = some (tyX0 k) := by decide +kernel
abbrev cX0_byFirstRow : ByteArray := prog_2_method_2_code
def yX0_byFirstRow : MethodName := ⟨RX0, "byFirstRow", "(LGridmender$Grid;)J"⟩
abbrev cX0_ofRest : ByteArray := prog_2_method_3_code
def yX0_ofRest : MethodName := ⟨RX0, "ofRest", "(LGridmender$Grid;III)J"⟩
abbrev cX0_bySequences : ByteArray := prog_2_method_4_code
def yX0_bySequences : MethodName := ⟨RX0, "bySequences", "(LGridmender$Grid;II)J"⟩
abbrev cX0_findDivisor : ByteArray := prog_2_method_5_code
def yX0_findDivisor : MethodName := ⟨RX0, "findDivisor", "(LGridmender$Grid;I)J"⟩
abbrev cX0_findRank : ByteArray := prog_2_method_6_code
def yX0_findRank : MethodName := ⟨RX0, "findRank", "(LGridmender$Grid;)I"⟩
def RX1 : String := "Gridmender$DiagonalSteps"
def TX1 : u_T := fun k => match k with
  | 0 => ("Gridmender$DiagonalSteps", "work", "LGridmender$Grid;", true)
  | 1 => ("Gridmender$DiagonalSteps", "left", "LGridmender$Grid;", true)
  | 2 => ("Gridmender$DiagonalSteps", "right", "LGridmender$Grid;", true)
  | _ => ("Gridmender$DiagonalSteps", "isGreat", "Z", false)
def tyX1 : Nat → FieldType := fun k => match k with
  | 0 => .object "Gridmender$Grid"
  | 1 => .object "Gridmender$Grid"
  | 2 => .object "Gridmender$Grid"
  | _ => .boolean
abbrev wsX10 : List Cond := u_ws RX1 TX1 4
theorem nmX1 : ∀ a, a < 4 → ∀ b, b < 4 → a ≠ b → (TX1 a).2.1 ≠ (TX1 b).2.1 := by decide +kernel
theorem tyX1_ok : ∀ k, k < 4 → parseFieldDescriptor (TX1 k).2.2.1 = some (tyX1 k) := by decide +kernel
abbrev cX1_init : ByteArray := prog_3_method_1_code
def yX1_init : MethodName := ⟨RX1, "<init>", "()V"⟩
abbrev cX1_walk : ByteArray := prog_3_method_2_code
def yX1_walk : MethodName := ⟨RX1, "walk", "(LGridmender$Grid;)V"⟩
abbrev cX1_clearCross : ByteArray := prog_3_method_3_code
def yX1_clearCross : MethodName := ⟨RX1, "clearCross", "(I)Z"⟩
abbrev cX1_findLeastPlace : ByteArray := prog_3_method_4_code
def yX1_findLeastPlace : MethodName := ⟨RX1, "findLeastPlace", "(I)I"⟩
abbrev cX1_bring : ByteArray := prog_3_method_5_code
def yX1_bring : MethodName := ⟨RX1, "bring", "(III)V"⟩
abbrev cX1_addRow : ByteArray := prog_3_method_6_code
def yX1_addRow : MethodName := ⟨RX1, "addRow", "(IIJ)V"⟩
abbrev cX1_addColumn : ByteArray := prog_3_method_7_code
def yX1_addColumn : MethodName := ⟨RX1, "addColumn", "(IIJ)V"⟩
abbrev cX1_isCrossClear : ByteArray := prog_3_method_8_code
def yX1_isCrossClear : MethodName := ⟨RX1, "isCrossClear", "(I)Z"⟩
abbrev cX1_findUndividedRow : ByteArray := prog_3_method_9_code
def yX1_findUndividedRow : MethodName := ⟨RX1, "findUndividedRow", "(I)I"⟩
abbrev cX1_countRank : ByteArray := prog_3_method_10_code
def yX1_countRank : MethodName := ⟨RX1, "countRank", "()I"⟩
def RX2 : String := "Gridmender$Equation"
def TX2 : u_T := fun k => match k with
  | 0 => ("Gridmender$Equation", "given", "LGridmender$Grid;", true)
  | 1 => ("Gridmender$Equation", "aim", "LGridmender$Grid;", true)
  | 2 => ("Gridmender$Equation", "shares", "LGridmender$Grid;", true)
  | _ => ("Gridmender$Equation", "solution", "LGridmender$Grid;", true)
def tyX2 : Nat → FieldType := fun k => match k with
  | 0 => .object "Gridmender$Grid"
  | 1 => .object "Gridmender$Grid"
  | 2 => .object "Gridmender$Grid"
  | _ => .object "Gridmender$Grid"
abbrev wsX20 : List Cond := u_ws RX2 TX2 4
theorem nmX2 : ∀ a, a < 4 → ∀ b, b < 4 → a ≠ b → (TX2 a).2.1 ≠ (TX2 b).2.1 := by decide +kernel
theorem tyX2_ok : ∀ k, k < 4 → parseFieldDescriptor (TX2 k).2.2.1 = some (tyX2 k) := by decide +kernel
abbrev cX2_init : ByteArray := prog_4_method_1_code
def yX2_init : MethodName := ⟨RX2, "<init>", "()V"⟩
abbrev cX2_divide : ByteArray := prog_4_method_2_code
def yX2_divide : MethodName := ⟨RX2, "divide", "(LGridmender$DiagonalSteps;LGridmender$Grid;I)Z"⟩
abbrev cX2_findSolution : ByteArray := prog_4_method_3_code
def yX2_findSolution : MethodName := ⟨RX2, "findSolution", "(LGridmender$DiagonalSteps;)Z"⟩
def RX3 : String := "Gridmender$Grid"
def TX3 : u_T := fun k => match k with
  | 0 => ("Gridmender$Grid", "cells", "[J", true)
  | 1 => ("Gridmender$Grid", "rows", "I", false)
  | _ => ("Gridmender$Grid", "columns", "I", false)
def tyX3 : Nat → FieldType := fun k => match k with
  | 0 => .array .long
  | 1 => .int
  | _ => .int
abbrev wsX30 : List Cond := u_ws RX3 TX3 3
theorem nmX3 : ∀ a, a < 3 → ∀ b, b < 3 → a ≠ b → (TX3 a).2.1 ≠ (TX3 b).2.1 := by decide +kernel
theorem tyX3_ok : ∀ k, k < 3 → parseFieldDescriptor (TX3 k).2.2.1 = some (tyX3 k) := by decide +kernel
abbrev cX3_init : ByteArray := prog_5_method_1_code
def yX3_init : MethodName := ⟨RX3, "<init>", "()V"⟩
abbrev cX3_get : ByteArray := prog_5_method_2_code
def yX3_get : MethodName := ⟨RX3, "get", "(II)J"⟩
abbrev cX3_set : ByteArray := prog_5_method_3_code
def yX3_set : MethodName := ⟨RX3, "set", "(IIJ)V"⟩
abbrev cX3_countLines : ByteArray := prog_5_method_4_code
def yX3_countLines : MethodName := ⟨RX3, "countLines", "(Z)I"⟩
abbrev cX3_hasLine : ByteArray := prog_5_method_5_code
def yX3_hasLine : MethodName := ⟨RX3, "hasLine", "(ZI)Z"⟩
abbrev cX3_reshape : ByteArray := prog_5_method_6_code
def yX3_reshape : MethodName := ⟨RX3, "reshape", "(II)V"⟩
abbrev cX3_becomeUnit : ByteArray := prog_5_method_7_code
def yX3_becomeUnit : MethodName := ⟨RX3, "becomeUnit", "(I)V"⟩
abbrev cX3_becomeLike : ByteArray := prog_5_method_8_code
def yX3_becomeLike : MethodName := ⟨RX3, "becomeLike", "(LGridmender$Grid;)V"⟩
abbrev cX3_takeOver : ByteArray := prog_5_method_9_code
def yX3_takeOver : MethodName := ⟨RX3, "takeOver", "(LGridmender$Grid;)V"⟩
abbrev cX3_becomeColumn : ByteArray := prog_5_method_10_code
def yX3_becomeColumn : MethodName := ⟨RX3, "becomeColumn", "(LGridmender$Grid;I)V"⟩
abbrev cX3_becomeProduct : ByteArray := prog_5_method_11_code
def yX3_becomeProduct : MethodName := ⟨RX3, "becomeProduct", "(LGridmender$Grid;LGridmender$Grid;)V"⟩
abbrev cX3_exchangeLines : ByteArray := prog_5_method_12_code
def yX3_exchangeLines : MethodName := ⟨RX3, "exchangeLines", "(ZII)V"⟩
abbrev cX3_turnLine : ByteArray := prog_5_method_13_code
def yX3_turnLine : MethodName := ⟨RX3, "turnLine", "(ZI)V"⟩
abbrev cX3_addLine : ByteArray := prog_5_method_14_code
def yX3_addLine : MethodName := ⟨RX3, "addLine", "(ZIIJ)V"⟩
abbrev cX3_countFilled : ByteArray := prog_5_method_15_code
def yX3_countFilled : MethodName := ⟨RX3, "countFilled", "()I"⟩
abbrev cX3_countUnlike : ByteArray := prog_5_method_16_code
def yX3_countUnlike : MethodName := ⟨RX3, "countUnlike", "(LGridmender$Grid;)I"⟩
abbrev cX3_isLike : ByteArray := prog_5_method_17_code
def yX3_isLike : MethodName := ⟨RX3, "isLike", "(LGridmender$Grid;)Z"⟩
abbrev cX3_isWithin : ByteArray := prog_5_method_18_code
def yX3_isWithin : MethodName := ⟨RX3, "isWithin", "(J)Z"⟩
abbrev cX3_mix : ByteArray := prog_5_method_19_code
def yX3_mix : MethodName := ⟨RX3, "mix", "(J)J"⟩
def RX4 : String := "Gridmender$RowSteps"
def TX4 : u_T := fun k => match k with
  | 0 => ("Gridmender$RowSteps", "work", "LGridmender$Grid;", true)
  | 1 => ("Gridmender$RowSteps", "rowChange", "LGridmender$Grid;", true)
  | _ => ("Gridmender$RowSteps", "isGreat", "Z", false)
def tyX4 : Nat → FieldType := fun k => match k with
  | 0 => .object "Gridmender$Grid"
  | 1 => .object "Gridmender$Grid"
  | _ => .boolean
abbrev wsX40 : List Cond := u_ws RX4 TX4 3
theorem nmX4 : ∀ a, a < 3 → ∀ b, b < 3 → a ≠ b → (TX4 a).2.1 ≠ (TX4 b).2.1 := by decide +kernel
theorem tyX4_ok : ∀ k, k < 3 → parseFieldDescriptor (TX4 k).2.2.1 = some (tyX4 k) := by decide +kernel
abbrev cX4_init : ByteArray := prog_6_method_1_code
def yX4_init : MethodName := ⟨RX4, "<init>", "()V"⟩
abbrev cX4_walk : ByteArray := prog_6_method_2_code
def yX4_walk : MethodName := ⟨RX4, "walk", "(LGridmender$Grid;)V"⟩
abbrev cX4_clearColumn : ByteArray := prog_6_method_3_code
def yX4_clearColumn : MethodName := ⟨RX4, "clearColumn", "(II)Z"⟩
abbrev cX4_findLeastRow : ByteArray := prog_6_method_4_code
def yX4_findLeastRow : MethodName := ⟨RX4, "findLeastRow", "(II)I"⟩
abbrev cX4_bring : ByteArray := prog_6_method_5_code
def yX4_bring : MethodName := ⟨RX4, "bring", "(III)V"⟩
abbrev cX4_takeOff : ByteArray := prog_6_method_6_code
def yX4_takeOff : MethodName := ⟨RX4, "takeOff", "(III)V"⟩
abbrev cX4_isClearBelow : ByteArray := prog_6_method_7_code
def yX4_isClearBelow : MethodName := ⟨RX4, "isClearBelow", "(II)Z"⟩
abbrev cX4_countFilledRows : ByteArray := prog_6_method_8_code
def yX4_countFilledRows : MethodName := ⟨RX4, "countFilledRows", "()I"⟩
abbrev cX4_findDeterminant : ByteArray := prog_6_method_9_code
def yX4_findDeterminant : MethodName := ⟨RX4, "findDeterminant", "()J"⟩
def RX5 : String := "Gridmender"
def TX5 : u_T := fun k => match k with
  | 0 => ("Gridmender", "tables", "[LGridmender$Grid;", true)
  | 1 => ("Gridmender", "draft", "LGridmender$Grid;", true)
  | 2 => ("Gridmender", "check", "LGridmender$Grid;", true)
  | 3 => ("Gridmender", "rowSteps", "LGridmender$RowSteps;", true)
  | 4 => ("Gridmender", "diagonalSteps", "LGridmender$DiagonalSteps;", true)
  | 5 => ("Gridmender", "equation", "LGridmender$Equation;", true)
  | 6 => ("Gridmender", "rowNumbers", "[J", true)
  | 7 => ("Gridmender", "acts", "I", false)
  | 8 => ("Gridmender", "refusals", "I", false)
  | _ => ("Gridmender", "knocks", "I", false)
def tyX5 : Nat → FieldType := fun k => match k with
  | 0 => .array (.object "Gridmender$Grid")
  | 1 => .object "Gridmender$Grid"
  | 2 => .object "Gridmender$Grid"
  | 3 => .object "Gridmender$RowSteps"
  | 4 => .object "Gridmender$DiagonalSteps"
  | 5 => .object "Gridmender$Equation"
  | 6 => .array .long
  | 7 => .int
  | 8 => .int
  | _ => .int
abbrev wsX50 : List Cond := u_ws RX5 TX5 10
theorem nmX5 : ∀ a, a < 10 → ∀ b, b < 10 → a ≠ b → (TX5 a).2.1 ≠ (TX5 b).2.1 := by decide +kernel
theorem tyX5_ok : ∀ k, k < 10 → parseFieldDescriptor (TX5 k).2.2.1 = some (tyX5 k) := by decide +kernel
abbrev cX5_init : ByteArray := prog_1_method_1_code
def yX5_init : MethodName := ⟨RX5, "<init>", "()V"⟩
abbrev cX5_make : ByteArray := prog_1_method_2_code
def yX5_make : MethodName := ⟨RX5, "make", "(III)I"⟩
abbrev cX5_unit : ByteArray := prog_1_method_3_code
def yX5_unit : MethodName := ⟨RX5, "unit", "(II)I"⟩
abbrev cX5_put : ByteArray := prog_1_method_4_code
def yX5_put : MethodName := ⟨RX5, "put", "(IIII)I"⟩
abbrev cX5_sow : ByteArray := prog_1_method_5_code
def yX5_sow : MethodName := ⟨RX5, "sow", "(III)I"⟩
abbrev cX5_copy : ByteArray := prog_1_method_6_code
def yX5_copy : MethodName := ⟨RX5, "copy", "(II)I"⟩
abbrev cX5_swap : ByteArray := prog_1_method_7_code
def yX5_swap : MethodName := ⟨RX5, "swap", "(II)I"⟩
abbrev cX5_flip : ByteArray := prog_1_method_8_code
def yX5_flip : MethodName := ⟨RX5, "flip", "(I)I"⟩
abbrev cX5_exchange : ByteArray := prog_1_method_9_code
def yX5_exchange : MethodName := ⟨RX5, "exchange", "(IZII)I"⟩
abbrev cX5_turn : ByteArray := prog_1_method_10_code
def yX5_turn : MethodName := ⟨RX5, "turn", "(IZI)I"⟩
abbrev cX5_add : ByteArray := prog_1_method_11_code
def yX5_add : MethodName := ⟨RX5, "add", "(IZIII)I"⟩
abbrev cX5_widen : ByteArray := prog_1_method_12_code
def yX5_widen : MethodName := ⟨RX5, "widen", "(IZ)I"⟩
abbrev cX5_drop : ByteArray := prog_1_method_13_code
def yX5_drop : MethodName := ⟨RX5, "drop", "(IZI)I"⟩
abbrev cX5_sum : ByteArray := prog_1_method_14_code
def yX5_sum : MethodName := ⟨RX5, "sum", "(IIZI)I"⟩
abbrev cX5_multiply : ByteArray := prog_1_method_15_code
def yX5_multiply : MethodName := ⟨RX5, "multiply", "(III)I"⟩
abbrev cX5_take : ByteArray := prog_1_method_16_code
def yX5_take : MethodName := ⟨RX5, "take", "(III)I"⟩
abbrev cX5_solve : ByteArray := prog_1_method_17_code
def yX5_solve : MethodName := ⟨RX5, "solve", "(IIII)I"⟩
abbrev cX5_shape : ByteArray := prog_1_method_18_code
def yX5_shape : MethodName := ⟨RX5, "shape", "(IZ)I"⟩
abbrev cX5_at : ByteArray := prog_1_method_19_code
def yX5_at : MethodName := ⟨RX5, "at", "(III)I"⟩
abbrev cX5_text : ByteArray := prog_1_method_20_code
def yX5_text : MethodName := ⟨RX5, "text", "(I)Ljava/lang/String;"⟩
abbrev cX5_isSame : ByteArray := prog_1_method_21_code
def yX5_isSame : MethodName := ⟨RX5, "isSame", "(II)Z"⟩
abbrev cX5_determinant : ByteArray := prog_1_method_22_code
def yX5_determinant : MethodName := ⟨RX5, "determinant", "(II)I"⟩
abbrev cX5_minor : ByteArray := prog_1_method_23_code
def yX5_minor : MethodName := ⟨RX5, "minor", "(III)I"⟩
abbrev cX5_divisor : ByteArray := prog_1_method_24_code
def yX5_divisor : MethodName := ⟨RX5, "divisor", "(II)I"⟩
abbrev cX5_rank : ByteArray := prog_1_method_25_code
def yX5_rank : MethodName := ⟨RX5, "rank", "(II)I"⟩
abbrev cX5_told : ByteArray := prog_1_method_26_code
def yX5_told : MethodName := ⟨RX5, "told", "(IIII)I"⟩
abbrev cX5_change : ByteArray := prog_1_method_27_code
def yX5_change : MethodName := ⟨RX5, "change", "(II)I"⟩
abbrev cX5_isSolvable : ByteArray := prog_1_method_28_code
def yX5_isSolvable : MethodName := ⟨RX5, "isSolvable", "(IIII)Z"⟩
abbrev cX5_restColumn : ByteArray := prog_1_method_29_code
def yX5_restColumn : MethodName := ⟨RX5, "restColumn", "(III)I"⟩
abbrev cX5_rest : ByteArray := prog_1_method_30_code
def yX5_rest : MethodName := ⟨RX5, "rest", "(II)Ljava/lang/String;"⟩
abbrev cX5_restOf : ByteArray := prog_1_method_31_code
def yX5_restOf : MethodName := ⟨RX5, "restOf", "(III)I"⟩
abbrev cX5_house : ByteArray := prog_1_method_32_code
def yX5_house : MethodName := ⟨RX5, "house", "(I)I"⟩
abbrev cX5_knock : ByteArray := prog_1_method_33_code
def yX5_knock : MethodName := ⟨RX5, "knock", "()I"⟩
abbrev cX5_isSound : ByteArray := prog_1_method_34_code
def yX5_isSound : MethodName := ⟨RX5, "isSound", "()Z"⟩
abbrev cX5_digest : ByteArray := prog_1_method_35_code
def yX5_digest : MethodName := ⟨RX5, "digest", "()J"⟩
abbrev cX5_needTable : ByteArray := prog_1_method_36_code
def yX5_needTable : MethodName := ⟨RX5, "needTable", "(I)LGridmender$Grid;"⟩
abbrev cX5_needIndex : ByteArray := prog_1_method_37_code
def yX5_needIndex : MethodName := ⟨RX5, "needIndex", "(Z)V"⟩
abbrev cX5_needArgument : ByteArray := prog_1_method_38_code
def yX5_needArgument : MethodName := ⟨RX5, "needArgument", "(Z)V"⟩
abbrev cX5_needState : ByteArray := prog_1_method_39_code
def yX5_needState : MethodName := ⟨RX5, "needState", "(Z)V"⟩
abbrev cX5_isCount : ByteArray := prog_1_method_40_code
def yX5_isCount : MethodName := ⟨RX5, "isCount", "(I)Z"⟩
abbrev cX5_isForm : ByteArray := prog_1_method_41_code
def yX5_isForm : MethodName := ⟨RX5, "isForm", "(I)Z"⟩
abbrev cX5_tellDone : ByteArray := prog_1_method_42_code
def yX5_tellDone : MethodName := ⟨RX5, "tellDone", "(I)I"⟩
abbrev cX5_tellRefused : ByteArray := prog_1_method_43_code
def yX5_tellRefused : MethodName := ⟨RX5, "tellRefused", "()I"⟩
abbrev cX5_settleChange : ByteArray := prog_1_method_44_code
def yX5_settleChange : MethodName := ⟨RX5, "settleChange", "(LGridmender$Grid;)I"⟩
abbrev cX5_settleForm : ByteArray := prog_1_method_45_code
def yX5_settleForm : MethodName := ⟨RX5, "settleForm", "(LGridmender$Grid;LGridmender$Grid;)I"⟩
abbrev cX5_findForm : ByteArray := prog_1_method_46_code
def yX5_findForm : MethodName := ⟨RX5, "findForm", "(LGridmender$Grid;I)LGridmender$Grid;"⟩
abbrev cX5_leavesRests : ByteArray := prog_1_method_47_code
def yX5_leavesRests : MethodName := ⟨RX5, "leavesRests", "(LGridmender$Grid;)Z"⟩
abbrev cX5_rowNumber : ByteArray := prog_1_method_48_code
def yX5_rowNumber : MethodName := ⟨RX5, "rowNumber", "(I)J"⟩
abbrev cX5_setRowNumber : ByteArray := prog_1_method_49_code
def yX5_setRowNumber : MethodName := ⟨RX5, "setRowNumber", "(IJ)V"⟩
abbrev cX5_countHouse : ByteArray := prog_1_method_50_code
def yX5_countHouse : MethodName := ⟨RX5, "countHouse", "(I)I"⟩
abbrev cX5_countLikePairs : ByteArray := prog_1_method_51_code
def yX5_countLikePairs : MethodName := ⟨RX5, "countLikePairs", "()I"⟩
abbrev cX5_isFirstSound : ByteArray := prog_1_method_52_code
def yX5_isFirstSound : MethodName := ⟨RX5, "isFirstSound", "()Z"⟩
abbrev cX5_isSoundByRowSteps : ByteArray := prog_1_method_53_code
def yX5_isSoundByRowSteps : MethodName := ⟨RX5, "isSoundByRowSteps", "(LGridmender$Grid;)Z"⟩
abbrev cX5_isSoundBySteps : ByteArray := prog_1_method_54_code
def yX5_isSoundBySteps : MethodName := ⟨RX5, "isSoundBySteps", "(LGridmender$Grid;)Z"⟩
abbrev cX5_divideDown : ByteArray := prog_1_method_55_code
def yX5_divideDown : MethodName := ⟨RX5, "divideDown", "(JJ)J"⟩
abbrev cX5_remainder : ByteArray := prog_1_method_56_code
def yX5_remainder : MethodName := ⟨RX5, "remainder", "(JJ)J"⟩
abbrev cX5_divides : ByteArray := prog_1_method_57_code
def yX5_divides : MethodName := ⟨RX5, "divides", "(JJ)Z"⟩
abbrev cX5_greatestCommonDivisor : ByteArray := prog_1_method_58_code
def yX5_greatestCommonDivisor : MethodName := ⟨RX5, "greatestCommonDivisor", "(JJ)J"⟩
def RX6 : String := "GridmenderLaw$Out"
def TX6 : u_T := fun k => match k with
  | 0 => ("GridmenderLaw$Out", "n", "J", false)
  | _ => ("GridmenderLaw$Out", "s", "Ljava/lang/String;", false)
def tyX6 : Nat → FieldType := fun k => match k with
  | 0 => .long
  | _ => .object "java/lang/String"
abbrev wsX60 : List Cond := u_ws RX6 TX6 2
theorem nmX6 : ∀ a, a < 2 → ∀ b, b < 2 → a ≠ b → (TX6 a).2.1 ≠ (TX6 b).2.1 := by decide +kernel
theorem tyX6_ok : ∀ k, k < 2 → parseFieldDescriptor (TX6 k).2.2.1 = some (tyX6 k) := by decide +kernel
abbrev cX6_init : ByteArray := prog_8_method_1_code
def yX6_init : MethodName := ⟨RX6, "<init>", "()V"⟩
def RX7 : String := "GridmenderModel$Grid"
def TX7 : u_T := fun k => match k with
  | 0 => ("GridmenderModel$Grid", "rows", "I", true)
  | 1 => ("GridmenderModel$Grid", "columns", "I", true)
  | _ => ("GridmenderModel$Grid", "its", "[J", true)
def tyX7 : Nat → FieldType := fun k => match k with
  | 0 => .int
  | 1 => .int
  | _ => .array .long
abbrev wsX70 : List Cond := u_ws RX7 TX7 3
theorem nmX7 : ∀ a, a < 3 → ∀ b, b < 3 → a ≠ b → (TX7 a).2.1 ≠ (TX7 b).2.1 := by decide +kernel
theorem tyX7_ok : ∀ k, k < 3 → parseFieldDescriptor (TX7 k).2.2.1 = some (tyX7 k) := by decide +kernel
abbrev cX7_init : ByteArray := prog_10_method_1_code
def yX7_init : MethodName := ⟨RX7, "<init>", "(II)V"⟩
abbrev cX7_at : ByteArray := prog_10_method_2_code
def yX7_at : MethodName := ⟨RX7, "at", "(II)J"⟩
abbrev cX7_put : ByteArray := prog_10_method_3_code
def yX7_put : MethodName := ⟨RX7, "put", "(IIJ)V"⟩
abbrev cX7_copy : ByteArray := prog_10_method_4_code
def yX7_copy : MethodName := ⟨RX7, "copy", "()LGridmenderModel$Grid;"⟩
abbrev cX7_unit : ByteArray := prog_10_method_5_code
def yX7_unit : MethodName := ⟨RX7, "unit", "(I)LGridmenderModel$Grid;"⟩
abbrev cX7_exchangeRows : ByteArray := prog_10_method_6_code
def yX7_exchangeRows : MethodName := ⟨RX7, "exchangeRows", "(II)V"⟩
abbrev cX7_exchangeColumns : ByteArray := prog_10_method_7_code
def yX7_exchangeColumns : MethodName := ⟨RX7, "exchangeColumns", "(II)V"⟩
abbrev cX7_turnRow : ByteArray := prog_10_method_8_code
def yX7_turnRow : MethodName := ⟨RX7, "turnRow", "(I)V"⟩
abbrev cX7_addRow : ByteArray := prog_10_method_9_code
def yX7_addRow : MethodName := ⟨RX7, "addRow", "(IIJ)V"⟩
abbrev cX7_addColumn : ByteArray := prog_10_method_10_code
def yX7_addColumn : MethodName := ⟨RX7, "addColumn", "(IIJ)V"⟩
abbrev cX7_isGreat : ByteArray := prog_10_method_11_code
def yX7_isGreat : MethodName := ⟨RX7, "isGreat", "()Z"⟩
abbrev cX7_isLet : ByteArray := prog_10_method_12_code
def yX7_isLet : MethodName := ⟨RX7, "isLet", "()Z"⟩
abbrev cX7_others : ByteArray := prog_10_method_13_code
def yX7_others : MethodName := ⟨RX7, "others", "()I"⟩
abbrev cX7_isSame : ByteArray := prog_10_method_14_code
def yX7_isSame : MethodName := ⟨RX7, "isSame", "(LGridmenderModel$Grid;)Z"⟩
abbrev cX7_unlike : ByteArray := prog_10_method_15_code
def yX7_unlike : MethodName := ⟨RX7, "unlike", "(LGridmenderModel$Grid;)I"⟩
abbrev cX7_product : ByteArray := prog_10_method_16_code
def yX7_product : MethodName := ⟨RX7, "product", "(LGridmenderModel$Grid;)LGridmenderModel$Grid;"⟩
abbrev cX7_minor : ByteArray := prog_10_method_17_code
def yX7_minor : MethodName := ⟨RX7, "minor", "(II)J"⟩
abbrev cX7_divisor : ByteArray := prog_10_method_18_code
def yX7_divisor : MethodName := ⟨RX7, "divisor", "(I)J"⟩
abbrev cX7_rank : ByteArray := prog_10_method_19_code
def yX7_rank : MethodName := ⟨RX7, "rank", "()I"⟩
def RX8 : String := "GridmenderModel$Stepped"
def TX8 : u_T := fun k => match k with
  | 0 => ("GridmenderModel$Stepped", "w", "LGridmenderModel$Grid;", true)
  | 1 => ("GridmenderModel$Stepped", "c", "LGridmenderModel$Grid;", true)
  | 2 => ("GridmenderModel$Stepped", "side", "I", false)
  | _ => ("GridmenderModel$Stepped", "isGreat", "Z", false)
def tyX8 : Nat → FieldType := fun k => match k with
  | 0 => .object "GridmenderModel$Grid"
  | 1 => .object "GridmenderModel$Grid"
  | 2 => .int
  | _ => .boolean
abbrev wsX80 : List Cond := u_ws RX8 TX8 4
theorem nmX8 : ∀ a, a < 4 → ∀ b, b < 4 → a ≠ b → (TX8 a).2.1 ≠ (TX8 b).2.1 := by decide +kernel
theorem tyX8_ok : ∀ k, k < 4 → parseFieldDescriptor (TX8 k).2.2.1 = some (tyX8 k) := by decide +kernel
abbrev cX8_init : ByteArray := prog_11_method_1_code
def yX8_init : MethodName := ⟨RX8, "<init>", "(LGridmenderModel$Grid;)V"⟩
abbrev cX8_takeOff : ByteArray := prog_11_method_2_code
def yX8_takeOff : MethodName := ⟨RX8, "takeOff", "(III)V"⟩
abbrev cX8_least : ByteArray := prog_11_method_3_code
def yX8_least : MethodName := ⟨RX8, "least", "(II)I"⟩
abbrev cX8_isCleared : ByteArray := prog_11_method_4_code
def yX8_isCleared : MethodName := ⟨RX8, "isCleared", "(II)Z"⟩
abbrev cX8_rank : ByteArray := prog_11_method_5_code
def yX8_rank : MethodName := ⟨RX8, "rank", "()I"⟩
def RX9 : String := "GridmenderModel$Straight"
def TX9 : u_T := fun k => match k with
  | 0 => ("GridmenderModel$Straight", "w", "LGridmenderModel$Grid;", true)
  | 1 => ("GridmenderModel$Straight", "left", "LGridmenderModel$Grid;", true)
  | 2 => ("GridmenderModel$Straight", "right", "LGridmenderModel$Grid;", true)
  | 3 => ("GridmenderModel$Straight", "leftSide", "I", false)
  | 4 => ("GridmenderModel$Straight", "rightSide", "I", false)
  | 5 => ("GridmenderModel$Straight", "rank", "I", false)
  | _ => ("GridmenderModel$Straight", "isGreat", "Z", false)
def tyX9 : Nat → FieldType := fun k => match k with
  | 0 => .object "GridmenderModel$Grid"
  | 1 => .object "GridmenderModel$Grid"
  | 2 => .object "GridmenderModel$Grid"
  | 3 => .int
  | 4 => .int
  | 5 => .int
  | _ => .boolean
abbrev wsX90 : List Cond := u_ws RX9 TX9 7
theorem nmX9 : ∀ a, a < 7 → ∀ b, b < 7 → a ≠ b → (TX9 a).2.1 ≠ (TX9 b).2.1 := by decide +kernel
theorem tyX9_ok : ∀ k, k < 7 → parseFieldDescriptor (TX9 k).2.2.1 = some (tyX9 k) := by decide +kernel
abbrev cX9_init : ByteArray := prog_12_method_1_code
def yX9_init : MethodName := ⟨RX9, "<init>", "(LGridmenderModel$Grid;)V"⟩
abbrev cX9_isLess : ByteArray := prog_12_method_2_code
def yX9_isLess : MethodName := ⟨RX9, "isLess", "(JJ)Z"⟩
abbrev cX9_isCleared : ByteArray := prog_12_method_3_code
def yX9_isCleared : MethodName := ⟨RX9, "isCleared", "(I)Z"⟩
abbrev cX9_bring : ByteArray := prog_12_method_4_code
def yX9_bring : MethodName := ⟨RX9, "bring", "(III)V"⟩
abbrev cX9_look : ByteArray := prog_12_method_5_code
def yX9_look : MethodName := ⟨RX9, "look", "()V"⟩
abbrev cX9_takeOff : ByteArray := prog_12_method_6_code
def yX9_takeOff : MethodName := ⟨RX9, "takeOff", "(I)V"⟩
abbrev cX9_isAlone : ByteArray := prog_12_method_7_code
def yX9_isAlone : MethodName := ⟨RX9, "isAlone", "(I)Z"⟩
abbrev cX9_isDividing : ByteArray := prog_12_method_8_code
def yX9_isDividing : MethodName := ⟨RX9, "isDividing", "(I)Z"⟩
def RX10 : String := "GridmenderModel"
def TX10 : u_T := fun k => match k with
  | 0 => ("GridmenderModel", "tables", "[LGridmenderModel$Grid;", true)
  | 1 => ("GridmenderModel", "done", "I", false)
  | 2 => ("GridmenderModel", "refused", "I", false)
  | 3 => ("GridmenderModel", "knocks", "I", false)
  | _ => ("GridmenderModel", "thrown", "I", false)
def tyX10 : Nat → FieldType := fun k => match k with
  | 0 => .array (.object "GridmenderModel$Grid")
  | 1 => .int
  | 2 => .int
  | 3 => .int
  | _ => .int
abbrev wsX100 : List Cond := u_ws RX10 TX10 5
theorem nmX10 : ∀ a, a < 5 → ∀ b, b < 5 → a ≠ b → (TX10 a).2.1 ≠ (TX10 b).2.1 := by decide +kernel
theorem tyX10_ok : ∀ k, k < 5 → parseFieldDescriptor (TX10 k).2.2.1 = some (tyX10 k) := by decide +kernel
abbrev cX10_gcd : ByteArray := prog_9_method_1_code
def yX10_gcd : MethodName := ⟨RX10, "gcd", "(JJ)J"⟩
abbrev cX10_init : ByteArray := prog_9_method_2_code
def yX10_init : MethodName := ⟨RX10, "<init>", "()V"⟩
abbrev cX10_thrown : ByteArray := prog_9_method_3_code
def yX10_thrown : MethodName := ⟨RX10, "thrown", "()I"⟩
abbrev cX10_isThrown : ByteArray := prog_9_method_4_code
def yX10_isThrown : MethodName := ⟨RX10, "isThrown", "(ZZZ)Z"⟩
abbrev cX10_isThrown_ : ByteArray := prog_9_method_5_code
def yX10_isThrown_ : MethodName := ⟨RX10, "isThrown", "(ZZ)Z"⟩
abbrev cX10_isThrown__ : ByteArray := prog_9_method_6_code
def yX10_isThrown__ : MethodName := ⟨RX10, "isThrown", "(Z)Z"⟩
abbrev cX10_told : ByteArray := prog_9_method_7_code
def yX10_told : MethodName := ⟨RX10, "told", "(I)I"⟩
abbrev cX10_no : ByteArray := prog_9_method_8_code
def yX10_no : MethodName := ⟨RX10, "no", "()I"⟩
abbrev cX10_isTable : ByteArray := prog_9_method_9_code
def yX10_isTable : MethodName := ⟨RX10, "isTable", "(I)Z"⟩
abbrev cX10_isRow : ByteArray := prog_9_method_10_code
def yX10_isRow : MethodName := ⟨RX10, "isRow", "(II)Z"⟩
abbrev cX10_isColumn : ByteArray := prog_9_method_11_code
def yX10_isColumn : MethodName := ⟨RX10, "isColumn", "(II)Z"⟩
abbrev cX10_isLine : ByteArray := prog_9_method_12_code
def yX10_isLine : MethodName := ⟨RX10, "isLine", "(IZI)Z"⟩
abbrev cX10_isShort : ByteArray := prog_9_method_13_code
def yX10_isShort : MethodName := ⟨RX10, "isShort", "(I)Z"⟩
abbrev cX10_become : ByteArray := prog_9_method_14_code
def yX10_become : MethodName := ⟨RX10, "become", "(ILGridmenderModel$Grid;)I"⟩
abbrev cX10_lay : ByteArray := prog_9_method_15_code
def yX10_lay : MethodName := ⟨RX10, "lay", "(ILGridmenderModel$Grid;)I"⟩
abbrev cX10_make : ByteArray := prog_9_method_16_code
def yX10_make : MethodName := ⟨RX10, "make", "(III)I"⟩
abbrev cX10_unit : ByteArray := prog_9_method_17_code
def yX10_unit : MethodName := ⟨RX10, "unit", "(II)I"⟩
abbrev cX10_put : ByteArray := prog_9_method_18_code
def yX10_put : MethodName := ⟨RX10, "put", "(IIII)I"⟩
abbrev cX10_sow : ByteArray := prog_9_method_19_code
def yX10_sow : MethodName := ⟨RX10, "sow", "(III)I"⟩
abbrev cX10_copy : ByteArray := prog_9_method_20_code
def yX10_copy : MethodName := ⟨RX10, "copy", "(II)I"⟩
abbrev cX10_swap : ByteArray := prog_9_method_21_code
def yX10_swap : MethodName := ⟨RX10, "swap", "(II)I"⟩
abbrev cX10_flipped : ByteArray := prog_9_method_22_code
def yX10_flipped : MethodName := ⟨RX10, "flipped", "(LGridmenderModel$Grid;)LGridmenderModel$Grid;"⟩
abbrev cX10_flip : ByteArray := prog_9_method_23_code
def yX10_flip : MethodName := ⟨RX10, "flip", "(I)I"⟩
abbrev cX10_changed : ByteArray := prog_9_method_24_code
def yX10_changed : MethodName := ⟨RX10, "changed", "(ILGridmenderModel$Grid;)I"⟩
abbrev cX10_exchange : ByteArray := prog_9_method_25_code
def yX10_exchange : MethodName := ⟨RX10, "exchange", "(IZII)I"⟩
abbrev cX10_turn : ByteArray := prog_9_method_26_code
def yX10_turn : MethodName := ⟨RX10, "turn", "(IZI)I"⟩
abbrev cX10_add : ByteArray := prog_9_method_27_code
def yX10_add : MethodName := ⟨RX10, "add", "(IZIII)I"⟩
abbrev cX10_shaped : ByteArray := prog_9_method_28_code
def yX10_shaped : MethodName := ⟨RX10, "shaped", "(LGridmenderModel$Grid;IIII)LGridmenderModel$Grid;"⟩
abbrev cX10_widen : ByteArray := prog_9_method_29_code
def yX10_widen : MethodName := ⟨RX10, "widen", "(IZ)I"⟩
abbrev cX10_drop : ByteArray := prog_9_method_30_code
def yX10_drop : MethodName := ⟨RX10, "drop", "(IZI)I"⟩
abbrev cX10_sum : ByteArray := prog_9_method_31_code
def yX10_sum : MethodName := ⟨RX10, "sum", "(IIZI)I"⟩
abbrev cX10_multiply : ByteArray := prog_9_method_32_code
def yX10_multiply : MethodName := ⟨RX10, "multiply", "(III)I"⟩
abbrev cX10_toldOf : ByteArray := prog_9_method_33_code
def yX10_toldOf : MethodName := ⟨RX10, "toldOf", "(LGridmenderModel$Grid;I)LGridmenderModel$Grid;"⟩
abbrev cX10_take : ByteArray := prog_9_method_34_code
def yX10_take : MethodName := ⟨RX10, "take", "(III)I"⟩
abbrev cX10_column : ByteArray := prog_9_method_35_code
def yX10_column : MethodName := ⟨RX10, "column", "(II)LGridmenderModel$Grid;"⟩
abbrev cX10_goes : ByteArray := prog_9_method_36_code
def yX10_goes : MethodName := ⟨RX10, "goes", "(LGridmenderModel$Straight;LGridmenderModel$Grid;)Z"⟩
abbrev cX10_solve : ByteArray := prog_9_method_37_code
def yX10_solve : MethodName := ⟨RX10, "solve", "(IIII)I"⟩
abbrev cX10_shape : ByteArray := prog_9_method_38_code
def yX10_shape : MethodName := ⟨RX10, "shape", "(IZ)I"⟩
abbrev cX10_at : ByteArray := prog_9_method_39_code
def yX10_at : MethodName := ⟨RX10, "at", "(III)I"⟩
abbrev cX10_text : ByteArray := prog_9_method_40_code
def yX10_text : MethodName := ⟨RX10, "text", "(I)Ljava/lang/String;"⟩
abbrev cX10_isSame : ByteArray := prog_9_method_41_code
def yX10_isSame : MethodName := ⟨RX10, "isSame", "(II)Z"⟩
abbrev cX10_determinantOf : ByteArray := prog_9_method_42_code
def yX10_determinantOf : MethodName := ⟨RX10, "determinantOf", "(LGridmenderModel$Grid;)J"⟩
abbrev cX10_bySequences : ByteArray := prog_9_method_43_code
def yX10_bySequences : MethodName := ⟨RX10, "bySequences", "(LGridmenderModel$Grid;II)J"⟩
abbrev cX10_determinant : ByteArray := prog_9_method_44_code
def yX10_determinant : MethodName := ⟨RX10, "determinant", "(II)I"⟩
abbrev cX10_minor : ByteArray := prog_9_method_45_code
def yX10_minor : MethodName := ⟨RX10, "minor", "(III)I"⟩
abbrev cX10_divisor : ByteArray := prog_9_method_46_code
def yX10_divisor : MethodName := ⟨RX10, "divisor", "(II)I"⟩
abbrev cX10_rank : ByteArray := prog_9_method_47_code
def yX10_rank : MethodName := ⟨RX10, "rank", "(II)I"⟩
abbrev cX10_told_ : ByteArray := prog_9_method_48_code
def yX10_told_ : MethodName := ⟨RX10, "told", "(IIII)I"⟩
abbrev cX10_change : ByteArray := prog_9_method_49_code
def yX10_change : MethodName := ⟨RX10, "change", "(II)I"⟩
abbrev cX10_isSolvable : ByteArray := prog_9_method_50_code
def yX10_isSolvable : MethodName := ⟨RX10, "isSolvable", "(IIII)Z"⟩
abbrev cX10_isByDivisors : ByteArray := prog_9_method_51_code
def yX10_isByDivisors : MethodName := ⟨RX10, "isByDivisors", "(LGridmenderModel$Grid;LGridmenderModel$Grid;)Z"⟩
abbrev cX10_restColumn : ByteArray := prog_9_method_52_code
def yX10_restColumn : MethodName := ⟨RX10, "restColumn", "(III)I"⟩
abbrev cX10_leaving : ByteArray := prog_9_method_53_code
def yX10_leaving : MethodName := ⟨RX10, "leaving", "(LGridmenderModel$Grid;)LGridmenderModel$Grid;"⟩
abbrev cX10_rest : ByteArray := prog_9_method_54_code
def yX10_rest : MethodName := ⟨RX10, "rest", "(II)Ljava/lang/String;"⟩
abbrev cX10_restOf : ByteArray := prog_9_method_55_code
def yX10_restOf : MethodName := ⟨RX10, "restOf", "(III)I"⟩
abbrev cX10_houseNow : ByteArray := prog_9_method_56_code
def yX10_houseNow : MethodName := ⟨RX10, "houseNow", "(I)I"⟩
abbrev cX10_house : ByteArray := prog_9_method_57_code
def yX10_house : MethodName := ⟨RX10, "house", "(I)I"⟩
abbrev cX10_knock : ByteArray := prog_9_method_58_code
def yX10_knock : MethodName := ⟨RX10, "knock", "()I"⟩
abbrev cX10_isSoundNow : ByteArray := prog_9_method_59_code
def yX10_isSoundNow : MethodName := ⟨RX10, "isSoundNow", "()Z"⟩
abbrev cX10_isSound : ByteArray := prog_9_method_60_code
def yX10_isSound : MethodName := ⟨RX10, "isSound", "()Z"⟩
abbrev cX10_digest : ByteArray := prog_9_method_61_code
def yX10_digest : MethodName := ⟨RX10, "digest", "()J"⟩
def RJ5 : String := "java/lang/AbstractStringBuilder"
def TJ5 : u_T := fun k => match k with
  | _ => ("", "", "", false)
def tyJ5 : Nat → FieldType := fun k => match k with
  | _ => .int
abbrev wsJ50 : List Cond := u_ws RJ5 TJ5 0
theorem nmJ5 : ∀ a, a < 0 → ∀ b, b < 0 → a ≠ b → (TJ5 a).2.1 ≠ (TJ5 b).2.1 := by decide +kernel
theorem tyJ5_ok : ∀ k, k < 0 → parseFieldDescriptor (TJ5 k).2.2.1 = some (tyJ5 k) := by decide +kernel
abbrev cJ5_init_d00df : ByteArray := prog_13_method_2_code
def yJ5_init_d00df : MethodName := ⟨RJ5, "<init>", "(I)V"⟩
abbrev cJ5_length_8abf5 : ByteArray := prog_13_method_6_code
def yJ5_length_8abf5 : MethodName := ⟨RJ5, "length", "()I"⟩
abbrev cJ5_ensureCapacityInternal_d00df : ByteArray := prog_13_method_9_code
def yJ5_ensureCapacityInternal_d00df : MethodName := ⟨RJ5, "ensureCapacityInternal", "(I)V"⟩
abbrev cJ5_newCapacity_0f7a4 : ByteArray := prog_13_method_10_code
def yJ5_newCapacity_0f7a4 : MethodName := ⟨RJ5, "newCapacity", "(I)I"⟩
abbrev cJ5_inflate_da8c8 : ByteArray := prog_13_method_11_code
def yJ5_inflate_da8c8 : MethodName := ⟨RJ5, "inflate", "()V"⟩
abbrev cJ5_append_cf1ce : ByteArray := prog_13_method_22_code
def yJ5_append_cf1ce : MethodName := ⟨RJ5, "append", "(Ljava/lang/String;)Ljava/lang/AbstractStringBuilder;"⟩
abbrev cJ5_appendNull_278bc : ByteArray := prog_13_method_26_code
def yJ5_appendNull_278bc : MethodName := ⟨RJ5, "appendNull", "()Ljava/lang/AbstractStringBuilder;"⟩
abbrev cJ5_append_3fe6f : ByteArray := prog_13_method_31_code
def yJ5_append_3fe6f : MethodName := ⟨RJ5, "append", "(C)Ljava/lang/AbstractStringBuilder;"⟩
abbrev cJ5_append_c97b9 : ByteArray := prog_13_method_32_code
def yJ5_append_c97b9 : MethodName := ⟨RJ5, "append", "(I)Ljava/lang/AbstractStringBuilder;"⟩
abbrev cJ5_append_66267 : ByteArray := prog_13_method_33_code
def yJ5_append_66267 : MethodName := ⟨RJ5, "append", "(J)Ljava/lang/AbstractStringBuilder;"⟩
abbrev cJ5_getValue_6d5f1 : ByteArray := prog_13_method_64_code
def yJ5_getValue_6d5f1 : MethodName := ⟨RJ5, "getValue", "()[B"⟩
abbrev cJ5_isLatin1_aae02 : ByteArray := prog_13_method_68_code
def yJ5_isLatin1_aae02 : MethodName := ⟨RJ5, "isLatin1", "()Z"⟩
abbrev cJ5_inflateIfNeededFor_a7421 : ByteArray := prog_13_method_71_code
def yJ5_inflateIfNeededFor_a7421 : MethodName := ⟨RJ5, "inflateIfNeededFor", "(Ljava/lang/String;)V"⟩
abbrev cJ5_putStringAt_47b60 : ByteArray := prog_13_method_73_code
def yJ5_putStringAt_47b60 : MethodName := ⟨RJ5, "putStringAt", "(ILjava/lang/String;)V"⟩
def RJx8e188 : String := "java/lang/Cloneable"
def TJx8e188 : u_T := fun k => match k with
  | _ => ("", "", "", false)
def tyJx8e188 : Nat → FieldType := fun k => match k with
  | _ => .int
theorem nmJx8e188 : ∀ a, a < 0 → ∀ b, b < 0 → a ≠ b → (TJx8e188 a).2.1 ≠ (TJx8e188 b).2.1 := by decide +kernel
theorem tyJx8e188_ok : ∀ k, k < 0 → parseFieldDescriptor (TJx8e188 k).2.2.1 = some (tyJx8e188 k) := by decide +kernel
def RJ6 : String := "java/lang/Integer"
def TJ6 : u_T := fun k => match k with
  | _ => ("", "", "", false)
def tyJ6 : Nat → FieldType := fun k => match k with
  | _ => .int
abbrev wsJ60 : List Cond := u_ws RJ6 TJ6 0
theorem nmJ6 : ∀ a, a < 0 → ∀ b, b < 0 → a ≠ b → (TJ6 a).2.1 ≠ (TJ6 b).2.1 := by decide +kernel
theorem tyJ6_ok : ∀ k, k < 0 → parseFieldDescriptor (TJ6 k).2.2.1 = some (tyJ6 k) := by decide +kernel
abbrev cJ6_getChars_ba4f3 : ByteArray := prog_19_method_12_code
def yJ6_getChars_ba4f3 : MethodName := ⟨RJ6, "getChars", "(II[B)I"⟩
abbrev cJ6_stringSize_0f7a4 : ByteArray := prog_19_method_13_code
def yJ6_stringSize_0f7a4 : MethodName := ⟨RJ6, "stringSize", "(I)I"⟩
abbrev cJ6_numberOfTrailingZeros_0f7a4 : ByteArray := prog_19_method_48_code
def yJ6_numberOfTrailingZeros_0f7a4 : MethodName := ⟨RJ6, "numberOfTrailingZeros", "(I)I"⟩
abbrev cJ6_bitCount_0f7a4 : ByteArray := prog_19_method_49_code
def yJ6_bitCount_0f7a4 : MethodName := ⟨RJ6, "bitCount", "(I)I"⟩
def RJ13 : String := "java/lang/Long"
def TJ13 : u_T := fun k => match k with
  | _ => ("", "", "", false)
def tyJ13 : Nat → FieldType := fun k => match k with
  | _ => .int
abbrev wsJ130 : List Cond := u_ws RJ13 TJ13 0
theorem nmJ13 : ∀ a, a < 0 → ∀ b, b < 0 → a ≠ b → (TJ13 a).2.1 ≠ (TJ13 b).2.1 := by decide +kernel
theorem tyJ13_ok : ∀ k, k < 0 → parseFieldDescriptor (TJ13 k).2.2.1 = some (tyJ13 k) := by decide +kernel
abbrev cJ13_getChars_11360 : ByteArray := prog_20_method_14_code
def yJ13_getChars_11360 : MethodName := ⟨RJ13, "getChars", "(JI[B)I"⟩
abbrev cJ13_stringSize_95d88 : ByteArray := prog_20_method_15_code
def yJ13_stringSize_95d88 : MethodName := ⟨RJ13, "stringSize", "(J)I"⟩
def RJ9 : String := "java/lang/Math"
def TJ9 : u_T := fun k => match k with
  | _ => ("", "", "", false)
def tyJ9 : Nat → FieldType := fun k => match k with
  | _ => .int
abbrev wsJ90 : List Cond := u_ws RJ9 TJ9 0
theorem nmJ9 : ∀ a, a < 0 → ∀ b, b < 0 → a ≠ b → (TJ9 a).2.1 ≠ (TJ9 b).2.1 := by decide +kernel
theorem tyJ9_ok : ∀ k, k < 0 → parseFieldDescriptor (TJ9 k).2.2.1 = some (tyJ9 k) := by decide +kernel
abbrev cJ9_floorDiv_f86c9 : ByteArray := prog_21_method_49_code
def yJ9_floorDiv_f86c9 : MethodName := ⟨RJ9, "floorDiv", "(JJ)J"⟩
abbrev cJ9_floorMod_f86c9 : ByteArray := prog_21_method_52_code
def yJ9_floorMod_f86c9 : MethodName := ⟨RJ9, "floorMod", "(JJ)J"⟩
abbrev cJ9_abs_067f4 : ByteArray := prog_21_method_61_code
def yJ9_abs_067f4 : MethodName := ⟨RJ9, "abs", "(J)J"⟩
abbrev cJ9_max_7cf53 : ByteArray := prog_21_method_65_code
def yJ9_max_7cf53 : MethodName := ⟨RJ9, "max", "(II)I"⟩
abbrev cJ9_min_7cf53 : ByteArray := prog_21_method_69_code
def yJ9_min_7cf53 : MethodName := ⟨RJ9, "min", "(II)I"⟩
def RJ0 : String := "java/lang/String"
def TJ0 : u_T := fun k => match k with
  | 0 => ("java/lang/String", "value", "[B", true)
  | 1 => ("java/lang/String", "coder", "B", true)
  | 2 => ("java/lang/String", "hash", "I", false)
  | _ => ("java/lang/String", "hashIsZero", "Z", false)
def tyJ0 : Nat → FieldType := fun k => match k with
  | 0 => .array .byte
  | 1 => .byte
  | 2 => .int
  | _ => .boolean
abbrev wsJ00 : List Cond := u_ws RJ0 TJ0 4
theorem nmJ0 : ∀ a, a < 4 → ∀ b, b < 4 → a ≠ b → (TJ0 a).2.1 ≠ (TJ0 b).2.1 := by decide +kernel
theorem tyJ0_ok : ∀ k, k < 4 → parseFieldDescriptor (TJ0 k).2.2.1 = some (tyJ0 k) := by decide +kernel
abbrev cJ0_init_81219 : ByteArray := prog_23_method_53_code
def yJ0_init_81219 : MethodName := ⟨RJ0, "<init>", "(Ljava/lang/StringBuilder;)V"⟩
abbrev cJ0_length_8abf5 : ByteArray := prog_23_method_54_code
def yJ0_length_8abf5 : MethodName := ⟨RJ0, "length", "()I"⟩
abbrev cJ0_getBytes_840e7 : ByteArray := prog_23_method_147_code
def yJ0_getBytes_840e7 : MethodName := ⟨RJ0, "getBytes", "([BIB)V"⟩
abbrev cJ0_init_db425 : ByteArray := prog_23_method_150_code
def yJ0_init_db425 : MethodName := ⟨RJ0, "<init>", "(Ljava/lang/AbstractStringBuilder;Ljava/lang/Void;)V"⟩
abbrev cJ0_coder_7d493 : ByteArray := prog_23_method_152_code
def yJ0_coder_7d493 : MethodName := ⟨RJ0, "coder", "()B"⟩
abbrev cJ0_checkIndex_df160 : ByteArray := prog_23_method_155_code
def yJ0_checkIndex_df160 : MethodName := ⟨RJ0, "checkIndex", "(II)V"⟩
abbrev cJ0_checkBoundsOffCount_cabcc : ByteArray := prog_23_method_157_code
def yJ0_checkBoundsOffCount_cabcc : MethodName := ⟨RJ0, "checkBoundsOffCount", "(III)I"⟩
abbrev cJ0_checkBoundsBeginEnd_23922 : ByteArray := prog_23_method_158_code
def yJ0_checkBoundsBeginEnd_23922 : MethodName := ⟨RJ0, "checkBoundsBeginEnd", "(III)V"⟩
def RJ4 : String := "java/lang/StringBuilder"
def TJ4 : u_T := fun k => match k with
  | 0 => ("java/lang/AbstractStringBuilder", "value", "[B", false)
  | 1 => ("java/lang/AbstractStringBuilder", "coder", "B", false)
  | 2 => ("java/lang/AbstractStringBuilder", "maybeLatin1", "Z", false)
  | _ => ("java/lang/AbstractStringBuilder", "count", "I", false)
def tyJ4 : Nat → FieldType := fun k => match k with
  | 0 => .array .byte
  | 1 => .byte
  | 2 => .boolean
  | _ => .int
abbrev wsJ40 : List Cond := u_ws RJ4 TJ4 4
theorem nmJ4 : ∀ a, a < 4 → ∀ b, b < 4 → a ≠ b → (TJ4 a).2.1 ≠ (TJ4 b).2.1 := by decide +kernel
theorem tyJ4_ok : ∀ k, k < 4 → parseFieldDescriptor (TJ4 k).2.2.1 = some (tyJ4 k) := by decide +kernel
abbrev cJ4_init_da8c8 : ByteArray := prog_24_method_1_code
def yJ4_init_da8c8 : MethodName := ⟨RJ4, "<init>", "()V"⟩
abbrev cJ4_append_15ec4 : ByteArray := prog_24_method_7_code
def yJ4_append_15ec4 : MethodName := ⟨RJ4, "append", "(Ljava/lang/String;)Ljava/lang/StringBuilder;"⟩
abbrev cJ4_append_cf468 : ByteArray := prog_24_method_14_code
def yJ4_append_cf468 : MethodName := ⟨RJ4, "append", "(C)Ljava/lang/StringBuilder;"⟩
abbrev cJ4_append_bf812 : ByteArray := prog_24_method_15_code
def yJ4_append_bf812 : MethodName := ⟨RJ4, "append", "(I)Ljava/lang/StringBuilder;"⟩
abbrev cJ4_append_f7089 : ByteArray := prog_24_method_16_code
def yJ4_append_f7089 : MethodName := ⟨RJ4, "append", "(J)Ljava/lang/StringBuilder;"⟩
abbrev cJ4_toString_0e30d : ByteArray := prog_24_method_42_code
def yJ4_toString_0e30d : MethodName := ⟨RJ4, "toString", "()Ljava/lang/String;"⟩
abbrev cJ4_length_8abf5 : ByteArray := prog_24_method_93_code
def yJ4_length_8abf5 : MethodName := ⟨RJ4, "length", "()I"⟩
def RJ1 : String := "java/lang/StringLatin1"
def TJ1 : u_T := fun k => match k with
  | _ => ("", "", "", false)
def tyJ1 : Nat → FieldType := fun k => match k with
  | _ => .int
abbrev wsJ10 : List Cond := u_ws RJ1 TJ1 0
theorem nmJ1 : ∀ a, a < 0 → ∀ b, b < 0 → a ≠ b → (TJ1 a).2.1 ≠ (TJ1 b).2.1 := by decide +kernel
theorem tyJ1_ok : ∀ k, k < 0 → parseFieldDescriptor (TJ1 k).2.2.1 = some (tyJ1 k) := by decide +kernel
abbrev cJ1_canEncode_fc78d : ByteArray := prog_25_method_3_code
def yJ1_canEncode_fc78d : MethodName := ⟨RJ1, "canEncode", "(C)Z"⟩
abbrev cJ1_inflate_0e8fd : ByteArray := prog_25_method_50_code
def yJ1_inflate_0e8fd : MethodName := ⟨RJ1, "inflate", "([BI[BII)V"⟩
def RJ2 : String := "java/lang/StringUTF16"
def TJ2 : u_T := fun k => match k with
  | _ => ("", "", "", false)
def tyJ2 : Nat → FieldType := fun k => match k with
  | _ => .int
abbrev wsJ20 : List Cond := u_ws RJ2 TJ2 0
theorem nmJ2 : ∀ a, a < 0 → ∀ b, b < 0 → a ≠ b → (TJ2 a).2.1 ≠ (TJ2 b).2.1 := by decide +kernel
theorem tyJ2_ok : ∀ k, k < 0 → parseFieldDescriptor (TJ2 k).2.2.1 = some (tyJ2 k) := by decide +kernel
abbrev cJ2_newBytesFor_77867 : ByteArray := prog_26_method_2_code
def yJ2_newBytesFor_77867 : MethodName := ⟨RJ2, "newBytesFor", "(I)[B"⟩
abbrev cJ2_newBytesLength_0f7a4 : ByteArray := prog_26_method_3_code
def yJ2_newBytesLength_0f7a4 : MethodName := ⟨RJ2, "newBytesLength", "(I)I"⟩
abbrev cJ2_putChar_b72d1 : ByteArray := prog_26_method_4_code
def yJ2_putChar_b72d1 : MethodName := ⟨RJ2, "putChar", "([BII)V"⟩
abbrev cJ2_getChar_3b067 : ByteArray := prog_26_method_5_code
def yJ2_getChar_3b067 : MethodName := ⟨RJ2, "getChar", "([BI)C"⟩
abbrev cJ2_length_9d52b : ByteArray := prog_26_method_6_code
def yJ2_length_9d52b : MethodName := ⟨RJ2, "length", "([B)I"⟩
abbrev cJ2_coderFromArrayLen_85cad : ByteArray := prog_26_method_15_code
def yJ2_coderFromArrayLen_85cad : MethodName := ⟨RJ2, "coderFromArrayLen", "([BI)B"⟩
abbrev cJ2_compress_39247 : ByteArray := prog_26_method_17_code
def yJ2_compress_39247 : MethodName := ⟨RJ2, "compress", "([BII)[B"⟩
abbrev cJ2_compress_5af95 : ByteArray := prog_26_method_22_code
def yJ2_compress_5af95 : MethodName := ⟨RJ2, "compress", "([BI[BII)I"⟩
abbrev cJ2_putCharSB_b72d1 : ByteArray := prog_26_method_71_code
def yJ2_putCharSB_b72d1 : MethodName := ⟨RJ2, "putCharSB", "([BII)V"⟩
abbrev cJ2_getChars_46870 : ByteArray := prog_26_method_77_code
def yJ2_getChars_46870 : MethodName := ⟨RJ2, "getChars", "(III[B)I"⟩
abbrev cJ2_getChars_1ba55 : ByteArray := prog_26_method_78_code
def yJ2_getChars_1ba55 : MethodName := ⟨RJ2, "getChars", "(JII[B)I"⟩
abbrev cJ2_putCharsAt_cd4e5 : ByteArray := prog_26_method_81_code
def yJ2_putCharsAt_cd4e5 : MethodName := ⟨RJ2, "putCharsAt", "([BICCCC)I"⟩
abbrev cJ2_inflate_0e8fd : ByteArray := prog_26_method_86_code
def yJ2_inflate_0e8fd : MethodName := ⟨RJ2, "inflate", "([BI[BII)V"⟩
abbrev cJ2_getChars_ba4f3 : ByteArray := prog_26_method_89_code
def yJ2_getChars_ba4f3 : MethodName := ⟨RJ2, "getChars", "(II[B)I"⟩
abbrev cJ2_getChars_11360 : ByteArray := prog_26_method_90_code
def yJ2_getChars_11360 : MethodName := ⟨RJ2, "getChars", "(JI[B)I"⟩
abbrev cJ2_checkIndex_2214a : ByteArray := prog_26_method_91_code
def yJ2_checkIndex_2214a : MethodName := ⟨RJ2, "checkIndex", "(I[B)V"⟩
abbrev cJ2_checkBoundsBeginEnd_d044e : ByteArray := prog_26_method_93_code
def yJ2_checkBoundsBeginEnd_d044e : MethodName := ⟨RJ2, "checkBoundsBeginEnd", "(II[B)V"⟩
abbrev cJ2_checkBoundsOffCount_d044e : ByteArray := prog_26_method_94_code
def yJ2_checkBoundsOffCount_d044e : MethodName := ⟨RJ2, "checkBoundsOffCount", "(II[B)V"⟩
def RJ10 : String := "java/lang/System"
def TJ10 : u_T := fun k => match k with
  | _ => ("", "", "", false)
def tyJ10 : Nat → FieldType := fun k => match k with
  | _ => .int
abbrev wsJ100 : List Cond := u_ws RJ10 TJ10 0
theorem nmJ10 : ∀ a, a < 0 → ∀ b, b < 0 → a ≠ b → (TJ10 a).2.1 ≠ (TJ10 b).2.1 := by decide +kernel
theorem tyJ10_ok : ∀ k, k < 0 → parseFieldDescriptor (TJ10 k).2.2.1 = some (tyJ10 k) := by decide +kernel
def RJ7 : String := "java/util/Arrays"
def TJ7 : u_T := fun k => match k with
  | _ => ("", "", "", false)
def tyJ7 : Nat → FieldType := fun k => match k with
  | _ => .int
abbrev wsJ70 : List Cond := u_ws RJ7 TJ7 0
theorem nmJ7 : ∀ a, a < 0 → ∀ b, b < 0 → a ≠ b → (TJ7 a).2.1 ≠ (TJ7 b).2.1 := by decide +kernel
theorem tyJ7_ok : ∀ k, k < 0 → parseFieldDescriptor (TJ7 k).2.2.1 = some (tyJ7 k) := by decide +kernel
abbrev cJ7_copyOf_9075b : ByteArray := prog_29_method_121_code
def yJ7_copyOf_9075b : MethodName := ⟨RJ7, "copyOf", "([BI)[B"⟩
abbrev cJ7_checkLength_df160 : ByteArray := prog_29_method_131_code
def yJ7_checkLength_df160 : MethodName := ⟨RJ7, "checkLength", "(II)V"⟩
abbrev cJ7_copyOfRange_39247 : ByteArray := prog_29_method_132_code
def yJ7_copyOfRange_39247 : MethodName := ⟨RJ7, "copyOfRange", "([BII)[B"⟩
abbrev cJ7_copyOfRangeByte_39247 : ByteArray := prog_29_method_133_code
def yJ7_copyOfRangeByte_39247 : MethodName := ⟨RJ7, "copyOfRangeByte", "([BII)[B"⟩
def RJ8 : String := "jdk/internal/util/ArraysSupport"
def TJ8 : u_T := fun k => match k with
  | _ => ("", "", "", false)
def tyJ8 : Nat → FieldType := fun k => match k with
  | _ => .int
abbrev wsJ80 : List Cond := u_ws RJ8 TJ8 0
theorem nmJ8 : ∀ a, a < 0 → ∀ b, b < 0 → a ≠ b → (TJ8 a).2.1 ≠ (TJ8 b).2.1 := by decide +kernel
theorem tyJ8_ok : ∀ k, k < 0 → parseFieldDescriptor (TJ8 k).2.2.1 = some (tyJ8 k) := by decide +kernel
abbrev cJ8_newLength_cabcc : ByteArray := prog_30_method_27_code
def yJ8_newLength_cabcc : MethodName := ⟨RJ8, "newLength", "(III)I"⟩
abbrev cJ8_hugeLength_7cf53 : ByteArray := prog_30_method_28_code
def yJ8_hugeLength_7cf53 : MethodName := ⟨RJ8, "hugeLength", "(II)I"⟩
def RJ3 : String := "jdk/internal/util/Preconditions"
def TJ3 : u_T := fun k => match k with
  | _ => ("", "", "", false)
def tyJ3 : Nat → FieldType := fun k => match k with
  | _ => .int
abbrev wsJ30 : List Cond := u_ws RJ3 TJ3 0
theorem nmJ3 : ∀ a, a < 0 → ∀ b, b < 0 → a ≠ b → (TJ3 a).2.1 ≠ (TJ3 b).2.1 := by decide +kernel
theorem tyJ3_ok : ∀ k, k < 0 → parseFieldDescriptor (TJ3 k).2.2.1 = some (tyJ3 k) := by decide +kernel
abbrev cJ3_checkIndex_8e157 : ByteArray := prog_31_method_11_code
def yJ3_checkIndex_8e157 : MethodName := ⟨RJ3, "checkIndex", "(IILjava/util/function/BiFunction;)I"⟩
abbrev cJ3_checkFromToIndex_8c36e : ByteArray := prog_31_method_12_code
def yJ3_checkFromToIndex_8c36e : MethodName := ⟨RJ3, "checkFromToIndex", "(IIILjava/util/function/BiFunction;)I"⟩
abbrev cJ3_checkFromIndexSize_8c36e : ByteArray := prog_31_method_13_code
def yJ3_checkFromIndexSize_8c36e : MethodName := ⟨RJ3, "checkFromIndexSize", "(IIILjava/util/function/BiFunction;)I"⟩
def RL : String := "GridmenderLaw"
abbrev cL_make : ByteArray := method_2_code
def yL_make : MethodName := ⟨RL, "make", "(LGridmender;IIILGridmenderLaw$Out;)I"⟩
abbrev cL_unit : ByteArray := method_3_code
def yL_unit : MethodName := ⟨RL, "unit", "(LGridmender;IILGridmenderLaw$Out;)I"⟩
abbrev cL_put : ByteArray := method_4_code
def yL_put : MethodName := ⟨RL, "put", "(LGridmender;IIIILGridmenderLaw$Out;)I"⟩
abbrev cL_sow : ByteArray := method_5_code
def yL_sow : MethodName := ⟨RL, "sow", "(LGridmender;IIILGridmenderLaw$Out;)I"⟩
abbrev cL_copy : ByteArray := method_6_code
def yL_copy : MethodName := ⟨RL, "copy", "(LGridmender;IILGridmenderLaw$Out;)I"⟩
abbrev cL_swap : ByteArray := method_7_code
def yL_swap : MethodName := ⟨RL, "swap", "(LGridmender;IILGridmenderLaw$Out;)I"⟩
abbrev cL_flip : ByteArray := method_8_code
def yL_flip : MethodName := ⟨RL, "flip", "(LGridmender;ILGridmenderLaw$Out;)I"⟩
abbrev cL_exchange : ByteArray := method_9_code
def yL_exchange : MethodName := ⟨RL, "exchange", "(LGridmender;IZIILGridmenderLaw$Out;)I"⟩
abbrev cL_turn : ByteArray := method_10_code
def yL_turn : MethodName := ⟨RL, "turn", "(LGridmender;IZILGridmenderLaw$Out;)I"⟩
abbrev cL_add : ByteArray := method_11_code
def yL_add : MethodName := ⟨RL, "add", "(LGridmender;IZIIILGridmenderLaw$Out;)I"⟩
abbrev cL_widen : ByteArray := method_12_code
def yL_widen : MethodName := ⟨RL, "widen", "(LGridmender;IZLGridmenderLaw$Out;)I"⟩
abbrev cL_drop : ByteArray := method_13_code
def yL_drop : MethodName := ⟨RL, "drop", "(LGridmender;IZILGridmenderLaw$Out;)I"⟩
abbrev cL_sum : ByteArray := method_14_code
def yL_sum : MethodName := ⟨RL, "sum", "(LGridmender;IIZILGridmenderLaw$Out;)I"⟩
abbrev cL_multiply : ByteArray := method_15_code
def yL_multiply : MethodName := ⟨RL, "multiply", "(LGridmender;IIILGridmenderLaw$Out;)I"⟩
abbrev cL_take : ByteArray := method_16_code
def yL_take : MethodName := ⟨RL, "take", "(LGridmender;IIILGridmenderLaw$Out;)I"⟩
abbrev cL_solve : ByteArray := method_17_code
def yL_solve : MethodName := ⟨RL, "solve", "(LGridmender;IIIILGridmenderLaw$Out;)I"⟩
abbrev cL_shape : ByteArray := method_18_code
def yL_shape : MethodName := ⟨RL, "shape", "(LGridmender;IZLGridmenderLaw$Out;)I"⟩
abbrev cL_at : ByteArray := method_19_code
def yL_at : MethodName := ⟨RL, "at", "(LGridmender;IIILGridmenderLaw$Out;)I"⟩
abbrev cL_text : ByteArray := method_20_code
def yL_text : MethodName := ⟨RL, "text", "(LGridmender;ILGridmenderLaw$Out;)I"⟩
abbrev cL_isSame : ByteArray := method_21_code
def yL_isSame : MethodName := ⟨RL, "isSame", "(LGridmender;IILGridmenderLaw$Out;)I"⟩
abbrev cL_determinant : ByteArray := method_22_code
def yL_determinant : MethodName := ⟨RL, "determinant", "(LGridmender;IILGridmenderLaw$Out;)I"⟩
abbrev cL_minor : ByteArray := method_23_code
def yL_minor : MethodName := ⟨RL, "minor", "(LGridmender;IIILGridmenderLaw$Out;)I"⟩
abbrev cL_divisor : ByteArray := method_24_code
def yL_divisor : MethodName := ⟨RL, "divisor", "(LGridmender;IILGridmenderLaw$Out;)I"⟩
abbrev cL_rank : ByteArray := method_25_code
def yL_rank : MethodName := ⟨RL, "rank", "(LGridmender;IILGridmenderLaw$Out;)I"⟩
abbrev cL_told : ByteArray := method_26_code
def yL_told : MethodName := ⟨RL, "told", "(LGridmender;IIIILGridmenderLaw$Out;)I"⟩
abbrev cL_change : ByteArray := method_27_code
def yL_change : MethodName := ⟨RL, "change", "(LGridmender;IILGridmenderLaw$Out;)I"⟩
abbrev cL_isSolvable : ByteArray := method_28_code
def yL_isSolvable : MethodName := ⟨RL, "isSolvable", "(LGridmender;IIIILGridmenderLaw$Out;)I"⟩
abbrev cL_restColumn : ByteArray := method_29_code
def yL_restColumn : MethodName := ⟨RL, "restColumn", "(LGridmender;IIILGridmenderLaw$Out;)I"⟩
abbrev cL_rest : ByteArray := method_30_code
def yL_rest : MethodName := ⟨RL, "rest", "(LGridmender;IILGridmenderLaw$Out;)I"⟩
abbrev cL_restOf : ByteArray := method_31_code
def yL_restOf : MethodName := ⟨RL, "restOf", "(LGridmender;IIILGridmenderLaw$Out;)I"⟩
abbrev cL_house : ByteArray := method_32_code
def yL_house : MethodName := ⟨RL, "house", "(LGridmender;ILGridmenderLaw$Out;)I"⟩
abbrev cL_law : ByteArray := code
def yL_law : MethodName := ⟨RL, "law", "([I)Z"⟩
abbrev vwCl : List vw_C := [(RJ0, TJ0, 4), (RJ4, TJ4, 4), (RX1, TX1, 4), (RX2, TX2, 4), (RX3, TX3, 3), (RX4, TX4, 3), (RX5, TX5, 10), (RX6, TX6, 2), (RX7, TX7, 3), (RX8, TX8, 4), (RX9, TX9, 7), (RX10, TX10, 5)]
