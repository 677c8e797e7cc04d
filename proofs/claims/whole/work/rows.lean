section
-- ===== PART A: goes FIRST, ahead of the names: the tables' words, and 'selects' of the private methods out of them =====
/-- a private method of a class that the tables say can be made, by its rows of tables_1 -/
def lw_okq (q : MethodName × Nat) : Prop := (q.1.cls ≠ "java/lang/invoke/MethodHandle" ∧ q.1.cls ≠ "java/lang/invoke/VarHandle") ∧ Cond.instantiable q.1.cls q.2 ∈ tables_1 ∧ Cond.privateMethod q.1 ∈ tables_1 ∧ Cond.instanceMethod q.1 ∈ tables_1
theorem lw_p0 : lw_okq (⟨"IntervalSplits", "layInterval", "(I)V"⟩, 19) := ⟨⟨by decide +kernel, by decide +kernel⟩, List.mem_of_getElem? (i := 14) (by decide +kernel), List.mem_of_getElem? (i := 49) (by decide +kernel), List.mem_of_getElem? (i := 50) (by decide +kernel)⟩
theorem lw_p1 : lw_okq (⟨"IntervalSplits", "takeNumber", "()I"⟩, 19) := ⟨⟨by decide +kernel, by decide +kernel⟩, List.mem_of_getElem? (i := 14) (by decide +kernel), List.mem_of_getElem? (i := 53) (by decide +kernel), List.mem_of_getElem? (i := 54) (by decide +kernel)⟩
theorem lw_p2 : lw_okq (⟨"IntervalSplits$Row", "insertAt", "(IJ)V"⟩, 2) := ⟨⟨by decide +kernel, by decide +kernel⟩, List.mem_of_getElem? (i := 22) (by decide +kernel), List.mem_of_getElem? (i := 57) (by decide +kernel), List.mem_of_getElem? (i := 58) (by decide +kernel)⟩
theorem lw_p3 : lw_okq (⟨"IntervalSplits$Row", "intAt", "(I)I"⟩, 2) := ⟨⟨by decide +kernel, by decide +kernel⟩, List.mem_of_getElem? (i := 22) (by decide +kernel), List.mem_of_getElem? (i := 64) (by decide +kernel), List.mem_of_getElem? (i := 65) (by decide +kernel)⟩
theorem lw_p4 : lw_okq (⟨"IntervalSplits$Row", "at", "(I)J"⟩, 2) := ⟨⟨by decide +kernel, by decide +kernel⟩, List.mem_of_getElem? (i := 22) (by decide +kernel), List.mem_of_getElem? (i := 68) (by decide +kernel), List.mem_of_getElem? (i := 69) (by decide +kernel)⟩
theorem lw_p5 : lw_okq (⟨"IntervalSplits$Row", "raise", "(II)V"⟩, 2) := ⟨⟨by decide +kernel, by decide +kernel⟩, List.mem_of_getElem? (i := 22) (by decide +kernel), List.mem_of_getElem? (i := 72) (by decide +kernel), List.mem_of_getElem? (i := 73) (by decide +kernel)⟩
theorem lw_p6 : lw_okq (⟨"IntervalSplits", "positionOf", "(J)I"⟩, 19) := ⟨⟨by decide +kernel, by decide +kernel⟩, List.mem_of_getElem? (i := 14) (by decide +kernel), List.mem_of_getElem? (i := 138) (by decide +kernel), List.mem_of_getElem? (i := 139) (by decide +kernel)⟩
theorem lw_p7 : lw_okq (⟨"IntervalSplits", "notGreaterThan", "(J)I"⟩, 19) := ⟨⟨by decide +kernel, by decide +kernel⟩, List.mem_of_getElem? (i := 14) (by decide +kernel), List.mem_of_getElem? (i := 142) (by decide +kernel), List.mem_of_getElem? (i := 143) (by decide +kernel)⟩
theorem lw_p8 : lw_okq (⟨"IntervalSplits", "place", "(JI)Z"⟩, 19) := ⟨⟨by decide +kernel, by decide +kernel⟩, List.mem_of_getElem? (i := 14) (by decide +kernel), List.mem_of_getElem? (i := 147) (by decide +kernel), List.mem_of_getElem? (i := 148) (by decide +kernel)⟩
theorem lw_p9 : lw_okq (⟨"IntervalSplits$Row", "groupOf", "(I)I"⟩, 2) := ⟨⟨by decide +kernel, by decide +kernel⟩, List.mem_of_getElem? (i := 22) (by decide +kernel), List.mem_of_getElem? (i := 151) (by decide +kernel), List.mem_of_getElem? (i := 152) (by decide +kernel)⟩
theorem lw_p10 : lw_okq (⟨"IntervalSplits", "lengthsIn", "(I)I"⟩, 19) := ⟨⟨by decide +kernel, by decide +kernel⟩, List.mem_of_getElem? (i := 14) (by decide +kernel), List.mem_of_getElem? (i := 155) (by decide +kernel), List.mem_of_getElem? (i := 156) (by decide +kernel)⟩
theorem lw_p11 : lw_okq (⟨"IntervalSplits$Row", "sum", "(II)I"⟩, 2) := ⟨⟨by decide +kernel, by decide +kernel⟩, List.mem_of_getElem? (i := 22) (by decide +kernel), List.mem_of_getElem? (i := 159) (by decide +kernel), List.mem_of_getElem? (i := 160) (by decide +kernel)⟩
theorem lw_p12 : lw_okq (⟨"IntervalSplits", "insertRecord", "(IJI)V"⟩, 19) := ⟨⟨by decide +kernel, by decide +kernel⟩, List.mem_of_getElem? (i := 14) (by decide +kernel), List.mem_of_getElem? (i := 163) (by decide +kernel), List.mem_of_getElem? (i := 164) (by decide +kernel)⟩
theorem lw_p13 : lw_okq (⟨"IntervalSplits", "kindOfSplit", "(I)LIntervalSplits$Kind;"⟩, 19) := ⟨⟨by decide +kernel, by decide +kernel⟩, List.mem_of_getElem? (i := 14) (by decide +kernel), List.mem_of_getElem? (i := 167) (by decide +kernel), List.mem_of_getElem? (i := 168) (by decide +kernel)⟩
theorem lw_p14 : lw_okq (⟨"IntervalSplits", "closeAhead", "(LIntervalSplits$Kind;I)V"⟩, 19) := ⟨⟨by decide +kernel, by decide +kernel⟩, List.mem_of_getElem? (i := 14) (by decide +kernel), List.mem_of_getElem? (i := 175) (by decide +kernel), List.mem_of_getElem? (i := 176) (by decide +kernel)⟩
theorem lw_p15 : lw_okq (⟨"IntervalSplits", "giveOwnInterval", "(IJI)V"⟩, 19) := ⟨⟨by decide +kernel, by decide +kernel⟩, List.mem_of_getElem? (i := 14) (by decide +kernel), List.mem_of_getElem? (i := 179) (by decide +kernel), List.mem_of_getElem? (i := 180) (by decide +kernel)⟩
def lw_privs_1 : List (MethodName × Nat) := [(⟨"IntervalSplits", "layInterval", "(I)V"⟩, 19), (⟨"IntervalSplits", "takeNumber", "()I"⟩, 19), (⟨"IntervalSplits$Row", "insertAt", "(IJ)V"⟩, 2), (⟨"IntervalSplits$Row", "intAt", "(I)I"⟩, 2), (⟨"IntervalSplits$Row", "at", "(I)J"⟩, 2), (⟨"IntervalSplits$Row", "raise", "(II)V"⟩, 2), (⟨"IntervalSplits", "positionOf", "(J)I"⟩, 19), (⟨"IntervalSplits", "notGreaterThan", "(J)I"⟩, 19), (⟨"IntervalSplits", "place", "(JI)Z"⟩, 19), (⟨"IntervalSplits$Row", "groupOf", "(I)I"⟩, 2), (⟨"IntervalSplits", "lengthsIn", "(I)I"⟩, 19), (⟨"IntervalSplits$Row", "sum", "(II)I"⟩, 2), (⟨"IntervalSplits", "insertRecord", "(IJI)V"⟩, 19), (⟨"IntervalSplits", "kindOfSplit", "(I)LIntervalSplits$Kind;"⟩, 19), (⟨"IntervalSplits", "closeAhead", "(LIntervalSplits$Kind;I)V"⟩, 19), (⟨"IntervalSplits", "giveOwnInterval", "(IJI)V"⟩, 19)]
theorem lw_r1 : ∀ q ∈ lw_privs_1, lw_okq q := List.forall_mem_cons.mpr ⟨lw_p0, List.forall_mem_cons.mpr ⟨lw_p1, List.forall_mem_cons.mpr ⟨lw_p2, List.forall_mem_cons.mpr ⟨lw_p3, List.forall_mem_cons.mpr ⟨lw_p4, List.forall_mem_cons.mpr ⟨lw_p5, List.forall_mem_cons.mpr ⟨lw_p6, List.forall_mem_cons.mpr ⟨lw_p7, List.forall_mem_cons.mpr ⟨lw_p8, List.forall_mem_cons.mpr ⟨lw_p9, List.forall_mem_cons.mpr ⟨lw_p10, List.forall_mem_cons.mpr ⟨lw_p11, List.forall_mem_cons.mpr ⟨lw_p12, List.forall_mem_cons.mpr ⟨lw_p13, List.forall_mem_cons.mpr ⟨lw_p14, List.forall_mem_cons.mpr ⟨lw_p15, fun _ h => absurd h List.not_mem_nil⟩⟩⟩⟩⟩⟩⟩⟩⟩⟩⟩⟩⟩⟩⟩⟩
theorem lw_p16 : lw_okq (⟨"IntervalSplits", "insertInterval", "(IIII)V"⟩, 19) := ⟨⟨by decide +kernel, by decide +kernel⟩, List.mem_of_getElem? (i := 14) (by decide +kernel), List.mem_of_getElem? (i := 183) (by decide +kernel), List.mem_of_getElem? (i := 184) (by decide +kernel)⟩
theorem lw_p17 : lw_okq (⟨"IntervalSplits", "splitArea", "(I)V"⟩, 19) := ⟨⟨by decide +kernel, by decide +kernel⟩, List.mem_of_getElem? (i := 14) (by decide +kernel), List.mem_of_getElem? (i := 187) (by decide +kernel), List.mem_of_getElem? (i := 188) (by decide +kernel)⟩
theorem lw_p18 : lw_okq (⟨"IntervalSplits", "halveInterval", "(II)V"⟩, 19) := ⟨⟨by decide +kernel, by decide +kernel⟩, List.mem_of_getElem? (i := 14) (by decide +kernel), List.mem_of_getElem? (i := 191) (by decide +kernel), List.mem_of_getElem? (i := 192) (by decide +kernel)⟩
theorem lw_p19 : lw_okq (⟨"IntervalSplits", "keptByHalving", "(I)I"⟩, 19) := ⟨⟨by decide +kernel, by decide +kernel⟩, List.mem_of_getElem? (i := 14) (by decide +kernel), List.mem_of_getElem? (i := 195) (by decide +kernel), List.mem_of_getElem? (i := 196) (by decide +kernel)⟩
theorem lw_p20 : lw_okq (⟨"IntervalSplits$Row", "deleteAt", "(I)V"⟩, 2) := ⟨⟨by decide +kernel, by decide +kernel⟩, List.mem_of_getElem? (i := 22) (by decide +kernel), List.mem_of_getElem? (i := 211) (by decide +kernel), List.mem_of_getElem? (i := 212) (by decide +kernel)⟩
theorem lw_p21 : lw_okq (⟨"IntervalSplits", "dropInterval", "(I)V"⟩, 19) := ⟨⟨by decide +kernel, by decide +kernel⟩, List.mem_of_getElem? (i := 14) (by decide +kernel), List.mem_of_getElem? (i := 215) (by decide +kernel), List.mem_of_getElem? (i := 216) (by decide +kernel)⟩
theorem lw_p22 : lw_okq (⟨"IntervalSplits$Row", "holds", "(I)Z"⟩, 2) := ⟨⟨by decide +kernel, by decide +kernel⟩, List.mem_of_getElem? (i := 22) (by decide +kernel), List.mem_of_getElem? (i := 223) (by decide +kernel), List.mem_of_getElem? (i := 224) (by decide +kernel)⟩
theorem lw_p23 : lw_okq (⟨"IntervalSplits", "finishCutSplit", "()V"⟩, 19) := ⟨⟨by decide +kernel, by decide +kernel⟩, List.mem_of_getElem? (i := 14) (by decide +kernel), List.mem_of_getElem? (i := 235) (by decide +kernel), List.mem_of_getElem? (i := 236) (by decide +kernel)⟩
theorem lw_p24 : lw_okq (⟨"IntervalSplits", "brokenOrders", "()I"⟩, 19) := ⟨⟨by decide +kernel, by decide +kernel⟩, List.mem_of_getElem? (i := 14) (by decide +kernel), List.mem_of_getElem? (i := 247) (by decide +kernel), List.mem_of_getElem? (i := 248) (by decide +kernel)⟩
theorem lw_p25 : lw_okq (⟨"IntervalSplits", "brokenRooms", "()I"⟩, 19) := ⟨⟨by decide +kernel, by decide +kernel⟩, List.mem_of_getElem? (i := 14) (by decide +kernel), List.mem_of_getElem? (i := 251) (by decide +kernel), List.mem_of_getElem? (i := 252) (by decide +kernel)⟩
theorem lw_p26 : lw_okq (⟨"IntervalSplits", "brokenWidths", "()I"⟩, 19) := ⟨⟨by decide +kernel, by decide +kernel⟩, List.mem_of_getElem? (i := 14) (by decide +kernel), List.mem_of_getElem? (i := 255) (by decide +kernel), List.mem_of_getElem? (i := 256) (by decide +kernel)⟩
theorem lw_p27 : lw_okq (⟨"IntervalSplits", "lowBitsOfFirstKey", "(I)I"⟩, 19) := ⟨⟨by decide +kernel, by decide +kernel⟩, List.mem_of_getElem? (i := 14) (by decide +kernel), List.mem_of_getElem? (i := 282) (by decide +kernel), List.mem_of_getElem? (i := 283) (by decide +kernel)⟩
theorem lw_p28 : lw_okq (⟨"java/lang/Throwable", "fillInStackTrace", "(I)Ljava/lang/Throwable;"⟩, 6) := ⟨⟨by decide +kernel, by decide +kernel⟩, List.mem_of_getElem? (i := 324) (by decide +kernel), List.mem_of_getElem? (i := 322) (by decide +kernel), List.mem_of_getElem? (i := 323) (by decide +kernel)⟩
theorem lw_p29 : lw_okq (⟨"IntervalSplitsModel", "has", "(J)Z"⟩, 20) := ⟨⟨by decide +kernel, by decide +kernel⟩, List.mem_of_getElem? (i := 357) (by decide +kernel), List.mem_of_getElem? (i := 436) (by decide +kernel), List.mem_of_getElem? (i := 437) (by decide +kernel)⟩
theorem lw_p30 : lw_okq (⟨"IntervalSplitsModel", "less", "(J)I"⟩, 20) := ⟨⟨by decide +kernel, by decide +kernel⟩, List.mem_of_getElem? (i := 357) (by decide +kernel), List.mem_of_getElem? (i := 440) (by decide +kernel), List.mem_of_getElem? (i := 441) (by decide +kernel)⟩
theorem lw_p31 : lw_okq (⟨"IntervalSplitsModel", "belongs", "(J)I"⟩, 20) := ⟨⟨by decide +kernel, by decide +kernel⟩, List.mem_of_getElem? (i := 357) (by decide +kernel), List.mem_of_getElem? (i := 444) (by decide +kernel), List.mem_of_getElem? (i := 445) (by decide +kernel)⟩
def lw_privs_2 : List (MethodName × Nat) := [(⟨"IntervalSplits", "insertInterval", "(IIII)V"⟩, 19), (⟨"IntervalSplits", "splitArea", "(I)V"⟩, 19), (⟨"IntervalSplits", "halveInterval", "(II)V"⟩, 19), (⟨"IntervalSplits", "keptByHalving", "(I)I"⟩, 19), (⟨"IntervalSplits$Row", "deleteAt", "(I)V"⟩, 2), (⟨"IntervalSplits", "dropInterval", "(I)V"⟩, 19), (⟨"IntervalSplits$Row", "holds", "(I)Z"⟩, 2), (⟨"IntervalSplits", "finishCutSplit", "()V"⟩, 19), (⟨"IntervalSplits", "brokenOrders", "()I"⟩, 19), (⟨"IntervalSplits", "brokenRooms", "()I"⟩, 19), (⟨"IntervalSplits", "brokenWidths", "()I"⟩, 19), (⟨"IntervalSplits", "lowBitsOfFirstKey", "(I)I"⟩, 19), (⟨"java/lang/Throwable", "fillInStackTrace", "(I)Ljava/lang/Throwable;"⟩, 6), (⟨"IntervalSplitsModel", "has", "(J)Z"⟩, 20), (⟨"IntervalSplitsModel", "less", "(J)I"⟩, 20), (⟨"IntervalSplitsModel", "belongs", "(J)I"⟩, 20)]
theorem lw_r2 : ∀ q ∈ lw_privs_2, lw_okq q := List.forall_mem_cons.mpr ⟨lw_p16, List.forall_mem_cons.mpr ⟨lw_p17, List.forall_mem_cons.mpr ⟨lw_p18, List.forall_mem_cons.mpr ⟨lw_p19, List.forall_mem_cons.mpr ⟨lw_p20, List.forall_mem_cons.mpr ⟨lw_p21, List.forall_mem_cons.mpr ⟨lw_p22, List.forall_mem_cons.mpr ⟨lw_p23, List.forall_mem_cons.mpr ⟨lw_p24, List.forall_mem_cons.mpr ⟨lw_p25, List.forall_mem_cons.mpr ⟨lw_p26, List.forall_mem_cons.mpr ⟨lw_p27, List.forall_mem_cons.mpr ⟨lw_p28, List.forall_mem_cons.mpr ⟨lw_p29, List.forall_mem_cons.mpr ⟨lw_p30, List.forall_mem_cons.mpr ⟨lw_p31, fun _ h => absurd h List.not_mem_nil⟩⟩⟩⟩⟩⟩⟩⟩⟩⟩⟩⟩⟩⟩⟩⟩
theorem lw_p32 : lw_okq (⟨"IntervalSplitsModel", "first", "(I)I"⟩, 20) := ⟨⟨by decide +kernel, by decide +kernel⟩, List.mem_of_getElem? (i := 357) (by decide +kernel), List.mem_of_getElem? (i := 448) (by decide +kernel), List.mem_of_getElem? (i := 449) (by decide +kernel)⟩
theorem lw_p33 : lw_okq (⟨"IntervalSplitsModel", "lengthsOf", "(I)I"⟩, 20) := ⟨⟨by decide +kernel, by decide +kernel⟩, List.mem_of_getElem? (i := 357) (by decide +kernel), List.mem_of_getElem? (i := 452) (by decide +kernel), List.mem_of_getElem? (i := 453) (by decide +kernel)⟩
theorem lw_p34 : lw_okq (⟨"IntervalSplitsModel", "insert", "(JII)V"⟩, 20) := ⟨⟨by decide +kernel, by decide +kernel⟩, List.mem_of_getElem? (i := 357) (by decide +kernel), List.mem_of_getElem? (i := 456) (by decide +kernel), List.mem_of_getElem? (i := 457) (by decide +kernel)⟩
theorem lw_p35 : lw_okq (⟨"IntervalSplitsModel", "recordsOf", "(I)I"⟩, 20) := ⟨⟨by decide +kernel, by decide +kernel⟩, List.mem_of_getElem? (i := 357) (by decide +kernel), List.mem_of_getElem? (i := 460) (by decide +kernel), List.mem_of_getElem? (i := 461) (by decide +kernel)⟩
theorem lw_p36 : lw_okq (⟨"IntervalSplitsModel", "widthOf", "(I)I"⟩, 20) := ⟨⟨by decide +kernel, by decide +kernel⟩, List.mem_of_getElem? (i := 357) (by decide +kernel), List.mem_of_getElem? (i := 464) (by decide +kernel), List.mem_of_getElem? (i := 465) (by decide +kernel)⟩
theorem lw_p37 : lw_okq (⟨"IntervalSplitsModel", "isCut", "(II)Z"⟩, 20) := ⟨⟨by decide +kernel, by decide +kernel⟩, List.mem_of_getElem? (i := 357) (by decide +kernel), List.mem_of_getElem? (i := 468) (by decide +kernel), List.mem_of_getElem? (i := 469) (by decide +kernel)⟩
theorem lw_p38 : lw_okq (⟨"IntervalSplitsModel", "splitArea", "(I)V"⟩, 20) := ⟨⟨by decide +kernel, by decide +kernel⟩, List.mem_of_getElem? (i := 357) (by decide +kernel), List.mem_of_getElem? (i := 472) (by decide +kernel), List.mem_of_getElem? (i := 473) (by decide +kernel)⟩
theorem lw_p39 : lw_okq (⟨"IntervalSplitsModel", "open", "(III)V"⟩, 20) := ⟨⟨by decide +kernel, by decide +kernel⟩, List.mem_of_getElem? (i := 357) (by decide +kernel), List.mem_of_getElem? (i := 476) (by decide +kernel), List.mem_of_getElem? (i := 477) (by decide +kernel)⟩
theorem lw_p40 : lw_okq (⟨"IntervalSplitsModel", "splitInterval", "(II)V"⟩, 20) := ⟨⟨by decide +kernel, by decide +kernel⟩, List.mem_of_getElem? (i := 357) (by decide +kernel), List.mem_of_getElem? (i := 480) (by decide +kernel), List.mem_of_getElem? (i := 481) (by decide +kernel)⟩
theorem lw_p41 : lw_okq (⟨"IntervalSplitsModel", "kept", "(I)I"⟩, 20) := ⟨⟨by decide +kernel, by decide +kernel⟩, List.mem_of_getElem? (i := 357) (by decide +kernel), List.mem_of_getElem? (i := 484) (by decide +kernel), List.mem_of_getElem? (i := 485) (by decide +kernel)⟩
theorem lw_p42 : lw_okq (⟨"IntervalSplitsModel", "areaOf", "(I)I"⟩, 20) := ⟨⟨by decide +kernel, by decide +kernel⟩, List.mem_of_getElem? (i := 357) (by decide +kernel), List.mem_of_getElem? (i := 516) (by decide +kernel), List.mem_of_getElem? (i := 517) (by decide +kernel)⟩
def lw_privs_3 : List (MethodName × Nat) := [(⟨"IntervalSplitsModel", "first", "(I)I"⟩, 20), (⟨"IntervalSplitsModel", "lengthsOf", "(I)I"⟩, 20), (⟨"IntervalSplitsModel", "insert", "(JII)V"⟩, 20), (⟨"IntervalSplitsModel", "recordsOf", "(I)I"⟩, 20), (⟨"IntervalSplitsModel", "widthOf", "(I)I"⟩, 20), (⟨"IntervalSplitsModel", "isCut", "(II)Z"⟩, 20), (⟨"IntervalSplitsModel", "splitArea", "(I)V"⟩, 20), (⟨"IntervalSplitsModel", "open", "(III)V"⟩, 20), (⟨"IntervalSplitsModel", "splitInterval", "(II)V"⟩, 20), (⟨"IntervalSplitsModel", "kept", "(I)I"⟩, 20), (⟨"IntervalSplitsModel", "areaOf", "(I)I"⟩, 20)]
theorem lw_r3 : ∀ q ∈ lw_privs_3, lw_okq q := List.forall_mem_cons.mpr ⟨lw_p32, List.forall_mem_cons.mpr ⟨lw_p33, List.forall_mem_cons.mpr ⟨lw_p34, List.forall_mem_cons.mpr ⟨lw_p35, List.forall_mem_cons.mpr ⟨lw_p36, List.forall_mem_cons.mpr ⟨lw_p37, List.forall_mem_cons.mpr ⟨lw_p38, List.forall_mem_cons.mpr ⟨lw_p39, List.forall_mem_cons.mpr ⟨lw_p40, List.forall_mem_cons.mpr ⟨lw_p41, List.forall_mem_cons.mpr ⟨lw_p42, fun _ h => absurd h List.not_mem_nil⟩⟩⟩⟩⟩⟩⟩⟩⟩⟩⟩
def lw_privs : List (MethodName × Nat) := lw_privs_1 ++ (lw_privs_2 ++ (lw_privs_3))
def lw_tbl : List Cond := k2_sels lw_privs ++ tables_1
theorem lw_privs_ok : ∀ q ∈ lw_privs, lw_okq q := by
  show ∀ q ∈ lw_privs_1 ++ (lw_privs_2 ++ (lw_privs_3)), lw_okq q
  exact List.forall_mem_append.mpr ⟨lw_r1, List.forall_mem_append.mpr ⟨lw_r2, lw_r3⟩⟩
end
section
/-! ===== BEGIN words of one list among another's, by their places ===== -/
theorem goodIn_r {big : List Cond} (ws : List Cond) (ps : List Nat) (hp : ws = ps.filterMap (fun i => big[i]?)) (h : ws.all goodWord = true) : GoodIn big ws := by
  intro w hw
  have h1 := List.all_eq_true.mp h w hw
  rw [hp] at hw
  obtain ⟨i, -, hi⟩ := List.mem_filterMap.mp hw
  have hm : w ∈ big := by first | exact List.mem_of_getElem? hi | exact List.getElem?_mem hi
  exact ⟨hm, good_of_word h1⟩
theorem goodIn_app {big a b : List Cond} (ha : GoodIn big a) (hb : GoodIn big b) : GoodIn big (a ++ b) := fun w h => (List.mem_append.mp h).elim (ha w) (hb w)
theorem goodIn_ca {big a b : List Cond} {c : Cond} (ha : GoodIn big (c :: a)) (hb : GoodIn big b) : GoodIn big (c :: (a ++ b)) := fun w h => (List.mem_cons.mp h).elim (fun e => ha w (List.mem_cons.mpr (Or.inl e))) (fun h => (List.mem_append.mp h).elim (fun h => ha w (List.mem_cons.mpr (Or.inr h))) (hb w))
theorem goodIn_sub {big ws : List Cond} (hm : ∀ w ∈ ws, w ∈ big) (h : ws.all goodWord = true) : GoodIn big ws := fun w hw => ⟨hm w hw, good_of_word (List.all_eq_true.mp h w hw)⟩
/-! ===== END ===== -/

/-! ===== BEGIN printed: names, fields, word lists, decode rows ===== -/
def RX0 : String := "IntervalSplits$Kind"
def TX0 : u_T := fun k => match k with
  | _ => ("", "", "", false)
def tyX0 : Nat → FieldType := fun k => match k with
  | _ => .int
abbrev wsX00 : List Cond := u_ws RX0 TX0 0
theorem nmX0 : ∀ a, a < 0 → ∀ b, b < 0 → a ≠ b → (TX0 a).2.1 ≠ (TX0 b).2.1 := by decide +kernel
theorem tyX0_ok : ∀ k, k < 0 → parseFieldDescriptor (TX0 k).2.2.1 = some (tyX0 k) := by decide +kernel
def RX1 : String := "IntervalSplits$Row"
def TX1 : u_T := fun k => match k with
  | 0 => ("IntervalSplits$Row", "cells", "[J", true)
  | _ => ("IntervalSplits$Row", "size", "I", false)
def tyX1 : Nat → FieldType := fun k => match k with
  | 0 => .array .long
  | _ => .int
abbrev wsX10 : List Cond := u_ws RX1 TX1 2
theorem nmX1 : ∀ a, a < 2 → ∀ b, b < 2 → a ≠ b → (TX1 a).2.1 ≠ (TX1 b).2.1 := by decide +kernel
theorem tyX1_ok : ∀ k, k < 2 → parseFieldDescriptor (TX1 k).2.2.1 = some (tyX1 k) := by decide +kernel
abbrev cX1_init : ByteArray := prog_3_method_1_code
def yX1_init : MethodName := ⟨RX1, "<init>", "(I)V"⟩
abbrev cX1_holds : ByteArray := prog_3_method_2_code
def yX1_holds : MethodName := ⟨RX1, "holds", "(I)Z"⟩
abbrev cX1_at : ByteArray := prog_3_method_3_code
def yX1_at : MethodName := ⟨RX1, "at", "(I)J"⟩
abbrev cX1_intAt : ByteArray := prog_3_method_4_code
def yX1_intAt : MethodName := ⟨RX1, "intAt", "(I)I"⟩
abbrev cX1_raise : ByteArray := prog_3_method_5_code
def yX1_raise : MethodName := ⟨RX1, "raise", "(II)V"⟩
abbrev cX1_insertAt : ByteArray := prog_3_method_6_code
def yX1_insertAt : MethodName := ⟨RX1, "insertAt", "(IJ)V"⟩
abbrev cX1_deleteAt : ByteArray := prog_3_method_7_code
def yX1_deleteAt : MethodName := ⟨RX1, "deleteAt", "(I)V"⟩
abbrev cX1_sum : ByteArray := prog_3_method_8_code
def yX1_sum : MethodName := ⟨RX1, "sum", "(II)I"⟩
abbrev cX1_groupOf : ByteArray := prog_3_method_9_code
def yX1_groupOf : MethodName := ⟨RX1, "groupOf", "(I)I"⟩
def RX2 : String := "IntervalSplits"
def TX2 : u_T := fun k => match k with
  | 0 => ("IntervalSplits", "room", "I", true)
  | 1 => ("IntervalSplits", "width", "I", true)
  | 2 => ("IntervalSplits", "laidRoom", "I", true)
  | 3 => ("IntervalSplits", "laidWidth", "I", true)
  | 4 => ("IntervalSplits", "keys", "LIntervalSplits$Row;", true)
  | 5 => ("IntervalSplits", "lengths", "LIntervalSplits$Row;", true)
  | 6 => ("IntervalSplits", "numbers", "LIntervalSplits$Row;", true)
  | 7 => ("IntervalSplits", "sizes", "LIntervalSplits$Row;", true)
  | 8 => ("IntervalSplits", "spans", "LIntervalSplits$Row;", true)
  | 9 => ("IntervalSplits", "nextNumber", "I", false)
  | 10 => ("IntervalSplits", "toldCut", "I", false)
  | 11 => ("IntervalSplits", "closed", "Z", false)
  | 12 => ("IntervalSplits", "cutHasRow", "Z", false)
  | 13 => ("IntervalSplits", "cutKind", "LIntervalSplits$Kind;", false)
  | 14 => ("IntervalSplits", "cutPlace", "I", false)
  | 15 => ("IntervalSplits", "intervalSplits", "I", false)
  | 16 => ("IntervalSplits", "areaSplits", "I", false)
  | 17 => ("IntervalSplits", "undoneSplits", "I", false)
  | _ => ("IntervalSplits", "finishedSplits", "I", false)
def tyX2 : Nat → FieldType := fun k => match k with
  | 0 => .int
  | 1 => .int
  | 2 => .int
  | 3 => .int
  | 4 => .object "IntervalSplits$Row"
  | 5 => .object "IntervalSplits$Row"
  | 6 => .object "IntervalSplits$Row"
  | 7 => .object "IntervalSplits$Row"
  | 8 => .object "IntervalSplits$Row"
  | 9 => .int
  | 10 => .int
  | 11 => .boolean
  | 12 => .boolean
  | 13 => .object "IntervalSplits$Kind"
  | 14 => .int
  | 15 => .int
  | 16 => .int
  | 17 => .int
  | _ => .int
abbrev wsX20 : List Cond := u_ws RX2 TX2 19
theorem nmX2 : ∀ a, a < 19 → ∀ b, b < 19 → a ≠ b → (TX2 a).2.1 ≠ (TX2 b).2.1 := by decide +kernel
theorem tyX2_ok : ∀ k, k < 19 → parseFieldDescriptor (TX2 k).2.2.1 = some (tyX2 k) := by decide +kernel
abbrev cX2_init : ByteArray := prog_1_method_1_code
def yX2_init : MethodName := ⟨RX2, "<init>", "(IIII)V"⟩
abbrev cX2_put : ByteArray := prog_1_method_2_code
def yX2_put : MethodName := ⟨RX2, "put", "(JI)I"⟩
abbrev cX2_find : ByteArray := prog_1_method_3_code
def yX2_find : MethodName := ⟨RX2, "find", "(J)I"⟩
abbrev cX2_next : ByteArray := prog_1_method_4_code
def yX2_next : MethodName := ⟨RX2, "next", "(J)I"⟩
abbrev cX2_remove : ByteArray := prog_1_method_5_code
def yX2_remove : MethodName := ⟨RX2, "remove", "(J)I"⟩
abbrev cX2_interval : ByteArray := prog_1_method_6_code
def yX2_interval : MethodName := ⟨RX2, "interval", "(II)I"⟩
abbrev cX2_cut : ByteArray := prog_1_method_7_code
def yX2_cut : MethodName := ⟨RX2, "cut", "(I)I"⟩
abbrev cX2_open : ByteArray := prog_1_method_8_code
def yX2_open : MethodName := ⟨RX2, "open", "()I"⟩
abbrev cX2_split : ByteArray := prog_1_method_9_code
def yX2_split : MethodName := ⟨RX2, "split", "(I)I"⟩
abbrev cX2_index : ByteArray := prog_1_method_10_code
def yX2_index : MethodName := ⟨RX2, "index", "(II)I"⟩
abbrev cX2_verify : ByteArray := prog_1_method_11_code
def yX2_verify : MethodName := ⟨RX2, "verify", "()I"⟩
abbrev cX2_reorganise : ByteArray := prog_1_method_12_code
def yX2_reorganise : MethodName := ⟨RX2, "reorganise", "()I"⟩
abbrev cX2_order : ByteArray := prog_1_method_13_code
def yX2_order : MethodName := ⟨RX2, "order", "(I)J"⟩
abbrev cX2_count : ByteArray := prog_1_method_14_code
def yX2_count : MethodName := ⟨RX2, "count", "(I)I"⟩
abbrev cX2_heldTo : ByteArray := prog_1_method_15_code
def yX2_heldTo : MethodName := ⟨RX2, "heldTo", "(III)I"⟩
abbrev cX2_notGreaterThan : ByteArray := prog_1_method_16_code
def yX2_notGreaterThan : MethodName := ⟨RX2, "notGreaterThan", "(J)I"⟩
abbrev cX2_positionOf : ByteArray := prog_1_method_17_code
def yX2_positionOf : MethodName := ⟨RX2, "positionOf", "(J)I"⟩
abbrev cX2_lengthsIn : ByteArray := prog_1_method_18_code
def yX2_lengthsIn : MethodName := ⟨RX2, "lengthsIn", "(I)I"⟩
abbrev cX2_lowBitsOfFirstKey : ByteArray := prog_1_method_19_code
def yX2_lowBitsOfFirstKey : MethodName := ⟨RX2, "lowBitsOfFirstKey", "(I)I"⟩
abbrev cX2_place : ByteArray := prog_1_method_20_code
def yX2_place : MethodName := ⟨RX2, "place", "(JI)Z"⟩
abbrev cX2_insertRecord : ByteArray := prog_1_method_21_code
def yX2_insertRecord : MethodName := ⟨RX2, "insertRecord", "(IJI)V"⟩
abbrev cX2_kindOfSplit : ByteArray := prog_1_method_22_code
def yX2_kindOfSplit : MethodName := ⟨RX2, "kindOfSplit", "(I)LIntervalSplits$Kind;"⟩
abbrev cX2_takeNumber : ByteArray := prog_1_method_23_code
def yX2_takeNumber : MethodName := ⟨RX2, "takeNumber", "()I"⟩
abbrev cX2_splitArea : ByteArray := prog_1_method_24_code
def yX2_splitArea : MethodName := ⟨RX2, "splitArea", "(I)V"⟩
abbrev cX2_halveInterval : ByteArray := prog_1_method_25_code
def yX2_halveInterval : MethodName := ⟨RX2, "halveInterval", "(II)V"⟩
abbrev cX2_keptByHalving : ByteArray := prog_1_method_26_code
def yX2_keptByHalving : MethodName := ⟨RX2, "keptByHalving", "(I)I"⟩
abbrev cX2_giveOwnInterval : ByteArray := prog_1_method_27_code
def yX2_giveOwnInterval : MethodName := ⟨RX2, "giveOwnInterval", "(IJI)V"⟩
abbrev cX2_insertInterval : ByteArray := prog_1_method_28_code
def yX2_insertInterval : MethodName := ⟨RX2, "insertInterval", "(IIII)V"⟩
abbrev cX2_dropInterval : ByteArray := prog_1_method_29_code
def yX2_dropInterval : MethodName := ⟨RX2, "dropInterval", "(I)V"⟩
abbrev cX2_closeAhead : ByteArray := prog_1_method_30_code
def yX2_closeAhead : MethodName := ⟨RX2, "closeAhead", "(LIntervalSplits$Kind;I)V"⟩
abbrev cX2_finishCutSplit : ByteArray := prog_1_method_31_code
def yX2_finishCutSplit : MethodName := ⟨RX2, "finishCutSplit", "()V"⟩
abbrev cX2_layInterval : ByteArray := prog_1_method_32_code
def yX2_layInterval : MethodName := ⟨RX2, "layInterval", "(I)V"⟩
abbrev cX2_brokenOrders : ByteArray := prog_1_method_33_code
def yX2_brokenOrders : MethodName := ⟨RX2, "brokenOrders", "()I"⟩
abbrev cX2_brokenRooms : ByteArray := prog_1_method_34_code
def yX2_brokenRooms : MethodName := ⟨RX2, "brokenRooms", "()I"⟩
abbrev cX2_brokenWidths : ByteArray := prog_1_method_35_code
def yX2_brokenWidths : MethodName := ⟨RX2, "brokenWidths", "()I"⟩
def RX3 : String := "IntervalSplitsModel"
def TX3 : u_T := fun k => match k with
  | 0 => ("IntervalSplitsModel", "code", "I", false)
  | 1 => ("IntervalSplitsModel", "room", "I", true)
  | 2 => ("IntervalSplitsModel", "width", "I", true)
  | 3 => ("IntervalSplitsModel", "load", "I", true)
  | 4 => ("IntervalSplitsModel", "loadWidth", "I", true)
  | 5 => ("IntervalSplitsModel", "keys", "[J", true)
  | 6 => ("IntervalSplitsModel", "lengths", "[I", true)
  | 7 => ("IntervalSplitsModel", "of", "[I", true)
  | 8 => ("IntervalSplitsModel", "size", "I", false)
  | 9 => ("IntervalSplitsModel", "intervals", "[I", true)
  | 10 => ("IntervalSplitsModel", "areas", "[I", true)
  | 11 => ("IntervalSplitsModel", "many", "I", false)
  | 12 => ("IntervalSplitsModel", "number", "I", false)
  | 13 => ("IntervalSplitsModel", "area", "I", false)
  | 14 => ("IntervalSplitsModel", "cutAt", "I", false)
  | 15 => ("IntervalSplitsModel", "pending", "I", false)
  | 16 => ("IntervalSplitsModel", "pendingAt", "I", false)
  | 17 => ("IntervalSplitsModel", "closed", "Z", false)
  | 18 => ("IntervalSplitsModel", "finishes", "Z", false)
  | _ => ("IntervalSplitsModel", "splits", "[I", true)
def tyX3 : Nat → FieldType := fun k => match k with
  | 0 => .int
  | 1 => .int
  | 2 => .int
  | 3 => .int
  | 4 => .int
  | 5 => .array .long
  | 6 => .array .int
  | 7 => .array .int
  | 8 => .int
  | 9 => .array .int
  | 10 => .array .int
  | 11 => .int
  | 12 => .int
  | 13 => .int
  | 14 => .int
  | 15 => .int
  | 16 => .int
  | 17 => .boolean
  | 18 => .boolean
  | _ => .array .int
abbrev wsX30 : List Cond := u_ws RX3 TX3 20
theorem nmX3 : ∀ a, a < 20 → ∀ b, b < 20 → a ≠ b → (TX3 a).2.1 ≠ (TX3 b).2.1 := by decide +kernel
theorem tyX3_ok : ∀ k, k < 20 → parseFieldDescriptor (TX3 k).2.2.1 = some (tyX3 k) := by decide +kernel
abbrev cX3_init : ByteArray := prog_5_method_1_code
def yX3_init : MethodName := ⟨RX3, "<init>", "(IIII)V"⟩
abbrev cX3_held : ByteArray := prog_5_method_2_code
def yX3_held : MethodName := ⟨RX3, "held", "(III)I"⟩
abbrev cX3_thrown : ByteArray := prog_5_method_3_code
def yX3_thrown : MethodName := ⟨RX3, "thrown", "()I"⟩
abbrev cX3_less : ByteArray := prog_5_method_4_code
def yX3_less : MethodName := ⟨RX3, "less", "(J)I"⟩
abbrev cX3_has : ByteArray := prog_5_method_5_code
def yX3_has : MethodName := ⟨RX3, "has", "(J)Z"⟩
abbrev cX3_first : ByteArray := prog_5_method_6_code
def yX3_first : MethodName := ⟨RX3, "first", "(I)I"⟩
abbrev cX3_recordsOf : ByteArray := prog_5_method_7_code
def yX3_recordsOf : MethodName := ⟨RX3, "recordsOf", "(I)I"⟩
abbrev cX3_lengthsOf : ByteArray := prog_5_method_8_code
def yX3_lengthsOf : MethodName := ⟨RX3, "lengthsOf", "(I)I"⟩
abbrev cX3_belongs : ByteArray := prog_5_method_9_code
def yX3_belongs : MethodName := ⟨RX3, "belongs", "(J)I"⟩
abbrev cX3_widthOf : ByteArray := prog_5_method_10_code
def yX3_widthOf : MethodName := ⟨RX3, "widthOf", "(I)I"⟩
abbrev cX3_insert : ByteArray := prog_5_method_11_code
def yX3_insert : MethodName := ⟨RX3, "insert", "(JII)V"⟩
abbrev cX3_open : ByteArray := prog_5_method_12_code
def yX3_open : MethodName := ⟨RX3, "open", "(III)V"⟩
abbrev cX3_kept : ByteArray := prog_5_method_13_code
def yX3_kept : MethodName := ⟨RX3, "kept", "(I)I"⟩
abbrev cX3_splitInterval : ByteArray := prog_5_method_14_code
def yX3_splitInterval : MethodName := ⟨RX3, "splitInterval", "(II)V"⟩
abbrev cX3_splitArea : ByteArray := prog_5_method_15_code
def yX3_splitArea : MethodName := ⟨RX3, "splitArea", "(I)V"⟩
abbrev cX3_isCut : ByteArray := prog_5_method_16_code
def yX3_isCut : MethodName := ⟨RX3, "isCut", "(II)Z"⟩
abbrev cX3_put : ByteArray := prog_5_method_17_code
def yX3_put : MethodName := ⟨RX3, "put", "(JI)I"⟩
abbrev cX3_cut : ByteArray := prog_5_method_18_code
def yX3_cut : MethodName := ⟨RX3, "cut", "(I)I"⟩
abbrev cX3_open_ : ByteArray := prog_5_method_19_code
def yX3_open_ : MethodName := ⟨RX3, "open", "()I"⟩
abbrev cX3_remove : ByteArray := prog_5_method_20_code
def yX3_remove : MethodName := ⟨RX3, "remove", "(J)I"⟩
abbrev cX3_reorganise : ByteArray := prog_5_method_21_code
def yX3_reorganise : MethodName := ⟨RX3, "reorganise", "()I"⟩
abbrev cX3_find : ByteArray := prog_5_method_22_code
def yX3_find : MethodName := ⟨RX3, "find", "(J)I"⟩
abbrev cX3_next : ByteArray := prog_5_method_23_code
def yX3_next : MethodName := ⟨RX3, "next", "(J)I"⟩
abbrev cX3_areaOf : ByteArray := prog_5_method_24_code
def yX3_areaOf : MethodName := ⟨RX3, "areaOf", "(I)I"⟩
abbrev cX3_interval : ByteArray := prog_5_method_25_code
def yX3_interval : MethodName := ⟨RX3, "interval", "(II)I"⟩
abbrev cX3_split : ByteArray := prog_5_method_26_code
def yX3_split : MethodName := ⟨RX3, "split", "(I)I"⟩
abbrev cX3_index : ByteArray := prog_5_method_27_code
def yX3_index : MethodName := ⟨RX3, "index", "(II)I"⟩
abbrev cX3_verify : ByteArray := prog_5_method_28_code
def yX3_verify : MethodName := ⟨RX3, "verify", "()I"⟩
abbrev cX3_order : ByteArray := prog_5_method_29_code
def yX3_order : MethodName := ⟨RX3, "order", "(I)J"⟩
abbrev cX3_count : ByteArray := prog_5_method_30_code
def yX3_count : MethodName := ⟨RX3, "count", "(I)I"⟩
def RJx00060 : String := "java/lang/ArrayIndexOutOfBoundsException"
def TJx00060 : u_T := fun k => match k with
  | 0 => ("java/lang/Throwable", "cause", "Ljava/lang/Throwable;", false)
  | 1 => ("java/lang/Throwable", "stackTrace", "[Ljava/lang/StackTraceElement;", false)
  | 2 => ("java/lang/Throwable", "suppressedExceptions", "Ljava/util/List;", false)
  | 3 => ("java/lang/Throwable", "detailMessage", "Ljava/lang/String;", false)
  | 4 => ("java/lang/Throwable", "backtrace", "Ljava/lang/Object;", false)
  | _ => ("java/lang/Throwable", "depth", "I", false)
def tyJx00060 : Nat → FieldType := fun k => match k with
  | 0 => .object "java/lang/Throwable"
  | 1 => .array (.object "java/lang/StackTraceElement")
  | 2 => .object "java/util/List"
  | 3 => .object "java/lang/String"
  | 4 => .object "java/lang/Object"
  | _ => .int
abbrev wsJx000600 : List Cond := u_ws RJx00060 TJx00060 6
theorem nmJx00060 : ∀ a, a < 6 → ∀ b, b < 6 → a ≠ b → (TJx00060 a).2.1 ≠ (TJx00060 b).2.1 := by decide +kernel
theorem tyJx00060_ok : ∀ k, k < 6 → parseFieldDescriptor (TJx00060 k).2.2.1 = some (tyJx00060 k) := by decide +kernel
abbrev cJx00060_init_a7421 : ByteArray := prog_6_method_2_code
def yJx00060_init_a7421 : MethodName := ⟨RJx00060, "<init>", "(Ljava/lang/String;)V"⟩
def RJx29ce0 : String := "java/lang/Enum"
def TJx29ce0 : u_T := fun k => match k with
  | _ => ("", "", "", false)
def tyJx29ce0 : Nat → FieldType := fun k => match k with
  | _ => .int
abbrev wsJx29ce00 : List Cond := u_ws RJx29ce0 TJx29ce0 0
theorem nmJx29ce0 : ∀ a, a < 0 → ∀ b, b < 0 → a ≠ b → (TJx29ce0 a).2.1 ≠ (TJx29ce0 b).2.1 := by decide +kernel
theorem tyJx29ce0_ok : ∀ k, k < 0 → parseFieldDescriptor (TJx29ce0 k).2.2.1 = some (tyJx29ce0 k) := by decide +kernel
def RJ9 : String := "java/lang/Math"
def TJ9 : u_T := fun k => match k with
  | _ => ("", "", "", false)
def tyJ9 : Nat → FieldType := fun k => match k with
  | _ => .int
abbrev wsJ90 : List Cond := u_ws RJ9 TJ9 0
theorem nmJ9 : ∀ a, a < 0 → ∀ b, b < 0 → a ≠ b → (TJ9 a).2.1 ≠ (TJ9 b).2.1 := by decide +kernel
theorem tyJ9_ok : ∀ k, k < 0 → parseFieldDescriptor (TJ9 k).2.2.1 = some (tyJ9 k) := by decide +kernel
abbrev cJ9_max_7cf53 : ByteArray := prog_10_method_65_code
def yJ9_max_7cf53 : MethodName := ⟨RJ9, "max", "(II)I"⟩
abbrev cJ9_min_7cf53 : ByteArray := prog_10_method_69_code
def yJ9_min_7cf53 : MethodName := ⟨RJ9, "min", "(II)I"⟩
def RJ0 : String := "java/lang/String"
def TJ0 : u_T := fun k => match k with
  | _ => ("", "", "", false)
def tyJ0 : Nat → FieldType := fun k => match k with
  | _ => .int
abbrev wsJ00 : List Cond := u_ws RJ0 TJ0 0
theorem nmJ0 : ∀ a, a < 0 → ∀ b, b < 0 → a ≠ b → (TJ0 a).2.1 ≠ (TJ0 b).2.1 := by decide +kernel
theorem tyJ0_ok : ∀ k, k < 0 → parseFieldDescriptor (TJ0 k).2.2.1 = some (tyJ0 k) := by decide +kernel
def RJ10 : String := "java/lang/System"
def TJ10 : u_T := fun k => match k with
  | _ => ("", "", "", false)
def tyJ10 : Nat → FieldType := fun k => match k with
  | _ => .int
abbrev wsJ100 : List Cond := u_ws RJ10 TJ10 0
theorem nmJ10 : ∀ a, a < 0 → ∀ b, b < 0 → a ≠ b → (TJ10 a).2.1 ≠ (TJ10 b).2.1 := by decide +kernel
theorem tyJ10_ok : ∀ k, k < 0 → parseFieldDescriptor (TJ10 k).2.2.1 = some (tyJ10 k) := by decide +kernel
def RL : String := "IntervalSplitsLaw"
abbrev cL_cell : ByteArray := method_2_code
def yL_cell : MethodName := ⟨RL, "cell", "([II)I"⟩
abbrev cL_index : ByteArray := method_3_code
def yL_index : MethodName := ⟨RL, "index", "(LIntervalSplits;II[J)I"⟩
abbrev cL_law : ByteArray := code
def yL_law : MethodName := ⟨RL, "law", "([I)Z"⟩
abbrev vwCl : List vw_C := [(RJx00060, TJx00060, 6), (RX1, TX1, 2), (RX2, TX2, 19), (RX3, TX3, 20)]
end
section
theorem dX1_init_0 : decode cX1_init 0 = .ok (.aload_n 0, 1) := by decide +kernel
theorem dX1_init_1 : decode cX1_init 1 = .ok (.invokespecial 1, 3) := by decide +kernel
theorem dX1_init_4 : decode cX1_init 4 = .ok (.aload_n 0, 1) := by decide +kernel
theorem dX1_init_5 : decode cX1_init 5 = .ok (.iconst 0, 1) := by decide +kernel
theorem dX1_init_6 : decode cX1_init 6 = .ok (.putfield 7, 3) := by decide +kernel
theorem dX1_init_9 : decode cX1_init 9 = .ok (.aload_n 0, 1) := by decide +kernel
theorem dX1_init_10 : decode cX1_init 10 = .ok (.iconst 0, 1) := by decide +kernel
theorem dX1_init_11 : decode cX1_init 11 = .ok (.iload_n 1, 1) := by decide +kernel
theorem dX1_init_12 : decode cX1_init 12 = .ok (.invokestatic 13, 3) := by decide +kernel
theorem dX1_init_15 : decode cX1_init 15 = .ok (.newarray .long, 2) := by decide +kernel
theorem dX1_init_17 : decode cX1_init 17 = .ok (.putfield 19, 3) := by decide +kernel
theorem dX1_init_20 : decode cX1_init 20 = .ok (.return_, 1) := by decide +kernel
theorem dX1_holds_0 : decode cX1_holds 0 = .ok (.iload_n 1, 1) := by decide +kernel
theorem dX1_holds_1 : decode cX1_holds 1 = .ok (.ifCond .lt 15, 3) := by decide +kernel
theorem dX1_holds_4 : decode cX1_holds 4 = .ok (.iload_n 1, 1) := by decide +kernel
theorem dX1_holds_5 : decode cX1_holds 5 = .ok (.aload_n 0, 1) := by decide +kernel
theorem dX1_holds_6 : decode cX1_holds 6 = .ok (.getfield 7, 3) := by decide +kernel
theorem dX1_holds_9 : decode cX1_holds 9 = .ok (.if_icmp .ge 7, 3) := by decide +kernel
theorem dX1_holds_12 : decode cX1_holds 12 = .ok (.iconst 1, 1) := by decide +kernel
theorem dX1_holds_13 : decode cX1_holds 13 = .ok (.goto 4, 3) := by decide +kernel
theorem dX1_holds_16 : decode cX1_holds 16 = .ok (.iconst 0, 1) := by decide +kernel
theorem dX1_holds_17 : decode cX1_holds 17 = .ok (.ireturn, 1) := by decide +kernel
theorem dX1_at_0 : decode cX1_at 0 = .ok (.iload_n 1, 1) := by decide +kernel
theorem dX1_at_1 : decode cX1_at 1 = .ok (.ifCond .lt 29, 3) := by decide +kernel
theorem dX1_at_4 : decode cX1_at 4 = .ok (.iload_n 1, 1) := by decide +kernel
theorem dX1_at_5 : decode cX1_at 5 = .ok (.aload_n 0, 1) := by decide +kernel
theorem dX1_at_6 : decode cX1_at 6 = .ok (.getfield 7, 3) := by decide +kernel
theorem dX1_at_9 : decode cX1_at 9 = .ok (.if_icmp .ge 21, 3) := by decide +kernel
theorem dX1_at_12 : decode cX1_at 12 = .ok (.iload_n 1, 1) := by decide +kernel
theorem dX1_at_13 : decode cX1_at 13 = .ok (.aload_n 0, 1) := by decide +kernel
theorem dX1_at_14 : decode cX1_at 14 = .ok (.getfield 19, 3) := by decide +kernel
theorem dX1_at_17 : decode cX1_at 17 = .ok (.arraylength, 1) := by decide +kernel
theorem dX1_at_18 : decode cX1_at 18 = .ok (.if_icmp .ge 12, 3) := by decide +kernel
theorem dX1_at_21 : decode cX1_at 21 = .ok (.aload_n 0, 1) := by decide +kernel
theorem dX1_at_22 : decode cX1_at 22 = .ok (.getfield 19, 3) := by decide +kernel
theorem dX1_at_25 : decode cX1_at 25 = .ok (.iload_n 1, 1) := by decide +kernel
theorem dX1_at_26 : decode cX1_at 26 = .ok (.laload, 1) := by decide +kernel
theorem dX1_at_27 : decode cX1_at 27 = .ok (.goto 4, 3) := by decide +kernel
theorem dX1_at_30 : decode cX1_at 30 = .ok (.lconst 0, 1) := by decide +kernel
theorem dX1_at_31 : decode cX1_at 31 = .ok (.lreturn, 1) := by decide +kernel
theorem dX1_intAt_0 : decode cX1_intAt 0 = .ok (.aload_n 0, 1) := by decide +kernel
theorem dX1_intAt_1 : decode cX1_intAt 1 = .ok (.iload_n 1, 1) := by decide +kernel
theorem dX1_intAt_2 : decode cX1_intAt 2 = .ok (.invokevirtual 23, 3) := by decide +kernel
theorem dX1_intAt_5 : decode cX1_intAt 5 = .ok (.l2i, 1) := by decide +kernel
theorem dX1_intAt_6 : decode cX1_intAt 6 = .ok (.ireturn, 1) := by decide +kernel
theorem dX1_raise_0 : decode cX1_raise 0 = .ok (.iload_n 1, 1) := by decide +kernel
theorem dX1_raise_1 : decode cX1_raise 1 = .ok (.ifCond .lt 31, 3) := by decide +kernel
theorem dX1_raise_4 : decode cX1_raise 4 = .ok (.iload_n 1, 1) := by decide +kernel
theorem dX1_raise_5 : decode cX1_raise 5 = .ok (.aload_n 0, 1) := by decide +kernel
theorem dX1_raise_6 : decode cX1_raise 6 = .ok (.getfield 7, 3) := by decide +kernel
theorem dX1_raise_9 : decode cX1_raise 9 = .ok (.if_icmp .ge 23, 3) := by decide +kernel
theorem dX1_raise_12 : decode cX1_raise 12 = .ok (.iload_n 1, 1) := by decide +kernel
theorem dX1_raise_13 : decode cX1_raise 13 = .ok (.aload_n 0, 1) := by decide +kernel
theorem dX1_raise_14 : decode cX1_raise 14 = .ok (.getfield 19, 3) := by decide +kernel
theorem dX1_raise_17 : decode cX1_raise 17 = .ok (.arraylength, 1) := by decide +kernel
theorem dX1_raise_18 : decode cX1_raise 18 = .ok (.if_icmp .ge 14, 3) := by decide +kernel
theorem dX1_raise_21 : decode cX1_raise 21 = .ok (.aload_n 0, 1) := by decide +kernel
theorem dX1_raise_22 : decode cX1_raise 22 = .ok (.getfield 19, 3) := by decide +kernel
theorem dX1_raise_25 : decode cX1_raise 25 = .ok (.iload_n 1, 1) := by decide +kernel
theorem dX1_raise_26 : decode cX1_raise 26 = .ok (.dup2, 1) := by decide +kernel
theorem dX1_raise_27 : decode cX1_raise 27 = .ok (.laload, 1) := by decide +kernel
theorem dX1_raise_28 : decode cX1_raise 28 = .ok (.iload_n 2, 1) := by decide +kernel
theorem dX1_raise_29 : decode cX1_raise 29 = .ok (.i2l, 1) := by decide +kernel
theorem dX1_raise_30 : decode cX1_raise 30 = .ok (.ladd, 1) := by decide +kernel
theorem dX1_raise_31 : decode cX1_raise 31 = .ok (.lastore, 1) := by decide +kernel
theorem dX1_raise_32 : decode cX1_raise 32 = .ok (.return_, 1) := by decide +kernel
theorem dX1_insertAt_0 : decode cX1_insertAt 0 = .ok (.iload_n 1, 1) := by decide +kernel
theorem dX1_insertAt_1 : decode cX1_insertAt 1 = .ok (.ifCond .lt 23, 3) := by decide +kernel
theorem dX1_insertAt_4 : decode cX1_insertAt 4 = .ok (.iload_n 1, 1) := by decide +kernel
theorem dX1_insertAt_5 : decode cX1_insertAt 5 = .ok (.aload_n 0, 1) := by decide +kernel
theorem dX1_insertAt_6 : decode cX1_insertAt 6 = .ok (.getfield 7, 3) := by decide +kernel
theorem dX1_insertAt_9 : decode cX1_insertAt 9 = .ok (.if_icmp .gt 15, 3) := by decide +kernel
theorem dX1_insertAt_12 : decode cX1_insertAt 12 = .ok (.aload_n 0, 1) := by decide +kernel
theorem dX1_insertAt_13 : decode cX1_insertAt 13 = .ok (.getfield 7, 3) := by decide +kernel
theorem dX1_insertAt_16 : decode cX1_insertAt 16 = .ok (.aload_n 0, 1) := by decide +kernel
theorem dX1_insertAt_17 : decode cX1_insertAt 17 = .ok (.getfield 19, 3) := by decide +kernel
theorem dX1_insertAt_20 : decode cX1_insertAt 20 = .ok (.arraylength, 1) := by decide +kernel
theorem dX1_insertAt_21 : decode cX1_insertAt 21 = .ok (.if_icmp .lt 4, 3) := by decide +kernel
theorem dX1_insertAt_24 : decode cX1_insertAt 24 = .ok (.return_, 1) := by decide +kernel
theorem dX1_insertAt_25 : decode cX1_insertAt 25 = .ok (.aload_n 0, 1) := by decide +kernel
theorem dX1_insertAt_26 : decode cX1_insertAt 26 = .ok (.getfield 19, 3) := by decide +kernel
theorem dX1_insertAt_29 : decode cX1_insertAt 29 = .ok (.iload_n 1, 1) := by decide +kernel
theorem dX1_insertAt_30 : decode cX1_insertAt 30 = .ok (.aload_n 0, 1) := by decide +kernel
theorem dX1_insertAt_31 : decode cX1_insertAt 31 = .ok (.getfield 19, 3) := by decide +kernel
theorem dX1_insertAt_34 : decode cX1_insertAt 34 = .ok (.iload_n 1, 1) := by decide +kernel
theorem dX1_insertAt_35 : decode cX1_insertAt 35 = .ok (.iconst 1, 1) := by decide +kernel
theorem dX1_insertAt_36 : decode cX1_insertAt 36 = .ok (.iadd, 1) := by decide +kernel
theorem dX1_insertAt_37 : decode cX1_insertAt 37 = .ok (.aload_n 0, 1) := by decide +kernel
theorem dX1_insertAt_38 : decode cX1_insertAt 38 = .ok (.getfield 7, 3) := by decide +kernel
theorem dX1_insertAt_41 : decode cX1_insertAt 41 = .ok (.iload_n 1, 1) := by decide +kernel
theorem dX1_insertAt_42 : decode cX1_insertAt 42 = .ok (.isub, 1) := by decide +kernel
theorem dX1_insertAt_43 : decode cX1_insertAt 43 = .ok (.invokestatic 27, 3) := by decide +kernel
theorem dX1_insertAt_46 : decode cX1_insertAt 46 = .ok (.aload_n 0, 1) := by decide +kernel
theorem dX1_insertAt_47 : decode cX1_insertAt 47 = .ok (.getfield 19, 3) := by decide +kernel
theorem dX1_insertAt_50 : decode cX1_insertAt 50 = .ok (.iload_n 1, 1) := by decide +kernel
theorem dX1_insertAt_51 : decode cX1_insertAt 51 = .ok (.lload_n 2, 1) := by decide +kernel
theorem dX1_insertAt_52 : decode cX1_insertAt 52 = .ok (.lastore, 1) := by decide +kernel
theorem dX1_insertAt_53 : decode cX1_insertAt 53 = .ok (.aload_n 0, 1) := by decide +kernel
theorem dX1_insertAt_54 : decode cX1_insertAt 54 = .ok (.dup, 1) := by decide +kernel
theorem dX1_insertAt_55 : decode cX1_insertAt 55 = .ok (.getfield 7, 3) := by decide +kernel
theorem dX1_insertAt_58 : decode cX1_insertAt 58 = .ok (.iconst 1, 1) := by decide +kernel
theorem dX1_insertAt_59 : decode cX1_insertAt 59 = .ok (.iadd, 1) := by decide +kernel
theorem dX1_insertAt_60 : decode cX1_insertAt 60 = .ok (.putfield 7, 3) := by decide +kernel
theorem dX1_insertAt_63 : decode cX1_insertAt 63 = .ok (.return_, 1) := by decide +kernel
theorem dX1_deleteAt_0 : decode cX1_deleteAt 0 = .ok (.iload_n 1, 1) := by decide +kernel
theorem dX1_deleteAt_1 : decode cX1_deleteAt 1 = .ok (.ifCond .lt 56, 3) := by decide +kernel
theorem dX1_deleteAt_4 : decode cX1_deleteAt 4 = .ok (.iload_n 1, 1) := by decide +kernel
theorem dX1_deleteAt_5 : decode cX1_deleteAt 5 = .ok (.aload_n 0, 1) := by decide +kernel
theorem dX1_deleteAt_6 : decode cX1_deleteAt 6 = .ok (.getfield 7, 3) := by decide +kernel
theorem dX1_deleteAt_9 : decode cX1_deleteAt 9 = .ok (.if_icmp .ge 48, 3) := by decide +kernel
theorem dX1_deleteAt_12 : decode cX1_deleteAt 12 = .ok (.aload_n 0, 1) := by decide +kernel
theorem dX1_deleteAt_13 : decode cX1_deleteAt 13 = .ok (.getfield 7, 3) := by decide +kernel
theorem dX1_deleteAt_16 : decode cX1_deleteAt 16 = .ok (.aload_n 0, 1) := by decide +kernel
theorem dX1_deleteAt_17 : decode cX1_deleteAt 17 = .ok (.getfield 19, 3) := by decide +kernel
theorem dX1_deleteAt_20 : decode cX1_deleteAt 20 = .ok (.arraylength, 1) := by decide +kernel
theorem dX1_deleteAt_21 : decode cX1_deleteAt 21 = .ok (.if_icmp .gt 36, 3) := by decide +kernel
theorem dX1_deleteAt_24 : decode cX1_deleteAt 24 = .ok (.aload_n 0, 1) := by decide +kernel
theorem dX1_deleteAt_25 : decode cX1_deleteAt 25 = .ok (.getfield 19, 3) := by decide +kernel
theorem dX1_deleteAt_28 : decode cX1_deleteAt 28 = .ok (.iload_n 1, 1) := by decide +kernel
theorem dX1_deleteAt_29 : decode cX1_deleteAt 29 = .ok (.iconst 1, 1) := by decide +kernel
theorem dX1_deleteAt_30 : decode cX1_deleteAt 30 = .ok (.iadd, 1) := by decide +kernel
theorem dX1_deleteAt_31 : decode cX1_deleteAt 31 = .ok (.aload_n 0, 1) := by decide +kernel
theorem dX1_deleteAt_32 : decode cX1_deleteAt 32 = .ok (.getfield 19, 3) := by decide +kernel
theorem dX1_deleteAt_35 : decode cX1_deleteAt 35 = .ok (.iload_n 1, 1) := by decide +kernel
theorem dX1_deleteAt_36 : decode cX1_deleteAt 36 = .ok (.aload_n 0, 1) := by decide +kernel
theorem dX1_deleteAt_37 : decode cX1_deleteAt 37 = .ok (.getfield 7, 3) := by decide +kernel
theorem dX1_deleteAt_40 : decode cX1_deleteAt 40 = .ok (.iload_n 1, 1) := by decide +kernel
theorem dX1_deleteAt_41 : decode cX1_deleteAt 41 = .ok (.isub, 1) := by decide +kernel
theorem dX1_deleteAt_42 : decode cX1_deleteAt 42 = .ok (.iconst 1, 1) := by decide +kernel
theorem dX1_deleteAt_43 : decode cX1_deleteAt 43 = .ok (.isub, 1) := by decide +kernel
theorem dX1_deleteAt_44 : decode cX1_deleteAt 44 = .ok (.invokestatic 27, 3) := by decide +kernel
theorem dX1_deleteAt_47 : decode cX1_deleteAt 47 = .ok (.aload_n 0, 1) := by decide +kernel
theorem dX1_deleteAt_48 : decode cX1_deleteAt 48 = .ok (.dup, 1) := by decide +kernel
theorem dX1_deleteAt_49 : decode cX1_deleteAt 49 = .ok (.getfield 7, 3) := by decide +kernel
theorem dX1_deleteAt_52 : decode cX1_deleteAt 52 = .ok (.iconst 1, 1) := by decide +kernel
theorem dX1_deleteAt_53 : decode cX1_deleteAt 53 = .ok (.isub, 1) := by decide +kernel
theorem dX1_deleteAt_54 : decode cX1_deleteAt 54 = .ok (.putfield 7, 3) := by decide +kernel
theorem dX1_deleteAt_57 : decode cX1_deleteAt 57 = .ok (.return_, 1) := by decide +kernel
theorem dX1_sum_0 : decode cX1_sum 0 = .ok (.iload_n 2, 1) := by decide +kernel
theorem dX1_sum_1 : decode cX1_sum 1 = .ok (.aload_n 0, 1) := by decide +kernel
theorem dX1_sum_2 : decode cX1_sum 2 = .ok (.getfield 7, 3) := by decide +kernel
theorem dX1_sum_5 : decode cX1_sum 5 = .ok (.if_icmp .ge 7, 3) := by decide +kernel
theorem dX1_sum_8 : decode cX1_sum 8 = .ok (.iload_n 2, 1) := by decide +kernel
theorem dX1_sum_9 : decode cX1_sum 9 = .ok (.goto 7, 3) := by decide +kernel
theorem dX1_sum_12 : decode cX1_sum 12 = .ok (.aload_n 0, 1) := by decide +kernel
theorem dX1_sum_13 : decode cX1_sum 13 = .ok (.getfield 7, 3) := by decide +kernel
theorem dX1_sum_16 : decode cX1_sum 16 = .ok (.istore_n 3, 1) := by decide +kernel
theorem dX1_sum_17 : decode cX1_sum 17 = .ok (.iconst 0, 1) := by decide +kernel
theorem dX1_sum_18 : decode cX1_sum 18 = .ok (.istore 4, 2) := by decide +kernel
theorem dX1_sum_20 : decode cX1_sum 20 = .ok (.iload_n 1, 1) := by decide +kernel
theorem dX1_sum_21 : decode cX1_sum 21 = .ok (.istore 5, 2) := by decide +kernel
theorem dX1_sum_23 : decode cX1_sum 23 = .ok (.iload 5, 2) := by decide +kernel
theorem dX1_sum_25 : decode cX1_sum 25 = .ok (.iload_n 3, 1) := by decide +kernel
theorem dX1_sum_26 : decode cX1_sum 26 = .ok (.if_icmp .ge 21, 3) := by decide +kernel
theorem dX1_sum_29 : decode cX1_sum 29 = .ok (.iload 4, 2) := by decide +kernel
theorem dX1_sum_31 : decode cX1_sum 31 = .ok (.aload_n 0, 1) := by decide +kernel
theorem dX1_sum_32 : decode cX1_sum 32 = .ok (.iload 5, 2) := by decide +kernel
theorem dX1_sum_34 : decode cX1_sum 34 = .ok (.invokevirtual 23, 3) := by decide +kernel
theorem dX1_sum_37 : decode cX1_sum 37 = .ok (.l2i, 1) := by decide +kernel
theorem dX1_sum_38 : decode cX1_sum 38 = .ok (.iadd, 1) := by decide +kernel
theorem dX1_sum_39 : decode cX1_sum 39 = .ok (.istore 4, 2) := by decide +kernel
theorem dX1_sum_41 : decode cX1_sum 41 = .ok (.iinc 5 1, 3) := by decide +kernel
theorem dX1_sum_44 : decode cX1_sum 44 = .ok (.goto (-21), 3) := by decide +kernel
theorem dX1_sum_47 : decode cX1_sum 47 = .ok (.iload 4, 2) := by decide +kernel
theorem dX1_sum_49 : decode cX1_sum 49 = .ok (.ireturn, 1) := by decide +kernel
theorem dX1_groupOf_0 : decode cX1_groupOf 0 = .ok (.iconst 0, 1) := by decide +kernel
theorem dX1_groupOf_1 : decode cX1_groupOf 1 = .ok (.istore_n 2, 1) := by decide +kernel
theorem dX1_groupOf_2 : decode cX1_groupOf 2 = .ok (.iconst 0, 1) := by decide +kernel
theorem dX1_groupOf_3 : decode cX1_groupOf 3 = .ok (.istore_n 3, 1) := by decide +kernel
theorem dX1_groupOf_4 : decode cX1_groupOf 4 = .ok (.iload_n 3, 1) := by decide +kernel
theorem dX1_groupOf_5 : decode cX1_groupOf 5 = .ok (.aload_n 0, 1) := by decide +kernel
theorem dX1_groupOf_6 : decode cX1_groupOf 6 = .ok (.getfield 7, 3) := by decide +kernel
theorem dX1_groupOf_9 : decode cX1_groupOf 9 = .ok (.if_icmp .ge 25, 3) := by decide +kernel
theorem dX1_groupOf_12 : decode cX1_groupOf 12 = .ok (.iload_n 2, 1) := by decide +kernel
theorem dX1_groupOf_13 : decode cX1_groupOf 13 = .ok (.aload_n 0, 1) := by decide +kernel
theorem dX1_groupOf_14 : decode cX1_groupOf 14 = .ok (.iload_n 3, 1) := by decide +kernel
theorem dX1_groupOf_15 : decode cX1_groupOf 15 = .ok (.invokevirtual 23, 3) := by decide +kernel
theorem dX1_groupOf_18 : decode cX1_groupOf 18 = .ok (.l2i, 1) := by decide +kernel
theorem dX1_groupOf_19 : decode cX1_groupOf 19 = .ok (.iadd, 1) := by decide +kernel
theorem dX1_groupOf_20 : decode cX1_groupOf 20 = .ok (.istore_n 2, 1) := by decide +kernel
theorem dX1_groupOf_21 : decode cX1_groupOf 21 = .ok (.iload_n 1, 1) := by decide +kernel
theorem dX1_groupOf_22 : decode cX1_groupOf 22 = .ok (.iload_n 2, 1) := by decide +kernel
theorem dX1_groupOf_23 : decode cX1_groupOf 23 = .ok (.if_icmp .ge 5, 3) := by decide +kernel
theorem dX1_groupOf_26 : decode cX1_groupOf 26 = .ok (.iload_n 3, 1) := by decide +kernel
theorem dX1_groupOf_27 : decode cX1_groupOf 27 = .ok (.ireturn, 1) := by decide +kernel
theorem dX1_groupOf_28 : decode cX1_groupOf 28 = .ok (.iinc 3 1, 3) := by decide +kernel
theorem dX1_groupOf_31 : decode cX1_groupOf 31 = .ok (.goto (-27), 3) := by decide +kernel
theorem dX1_groupOf_34 : decode cX1_groupOf 34 = .ok (.iconst 0, 1) := by decide +kernel
theorem dX1_groupOf_35 : decode cX1_groupOf 35 = .ok (.ireturn, 1) := by decide +kernel
theorem dX2_init_0 : decode cX2_init 0 = .ok (.aload_n 0, 1) := by decide +kernel
theorem dX2_init_1 : decode cX2_init 1 = .ok (.invokespecial 3, 3) := by decide +kernel
theorem dX2_init_4 : decode cX2_init 4 = .ok (.aload_n 0, 1) := by decide +kernel
theorem dX2_init_5 : decode cX2_init 5 = .ok (.new 9, 3) := by decide +kernel
theorem dX2_init_8 : decode cX2_init 8 = .ok (.dup, 1) := by decide +kernel
theorem dX2_init_9 : decode cX2_init 9 = .ok (.sipush 600, 3) := by decide +kernel
theorem dX2_init_12 : decode cX2_init 12 = .ok (.invokespecial 11, 3) := by decide +kernel
theorem dX2_init_15 : decode cX2_init 15 = .ok (.putfield 14, 3) := by decide +kernel
theorem dX2_init_18 : decode cX2_init 18 = .ok (.aload_n 0, 1) := by decide +kernel
theorem dX2_init_19 : decode cX2_init 19 = .ok (.new 9, 3) := by decide +kernel
theorem dX2_init_22 : decode cX2_init 22 = .ok (.dup, 1) := by decide +kernel
theorem dX2_init_23 : decode cX2_init 23 = .ok (.sipush 600, 3) := by decide +kernel
theorem dX2_init_26 : decode cX2_init 26 = .ok (.invokespecial 11, 3) := by decide +kernel
theorem dX2_init_29 : decode cX2_init 29 = .ok (.putfield 18, 3) := by decide +kernel
theorem dX2_init_32 : decode cX2_init 32 = .ok (.aload_n 0, 1) := by decide +kernel
theorem dX2_init_33 : decode cX2_init 33 = .ok (.new 9, 3) := by decide +kernel
theorem dX2_init_36 : decode cX2_init 36 = .ok (.dup, 1) := by decide +kernel
theorem dX2_init_37 : decode cX2_init 37 = .ok (.sipush 601, 3) := by decide +kernel
theorem dX2_init_40 : decode cX2_init 40 = .ok (.invokespecial 11, 3) := by decide +kernel
theorem dX2_init_43 : decode cX2_init 43 = .ok (.putfield 21, 3) := by decide +kernel
theorem dX2_init_46 : decode cX2_init 46 = .ok (.aload_n 0, 1) := by decide +kernel
theorem dX2_init_47 : decode cX2_init 47 = .ok (.new 9, 3) := by decide +kernel
theorem dX2_init_50 : decode cX2_init 50 = .ok (.dup, 1) := by decide +kernel
theorem dX2_init_51 : decode cX2_init 51 = .ok (.sipush 601, 3) := by decide +kernel
theorem dX2_init_54 : decode cX2_init 54 = .ok (.invokespecial 11, 3) := by decide +kernel
theorem dX2_init_57 : decode cX2_init 57 = .ok (.putfield 24, 3) := by decide +kernel
theorem dX2_init_60 : decode cX2_init 60 = .ok (.aload_n 0, 1) := by decide +kernel
theorem dX2_init_61 : decode cX2_init 61 = .ok (.new 9, 3) := by decide +kernel
theorem dX2_init_64 : decode cX2_init 64 = .ok (.dup, 1) := by decide +kernel
theorem dX2_init_65 : decode cX2_init 65 = .ok (.sipush 601, 3) := by decide +kernel
theorem dX2_init_68 : decode cX2_init 68 = .ok (.invokespecial 11, 3) := by decide +kernel
theorem dX2_init_71 : decode cX2_init 71 = .ok (.putfield 27, 3) := by decide +kernel
theorem dX2_init_74 : decode cX2_init 74 = .ok (.aload_n 0, 1) := by decide +kernel
theorem dX2_init_75 : decode cX2_init 75 = .ok (.iconst 1, 1) := by decide +kernel
theorem dX2_init_76 : decode cX2_init 76 = .ok (.putfield 30, 3) := by decide +kernel
theorem dX2_init_79 : decode cX2_init 79 = .ok (.aload_n 0, 1) := by decide +kernel
theorem dX2_init_80 : decode cX2_init 80 = .ok (.iconst 0, 1) := by decide +kernel
theorem dX2_init_81 : decode cX2_init 81 = .ok (.putfield 34, 3) := by decide +kernel
theorem dX2_init_84 : decode cX2_init 84 = .ok (.aload_n 0, 1) := by decide +kernel
theorem dX2_init_85 : decode cX2_init 85 = .ok (.iconst 0, 1) := by decide +kernel
theorem dX2_init_86 : decode cX2_init 86 = .ok (.putfield 37, 3) := by decide +kernel
theorem dX2_init_89 : decode cX2_init 89 = .ok (.aload_n 0, 1) := by decide +kernel
theorem dX2_init_90 : decode cX2_init 90 = .ok (.iconst 0, 1) := by decide +kernel
theorem dX2_init_91 : decode cX2_init 91 = .ok (.putfield 41, 3) := by decide +kernel
theorem dX2_init_94 : decode cX2_init 94 = .ok (.aload_n 0, 1) := by decide +kernel
theorem dX2_init_95 : decode cX2_init 95 = .ok (.getstatic 44, 3) := by decide +kernel
theorem dX2_init_98 : decode cX2_init 98 = .ok (.putfield 50, 3) := by decide +kernel
theorem dX2_init_101 : decode cX2_init 101 = .ok (.aload_n 0, 1) := by decide +kernel
theorem dX2_init_102 : decode cX2_init 102 = .ok (.iconst 0, 1) := by decide +kernel
theorem dX2_init_103 : decode cX2_init 103 = .ok (.putfield 53, 3) := by decide +kernel
theorem dX2_init_106 : decode cX2_init 106 = .ok (.aload_n 0, 1) := by decide +kernel
theorem dX2_init_107 : decode cX2_init 107 = .ok (.iconst 0, 1) := by decide +kernel
theorem dX2_init_108 : decode cX2_init 108 = .ok (.putfield 56, 3) := by decide +kernel
theorem dX2_init_111 : decode cX2_init 111 = .ok (.aload_n 0, 1) := by decide +kernel
theorem dX2_init_112 : decode cX2_init 112 = .ok (.iconst 0, 1) := by decide +kernel
theorem dX2_init_113 : decode cX2_init 113 = .ok (.putfield 59, 3) := by decide +kernel
theorem dX2_init_116 : decode cX2_init 116 = .ok (.aload_n 0, 1) := by decide +kernel
theorem dX2_init_117 : decode cX2_init 117 = .ok (.iconst 0, 1) := by decide +kernel
theorem dX2_init_118 : decode cX2_init 118 = .ok (.putfield 62, 3) := by decide +kernel
theorem dX2_init_121 : decode cX2_init 121 = .ok (.aload_n 0, 1) := by decide +kernel
theorem dX2_init_122 : decode cX2_init 122 = .ok (.iconst 0, 1) := by decide +kernel
theorem dX2_init_123 : decode cX2_init 123 = .ok (.putfield 65, 3) := by decide +kernel
theorem dX2_init_126 : decode cX2_init 126 = .ok (.iload 4, 2) := by decide +kernel
theorem dX2_init_128 : decode cX2_init 128 = .ok (.iconst 1, 1) := by decide +kernel
theorem dX2_init_129 : decode cX2_init 129 = .ok (.bipush 100, 2) := by decide +kernel
theorem dX2_init_131 : decode cX2_init 131 = .ok (.invokestatic 68, 3) := by decide +kernel
theorem dX2_init_134 : decode cX2_init 134 = .ok (.istore 5, 2) := by decide +kernel
theorem dX2_init_136 : decode cX2_init 136 = .ok (.iload_n 3, 1) := by decide +kernel
theorem dX2_init_137 : decode cX2_init 137 = .ok (.iconst 1, 1) := by decide +kernel
theorem dX2_init_138 : decode cX2_init 138 = .ok (.iload 5, 2) := by decide +kernel
theorem dX2_init_140 : decode cX2_init 140 = .ok (.invokestatic 68, 3) := by decide +kernel
theorem dX2_init_143 : decode cX2_init 143 = .ok (.istore 6, 2) := by decide +kernel
theorem dX2_init_145 : decode cX2_init 145 = .ok (.aload_n 0, 1) := by decide +kernel
theorem dX2_init_146 : decode cX2_init 146 = .ok (.iload_n 1, 1) := by decide +kernel
theorem dX2_init_147 : decode cX2_init 147 = .ok (.iconst 1, 1) := by decide +kernel
theorem dX2_init_148 : decode cX2_init 148 = .ok (.sipush 1000, 3) := by decide +kernel
theorem dX2_init_151 : decode cX2_init 151 = .ok (.invokestatic 68, 3) := by decide +kernel
theorem dX2_init_154 : decode cX2_init 154 = .ok (.putfield 72, 3) := by decide +kernel
theorem dX2_init_157 : decode cX2_init 157 = .ok (.aload_n 0, 1) := by decide +kernel
theorem dX2_init_158 : decode cX2_init 158 = .ok (.iload_n 2, 1) := by decide +kernel
theorem dX2_init_159 : decode cX2_init 159 = .ok (.iconst 2, 1) := by decide +kernel
theorem dX2_init_160 : decode cX2_init 160 = .ok (.bipush 20, 2) := by decide +kernel
theorem dX2_init_162 : decode cX2_init 162 = .ok (.invokestatic 68, 3) := by decide +kernel
theorem dX2_init_165 : decode cX2_init 165 = .ok (.putfield 75, 3) := by decide +kernel
theorem dX2_init_168 : decode cX2_init 168 = .ok (.aload_n 0, 1) := by decide +kernel
theorem dX2_init_169 : decode cX2_init 169 = .ok (.aload_n 0, 1) := by decide +kernel
theorem dX2_init_170 : decode cX2_init 170 = .ok (.getfield 72, 3) := by decide +kernel
theorem dX2_init_173 : decode cX2_init 173 = .ok (.iload 6, 2) := by decide +kernel
theorem dX2_init_175 : decode cX2_init 175 = .ok (.imul, 1) := by decide +kernel
theorem dX2_init_176 : decode cX2_init 176 = .ok (.iload 5, 2) := by decide +kernel
theorem dX2_init_178 : decode cX2_init 178 = .ok (.idiv, 1) := by decide +kernel
theorem dX2_init_179 : decode cX2_init 179 = .ok (.putfield 78, 3) := by decide +kernel
theorem dX2_init_182 : decode cX2_init 182 = .ok (.aload_n 0, 1) := by decide +kernel
theorem dX2_init_183 : decode cX2_init 183 = .ok (.iconst 1, 1) := by decide +kernel
theorem dX2_init_184 : decode cX2_init 184 = .ok (.aload_n 0, 1) := by decide +kernel
theorem dX2_init_185 : decode cX2_init 185 = .ok (.getfield 75, 3) := by decide +kernel
theorem dX2_init_188 : decode cX2_init 188 = .ok (.iload 6, 2) := by decide +kernel
theorem dX2_init_190 : decode cX2_init 190 = .ok (.imul, 1) := by decide +kernel
theorem dX2_init_191 : decode cX2_init 191 = .ok (.iload 5, 2) := by decide +kernel
theorem dX2_init_193 : decode cX2_init 193 = .ok (.idiv, 1) := by decide +kernel
theorem dX2_init_194 : decode cX2_init 194 = .ok (.invokestatic 81, 3) := by decide +kernel
theorem dX2_init_197 : decode cX2_init 197 = .ok (.putfield 87, 3) := by decide +kernel
theorem dX2_init_200 : decode cX2_init 200 = .ok (.aload_n 0, 1) := by decide +kernel
theorem dX2_init_201 : decode cX2_init 201 = .ok (.iconst 0, 1) := by decide +kernel
theorem dX2_init_202 : decode cX2_init 202 = .ok (.invokevirtual 90, 3) := by decide +kernel
theorem dX2_init_205 : decode cX2_init 205 = .ok (.return_, 1) := by decide +kernel
theorem dX2_put_0 : decode cX2_put 0 = .ok (.aload_n 0, 1) := by decide +kernel
theorem dX2_put_1 : decode cX2_put 1 = .ok (.getfield 37, 3) := by decide +kernel
theorem dX2_put_4 : decode cX2_put 4 = .ok (.ifCond .eq 6, 3) := by decide +kernel
theorem dX2_put_7 : decode cX2_put 7 = .ok (.bipush (-5), 2) := by decide +kernel
theorem dX2_put_9 : decode cX2_put 9 = .ok (.ireturn, 1) := by decide +kernel
theorem dX2_put_10 : decode cX2_put 10 = .ok (.aload_n 0, 1) := by decide +kernel
theorem dX2_put_11 : decode cX2_put 11 = .ok (.lload_n 1, 1) := by decide +kernel
theorem dX2_put_12 : decode cX2_put 12 = .ok (.invokevirtual 93, 3) := by decide +kernel
theorem dX2_put_15 : decode cX2_put 15 = .ok (.iconst (-1), 1) := by decide +kernel
theorem dX2_put_16 : decode cX2_put 16 = .ok (.if_icmp .eq 5, 3) := by decide +kernel
theorem dX2_put_19 : decode cX2_put 19 = .ok (.iconst 0, 1) := by decide +kernel
theorem dX2_put_20 : decode cX2_put 20 = .ok (.ireturn, 1) := by decide +kernel
theorem dX2_put_21 : decode cX2_put 21 = .ok (.iload_n 3, 1) := by decide +kernel
theorem dX2_put_22 : decode cX2_put 22 = .ok (.iconst 1, 1) := by decide +kernel
theorem dX2_put_23 : decode cX2_put 23 = .ok (.if_icmp .lt 24, 3) := by decide +kernel
theorem dX2_put_26 : decode cX2_put 26 = .ok (.iload_n 3, 1) := by decide +kernel
theorem dX2_put_27 : decode cX2_put 27 = .ok (.aload_n 0, 1) := by decide +kernel
theorem dX2_put_28 : decode cX2_put 28 = .ok (.getfield 72, 3) := by decide +kernel
theorem dX2_put_31 : decode cX2_put 31 = .ok (.if_icmp .gt 16, 3) := by decide +kernel
theorem dX2_put_34 : decode cX2_put 34 = .ok (.aload_n 0, 1) := by decide +kernel
theorem dX2_put_35 : decode cX2_put 35 = .ok (.getfield 14, 3) := by decide +kernel
theorem dX2_put_38 : decode cX2_put 38 = .ok (.getfield 97, 3) := by decide +kernel
theorem dX2_put_41 : decode cX2_put 41 = .ok (.sipush 600, 3) := by decide +kernel
theorem dX2_put_44 : decode cX2_put 44 = .ok (.if_icmp .lt 5, 3) := by decide +kernel
theorem dX2_put_47 : decode cX2_put 47 = .ok (.iconst (-1), 1) := by decide +kernel
theorem dX2_put_48 : decode cX2_put 48 = .ok (.ireturn, 1) := by decide +kernel
theorem dX2_put_49 : decode cX2_put 49 = .ok (.aload_n 0, 1) := by decide +kernel
theorem dX2_put_50 : decode cX2_put 50 = .ok (.lload_n 1, 1) := by decide +kernel
theorem dX2_put_51 : decode cX2_put 51 = .ok (.iload_n 3, 1) := by decide +kernel
theorem dX2_put_52 : decode cX2_put 52 = .ok (.invokevirtual 100, 3) := by decide +kernel
theorem dX2_put_55 : decode cX2_put 55 = .ok (.ifCond .eq 7, 3) := by decide +kernel
theorem dX2_put_58 : decode cX2_put 58 = .ok (.iconst 1, 1) := by decide +kernel
theorem dX2_put_59 : decode cX2_put 59 = .ok (.goto 5, 3) := by decide +kernel
theorem dX2_put_62 : decode cX2_put 62 = .ok (.bipush (-5), 2) := by decide +kernel
theorem dX2_put_64 : decode cX2_put 64 = .ok (.ireturn, 1) := by decide +kernel
theorem dX2_find_0 : decode cX2_find 0 = .ok (.aload_n 0, 1) := by decide +kernel
theorem dX2_find_1 : decode cX2_find 1 = .ok (.lload_n 1, 1) := by decide +kernel
theorem dX2_find_2 : decode cX2_find 2 = .ok (.invokevirtual 93, 3) := by decide +kernel
theorem dX2_find_5 : decode cX2_find 5 = .ok (.istore_n 3, 1) := by decide +kernel
theorem dX2_find_6 : decode cX2_find 6 = .ok (.iload_n 3, 1) := by decide +kernel
theorem dX2_find_7 : decode cX2_find 7 = .ok (.iconst (-1), 1) := by decide +kernel
theorem dX2_find_8 : decode cX2_find 8 = .ok (.if_icmp .ne 7, 3) := by decide +kernel
theorem dX2_find_11 : decode cX2_find 11 = .ok (.iconst (-1), 1) := by decide +kernel
theorem dX2_find_12 : decode cX2_find 12 = .ok (.goto 18, 3) := by decide +kernel
theorem dX2_find_15 : decode cX2_find 15 = .ok (.aload_n 0, 1) := by decide +kernel
theorem dX2_find_16 : decode cX2_find 16 = .ok (.getfield 21, 3) := by decide +kernel
theorem dX2_find_19 : decode cX2_find 19 = .ok (.aload_n 0, 1) := by decide +kernel
theorem dX2_find_20 : decode cX2_find 20 = .ok (.getfield 24, 3) := by decide +kernel
theorem dX2_find_23 : decode cX2_find 23 = .ok (.iload_n 3, 1) := by decide +kernel
theorem dX2_find_24 : decode cX2_find 24 = .ok (.invokevirtual 104, 3) := by decide +kernel
theorem dX2_find_27 : decode cX2_find 27 = .ok (.invokevirtual 108, 3) := by decide +kernel
theorem dX2_find_30 : decode cX2_find 30 = .ok (.ireturn, 1) := by decide +kernel
theorem dX2_next_0 : decode cX2_next 0 = .ok (.aload_n 0, 1) := by decide +kernel
theorem dX2_next_1 : decode cX2_next 1 = .ok (.lload_n 1, 1) := by decide +kernel
theorem dX2_next_2 : decode cX2_next 2 = .ok (.invokevirtual 111, 3) := by decide +kernel
theorem dX2_next_5 : decode cX2_next 5 = .ok (.istore_n 3, 1) := by decide +kernel
theorem dX2_next_6 : decode cX2_next 6 = .ok (.iload_n 3, 1) := by decide +kernel
theorem dX2_next_7 : decode cX2_next 7 = .ok (.aload_n 0, 1) := by decide +kernel
theorem dX2_next_8 : decode cX2_next 8 = .ok (.getfield 14, 3) := by decide +kernel
theorem dX2_next_11 : decode cX2_next 11 = .ok (.getfield 97, 3) := by decide +kernel
theorem dX2_next_14 : decode cX2_next 14 = .ok (.if_icmp .ge 7, 3) := by decide +kernel
theorem dX2_next_17 : decode cX2_next 17 = .ok (.iload_n 3, 1) := by decide +kernel
theorem dX2_next_18 : decode cX2_next 18 = .ok (.goto 4, 3) := by decide +kernel
theorem dX2_next_21 : decode cX2_next 21 = .ok (.iconst (-1), 1) := by decide +kernel
theorem dX2_next_22 : decode cX2_next 22 = .ok (.ireturn, 1) := by decide +kernel
theorem dX2_remove_0 : decode cX2_remove 0 = .ok (.aload_n 0, 1) := by decide +kernel
theorem dX2_remove_1 : decode cX2_remove 1 = .ok (.getfield 37, 3) := by decide +kernel
theorem dX2_remove_4 : decode cX2_remove 4 = .ok (.ifCond .eq 6, 3) := by decide +kernel
theorem dX2_remove_7 : decode cX2_remove 7 = .ok (.bipush (-5), 2) := by decide +kernel
theorem dX2_remove_9 : decode cX2_remove 9 = .ok (.ireturn, 1) := by decide +kernel
theorem dX2_remove_10 : decode cX2_remove 10 = .ok (.aload_n 0, 1) := by decide +kernel
theorem dX2_remove_11 : decode cX2_remove 11 = .ok (.lload_n 1, 1) := by decide +kernel
theorem dX2_remove_12 : decode cX2_remove 12 = .ok (.invokevirtual 93, 3) := by decide +kernel
theorem dX2_remove_15 : decode cX2_remove 15 = .ok (.istore_n 3, 1) := by decide +kernel
theorem dX2_remove_16 : decode cX2_remove 16 = .ok (.iload_n 3, 1) := by decide +kernel
theorem dX2_remove_17 : decode cX2_remove 17 = .ok (.iconst (-1), 1) := by decide +kernel
theorem dX2_remove_18 : decode cX2_remove 18 = .ok (.if_icmp .ne 5, 3) := by decide +kernel
theorem dX2_remove_21 : decode cX2_remove 21 = .ok (.iconst 0, 1) := by decide +kernel
theorem dX2_remove_22 : decode cX2_remove 22 = .ok (.ireturn, 1) := by decide +kernel
theorem dX2_remove_23 : decode cX2_remove 23 = .ok (.aload_n 0, 1) := by decide +kernel
theorem dX2_remove_24 : decode cX2_remove 24 = .ok (.getfield 24, 3) := by decide +kernel
theorem dX2_remove_27 : decode cX2_remove 27 = .ok (.iload_n 3, 1) := by decide +kernel
theorem dX2_remove_28 : decode cX2_remove 28 = .ok (.invokevirtual 104, 3) := by decide +kernel
theorem dX2_remove_31 : decode cX2_remove 31 = .ok (.istore 4, 2) := by decide +kernel
theorem dX2_remove_33 : decode cX2_remove 33 = .ok (.aload_n 0, 1) := by decide +kernel
theorem dX2_remove_34 : decode cX2_remove 34 = .ok (.getfield 14, 3) := by decide +kernel
theorem dX2_remove_37 : decode cX2_remove 37 = .ok (.iload_n 3, 1) := by decide +kernel
theorem dX2_remove_38 : decode cX2_remove 38 = .ok (.invokevirtual 114, 3) := by decide +kernel
theorem dX2_remove_41 : decode cX2_remove 41 = .ok (.aload_n 0, 1) := by decide +kernel
theorem dX2_remove_42 : decode cX2_remove 42 = .ok (.getfield 18, 3) := by decide +kernel
theorem dX2_remove_45 : decode cX2_remove 45 = .ok (.iload_n 3, 1) := by decide +kernel
theorem dX2_remove_46 : decode cX2_remove 46 = .ok (.invokevirtual 114, 3) := by decide +kernel
theorem dX2_remove_49 : decode cX2_remove 49 = .ok (.aload_n 0, 1) := by decide +kernel
theorem dX2_remove_50 : decode cX2_remove 50 = .ok (.getfield 24, 3) := by decide +kernel
theorem dX2_remove_53 : decode cX2_remove 53 = .ok (.iload 4, 2) := by decide +kernel
theorem dX2_remove_55 : decode cX2_remove 55 = .ok (.iconst (-1), 1) := by decide +kernel
theorem dX2_remove_56 : decode cX2_remove 56 = .ok (.invokevirtual 117, 3) := by decide +kernel
theorem dX2_remove_59 : decode cX2_remove 59 = .ok (.aload_n 0, 1) := by decide +kernel
theorem dX2_remove_60 : decode cX2_remove 60 = .ok (.getfield 24, 3) := by decide +kernel
theorem dX2_remove_63 : decode cX2_remove 63 = .ok (.iload 4, 2) := by decide +kernel
theorem dX2_remove_65 : decode cX2_remove 65 = .ok (.invokevirtual 108, 3) := by decide +kernel
theorem dX2_remove_68 : decode cX2_remove 68 = .ok (.ifCond .ne 20, 3) := by decide +kernel
theorem dX2_remove_71 : decode cX2_remove 71 = .ok (.aload_n 0, 1) := by decide +kernel
theorem dX2_remove_72 : decode cX2_remove 72 = .ok (.getfield 24, 3) := by decide +kernel
theorem dX2_remove_75 : decode cX2_remove 75 = .ok (.getfield 97, 3) := by decide +kernel
theorem dX2_remove_78 : decode cX2_remove 78 = .ok (.iconst 1, 1) := by decide +kernel
theorem dX2_remove_79 : decode cX2_remove 79 = .ok (.if_icmp .le 9, 3) := by decide +kernel
theorem dX2_remove_82 : decode cX2_remove 82 = .ok (.aload_n 0, 1) := by decide +kernel
theorem dX2_remove_83 : decode cX2_remove 83 = .ok (.iload 4, 2) := by decide +kernel
theorem dX2_remove_85 : decode cX2_remove 85 = .ok (.invokevirtual 121, 3) := by decide +kernel
theorem dX2_remove_88 : decode cX2_remove 88 = .ok (.iconst 1, 1) := by decide +kernel
theorem dX2_remove_89 : decode cX2_remove 89 = .ok (.ireturn, 1) := by decide +kernel
theorem dX2_interval_0 : decode cX2_interval 0 = .ok (.aload_n 0, 1) := by decide +kernel
theorem dX2_interval_1 : decode cX2_interval 1 = .ok (.getfield 24, 3) := by decide +kernel
theorem dX2_interval_4 : decode cX2_interval 4 = .ok (.iload_n 1, 1) := by decide +kernel
theorem dX2_interval_5 : decode cX2_interval 5 = .ok (.invokevirtual 124, 3) := by decide +kernel
theorem dX2_interval_8 : decode cX2_interval 8 = .ok (.ifCond .ne 5, 3) := by decide +kernel
theorem dX2_interval_11 : decode cX2_interval 11 = .ok (.iconst (-1), 1) := by decide +kernel
theorem dX2_interval_12 : decode cX2_interval 12 = .ok (.ireturn, 1) := by decide +kernel
theorem dX2_interval_13 : decode cX2_interval 13 = .ok (.iload_n 2, 1) := by decide +kernel
theorem dX2_interval_14 : decode cX2_interval 14 = .ok (.tableswitch 63 0 3 #[30, 39, 48, 54], 30) := by decide +kernel
theorem dX2_interval_44 : decode cX2_interval 44 = .ok (.aload_n 0, 1) := by decide +kernel
theorem dX2_interval_45 : decode cX2_interval 45 = .ok (.getfield 21, 3) := by decide +kernel
theorem dX2_interval_48 : decode cX2_interval 48 = .ok (.iload_n 1, 1) := by decide +kernel
theorem dX2_interval_49 : decode cX2_interval 49 = .ok (.invokevirtual 108, 3) := by decide +kernel
theorem dX2_interval_52 : decode cX2_interval 52 = .ok (.ireturn, 1) := by decide +kernel
theorem dX2_interval_53 : decode cX2_interval 53 = .ok (.aload_n 0, 1) := by decide +kernel
theorem dX2_interval_54 : decode cX2_interval 54 = .ok (.getfield 24, 3) := by decide +kernel
theorem dX2_interval_57 : decode cX2_interval 57 = .ok (.iload_n 1, 1) := by decide +kernel
theorem dX2_interval_58 : decode cX2_interval 58 = .ok (.invokevirtual 108, 3) := by decide +kernel
theorem dX2_interval_61 : decode cX2_interval 61 = .ok (.ireturn, 1) := by decide +kernel
theorem dX2_interval_62 : decode cX2_interval 62 = .ok (.aload_n 0, 1) := by decide +kernel
theorem dX2_interval_63 : decode cX2_interval 63 = .ok (.iload_n 1, 1) := by decide +kernel
theorem dX2_interval_64 : decode cX2_interval 64 = .ok (.invokevirtual 128, 3) := by decide +kernel
theorem dX2_interval_67 : decode cX2_interval 67 = .ok (.ireturn, 1) := by decide +kernel
theorem dX2_interval_68 : decode cX2_interval 68 = .ok (.aload_n 0, 1) := by decide +kernel
theorem dX2_interval_69 : decode cX2_interval 69 = .ok (.getfield 27, 3) := by decide +kernel
theorem dX2_interval_72 : decode cX2_interval 72 = .ok (.iload_n 1, 1) := by decide +kernel
theorem dX2_interval_73 : decode cX2_interval 73 = .ok (.invokevirtual 104, 3) := by decide +kernel
theorem dX2_interval_76 : decode cX2_interval 76 = .ok (.ireturn, 1) := by decide +kernel
theorem dX2_interval_77 : decode cX2_interval 77 = .ok (.iconst (-1), 1) := by decide +kernel
theorem dX2_interval_78 : decode cX2_interval 78 = .ok (.ireturn, 1) := by decide +kernel
theorem dX2_cut_0 : decode cX2_cut 0 = .ok (.aload_n 0, 1) := by decide +kernel
theorem dX2_cut_1 : decode cX2_cut 1 = .ok (.getfield 37, 3) := by decide +kernel
theorem dX2_cut_4 : decode cX2_cut 4 = .ok (.ifCond .eq 6, 3) := by decide +kernel
theorem dX2_cut_7 : decode cX2_cut 7 = .ok (.bipush (-5), 2) := by decide +kernel
theorem dX2_cut_9 : decode cX2_cut 9 = .ok (.ireturn, 1) := by decide +kernel
theorem dX2_cut_10 : decode cX2_cut 10 = .ok (.iload_n 1, 1) := by decide +kernel
theorem dX2_cut_11 : decode cX2_cut 11 = .ok (.ifCond .lt 8, 3) := by decide +kernel
theorem dX2_cut_14 : decode cX2_cut 14 = .ok (.iload_n 1, 1) := by decide +kernel
theorem dX2_cut_15 : decode cX2_cut 15 = .ok (.iconst 4, 1) := by decide +kernel
theorem dX2_cut_16 : decode cX2_cut 16 = .ok (.if_icmp .le 5, 3) := by decide +kernel
theorem dX2_cut_19 : decode cX2_cut 19 = .ok (.iconst (-1), 1) := by decide +kernel
theorem dX2_cut_20 : decode cX2_cut 20 = .ok (.ireturn, 1) := by decide +kernel
theorem dX2_cut_21 : decode cX2_cut 21 = .ok (.aload_n 0, 1) := by decide +kernel
theorem dX2_cut_22 : decode cX2_cut 22 = .ok (.getfield 34, 3) := by decide +kernel
theorem dX2_cut_25 : decode cX2_cut 25 = .ok (.istore_n 2, 1) := by decide +kernel
theorem dX2_cut_26 : decode cX2_cut 26 = .ok (.aload_n 0, 1) := by decide +kernel
theorem dX2_cut_27 : decode cX2_cut 27 = .ok (.iload_n 1, 1) := by decide +kernel
theorem dX2_cut_28 : decode cX2_cut 28 = .ok (.putfield 34, 3) := by decide +kernel
theorem dX2_cut_31 : decode cX2_cut 31 = .ok (.iload_n 2, 1) := by decide +kernel
theorem dX2_cut_32 : decode cX2_cut 32 = .ok (.ireturn, 1) := by decide +kernel
theorem dX2_open_0 : decode cX2_open 0 = .ok (.aload_n 0, 1) := by decide +kernel
theorem dX2_open_1 : decode cX2_open 1 = .ok (.getfield 37, 3) := by decide +kernel
theorem dX2_open_4 : decode cX2_open 4 = .ok (.ifCond .ne 5, 3) := by decide +kernel
theorem dX2_open_7 : decode cX2_open 7 = .ok (.iconst 0, 1) := by decide +kernel
theorem dX2_open_8 : decode cX2_open 8 = .ok (.ireturn, 1) := by decide +kernel
theorem dX2_open_9 : decode cX2_open 9 = .ok (.aload_n 0, 1) := by decide +kernel
theorem dX2_open_10 : decode cX2_open 10 = .ok (.iconst 0, 1) := by decide +kernel
theorem dX2_open_11 : decode cX2_open 11 = .ok (.putfield 37, 3) := by decide +kernel
theorem dX2_open_14 : decode cX2_open 14 = .ok (.aload_n 0, 1) := by decide +kernel
theorem dX2_open_15 : decode cX2_open 15 = .ok (.getfield 41, 3) := by decide +kernel
theorem dX2_open_18 : decode cX2_open 18 = .ok (.ifCond .ne 15, 3) := by decide +kernel
theorem dX2_open_21 : decode cX2_open 21 = .ok (.aload_n 0, 1) := by decide +kernel
theorem dX2_open_22 : decode cX2_open 22 = .ok (.dup, 1) := by decide +kernel
theorem dX2_open_23 : decode cX2_open 23 = .ok (.getfield 62, 3) := by decide +kernel
theorem dX2_open_26 : decode cX2_open 26 = .ok (.iconst 1, 1) := by decide +kernel
theorem dX2_open_27 : decode cX2_open 27 = .ok (.iadd, 1) := by decide +kernel
theorem dX2_open_28 : decode cX2_open 28 = .ok (.putfield 62, 3) := by decide +kernel
theorem dX2_open_31 : decode cX2_open 31 = .ok (.iconst 1, 1) := by decide +kernel
theorem dX2_open_32 : decode cX2_open 32 = .ok (.ireturn, 1) := by decide +kernel
theorem dX2_open_33 : decode cX2_open 33 = .ok (.aload_n 0, 1) := by decide +kernel
theorem dX2_open_34 : decode cX2_open 34 = .ok (.invokevirtual 131, 3) := by decide +kernel
theorem dX2_open_37 : decode cX2_open 37 = .ok (.aload_n 0, 1) := by decide +kernel
theorem dX2_open_38 : decode cX2_open 38 = .ok (.dup, 1) := by decide +kernel
theorem dX2_open_39 : decode cX2_open 39 = .ok (.getfield 65, 3) := by decide +kernel
theorem dX2_open_42 : decode cX2_open 42 = .ok (.iconst 1, 1) := by decide +kernel
theorem dX2_open_43 : decode cX2_open 43 = .ok (.iadd, 1) := by decide +kernel
theorem dX2_open_44 : decode cX2_open 44 = .ok (.putfield 65, 3) := by decide +kernel
theorem dX2_open_47 : decode cX2_open 47 = .ok (.iconst 2, 1) := by decide +kernel
theorem dX2_open_48 : decode cX2_open 48 = .ok (.ireturn, 1) := by decide +kernel
theorem dX2_split_0 : decode cX2_split 0 = .ok (.iload_n 1, 1) := by decide +kernel
theorem dX2_split_1 : decode cX2_split 1 = .ok (.tableswitch 51 0 3 #[31, 36, 41, 46], 31) := by decide +kernel
theorem dX2_split_32 : decode cX2_split 32 = .ok (.aload_n 0, 1) := by decide +kernel
theorem dX2_split_33 : decode cX2_split 33 = .ok (.getfield 56, 3) := by decide +kernel
theorem dX2_split_36 : decode cX2_split 36 = .ok (.ireturn, 1) := by decide +kernel
theorem dX2_split_37 : decode cX2_split 37 = .ok (.aload_n 0, 1) := by decide +kernel
theorem dX2_split_38 : decode cX2_split 38 = .ok (.getfield 59, 3) := by decide +kernel
theorem dX2_split_41 : decode cX2_split 41 = .ok (.ireturn, 1) := by decide +kernel
theorem dX2_split_42 : decode cX2_split 42 = .ok (.aload_n 0, 1) := by decide +kernel
theorem dX2_split_43 : decode cX2_split 43 = .ok (.getfield 62, 3) := by decide +kernel
theorem dX2_split_46 : decode cX2_split 46 = .ok (.ireturn, 1) := by decide +kernel
theorem dX2_split_47 : decode cX2_split 47 = .ok (.aload_n 0, 1) := by decide +kernel
theorem dX2_split_48 : decode cX2_split 48 = .ok (.getfield 65, 3) := by decide +kernel
theorem dX2_split_51 : decode cX2_split 51 = .ok (.ireturn, 1) := by decide +kernel
theorem dX2_split_52 : decode cX2_split 52 = .ok (.iconst (-1), 1) := by decide +kernel
theorem dX2_split_53 : decode cX2_split 53 = .ok (.ireturn, 1) := by decide +kernel
theorem dX2_index_0 : decode cX2_index 0 = .ok (.iload_n 1, 1) := by decide +kernel
theorem dX2_index_1 : decode cX2_index 1 = .ok (.ifCond .ne 20, 3) := by decide +kernel
theorem dX2_index_4 : decode cX2_index 4 = .ok (.aload_n 0, 1) := by decide +kernel
theorem dX2_index_5 : decode cX2_index 5 = .ok (.getfield 24, 3) := by decide +kernel
theorem dX2_index_8 : decode cX2_index 8 = .ok (.iload_n 2, 1) := by decide +kernel
theorem dX2_index_9 : decode cX2_index 9 = .ok (.invokevirtual 124, 3) := by decide +kernel
theorem dX2_index_12 : decode cX2_index 12 = .ok (.ifCond .eq 9, 3) := by decide +kernel
theorem dX2_index_15 : decode cX2_index 15 = .ok (.aload_n 0, 1) := by decide +kernel
theorem dX2_index_16 : decode cX2_index 16 = .ok (.iload_n 2, 1) := by decide +kernel
theorem dX2_index_17 : decode cX2_index 17 = .ok (.invokevirtual 134, 3) := by decide +kernel
theorem dX2_index_20 : decode cX2_index 20 = .ok (.ireturn, 1) := by decide +kernel
theorem dX2_index_21 : decode cX2_index 21 = .ok (.iload_n 1, 1) := by decide +kernel
theorem dX2_index_22 : decode cX2_index 22 = .ok (.iconst 1, 1) := by decide +kernel
theorem dX2_index_23 : decode cX2_index 23 = .ok (.if_icmp .ne 28, 3) := by decide +kernel
theorem dX2_index_26 : decode cX2_index 26 = .ok (.aload_n 0, 1) := by decide +kernel
theorem dX2_index_27 : decode cX2_index 27 = .ok (.getfield 27, 3) := by decide +kernel
theorem dX2_index_30 : decode cX2_index 30 = .ok (.iload_n 2, 1) := by decide +kernel
theorem dX2_index_31 : decode cX2_index 31 = .ok (.invokevirtual 124, 3) := by decide +kernel
theorem dX2_index_34 : decode cX2_index 34 = .ok (.ifCond .eq 17, 3) := by decide +kernel
theorem dX2_index_37 : decode cX2_index 37 = .ok (.aload_n 0, 1) := by decide +kernel
theorem dX2_index_38 : decode cX2_index 38 = .ok (.aload_n 0, 1) := by decide +kernel
theorem dX2_index_39 : decode cX2_index 39 = .ok (.getfield 27, 3) := by decide +kernel
theorem dX2_index_42 : decode cX2_index 42 = .ok (.iconst 0, 1) := by decide +kernel
theorem dX2_index_43 : decode cX2_index 43 = .ok (.iload_n 2, 1) := by decide +kernel
theorem dX2_index_44 : decode cX2_index 44 = .ok (.invokevirtual 137, 3) := by decide +kernel
theorem dX2_index_47 : decode cX2_index 47 = .ok (.invokevirtual 134, 3) := by decide +kernel
theorem dX2_index_50 : decode cX2_index 50 = .ok (.ireturn, 1) := by decide +kernel
theorem dX2_index_51 : decode cX2_index 51 = .ok (.new 140, 3) := by decide +kernel
theorem dX2_index_54 : decode cX2_index 54 = .ok (.dup, 1) := by decide +kernel
theorem dX2_index_55 : decode cX2_index 55 = .ok (.ldc 142, 2) := by decide +kernel
theorem dX2_index_57 : decode cX2_index 57 = .ok (.invokespecial 144, 3) := by decide +kernel
theorem dX2_index_60 : decode cX2_index 60 = .ok (.athrow, 1) := by decide +kernel
theorem dX2_verify_0 : decode cX2_verify 0 = .ok (.aload_n 0, 1) := by decide +kernel
theorem dX2_verify_1 : decode cX2_verify 1 = .ok (.invokevirtual 147, 3) := by decide +kernel
theorem dX2_verify_4 : decode cX2_verify 4 = .ok (.aload_n 0, 1) := by decide +kernel
theorem dX2_verify_5 : decode cX2_verify 5 = .ok (.invokevirtual 151, 3) := by decide +kernel
theorem dX2_verify_8 : decode cX2_verify 8 = .ok (.iadd, 1) := by decide +kernel
theorem dX2_verify_9 : decode cX2_verify 9 = .ok (.aload_n 0, 1) := by decide +kernel
theorem dX2_verify_10 : decode cX2_verify 10 = .ok (.invokevirtual 154, 3) := by decide +kernel
theorem dX2_verify_13 : decode cX2_verify 13 = .ok (.iadd, 1) := by decide +kernel
theorem dX2_verify_14 : decode cX2_verify 14 = .ok (.ireturn, 1) := by decide +kernel
theorem dX2_reorganise_0 : decode cX2_reorganise 0 = .ok (.aload_n 0, 1) := by decide +kernel
theorem dX2_reorganise_1 : decode cX2_reorganise 1 = .ok (.getfield 37, 3) := by decide +kernel
theorem dX2_reorganise_4 : decode cX2_reorganise 4 = .ok (.ifCond .eq 6, 3) := by decide +kernel
theorem dX2_reorganise_7 : decode cX2_reorganise 7 = .ok (.bipush (-5), 2) := by decide +kernel
theorem dX2_reorganise_9 : decode cX2_reorganise 9 = .ok (.ireturn, 1) := by decide +kernel
theorem dX2_reorganise_10 : decode cX2_reorganise 10 = .ok (.aload_n 0, 1) := by decide +kernel
theorem dX2_reorganise_11 : decode cX2_reorganise 11 = .ok (.getfield 21, 3) := by decide +kernel
theorem dX2_reorganise_14 : decode cX2_reorganise 14 = .ok (.iconst 0, 1) := by decide +kernel
theorem dX2_reorganise_15 : decode cX2_reorganise 15 = .ok (.putfield 97, 3) := by decide +kernel
theorem dX2_reorganise_18 : decode cX2_reorganise 18 = .ok (.aload_n 0, 1) := by decide +kernel
theorem dX2_reorganise_19 : decode cX2_reorganise 19 = .ok (.getfield 24, 3) := by decide +kernel
theorem dX2_reorganise_22 : decode cX2_reorganise 22 = .ok (.iconst 0, 1) := by decide +kernel
theorem dX2_reorganise_23 : decode cX2_reorganise 23 = .ok (.putfield 97, 3) := by decide +kernel
theorem dX2_reorganise_26 : decode cX2_reorganise 26 = .ok (.aload_n 0, 1) := by decide +kernel
theorem dX2_reorganise_27 : decode cX2_reorganise 27 = .ok (.getfield 27, 3) := by decide +kernel
theorem dX2_reorganise_30 : decode cX2_reorganise 30 = .ok (.iconst 0, 1) := by decide +kernel
theorem dX2_reorganise_31 : decode cX2_reorganise 31 = .ok (.putfield 97, 3) := by decide +kernel
theorem dX2_reorganise_34 : decode cX2_reorganise 34 = .ok (.iconst 0, 1) := by decide +kernel
theorem dX2_reorganise_35 : decode cX2_reorganise 35 = .ok (.istore_n 1, 1) := by decide +kernel
theorem dX2_reorganise_36 : decode cX2_reorganise 36 = .ok (.iconst 0, 1) := by decide +kernel
theorem dX2_reorganise_37 : decode cX2_reorganise 37 = .ok (.istore_n 2, 1) := by decide +kernel
theorem dX2_reorganise_38 : decode cX2_reorganise 38 = .ok (.iconst 0, 1) := by decide +kernel
theorem dX2_reorganise_39 : decode cX2_reorganise 39 = .ok (.istore_n 3, 1) := by decide +kernel
theorem dX2_reorganise_40 : decode cX2_reorganise 40 = .ok (.iload_n 3, 1) := by decide +kernel
theorem dX2_reorganise_41 : decode cX2_reorganise 41 = .ok (.aload_n 0, 1) := by decide +kernel
theorem dX2_reorganise_42 : decode cX2_reorganise 42 = .ok (.getfield 18, 3) := by decide +kernel
theorem dX2_reorganise_45 : decode cX2_reorganise 45 = .ok (.getfield 97, 3) := by decide +kernel
theorem dX2_reorganise_48 : decode cX2_reorganise 48 = .ok (.if_icmp .ge 51, 3) := by decide +kernel
theorem dX2_reorganise_51 : decode cX2_reorganise 51 = .ok (.aload_n 0, 1) := by decide +kernel
theorem dX2_reorganise_52 : decode cX2_reorganise 52 = .ok (.getfield 18, 3) := by decide +kernel
theorem dX2_reorganise_55 : decode cX2_reorganise 55 = .ok (.iload_n 3, 1) := by decide +kernel
theorem dX2_reorganise_56 : decode cX2_reorganise 56 = .ok (.invokevirtual 108, 3) := by decide +kernel
theorem dX2_reorganise_59 : decode cX2_reorganise 59 = .ok (.istore 4, 2) := by decide +kernel
theorem dX2_reorganise_61 : decode cX2_reorganise 61 = .ok (.iload_n 1, 1) := by decide +kernel
theorem dX2_reorganise_62 : decode cX2_reorganise 62 = .ok (.ifCond .le 23, 3) := by decide +kernel
theorem dX2_reorganise_65 : decode cX2_reorganise 65 = .ok (.iload_n 2, 1) := by decide +kernel
theorem dX2_reorganise_66 : decode cX2_reorganise 66 = .ok (.iload 4, 2) := by decide +kernel
theorem dX2_reorganise_68 : decode cX2_reorganise 68 = .ok (.iadd, 1) := by decide +kernel
theorem dX2_reorganise_69 : decode cX2_reorganise 69 = .ok (.aload_n 0, 1) := by decide +kernel
theorem dX2_reorganise_70 : decode cX2_reorganise 70 = .ok (.getfield 78, 3) := by decide +kernel
theorem dX2_reorganise_73 : decode cX2_reorganise 73 = .ok (.if_icmp .le 12, 3) := by decide +kernel
theorem dX2_reorganise_76 : decode cX2_reorganise 76 = .ok (.aload_n 0, 1) := by decide +kernel
theorem dX2_reorganise_77 : decode cX2_reorganise 77 = .ok (.iload_n 1, 1) := by decide +kernel
theorem dX2_reorganise_78 : decode cX2_reorganise 78 = .ok (.invokevirtual 90, 3) := by decide +kernel
theorem dX2_reorganise_81 : decode cX2_reorganise 81 = .ok (.iconst 0, 1) := by decide +kernel
theorem dX2_reorganise_82 : decode cX2_reorganise 82 = .ok (.istore_n 1, 1) := by decide +kernel
theorem dX2_reorganise_83 : decode cX2_reorganise 83 = .ok (.iconst 0, 1) := by decide +kernel
theorem dX2_reorganise_84 : decode cX2_reorganise 84 = .ok (.istore_n 2, 1) := by decide +kernel
theorem dX2_reorganise_85 : decode cX2_reorganise 85 = .ok (.iinc 1 1, 3) := by decide +kernel
theorem dX2_reorganise_88 : decode cX2_reorganise 88 = .ok (.iload_n 2, 1) := by decide +kernel
theorem dX2_reorganise_89 : decode cX2_reorganise 89 = .ok (.iload 4, 2) := by decide +kernel
theorem dX2_reorganise_91 : decode cX2_reorganise 91 = .ok (.iadd, 1) := by decide +kernel
theorem dX2_reorganise_92 : decode cX2_reorganise 92 = .ok (.istore_n 2, 1) := by decide +kernel
theorem dX2_reorganise_93 : decode cX2_reorganise 93 = .ok (.iinc 3 1, 3) := by decide +kernel
theorem dX2_reorganise_96 : decode cX2_reorganise 96 = .ok (.goto (-56), 3) := by decide +kernel
theorem dX2_reorganise_99 : decode cX2_reorganise 99 = .ok (.aload_n 0, 1) := by decide +kernel
theorem dX2_reorganise_100 : decode cX2_reorganise 100 = .ok (.iload_n 1, 1) := by decide +kernel
theorem dX2_reorganise_101 : decode cX2_reorganise 101 = .ok (.invokevirtual 90, 3) := by decide +kernel
theorem dX2_reorganise_104 : decode cX2_reorganise 104 = .ok (.aload_n 0, 1) := by decide +kernel
theorem dX2_reorganise_105 : decode cX2_reorganise 105 = .ok (.getfield 24, 3) := by decide +kernel
theorem dX2_reorganise_108 : decode cX2_reorganise 108 = .ok (.getfield 97, 3) := by decide +kernel
theorem dX2_reorganise_111 : decode cX2_reorganise 111 = .ok (.ireturn, 1) := by decide +kernel
theorem dX2_order_0 : decode cX2_order 0 = .ok (.aload_n 0, 1) := by decide +kernel
theorem dX2_order_1 : decode cX2_order 1 = .ok (.getfield 14, 3) := by decide +kernel
theorem dX2_order_4 : decode cX2_order 4 = .ok (.iload_n 1, 1) := by decide +kernel
theorem dX2_order_5 : decode cX2_order 5 = .ok (.invokevirtual 157, 3) := by decide +kernel
theorem dX2_order_8 : decode cX2_order 8 = .ok (.lreturn, 1) := by decide +kernel
theorem dX2_count_0 : decode cX2_count 0 = .ok (.iload_n 1, 1) := by decide +kernel
theorem dX2_count_1 : decode cX2_count 1 = .ok (.tableswitch 97 0 5 #[39, 47, 55, 63, 76, 81], 39) := by decide +kernel
theorem dX2_count_40 : decode cX2_count 40 = .ok (.aload_n 0, 1) := by decide +kernel
theorem dX2_count_41 : decode cX2_count 41 = .ok (.getfield 14, 3) := by decide +kernel
theorem dX2_count_44 : decode cX2_count 44 = .ok (.getfield 97, 3) := by decide +kernel
theorem dX2_count_47 : decode cX2_count 47 = .ok (.ireturn, 1) := by decide +kernel
theorem dX2_count_48 : decode cX2_count 48 = .ok (.aload_n 0, 1) := by decide +kernel
theorem dX2_count_49 : decode cX2_count 49 = .ok (.getfield 24, 3) := by decide +kernel
theorem dX2_count_52 : decode cX2_count 52 = .ok (.getfield 97, 3) := by decide +kernel
theorem dX2_count_55 : decode cX2_count 55 = .ok (.ireturn, 1) := by decide +kernel
theorem dX2_count_56 : decode cX2_count 56 = .ok (.aload_n 0, 1) := by decide +kernel
theorem dX2_count_57 : decode cX2_count 57 = .ok (.getfield 27, 3) := by decide +kernel
theorem dX2_count_60 : decode cX2_count 60 = .ok (.getfield 97, 3) := by decide +kernel
theorem dX2_count_63 : decode cX2_count 63 = .ok (.ireturn, 1) := by decide +kernel
theorem dX2_count_64 : decode cX2_count 64 = .ok (.aload_n 0, 1) := by decide +kernel
theorem dX2_count_65 : decode cX2_count 65 = .ok (.getfield 37, 3) := by decide +kernel
theorem dX2_count_68 : decode cX2_count 68 = .ok (.ifCond .eq 7, 3) := by decide +kernel
theorem dX2_count_71 : decode cX2_count 71 = .ok (.iconst 1, 1) := by decide +kernel
theorem dX2_count_72 : decode cX2_count 72 = .ok (.goto 4, 3) := by decide +kernel
theorem dX2_count_75 : decode cX2_count 75 = .ok (.iconst 0, 1) := by decide +kernel
theorem dX2_count_76 : decode cX2_count 76 = .ok (.ireturn, 1) := by decide +kernel
theorem dX2_count_77 : decode cX2_count 77 = .ok (.aload_n 0, 1) := by decide +kernel
theorem dX2_count_78 : decode cX2_count 78 = .ok (.getfield 30, 3) := by decide +kernel
theorem dX2_count_81 : decode cX2_count 81 = .ok (.ireturn, 1) := by decide +kernel
theorem dX2_count_82 : decode cX2_count 82 = .ok (.aload_n 0, 1) := by decide +kernel
theorem dX2_count_83 : decode cX2_count 83 = .ok (.getfield 18, 3) := by decide +kernel
theorem dX2_count_86 : decode cX2_count 86 = .ok (.iconst 0, 1) := by decide +kernel
theorem dX2_count_87 : decode cX2_count 87 = .ok (.aload_n 0, 1) := by decide +kernel
theorem dX2_count_88 : decode cX2_count 88 = .ok (.getfield 18, 3) := by decide +kernel
theorem dX2_count_91 : decode cX2_count 91 = .ok (.getfield 97, 3) := by decide +kernel
theorem dX2_count_94 : decode cX2_count 94 = .ok (.invokevirtual 137, 3) := by decide +kernel
theorem dX2_count_97 : decode cX2_count 97 = .ok (.ireturn, 1) := by decide +kernel
theorem dX2_count_98 : decode cX2_count 98 = .ok (.iconst (-1), 1) := by decide +kernel
theorem dX2_count_99 : decode cX2_count 99 = .ok (.ireturn, 1) := by decide +kernel
theorem dX2_heldTo_0 : decode cX2_heldTo 0 = .ok (.iload_n 1, 1) := by decide +kernel
theorem dX2_heldTo_1 : decode cX2_heldTo 1 = .ok (.iload_n 2, 1) := by decide +kernel
theorem dX2_heldTo_2 : decode cX2_heldTo 2 = .ok (.iload_n 0, 1) := by decide +kernel
theorem dX2_heldTo_3 : decode cX2_heldTo 3 = .ok (.invokestatic 161, 3) := by decide +kernel
theorem dX2_heldTo_6 : decode cX2_heldTo 6 = .ok (.invokestatic 81, 3) := by decide +kernel
theorem dX2_heldTo_9 : decode cX2_heldTo 9 = .ok (.ireturn, 1) := by decide +kernel
theorem dX2_notGreaterThan_0 : decode cX2_notGreaterThan 0 = .ok (.iconst 0, 1) := by decide +kernel
theorem dX2_notGreaterThan_1 : decode cX2_notGreaterThan 1 = .ok (.istore_n 3, 1) := by decide +kernel
theorem dX2_notGreaterThan_2 : decode cX2_notGreaterThan 2 = .ok (.iload_n 3, 1) := by decide +kernel
theorem dX2_notGreaterThan_3 : decode cX2_notGreaterThan 3 = .ok (.aload_n 0, 1) := by decide +kernel
theorem dX2_notGreaterThan_4 : decode cX2_notGreaterThan 4 = .ok (.getfield 14, 3) := by decide +kernel
theorem dX2_notGreaterThan_7 : decode cX2_notGreaterThan 7 = .ok (.getfield 97, 3) := by decide +kernel
theorem dX2_notGreaterThan_10 : decode cX2_notGreaterThan 10 = .ok (.if_icmp .ge 22, 3) := by decide +kernel
theorem dX2_notGreaterThan_13 : decode cX2_notGreaterThan 13 = .ok (.aload_n 0, 1) := by decide +kernel
theorem dX2_notGreaterThan_14 : decode cX2_notGreaterThan 14 = .ok (.getfield 14, 3) := by decide +kernel
theorem dX2_notGreaterThan_17 : decode cX2_notGreaterThan 17 = .ok (.iload_n 3, 1) := by decide +kernel
theorem dX2_notGreaterThan_18 : decode cX2_notGreaterThan 18 = .ok (.invokevirtual 157, 3) := by decide +kernel
theorem dX2_notGreaterThan_21 : decode cX2_notGreaterThan 21 = .ok (.lload_n 1, 1) := by decide +kernel
theorem dX2_notGreaterThan_22 : decode cX2_notGreaterThan 22 = .ok (.lcmp, 1) := by decide +kernel
theorem dX2_notGreaterThan_23 : decode cX2_notGreaterThan 23 = .ok (.ifCond .gt 9, 3) := by decide +kernel
theorem dX2_notGreaterThan_26 : decode cX2_notGreaterThan 26 = .ok (.iinc 3 1, 3) := by decide +kernel
theorem dX2_notGreaterThan_29 : decode cX2_notGreaterThan 29 = .ok (.goto (-27), 3) := by decide +kernel
theorem dX2_notGreaterThan_32 : decode cX2_notGreaterThan 32 = .ok (.iload_n 3, 1) := by decide +kernel
theorem dX2_notGreaterThan_33 : decode cX2_notGreaterThan 33 = .ok (.ireturn, 1) := by decide +kernel
theorem dX2_positionOf_0 : decode cX2_positionOf 0 = .ok (.aload_n 0, 1) := by decide +kernel
theorem dX2_positionOf_1 : decode cX2_positionOf 1 = .ok (.lload_n 1, 1) := by decide +kernel
theorem dX2_positionOf_2 : decode cX2_positionOf 2 = .ok (.invokevirtual 111, 3) := by decide +kernel
theorem dX2_positionOf_5 : decode cX2_positionOf 5 = .ok (.iconst 1, 1) := by decide +kernel
theorem dX2_positionOf_6 : decode cX2_positionOf 6 = .ok (.isub, 1) := by decide +kernel
theorem dX2_positionOf_7 : decode cX2_positionOf 7 = .ok (.istore_n 3, 1) := by decide +kernel
theorem dX2_positionOf_8 : decode cX2_positionOf 8 = .ok (.iload_n 3, 1) := by decide +kernel
theorem dX2_positionOf_9 : decode cX2_positionOf 9 = .ok (.ifCond .lt 20, 3) := by decide +kernel
theorem dX2_positionOf_12 : decode cX2_positionOf 12 = .ok (.aload_n 0, 1) := by decide +kernel
theorem dX2_positionOf_13 : decode cX2_positionOf 13 = .ok (.getfield 14, 3) := by decide +kernel
theorem dX2_positionOf_16 : decode cX2_positionOf 16 = .ok (.iload_n 3, 1) := by decide +kernel
theorem dX2_positionOf_17 : decode cX2_positionOf 17 = .ok (.invokevirtual 157, 3) := by decide +kernel
theorem dX2_positionOf_20 : decode cX2_positionOf 20 = .ok (.lload_n 1, 1) := by decide +kernel
theorem dX2_positionOf_21 : decode cX2_positionOf 21 = .ok (.lcmp, 1) := by decide +kernel
theorem dX2_positionOf_22 : decode cX2_positionOf 22 = .ok (.ifCond .ne 7, 3) := by decide +kernel
theorem dX2_positionOf_25 : decode cX2_positionOf 25 = .ok (.iload_n 3, 1) := by decide +kernel
theorem dX2_positionOf_26 : decode cX2_positionOf 26 = .ok (.goto 4, 3) := by decide +kernel
theorem dX2_positionOf_29 : decode cX2_positionOf 29 = .ok (.iconst (-1), 1) := by decide +kernel
theorem dX2_positionOf_30 : decode cX2_positionOf 30 = .ok (.ireturn, 1) := by decide +kernel
theorem dX2_lengthsIn_0 : decode cX2_lengthsIn 0 = .ok (.aload_n 0, 1) := by decide +kernel
theorem dX2_lengthsIn_1 : decode cX2_lengthsIn 1 = .ok (.getfield 24, 3) := by decide +kernel
theorem dX2_lengthsIn_4 : decode cX2_lengthsIn 4 = .ok (.iconst 0, 1) := by decide +kernel
theorem dX2_lengthsIn_5 : decode cX2_lengthsIn 5 = .ok (.iload_n 1, 1) := by decide +kernel
theorem dX2_lengthsIn_6 : decode cX2_lengthsIn 6 = .ok (.invokevirtual 137, 3) := by decide +kernel
theorem dX2_lengthsIn_9 : decode cX2_lengthsIn 9 = .ok (.istore_n 2, 1) := by decide +kernel
theorem dX2_lengthsIn_10 : decode cX2_lengthsIn 10 = .ok (.aload_n 0, 1) := by decide +kernel
theorem dX2_lengthsIn_11 : decode cX2_lengthsIn 11 = .ok (.getfield 18, 3) := by decide +kernel
theorem dX2_lengthsIn_14 : decode cX2_lengthsIn 14 = .ok (.iload_n 2, 1) := by decide +kernel
theorem dX2_lengthsIn_15 : decode cX2_lengthsIn 15 = .ok (.iload_n 2, 1) := by decide +kernel
theorem dX2_lengthsIn_16 : decode cX2_lengthsIn 16 = .ok (.aload_n 0, 1) := by decide +kernel
theorem dX2_lengthsIn_17 : decode cX2_lengthsIn 17 = .ok (.getfield 24, 3) := by decide +kernel
theorem dX2_lengthsIn_20 : decode cX2_lengthsIn 20 = .ok (.iload_n 1, 1) := by decide +kernel
theorem dX2_lengthsIn_21 : decode cX2_lengthsIn 21 = .ok (.invokevirtual 108, 3) := by decide +kernel
theorem dX2_lengthsIn_24 : decode cX2_lengthsIn 24 = .ok (.iadd, 1) := by decide +kernel
theorem dX2_lengthsIn_25 : decode cX2_lengthsIn 25 = .ok (.invokevirtual 137, 3) := by decide +kernel
theorem dX2_lengthsIn_28 : decode cX2_lengthsIn 28 = .ok (.ireturn, 1) := by decide +kernel
theorem dX2_lowBitsOfFirstKey_0 : decode cX2_lowBitsOfFirstKey 0 = .ok (.aload_n 0, 1) := by decide +kernel
theorem dX2_lowBitsOfFirstKey_1 : decode cX2_lowBitsOfFirstKey 1 = .ok (.getfield 14, 3) := by decide +kernel
theorem dX2_lowBitsOfFirstKey_4 : decode cX2_lowBitsOfFirstKey 4 = .ok (.aload_n 0, 1) := by decide +kernel
theorem dX2_lowBitsOfFirstKey_5 : decode cX2_lowBitsOfFirstKey 5 = .ok (.getfield 24, 3) := by decide +kernel
theorem dX2_lowBitsOfFirstKey_8 : decode cX2_lowBitsOfFirstKey 8 = .ok (.iconst 0, 1) := by decide +kernel
theorem dX2_lowBitsOfFirstKey_9 : decode cX2_lowBitsOfFirstKey 9 = .ok (.iload_n 1, 1) := by decide +kernel
theorem dX2_lowBitsOfFirstKey_10 : decode cX2_lowBitsOfFirstKey 10 = .ok (.invokevirtual 137, 3) := by decide +kernel
theorem dX2_lowBitsOfFirstKey_13 : decode cX2_lowBitsOfFirstKey 13 = .ok (.invokevirtual 157, 3) := by decide +kernel
theorem dX2_lowBitsOfFirstKey_16 : decode cX2_lowBitsOfFirstKey 16 = .ok (.l2i, 1) := by decide +kernel
theorem dX2_lowBitsOfFirstKey_17 : decode cX2_lowBitsOfFirstKey 17 = .ok (.ireturn, 1) := by decide +kernel
theorem dX2_place_0 : decode cX2_place 0 = .ok (.iconst 0, 1) := by decide +kernel
theorem dX2_place_1 : decode cX2_place 1 = .ok (.istore 4, 2) := by decide +kernel
theorem dX2_place_3 : decode cX2_place 3 = .ok (.iload 4, 2) := by decide +kernel
theorem dX2_place_5 : decode cX2_place 5 = .ok (.sipush 2400, 3) := by decide +kernel
theorem dX2_place_8 : decode cX2_place 8 = .ok (.if_icmp .ge 131, 3) := by decide +kernel
theorem dX2_place_11 : decode cX2_place 11 = .ok (.aload_n 0, 1) := by decide +kernel
theorem dX2_place_12 : decode cX2_place 12 = .ok (.getfield 24, 3) := by decide +kernel
theorem dX2_place_15 : decode cX2_place 15 = .ok (.iconst 0, 1) := by decide +kernel
theorem dX2_place_16 : decode cX2_place 16 = .ok (.aload_n 0, 1) := by decide +kernel
theorem dX2_place_17 : decode cX2_place 17 = .ok (.lload_n 1, 1) := by decide +kernel
theorem dX2_place_18 : decode cX2_place 18 = .ok (.invokevirtual 111, 3) := by decide +kernel
theorem dX2_place_21 : decode cX2_place 21 = .ok (.iconst 1, 1) := by decide +kernel
theorem dX2_place_22 : decode cX2_place 22 = .ok (.isub, 1) := by decide +kernel
theorem dX2_place_23 : decode cX2_place 23 = .ok (.invokestatic 81, 3) := by decide +kernel
theorem dX2_place_26 : decode cX2_place 26 = .ok (.invokevirtual 104, 3) := by decide +kernel
theorem dX2_place_29 : decode cX2_place 29 = .ok (.istore 5, 2) := by decide +kernel
theorem dX2_place_31 : decode cX2_place 31 = .ok (.aload_n 0, 1) := by decide +kernel
theorem dX2_place_32 : decode cX2_place 32 = .ok (.iload 5, 2) := by decide +kernel
theorem dX2_place_34 : decode cX2_place 34 = .ok (.invokevirtual 128, 3) := by decide +kernel
theorem dX2_place_37 : decode cX2_place 37 = .ok (.iload_n 3, 1) := by decide +kernel
theorem dX2_place_38 : decode cX2_place 38 = .ok (.iadd, 1) := by decide +kernel
theorem dX2_place_39 : decode cX2_place 39 = .ok (.aload_n 0, 1) := by decide +kernel
theorem dX2_place_40 : decode cX2_place 40 = .ok (.getfield 72, 3) := by decide +kernel
theorem dX2_place_43 : decode cX2_place 43 = .ok (.if_icmp .gt 13, 3) := by decide +kernel
theorem dX2_place_46 : decode cX2_place 46 = .ok (.aload_n 0, 1) := by decide +kernel
theorem dX2_place_47 : decode cX2_place 47 = .ok (.iload 5, 2) := by decide +kernel
theorem dX2_place_49 : decode cX2_place 49 = .ok (.lload_n 1, 1) := by decide +kernel
theorem dX2_place_50 : decode cX2_place 50 = .ok (.iload_n 3, 1) := by decide +kernel
theorem dX2_place_51 : decode cX2_place 51 = .ok (.invokevirtual 164, 3) := by decide +kernel
theorem dX2_place_54 : decode cX2_place 54 = .ok (.iconst 1, 1) := by decide +kernel
theorem dX2_place_55 : decode cX2_place 55 = .ok (.ireturn, 1) := by decide +kernel
theorem dX2_place_56 : decode cX2_place 56 = .ok (.aload_n 0, 1) := by decide +kernel
theorem dX2_place_57 : decode cX2_place 57 = .ok (.iload 5, 2) := by decide +kernel
theorem dX2_place_59 : decode cX2_place 59 = .ok (.invokevirtual 168, 3) := by decide +kernel
theorem dX2_place_62 : decode cX2_place 62 = .ok (.astore 6, 2) := by decide +kernel
theorem dX2_place_64 : decode cX2_place 64 = .ok (.aload_n 0, 1) := by decide +kernel
theorem dX2_place_65 : decode cX2_place 65 = .ok (.getfield 34, 3) := by decide +kernel
theorem dX2_place_68 : decode cX2_place 68 = .ok (.ifCond .eq 13, 3) := by decide +kernel
theorem dX2_place_71 : decode cX2_place 71 = .ok (.aload_n 0, 1) := by decide +kernel
theorem dX2_place_72 : decode cX2_place 72 = .ok (.aload 6, 2) := by decide +kernel
theorem dX2_place_74 : decode cX2_place 74 = .ok (.iload 5, 2) := by decide +kernel
theorem dX2_place_76 : decode cX2_place 76 = .ok (.invokevirtual 172, 3) := by decide +kernel
theorem dX2_place_79 : decode cX2_place 79 = .ok (.iconst 0, 1) := by decide +kernel
theorem dX2_place_80 : decode cX2_place 80 = .ok (.ireturn, 1) := by decide +kernel
theorem dX2_place_81 : decode cX2_place 81 = .ok (.aload 6, 2) := by decide +kernel
theorem dX2_place_83 : decode cX2_place 83 = .ok (.getstatic 176, 3) := by decide +kernel
theorem dX2_place_86 : decode cX2_place 86 = .ok (.if_acmp .ne 13, 3) := by decide +kernel
theorem dX2_place_89 : decode cX2_place 89 = .ok (.aload_n 0, 1) := by decide +kernel
theorem dX2_place_90 : decode cX2_place 90 = .ok (.iload 5, 2) := by decide +kernel
theorem dX2_place_92 : decode cX2_place 92 = .ok (.lload_n 1, 1) := by decide +kernel
theorem dX2_place_93 : decode cX2_place 93 = .ok (.iload_n 3, 1) := by decide +kernel
theorem dX2_place_94 : decode cX2_place 94 = .ok (.invokevirtual 179, 3) := by decide +kernel
theorem dX2_place_97 : decode cX2_place 97 = .ok (.iconst 1, 1) := by decide +kernel
theorem dX2_place_98 : decode cX2_place 98 = .ok (.ireturn, 1) := by decide +kernel
theorem dX2_place_99 : decode cX2_place 99 = .ok (.aload 6, 2) := by decide +kernel
theorem dX2_place_101 : decode cX2_place 101 = .ok (.getstatic 182, 3) := by decide +kernel
theorem dX2_place_104 : decode cX2_place 104 = .ok (.if_acmp .ne 19, 3) := by decide +kernel
theorem dX2_place_107 : decode cX2_place 107 = .ok (.aload_n 0, 1) := by decide +kernel
theorem dX2_place_108 : decode cX2_place 108 = .ok (.aload_n 0, 1) := by decide +kernel
theorem dX2_place_109 : decode cX2_place 109 = .ok (.getfield 27, 3) := by decide +kernel
theorem dX2_place_112 : decode cX2_place 112 = .ok (.iload 5, 2) := by decide +kernel
theorem dX2_place_114 : decode cX2_place 114 = .ok (.invokevirtual 104, 3) := by decide +kernel
theorem dX2_place_117 : decode cX2_place 117 = .ok (.invokevirtual 185, 3) := by decide +kernel
theorem dX2_place_120 : decode cX2_place 120 = .ok (.goto 13, 3) := by decide +kernel
theorem dX2_place_123 : decode cX2_place 123 = .ok (.aload_n 0, 1) := by decide +kernel
theorem dX2_place_124 : decode cX2_place 124 = .ok (.iload 5, 2) := by decide +kernel
theorem dX2_place_126 : decode cX2_place 126 = .ok (.aload_n 0, 1) := by decide +kernel
theorem dX2_place_127 : decode cX2_place 127 = .ok (.invokevirtual 188, 3) := by decide +kernel
theorem dX2_place_130 : decode cX2_place 130 = .ok (.invokevirtual 191, 3) := by decide +kernel
theorem dX2_place_133 : decode cX2_place 133 = .ok (.iinc 4 1, 3) := by decide +kernel
theorem dX2_place_136 : decode cX2_place 136 = .ok (.goto (-133), 3) := by decide +kernel
theorem dX2_place_139 : decode cX2_place 139 = .ok (.iconst 0, 1) := by decide +kernel
theorem dX2_place_140 : decode cX2_place 140 = .ok (.ireturn, 1) := by decide +kernel
theorem dX2_insertRecord_0 : decode cX2_insertRecord 0 = .ok (.aload_n 0, 1) := by decide +kernel
theorem dX2_insertRecord_1 : decode cX2_insertRecord 1 = .ok (.lload_n 2, 1) := by decide +kernel
theorem dX2_insertRecord_2 : decode cX2_insertRecord 2 = .ok (.invokevirtual 111, 3) := by decide +kernel
theorem dX2_insertRecord_5 : decode cX2_insertRecord 5 = .ok (.istore 5, 2) := by decide +kernel
theorem dX2_insertRecord_7 : decode cX2_insertRecord 7 = .ok (.aload_n 0, 1) := by decide +kernel
theorem dX2_insertRecord_8 : decode cX2_insertRecord 8 = .ok (.getfield 14, 3) := by decide +kernel
theorem dX2_insertRecord_11 : decode cX2_insertRecord 11 = .ok (.iload 5, 2) := by decide +kernel
theorem dX2_insertRecord_13 : decode cX2_insertRecord 13 = .ok (.lload_n 2, 1) := by decide +kernel
theorem dX2_insertRecord_14 : decode cX2_insertRecord 14 = .ok (.invokevirtual 194, 3) := by decide +kernel
theorem dX2_insertRecord_17 : decode cX2_insertRecord 17 = .ok (.aload_n 0, 1) := by decide +kernel
theorem dX2_insertRecord_18 : decode cX2_insertRecord 18 = .ok (.getfield 18, 3) := by decide +kernel
theorem dX2_insertRecord_21 : decode cX2_insertRecord 21 = .ok (.iload 5, 2) := by decide +kernel
theorem dX2_insertRecord_23 : decode cX2_insertRecord 23 = .ok (.iload 4, 2) := by decide +kernel
theorem dX2_insertRecord_25 : decode cX2_insertRecord 25 = .ok (.i2l, 1) := by decide +kernel
theorem dX2_insertRecord_26 : decode cX2_insertRecord 26 = .ok (.invokevirtual 194, 3) := by decide +kernel
theorem dX2_insertRecord_29 : decode cX2_insertRecord 29 = .ok (.aload_n 0, 1) := by decide +kernel
theorem dX2_insertRecord_30 : decode cX2_insertRecord 30 = .ok (.getfield 24, 3) := by decide +kernel
theorem dX2_insertRecord_33 : decode cX2_insertRecord 33 = .ok (.iload_n 1, 1) := by decide +kernel
theorem dX2_insertRecord_34 : decode cX2_insertRecord 34 = .ok (.iconst 1, 1) := by decide +kernel
theorem dX2_insertRecord_35 : decode cX2_insertRecord 35 = .ok (.invokevirtual 117, 3) := by decide +kernel
theorem dX2_insertRecord_38 : decode cX2_insertRecord 38 = .ok (.return_, 1) := by decide +kernel
theorem dX2_kindOfSplit_0 : decode cX2_kindOfSplit 0 = .ok (.aload_n 0, 1) := by decide +kernel
theorem dX2_kindOfSplit_1 : decode cX2_kindOfSplit 1 = .ok (.getfield 27, 3) := by decide +kernel
theorem dX2_kindOfSplit_4 : decode cX2_kindOfSplit 4 = .ok (.aload_n 0, 1) := by decide +kernel
theorem dX2_kindOfSplit_5 : decode cX2_kindOfSplit 5 = .ok (.getfield 27, 3) := by decide +kernel
theorem dX2_kindOfSplit_8 : decode cX2_kindOfSplit 8 = .ok (.iload_n 1, 1) := by decide +kernel
theorem dX2_kindOfSplit_9 : decode cX2_kindOfSplit 9 = .ok (.invokevirtual 104, 3) := by decide +kernel
theorem dX2_kindOfSplit_12 : decode cX2_kindOfSplit 12 = .ok (.invokevirtual 108, 3) := by decide +kernel
theorem dX2_kindOfSplit_15 : decode cX2_kindOfSplit 15 = .ok (.aload_n 0, 1) := by decide +kernel
theorem dX2_kindOfSplit_16 : decode cX2_kindOfSplit 16 = .ok (.getfield 75, 3) := by decide +kernel
theorem dX2_kindOfSplit_19 : decode cX2_kindOfSplit 19 = .ok (.if_icmp .lt 7, 3) := by decide +kernel
theorem dX2_kindOfSplit_22 : decode cX2_kindOfSplit 22 = .ok (.getstatic 182, 3) := by decide +kernel
theorem dX2_kindOfSplit_25 : decode cX2_kindOfSplit 25 = .ok (.areturn, 1) := by decide +kernel
theorem dX2_kindOfSplit_26 : decode cX2_kindOfSplit 26 = .ok (.aload_n 0, 1) := by decide +kernel
theorem dX2_kindOfSplit_27 : decode cX2_kindOfSplit 27 = .ok (.getfield 24, 3) := by decide +kernel
theorem dX2_kindOfSplit_30 : decode cX2_kindOfSplit 30 = .ok (.iload_n 1, 1) := by decide +kernel
theorem dX2_kindOfSplit_31 : decode cX2_kindOfSplit 31 = .ok (.invokevirtual 108, 3) := by decide +kernel
theorem dX2_kindOfSplit_34 : decode cX2_kindOfSplit 34 = .ok (.iconst 1, 1) := by decide +kernel
theorem dX2_kindOfSplit_35 : decode cX2_kindOfSplit 35 = .ok (.if_icmp .gt 9, 3) := by decide +kernel
theorem dX2_kindOfSplit_38 : decode cX2_kindOfSplit 38 = .ok (.getstatic 176, 3) := by decide +kernel
theorem dX2_kindOfSplit_41 : decode cX2_kindOfSplit 41 = .ok (.goto 6, 3) := by decide +kernel
theorem dX2_kindOfSplit_44 : decode cX2_kindOfSplit 44 = .ok (.getstatic 44, 3) := by decide +kernel
theorem dX2_kindOfSplit_47 : decode cX2_kindOfSplit 47 = .ok (.areturn, 1) := by decide +kernel
theorem dX2_takeNumber_0 : decode cX2_takeNumber 0 = .ok (.aload_n 0, 1) := by decide +kernel
theorem dX2_takeNumber_1 : decode cX2_takeNumber 1 = .ok (.getfield 30, 3) := by decide +kernel
theorem dX2_takeNumber_4 : decode cX2_takeNumber 4 = .ok (.istore_n 1, 1) := by decide +kernel
theorem dX2_takeNumber_5 : decode cX2_takeNumber 5 = .ok (.aload_n 0, 1) := by decide +kernel
theorem dX2_takeNumber_6 : decode cX2_takeNumber 6 = .ok (.dup, 1) := by decide +kernel
theorem dX2_takeNumber_7 : decode cX2_takeNumber 7 = .ok (.getfield 30, 3) := by decide +kernel
theorem dX2_takeNumber_10 : decode cX2_takeNumber 10 = .ok (.iconst 1, 1) := by decide +kernel
theorem dX2_takeNumber_11 : decode cX2_takeNumber 11 = .ok (.iadd, 1) := by decide +kernel
theorem dX2_takeNumber_12 : decode cX2_takeNumber 12 = .ok (.putfield 30, 3) := by decide +kernel
theorem dX2_takeNumber_15 : decode cX2_takeNumber 15 = .ok (.iload_n 1, 1) := by decide +kernel
theorem dX2_takeNumber_16 : decode cX2_takeNumber 16 = .ok (.ireturn, 1) := by decide +kernel
theorem dX2_splitArea_0 : decode cX2_splitArea 0 = .ok (.aload_n 0, 1) := by decide +kernel
theorem dX2_splitArea_1 : decode cX2_splitArea 1 = .ok (.getfield 75, 3) := by decide +kernel
theorem dX2_splitArea_4 : decode cX2_splitArea 4 = .ok (.iconst 2, 1) := by decide +kernel
theorem dX2_splitArea_5 : decode cX2_splitArea 5 = .ok (.idiv, 1) := by decide +kernel
theorem dX2_splitArea_6 : decode cX2_splitArea 6 = .ok (.istore_n 2, 1) := by decide +kernel
theorem dX2_splitArea_7 : decode cX2_splitArea 7 = .ok (.aload_n 0, 1) := by decide +kernel
theorem dX2_splitArea_8 : decode cX2_splitArea 8 = .ok (.getfield 27, 3) := by decide +kernel
theorem dX2_splitArea_11 : decode cX2_splitArea 11 = .ok (.iload_n 1, 1) := by decide +kernel
theorem dX2_splitArea_12 : decode cX2_splitArea 12 = .ok (.iload_n 2, 1) := by decide +kernel
theorem dX2_splitArea_13 : decode cX2_splitArea 13 = .ok (.ineg, 1) := by decide +kernel
theorem dX2_splitArea_14 : decode cX2_splitArea 14 = .ok (.invokevirtual 117, 3) := by decide +kernel
theorem dX2_splitArea_17 : decode cX2_splitArea 17 = .ok (.aload_n 0, 1) := by decide +kernel
theorem dX2_splitArea_18 : decode cX2_splitArea 18 = .ok (.getfield 27, 3) := by decide +kernel
theorem dX2_splitArea_21 : decode cX2_splitArea 21 = .ok (.iload_n 1, 1) := by decide +kernel
theorem dX2_splitArea_22 : decode cX2_splitArea 22 = .ok (.iconst 1, 1) := by decide +kernel
theorem dX2_splitArea_23 : decode cX2_splitArea 23 = .ok (.iadd, 1) := by decide +kernel
theorem dX2_splitArea_24 : decode cX2_splitArea 24 = .ok (.iload_n 2, 1) := by decide +kernel
theorem dX2_splitArea_25 : decode cX2_splitArea 25 = .ok (.i2l, 1) := by decide +kernel
theorem dX2_splitArea_26 : decode cX2_splitArea 26 = .ok (.invokevirtual 194, 3) := by decide +kernel
theorem dX2_splitArea_29 : decode cX2_splitArea 29 = .ok (.aload_n 0, 1) := by decide +kernel
theorem dX2_splitArea_30 : decode cX2_splitArea 30 = .ok (.dup, 1) := by decide +kernel
theorem dX2_splitArea_31 : decode cX2_splitArea 31 = .ok (.getfield 59, 3) := by decide +kernel
theorem dX2_splitArea_34 : decode cX2_splitArea 34 = .ok (.iconst 1, 1) := by decide +kernel
theorem dX2_splitArea_35 : decode cX2_splitArea 35 = .ok (.iadd, 1) := by decide +kernel
theorem dX2_splitArea_36 : decode cX2_splitArea 36 = .ok (.putfield 59, 3) := by decide +kernel
theorem dX2_splitArea_39 : decode cX2_splitArea 39 = .ok (.return_, 1) := by decide +kernel
theorem dX2_halveInterval_0 : decode cX2_halveInterval 0 = .ok (.aload_n 0, 1) := by decide +kernel
theorem dX2_halveInterval_1 : decode cX2_halveInterval 1 = .ok (.iload_n 1, 1) := by decide +kernel
theorem dX2_halveInterval_2 : decode cX2_halveInterval 2 = .ok (.invokevirtual 198, 3) := by decide +kernel
theorem dX2_halveInterval_5 : decode cX2_halveInterval 5 = .ok (.istore_n 3, 1) := by decide +kernel
theorem dX2_halveInterval_6 : decode cX2_halveInterval 6 = .ok (.aload_n 0, 1) := by decide +kernel
theorem dX2_halveInterval_7 : decode cX2_halveInterval 7 = .ok (.getfield 24, 3) := by decide +kernel
theorem dX2_halveInterval_10 : decode cX2_halveInterval 10 = .ok (.iload_n 1, 1) := by decide +kernel
theorem dX2_halveInterval_11 : decode cX2_halveInterval 11 = .ok (.invokevirtual 108, 3) := by decide +kernel
theorem dX2_halveInterval_14 : decode cX2_halveInterval 14 = .ok (.iload_n 3, 1) := by decide +kernel
theorem dX2_halveInterval_15 : decode cX2_halveInterval 15 = .ok (.isub, 1) := by decide +kernel
theorem dX2_halveInterval_16 : decode cX2_halveInterval 16 = .ok (.istore 4, 2) := by decide +kernel
theorem dX2_halveInterval_18 : decode cX2_halveInterval 18 = .ok (.aload_n 0, 1) := by decide +kernel
theorem dX2_halveInterval_19 : decode cX2_halveInterval 19 = .ok (.getfield 24, 3) := by decide +kernel
theorem dX2_halveInterval_22 : decode cX2_halveInterval 22 = .ok (.iload_n 1, 1) := by decide +kernel
theorem dX2_halveInterval_23 : decode cX2_halveInterval 23 = .ok (.iload 4, 2) := by decide +kernel
theorem dX2_halveInterval_25 : decode cX2_halveInterval 25 = .ok (.ineg, 1) := by decide +kernel
theorem dX2_halveInterval_26 : decode cX2_halveInterval 26 = .ok (.invokevirtual 117, 3) := by decide +kernel
theorem dX2_halveInterval_29 : decode cX2_halveInterval 29 = .ok (.aload_n 0, 1) := by decide +kernel
theorem dX2_halveInterval_30 : decode cX2_halveInterval 30 = .ok (.iload_n 1, 1) := by decide +kernel
theorem dX2_halveInterval_31 : decode cX2_halveInterval 31 = .ok (.iconst 1, 1) := by decide +kernel
theorem dX2_halveInterval_32 : decode cX2_halveInterval 32 = .ok (.iadd, 1) := by decide +kernel
theorem dX2_halveInterval_33 : decode cX2_halveInterval 33 = .ok (.aload_n 0, 1) := by decide +kernel
theorem dX2_halveInterval_34 : decode cX2_halveInterval 34 = .ok (.getfield 27, 3) := by decide +kernel
theorem dX2_halveInterval_37 : decode cX2_halveInterval 37 = .ok (.iload_n 1, 1) := by decide +kernel
theorem dX2_halveInterval_38 : decode cX2_halveInterval 38 = .ok (.invokevirtual 104, 3) := by decide +kernel
theorem dX2_halveInterval_41 : decode cX2_halveInterval 41 = .ok (.iload_n 2, 1) := by decide +kernel
theorem dX2_halveInterval_42 : decode cX2_halveInterval 42 = .ok (.iload 4, 2) := by decide +kernel
theorem dX2_halveInterval_44 : decode cX2_halveInterval 44 = .ok (.invokevirtual 201, 3) := by decide +kernel
theorem dX2_halveInterval_47 : decode cX2_halveInterval 47 = .ok (.aload_n 0, 1) := by decide +kernel
theorem dX2_halveInterval_48 : decode cX2_halveInterval 48 = .ok (.dup, 1) := by decide +kernel
theorem dX2_halveInterval_49 : decode cX2_halveInterval 49 = .ok (.getfield 56, 3) := by decide +kernel
theorem dX2_halveInterval_52 : decode cX2_halveInterval 52 = .ok (.iconst 1, 1) := by decide +kernel
theorem dX2_halveInterval_53 : decode cX2_halveInterval 53 = .ok (.iadd, 1) := by decide +kernel
theorem dX2_halveInterval_54 : decode cX2_halveInterval 54 = .ok (.putfield 56, 3) := by decide +kernel
theorem dX2_halveInterval_57 : decode cX2_halveInterval 57 = .ok (.return_, 1) := by decide +kernel
theorem dX2_keptByHalving_0 : decode cX2_keptByHalving 0 = .ok (.aload_n 0, 1) := by decide +kernel
theorem dX2_keptByHalving_1 : decode cX2_keptByHalving 1 = .ok (.getfield 24, 3) := by decide +kernel
theorem dX2_keptByHalving_4 : decode cX2_keptByHalving 4 = .ok (.iconst 0, 1) := by decide +kernel
theorem dX2_keptByHalving_5 : decode cX2_keptByHalving 5 = .ok (.iload_n 1, 1) := by decide +kernel
theorem dX2_keptByHalving_6 : decode cX2_keptByHalving 6 = .ok (.invokevirtual 137, 3) := by decide +kernel
theorem dX2_keptByHalving_9 : decode cX2_keptByHalving 9 = .ok (.istore_n 2, 1) := by decide +kernel
theorem dX2_keptByHalving_10 : decode cX2_keptByHalving 10 = .ok (.aload_n 0, 1) := by decide +kernel
theorem dX2_keptByHalving_11 : decode cX2_keptByHalving 11 = .ok (.getfield 24, 3) := by decide +kernel
theorem dX2_keptByHalving_14 : decode cX2_keptByHalving 14 = .ok (.iload_n 1, 1) := by decide +kernel
theorem dX2_keptByHalving_15 : decode cX2_keptByHalving 15 = .ok (.invokevirtual 108, 3) := by decide +kernel
theorem dX2_keptByHalving_18 : decode cX2_keptByHalving 18 = .ok (.iconst 1, 1) := by decide +kernel
theorem dX2_keptByHalving_19 : decode cX2_keptByHalving 19 = .ok (.isub, 1) := by decide +kernel
theorem dX2_keptByHalving_20 : decode cX2_keptByHalving 20 = .ok (.istore_n 3, 1) := by decide +kernel
theorem dX2_keptByHalving_21 : decode cX2_keptByHalving 21 = .ok (.aload_n 0, 1) := by decide +kernel
theorem dX2_keptByHalving_22 : decode cX2_keptByHalving 22 = .ok (.iload_n 1, 1) := by decide +kernel
theorem dX2_keptByHalving_23 : decode cX2_keptByHalving 23 = .ok (.invokevirtual 128, 3) := by decide +kernel
theorem dX2_keptByHalving_26 : decode cX2_keptByHalving 26 = .ok (.iconst 2, 1) := by decide +kernel
theorem dX2_keptByHalving_27 : decode cX2_keptByHalving 27 = .ok (.idiv, 1) := by decide +kernel
theorem dX2_keptByHalving_28 : decode cX2_keptByHalving 28 = .ok (.istore 4, 2) := by decide +kernel
theorem dX2_keptByHalving_30 : decode cX2_keptByHalving 30 = .ok (.iconst 1, 1) := by decide +kernel
theorem dX2_keptByHalving_31 : decode cX2_keptByHalving 31 = .ok (.istore 5, 2) := by decide +kernel
theorem dX2_keptByHalving_33 : decode cX2_keptByHalving 33 = .ok (.aload_n 0, 1) := by decide +kernel
theorem dX2_keptByHalving_34 : decode cX2_keptByHalving 34 = .ok (.getfield 18, 3) := by decide +kernel
theorem dX2_keptByHalving_37 : decode cX2_keptByHalving 37 = .ok (.iload_n 2, 1) := by decide +kernel
theorem dX2_keptByHalving_38 : decode cX2_keptByHalving 38 = .ok (.invokevirtual 108, 3) := by decide +kernel
theorem dX2_keptByHalving_41 : decode cX2_keptByHalving 41 = .ok (.istore 6, 2) := by decide +kernel
theorem dX2_keptByHalving_43 : decode cX2_keptByHalving 43 = .ok (.iload 5, 2) := by decide +kernel
theorem dX2_keptByHalving_45 : decode cX2_keptByHalving 45 = .ok (.iload_n 3, 1) := by decide +kernel
theorem dX2_keptByHalving_46 : decode cX2_keptByHalving 46 = .ok (.if_icmp .ge 44, 3) := by decide +kernel
theorem dX2_keptByHalving_49 : decode cX2_keptByHalving 49 = .ok (.iload 6, 2) := by decide +kernel
theorem dX2_keptByHalving_51 : decode cX2_keptByHalving 51 = .ok (.aload_n 0, 1) := by decide +kernel
theorem dX2_keptByHalving_52 : decode cX2_keptByHalving 52 = .ok (.getfield 18, 3) := by decide +kernel
theorem dX2_keptByHalving_55 : decode cX2_keptByHalving 55 = .ok (.iload_n 2, 1) := by decide +kernel
theorem dX2_keptByHalving_56 : decode cX2_keptByHalving 56 = .ok (.iload 5, 2) := by decide +kernel
theorem dX2_keptByHalving_58 : decode cX2_keptByHalving 58 = .ok (.iadd, 1) := by decide +kernel
theorem dX2_keptByHalving_59 : decode cX2_keptByHalving 59 = .ok (.invokevirtual 108, 3) := by decide +kernel
theorem dX2_keptByHalving_62 : decode cX2_keptByHalving 62 = .ok (.iadd, 1) := by decide +kernel
theorem dX2_keptByHalving_63 : decode cX2_keptByHalving 63 = .ok (.iload 4, 2) := by decide +kernel
theorem dX2_keptByHalving_65 : decode cX2_keptByHalving 65 = .ok (.if_icmp .gt 25, 3) := by decide +kernel
theorem dX2_keptByHalving_68 : decode cX2_keptByHalving 68 = .ok (.iload 6, 2) := by decide +kernel
theorem dX2_keptByHalving_70 : decode cX2_keptByHalving 70 = .ok (.aload_n 0, 1) := by decide +kernel
theorem dX2_keptByHalving_71 : decode cX2_keptByHalving 71 = .ok (.getfield 18, 3) := by decide +kernel
theorem dX2_keptByHalving_74 : decode cX2_keptByHalving 74 = .ok (.iload_n 2, 1) := by decide +kernel
theorem dX2_keptByHalving_75 : decode cX2_keptByHalving 75 = .ok (.iload 5, 2) := by decide +kernel
theorem dX2_keptByHalving_77 : decode cX2_keptByHalving 77 = .ok (.iadd, 1) := by decide +kernel
theorem dX2_keptByHalving_78 : decode cX2_keptByHalving 78 = .ok (.invokevirtual 108, 3) := by decide +kernel
theorem dX2_keptByHalving_81 : decode cX2_keptByHalving 81 = .ok (.iadd, 1) := by decide +kernel
theorem dX2_keptByHalving_82 : decode cX2_keptByHalving 82 = .ok (.istore 6, 2) := by decide +kernel
theorem dX2_keptByHalving_84 : decode cX2_keptByHalving 84 = .ok (.iinc 5 1, 3) := by decide +kernel
theorem dX2_keptByHalving_87 : decode cX2_keptByHalving 87 = .ok (.goto (-44), 3) := by decide +kernel
theorem dX2_keptByHalving_90 : decode cX2_keptByHalving 90 = .ok (.iload 5, 2) := by decide +kernel
theorem dX2_keptByHalving_92 : decode cX2_keptByHalving 92 = .ok (.ireturn, 1) := by decide +kernel
theorem dX2_giveOwnInterval_0 : decode cX2_giveOwnInterval 0 = .ok (.lload_n 2, 1) := by decide +kernel
theorem dX2_giveOwnInterval_1 : decode cX2_giveOwnInterval 1 = .ok (.aload_n 0, 1) := by decide +kernel
theorem dX2_giveOwnInterval_2 : decode cX2_giveOwnInterval 2 = .ok (.getfield 14, 3) := by decide +kernel
theorem dX2_giveOwnInterval_5 : decode cX2_giveOwnInterval 5 = .ok (.aload_n 0, 1) := by decide +kernel
theorem dX2_giveOwnInterval_6 : decode cX2_giveOwnInterval 6 = .ok (.getfield 24, 3) := by decide +kernel
theorem dX2_giveOwnInterval_9 : decode cX2_giveOwnInterval 9 = .ok (.iconst 0, 1) := by decide +kernel
theorem dX2_giveOwnInterval_10 : decode cX2_giveOwnInterval 10 = .ok (.iload_n 1, 1) := by decide +kernel
theorem dX2_giveOwnInterval_11 : decode cX2_giveOwnInterval 11 = .ok (.invokevirtual 137, 3) := by decide +kernel
theorem dX2_giveOwnInterval_14 : decode cX2_giveOwnInterval 14 = .ok (.invokevirtual 157, 3) := by decide +kernel
theorem dX2_giveOwnInterval_17 : decode cX2_giveOwnInterval 17 = .ok (.lcmp, 1) := by decide +kernel
theorem dX2_giveOwnInterval_18 : decode cX2_giveOwnInterval 18 = .ok (.ifCond .le 7, 3) := by decide +kernel
theorem dX2_giveOwnInterval_21 : decode cX2_giveOwnInterval 21 = .ok (.iconst 1, 1) := by decide +kernel
theorem dX2_giveOwnInterval_22 : decode cX2_giveOwnInterval 22 = .ok (.goto 4, 3) := by decide +kernel
theorem dX2_giveOwnInterval_25 : decode cX2_giveOwnInterval 25 = .ok (.iconst 0, 1) := by decide +kernel
theorem dX2_giveOwnInterval_26 : decode cX2_giveOwnInterval 26 = .ok (.istore 5, 2) := by decide +kernel
theorem dX2_giveOwnInterval_28 : decode cX2_giveOwnInterval 28 = .ok (.iload 5, 2) := by decide +kernel
theorem dX2_giveOwnInterval_30 : decode cX2_giveOwnInterval 30 = .ok (.ifCond .eq 9, 3) := by decide +kernel
theorem dX2_giveOwnInterval_33 : decode cX2_giveOwnInterval 33 = .ok (.iload_n 1, 1) := by decide +kernel
theorem dX2_giveOwnInterval_34 : decode cX2_giveOwnInterval 34 = .ok (.iconst 1, 1) := by decide +kernel
theorem dX2_giveOwnInterval_35 : decode cX2_giveOwnInterval 35 = .ok (.iadd, 1) := by decide +kernel
theorem dX2_giveOwnInterval_36 : decode cX2_giveOwnInterval 36 = .ok (.goto 4, 3) := by decide +kernel
theorem dX2_giveOwnInterval_39 : decode cX2_giveOwnInterval 39 = .ok (.iload_n 1, 1) := by decide +kernel
theorem dX2_giveOwnInterval_40 : decode cX2_giveOwnInterval 40 = .ok (.istore 6, 2) := by decide +kernel
theorem dX2_giveOwnInterval_42 : decode cX2_giveOwnInterval 42 = .ok (.aload_n 0, 1) := by decide +kernel
theorem dX2_giveOwnInterval_43 : decode cX2_giveOwnInterval 43 = .ok (.iload 6, 2) := by decide +kernel
theorem dX2_giveOwnInterval_45 : decode cX2_giveOwnInterval 45 = .ok (.aload_n 0, 1) := by decide +kernel
theorem dX2_giveOwnInterval_46 : decode cX2_giveOwnInterval 46 = .ok (.getfield 27, 3) := by decide +kernel
theorem dX2_giveOwnInterval_49 : decode cX2_giveOwnInterval 49 = .ok (.iload_n 1, 1) := by decide +kernel
theorem dX2_giveOwnInterval_50 : decode cX2_giveOwnInterval 50 = .ok (.invokevirtual 104, 3) := by decide +kernel
theorem dX2_giveOwnInterval_53 : decode cX2_giveOwnInterval 53 = .ok (.aload_n 0, 1) := by decide +kernel
theorem dX2_giveOwnInterval_54 : decode cX2_giveOwnInterval 54 = .ok (.invokevirtual 188, 3) := by decide +kernel
theorem dX2_giveOwnInterval_57 : decode cX2_giveOwnInterval 57 = .ok (.iconst 0, 1) := by decide +kernel
theorem dX2_giveOwnInterval_58 : decode cX2_giveOwnInterval 58 = .ok (.invokevirtual 201, 3) := by decide +kernel
theorem dX2_giveOwnInterval_61 : decode cX2_giveOwnInterval 61 = .ok (.aload_n 0, 1) := by decide +kernel
theorem dX2_giveOwnInterval_62 : decode cX2_giveOwnInterval 62 = .ok (.iload 6, 2) := by decide +kernel
theorem dX2_giveOwnInterval_64 : decode cX2_giveOwnInterval 64 = .ok (.lload_n 2, 1) := by decide +kernel
theorem dX2_giveOwnInterval_65 : decode cX2_giveOwnInterval 65 = .ok (.iload 4, 2) := by decide +kernel
theorem dX2_giveOwnInterval_67 : decode cX2_giveOwnInterval 67 = .ok (.invokevirtual 164, 3) := by decide +kernel
theorem dX2_giveOwnInterval_70 : decode cX2_giveOwnInterval 70 = .ok (.aload_n 0, 1) := by decide +kernel
theorem dX2_giveOwnInterval_71 : decode cX2_giveOwnInterval 71 = .ok (.dup, 1) := by decide +kernel
theorem dX2_giveOwnInterval_72 : decode cX2_giveOwnInterval 72 = .ok (.getfield 56, 3) := by decide +kernel
theorem dX2_giveOwnInterval_75 : decode cX2_giveOwnInterval 75 = .ok (.iconst 1, 1) := by decide +kernel
theorem dX2_giveOwnInterval_76 : decode cX2_giveOwnInterval 76 = .ok (.iadd, 1) := by decide +kernel
theorem dX2_giveOwnInterval_77 : decode cX2_giveOwnInterval 77 = .ok (.putfield 56, 3) := by decide +kernel
theorem dX2_giveOwnInterval_80 : decode cX2_giveOwnInterval 80 = .ok (.return_, 1) := by decide +kernel
theorem dX2_insertInterval_0 : decode cX2_insertInterval 0 = .ok (.aload_n 0, 1) := by decide +kernel
theorem dX2_insertInterval_1 : decode cX2_insertInterval 1 = .ok (.getfield 21, 3) := by decide +kernel
theorem dX2_insertInterval_4 : decode cX2_insertInterval 4 = .ok (.iload_n 1, 1) := by decide +kernel
theorem dX2_insertInterval_5 : decode cX2_insertInterval 5 = .ok (.iload_n 3, 1) := by decide +kernel
theorem dX2_insertInterval_6 : decode cX2_insertInterval 6 = .ok (.i2l, 1) := by decide +kernel
theorem dX2_insertInterval_7 : decode cX2_insertInterval 7 = .ok (.invokevirtual 194, 3) := by decide +kernel
theorem dX2_insertInterval_10 : decode cX2_insertInterval 10 = .ok (.aload_n 0, 1) := by decide +kernel
theorem dX2_insertInterval_11 : decode cX2_insertInterval 11 = .ok (.getfield 24, 3) := by decide +kernel
theorem dX2_insertInterval_14 : decode cX2_insertInterval 14 = .ok (.iload_n 1, 1) := by decide +kernel
theorem dX2_insertInterval_15 : decode cX2_insertInterval 15 = .ok (.iload 4, 2) := by decide +kernel
theorem dX2_insertInterval_17 : decode cX2_insertInterval 17 = .ok (.i2l, 1) := by decide +kernel
theorem dX2_insertInterval_18 : decode cX2_insertInterval 18 = .ok (.invokevirtual 194, 3) := by decide +kernel
theorem dX2_insertInterval_21 : decode cX2_insertInterval 21 = .ok (.aload_n 0, 1) := by decide +kernel
theorem dX2_insertInterval_22 : decode cX2_insertInterval 22 = .ok (.getfield 27, 3) := by decide +kernel
theorem dX2_insertInterval_25 : decode cX2_insertInterval 25 = .ok (.iload_n 2, 1) := by decide +kernel
theorem dX2_insertInterval_26 : decode cX2_insertInterval 26 = .ok (.iconst 1, 1) := by decide +kernel
theorem dX2_insertInterval_27 : decode cX2_insertInterval 27 = .ok (.invokevirtual 117, 3) := by decide +kernel
theorem dX2_insertInterval_30 : decode cX2_insertInterval 30 = .ok (.return_, 1) := by decide +kernel
theorem dX2_dropInterval_0 : decode cX2_dropInterval 0 = .ok (.aload_n 0, 1) := by decide +kernel
theorem dX2_dropInterval_1 : decode cX2_dropInterval 1 = .ok (.getfield 27, 3) := by decide +kernel
theorem dX2_dropInterval_4 : decode cX2_dropInterval 4 = .ok (.iload_n 1, 1) := by decide +kernel
theorem dX2_dropInterval_5 : decode cX2_dropInterval 5 = .ok (.invokevirtual 104, 3) := by decide +kernel
theorem dX2_dropInterval_8 : decode cX2_dropInterval 8 = .ok (.istore_n 2, 1) := by decide +kernel
theorem dX2_dropInterval_9 : decode cX2_dropInterval 9 = .ok (.aload_n 0, 1) := by decide +kernel
theorem dX2_dropInterval_10 : decode cX2_dropInterval 10 = .ok (.getfield 21, 3) := by decide +kernel
theorem dX2_dropInterval_13 : decode cX2_dropInterval 13 = .ok (.iload_n 1, 1) := by decide +kernel
theorem dX2_dropInterval_14 : decode cX2_dropInterval 14 = .ok (.invokevirtual 114, 3) := by decide +kernel
theorem dX2_dropInterval_17 : decode cX2_dropInterval 17 = .ok (.aload_n 0, 1) := by decide +kernel
theorem dX2_dropInterval_18 : decode cX2_dropInterval 18 = .ok (.getfield 24, 3) := by decide +kernel
theorem dX2_dropInterval_21 : decode cX2_dropInterval 21 = .ok (.iload_n 1, 1) := by decide +kernel
theorem dX2_dropInterval_22 : decode cX2_dropInterval 22 = .ok (.invokevirtual 114, 3) := by decide +kernel
theorem dX2_dropInterval_25 : decode cX2_dropInterval 25 = .ok (.aload_n 0, 1) := by decide +kernel
theorem dX2_dropInterval_26 : decode cX2_dropInterval 26 = .ok (.getfield 27, 3) := by decide +kernel
theorem dX2_dropInterval_29 : decode cX2_dropInterval 29 = .ok (.iload_n 2, 1) := by decide +kernel
theorem dX2_dropInterval_30 : decode cX2_dropInterval 30 = .ok (.iconst (-1), 1) := by decide +kernel
theorem dX2_dropInterval_31 : decode cX2_dropInterval 31 = .ok (.invokevirtual 117, 3) := by decide +kernel
theorem dX2_dropInterval_34 : decode cX2_dropInterval 34 = .ok (.aload_n 0, 1) := by decide +kernel
theorem dX2_dropInterval_35 : decode cX2_dropInterval 35 = .ok (.getfield 27, 3) := by decide +kernel
theorem dX2_dropInterval_38 : decode cX2_dropInterval 38 = .ok (.iload_n 2, 1) := by decide +kernel
theorem dX2_dropInterval_39 : decode cX2_dropInterval 39 = .ok (.invokevirtual 108, 3) := by decide +kernel
theorem dX2_dropInterval_42 : decode cX2_dropInterval 42 = .ok (.ifCond .ne 11, 3) := by decide +kernel
theorem dX2_dropInterval_45 : decode cX2_dropInterval 45 = .ok (.aload_n 0, 1) := by decide +kernel
theorem dX2_dropInterval_46 : decode cX2_dropInterval 46 = .ok (.getfield 27, 3) := by decide +kernel
theorem dX2_dropInterval_49 : decode cX2_dropInterval 49 = .ok (.iload_n 2, 1) := by decide +kernel
theorem dX2_dropInterval_50 : decode cX2_dropInterval 50 = .ok (.invokevirtual 114, 3) := by decide +kernel
theorem dX2_dropInterval_53 : decode cX2_dropInterval 53 = .ok (.return_, 1) := by decide +kernel
theorem dX2_closeAhead_0 : decode cX2_closeAhead 0 = .ok (.aload_n 0, 1) := by decide +kernel
theorem dX2_closeAhead_1 : decode cX2_closeAhead 1 = .ok (.getfield 34, 3) := by decide +kernel
theorem dX2_closeAhead_4 : decode cX2_closeAhead 4 = .ok (.iconst 2, 1) := by decide +kernel
theorem dX2_closeAhead_5 : decode cX2_closeAhead 5 = .ok (.if_icmp .le 20, 3) := by decide +kernel
theorem dX2_closeAhead_8 : decode cX2_closeAhead 8 = .ok (.aload_n 1, 1) := by decide +kernel
theorem dX2_closeAhead_9 : decode cX2_closeAhead 9 = .ok (.getstatic 182, 3) := by decide +kernel
theorem dX2_closeAhead_12 : decode cX2_closeAhead 12 = .ok (.if_acmp .eq 13, 3) := by decide +kernel
theorem dX2_closeAhead_15 : decode cX2_closeAhead 15 = .ok (.aload_n 0, 1) := by decide +kernel
theorem dX2_closeAhead_16 : decode cX2_closeAhead 16 = .ok (.dup, 1) := by decide +kernel
theorem dX2_closeAhead_17 : decode cX2_closeAhead 17 = .ok (.getfield 30, 3) := by decide +kernel
theorem dX2_closeAhead_20 : decode cX2_closeAhead 20 = .ok (.iconst 1, 1) := by decide +kernel
theorem dX2_closeAhead_21 : decode cX2_closeAhead 21 = .ok (.iadd, 1) := by decide +kernel
theorem dX2_closeAhead_22 : decode cX2_closeAhead 22 = .ok (.putfield 30, 3) := by decide +kernel
theorem dX2_closeAhead_25 : decode cX2_closeAhead 25 = .ok (.aload_n 0, 1) := by decide +kernel
theorem dX2_closeAhead_26 : decode cX2_closeAhead 26 = .ok (.aload_n 0, 1) := by decide +kernel
theorem dX2_closeAhead_27 : decode cX2_closeAhead 27 = .ok (.getfield 34, 3) := by decide +kernel
theorem dX2_closeAhead_30 : decode cX2_closeAhead 30 = .ok (.iconst 3, 1) := by decide +kernel
theorem dX2_closeAhead_31 : decode cX2_closeAhead 31 = .ok (.if_icmp .le 7, 3) := by decide +kernel
theorem dX2_closeAhead_34 : decode cX2_closeAhead 34 = .ok (.iconst 1, 1) := by decide +kernel
theorem dX2_closeAhead_35 : decode cX2_closeAhead 35 = .ok (.goto 4, 3) := by decide +kernel
theorem dX2_closeAhead_38 : decode cX2_closeAhead 38 = .ok (.iconst 0, 1) := by decide +kernel
theorem dX2_closeAhead_39 : decode cX2_closeAhead 39 = .ok (.putfield 41, 3) := by decide +kernel
theorem dX2_closeAhead_42 : decode cX2_closeAhead 42 = .ok (.aload_n 0, 1) := by decide +kernel
theorem dX2_closeAhead_43 : decode cX2_closeAhead 43 = .ok (.aload_n 1, 1) := by decide +kernel
theorem dX2_closeAhead_44 : decode cX2_closeAhead 44 = .ok (.putfield 50, 3) := by decide +kernel
theorem dX2_closeAhead_47 : decode cX2_closeAhead 47 = .ok (.aload_n 0, 1) := by decide +kernel
theorem dX2_closeAhead_48 : decode cX2_closeAhead 48 = .ok (.iload_n 2, 1) := by decide +kernel
theorem dX2_closeAhead_49 : decode cX2_closeAhead 49 = .ok (.putfield 53, 3) := by decide +kernel
theorem dX2_closeAhead_52 : decode cX2_closeAhead 52 = .ok (.aload_n 0, 1) := by decide +kernel
theorem dX2_closeAhead_53 : decode cX2_closeAhead 53 = .ok (.iconst 0, 1) := by decide +kernel
theorem dX2_closeAhead_54 : decode cX2_closeAhead 54 = .ok (.putfield 34, 3) := by decide +kernel
theorem dX2_closeAhead_57 : decode cX2_closeAhead 57 = .ok (.aload_n 0, 1) := by decide +kernel
theorem dX2_closeAhead_58 : decode cX2_closeAhead 58 = .ok (.iconst 1, 1) := by decide +kernel
theorem dX2_closeAhead_59 : decode cX2_closeAhead 59 = .ok (.putfield 37, 3) := by decide +kernel
theorem dX2_closeAhead_62 : decode cX2_closeAhead 62 = .ok (.return_, 1) := by decide +kernel
theorem dX2_finishCutSplit_0 : decode cX2_finishCutSplit 0 = .ok (.aload_n 0, 1) := by decide +kernel
theorem dX2_finishCutSplit_1 : decode cX2_finishCutSplit 1 = .ok (.getfield 50, 3) := by decide +kernel
theorem dX2_finishCutSplit_4 : decode cX2_finishCutSplit 4 = .ok (.getstatic 182, 3) := by decide +kernel
theorem dX2_finishCutSplit_7 : decode cX2_finishCutSplit 7 = .ok (.if_acmp .ne 21, 3) := by decide +kernel
theorem dX2_finishCutSplit_10 : decode cX2_finishCutSplit 10 = .ok (.aload_n 0, 1) := by decide +kernel
theorem dX2_finishCutSplit_11 : decode cX2_finishCutSplit 11 = .ok (.aload_n 0, 1) := by decide +kernel
theorem dX2_finishCutSplit_12 : decode cX2_finishCutSplit 12 = .ok (.getfield 27, 3) := by decide +kernel
theorem dX2_finishCutSplit_15 : decode cX2_finishCutSplit 15 = .ok (.aload_n 0, 1) := by decide +kernel
theorem dX2_finishCutSplit_16 : decode cX2_finishCutSplit 16 = .ok (.getfield 53, 3) := by decide +kernel
theorem dX2_finishCutSplit_19 : decode cX2_finishCutSplit 19 = .ok (.invokevirtual 104, 3) := by decide +kernel
theorem dX2_finishCutSplit_22 : decode cX2_finishCutSplit 22 = .ok (.invokevirtual 185, 3) := by decide +kernel
theorem dX2_finishCutSplit_25 : decode cX2_finishCutSplit 25 = .ok (.goto 40, 3) := by decide +kernel
theorem dX2_finishCutSplit_28 : decode cX2_finishCutSplit 28 = .ok (.aload_n 0, 1) := by decide +kernel
theorem dX2_finishCutSplit_29 : decode cX2_finishCutSplit 29 = .ok (.getfield 50, 3) := by decide +kernel
theorem dX2_finishCutSplit_32 : decode cX2_finishCutSplit 32 = .ok (.getstatic 44, 3) := by decide +kernel
theorem dX2_finishCutSplit_35 : decode cX2_finishCutSplit 35 = .ok (.if_acmp .ne 20, 3) := by decide +kernel
theorem dX2_finishCutSplit_38 : decode cX2_finishCutSplit 38 = .ok (.aload_n 0, 1) := by decide +kernel
theorem dX2_finishCutSplit_39 : decode cX2_finishCutSplit 39 = .ok (.aload_n 0, 1) := by decide +kernel
theorem dX2_finishCutSplit_40 : decode cX2_finishCutSplit 40 = .ok (.getfield 53, 3) := by decide +kernel
theorem dX2_finishCutSplit_43 : decode cX2_finishCutSplit 43 = .ok (.aload_n 0, 1) := by decide +kernel
theorem dX2_finishCutSplit_44 : decode cX2_finishCutSplit 44 = .ok (.getfield 30, 3) := by decide +kernel
theorem dX2_finishCutSplit_47 : decode cX2_finishCutSplit 47 = .ok (.iconst 1, 1) := by decide +kernel
theorem dX2_finishCutSplit_48 : decode cX2_finishCutSplit 48 = .ok (.isub, 1) := by decide +kernel
theorem dX2_finishCutSplit_49 : decode cX2_finishCutSplit 49 = .ok (.invokevirtual 191, 3) := by decide +kernel
theorem dX2_finishCutSplit_52 : decode cX2_finishCutSplit 52 = .ok (.goto 13, 3) := by decide +kernel
theorem dX2_finishCutSplit_55 : decode cX2_finishCutSplit 55 = .ok (.aload_n 0, 1) := by decide +kernel
theorem dX2_finishCutSplit_56 : decode cX2_finishCutSplit 56 = .ok (.dup, 1) := by decide +kernel
theorem dX2_finishCutSplit_57 : decode cX2_finishCutSplit 57 = .ok (.getfield 56, 3) := by decide +kernel
theorem dX2_finishCutSplit_60 : decode cX2_finishCutSplit 60 = .ok (.iconst 1, 1) := by decide +kernel
theorem dX2_finishCutSplit_61 : decode cX2_finishCutSplit 61 = .ok (.iadd, 1) := by decide +kernel
theorem dX2_finishCutSplit_62 : decode cX2_finishCutSplit 62 = .ok (.putfield 56, 3) := by decide +kernel
theorem dX2_finishCutSplit_65 : decode cX2_finishCutSplit 65 = .ok (.return_, 1) := by decide +kernel
theorem dX2_layInterval_0 : decode cX2_layInterval 0 = .ok (.aload_n 0, 1) := by decide +kernel
theorem dX2_layInterval_1 : decode cX2_layInterval 1 = .ok (.getfield 21, 3) := by decide +kernel
theorem dX2_layInterval_4 : decode cX2_layInterval 4 = .ok (.aload_n 0, 1) := by decide +kernel
theorem dX2_layInterval_5 : decode cX2_layInterval 5 = .ok (.getfield 21, 3) := by decide +kernel
theorem dX2_layInterval_8 : decode cX2_layInterval 8 = .ok (.getfield 97, 3) := by decide +kernel
theorem dX2_layInterval_11 : decode cX2_layInterval 11 = .ok (.aload_n 0, 1) := by decide +kernel
theorem dX2_layInterval_12 : decode cX2_layInterval 12 = .ok (.invokevirtual 188, 3) := by decide +kernel
theorem dX2_layInterval_15 : decode cX2_layInterval 15 = .ok (.i2l, 1) := by decide +kernel
theorem dX2_layInterval_16 : decode cX2_layInterval 16 = .ok (.invokevirtual 194, 3) := by decide +kernel
theorem dX2_layInterval_19 : decode cX2_layInterval 19 = .ok (.aload_n 0, 1) := by decide +kernel
theorem dX2_layInterval_20 : decode cX2_layInterval 20 = .ok (.getfield 24, 3) := by decide +kernel
theorem dX2_layInterval_23 : decode cX2_layInterval 23 = .ok (.aload_n 0, 1) := by decide +kernel
theorem dX2_layInterval_24 : decode cX2_layInterval 24 = .ok (.getfield 24, 3) := by decide +kernel
theorem dX2_layInterval_27 : decode cX2_layInterval 27 = .ok (.getfield 97, 3) := by decide +kernel
theorem dX2_layInterval_30 : decode cX2_layInterval 30 = .ok (.iload_n 1, 1) := by decide +kernel
theorem dX2_layInterval_31 : decode cX2_layInterval 31 = .ok (.i2l, 1) := by decide +kernel
theorem dX2_layInterval_32 : decode cX2_layInterval 32 = .ok (.invokevirtual 194, 3) := by decide +kernel
theorem dX2_layInterval_35 : decode cX2_layInterval 35 = .ok (.aload_n 0, 1) := by decide +kernel
theorem dX2_layInterval_36 : decode cX2_layInterval 36 = .ok (.getfield 27, 3) := by decide +kernel
theorem dX2_layInterval_39 : decode cX2_layInterval 39 = .ok (.getfield 97, 3) := by decide +kernel
theorem dX2_layInterval_42 : decode cX2_layInterval 42 = .ok (.iconst 1, 1) := by decide +kernel
theorem dX2_layInterval_43 : decode cX2_layInterval 43 = .ok (.isub, 1) := by decide +kernel
theorem dX2_layInterval_44 : decode cX2_layInterval 44 = .ok (.istore_n 2, 1) := by decide +kernel
theorem dX2_layInterval_45 : decode cX2_layInterval 45 = .ok (.iload_n 2, 1) := by decide +kernel
theorem dX2_layInterval_46 : decode cX2_layInterval 46 = .ok (.ifCond .lt 30, 3) := by decide +kernel
theorem dX2_layInterval_49 : decode cX2_layInterval 49 = .ok (.aload_n 0, 1) := by decide +kernel
theorem dX2_layInterval_50 : decode cX2_layInterval 50 = .ok (.getfield 27, 3) := by decide +kernel
theorem dX2_layInterval_53 : decode cX2_layInterval 53 = .ok (.iload_n 2, 1) := by decide +kernel
theorem dX2_layInterval_54 : decode cX2_layInterval 54 = .ok (.invokevirtual 108, 3) := by decide +kernel
theorem dX2_layInterval_57 : decode cX2_layInterval 57 = .ok (.aload_n 0, 1) := by decide +kernel
theorem dX2_layInterval_58 : decode cX2_layInterval 58 = .ok (.getfield 87, 3) := by decide +kernel
theorem dX2_layInterval_61 : decode cX2_layInterval 61 = .ok (.if_icmp .ge 15, 3) := by decide +kernel
theorem dX2_layInterval_64 : decode cX2_layInterval 64 = .ok (.aload_n 0, 1) := by decide +kernel
theorem dX2_layInterval_65 : decode cX2_layInterval 65 = .ok (.getfield 27, 3) := by decide +kernel
theorem dX2_layInterval_68 : decode cX2_layInterval 68 = .ok (.iload_n 2, 1) := by decide +kernel
theorem dX2_layInterval_69 : decode cX2_layInterval 69 = .ok (.iconst 1, 1) := by decide +kernel
theorem dX2_layInterval_70 : decode cX2_layInterval 70 = .ok (.invokevirtual 117, 3) := by decide +kernel
theorem dX2_layInterval_73 : decode cX2_layInterval 73 = .ok (.goto 18, 3) := by decide +kernel
theorem dX2_layInterval_76 : decode cX2_layInterval 76 = .ok (.aload_n 0, 1) := by decide +kernel
theorem dX2_layInterval_77 : decode cX2_layInterval 77 = .ok (.getfield 27, 3) := by decide +kernel
theorem dX2_layInterval_80 : decode cX2_layInterval 80 = .ok (.aload_n 0, 1) := by decide +kernel
theorem dX2_layInterval_81 : decode cX2_layInterval 81 = .ok (.getfield 27, 3) := by decide +kernel
theorem dX2_layInterval_84 : decode cX2_layInterval 84 = .ok (.getfield 97, 3) := by decide +kernel
theorem dX2_layInterval_87 : decode cX2_layInterval 87 = .ok (.lconst 1, 1) := by decide +kernel
theorem dX2_layInterval_88 : decode cX2_layInterval 88 = .ok (.invokevirtual 194, 3) := by decide +kernel
theorem dX2_layInterval_91 : decode cX2_layInterval 91 = .ok (.return_, 1) := by decide +kernel
theorem dX2_brokenOrders_0 : decode cX2_brokenOrders 0 = .ok (.iconst 0, 1) := by decide +kernel
theorem dX2_brokenOrders_1 : decode cX2_brokenOrders 1 = .ok (.istore_n 1, 1) := by decide +kernel
theorem dX2_brokenOrders_2 : decode cX2_brokenOrders 2 = .ok (.iconst 1, 1) := by decide +kernel
theorem dX2_brokenOrders_3 : decode cX2_brokenOrders 3 = .ok (.istore_n 2, 1) := by decide +kernel
theorem dX2_brokenOrders_4 : decode cX2_brokenOrders 4 = .ok (.iload_n 2, 1) := by decide +kernel
theorem dX2_brokenOrders_5 : decode cX2_brokenOrders 5 = .ok (.aload_n 0, 1) := by decide +kernel
theorem dX2_brokenOrders_6 : decode cX2_brokenOrders 6 = .ok (.getfield 14, 3) := by decide +kernel
theorem dX2_brokenOrders_9 : decode cX2_brokenOrders 9 = .ok (.getfield 97, 3) := by decide +kernel
theorem dX2_brokenOrders_12 : decode cX2_brokenOrders 12 = .ok (.if_icmp .ge 34, 3) := by decide +kernel
theorem dX2_brokenOrders_15 : decode cX2_brokenOrders 15 = .ok (.aload_n 0, 1) := by decide +kernel
theorem dX2_brokenOrders_16 : decode cX2_brokenOrders 16 = .ok (.getfield 14, 3) := by decide +kernel
theorem dX2_brokenOrders_19 : decode cX2_brokenOrders 19 = .ok (.iload_n 2, 1) := by decide +kernel
theorem dX2_brokenOrders_20 : decode cX2_brokenOrders 20 = .ok (.iconst 1, 1) := by decide +kernel
theorem dX2_brokenOrders_21 : decode cX2_brokenOrders 21 = .ok (.isub, 1) := by decide +kernel
theorem dX2_brokenOrders_22 : decode cX2_brokenOrders 22 = .ok (.invokevirtual 157, 3) := by decide +kernel
theorem dX2_brokenOrders_25 : decode cX2_brokenOrders 25 = .ok (.aload_n 0, 1) := by decide +kernel
theorem dX2_brokenOrders_26 : decode cX2_brokenOrders 26 = .ok (.getfield 14, 3) := by decide +kernel
theorem dX2_brokenOrders_29 : decode cX2_brokenOrders 29 = .ok (.iload_n 2, 1) := by decide +kernel
theorem dX2_brokenOrders_30 : decode cX2_brokenOrders 30 = .ok (.invokevirtual 157, 3) := by decide +kernel
theorem dX2_brokenOrders_33 : decode cX2_brokenOrders 33 = .ok (.lcmp, 1) := by decide +kernel
theorem dX2_brokenOrders_34 : decode cX2_brokenOrders 34 = .ok (.ifCond .lt 6, 3) := by decide +kernel
theorem dX2_brokenOrders_37 : decode cX2_brokenOrders 37 = .ok (.iinc 1 1, 3) := by decide +kernel
theorem dX2_brokenOrders_40 : decode cX2_brokenOrders 40 = .ok (.iinc 2 1, 3) := by decide +kernel
theorem dX2_brokenOrders_43 : decode cX2_brokenOrders 43 = .ok (.goto (-39), 3) := by decide +kernel
theorem dX2_brokenOrders_46 : decode cX2_brokenOrders 46 = .ok (.iload_n 1, 1) := by decide +kernel
theorem dX2_brokenOrders_47 : decode cX2_brokenOrders 47 = .ok (.ireturn, 1) := by decide +kernel
theorem dX2_brokenRooms_0 : decode cX2_brokenRooms 0 = .ok (.iconst 0, 1) := by decide +kernel
theorem dX2_brokenRooms_1 : decode cX2_brokenRooms 1 = .ok (.istore_n 1, 1) := by decide +kernel
theorem dX2_brokenRooms_2 : decode cX2_brokenRooms 2 = .ok (.iconst 0, 1) := by decide +kernel
theorem dX2_brokenRooms_3 : decode cX2_brokenRooms 3 = .ok (.istore_n 2, 1) := by decide +kernel
theorem dX2_brokenRooms_4 : decode cX2_brokenRooms 4 = .ok (.iconst 0, 1) := by decide +kernel
theorem dX2_brokenRooms_5 : decode cX2_brokenRooms 5 = .ok (.istore_n 3, 1) := by decide +kernel
theorem dX2_brokenRooms_6 : decode cX2_brokenRooms 6 = .ok (.iload_n 3, 1) := by decide +kernel
theorem dX2_brokenRooms_7 : decode cX2_brokenRooms 7 = .ok (.aload_n 0, 1) := by decide +kernel
theorem dX2_brokenRooms_8 : decode cX2_brokenRooms 8 = .ok (.getfield 24, 3) := by decide +kernel
theorem dX2_brokenRooms_11 : decode cX2_brokenRooms 11 = .ok (.getfield 97, 3) := by decide +kernel
theorem dX2_brokenRooms_14 : decode cX2_brokenRooms 14 = .ok (.if_icmp .ge 44, 3) := by decide +kernel
theorem dX2_brokenRooms_17 : decode cX2_brokenRooms 17 = .ok (.iload_n 2, 1) := by decide +kernel
theorem dX2_brokenRooms_18 : decode cX2_brokenRooms 18 = .ok (.aload_n 0, 1) := by decide +kernel
theorem dX2_brokenRooms_19 : decode cX2_brokenRooms 19 = .ok (.getfield 24, 3) := by decide +kernel
theorem dX2_brokenRooms_22 : decode cX2_brokenRooms 22 = .ok (.iload_n 3, 1) := by decide +kernel
theorem dX2_brokenRooms_23 : decode cX2_brokenRooms 23 = .ok (.invokevirtual 108, 3) := by decide +kernel
theorem dX2_brokenRooms_26 : decode cX2_brokenRooms 26 = .ok (.iadd, 1) := by decide +kernel
theorem dX2_brokenRooms_27 : decode cX2_brokenRooms 27 = .ok (.istore 4, 2) := by decide +kernel
theorem dX2_brokenRooms_29 : decode cX2_brokenRooms 29 = .ok (.aload_n 0, 1) := by decide +kernel
theorem dX2_brokenRooms_30 : decode cX2_brokenRooms 30 = .ok (.getfield 18, 3) := by decide +kernel
theorem dX2_brokenRooms_33 : decode cX2_brokenRooms 33 = .ok (.iload_n 2, 1) := by decide +kernel
theorem dX2_brokenRooms_34 : decode cX2_brokenRooms 34 = .ok (.iload 4, 2) := by decide +kernel
theorem dX2_brokenRooms_36 : decode cX2_brokenRooms 36 = .ok (.invokevirtual 137, 3) := by decide +kernel
theorem dX2_brokenRooms_39 : decode cX2_brokenRooms 39 = .ok (.aload_n 0, 1) := by decide +kernel
theorem dX2_brokenRooms_40 : decode cX2_brokenRooms 40 = .ok (.getfield 72, 3) := by decide +kernel
theorem dX2_brokenRooms_43 : decode cX2_brokenRooms 43 = .ok (.if_icmp .le 6, 3) := by decide +kernel
theorem dX2_brokenRooms_46 : decode cX2_brokenRooms 46 = .ok (.iinc 1 1, 3) := by decide +kernel
theorem dX2_brokenRooms_49 : decode cX2_brokenRooms 49 = .ok (.iload 4, 2) := by decide +kernel
theorem dX2_brokenRooms_51 : decode cX2_brokenRooms 51 = .ok (.istore_n 2, 1) := by decide +kernel
theorem dX2_brokenRooms_52 : decode cX2_brokenRooms 52 = .ok (.iinc 3 1, 3) := by decide +kernel
theorem dX2_brokenRooms_55 : decode cX2_brokenRooms 55 = .ok (.goto (-49), 3) := by decide +kernel
theorem dX2_brokenRooms_58 : decode cX2_brokenRooms 58 = .ok (.iload_n 1, 1) := by decide +kernel
theorem dX2_brokenRooms_59 : decode cX2_brokenRooms 59 = .ok (.ireturn, 1) := by decide +kernel
theorem dX2_brokenWidths_0 : decode cX2_brokenWidths 0 = .ok (.iconst 0, 1) := by decide +kernel
theorem dX2_brokenWidths_1 : decode cX2_brokenWidths 1 = .ok (.istore_n 1, 1) := by decide +kernel
theorem dX2_brokenWidths_2 : decode cX2_brokenWidths 2 = .ok (.iconst 0, 1) := by decide +kernel
theorem dX2_brokenWidths_3 : decode cX2_brokenWidths 3 = .ok (.istore_n 2, 1) := by decide +kernel
theorem dX2_brokenWidths_4 : decode cX2_brokenWidths 4 = .ok (.iload_n 2, 1) := by decide +kernel
theorem dX2_brokenWidths_5 : decode cX2_brokenWidths 5 = .ok (.aload_n 0, 1) := by decide +kernel
theorem dX2_brokenWidths_6 : decode cX2_brokenWidths 6 = .ok (.getfield 27, 3) := by decide +kernel
theorem dX2_brokenWidths_9 : decode cX2_brokenWidths 9 = .ok (.getfield 97, 3) := by decide +kernel
theorem dX2_brokenWidths_12 : decode cX2_brokenWidths 12 = .ok (.if_icmp .ge 27, 3) := by decide +kernel
theorem dX2_brokenWidths_15 : decode cX2_brokenWidths 15 = .ok (.aload_n 0, 1) := by decide +kernel
theorem dX2_brokenWidths_16 : decode cX2_brokenWidths 16 = .ok (.getfield 27, 3) := by decide +kernel
theorem dX2_brokenWidths_19 : decode cX2_brokenWidths 19 = .ok (.iload_n 2, 1) := by decide +kernel
theorem dX2_brokenWidths_20 : decode cX2_brokenWidths 20 = .ok (.invokevirtual 108, 3) := by decide +kernel
theorem dX2_brokenWidths_23 : decode cX2_brokenWidths 23 = .ok (.aload_n 0, 1) := by decide +kernel
theorem dX2_brokenWidths_24 : decode cX2_brokenWidths 24 = .ok (.getfield 75, 3) := by decide +kernel
theorem dX2_brokenWidths_27 : decode cX2_brokenWidths 27 = .ok (.if_icmp .le 6, 3) := by decide +kernel
theorem dX2_brokenWidths_30 : decode cX2_brokenWidths 30 = .ok (.iinc 1 1, 3) := by decide +kernel
theorem dX2_brokenWidths_33 : decode cX2_brokenWidths 33 = .ok (.iinc 2 1, 3) := by decide +kernel
theorem dX2_brokenWidths_36 : decode cX2_brokenWidths 36 = .ok (.goto (-32), 3) := by decide +kernel
theorem dX2_brokenWidths_39 : decode cX2_brokenWidths 39 = .ok (.iload_n 1, 1) := by decide +kernel
theorem dX2_brokenWidths_40 : decode cX2_brokenWidths 40 = .ok (.ireturn, 1) := by decide +kernel
end
section
theorem dX3_init_0 : decode cX3_init 0 = .ok (.aload_n 0, 1) := by decide +kernel
theorem dX3_init_1 : decode cX3_init 1 = .ok (.invokespecial 1, 3) := by decide +kernel
theorem dX3_init_4 : decode cX3_init 4 = .ok (.aload_n 0, 1) := by decide +kernel
theorem dX3_init_5 : decode cX3_init 5 = .ok (.sipush 601, 3) := by decide +kernel
theorem dX3_init_8 : decode cX3_init 8 = .ok (.newarray .long, 2) := by decide +kernel
theorem dX3_init_10 : decode cX3_init 10 = .ok (.putfield 7, 3) := by decide +kernel
theorem dX3_init_13 : decode cX3_init 13 = .ok (.aload_n 0, 1) := by decide +kernel
theorem dX3_init_14 : decode cX3_init 14 = .ok (.sipush 601, 3) := by decide +kernel
theorem dX3_init_17 : decode cX3_init 17 = .ok (.newarray .int, 2) := by decide +kernel
theorem dX3_init_19 : decode cX3_init 19 = .ok (.putfield 13, 3) := by decide +kernel
theorem dX3_init_22 : decode cX3_init 22 = .ok (.aload_n 0, 1) := by decide +kernel
theorem dX3_init_23 : decode cX3_init 23 = .ok (.sipush 601, 3) := by decide +kernel
theorem dX3_init_26 : decode cX3_init 26 = .ok (.newarray .int, 2) := by decide +kernel
theorem dX3_init_28 : decode cX3_init 28 = .ok (.putfield 17, 3) := by decide +kernel
theorem dX3_init_31 : decode cX3_init 31 = .ok (.aload_n 0, 1) := by decide +kernel
theorem dX3_init_32 : decode cX3_init 32 = .ok (.sipush 1300, 3) := by decide +kernel
theorem dX3_init_35 : decode cX3_init 35 = .ok (.newarray .int, 2) := by decide +kernel
theorem dX3_init_37 : decode cX3_init 37 = .ok (.putfield 20, 3) := by decide +kernel
theorem dX3_init_40 : decode cX3_init 40 = .ok (.aload_n 0, 1) := by decide +kernel
theorem dX3_init_41 : decode cX3_init 41 = .ok (.sipush 1300, 3) := by decide +kernel
theorem dX3_init_44 : decode cX3_init 44 = .ok (.newarray .int, 2) := by decide +kernel
theorem dX3_init_46 : decode cX3_init 46 = .ok (.putfield 23, 3) := by decide +kernel
theorem dX3_init_49 : decode cX3_init 49 = .ok (.aload_n 0, 1) := by decide +kernel
theorem dX3_init_50 : decode cX3_init 50 = .ok (.iconst 1, 1) := by decide +kernel
theorem dX3_init_51 : decode cX3_init 51 = .ok (.putfield 26, 3) := by decide +kernel
theorem dX3_init_54 : decode cX3_init 54 = .ok (.aload_n 0, 1) := by decide +kernel
theorem dX3_init_55 : decode cX3_init 55 = .ok (.iconst 2, 1) := by decide +kernel
theorem dX3_init_56 : decode cX3_init 56 = .ok (.putfield 30, 3) := by decide +kernel
theorem dX3_init_59 : decode cX3_init 59 = .ok (.aload_n 0, 1) := by decide +kernel
theorem dX3_init_60 : decode cX3_init 60 = .ok (.iconst 1, 1) := by decide +kernel
theorem dX3_init_61 : decode cX3_init 61 = .ok (.putfield 33, 3) := by decide +kernel
theorem dX3_init_64 : decode cX3_init 64 = .ok (.aload_n 0, 1) := by decide +kernel
theorem dX3_init_65 : decode cX3_init 65 = .ok (.iconst 4, 1) := by decide +kernel
theorem dX3_init_66 : decode cX3_init 66 = .ok (.newarray .int, 2) := by decide +kernel
theorem dX3_init_68 : decode cX3_init 68 = .ok (.putfield 36, 3) := by decide +kernel
theorem dX3_init_71 : decode cX3_init 71 = .ok (.aload_n 0, 1) := by decide +kernel
theorem dX3_init_72 : decode cX3_init 72 = .ok (.iload_n 1, 1) := by decide +kernel
theorem dX3_init_73 : decode cX3_init 73 = .ok (.iconst 1, 1) := by decide +kernel
theorem dX3_init_74 : decode cX3_init 74 = .ok (.sipush 1000, 3) := by decide +kernel
theorem dX3_init_77 : decode cX3_init 77 = .ok (.invokestatic 39, 3) := by decide +kernel
theorem dX3_init_80 : decode cX3_init 80 = .ok (.putfield 43, 3) := by decide +kernel
theorem dX3_init_83 : decode cX3_init 83 = .ok (.aload_n 0, 1) := by decide +kernel
theorem dX3_init_84 : decode cX3_init 84 = .ok (.iload_n 2, 1) := by decide +kernel
theorem dX3_init_85 : decode cX3_init 85 = .ok (.iconst 2, 1) := by decide +kernel
theorem dX3_init_86 : decode cX3_init 86 = .ok (.bipush 20, 2) := by decide +kernel
theorem dX3_init_88 : decode cX3_init 88 = .ok (.invokestatic 39, 3) := by decide +kernel
theorem dX3_init_91 : decode cX3_init 91 = .ok (.putfield 46, 3) := by decide +kernel
theorem dX3_init_94 : decode cX3_init 94 = .ok (.iload 4, 2) := by decide +kernel
theorem dX3_init_96 : decode cX3_init 96 = .ok (.iconst 1, 1) := by decide +kernel
theorem dX3_init_97 : decode cX3_init 97 = .ok (.bipush 100, 2) := by decide +kernel
theorem dX3_init_99 : decode cX3_init 99 = .ok (.invokestatic 39, 3) := by decide +kernel
theorem dX3_init_102 : decode cX3_init 102 = .ok (.istore 5, 2) := by decide +kernel
theorem dX3_init_104 : decode cX3_init 104 = .ok (.iload_n 3, 1) := by decide +kernel
theorem dX3_init_105 : decode cX3_init 105 = .ok (.iconst 1, 1) := by decide +kernel
theorem dX3_init_106 : decode cX3_init 106 = .ok (.iload 5, 2) := by decide +kernel
theorem dX3_init_108 : decode cX3_init 108 = .ok (.invokestatic 39, 3) := by decide +kernel
theorem dX3_init_111 : decode cX3_init 111 = .ok (.istore 6, 2) := by decide +kernel
theorem dX3_init_113 : decode cX3_init 113 = .ok (.aload_n 0, 1) := by decide +kernel
theorem dX3_init_114 : decode cX3_init 114 = .ok (.aload_n 0, 1) := by decide +kernel
theorem dX3_init_115 : decode cX3_init 115 = .ok (.getfield 43, 3) := by decide +kernel
theorem dX3_init_118 : decode cX3_init 118 = .ok (.iload 6, 2) := by decide +kernel
theorem dX3_init_120 : decode cX3_init 120 = .ok (.imul, 1) := by decide +kernel
theorem dX3_init_121 : decode cX3_init 121 = .ok (.iload 5, 2) := by decide +kernel
theorem dX3_init_123 : decode cX3_init 123 = .ok (.idiv, 1) := by decide +kernel
theorem dX3_init_124 : decode cX3_init 124 = .ok (.putfield 49, 3) := by decide +kernel
theorem dX3_init_127 : decode cX3_init 127 = .ok (.aload_n 0, 1) := by decide +kernel
theorem dX3_init_128 : decode cX3_init 128 = .ok (.aload_n 0, 1) := by decide +kernel
theorem dX3_init_129 : decode cX3_init 129 = .ok (.getfield 46, 3) := by decide +kernel
theorem dX3_init_132 : decode cX3_init 132 = .ok (.iload 6, 2) := by decide +kernel
theorem dX3_init_134 : decode cX3_init 134 = .ok (.imul, 1) := by decide +kernel
theorem dX3_init_135 : decode cX3_init 135 = .ok (.iload 5, 2) := by decide +kernel
theorem dX3_init_137 : decode cX3_init 137 = .ok (.idiv, 1) := by decide +kernel
theorem dX3_init_138 : decode cX3_init 138 = .ok (.putfield 52, 3) := by decide +kernel
theorem dX3_init_141 : decode cX3_init 141 = .ok (.aload_n 0, 1) := by decide +kernel
theorem dX3_init_142 : decode cX3_init 142 = .ok (.getfield 20, 3) := by decide +kernel
theorem dX3_init_145 : decode cX3_init 145 = .ok (.iconst 0, 1) := by decide +kernel
theorem dX3_init_146 : decode cX3_init 146 = .ok (.iconst 1, 1) := by decide +kernel
theorem dX3_init_147 : decode cX3_init 147 = .ok (.iastore, 1) := by decide +kernel
theorem dX3_init_148 : decode cX3_init 148 = .ok (.aload_n 0, 1) := by decide +kernel
theorem dX3_init_149 : decode cX3_init 149 = .ok (.getfield 23, 3) := by decide +kernel
theorem dX3_init_152 : decode cX3_init 152 = .ok (.iconst 0, 1) := by decide +kernel
theorem dX3_init_153 : decode cX3_init 153 = .ok (.iconst 0, 1) := by decide +kernel
theorem dX3_init_154 : decode cX3_init 154 = .ok (.iastore, 1) := by decide +kernel
theorem dX3_init_155 : decode cX3_init 155 = .ok (.return_, 1) := by decide +kernel
theorem dX3_held_0 : decode cX3_held 0 = .ok (.iload_n 0, 1) := by decide +kernel
theorem dX3_held_1 : decode cX3_held 1 = .ok (.iload_n 1, 1) := by decide +kernel
theorem dX3_held_2 : decode cX3_held 2 = .ok (.if_icmp .ge 7, 3) := by decide +kernel
theorem dX3_held_5 : decode cX3_held 5 = .ok (.iload_n 1, 1) := by decide +kernel
theorem dX3_held_6 : decode cX3_held 6 = .ok (.goto 13, 3) := by decide +kernel
theorem dX3_held_9 : decode cX3_held 9 = .ok (.iload_n 0, 1) := by decide +kernel
theorem dX3_held_10 : decode cX3_held 10 = .ok (.iload_n 2, 1) := by decide +kernel
theorem dX3_held_11 : decode cX3_held 11 = .ok (.if_icmp .le 7, 3) := by decide +kernel
theorem dX3_held_14 : decode cX3_held 14 = .ok (.iload_n 2, 1) := by decide +kernel
theorem dX3_held_15 : decode cX3_held 15 = .ok (.goto 4, 3) := by decide +kernel
theorem dX3_held_18 : decode cX3_held 18 = .ok (.iload_n 0, 1) := by decide +kernel
theorem dX3_held_19 : decode cX3_held 19 = .ok (.ireturn, 1) := by decide +kernel
theorem dX3_thrown_0 : decode cX3_thrown 0 = .ok (.aload_n 0, 1) := by decide +kernel
theorem dX3_thrown_1 : decode cX3_thrown 1 = .ok (.getfield 55, 3) := by decide +kernel
theorem dX3_thrown_4 : decode cX3_thrown 4 = .ok (.ireturn, 1) := by decide +kernel
theorem dX3_less_0 : decode cX3_less 0 = .ok (.iconst 0, 1) := by decide +kernel
theorem dX3_less_1 : decode cX3_less 1 = .ok (.istore_n 3, 1) := by decide +kernel
theorem dX3_less_2 : decode cX3_less 2 = .ok (.iconst 0, 1) := by decide +kernel
theorem dX3_less_3 : decode cX3_less 3 = .ok (.istore 4, 2) := by decide +kernel
theorem dX3_less_5 : decode cX3_less 5 = .ok (.iload 4, 2) := by decide +kernel
theorem dX3_less_7 : decode cX3_less 7 = .ok (.aload_n 0, 1) := by decide +kernel
theorem dX3_less_8 : decode cX3_less 8 = .ok (.getfield 58, 3) := by decide +kernel
theorem dX3_less_11 : decode cX3_less 11 = .ok (.if_icmp .ge 29, 3) := by decide +kernel
theorem dX3_less_14 : decode cX3_less 14 = .ok (.iload_n 3, 1) := by decide +kernel
theorem dX3_less_15 : decode cX3_less 15 = .ok (.aload_n 0, 1) := by decide +kernel
theorem dX3_less_16 : decode cX3_less 16 = .ok (.getfield 7, 3) := by decide +kernel
theorem dX3_less_19 : decode cX3_less 19 = .ok (.iload 4, 2) := by decide +kernel
theorem dX3_less_21 : decode cX3_less 21 = .ok (.laload, 1) := by decide +kernel
theorem dX3_less_22 : decode cX3_less 22 = .ok (.lload_n 1, 1) := by decide +kernel
theorem dX3_less_23 : decode cX3_less 23 = .ok (.lcmp, 1) := by decide +kernel
theorem dX3_less_24 : decode cX3_less 24 = .ok (.ifCond .ge 7, 3) := by decide +kernel
theorem dX3_less_27 : decode cX3_less 27 = .ok (.iconst 1, 1) := by decide +kernel
theorem dX3_less_28 : decode cX3_less 28 = .ok (.goto 4, 3) := by decide +kernel
theorem dX3_less_31 : decode cX3_less 31 = .ok (.iconst 0, 1) := by decide +kernel
theorem dX3_less_32 : decode cX3_less 32 = .ok (.iadd, 1) := by decide +kernel
theorem dX3_less_33 : decode cX3_less 33 = .ok (.istore_n 3, 1) := by decide +kernel
theorem dX3_less_34 : decode cX3_less 34 = .ok (.iinc 4 1, 3) := by decide +kernel
theorem dX3_less_37 : decode cX3_less 37 = .ok (.goto (-32), 3) := by decide +kernel
theorem dX3_less_40 : decode cX3_less 40 = .ok (.iload_n 3, 1) := by decide +kernel
theorem dX3_less_41 : decode cX3_less 41 = .ok (.ireturn, 1) := by decide +kernel
theorem dX3_has_0 : decode cX3_has 0 = .ok (.aload_n 0, 1) := by decide +kernel
theorem dX3_has_1 : decode cX3_has 1 = .ok (.lload_n 1, 1) := by decide +kernel
theorem dX3_has_2 : decode cX3_has 2 = .ok (.invokevirtual 61, 3) := by decide +kernel
theorem dX3_has_5 : decode cX3_has 5 = .ok (.istore_n 3, 1) := by decide +kernel
theorem dX3_has_6 : decode cX3_has 6 = .ok (.iload_n 3, 1) := by decide +kernel
theorem dX3_has_7 : decode cX3_has 7 = .ok (.aload_n 0, 1) := by decide +kernel
theorem dX3_has_8 : decode cX3_has 8 = .ok (.getfield 58, 3) := by decide +kernel
theorem dX3_has_11 : decode cX3_has 11 = .ok (.if_icmp .ge 18, 3) := by decide +kernel
theorem dX3_has_14 : decode cX3_has 14 = .ok (.aload_n 0, 1) := by decide +kernel
theorem dX3_has_15 : decode cX3_has 15 = .ok (.getfield 7, 3) := by decide +kernel
theorem dX3_has_18 : decode cX3_has 18 = .ok (.iload_n 3, 1) := by decide +kernel
theorem dX3_has_19 : decode cX3_has 19 = .ok (.laload, 1) := by decide +kernel
theorem dX3_has_20 : decode cX3_has 20 = .ok (.lload_n 1, 1) := by decide +kernel
theorem dX3_has_21 : decode cX3_has 21 = .ok (.lcmp, 1) := by decide +kernel
theorem dX3_has_22 : decode cX3_has 22 = .ok (.ifCond .ne 7, 3) := by decide +kernel
theorem dX3_has_25 : decode cX3_has 25 = .ok (.iconst 1, 1) := by decide +kernel
theorem dX3_has_26 : decode cX3_has 26 = .ok (.goto 4, 3) := by decide +kernel
theorem dX3_has_29 : decode cX3_has 29 = .ok (.iconst 0, 1) := by decide +kernel
theorem dX3_has_30 : decode cX3_has 30 = .ok (.ireturn, 1) := by decide +kernel
theorem dX3_first_0 : decode cX3_first 0 = .ok (.iconst 0, 1) := by decide +kernel
theorem dX3_first_1 : decode cX3_first 1 = .ok (.istore_n 2, 1) := by decide +kernel
theorem dX3_first_2 : decode cX3_first 2 = .ok (.iload_n 2, 1) := by decide +kernel
theorem dX3_first_3 : decode cX3_first 3 = .ok (.aload_n 0, 1) := by decide +kernel
theorem dX3_first_4 : decode cX3_first 4 = .ok (.getfield 58, 3) := by decide +kernel
theorem dX3_first_7 : decode cX3_first 7 = .ok (.if_icmp .ge 26, 3) := by decide +kernel
theorem dX3_first_10 : decode cX3_first 10 = .ok (.aload_n 0, 1) := by decide +kernel
theorem dX3_first_11 : decode cX3_first 11 = .ok (.getfield 17, 3) := by decide +kernel
theorem dX3_first_14 : decode cX3_first 14 = .ok (.iload_n 2, 1) := by decide +kernel
theorem dX3_first_15 : decode cX3_first 15 = .ok (.iaload, 1) := by decide +kernel
theorem dX3_first_16 : decode cX3_first 16 = .ok (.aload_n 0, 1) := by decide +kernel
theorem dX3_first_17 : decode cX3_first 17 = .ok (.getfield 20, 3) := by decide +kernel
theorem dX3_first_20 : decode cX3_first 20 = .ok (.iload_n 1, 1) := by decide +kernel
theorem dX3_first_21 : decode cX3_first 21 = .ok (.iaload, 1) := by decide +kernel
theorem dX3_first_22 : decode cX3_first 22 = .ok (.if_icmp .ne 5, 3) := by decide +kernel
theorem dX3_first_25 : decode cX3_first 25 = .ok (.iload_n 2, 1) := by decide +kernel
theorem dX3_first_26 : decode cX3_first 26 = .ok (.ireturn, 1) := by decide +kernel
theorem dX3_first_27 : decode cX3_first 27 = .ok (.iinc 2 1, 3) := by decide +kernel
theorem dX3_first_30 : decode cX3_first 30 = .ok (.goto (-28), 3) := by decide +kernel
theorem dX3_first_33 : decode cX3_first 33 = .ok (.iconst (-1), 1) := by decide +kernel
theorem dX3_first_34 : decode cX3_first 34 = .ok (.ireturn, 1) := by decide +kernel
theorem dX3_recordsOf_0 : decode cX3_recordsOf 0 = .ok (.iconst 0, 1) := by decide +kernel
theorem dX3_recordsOf_1 : decode cX3_recordsOf 1 = .ok (.istore_n 2, 1) := by decide +kernel
theorem dX3_recordsOf_2 : decode cX3_recordsOf 2 = .ok (.iconst 0, 1) := by decide +kernel
theorem dX3_recordsOf_3 : decode cX3_recordsOf 3 = .ok (.istore_n 3, 1) := by decide +kernel
theorem dX3_recordsOf_4 : decode cX3_recordsOf 4 = .ok (.iload_n 3, 1) := by decide +kernel
theorem dX3_recordsOf_5 : decode cX3_recordsOf 5 = .ok (.aload_n 0, 1) := by decide +kernel
theorem dX3_recordsOf_6 : decode cX3_recordsOf 6 = .ok (.getfield 58, 3) := by decide +kernel
theorem dX3_recordsOf_9 : decode cX3_recordsOf 9 = .ok (.if_icmp .ge 32, 3) := by decide +kernel
theorem dX3_recordsOf_12 : decode cX3_recordsOf 12 = .ok (.iload_n 2, 1) := by decide +kernel
theorem dX3_recordsOf_13 : decode cX3_recordsOf 13 = .ok (.aload_n 0, 1) := by decide +kernel
theorem dX3_recordsOf_14 : decode cX3_recordsOf 14 = .ok (.getfield 17, 3) := by decide +kernel
theorem dX3_recordsOf_17 : decode cX3_recordsOf 17 = .ok (.iload_n 3, 1) := by decide +kernel
theorem dX3_recordsOf_18 : decode cX3_recordsOf 18 = .ok (.iaload, 1) := by decide +kernel
theorem dX3_recordsOf_19 : decode cX3_recordsOf 19 = .ok (.aload_n 0, 1) := by decide +kernel
theorem dX3_recordsOf_20 : decode cX3_recordsOf 20 = .ok (.getfield 20, 3) := by decide +kernel
theorem dX3_recordsOf_23 : decode cX3_recordsOf 23 = .ok (.iload_n 1, 1) := by decide +kernel
theorem dX3_recordsOf_24 : decode cX3_recordsOf 24 = .ok (.iaload, 1) := by decide +kernel
theorem dX3_recordsOf_25 : decode cX3_recordsOf 25 = .ok (.if_icmp .ne 7, 3) := by decide +kernel
theorem dX3_recordsOf_28 : decode cX3_recordsOf 28 = .ok (.iconst 1, 1) := by decide +kernel
theorem dX3_recordsOf_29 : decode cX3_recordsOf 29 = .ok (.goto 4, 3) := by decide +kernel
theorem dX3_recordsOf_32 : decode cX3_recordsOf 32 = .ok (.iconst 0, 1) := by decide +kernel
theorem dX3_recordsOf_33 : decode cX3_recordsOf 33 = .ok (.iadd, 1) := by decide +kernel
theorem dX3_recordsOf_34 : decode cX3_recordsOf 34 = .ok (.istore_n 2, 1) := by decide +kernel
theorem dX3_recordsOf_35 : decode cX3_recordsOf 35 = .ok (.iinc 3 1, 3) := by decide +kernel
theorem dX3_recordsOf_38 : decode cX3_recordsOf 38 = .ok (.goto (-34), 3) := by decide +kernel
theorem dX3_recordsOf_41 : decode cX3_recordsOf 41 = .ok (.iload_n 2, 1) := by decide +kernel
theorem dX3_recordsOf_42 : decode cX3_recordsOf 42 = .ok (.ireturn, 1) := by decide +kernel
theorem dX3_lengthsOf_0 : decode cX3_lengthsOf 0 = .ok (.iconst 0, 1) := by decide +kernel
theorem dX3_lengthsOf_1 : decode cX3_lengthsOf 1 = .ok (.istore_n 2, 1) := by decide +kernel
theorem dX3_lengthsOf_2 : decode cX3_lengthsOf 2 = .ok (.iconst 0, 1) := by decide +kernel
theorem dX3_lengthsOf_3 : decode cX3_lengthsOf 3 = .ok (.istore_n 3, 1) := by decide +kernel
theorem dX3_lengthsOf_4 : decode cX3_lengthsOf 4 = .ok (.iload_n 3, 1) := by decide +kernel
theorem dX3_lengthsOf_5 : decode cX3_lengthsOf 5 = .ok (.aload_n 0, 1) := by decide +kernel
theorem dX3_lengthsOf_6 : decode cX3_lengthsOf 6 = .ok (.getfield 58, 3) := by decide +kernel
theorem dX3_lengthsOf_9 : decode cX3_lengthsOf 9 = .ok (.if_icmp .ge 37, 3) := by decide +kernel
theorem dX3_lengthsOf_12 : decode cX3_lengthsOf 12 = .ok (.iload_n 2, 1) := by decide +kernel
theorem dX3_lengthsOf_13 : decode cX3_lengthsOf 13 = .ok (.aload_n 0, 1) := by decide +kernel
theorem dX3_lengthsOf_14 : decode cX3_lengthsOf 14 = .ok (.getfield 17, 3) := by decide +kernel
theorem dX3_lengthsOf_17 : decode cX3_lengthsOf 17 = .ok (.iload_n 3, 1) := by decide +kernel
theorem dX3_lengthsOf_18 : decode cX3_lengthsOf 18 = .ok (.iaload, 1) := by decide +kernel
theorem dX3_lengthsOf_19 : decode cX3_lengthsOf 19 = .ok (.aload_n 0, 1) := by decide +kernel
theorem dX3_lengthsOf_20 : decode cX3_lengthsOf 20 = .ok (.getfield 20, 3) := by decide +kernel
theorem dX3_lengthsOf_23 : decode cX3_lengthsOf 23 = .ok (.iload_n 1, 1) := by decide +kernel
theorem dX3_lengthsOf_24 : decode cX3_lengthsOf 24 = .ok (.iaload, 1) := by decide +kernel
theorem dX3_lengthsOf_25 : decode cX3_lengthsOf 25 = .ok (.if_icmp .ne 12, 3) := by decide +kernel
theorem dX3_lengthsOf_28 : decode cX3_lengthsOf 28 = .ok (.aload_n 0, 1) := by decide +kernel
theorem dX3_lengthsOf_29 : decode cX3_lengthsOf 29 = .ok (.getfield 13, 3) := by decide +kernel
theorem dX3_lengthsOf_32 : decode cX3_lengthsOf 32 = .ok (.iload_n 3, 1) := by decide +kernel
theorem dX3_lengthsOf_33 : decode cX3_lengthsOf 33 = .ok (.iaload, 1) := by decide +kernel
theorem dX3_lengthsOf_34 : decode cX3_lengthsOf 34 = .ok (.goto 4, 3) := by decide +kernel
theorem dX3_lengthsOf_37 : decode cX3_lengthsOf 37 = .ok (.iconst 0, 1) := by decide +kernel
theorem dX3_lengthsOf_38 : decode cX3_lengthsOf 38 = .ok (.iadd, 1) := by decide +kernel
theorem dX3_lengthsOf_39 : decode cX3_lengthsOf 39 = .ok (.istore_n 2, 1) := by decide +kernel
theorem dX3_lengthsOf_40 : decode cX3_lengthsOf 40 = .ok (.iinc 3 1, 3) := by decide +kernel
theorem dX3_lengthsOf_43 : decode cX3_lengthsOf 43 = .ok (.goto (-39), 3) := by decide +kernel
theorem dX3_lengthsOf_46 : decode cX3_lengthsOf 46 = .ok (.iload_n 2, 1) := by decide +kernel
theorem dX3_lengthsOf_47 : decode cX3_lengthsOf 47 = .ok (.ireturn, 1) := by decide +kernel
theorem dX3_belongs_0 : decode cX3_belongs 0 = .ok (.iconst 0, 1) := by decide +kernel
theorem dX3_belongs_1 : decode cX3_belongs 1 = .ok (.istore_n 3, 1) := by decide +kernel
theorem dX3_belongs_2 : decode cX3_belongs 2 = .ok (.iconst 1, 1) := by decide +kernel
theorem dX3_belongs_3 : decode cX3_belongs 3 = .ok (.istore 4, 2) := by decide +kernel
theorem dX3_belongs_5 : decode cX3_belongs 5 = .ok (.iload 4, 2) := by decide +kernel
theorem dX3_belongs_7 : decode cX3_belongs 7 = .ok (.aload_n 0, 1) := by decide +kernel
theorem dX3_belongs_8 : decode cX3_belongs 8 = .ok (.getfield 26, 3) := by decide +kernel
theorem dX3_belongs_11 : decode cX3_belongs 11 = .ok (.if_icmp .ge 32, 3) := by decide +kernel
theorem dX3_belongs_14 : decode cX3_belongs 14 = .ok (.aload_n 0, 1) := by decide +kernel
theorem dX3_belongs_15 : decode cX3_belongs 15 = .ok (.getfield 7, 3) := by decide +kernel
theorem dX3_belongs_18 : decode cX3_belongs 18 = .ok (.aload_n 0, 1) := by decide +kernel
theorem dX3_belongs_19 : decode cX3_belongs 19 = .ok (.iload 4, 2) := by decide +kernel
theorem dX3_belongs_21 : decode cX3_belongs 21 = .ok (.invokevirtual 65, 3) := by decide +kernel
theorem dX3_belongs_24 : decode cX3_belongs 24 = .ok (.laload, 1) := by decide +kernel
theorem dX3_belongs_25 : decode cX3_belongs 25 = .ok (.lload_n 1, 1) := by decide +kernel
theorem dX3_belongs_26 : decode cX3_belongs 26 = .ok (.lcmp, 1) := by decide +kernel
theorem dX3_belongs_27 : decode cX3_belongs 27 = .ok (.ifCond .gt 8, 3) := by decide +kernel
theorem dX3_belongs_30 : decode cX3_belongs 30 = .ok (.iload 4, 2) := by decide +kernel
theorem dX3_belongs_32 : decode cX3_belongs 32 = .ok (.goto 4, 3) := by decide +kernel
theorem dX3_belongs_35 : decode cX3_belongs 35 = .ok (.iload_n 3, 1) := by decide +kernel
theorem dX3_belongs_36 : decode cX3_belongs 36 = .ok (.istore_n 3, 1) := by decide +kernel
theorem dX3_belongs_37 : decode cX3_belongs 37 = .ok (.iinc 4 1, 3) := by decide +kernel
theorem dX3_belongs_40 : decode cX3_belongs 40 = .ok (.goto (-35), 3) := by decide +kernel
theorem dX3_belongs_43 : decode cX3_belongs 43 = .ok (.iload_n 3, 1) := by decide +kernel
theorem dX3_belongs_44 : decode cX3_belongs 44 = .ok (.ireturn, 1) := by decide +kernel
theorem dX3_widthOf_0 : decode cX3_widthOf 0 = .ok (.iconst 0, 1) := by decide +kernel
theorem dX3_widthOf_1 : decode cX3_widthOf 1 = .ok (.istore_n 2, 1) := by decide +kernel
theorem dX3_widthOf_2 : decode cX3_widthOf 2 = .ok (.iconst 0, 1) := by decide +kernel
theorem dX3_widthOf_3 : decode cX3_widthOf 3 = .ok (.istore_n 3, 1) := by decide +kernel
theorem dX3_widthOf_4 : decode cX3_widthOf 4 = .ok (.iload_n 3, 1) := by decide +kernel
theorem dX3_widthOf_5 : decode cX3_widthOf 5 = .ok (.aload_n 0, 1) := by decide +kernel
theorem dX3_widthOf_6 : decode cX3_widthOf 6 = .ok (.getfield 26, 3) := by decide +kernel
theorem dX3_widthOf_9 : decode cX3_widthOf 9 = .ok (.if_icmp .ge 32, 3) := by decide +kernel
theorem dX3_widthOf_12 : decode cX3_widthOf 12 = .ok (.iload_n 2, 1) := by decide +kernel
theorem dX3_widthOf_13 : decode cX3_widthOf 13 = .ok (.aload_n 0, 1) := by decide +kernel
theorem dX3_widthOf_14 : decode cX3_widthOf 14 = .ok (.getfield 23, 3) := by decide +kernel
theorem dX3_widthOf_17 : decode cX3_widthOf 17 = .ok (.iload_n 3, 1) := by decide +kernel
theorem dX3_widthOf_18 : decode cX3_widthOf 18 = .ok (.iaload, 1) := by decide +kernel
theorem dX3_widthOf_19 : decode cX3_widthOf 19 = .ok (.aload_n 0, 1) := by decide +kernel
theorem dX3_widthOf_20 : decode cX3_widthOf 20 = .ok (.getfield 23, 3) := by decide +kernel
theorem dX3_widthOf_23 : decode cX3_widthOf 23 = .ok (.iload_n 1, 1) := by decide +kernel
theorem dX3_widthOf_24 : decode cX3_widthOf 24 = .ok (.iaload, 1) := by decide +kernel
theorem dX3_widthOf_25 : decode cX3_widthOf 25 = .ok (.if_icmp .ne 7, 3) := by decide +kernel
theorem dX3_widthOf_28 : decode cX3_widthOf 28 = .ok (.iconst 1, 1) := by decide +kernel
theorem dX3_widthOf_29 : decode cX3_widthOf 29 = .ok (.goto 4, 3) := by decide +kernel
theorem dX3_widthOf_32 : decode cX3_widthOf 32 = .ok (.iconst 0, 1) := by decide +kernel
theorem dX3_widthOf_33 : decode cX3_widthOf 33 = .ok (.iadd, 1) := by decide +kernel
theorem dX3_widthOf_34 : decode cX3_widthOf 34 = .ok (.istore_n 2, 1) := by decide +kernel
theorem dX3_widthOf_35 : decode cX3_widthOf 35 = .ok (.iinc 3 1, 3) := by decide +kernel
theorem dX3_widthOf_38 : decode cX3_widthOf 38 = .ok (.goto (-34), 3) := by decide +kernel
theorem dX3_widthOf_41 : decode cX3_widthOf 41 = .ok (.iload_n 2, 1) := by decide +kernel
theorem dX3_widthOf_42 : decode cX3_widthOf 42 = .ok (.ireturn, 1) := by decide +kernel
theorem dX3_insert_0 : decode cX3_insert 0 = .ok (.aload_n 0, 1) := by decide +kernel
theorem dX3_insert_1 : decode cX3_insert 1 = .ok (.lload_n 1, 1) := by decide +kernel
theorem dX3_insert_2 : decode cX3_insert 2 = .ok (.invokevirtual 61, 3) := by decide +kernel
theorem dX3_insert_5 : decode cX3_insert 5 = .ok (.istore 5, 2) := by decide +kernel
theorem dX3_insert_7 : decode cX3_insert 7 = .ok (.aload_n 0, 1) := by decide +kernel
theorem dX3_insert_8 : decode cX3_insert 8 = .ok (.getfield 58, 3) := by decide +kernel
theorem dX3_insert_11 : decode cX3_insert 11 = .ok (.istore 6, 2) := by decide +kernel
theorem dX3_insert_13 : decode cX3_insert 13 = .ok (.iload 6, 2) := by decide +kernel
theorem dX3_insert_15 : decode cX3_insert 15 = .ok (.iload 5, 2) := by decide +kernel
theorem dX3_insert_17 : decode cX3_insert 17 = .ok (.if_icmp .le 57, 3) := by decide +kernel
theorem dX3_insert_20 : decode cX3_insert 20 = .ok (.aload_n 0, 1) := by decide +kernel
theorem dX3_insert_21 : decode cX3_insert 21 = .ok (.getfield 7, 3) := by decide +kernel
theorem dX3_insert_24 : decode cX3_insert 24 = .ok (.iload 6, 2) := by decide +kernel
theorem dX3_insert_26 : decode cX3_insert 26 = .ok (.aload_n 0, 1) := by decide +kernel
theorem dX3_insert_27 : decode cX3_insert 27 = .ok (.getfield 7, 3) := by decide +kernel
theorem dX3_insert_30 : decode cX3_insert 30 = .ok (.iload 6, 2) := by decide +kernel
theorem dX3_insert_32 : decode cX3_insert 32 = .ok (.iconst 1, 1) := by decide +kernel
theorem dX3_insert_33 : decode cX3_insert 33 = .ok (.isub, 1) := by decide +kernel
theorem dX3_insert_34 : decode cX3_insert 34 = .ok (.laload, 1) := by decide +kernel
theorem dX3_insert_35 : decode cX3_insert 35 = .ok (.lastore, 1) := by decide +kernel
theorem dX3_insert_36 : decode cX3_insert 36 = .ok (.aload_n 0, 1) := by decide +kernel
theorem dX3_insert_37 : decode cX3_insert 37 = .ok (.getfield 13, 3) := by decide +kernel
theorem dX3_insert_40 : decode cX3_insert 40 = .ok (.iload 6, 2) := by decide +kernel
theorem dX3_insert_42 : decode cX3_insert 42 = .ok (.aload_n 0, 1) := by decide +kernel
theorem dX3_insert_43 : decode cX3_insert 43 = .ok (.getfield 13, 3) := by decide +kernel
theorem dX3_insert_46 : decode cX3_insert 46 = .ok (.iload 6, 2) := by decide +kernel
theorem dX3_insert_48 : decode cX3_insert 48 = .ok (.iconst 1, 1) := by decide +kernel
theorem dX3_insert_49 : decode cX3_insert 49 = .ok (.isub, 1) := by decide +kernel
theorem dX3_insert_50 : decode cX3_insert 50 = .ok (.iaload, 1) := by decide +kernel
theorem dX3_insert_51 : decode cX3_insert 51 = .ok (.iastore, 1) := by decide +kernel
theorem dX3_insert_52 : decode cX3_insert 52 = .ok (.aload_n 0, 1) := by decide +kernel
theorem dX3_insert_53 : decode cX3_insert 53 = .ok (.getfield 17, 3) := by decide +kernel
theorem dX3_insert_56 : decode cX3_insert 56 = .ok (.iload 6, 2) := by decide +kernel
theorem dX3_insert_58 : decode cX3_insert 58 = .ok (.aload_n 0, 1) := by decide +kernel
theorem dX3_insert_59 : decode cX3_insert 59 = .ok (.getfield 17, 3) := by decide +kernel
theorem dX3_insert_62 : decode cX3_insert 62 = .ok (.iload 6, 2) := by decide +kernel
theorem dX3_insert_64 : decode cX3_insert 64 = .ok (.iconst 1, 1) := by decide +kernel
theorem dX3_insert_65 : decode cX3_insert 65 = .ok (.isub, 1) := by decide +kernel
theorem dX3_insert_66 : decode cX3_insert 66 = .ok (.iaload, 1) := by decide +kernel
theorem dX3_insert_67 : decode cX3_insert 67 = .ok (.iastore, 1) := by decide +kernel
theorem dX3_insert_68 : decode cX3_insert 68 = .ok (.iinc 6 (-1), 3) := by decide +kernel
theorem dX3_insert_71 : decode cX3_insert 71 = .ok (.goto (-58), 3) := by decide +kernel
theorem dX3_insert_74 : decode cX3_insert 74 = .ok (.aload_n 0, 1) := by decide +kernel
theorem dX3_insert_75 : decode cX3_insert 75 = .ok (.getfield 7, 3) := by decide +kernel
theorem dX3_insert_78 : decode cX3_insert 78 = .ok (.iload 5, 2) := by decide +kernel
theorem dX3_insert_80 : decode cX3_insert 80 = .ok (.lload_n 1, 1) := by decide +kernel
theorem dX3_insert_81 : decode cX3_insert 81 = .ok (.lastore, 1) := by decide +kernel
theorem dX3_insert_82 : decode cX3_insert 82 = .ok (.aload_n 0, 1) := by decide +kernel
theorem dX3_insert_83 : decode cX3_insert 83 = .ok (.getfield 13, 3) := by decide +kernel
theorem dX3_insert_86 : decode cX3_insert 86 = .ok (.iload 5, 2) := by decide +kernel
theorem dX3_insert_88 : decode cX3_insert 88 = .ok (.iload_n 3, 1) := by decide +kernel
theorem dX3_insert_89 : decode cX3_insert 89 = .ok (.iastore, 1) := by decide +kernel
theorem dX3_insert_90 : decode cX3_insert 90 = .ok (.aload_n 0, 1) := by decide +kernel
theorem dX3_insert_91 : decode cX3_insert 91 = .ok (.getfield 17, 3) := by decide +kernel
theorem dX3_insert_94 : decode cX3_insert 94 = .ok (.iload 5, 2) := by decide +kernel
theorem dX3_insert_96 : decode cX3_insert 96 = .ok (.iload 4, 2) := by decide +kernel
theorem dX3_insert_98 : decode cX3_insert 98 = .ok (.iastore, 1) := by decide +kernel
theorem dX3_insert_99 : decode cX3_insert 99 = .ok (.aload_n 0, 1) := by decide +kernel
theorem dX3_insert_100 : decode cX3_insert 100 = .ok (.dup, 1) := by decide +kernel
theorem dX3_insert_101 : decode cX3_insert 101 = .ok (.getfield 58, 3) := by decide +kernel
theorem dX3_insert_104 : decode cX3_insert 104 = .ok (.iconst 1, 1) := by decide +kernel
theorem dX3_insert_105 : decode cX3_insert 105 = .ok (.iadd, 1) := by decide +kernel
theorem dX3_insert_106 : decode cX3_insert 106 = .ok (.putfield 58, 3) := by decide +kernel
theorem dX3_insert_109 : decode cX3_insert 109 = .ok (.return_, 1) := by decide +kernel
theorem dX3_open_0 : decode cX3_open 0 = .ok (.aload_n 0, 1) := by decide +kernel
theorem dX3_open_1 : decode cX3_open 1 = .ok (.getfield 26, 3) := by decide +kernel
theorem dX3_open_4 : decode cX3_open 4 = .ok (.istore 4, 2) := by decide +kernel
theorem dX3_open_6 : decode cX3_open 6 = .ok (.iload 4, 2) := by decide +kernel
theorem dX3_open_8 : decode cX3_open 8 = .ok (.iload_n 1, 1) := by decide +kernel
theorem dX3_open_9 : decode cX3_open 9 = .ok (.if_icmp .le 41, 3) := by decide +kernel
theorem dX3_open_12 : decode cX3_open 12 = .ok (.aload_n 0, 1) := by decide +kernel
theorem dX3_open_13 : decode cX3_open 13 = .ok (.getfield 20, 3) := by decide +kernel
theorem dX3_open_16 : decode cX3_open 16 = .ok (.iload 4, 2) := by decide +kernel
theorem dX3_open_18 : decode cX3_open 18 = .ok (.aload_n 0, 1) := by decide +kernel
theorem dX3_open_19 : decode cX3_open 19 = .ok (.getfield 20, 3) := by decide +kernel
theorem dX3_open_22 : decode cX3_open 22 = .ok (.iload 4, 2) := by decide +kernel
theorem dX3_open_24 : decode cX3_open 24 = .ok (.iconst 1, 1) := by decide +kernel
theorem dX3_open_25 : decode cX3_open 25 = .ok (.isub, 1) := by decide +kernel
theorem dX3_open_26 : decode cX3_open 26 = .ok (.iaload, 1) := by decide +kernel
theorem dX3_open_27 : decode cX3_open 27 = .ok (.iastore, 1) := by decide +kernel
theorem dX3_open_28 : decode cX3_open 28 = .ok (.aload_n 0, 1) := by decide +kernel
theorem dX3_open_29 : decode cX3_open 29 = .ok (.getfield 23, 3) := by decide +kernel
theorem dX3_open_32 : decode cX3_open 32 = .ok (.iload 4, 2) := by decide +kernel
theorem dX3_open_34 : decode cX3_open 34 = .ok (.aload_n 0, 1) := by decide +kernel
theorem dX3_open_35 : decode cX3_open 35 = .ok (.getfield 23, 3) := by decide +kernel
theorem dX3_open_38 : decode cX3_open 38 = .ok (.iload 4, 2) := by decide +kernel
theorem dX3_open_40 : decode cX3_open 40 = .ok (.iconst 1, 1) := by decide +kernel
theorem dX3_open_41 : decode cX3_open 41 = .ok (.isub, 1) := by decide +kernel
theorem dX3_open_42 : decode cX3_open 42 = .ok (.iaload, 1) := by decide +kernel
theorem dX3_open_43 : decode cX3_open 43 = .ok (.iastore, 1) := by decide +kernel
theorem dX3_open_44 : decode cX3_open 44 = .ok (.iinc 4 (-1), 3) := by decide +kernel
theorem dX3_open_47 : decode cX3_open 47 = .ok (.goto (-41), 3) := by decide +kernel
theorem dX3_open_50 : decode cX3_open 50 = .ok (.aload_n 0, 1) := by decide +kernel
theorem dX3_open_51 : decode cX3_open 51 = .ok (.getfield 20, 3) := by decide +kernel
theorem dX3_open_54 : decode cX3_open 54 = .ok (.iload_n 1, 1) := by decide +kernel
theorem dX3_open_55 : decode cX3_open 55 = .ok (.iload_n 2, 1) := by decide +kernel
theorem dX3_open_56 : decode cX3_open 56 = .ok (.iastore, 1) := by decide +kernel
theorem dX3_open_57 : decode cX3_open 57 = .ok (.aload_n 0, 1) := by decide +kernel
theorem dX3_open_58 : decode cX3_open 58 = .ok (.getfield 23, 3) := by decide +kernel
theorem dX3_open_61 : decode cX3_open 61 = .ok (.iload_n 1, 1) := by decide +kernel
theorem dX3_open_62 : decode cX3_open 62 = .ok (.iload_n 3, 1) := by decide +kernel
theorem dX3_open_63 : decode cX3_open 63 = .ok (.iastore, 1) := by decide +kernel
theorem dX3_open_64 : decode cX3_open 64 = .ok (.aload_n 0, 1) := by decide +kernel
theorem dX3_open_65 : decode cX3_open 65 = .ok (.dup, 1) := by decide +kernel
theorem dX3_open_66 : decode cX3_open 66 = .ok (.getfield 26, 3) := by decide +kernel
theorem dX3_open_69 : decode cX3_open 69 = .ok (.iconst 1, 1) := by decide +kernel
theorem dX3_open_70 : decode cX3_open 70 = .ok (.iadd, 1) := by decide +kernel
theorem dX3_open_71 : decode cX3_open 71 = .ok (.putfield 26, 3) := by decide +kernel
theorem dX3_open_74 : decode cX3_open 74 = .ok (.return_, 1) := by decide +kernel
theorem dX3_kept_0 : decode cX3_kept 0 = .ok (.aload_n 0, 1) := by decide +kernel
theorem dX3_kept_1 : decode cX3_kept 1 = .ok (.iload_n 1, 1) := by decide +kernel
theorem dX3_kept_2 : decode cX3_kept 2 = .ok (.invokevirtual 69, 3) := by decide +kernel
theorem dX3_kept_5 : decode cX3_kept 5 = .ok (.istore_n 2, 1) := by decide +kernel
theorem dX3_kept_6 : decode cX3_kept 6 = .ok (.iconst 0, 1) := by decide +kernel
theorem dX3_kept_7 : decode cX3_kept 7 = .ok (.istore_n 3, 1) := by decide +kernel
theorem dX3_kept_8 : decode cX3_kept 8 = .ok (.iconst 0, 1) := by decide +kernel
theorem dX3_kept_9 : decode cX3_kept 9 = .ok (.istore 4, 2) := by decide +kernel
theorem dX3_kept_11 : decode cX3_kept 11 = .ok (.aload_n 0, 1) := by decide +kernel
theorem dX3_kept_12 : decode cX3_kept 12 = .ok (.iload_n 1, 1) := by decide +kernel
theorem dX3_kept_13 : decode cX3_kept 13 = .ok (.invokevirtual 65, 3) := by decide +kernel
theorem dX3_kept_16 : decode cX3_kept 16 = .ok (.istore 5, 2) := by decide +kernel
theorem dX3_kept_18 : decode cX3_kept 18 = .ok (.aload_n 0, 1) := by decide +kernel
theorem dX3_kept_19 : decode cX3_kept 19 = .ok (.iload_n 1, 1) := by decide +kernel
theorem dX3_kept_20 : decode cX3_kept 20 = .ok (.invokevirtual 72, 3) := by decide +kernel
theorem dX3_kept_23 : decode cX3_kept 23 = .ok (.istore 6, 2) := by decide +kernel
theorem dX3_kept_25 : decode cX3_kept 25 = .ok (.iconst 1, 1) := by decide +kernel
theorem dX3_kept_26 : decode cX3_kept 26 = .ok (.istore 7, 2) := by decide +kernel
theorem dX3_kept_28 : decode cX3_kept 28 = .ok (.iconst 0, 1) := by decide +kernel
theorem dX3_kept_29 : decode cX3_kept 29 = .ok (.istore 8, 2) := by decide +kernel
theorem dX3_kept_31 : decode cX3_kept 31 = .ok (.iload 8, 2) := by decide +kernel
theorem dX3_kept_33 : decode cX3_kept 33 = .ok (.iload 6, 2) := by decide +kernel
theorem dX3_kept_35 : decode cX3_kept 35 = .ok (.if_icmp .ge 68, 3) := by decide +kernel
theorem dX3_kept_38 : decode cX3_kept 38 = .ok (.iload 7, 2) := by decide +kernel
theorem dX3_kept_40 : decode cX3_kept 40 = .ok (.ifCond .eq 63, 3) := by decide +kernel
theorem dX3_kept_43 : decode cX3_kept 43 = .ok (.iconst 2, 1) := by decide +kernel
theorem dX3_kept_44 : decode cX3_kept 44 = .ok (.iload 4, 2) := by decide +kernel
theorem dX3_kept_46 : decode cX3_kept 46 = .ok (.aload_n 0, 1) := by decide +kernel
theorem dX3_kept_47 : decode cX3_kept 47 = .ok (.getfield 13, 3) := by decide +kernel
theorem dX3_kept_50 : decode cX3_kept 50 = .ok (.iload 5, 2) := by decide +kernel
theorem dX3_kept_52 : decode cX3_kept 52 = .ok (.iload 8, 2) := by decide +kernel
theorem dX3_kept_54 : decode cX3_kept 54 = .ok (.iadd, 1) := by decide +kernel
theorem dX3_kept_55 : decode cX3_kept 55 = .ok (.iaload, 1) := by decide +kernel
theorem dX3_kept_56 : decode cX3_kept 56 = .ok (.iadd, 1) := by decide +kernel
theorem dX3_kept_57 : decode cX3_kept 57 = .ok (.imul, 1) := by decide +kernel
theorem dX3_kept_58 : decode cX3_kept 58 = .ok (.iload_n 2, 1) := by decide +kernel
theorem dX3_kept_59 : decode cX3_kept 59 = .ok (.if_icmp .gt 7, 3) := by decide +kernel
theorem dX3_kept_62 : decode cX3_kept 62 = .ok (.iconst 1, 1) := by decide +kernel
theorem dX3_kept_63 : decode cX3_kept 63 = .ok (.goto 4, 3) := by decide +kernel
theorem dX3_kept_66 : decode cX3_kept 66 = .ok (.iconst 0, 1) := by decide +kernel
theorem dX3_kept_67 : decode cX3_kept 67 = .ok (.istore 7, 2) := by decide +kernel
theorem dX3_kept_69 : decode cX3_kept 69 = .ok (.iload 4, 2) := by decide +kernel
theorem dX3_kept_71 : decode cX3_kept 71 = .ok (.aload_n 0, 1) := by decide +kernel
theorem dX3_kept_72 : decode cX3_kept 72 = .ok (.getfield 13, 3) := by decide +kernel
theorem dX3_kept_75 : decode cX3_kept 75 = .ok (.iload 5, 2) := by decide +kernel
theorem dX3_kept_77 : decode cX3_kept 77 = .ok (.iload 8, 2) := by decide +kernel
theorem dX3_kept_79 : decode cX3_kept 79 = .ok (.iadd, 1) := by decide +kernel
theorem dX3_kept_80 : decode cX3_kept 80 = .ok (.iaload, 1) := by decide +kernel
theorem dX3_kept_81 : decode cX3_kept 81 = .ok (.iadd, 1) := by decide +kernel
theorem dX3_kept_82 : decode cX3_kept 82 = .ok (.istore 4, 2) := by decide +kernel
theorem dX3_kept_84 : decode cX3_kept 84 = .ok (.iload_n 3, 1) := by decide +kernel
theorem dX3_kept_85 : decode cX3_kept 85 = .ok (.iload 7, 2) := by decide +kernel
theorem dX3_kept_87 : decode cX3_kept 87 = .ok (.ifCond .eq 7, 3) := by decide +kernel
theorem dX3_kept_90 : decode cX3_kept 90 = .ok (.iconst 1, 1) := by decide +kernel
theorem dX3_kept_91 : decode cX3_kept 91 = .ok (.goto 4, 3) := by decide +kernel
theorem dX3_kept_94 : decode cX3_kept 94 = .ok (.iconst 0, 1) := by decide +kernel
theorem dX3_kept_95 : decode cX3_kept 95 = .ok (.iadd, 1) := by decide +kernel
theorem dX3_kept_96 : decode cX3_kept 96 = .ok (.istore_n 3, 1) := by decide +kernel
theorem dX3_kept_97 : decode cX3_kept 97 = .ok (.iinc 8 1, 3) := by decide +kernel
theorem dX3_kept_100 : decode cX3_kept 100 = .ok (.goto (-69), 3) := by decide +kernel
theorem dX3_kept_103 : decode cX3_kept 103 = .ok (.iload_n 3, 1) := by decide +kernel
theorem dX3_kept_104 : decode cX3_kept 104 = .ok (.iconst 1, 1) := by decide +kernel
theorem dX3_kept_105 : decode cX3_kept 105 = .ok (.if_icmp .ge 7, 3) := by decide +kernel
theorem dX3_kept_108 : decode cX3_kept 108 = .ok (.iconst 1, 1) := by decide +kernel
theorem dX3_kept_109 : decode cX3_kept 109 = .ok (.goto 17, 3) := by decide +kernel
theorem dX3_kept_112 : decode cX3_kept 112 = .ok (.iload_n 3, 1) := by decide +kernel
theorem dX3_kept_113 : decode cX3_kept 113 = .ok (.iload 6, 2) := by decide +kernel
theorem dX3_kept_115 : decode cX3_kept 115 = .ok (.if_icmp .ne 10, 3) := by decide +kernel
theorem dX3_kept_118 : decode cX3_kept 118 = .ok (.iload 6, 2) := by decide +kernel
theorem dX3_kept_120 : decode cX3_kept 120 = .ok (.iconst 1, 1) := by decide +kernel
theorem dX3_kept_121 : decode cX3_kept 121 = .ok (.isub, 1) := by decide +kernel
theorem dX3_kept_122 : decode cX3_kept 122 = .ok (.goto 4, 3) := by decide +kernel
theorem dX3_kept_125 : decode cX3_kept 125 = .ok (.iload_n 3, 1) := by decide +kernel
theorem dX3_kept_126 : decode cX3_kept 126 = .ok (.ireturn, 1) := by decide +kernel
theorem dX3_splitInterval_0 : decode cX3_splitInterval 0 = .ok (.aload_n 0, 1) := by decide +kernel
theorem dX3_splitInterval_1 : decode cX3_splitInterval 1 = .ok (.iload_n 1, 1) := by decide +kernel
theorem dX3_splitInterval_2 : decode cX3_splitInterval 2 = .ok (.invokevirtual 65, 3) := by decide +kernel
theorem dX3_splitInterval_5 : decode cX3_splitInterval 5 = .ok (.aload_n 0, 1) := by decide +kernel
theorem dX3_splitInterval_6 : decode cX3_splitInterval 6 = .ok (.iload_n 1, 1) := by decide +kernel
theorem dX3_splitInterval_7 : decode cX3_splitInterval 7 = .ok (.invokevirtual 75, 3) := by decide +kernel
theorem dX3_splitInterval_10 : decode cX3_splitInterval 10 = .ok (.iadd, 1) := by decide +kernel
theorem dX3_splitInterval_11 : decode cX3_splitInterval 11 = .ok (.istore_n 3, 1) := by decide +kernel
theorem dX3_splitInterval_12 : decode cX3_splitInterval 12 = .ok (.aload_n 0, 1) := by decide +kernel
theorem dX3_splitInterval_13 : decode cX3_splitInterval 13 = .ok (.getfield 20, 3) := by decide +kernel
theorem dX3_splitInterval_16 : decode cX3_splitInterval 16 = .ok (.iload_n 1, 1) := by decide +kernel
theorem dX3_splitInterval_17 : decode cX3_splitInterval 17 = .ok (.iaload, 1) := by decide +kernel
theorem dX3_splitInterval_18 : decode cX3_splitInterval 18 = .ok (.istore 4, 2) := by decide +kernel
theorem dX3_splitInterval_20 : decode cX3_splitInterval 20 = .ok (.aload_n 0, 1) := by decide +kernel
theorem dX3_splitInterval_21 : decode cX3_splitInterval 21 = .ok (.iload_n 1, 1) := by decide +kernel
theorem dX3_splitInterval_22 : decode cX3_splitInterval 22 = .ok (.iconst 1, 1) := by decide +kernel
theorem dX3_splitInterval_23 : decode cX3_splitInterval 23 = .ok (.iadd, 1) := by decide +kernel
theorem dX3_splitInterval_24 : decode cX3_splitInterval 24 = .ok (.iload_n 2, 1) := by decide +kernel
theorem dX3_splitInterval_25 : decode cX3_splitInterval 25 = .ok (.aload_n 0, 1) := by decide +kernel
theorem dX3_splitInterval_26 : decode cX3_splitInterval 26 = .ok (.getfield 23, 3) := by decide +kernel
theorem dX3_splitInterval_29 : decode cX3_splitInterval 29 = .ok (.iload_n 1, 1) := by decide +kernel
theorem dX3_splitInterval_30 : decode cX3_splitInterval 30 = .ok (.iaload, 1) := by decide +kernel
theorem dX3_splitInterval_31 : decode cX3_splitInterval 31 = .ok (.invokevirtual 78, 3) := by decide +kernel
theorem dX3_splitInterval_34 : decode cX3_splitInterval 34 = .ok (.iload_n 3, 1) := by decide +kernel
theorem dX3_splitInterval_35 : decode cX3_splitInterval 35 = .ok (.istore 5, 2) := by decide +kernel
theorem dX3_splitInterval_37 : decode cX3_splitInterval 37 = .ok (.iload 5, 2) := by decide +kernel
theorem dX3_splitInterval_39 : decode cX3_splitInterval 39 = .ok (.aload_n 0, 1) := by decide +kernel
theorem dX3_splitInterval_40 : decode cX3_splitInterval 40 = .ok (.getfield 58, 3) := by decide +kernel
theorem dX3_splitInterval_43 : decode cX3_splitInterval 43 = .ok (.if_icmp .ge 39, 3) := by decide +kernel
theorem dX3_splitInterval_46 : decode cX3_splitInterval 46 = .ok (.aload_n 0, 1) := by decide +kernel
theorem dX3_splitInterval_47 : decode cX3_splitInterval 47 = .ok (.getfield 17, 3) := by decide +kernel
theorem dX3_splitInterval_50 : decode cX3_splitInterval 50 = .ok (.iload 5, 2) := by decide +kernel
theorem dX3_splitInterval_52 : decode cX3_splitInterval 52 = .ok (.aload_n 0, 1) := by decide +kernel
theorem dX3_splitInterval_53 : decode cX3_splitInterval 53 = .ok (.getfield 17, 3) := by decide +kernel
theorem dX3_splitInterval_56 : decode cX3_splitInterval 56 = .ok (.iload 5, 2) := by decide +kernel
theorem dX3_splitInterval_58 : decode cX3_splitInterval 58 = .ok (.iaload, 1) := by decide +kernel
theorem dX3_splitInterval_59 : decode cX3_splitInterval 59 = .ok (.iload 4, 2) := by decide +kernel
theorem dX3_splitInterval_61 : decode cX3_splitInterval 61 = .ok (.if_icmp .ne 7, 3) := by decide +kernel
theorem dX3_splitInterval_64 : decode cX3_splitInterval 64 = .ok (.iload_n 2, 1) := by decide +kernel
theorem dX3_splitInterval_65 : decode cX3_splitInterval 65 = .ok (.goto 10, 3) := by decide +kernel
theorem dX3_splitInterval_68 : decode cX3_splitInterval 68 = .ok (.aload_n 0, 1) := by decide +kernel
theorem dX3_splitInterval_69 : decode cX3_splitInterval 69 = .ok (.getfield 17, 3) := by decide +kernel
theorem dX3_splitInterval_72 : decode cX3_splitInterval 72 = .ok (.iload 5, 2) := by decide +kernel
theorem dX3_splitInterval_74 : decode cX3_splitInterval 74 = .ok (.iaload, 1) := by decide +kernel
theorem dX3_splitInterval_75 : decode cX3_splitInterval 75 = .ok (.iastore, 1) := by decide +kernel
theorem dX3_splitInterval_76 : decode cX3_splitInterval 76 = .ok (.iinc 5 1, 3) := by decide +kernel
theorem dX3_splitInterval_79 : decode cX3_splitInterval 79 = .ok (.goto (-42), 3) := by decide +kernel
theorem dX3_splitInterval_82 : decode cX3_splitInterval 82 = .ok (.aload_n 0, 1) := by decide +kernel
theorem dX3_splitInterval_83 : decode cX3_splitInterval 83 = .ok (.getfield 36, 3) := by decide +kernel
theorem dX3_splitInterval_86 : decode cX3_splitInterval 86 = .ok (.iconst 0, 1) := by decide +kernel
theorem dX3_splitInterval_87 : decode cX3_splitInterval 87 = .ok (.dup2, 1) := by decide +kernel
theorem dX3_splitInterval_88 : decode cX3_splitInterval 88 = .ok (.iaload, 1) := by decide +kernel
theorem dX3_splitInterval_89 : decode cX3_splitInterval 89 = .ok (.iconst 1, 1) := by decide +kernel
theorem dX3_splitInterval_90 : decode cX3_splitInterval 90 = .ok (.iadd, 1) := by decide +kernel
theorem dX3_splitInterval_91 : decode cX3_splitInterval 91 = .ok (.iastore, 1) := by decide +kernel
theorem dX3_splitInterval_92 : decode cX3_splitInterval 92 = .ok (.return_, 1) := by decide +kernel
theorem dX3_splitArea_0 : decode cX3_splitArea 0 = .ok (.aload_n 0, 1) := by decide +kernel
theorem dX3_splitArea_1 : decode cX3_splitArea 1 = .ok (.iload_n 1, 1) := by decide +kernel
theorem dX3_splitArea_2 : decode cX3_splitArea 2 = .ok (.invokevirtual 82, 3) := by decide +kernel
theorem dX3_splitArea_5 : decode cX3_splitArea 5 = .ok (.istore_n 2, 1) := by decide +kernel
theorem dX3_splitArea_6 : decode cX3_splitArea 6 = .ok (.aload_n 0, 1) := by decide +kernel
theorem dX3_splitArea_7 : decode cX3_splitArea 7 = .ok (.getfield 23, 3) := by decide +kernel
theorem dX3_splitArea_10 : decode cX3_splitArea 10 = .ok (.iload_n 1, 1) := by decide +kernel
theorem dX3_splitArea_11 : decode cX3_splitArea 11 = .ok (.iaload, 1) := by decide +kernel
theorem dX3_splitArea_12 : decode cX3_splitArea 12 = .ok (.istore_n 3, 1) := by decide +kernel
theorem dX3_splitArea_13 : decode cX3_splitArea 13 = .ok (.iconst 0, 1) := by decide +kernel
theorem dX3_splitArea_14 : decode cX3_splitArea 14 = .ok (.istore 4, 2) := by decide +kernel
theorem dX3_splitArea_16 : decode cX3_splitArea 16 = .ok (.aload_n 0, 1) := by decide +kernel
theorem dX3_splitArea_17 : decode cX3_splitArea 17 = .ok (.dup, 1) := by decide +kernel
theorem dX3_splitArea_18 : decode cX3_splitArea 18 = .ok (.getfield 33, 3) := by decide +kernel
theorem dX3_splitArea_21 : decode cX3_splitArea 21 = .ok (.iconst 1, 1) := by decide +kernel
theorem dX3_splitArea_22 : decode cX3_splitArea 22 = .ok (.iadd, 1) := by decide +kernel
theorem dX3_splitArea_23 : decode cX3_splitArea 23 = .ok (.putfield 33, 3) := by decide +kernel
theorem dX3_splitArea_26 : decode cX3_splitArea 26 = .ok (.iconst 0, 1) := by decide +kernel
theorem dX3_splitArea_27 : decode cX3_splitArea 27 = .ok (.istore 5, 2) := by decide +kernel
theorem dX3_splitArea_29 : decode cX3_splitArea 29 = .ok (.iload 5, 2) := by decide +kernel
theorem dX3_splitArea_31 : decode cX3_splitArea 31 = .ok (.aload_n 0, 1) := by decide +kernel
theorem dX3_splitArea_32 : decode cX3_splitArea 32 = .ok (.getfield 26, 3) := by decide +kernel
theorem dX3_splitArea_35 : decode cX3_splitArea 35 = .ok (.if_icmp .ge 54, 3) := by decide +kernel
theorem dX3_splitArea_38 : decode cX3_splitArea 38 = .ok (.aload_n 0, 1) := by decide +kernel
theorem dX3_splitArea_39 : decode cX3_splitArea 39 = .ok (.getfield 23, 3) := by decide +kernel
theorem dX3_splitArea_42 : decode cX3_splitArea 42 = .ok (.iload 5, 2) := by decide +kernel
theorem dX3_splitArea_44 : decode cX3_splitArea 44 = .ok (.iaload, 1) := by decide +kernel
theorem dX3_splitArea_45 : decode cX3_splitArea 45 = .ok (.iload_n 3, 1) := by decide +kernel
theorem dX3_splitArea_46 : decode cX3_splitArea 46 = .ok (.if_icmp .eq 6, 3) := by decide +kernel
theorem dX3_splitArea_49 : decode cX3_splitArea 49 = .ok (.goto 34, 3) := by decide +kernel
theorem dX3_splitArea_52 : decode cX3_splitArea 52 = .ok (.iinc 4 1, 3) := by decide +kernel
theorem dX3_splitArea_55 : decode cX3_splitArea 55 = .ok (.aload_n 0, 1) := by decide +kernel
theorem dX3_splitArea_56 : decode cX3_splitArea 56 = .ok (.getfield 23, 3) := by decide +kernel
theorem dX3_splitArea_59 : decode cX3_splitArea 59 = .ok (.iload 5, 2) := by decide +kernel
theorem dX3_splitArea_61 : decode cX3_splitArea 61 = .ok (.iload 4, 2) := by decide +kernel
theorem dX3_splitArea_63 : decode cX3_splitArea 63 = .ok (.iload_n 2, 1) := by decide +kernel
theorem dX3_splitArea_64 : decode cX3_splitArea 64 = .ok (.aload_n 0, 1) := by decide +kernel
theorem dX3_splitArea_65 : decode cX3_splitArea 65 = .ok (.getfield 46, 3) := by decide +kernel
theorem dX3_splitArea_68 : decode cX3_splitArea 68 = .ok (.iconst 2, 1) := by decide +kernel
theorem dX3_splitArea_69 : decode cX3_splitArea 69 = .ok (.idiv, 1) := by decide +kernel
theorem dX3_splitArea_70 : decode cX3_splitArea 70 = .ok (.isub, 1) := by decide +kernel
theorem dX3_splitArea_71 : decode cX3_splitArea 71 = .ok (.if_icmp .le 10, 3) := by decide +kernel
theorem dX3_splitArea_74 : decode cX3_splitArea 74 = .ok (.aload_n 0, 1) := by decide +kernel
theorem dX3_splitArea_75 : decode cX3_splitArea 75 = .ok (.getfield 33, 3) := by decide +kernel
theorem dX3_splitArea_78 : decode cX3_splitArea 78 = .ok (.goto 4, 3) := by decide +kernel
theorem dX3_splitArea_81 : decode cX3_splitArea 81 = .ok (.iload_n 3, 1) := by decide +kernel
theorem dX3_splitArea_82 : decode cX3_splitArea 82 = .ok (.iastore, 1) := by decide +kernel
theorem dX3_splitArea_83 : decode cX3_splitArea 83 = .ok (.iinc 5 1, 3) := by decide +kernel
theorem dX3_splitArea_86 : decode cX3_splitArea 86 = .ok (.goto (-57), 3) := by decide +kernel
theorem dX3_splitArea_89 : decode cX3_splitArea 89 = .ok (.aload_n 0, 1) := by decide +kernel
theorem dX3_splitArea_90 : decode cX3_splitArea 90 = .ok (.getfield 36, 3) := by decide +kernel
theorem dX3_splitArea_93 : decode cX3_splitArea 93 = .ok (.iconst 1, 1) := by decide +kernel
theorem dX3_splitArea_94 : decode cX3_splitArea 94 = .ok (.dup2, 1) := by decide +kernel
theorem dX3_splitArea_95 : decode cX3_splitArea 95 = .ok (.iaload, 1) := by decide +kernel
theorem dX3_splitArea_96 : decode cX3_splitArea 96 = .ok (.iconst 1, 1) := by decide +kernel
theorem dX3_splitArea_97 : decode cX3_splitArea 97 = .ok (.iadd, 1) := by decide +kernel
theorem dX3_splitArea_98 : decode cX3_splitArea 98 = .ok (.iastore, 1) := by decide +kernel
theorem dX3_splitArea_99 : decode cX3_splitArea 99 = .ok (.return_, 1) := by decide +kernel
theorem dX3_isCut_0 : decode cX3_isCut 0 = .ok (.aload_n 0, 1) := by decide +kernel
theorem dX3_isCut_1 : decode cX3_isCut 1 = .ok (.getfield 85, 3) := by decide +kernel
theorem dX3_isCut_4 : decode cX3_isCut 4 = .ok (.ifCond .ne 5, 3) := by decide +kernel
theorem dX3_isCut_7 : decode cX3_isCut 7 = .ok (.iconst 0, 1) := by decide +kernel
theorem dX3_isCut_8 : decode cX3_isCut 8 = .ok (.ireturn, 1) := by decide +kernel
theorem dX3_isCut_9 : decode cX3_isCut 9 = .ok (.aload_n 0, 1) := by decide +kernel
theorem dX3_isCut_10 : decode cX3_isCut 10 = .ok (.iconst 1, 1) := by decide +kernel
theorem dX3_isCut_11 : decode cX3_isCut 11 = .ok (.putfield 88, 3) := by decide +kernel
theorem dX3_isCut_14 : decode cX3_isCut 14 = .ok (.aload_n 0, 1) := by decide +kernel
theorem dX3_isCut_15 : decode cX3_isCut 15 = .ok (.iload_n 1, 1) := by decide +kernel
theorem dX3_isCut_16 : decode cX3_isCut 16 = .ok (.putfield 92, 3) := by decide +kernel
theorem dX3_isCut_19 : decode cX3_isCut 19 = .ok (.aload_n 0, 1) := by decide +kernel
theorem dX3_isCut_20 : decode cX3_isCut 20 = .ok (.iload_n 2, 1) := by decide +kernel
theorem dX3_isCut_21 : decode cX3_isCut 21 = .ok (.putfield 95, 3) := by decide +kernel
theorem dX3_isCut_24 : decode cX3_isCut 24 = .ok (.aload_n 0, 1) := by decide +kernel
theorem dX3_isCut_25 : decode cX3_isCut 25 = .ok (.aload_n 0, 1) := by decide +kernel
theorem dX3_isCut_26 : decode cX3_isCut 26 = .ok (.getfield 85, 3) := by decide +kernel
theorem dX3_isCut_29 : decode cX3_isCut 29 = .ok (.iconst 4, 1) := by decide +kernel
theorem dX3_isCut_30 : decode cX3_isCut 30 = .ok (.if_icmp .ne 7, 3) := by decide +kernel
theorem dX3_isCut_33 : decode cX3_isCut 33 = .ok (.iconst 1, 1) := by decide +kernel
theorem dX3_isCut_34 : decode cX3_isCut 34 = .ok (.goto 4, 3) := by decide +kernel
theorem dX3_isCut_37 : decode cX3_isCut 37 = .ok (.iconst 0, 1) := by decide +kernel
theorem dX3_isCut_38 : decode cX3_isCut 38 = .ok (.putfield 98, 3) := by decide +kernel
theorem dX3_isCut_41 : decode cX3_isCut 41 = .ok (.aload_n 0, 1) := by decide +kernel
theorem dX3_isCut_42 : decode cX3_isCut 42 = .ok (.dup, 1) := by decide +kernel
theorem dX3_isCut_43 : decode cX3_isCut 43 = .ok (.getfield 30, 3) := by decide +kernel
theorem dX3_isCut_46 : decode cX3_isCut 46 = .ok (.aload_n 0, 1) := by decide +kernel
theorem dX3_isCut_47 : decode cX3_isCut 47 = .ok (.getfield 85, 3) := by decide +kernel
theorem dX3_isCut_50 : decode cX3_isCut 50 = .ok (.iconst 2, 1) := by decide +kernel
theorem dX3_isCut_51 : decode cX3_isCut 51 = .ok (.if_icmp .le 12, 3) := by decide +kernel
theorem dX3_isCut_54 : decode cX3_isCut 54 = .ok (.iload_n 1, 1) := by decide +kernel
theorem dX3_isCut_55 : decode cX3_isCut 55 = .ok (.iconst 3, 1) := by decide +kernel
theorem dX3_isCut_56 : decode cX3_isCut 56 = .ok (.if_icmp .ge 7, 3) := by decide +kernel
theorem dX3_isCut_59 : decode cX3_isCut 59 = .ok (.iconst 1, 1) := by decide +kernel
theorem dX3_isCut_60 : decode cX3_isCut 60 = .ok (.goto 4, 3) := by decide +kernel
theorem dX3_isCut_63 : decode cX3_isCut 63 = .ok (.iconst 0, 1) := by decide +kernel
theorem dX3_isCut_64 : decode cX3_isCut 64 = .ok (.iadd, 1) := by decide +kernel
theorem dX3_isCut_65 : decode cX3_isCut 65 = .ok (.putfield 30, 3) := by decide +kernel
theorem dX3_isCut_68 : decode cX3_isCut 68 = .ok (.aload_n 0, 1) := by decide +kernel
theorem dX3_isCut_69 : decode cX3_isCut 69 = .ok (.iconst 0, 1) := by decide +kernel
theorem dX3_isCut_70 : decode cX3_isCut 70 = .ok (.putfield 85, 3) := by decide +kernel
theorem dX3_isCut_73 : decode cX3_isCut 73 = .ok (.iconst 1, 1) := by decide +kernel
theorem dX3_isCut_74 : decode cX3_isCut 74 = .ok (.ireturn, 1) := by decide +kernel
theorem dX3_put_0 : decode cX3_put 0 = .ok (.aload_n 0, 1) := by decide +kernel
theorem dX3_put_1 : decode cX3_put 1 = .ok (.iconst 0, 1) := by decide +kernel
theorem dX3_put_2 : decode cX3_put 2 = .ok (.putfield 55, 3) := by decide +kernel
theorem dX3_put_5 : decode cX3_put 5 = .ok (.aload_n 0, 1) := by decide +kernel
theorem dX3_put_6 : decode cX3_put 6 = .ok (.getfield 88, 3) := by decide +kernel
theorem dX3_put_9 : decode cX3_put 9 = .ok (.ifCond .eq 6, 3) := by decide +kernel
theorem dX3_put_12 : decode cX3_put 12 = .ok (.bipush (-5), 2) := by decide +kernel
theorem dX3_put_14 : decode cX3_put 14 = .ok (.ireturn, 1) := by decide +kernel
theorem dX3_put_15 : decode cX3_put 15 = .ok (.aload_n 0, 1) := by decide +kernel
theorem dX3_put_16 : decode cX3_put 16 = .ok (.lload_n 1, 1) := by decide +kernel
theorem dX3_put_17 : decode cX3_put 17 = .ok (.invokevirtual 101, 3) := by decide +kernel
theorem dX3_put_20 : decode cX3_put 20 = .ok (.ifCond .eq 5, 3) := by decide +kernel
theorem dX3_put_23 : decode cX3_put 23 = .ok (.iconst 0, 1) := by decide +kernel
theorem dX3_put_24 : decode cX3_put 24 = .ok (.ireturn, 1) := by decide +kernel
theorem dX3_put_25 : decode cX3_put 25 = .ok (.iload_n 3, 1) := by decide +kernel
theorem dX3_put_26 : decode cX3_put 26 = .ok (.iconst 1, 1) := by decide +kernel
theorem dX3_put_27 : decode cX3_put 27 = .ok (.if_icmp .lt 21, 3) := by decide +kernel
theorem dX3_put_30 : decode cX3_put 30 = .ok (.iload_n 3, 1) := by decide +kernel
theorem dX3_put_31 : decode cX3_put 31 = .ok (.aload_n 0, 1) := by decide +kernel
theorem dX3_put_32 : decode cX3_put 32 = .ok (.getfield 43, 3) := by decide +kernel
theorem dX3_put_35 : decode cX3_put 35 = .ok (.if_icmp .gt 13, 3) := by decide +kernel
theorem dX3_put_38 : decode cX3_put 38 = .ok (.aload_n 0, 1) := by decide +kernel
theorem dX3_put_39 : decode cX3_put 39 = .ok (.getfield 58, 3) := by decide +kernel
theorem dX3_put_42 : decode cX3_put 42 = .ok (.sipush 600, 3) := by decide +kernel
theorem dX3_put_45 : decode cX3_put 45 = .ok (.if_icmp .ne 5, 3) := by decide +kernel
theorem dX3_put_48 : decode cX3_put 48 = .ok (.iconst (-1), 1) := by decide +kernel
theorem dX3_put_49 : decode cX3_put 49 = .ok (.ireturn, 1) := by decide +kernel
theorem dX3_put_50 : decode cX3_put 50 = .ok (.aload_n 0, 1) := by decide +kernel
theorem dX3_put_51 : decode cX3_put 51 = .ok (.lload_n 1, 1) := by decide +kernel
theorem dX3_put_52 : decode cX3_put 52 = .ok (.invokevirtual 105, 3) := by decide +kernel
theorem dX3_put_55 : decode cX3_put 55 = .ok (.istore 4, 2) := by decide +kernel
theorem dX3_put_57 : decode cX3_put 57 = .ok (.aload_n 0, 1) := by decide +kernel
theorem dX3_put_58 : decode cX3_put 58 = .ok (.iload 4, 2) := by decide +kernel
theorem dX3_put_60 : decode cX3_put 60 = .ok (.invokevirtual 69, 3) := by decide +kernel
theorem dX3_put_63 : decode cX3_put 63 = .ok (.iload_n 3, 1) := by decide +kernel
theorem dX3_put_64 : decode cX3_put 64 = .ok (.iadd, 1) := by decide +kernel
theorem dX3_put_65 : decode cX3_put 65 = .ok (.aload_n 0, 1) := by decide +kernel
theorem dX3_put_66 : decode cX3_put 66 = .ok (.getfield 43, 3) := by decide +kernel
theorem dX3_put_69 : decode cX3_put 69 = .ok (.if_icmp .gt 18, 3) := by decide +kernel
theorem dX3_put_72 : decode cX3_put 72 = .ok (.aload_n 0, 1) := by decide +kernel
theorem dX3_put_73 : decode cX3_put 73 = .ok (.lload_n 1, 1) := by decide +kernel
theorem dX3_put_74 : decode cX3_put 74 = .ok (.iload_n 3, 1) := by decide +kernel
theorem dX3_put_75 : decode cX3_put 75 = .ok (.aload_n 0, 1) := by decide +kernel
theorem dX3_put_76 : decode cX3_put 76 = .ok (.getfield 20, 3) := by decide +kernel
theorem dX3_put_79 : decode cX3_put 79 = .ok (.iload 4, 2) := by decide +kernel
theorem dX3_put_81 : decode cX3_put 81 = .ok (.iaload, 1) := by decide +kernel
theorem dX3_put_82 : decode cX3_put 82 = .ok (.invokevirtual 108, 3) := by decide +kernel
theorem dX3_put_85 : decode cX3_put 85 = .ok (.iconst 1, 1) := by decide +kernel
theorem dX3_put_86 : decode cX3_put 86 = .ok (.ireturn, 1) := by decide +kernel
theorem dX3_put_87 : decode cX3_put 87 = .ok (.aload_n 0, 1) := by decide +kernel
theorem dX3_put_88 : decode cX3_put 88 = .ok (.iload 4, 2) := by decide +kernel
theorem dX3_put_90 : decode cX3_put 90 = .ok (.invokevirtual 72, 3) := by decide +kernel
theorem dX3_put_93 : decode cX3_put 93 = .ok (.iconst 1, 1) := by decide +kernel
theorem dX3_put_94 : decode cX3_put 94 = .ok (.if_icmp .ne 7, 3) := by decide +kernel
theorem dX3_put_97 : decode cX3_put 97 = .ok (.iconst 1, 1) := by decide +kernel
theorem dX3_put_98 : decode cX3_put 98 = .ok (.goto 4, 3) := by decide +kernel
theorem dX3_put_101 : decode cX3_put 101 = .ok (.iconst 0, 1) := by decide +kernel
theorem dX3_put_102 : decode cX3_put 102 = .ok (.istore 5, 2) := by decide +kernel
theorem dX3_put_104 : decode cX3_put 104 = .ok (.aload_n 0, 1) := by decide +kernel
theorem dX3_put_105 : decode cX3_put 105 = .ok (.iload 4, 2) := by decide +kernel
theorem dX3_put_107 : decode cX3_put 107 = .ok (.invokevirtual 82, 3) := by decide +kernel
theorem dX3_put_110 : decode cX3_put 110 = .ok (.aload_n 0, 1) := by decide +kernel
theorem dX3_put_111 : decode cX3_put 111 = .ok (.getfield 46, 3) := by decide +kernel
theorem dX3_put_114 : decode cX3_put 114 = .ok (.if_icmp .ge 7, 3) := by decide +kernel
theorem dX3_put_117 : decode cX3_put 117 = .ok (.iconst 1, 1) := by decide +kernel
theorem dX3_put_118 : decode cX3_put 118 = .ok (.goto 4, 3) := by decide +kernel
theorem dX3_put_121 : decode cX3_put 121 = .ok (.iconst 0, 1) := by decide +kernel
theorem dX3_put_122 : decode cX3_put 122 = .ok (.istore 6, 2) := by decide +kernel
theorem dX3_put_124 : decode cX3_put 124 = .ok (.aload_n 0, 1) := by decide +kernel
theorem dX3_put_125 : decode cX3_put 125 = .ok (.iload 6, 2) := by decide +kernel
theorem dX3_put_127 : decode cX3_put 127 = .ok (.ifCond .ne 7, 3) := by decide +kernel
theorem dX3_put_130 : decode cX3_put 130 = .ok (.iconst 3, 1) := by decide +kernel
theorem dX3_put_131 : decode cX3_put 131 = .ok (.goto 13, 3) := by decide +kernel
theorem dX3_put_134 : decode cX3_put 134 = .ok (.iload 5, 2) := by decide +kernel
theorem dX3_put_136 : decode cX3_put 136 = .ok (.ifCond .eq 7, 3) := by decide +kernel
theorem dX3_put_139 : decode cX3_put 139 = .ok (.iconst 2, 1) := by decide +kernel
theorem dX3_put_140 : decode cX3_put 140 = .ok (.goto 4, 3) := by decide +kernel
theorem dX3_put_143 : decode cX3_put 143 = .ok (.iconst 1, 1) := by decide +kernel
theorem dX3_put_144 : decode cX3_put 144 = .ok (.iload 4, 2) := by decide +kernel
theorem dX3_put_146 : decode cX3_put 146 = .ok (.invokevirtual 112, 3) := by decide +kernel
theorem dX3_put_149 : decode cX3_put 149 = .ok (.ifCond .eq 6, 3) := by decide +kernel
theorem dX3_put_152 : decode cX3_put 152 = .ok (.bipush (-5), 2) := by decide +kernel
theorem dX3_put_154 : decode cX3_put 154 = .ok (.ireturn, 1) := by decide +kernel
theorem dX3_put_155 : decode cX3_put 155 = .ok (.iload 6, 2) := by decide +kernel
theorem dX3_put_157 : decode cX3_put 157 = .ok (.ifCond .ne 12, 3) := by decide +kernel
theorem dX3_put_160 : decode cX3_put 160 = .ok (.aload_n 0, 1) := by decide +kernel
theorem dX3_put_161 : decode cX3_put 161 = .ok (.iload 4, 2) := by decide +kernel
theorem dX3_put_163 : decode cX3_put 163 = .ok (.invokevirtual 116, 3) := by decide +kernel
theorem dX3_put_166 : decode cX3_put 166 = .ok (.goto 112, 3) := by decide +kernel
theorem dX3_put_169 : decode cX3_put 169 = .ok (.iload 5, 2) := by decide +kernel
theorem dX3_put_171 : decode cX3_put 171 = .ok (.ifCond .eq 87, 3) := by decide +kernel
theorem dX3_put_174 : decode cX3_put 174 = .ok (.lload_n 1, 1) := by decide +kernel
theorem dX3_put_175 : decode cX3_put 175 = .ok (.aload_n 0, 1) := by decide +kernel
theorem dX3_put_176 : decode cX3_put 176 = .ok (.getfield 7, 3) := by decide +kernel
theorem dX3_put_179 : decode cX3_put 179 = .ok (.aload_n 0, 1) := by decide +kernel
theorem dX3_put_180 : decode cX3_put 180 = .ok (.iload 4, 2) := by decide +kernel
theorem dX3_put_182 : decode cX3_put 182 = .ok (.invokevirtual 65, 3) := by decide +kernel
theorem dX3_put_185 : decode cX3_put 185 = .ok (.laload, 1) := by decide +kernel
theorem dX3_put_186 : decode cX3_put 186 = .ok (.lcmp, 1) := by decide +kernel
theorem dX3_put_187 : decode cX3_put 187 = .ok (.ifCond .le 7, 3) := by decide +kernel
theorem dX3_put_190 : decode cX3_put 190 = .ok (.iconst 1, 1) := by decide +kernel
theorem dX3_put_191 : decode cX3_put 191 = .ok (.goto 4, 3) := by decide +kernel
theorem dX3_put_194 : decode cX3_put 194 = .ok (.iconst 0, 1) := by decide +kernel
theorem dX3_put_195 : decode cX3_put 195 = .ok (.istore 7, 2) := by decide +kernel
theorem dX3_put_197 : decode cX3_put 197 = .ok (.aload_n 0, 1) := by decide +kernel
theorem dX3_put_198 : decode cX3_put 198 = .ok (.iload 7, 2) := by decide +kernel
theorem dX3_put_200 : decode cX3_put 200 = .ok (.ifCond .eq 10, 3) := by decide +kernel
theorem dX3_put_203 : decode cX3_put 203 = .ok (.iload 4, 2) := by decide +kernel
theorem dX3_put_205 : decode cX3_put 205 = .ok (.iconst 1, 1) := by decide +kernel
theorem dX3_put_206 : decode cX3_put 206 = .ok (.iadd, 1) := by decide +kernel
theorem dX3_put_207 : decode cX3_put 207 = .ok (.goto 5, 3) := by decide +kernel
theorem dX3_put_210 : decode cX3_put 210 = .ok (.iload 4, 2) := by decide +kernel
theorem dX3_put_212 : decode cX3_put 212 = .ok (.aload_n 0, 1) := by decide +kernel
theorem dX3_put_213 : decode cX3_put 213 = .ok (.getfield 30, 3) := by decide +kernel
theorem dX3_put_216 : decode cX3_put 216 = .ok (.aload_n 0, 1) := by decide +kernel
theorem dX3_put_217 : decode cX3_put 217 = .ok (.getfield 23, 3) := by decide +kernel
theorem dX3_put_220 : decode cX3_put 220 = .ok (.iload 4, 2) := by decide +kernel
theorem dX3_put_222 : decode cX3_put 222 = .ok (.iaload, 1) := by decide +kernel
theorem dX3_put_223 : decode cX3_put 223 = .ok (.invokevirtual 78, 3) := by decide +kernel
theorem dX3_put_226 : decode cX3_put 226 = .ok (.aload_n 0, 1) := by decide +kernel
theorem dX3_put_227 : decode cX3_put 227 = .ok (.lload_n 1, 1) := by decide +kernel
theorem dX3_put_228 : decode cX3_put 228 = .ok (.iload_n 3, 1) := by decide +kernel
theorem dX3_put_229 : decode cX3_put 229 = .ok (.aload_n 0, 1) := by decide +kernel
theorem dX3_put_230 : decode cX3_put 230 = .ok (.getfield 30, 3) := by decide +kernel
theorem dX3_put_233 : decode cX3_put 233 = .ok (.invokevirtual 108, 3) := by decide +kernel
theorem dX3_put_236 : decode cX3_put 236 = .ok (.aload_n 0, 1) := by decide +kernel
theorem dX3_put_237 : decode cX3_put 237 = .ok (.dup, 1) := by decide +kernel
theorem dX3_put_238 : decode cX3_put 238 = .ok (.getfield 30, 3) := by decide +kernel
theorem dX3_put_241 : decode cX3_put 241 = .ok (.iconst 1, 1) := by decide +kernel
theorem dX3_put_242 : decode cX3_put 242 = .ok (.iadd, 1) := by decide +kernel
theorem dX3_put_243 : decode cX3_put 243 = .ok (.putfield 30, 3) := by decide +kernel
theorem dX3_put_246 : decode cX3_put 246 = .ok (.aload_n 0, 1) := by decide +kernel
theorem dX3_put_247 : decode cX3_put 247 = .ok (.getfield 36, 3) := by decide +kernel
theorem dX3_put_250 : decode cX3_put 250 = .ok (.iconst 0, 1) := by decide +kernel
theorem dX3_put_251 : decode cX3_put 251 = .ok (.dup2, 1) := by decide +kernel
theorem dX3_put_252 : decode cX3_put 252 = .ok (.iaload, 1) := by decide +kernel
theorem dX3_put_253 : decode cX3_put 253 = .ok (.iconst 1, 1) := by decide +kernel
theorem dX3_put_254 : decode cX3_put 254 = .ok (.iadd, 1) := by decide +kernel
theorem dX3_put_255 : decode cX3_put 255 = .ok (.iastore, 1) := by decide +kernel
theorem dX3_put_256 : decode cX3_put 256 = .ok (.iconst 1, 1) := by decide +kernel
theorem dX3_put_257 : decode cX3_put 257 = .ok (.ireturn, 1) := by decide +kernel
theorem dX3_put_258 : decode cX3_put 258 = .ok (.aload_n 0, 1) := by decide +kernel
theorem dX3_put_259 : decode cX3_put 259 = .ok (.iload 4, 2) := by decide +kernel
theorem dX3_put_261 : decode cX3_put 261 = .ok (.aload_n 0, 1) := by decide +kernel
theorem dX3_put_262 : decode cX3_put 262 = .ok (.getfield 30, 3) := by decide +kernel
theorem dX3_put_265 : decode cX3_put 265 = .ok (.invokevirtual 120, 3) := by decide +kernel
theorem dX3_put_268 : decode cX3_put 268 = .ok (.aload_n 0, 1) := by decide +kernel
theorem dX3_put_269 : decode cX3_put 269 = .ok (.dup, 1) := by decide +kernel
theorem dX3_put_270 : decode cX3_put 270 = .ok (.getfield 30, 3) := by decide +kernel
theorem dX3_put_273 : decode cX3_put 273 = .ok (.iconst 1, 1) := by decide +kernel
theorem dX3_put_274 : decode cX3_put 274 = .ok (.iadd, 1) := by decide +kernel
theorem dX3_put_275 : decode cX3_put 275 = .ok (.putfield 30, 3) := by decide +kernel
theorem dX3_put_278 : decode cX3_put 278 = .ok (.goto (-228), 3) := by decide +kernel
theorem dX3_cut_0 : decode cX3_cut 0 = .ok (.aload_n 0, 1) := by decide +kernel
theorem dX3_cut_1 : decode cX3_cut 1 = .ok (.iconst 0, 1) := by decide +kernel
theorem dX3_cut_2 : decode cX3_cut 2 = .ok (.putfield 55, 3) := by decide +kernel
theorem dX3_cut_5 : decode cX3_cut 5 = .ok (.aload_n 0, 1) := by decide +kernel
theorem dX3_cut_6 : decode cX3_cut 6 = .ok (.getfield 88, 3) := by decide +kernel
theorem dX3_cut_9 : decode cX3_cut 9 = .ok (.ifCond .eq 6, 3) := by decide +kernel
theorem dX3_cut_12 : decode cX3_cut 12 = .ok (.bipush (-5), 2) := by decide +kernel
theorem dX3_cut_14 : decode cX3_cut 14 = .ok (.ireturn, 1) := by decide +kernel
theorem dX3_cut_15 : decode cX3_cut 15 = .ok (.iload_n 1, 1) := by decide +kernel
theorem dX3_cut_16 : decode cX3_cut 16 = .ok (.ifCond .lt 8, 3) := by decide +kernel
theorem dX3_cut_19 : decode cX3_cut 19 = .ok (.iload_n 1, 1) := by decide +kernel
theorem dX3_cut_20 : decode cX3_cut 20 = .ok (.iconst 4, 1) := by decide +kernel
theorem dX3_cut_21 : decode cX3_cut 21 = .ok (.if_icmp .le 5, 3) := by decide +kernel
theorem dX3_cut_24 : decode cX3_cut 24 = .ok (.iconst (-1), 1) := by decide +kernel
theorem dX3_cut_25 : decode cX3_cut 25 = .ok (.ireturn, 1) := by decide +kernel
theorem dX3_cut_26 : decode cX3_cut 26 = .ok (.aload_n 0, 1) := by decide +kernel
theorem dX3_cut_27 : decode cX3_cut 27 = .ok (.getfield 85, 3) := by decide +kernel
theorem dX3_cut_30 : decode cX3_cut 30 = .ok (.istore_n 2, 1) := by decide +kernel
theorem dX3_cut_31 : decode cX3_cut 31 = .ok (.aload_n 0, 1) := by decide +kernel
theorem dX3_cut_32 : decode cX3_cut 32 = .ok (.iload_n 1, 1) := by decide +kernel
theorem dX3_cut_33 : decode cX3_cut 33 = .ok (.putfield 85, 3) := by decide +kernel
theorem dX3_cut_36 : decode cX3_cut 36 = .ok (.iload_n 2, 1) := by decide +kernel
theorem dX3_cut_37 : decode cX3_cut 37 = .ok (.ireturn, 1) := by decide +kernel
theorem dX3_open__0 : decode cX3_open_ 0 = .ok (.aload_n 0, 1) := by decide +kernel
theorem dX3_open__1 : decode cX3_open_ 1 = .ok (.iconst 0, 1) := by decide +kernel
theorem dX3_open__2 : decode cX3_open_ 2 = .ok (.putfield 55, 3) := by decide +kernel
theorem dX3_open__5 : decode cX3_open_ 5 = .ok (.aload_n 0, 1) := by decide +kernel
theorem dX3_open__6 : decode cX3_open_ 6 = .ok (.getfield 88, 3) := by decide +kernel
theorem dX3_open__9 : decode cX3_open_ 9 = .ok (.ifCond .ne 5, 3) := by decide +kernel
theorem dX3_open__12 : decode cX3_open_ 12 = .ok (.iconst 0, 1) := by decide +kernel
theorem dX3_open__13 : decode cX3_open_ 13 = .ok (.ireturn, 1) := by decide +kernel
theorem dX3_open__14 : decode cX3_open_ 14 = .ok (.aload_n 0, 1) := by decide +kernel
theorem dX3_open__15 : decode cX3_open_ 15 = .ok (.iconst 0, 1) := by decide +kernel
theorem dX3_open__16 : decode cX3_open_ 16 = .ok (.putfield 88, 3) := by decide +kernel
theorem dX3_open__19 : decode cX3_open_ 19 = .ok (.aload_n 0, 1) := by decide +kernel
theorem dX3_open__20 : decode cX3_open_ 20 = .ok (.getfield 98, 3) := by decide +kernel
theorem dX3_open__23 : decode cX3_open_ 23 = .ok (.ifCond .ne 15, 3) := by decide +kernel
theorem dX3_open__26 : decode cX3_open_ 26 = .ok (.aload_n 0, 1) := by decide +kernel
theorem dX3_open__27 : decode cX3_open_ 27 = .ok (.getfield 36, 3) := by decide +kernel
theorem dX3_open__30 : decode cX3_open_ 30 = .ok (.iconst 2, 1) := by decide +kernel
theorem dX3_open__31 : decode cX3_open_ 31 = .ok (.dup2, 1) := by decide +kernel
theorem dX3_open__32 : decode cX3_open_ 32 = .ok (.iaload, 1) := by decide +kernel
theorem dX3_open__33 : decode cX3_open_ 33 = .ok (.iconst 1, 1) := by decide +kernel
theorem dX3_open__34 : decode cX3_open_ 34 = .ok (.iadd, 1) := by decide +kernel
theorem dX3_open__35 : decode cX3_open_ 35 = .ok (.iastore, 1) := by decide +kernel
theorem dX3_open__36 : decode cX3_open_ 36 = .ok (.iconst 1, 1) := by decide +kernel
theorem dX3_open__37 : decode cX3_open_ 37 = .ok (.ireturn, 1) := by decide +kernel
theorem dX3_open__38 : decode cX3_open_ 38 = .ok (.aload_n 0, 1) := by decide +kernel
theorem dX3_open__39 : decode cX3_open_ 39 = .ok (.getfield 92, 3) := by decide +kernel
theorem dX3_open__42 : decode cX3_open_ 42 = .ok (.iconst 1, 1) := by decide +kernel
theorem dX3_open__43 : decode cX3_open_ 43 = .ok (.if_icmp .ne 20, 3) := by decide +kernel
theorem dX3_open__46 : decode cX3_open_ 46 = .ok (.aload_n 0, 1) := by decide +kernel
theorem dX3_open__47 : decode cX3_open_ 47 = .ok (.aload_n 0, 1) := by decide +kernel
theorem dX3_open__48 : decode cX3_open_ 48 = .ok (.getfield 95, 3) := by decide +kernel
theorem dX3_open__51 : decode cX3_open_ 51 = .ok (.aload_n 0, 1) := by decide +kernel
theorem dX3_open__52 : decode cX3_open_ 52 = .ok (.getfield 30, 3) := by decide +kernel
theorem dX3_open__55 : decode cX3_open_ 55 = .ok (.iconst 1, 1) := by decide +kernel
theorem dX3_open__56 : decode cX3_open_ 56 = .ok (.isub, 1) := by decide +kernel
theorem dX3_open__57 : decode cX3_open_ 57 = .ok (.invokevirtual 120, 3) := by decide +kernel
theorem dX3_open__60 : decode cX3_open_ 60 = .ok (.goto 32, 3) := by decide +kernel
theorem dX3_open__63 : decode cX3_open_ 63 = .ok (.aload_n 0, 1) := by decide +kernel
theorem dX3_open__64 : decode cX3_open_ 64 = .ok (.getfield 92, 3) := by decide +kernel
theorem dX3_open__67 : decode cX3_open_ 67 = .ok (.iconst 2, 1) := by decide +kernel
theorem dX3_open__68 : decode cX3_open_ 68 = .ok (.if_icmp .ne 16, 3) := by decide +kernel
theorem dX3_open__71 : decode cX3_open_ 71 = .ok (.aload_n 0, 1) := by decide +kernel
theorem dX3_open__72 : decode cX3_open_ 72 = .ok (.getfield 36, 3) := by decide +kernel
theorem dX3_open__75 : decode cX3_open_ 75 = .ok (.iconst 0, 1) := by decide +kernel
theorem dX3_open__76 : decode cX3_open_ 76 = .ok (.dup2, 1) := by decide +kernel
theorem dX3_open__77 : decode cX3_open_ 77 = .ok (.iaload, 1) := by decide +kernel
theorem dX3_open__78 : decode cX3_open_ 78 = .ok (.iconst 1, 1) := by decide +kernel
theorem dX3_open__79 : decode cX3_open_ 79 = .ok (.iadd, 1) := by decide +kernel
theorem dX3_open__80 : decode cX3_open_ 80 = .ok (.iastore, 1) := by decide +kernel
theorem dX3_open__81 : decode cX3_open_ 81 = .ok (.goto 11, 3) := by decide +kernel
theorem dX3_open__84 : decode cX3_open_ 84 = .ok (.aload_n 0, 1) := by decide +kernel
theorem dX3_open__85 : decode cX3_open_ 85 = .ok (.aload_n 0, 1) := by decide +kernel
theorem dX3_open__86 : decode cX3_open_ 86 = .ok (.getfield 95, 3) := by decide +kernel
theorem dX3_open__89 : decode cX3_open_ 89 = .ok (.invokevirtual 116, 3) := by decide +kernel
theorem dX3_open__92 : decode cX3_open_ 92 = .ok (.aload_n 0, 1) := by decide +kernel
theorem dX3_open__93 : decode cX3_open_ 93 = .ok (.getfield 36, 3) := by decide +kernel
theorem dX3_open__96 : decode cX3_open_ 96 = .ok (.iconst 3, 1) := by decide +kernel
theorem dX3_open__97 : decode cX3_open_ 97 = .ok (.dup2, 1) := by decide +kernel
theorem dX3_open__98 : decode cX3_open_ 98 = .ok (.iaload, 1) := by decide +kernel
theorem dX3_open__99 : decode cX3_open_ 99 = .ok (.iconst 1, 1) := by decide +kernel
theorem dX3_open__100 : decode cX3_open_ 100 = .ok (.iadd, 1) := by decide +kernel
theorem dX3_open__101 : decode cX3_open_ 101 = .ok (.iastore, 1) := by decide +kernel
theorem dX3_open__102 : decode cX3_open_ 102 = .ok (.iconst 2, 1) := by decide +kernel
theorem dX3_open__103 : decode cX3_open_ 103 = .ok (.ireturn, 1) := by decide +kernel
theorem dX3_remove_0 : decode cX3_remove 0 = .ok (.aload_n 0, 1) := by decide +kernel
theorem dX3_remove_1 : decode cX3_remove 1 = .ok (.iconst 0, 1) := by decide +kernel
theorem dX3_remove_2 : decode cX3_remove 2 = .ok (.putfield 55, 3) := by decide +kernel
theorem dX3_remove_5 : decode cX3_remove 5 = .ok (.aload_n 0, 1) := by decide +kernel
theorem dX3_remove_6 : decode cX3_remove 6 = .ok (.getfield 88, 3) := by decide +kernel
theorem dX3_remove_9 : decode cX3_remove 9 = .ok (.ifCond .eq 6, 3) := by decide +kernel
theorem dX3_remove_12 : decode cX3_remove 12 = .ok (.bipush (-5), 2) := by decide +kernel
theorem dX3_remove_14 : decode cX3_remove 14 = .ok (.ireturn, 1) := by decide +kernel
theorem dX3_remove_15 : decode cX3_remove 15 = .ok (.aload_n 0, 1) := by decide +kernel
theorem dX3_remove_16 : decode cX3_remove 16 = .ok (.lload_n 1, 1) := by decide +kernel
theorem dX3_remove_17 : decode cX3_remove 17 = .ok (.invokevirtual 101, 3) := by decide +kernel
theorem dX3_remove_20 : decode cX3_remove 20 = .ok (.ifCond .ne 5, 3) := by decide +kernel
theorem dX3_remove_23 : decode cX3_remove 23 = .ok (.iconst 0, 1) := by decide +kernel
theorem dX3_remove_24 : decode cX3_remove 24 = .ok (.ireturn, 1) := by decide +kernel
theorem dX3_remove_25 : decode cX3_remove 25 = .ok (.aload_n 0, 1) := by decide +kernel
theorem dX3_remove_26 : decode cX3_remove 26 = .ok (.lload_n 1, 1) := by decide +kernel
theorem dX3_remove_27 : decode cX3_remove 27 = .ok (.invokevirtual 61, 3) := by decide +kernel
theorem dX3_remove_30 : decode cX3_remove 30 = .ok (.istore_n 3, 1) := by decide +kernel
theorem dX3_remove_31 : decode cX3_remove 31 = .ok (.aload_n 0, 1) := by decide +kernel
theorem dX3_remove_32 : decode cX3_remove 32 = .ok (.getfield 17, 3) := by decide +kernel
theorem dX3_remove_35 : decode cX3_remove 35 = .ok (.iload_n 3, 1) := by decide +kernel
theorem dX3_remove_36 : decode cX3_remove 36 = .ok (.iaload, 1) := by decide +kernel
theorem dX3_remove_37 : decode cX3_remove 37 = .ok (.istore 4, 2) := by decide +kernel
theorem dX3_remove_39 : decode cX3_remove 39 = .ok (.aload_n 0, 1) := by decide +kernel
theorem dX3_remove_40 : decode cX3_remove 40 = .ok (.dup, 1) := by decide +kernel
theorem dX3_remove_41 : decode cX3_remove 41 = .ok (.getfield 58, 3) := by decide +kernel
theorem dX3_remove_44 : decode cX3_remove 44 = .ok (.iconst 1, 1) := by decide +kernel
theorem dX3_remove_45 : decode cX3_remove 45 = .ok (.isub, 1) := by decide +kernel
theorem dX3_remove_46 : decode cX3_remove 46 = .ok (.putfield 58, 3) := by decide +kernel
theorem dX3_remove_49 : decode cX3_remove 49 = .ok (.iload_n 3, 1) := by decide +kernel
theorem dX3_remove_50 : decode cX3_remove 50 = .ok (.istore 5, 2) := by decide +kernel
theorem dX3_remove_52 : decode cX3_remove 52 = .ok (.iload 5, 2) := by decide +kernel
theorem dX3_remove_54 : decode cX3_remove 54 = .ok (.aload_n 0, 1) := by decide +kernel
theorem dX3_remove_55 : decode cX3_remove 55 = .ok (.getfield 58, 3) := by decide +kernel
theorem dX3_remove_58 : decode cX3_remove 58 = .ok (.if_icmp .ge 57, 3) := by decide +kernel
theorem dX3_remove_61 : decode cX3_remove 61 = .ok (.aload_n 0, 1) := by decide +kernel
theorem dX3_remove_62 : decode cX3_remove 62 = .ok (.getfield 7, 3) := by decide +kernel
theorem dX3_remove_65 : decode cX3_remove 65 = .ok (.iload 5, 2) := by decide +kernel
theorem dX3_remove_67 : decode cX3_remove 67 = .ok (.aload_n 0, 1) := by decide +kernel
theorem dX3_remove_68 : decode cX3_remove 68 = .ok (.getfield 7, 3) := by decide +kernel
theorem dX3_remove_71 : decode cX3_remove 71 = .ok (.iload 5, 2) := by decide +kernel
theorem dX3_remove_73 : decode cX3_remove 73 = .ok (.iconst 1, 1) := by decide +kernel
theorem dX3_remove_74 : decode cX3_remove 74 = .ok (.iadd, 1) := by decide +kernel
theorem dX3_remove_75 : decode cX3_remove 75 = .ok (.laload, 1) := by decide +kernel
theorem dX3_remove_76 : decode cX3_remove 76 = .ok (.lastore, 1) := by decide +kernel
theorem dX3_remove_77 : decode cX3_remove 77 = .ok (.aload_n 0, 1) := by decide +kernel
theorem dX3_remove_78 : decode cX3_remove 78 = .ok (.getfield 13, 3) := by decide +kernel
theorem dX3_remove_81 : decode cX3_remove 81 = .ok (.iload 5, 2) := by decide +kernel
theorem dX3_remove_83 : decode cX3_remove 83 = .ok (.aload_n 0, 1) := by decide +kernel
theorem dX3_remove_84 : decode cX3_remove 84 = .ok (.getfield 13, 3) := by decide +kernel
theorem dX3_remove_87 : decode cX3_remove 87 = .ok (.iload 5, 2) := by decide +kernel
theorem dX3_remove_89 : decode cX3_remove 89 = .ok (.iconst 1, 1) := by decide +kernel
theorem dX3_remove_90 : decode cX3_remove 90 = .ok (.iadd, 1) := by decide +kernel
theorem dX3_remove_91 : decode cX3_remove 91 = .ok (.iaload, 1) := by decide +kernel
theorem dX3_remove_92 : decode cX3_remove 92 = .ok (.iastore, 1) := by decide +kernel
theorem dX3_remove_93 : decode cX3_remove 93 = .ok (.aload_n 0, 1) := by decide +kernel
theorem dX3_remove_94 : decode cX3_remove 94 = .ok (.getfield 17, 3) := by decide +kernel
theorem dX3_remove_97 : decode cX3_remove 97 = .ok (.iload 5, 2) := by decide +kernel
theorem dX3_remove_99 : decode cX3_remove 99 = .ok (.aload_n 0, 1) := by decide +kernel
theorem dX3_remove_100 : decode cX3_remove 100 = .ok (.getfield 17, 3) := by decide +kernel
theorem dX3_remove_103 : decode cX3_remove 103 = .ok (.iload 5, 2) := by decide +kernel
theorem dX3_remove_105 : decode cX3_remove 105 = .ok (.iconst 1, 1) := by decide +kernel
theorem dX3_remove_106 : decode cX3_remove 106 = .ok (.iadd, 1) := by decide +kernel
theorem dX3_remove_107 : decode cX3_remove 107 = .ok (.iaload, 1) := by decide +kernel
theorem dX3_remove_108 : decode cX3_remove 108 = .ok (.iastore, 1) := by decide +kernel
theorem dX3_remove_109 : decode cX3_remove 109 = .ok (.iinc 5 1, 3) := by decide +kernel
theorem dX3_remove_112 : decode cX3_remove 112 = .ok (.goto (-60), 3) := by decide +kernel
theorem dX3_remove_115 : decode cX3_remove 115 = .ok (.iconst 0, 1) := by decide +kernel
theorem dX3_remove_116 : decode cX3_remove 116 = .ok (.istore 5, 2) := by decide +kernel
theorem dX3_remove_118 : decode cX3_remove 118 = .ok (.aload_n 0, 1) := by decide +kernel
theorem dX3_remove_119 : decode cX3_remove 119 = .ok (.getfield 20, 3) := by decide +kernel
theorem dX3_remove_122 : decode cX3_remove 122 = .ok (.iload 5, 2) := by decide +kernel
theorem dX3_remove_124 : decode cX3_remove 124 = .ok (.iaload, 1) := by decide +kernel
theorem dX3_remove_125 : decode cX3_remove 125 = .ok (.iload 4, 2) := by decide +kernel
theorem dX3_remove_127 : decode cX3_remove 127 = .ok (.if_icmp .eq 9, 3) := by decide +kernel
theorem dX3_remove_130 : decode cX3_remove 130 = .ok (.iinc 5 1, 3) := by decide +kernel
theorem dX3_remove_133 : decode cX3_remove 133 = .ok (.goto (-15), 3) := by decide +kernel
theorem dX3_remove_136 : decode cX3_remove 136 = .ok (.aload_n 0, 1) := by decide +kernel
theorem dX3_remove_137 : decode cX3_remove 137 = .ok (.iload 5, 2) := by decide +kernel
theorem dX3_remove_139 : decode cX3_remove 139 = .ok (.invokevirtual 72, 3) := by decide +kernel
theorem dX3_remove_142 : decode cX3_remove 142 = .ok (.ifCond .gt 11, 3) := by decide +kernel
theorem dX3_remove_145 : decode cX3_remove 145 = .ok (.aload_n 0, 1) := by decide +kernel
theorem dX3_remove_146 : decode cX3_remove 146 = .ok (.getfield 26, 3) := by decide +kernel
theorem dX3_remove_149 : decode cX3_remove 149 = .ok (.iconst 1, 1) := by decide +kernel
theorem dX3_remove_150 : decode cX3_remove 150 = .ok (.if_icmp .ne 5, 3) := by decide +kernel
theorem dX3_remove_153 : decode cX3_remove 153 = .ok (.iconst 1, 1) := by decide +kernel
theorem dX3_remove_154 : decode cX3_remove 154 = .ok (.ireturn, 1) := by decide +kernel
theorem dX3_remove_155 : decode cX3_remove 155 = .ok (.aload_n 0, 1) := by decide +kernel
theorem dX3_remove_156 : decode cX3_remove 156 = .ok (.dup, 1) := by decide +kernel
theorem dX3_remove_157 : decode cX3_remove 157 = .ok (.getfield 26, 3) := by decide +kernel
theorem dX3_remove_160 : decode cX3_remove 160 = .ok (.iconst 1, 1) := by decide +kernel
theorem dX3_remove_161 : decode cX3_remove 161 = .ok (.isub, 1) := by decide +kernel
theorem dX3_remove_162 : decode cX3_remove 162 = .ok (.putfield 26, 3) := by decide +kernel
theorem dX3_remove_165 : decode cX3_remove 165 = .ok (.iload 5, 2) := by decide +kernel
theorem dX3_remove_167 : decode cX3_remove 167 = .ok (.istore 6, 2) := by decide +kernel
theorem dX3_remove_169 : decode cX3_remove 169 = .ok (.iload 6, 2) := by decide +kernel
theorem dX3_remove_171 : decode cX3_remove 171 = .ok (.aload_n 0, 1) := by decide +kernel
theorem dX3_remove_172 : decode cX3_remove 172 = .ok (.getfield 26, 3) := by decide +kernel
theorem dX3_remove_175 : decode cX3_remove 175 = .ok (.if_icmp .ge 41, 3) := by decide +kernel
theorem dX3_remove_178 : decode cX3_remove 178 = .ok (.aload_n 0, 1) := by decide +kernel
theorem dX3_remove_179 : decode cX3_remove 179 = .ok (.getfield 20, 3) := by decide +kernel
theorem dX3_remove_182 : decode cX3_remove 182 = .ok (.iload 6, 2) := by decide +kernel
theorem dX3_remove_184 : decode cX3_remove 184 = .ok (.aload_n 0, 1) := by decide +kernel
theorem dX3_remove_185 : decode cX3_remove 185 = .ok (.getfield 20, 3) := by decide +kernel
theorem dX3_remove_188 : decode cX3_remove 188 = .ok (.iload 6, 2) := by decide +kernel
theorem dX3_remove_190 : decode cX3_remove 190 = .ok (.iconst 1, 1) := by decide +kernel
theorem dX3_remove_191 : decode cX3_remove 191 = .ok (.iadd, 1) := by decide +kernel
theorem dX3_remove_192 : decode cX3_remove 192 = .ok (.iaload, 1) := by decide +kernel
theorem dX3_remove_193 : decode cX3_remove 193 = .ok (.iastore, 1) := by decide +kernel
theorem dX3_remove_194 : decode cX3_remove 194 = .ok (.aload_n 0, 1) := by decide +kernel
theorem dX3_remove_195 : decode cX3_remove 195 = .ok (.getfield 23, 3) := by decide +kernel
theorem dX3_remove_198 : decode cX3_remove 198 = .ok (.iload 6, 2) := by decide +kernel
theorem dX3_remove_200 : decode cX3_remove 200 = .ok (.aload_n 0, 1) := by decide +kernel
theorem dX3_remove_201 : decode cX3_remove 201 = .ok (.getfield 23, 3) := by decide +kernel
theorem dX3_remove_204 : decode cX3_remove 204 = .ok (.iload 6, 2) := by decide +kernel
theorem dX3_remove_206 : decode cX3_remove 206 = .ok (.iconst 1, 1) := by decide +kernel
theorem dX3_remove_207 : decode cX3_remove 207 = .ok (.iadd, 1) := by decide +kernel
theorem dX3_remove_208 : decode cX3_remove 208 = .ok (.iaload, 1) := by decide +kernel
theorem dX3_remove_209 : decode cX3_remove 209 = .ok (.iastore, 1) := by decide +kernel
theorem dX3_remove_210 : decode cX3_remove 210 = .ok (.iinc 6 1, 3) := by decide +kernel
theorem dX3_remove_213 : decode cX3_remove 213 = .ok (.goto (-44), 3) := by decide +kernel
theorem dX3_remove_216 : decode cX3_remove 216 = .ok (.iconst 1, 1) := by decide +kernel
theorem dX3_remove_217 : decode cX3_remove 217 = .ok (.ireturn, 1) := by decide +kernel
theorem dX3_reorganise_0 : decode cX3_reorganise 0 = .ok (.aload_n 0, 1) := by decide +kernel
theorem dX3_reorganise_1 : decode cX3_reorganise 1 = .ok (.iconst 0, 1) := by decide +kernel
theorem dX3_reorganise_2 : decode cX3_reorganise 2 = .ok (.putfield 55, 3) := by decide +kernel
theorem dX3_reorganise_5 : decode cX3_reorganise 5 = .ok (.aload_n 0, 1) := by decide +kernel
theorem dX3_reorganise_6 : decode cX3_reorganise 6 = .ok (.getfield 88, 3) := by decide +kernel
theorem dX3_reorganise_9 : decode cX3_reorganise 9 = .ok (.ifCond .eq 6, 3) := by decide +kernel
theorem dX3_reorganise_12 : decode cX3_reorganise 12 = .ok (.bipush (-5), 2) := by decide +kernel
theorem dX3_reorganise_14 : decode cX3_reorganise 14 = .ok (.ireturn, 1) := by decide +kernel
theorem dX3_reorganise_15 : decode cX3_reorganise 15 = .ok (.aload_n 0, 1) := by decide +kernel
theorem dX3_reorganise_16 : decode cX3_reorganise 16 = .ok (.iconst 0, 1) := by decide +kernel
theorem dX3_reorganise_17 : decode cX3_reorganise 17 = .ok (.putfield 26, 3) := by decide +kernel
theorem dX3_reorganise_20 : decode cX3_reorganise 20 = .ok (.iconst 0, 1) := by decide +kernel
theorem dX3_reorganise_21 : decode cX3_reorganise 21 = .ok (.istore_n 1, 1) := by decide +kernel
theorem dX3_reorganise_22 : decode cX3_reorganise 22 = .ok (.iconst 0, 1) := by decide +kernel
theorem dX3_reorganise_23 : decode cX3_reorganise 23 = .ok (.istore_n 2, 1) := by decide +kernel
theorem dX3_reorganise_24 : decode cX3_reorganise 24 = .ok (.aload_n 0, 1) := by decide +kernel
theorem dX3_reorganise_25 : decode cX3_reorganise 25 = .ok (.getfield 52, 3) := by decide +kernel
theorem dX3_reorganise_28 : decode cX3_reorganise 28 = .ok (.iconst 1, 1) := by decide +kernel
theorem dX3_reorganise_29 : decode cX3_reorganise 29 = .ok (.if_icmp .ge 7, 3) := by decide +kernel
theorem dX3_reorganise_32 : decode cX3_reorganise 32 = .ok (.iconst 1, 1) := by decide +kernel
theorem dX3_reorganise_33 : decode cX3_reorganise 33 = .ok (.goto 7, 3) := by decide +kernel
theorem dX3_reorganise_36 : decode cX3_reorganise 36 = .ok (.aload_n 0, 1) := by decide +kernel
theorem dX3_reorganise_37 : decode cX3_reorganise 37 = .ok (.getfield 52, 3) := by decide +kernel
theorem dX3_reorganise_40 : decode cX3_reorganise 40 = .ok (.istore_n 3, 1) := by decide +kernel
theorem dX3_reorganise_41 : decode cX3_reorganise 41 = .ok (.iconst 0, 1) := by decide +kernel
theorem dX3_reorganise_42 : decode cX3_reorganise 42 = .ok (.istore 4, 2) := by decide +kernel
theorem dX3_reorganise_44 : decode cX3_reorganise 44 = .ok (.iload 4, 2) := by decide +kernel
theorem dX3_reorganise_46 : decode cX3_reorganise 46 = .ok (.aload_n 0, 1) := by decide +kernel
theorem dX3_reorganise_47 : decode cX3_reorganise 47 = .ok (.getfield 58, 3) := by decide +kernel
theorem dX3_reorganise_50 : decode cX3_reorganise 50 = .ok (.if_icmp .lt 10, 3) := by decide +kernel
theorem dX3_reorganise_53 : decode cX3_reorganise 53 = .ok (.aload_n 0, 1) := by decide +kernel
theorem dX3_reorganise_54 : decode cX3_reorganise 54 = .ok (.getfield 26, 3) := by decide +kernel
theorem dX3_reorganise_57 : decode cX3_reorganise 57 = .ok (.ifCond .ne 164, 3) := by decide +kernel
theorem dX3_reorganise_60 : decode cX3_reorganise 60 = .ok (.aload_n 0, 1) := by decide +kernel
theorem dX3_reorganise_61 : decode cX3_reorganise 61 = .ok (.getfield 26, 3) := by decide +kernel
theorem dX3_reorganise_64 : decode cX3_reorganise 64 = .ok (.ifCond .eq 23, 3) := by decide +kernel
theorem dX3_reorganise_67 : decode cX3_reorganise 67 = .ok (.iload_n 2, 1) := by decide +kernel
theorem dX3_reorganise_68 : decode cX3_reorganise 68 = .ok (.ifCond .le 23, 3) := by decide +kernel
theorem dX3_reorganise_71 : decode cX3_reorganise 71 = .ok (.iload_n 1, 1) := by decide +kernel
theorem dX3_reorganise_72 : decode cX3_reorganise 72 = .ok (.aload_n 0, 1) := by decide +kernel
theorem dX3_reorganise_73 : decode cX3_reorganise 73 = .ok (.getfield 13, 3) := by decide +kernel
theorem dX3_reorganise_76 : decode cX3_reorganise 76 = .ok (.iload 4, 2) := by decide +kernel
theorem dX3_reorganise_78 : decode cX3_reorganise 78 = .ok (.iaload, 1) := by decide +kernel
theorem dX3_reorganise_79 : decode cX3_reorganise 79 = .ok (.iadd, 1) := by decide +kernel
theorem dX3_reorganise_80 : decode cX3_reorganise 80 = .ok (.aload_n 0, 1) := by decide +kernel
theorem dX3_reorganise_81 : decode cX3_reorganise 81 = .ok (.getfield 49, 3) := by decide +kernel
theorem dX3_reorganise_84 : decode cX3_reorganise 84 = .ok (.if_icmp .le 7, 3) := by decide +kernel
theorem dX3_reorganise_87 : decode cX3_reorganise 87 = .ok (.iconst 1, 1) := by decide +kernel
theorem dX3_reorganise_88 : decode cX3_reorganise 88 = .ok (.goto 4, 3) := by decide +kernel
theorem dX3_reorganise_91 : decode cX3_reorganise 91 = .ok (.iconst 0, 1) := by decide +kernel
theorem dX3_reorganise_92 : decode cX3_reorganise 92 = .ok (.istore 5, 2) := by decide +kernel
theorem dX3_reorganise_94 : decode cX3_reorganise 94 = .ok (.iload 5, 2) := by decide +kernel
theorem dX3_reorganise_96 : decode cX3_reorganise 96 = .ok (.ifCond .eq 76, 3) := by decide +kernel
theorem dX3_reorganise_99 : decode cX3_reorganise 99 = .ok (.aload_n 0, 1) := by decide +kernel
theorem dX3_reorganise_100 : decode cX3_reorganise 100 = .ok (.dup, 1) := by decide +kernel
theorem dX3_reorganise_101 : decode cX3_reorganise 101 = .ok (.getfield 33, 3) := by decide +kernel
theorem dX3_reorganise_104 : decode cX3_reorganise 104 = .ok (.aload_n 0, 1) := by decide +kernel
theorem dX3_reorganise_105 : decode cX3_reorganise 105 = .ok (.getfield 26, 3) := by decide +kernel
theorem dX3_reorganise_108 : decode cX3_reorganise 108 = .ok (.iload_n 3, 1) := by decide +kernel
theorem dX3_reorganise_109 : decode cX3_reorganise 109 = .ok (.irem, 1) := by decide +kernel
theorem dX3_reorganise_110 : decode cX3_reorganise 110 = .ok (.ifCond .ne 7, 3) := by decide +kernel
theorem dX3_reorganise_113 : decode cX3_reorganise 113 = .ok (.iconst 1, 1) := by decide +kernel
theorem dX3_reorganise_114 : decode cX3_reorganise 114 = .ok (.goto 4, 3) := by decide +kernel
theorem dX3_reorganise_117 : decode cX3_reorganise 117 = .ok (.iconst 0, 1) := by decide +kernel
theorem dX3_reorganise_118 : decode cX3_reorganise 118 = .ok (.iadd, 1) := by decide +kernel
theorem dX3_reorganise_119 : decode cX3_reorganise 119 = .ok (.putfield 33, 3) := by decide +kernel
theorem dX3_reorganise_122 : decode cX3_reorganise 122 = .ok (.aload_n 0, 1) := by decide +kernel
theorem dX3_reorganise_123 : decode cX3_reorganise 123 = .ok (.getfield 20, 3) := by decide +kernel
theorem dX3_reorganise_126 : decode cX3_reorganise 126 = .ok (.aload_n 0, 1) := by decide +kernel
theorem dX3_reorganise_127 : decode cX3_reorganise 127 = .ok (.getfield 26, 3) := by decide +kernel
theorem dX3_reorganise_130 : decode cX3_reorganise 130 = .ok (.aload_n 0, 1) := by decide +kernel
theorem dX3_reorganise_131 : decode cX3_reorganise 131 = .ok (.getfield 30, 3) := by decide +kernel
theorem dX3_reorganise_134 : decode cX3_reorganise 134 = .ok (.iastore, 1) := by decide +kernel
theorem dX3_reorganise_135 : decode cX3_reorganise 135 = .ok (.aload_n 0, 1) := by decide +kernel
theorem dX3_reorganise_136 : decode cX3_reorganise 136 = .ok (.getfield 23, 3) := by decide +kernel
theorem dX3_reorganise_139 : decode cX3_reorganise 139 = .ok (.aload_n 0, 1) := by decide +kernel
theorem dX3_reorganise_140 : decode cX3_reorganise 140 = .ok (.getfield 26, 3) := by decide +kernel
theorem dX3_reorganise_143 : decode cX3_reorganise 143 = .ok (.aload_n 0, 1) := by decide +kernel
theorem dX3_reorganise_144 : decode cX3_reorganise 144 = .ok (.getfield 33, 3) := by decide +kernel
theorem dX3_reorganise_147 : decode cX3_reorganise 147 = .ok (.iastore, 1) := by decide +kernel
theorem dX3_reorganise_148 : decode cX3_reorganise 148 = .ok (.aload_n 0, 1) := by decide +kernel
theorem dX3_reorganise_149 : decode cX3_reorganise 149 = .ok (.dup, 1) := by decide +kernel
theorem dX3_reorganise_150 : decode cX3_reorganise 150 = .ok (.getfield 26, 3) := by decide +kernel
theorem dX3_reorganise_153 : decode cX3_reorganise 153 = .ok (.iconst 1, 1) := by decide +kernel
theorem dX3_reorganise_154 : decode cX3_reorganise 154 = .ok (.iadd, 1) := by decide +kernel
theorem dX3_reorganise_155 : decode cX3_reorganise 155 = .ok (.putfield 26, 3) := by decide +kernel
theorem dX3_reorganise_158 : decode cX3_reorganise 158 = .ok (.aload_n 0, 1) := by decide +kernel
theorem dX3_reorganise_159 : decode cX3_reorganise 159 = .ok (.dup, 1) := by decide +kernel
theorem dX3_reorganise_160 : decode cX3_reorganise 160 = .ok (.getfield 30, 3) := by decide +kernel
theorem dX3_reorganise_163 : decode cX3_reorganise 163 = .ok (.iconst 1, 1) := by decide +kernel
theorem dX3_reorganise_164 : decode cX3_reorganise 164 = .ok (.iadd, 1) := by decide +kernel
theorem dX3_reorganise_165 : decode cX3_reorganise 165 = .ok (.putfield 30, 3) := by decide +kernel
theorem dX3_reorganise_168 : decode cX3_reorganise 168 = .ok (.iconst 0, 1) := by decide +kernel
theorem dX3_reorganise_169 : decode cX3_reorganise 169 = .ok (.istore_n 1, 1) := by decide +kernel
theorem dX3_reorganise_170 : decode cX3_reorganise 170 = .ok (.iconst 0, 1) := by decide +kernel
theorem dX3_reorganise_171 : decode cX3_reorganise 171 = .ok (.istore_n 2, 1) := by decide +kernel
theorem dX3_reorganise_172 : decode cX3_reorganise 172 = .ok (.iload 4, 2) := by decide +kernel
theorem dX3_reorganise_174 : decode cX3_reorganise 174 = .ok (.aload_n 0, 1) := by decide +kernel
theorem dX3_reorganise_175 : decode cX3_reorganise 175 = .ok (.getfield 58, 3) := by decide +kernel
theorem dX3_reorganise_178 : decode cX3_reorganise 178 = .ok (.if_icmp .lt 6, 3) := by decide +kernel
theorem dX3_reorganise_181 : decode cX3_reorganise 181 = .ok (.goto 34, 3) := by decide +kernel
theorem dX3_reorganise_184 : decode cX3_reorganise 184 = .ok (.aload_n 0, 1) := by decide +kernel
theorem dX3_reorganise_185 : decode cX3_reorganise 185 = .ok (.getfield 17, 3) := by decide +kernel
theorem dX3_reorganise_188 : decode cX3_reorganise 188 = .ok (.iload 4, 2) := by decide +kernel
theorem dX3_reorganise_190 : decode cX3_reorganise 190 = .ok (.aload_n 0, 1) := by decide +kernel
theorem dX3_reorganise_191 : decode cX3_reorganise 191 = .ok (.getfield 20, 3) := by decide +kernel
theorem dX3_reorganise_194 : decode cX3_reorganise 194 = .ok (.aload_n 0, 1) := by decide +kernel
theorem dX3_reorganise_195 : decode cX3_reorganise 195 = .ok (.getfield 26, 3) := by decide +kernel
theorem dX3_reorganise_198 : decode cX3_reorganise 198 = .ok (.iconst 1, 1) := by decide +kernel
theorem dX3_reorganise_199 : decode cX3_reorganise 199 = .ok (.isub, 1) := by decide +kernel
theorem dX3_reorganise_200 : decode cX3_reorganise 200 = .ok (.iaload, 1) := by decide +kernel
theorem dX3_reorganise_201 : decode cX3_reorganise 201 = .ok (.iastore, 1) := by decide +kernel
theorem dX3_reorganise_202 : decode cX3_reorganise 202 = .ok (.iload_n 1, 1) := by decide +kernel
theorem dX3_reorganise_203 : decode cX3_reorganise 203 = .ok (.aload_n 0, 1) := by decide +kernel
theorem dX3_reorganise_204 : decode cX3_reorganise 204 = .ok (.getfield 13, 3) := by decide +kernel
theorem dX3_reorganise_207 : decode cX3_reorganise 207 = .ok (.iload 4, 2) := by decide +kernel
theorem dX3_reorganise_209 : decode cX3_reorganise 209 = .ok (.iaload, 1) := by decide +kernel
theorem dX3_reorganise_210 : decode cX3_reorganise 210 = .ok (.iadd, 1) := by decide +kernel
theorem dX3_reorganise_211 : decode cX3_reorganise 211 = .ok (.istore_n 1, 1) := by decide +kernel
theorem dX3_reorganise_212 : decode cX3_reorganise 212 = .ok (.iinc 2 1, 3) := by decide +kernel
theorem dX3_reorganise_215 : decode cX3_reorganise 215 = .ok (.iinc 4 1, 3) := by decide +kernel
theorem dX3_reorganise_218 : decode cX3_reorganise 218 = .ok (.goto (-174), 3) := by decide +kernel
theorem dX3_reorganise_221 : decode cX3_reorganise 221 = .ok (.aload_n 0, 1) := by decide +kernel
theorem dX3_reorganise_222 : decode cX3_reorganise 222 = .ok (.getfield 26, 3) := by decide +kernel
theorem dX3_reorganise_225 : decode cX3_reorganise 225 = .ok (.ireturn, 1) := by decide +kernel
theorem dX3_find_0 : decode cX3_find 0 = .ok (.aload_n 0, 1) := by decide +kernel
theorem dX3_find_1 : decode cX3_find 1 = .ok (.iconst 0, 1) := by decide +kernel
theorem dX3_find_2 : decode cX3_find 2 = .ok (.putfield 55, 3) := by decide +kernel
theorem dX3_find_5 : decode cX3_find 5 = .ok (.aload_n 0, 1) := by decide +kernel
theorem dX3_find_6 : decode cX3_find 6 = .ok (.lload_n 1, 1) := by decide +kernel
theorem dX3_find_7 : decode cX3_find 7 = .ok (.invokevirtual 101, 3) := by decide +kernel
theorem dX3_find_10 : decode cX3_find 10 = .ok (.ifCond .eq 16, 3) := by decide +kernel
theorem dX3_find_13 : decode cX3_find 13 = .ok (.aload_n 0, 1) := by decide +kernel
theorem dX3_find_14 : decode cX3_find 14 = .ok (.getfield 17, 3) := by decide +kernel
theorem dX3_find_17 : decode cX3_find 17 = .ok (.aload_n 0, 1) := by decide +kernel
theorem dX3_find_18 : decode cX3_find 18 = .ok (.lload_n 1, 1) := by decide +kernel
theorem dX3_find_19 : decode cX3_find 19 = .ok (.invokevirtual 61, 3) := by decide +kernel
theorem dX3_find_22 : decode cX3_find 22 = .ok (.iaload, 1) := by decide +kernel
theorem dX3_find_23 : decode cX3_find 23 = .ok (.goto 4, 3) := by decide +kernel
theorem dX3_find_26 : decode cX3_find 26 = .ok (.iconst (-1), 1) := by decide +kernel
theorem dX3_find_27 : decode cX3_find 27 = .ok (.ireturn, 1) := by decide +kernel
theorem dX3_next_0 : decode cX3_next 0 = .ok (.aload_n 0, 1) := by decide +kernel
theorem dX3_next_1 : decode cX3_next 1 = .ok (.iconst 0, 1) := by decide +kernel
theorem dX3_next_2 : decode cX3_next 2 = .ok (.putfield 55, 3) := by decide +kernel
theorem dX3_next_5 : decode cX3_next 5 = .ok (.aload_n 0, 1) := by decide +kernel
theorem dX3_next_6 : decode cX3_next 6 = .ok (.lload_n 1, 1) := by decide +kernel
theorem dX3_next_7 : decode cX3_next 7 = .ok (.invokevirtual 61, 3) := by decide +kernel
theorem dX3_next_10 : decode cX3_next 10 = .ok (.aload_n 0, 1) := by decide +kernel
theorem dX3_next_11 : decode cX3_next 11 = .ok (.lload_n 1, 1) := by decide +kernel
theorem dX3_next_12 : decode cX3_next 12 = .ok (.invokevirtual 101, 3) := by decide +kernel
theorem dX3_next_15 : decode cX3_next 15 = .ok (.ifCond .eq 7, 3) := by decide +kernel
theorem dX3_next_18 : decode cX3_next 18 = .ok (.iconst 1, 1) := by decide +kernel
theorem dX3_next_19 : decode cX3_next 19 = .ok (.goto 4, 3) := by decide +kernel
theorem dX3_next_22 : decode cX3_next 22 = .ok (.iconst 0, 1) := by decide +kernel
theorem dX3_next_23 : decode cX3_next 23 = .ok (.iadd, 1) := by decide +kernel
theorem dX3_next_24 : decode cX3_next 24 = .ok (.istore_n 3, 1) := by decide +kernel
theorem dX3_next_25 : decode cX3_next 25 = .ok (.iload_n 3, 1) := by decide +kernel
theorem dX3_next_26 : decode cX3_next 26 = .ok (.aload_n 0, 1) := by decide +kernel
theorem dX3_next_27 : decode cX3_next 27 = .ok (.getfield 58, 3) := by decide +kernel
theorem dX3_next_30 : decode cX3_next 30 = .ok (.if_icmp .ge 7, 3) := by decide +kernel
theorem dX3_next_33 : decode cX3_next 33 = .ok (.iload_n 3, 1) := by decide +kernel
theorem dX3_next_34 : decode cX3_next 34 = .ok (.goto 4, 3) := by decide +kernel
theorem dX3_next_37 : decode cX3_next 37 = .ok (.iconst (-1), 1) := by decide +kernel
theorem dX3_next_38 : decode cX3_next 38 = .ok (.ireturn, 1) := by decide +kernel
theorem dX3_areaOf_0 : decode cX3_areaOf 0 = .ok (.iconst 0, 1) := by decide +kernel
theorem dX3_areaOf_1 : decode cX3_areaOf 1 = .ok (.istore_n 2, 1) := by decide +kernel
theorem dX3_areaOf_2 : decode cX3_areaOf 2 = .ok (.iconst 1, 1) := by decide +kernel
theorem dX3_areaOf_3 : decode cX3_areaOf 3 = .ok (.istore_n 3, 1) := by decide +kernel
theorem dX3_areaOf_4 : decode cX3_areaOf 4 = .ok (.iload_n 3, 1) := by decide +kernel
theorem dX3_areaOf_5 : decode cX3_areaOf 5 = .ok (.iload_n 1, 1) := by decide +kernel
theorem dX3_areaOf_6 : decode cX3_areaOf 6 = .ok (.if_icmp .gt 34, 3) := by decide +kernel
theorem dX3_areaOf_9 : decode cX3_areaOf 9 = .ok (.iload_n 2, 1) := by decide +kernel
theorem dX3_areaOf_10 : decode cX3_areaOf 10 = .ok (.aload_n 0, 1) := by decide +kernel
theorem dX3_areaOf_11 : decode cX3_areaOf 11 = .ok (.getfield 23, 3) := by decide +kernel
theorem dX3_areaOf_14 : decode cX3_areaOf 14 = .ok (.iload_n 3, 1) := by decide +kernel
theorem dX3_areaOf_15 : decode cX3_areaOf 15 = .ok (.iaload, 1) := by decide +kernel
theorem dX3_areaOf_16 : decode cX3_areaOf 16 = .ok (.aload_n 0, 1) := by decide +kernel
theorem dX3_areaOf_17 : decode cX3_areaOf 17 = .ok (.getfield 23, 3) := by decide +kernel
theorem dX3_areaOf_20 : decode cX3_areaOf 20 = .ok (.iload_n 3, 1) := by decide +kernel
theorem dX3_areaOf_21 : decode cX3_areaOf 21 = .ok (.iconst 1, 1) := by decide +kernel
theorem dX3_areaOf_22 : decode cX3_areaOf 22 = .ok (.isub, 1) := by decide +kernel
theorem dX3_areaOf_23 : decode cX3_areaOf 23 = .ok (.iaload, 1) := by decide +kernel
theorem dX3_areaOf_24 : decode cX3_areaOf 24 = .ok (.if_icmp .eq 7, 3) := by decide +kernel
theorem dX3_areaOf_27 : decode cX3_areaOf 27 = .ok (.iconst 1, 1) := by decide +kernel
theorem dX3_areaOf_28 : decode cX3_areaOf 28 = .ok (.goto 4, 3) := by decide +kernel
theorem dX3_areaOf_31 : decode cX3_areaOf 31 = .ok (.iconst 0, 1) := by decide +kernel
theorem dX3_areaOf_32 : decode cX3_areaOf 32 = .ok (.iadd, 1) := by decide +kernel
theorem dX3_areaOf_33 : decode cX3_areaOf 33 = .ok (.istore_n 2, 1) := by decide +kernel
theorem dX3_areaOf_34 : decode cX3_areaOf 34 = .ok (.iinc 3 1, 3) := by decide +kernel
theorem dX3_areaOf_37 : decode cX3_areaOf 37 = .ok (.goto (-33), 3) := by decide +kernel
theorem dX3_areaOf_40 : decode cX3_areaOf 40 = .ok (.iload_n 2, 1) := by decide +kernel
theorem dX3_areaOf_41 : decode cX3_areaOf 41 = .ok (.ireturn, 1) := by decide +kernel
theorem dX3_interval_0 : decode cX3_interval 0 = .ok (.aload_n 0, 1) := by decide +kernel
theorem dX3_interval_1 : decode cX3_interval 1 = .ok (.iconst 0, 1) := by decide +kernel
theorem dX3_interval_2 : decode cX3_interval 2 = .ok (.putfield 55, 3) := by decide +kernel
theorem dX3_interval_5 : decode cX3_interval 5 = .ok (.iload_n 1, 1) := by decide +kernel
theorem dX3_interval_6 : decode cX3_interval 6 = .ok (.ifCond .lt 11, 3) := by decide +kernel
theorem dX3_interval_9 : decode cX3_interval 9 = .ok (.iload_n 1, 1) := by decide +kernel
theorem dX3_interval_10 : decode cX3_interval 10 = .ok (.aload_n 0, 1) := by decide +kernel
theorem dX3_interval_11 : decode cX3_interval 11 = .ok (.getfield 26, 3) := by decide +kernel
theorem dX3_interval_14 : decode cX3_interval 14 = .ok (.if_icmp .lt 5, 3) := by decide +kernel
theorem dX3_interval_17 : decode cX3_interval 17 = .ok (.iconst (-1), 1) := by decide +kernel
theorem dX3_interval_18 : decode cX3_interval 18 = .ok (.ireturn, 1) := by decide +kernel
theorem dX3_interval_19 : decode cX3_interval 19 = .ok (.iload_n 2, 1) := by decide +kernel
theorem dX3_interval_20 : decode cX3_interval 20 = .ok (.tableswitch 57 0 3 #[32, 39, 45, 51], 32) := by decide +kernel
theorem dX3_interval_52 : decode cX3_interval 52 = .ok (.aload_n 0, 1) := by decide +kernel
theorem dX3_interval_53 : decode cX3_interval 53 = .ok (.getfield 20, 3) := by decide +kernel
theorem dX3_interval_56 : decode cX3_interval 56 = .ok (.iload_n 1, 1) := by decide +kernel
theorem dX3_interval_57 : decode cX3_interval 57 = .ok (.iaload, 1) := by decide +kernel
theorem dX3_interval_58 : decode cX3_interval 58 = .ok (.ireturn, 1) := by decide +kernel
theorem dX3_interval_59 : decode cX3_interval 59 = .ok (.aload_n 0, 1) := by decide +kernel
theorem dX3_interval_60 : decode cX3_interval 60 = .ok (.iload_n 1, 1) := by decide +kernel
theorem dX3_interval_61 : decode cX3_interval 61 = .ok (.invokevirtual 72, 3) := by decide +kernel
theorem dX3_interval_64 : decode cX3_interval 64 = .ok (.ireturn, 1) := by decide +kernel
theorem dX3_interval_65 : decode cX3_interval 65 = .ok (.aload_n 0, 1) := by decide +kernel
theorem dX3_interval_66 : decode cX3_interval 66 = .ok (.iload_n 1, 1) := by decide +kernel
theorem dX3_interval_67 : decode cX3_interval 67 = .ok (.invokevirtual 69, 3) := by decide +kernel
theorem dX3_interval_70 : decode cX3_interval 70 = .ok (.ireturn, 1) := by decide +kernel
theorem dX3_interval_71 : decode cX3_interval 71 = .ok (.aload_n 0, 1) := by decide +kernel
theorem dX3_interval_72 : decode cX3_interval 72 = .ok (.iload_n 1, 1) := by decide +kernel
theorem dX3_interval_73 : decode cX3_interval 73 = .ok (.invokevirtual 124, 3) := by decide +kernel
theorem dX3_interval_76 : decode cX3_interval 76 = .ok (.ireturn, 1) := by decide +kernel
theorem dX3_interval_77 : decode cX3_interval 77 = .ok (.iconst (-1), 1) := by decide +kernel
theorem dX3_interval_78 : decode cX3_interval 78 = .ok (.ireturn, 1) := by decide +kernel
theorem dX3_split_0 : decode cX3_split 0 = .ok (.aload_n 0, 1) := by decide +kernel
theorem dX3_split_1 : decode cX3_split 1 = .ok (.iconst 0, 1) := by decide +kernel
theorem dX3_split_2 : decode cX3_split 2 = .ok (.putfield 55, 3) := by decide +kernel
theorem dX3_split_5 : decode cX3_split 5 = .ok (.iload_n 1, 1) := by decide +kernel
theorem dX3_split_6 : decode cX3_split 6 = .ok (.ifCond .lt 17, 3) := by decide +kernel
theorem dX3_split_9 : decode cX3_split 9 = .ok (.iload_n 1, 1) := by decide +kernel
theorem dX3_split_10 : decode cX3_split 10 = .ok (.iconst 4, 1) := by decide +kernel
theorem dX3_split_11 : decode cX3_split 11 = .ok (.if_icmp .ge 12, 3) := by decide +kernel
theorem dX3_split_14 : decode cX3_split 14 = .ok (.aload_n 0, 1) := by decide +kernel
theorem dX3_split_15 : decode cX3_split 15 = .ok (.getfield 36, 3) := by decide +kernel
theorem dX3_split_18 : decode cX3_split 18 = .ok (.iload_n 1, 1) := by decide +kernel
theorem dX3_split_19 : decode cX3_split 19 = .ok (.iaload, 1) := by decide +kernel
theorem dX3_split_20 : decode cX3_split 20 = .ok (.goto 4, 3) := by decide +kernel
theorem dX3_split_23 : decode cX3_split 23 = .ok (.iconst (-1), 1) := by decide +kernel
theorem dX3_split_24 : decode cX3_split 24 = .ok (.ireturn, 1) := by decide +kernel
theorem dX3_index_0 : decode cX3_index 0 = .ok (.iload_n 2, 1) := by decide +kernel
theorem dX3_index_1 : decode cX3_index 1 = .ok (.ifCond .lt 38, 3) := by decide +kernel
theorem dX3_index_4 : decode cX3_index 4 = .ok (.iload_n 1, 1) := by decide +kernel
theorem dX3_index_5 : decode cX3_index 5 = .ok (.ifCond .ne 11, 3) := by decide +kernel
theorem dX3_index_8 : decode cX3_index 8 = .ok (.iload_n 2, 1) := by decide +kernel
theorem dX3_index_9 : decode cX3_index 9 = .ok (.aload_n 0, 1) := by decide +kernel
theorem dX3_index_10 : decode cX3_index 10 = .ok (.getfield 26, 3) := by decide +kernel
theorem dX3_index_13 : decode cX3_index 13 = .ok (.if_icmp .lt 22, 3) := by decide +kernel
theorem dX3_index_16 : decode cX3_index 16 = .ok (.iload_n 1, 1) := by decide +kernel
theorem dX3_index_17 : decode cX3_index 17 = .ok (.iconst 1, 1) := by decide +kernel
theorem dX3_index_18 : decode cX3_index 18 = .ok (.if_icmp .ne 21, 3) := by decide +kernel
theorem dX3_index_21 : decode cX3_index 21 = .ok (.iload_n 2, 1) := by decide +kernel
theorem dX3_index_22 : decode cX3_index 22 = .ok (.aload_n 0, 1) := by decide +kernel
theorem dX3_index_23 : decode cX3_index 23 = .ok (.aload_n 0, 1) := by decide +kernel
theorem dX3_index_24 : decode cX3_index 24 = .ok (.getfield 26, 3) := by decide +kernel
theorem dX3_index_27 : decode cX3_index 27 = .ok (.iconst 1, 1) := by decide +kernel
theorem dX3_index_28 : decode cX3_index 28 = .ok (.isub, 1) := by decide +kernel
theorem dX3_index_29 : decode cX3_index 29 = .ok (.invokevirtual 124, 3) := by decide +kernel
theorem dX3_index_32 : decode cX3_index 32 = .ok (.if_icmp .gt 7, 3) := by decide +kernel
theorem dX3_index_35 : decode cX3_index 35 = .ok (.iconst 1, 1) := by decide +kernel
theorem dX3_index_36 : decode cX3_index 36 = .ok (.goto 4, 3) := by decide +kernel
theorem dX3_index_39 : decode cX3_index 39 = .ok (.iconst 0, 1) := by decide +kernel
theorem dX3_index_40 : decode cX3_index 40 = .ok (.istore_n 3, 1) := by decide +kernel
theorem dX3_index_41 : decode cX3_index 41 = .ok (.aload_n 0, 1) := by decide +kernel
theorem dX3_index_42 : decode cX3_index 42 = .ok (.iload_n 3, 1) := by decide +kernel
theorem dX3_index_43 : decode cX3_index 43 = .ok (.ifCond .eq 7, 3) := by decide +kernel
theorem dX3_index_46 : decode cX3_index 46 = .ok (.iconst 0, 1) := by decide +kernel
theorem dX3_index_47 : decode cX3_index 47 = .ok (.goto 4, 3) := by decide +kernel
theorem dX3_index_50 : decode cX3_index 50 = .ok (.iconst 1, 1) := by decide +kernel
theorem dX3_index_51 : decode cX3_index 51 = .ok (.putfield 55, 3) := by decide +kernel
theorem dX3_index_54 : decode cX3_index 54 = .ok (.iload_n 3, 1) := by decide +kernel
theorem dX3_index_55 : decode cX3_index 55 = .ok (.ifCond .ne 5, 3) := by decide +kernel
theorem dX3_index_58 : decode cX3_index 58 = .ok (.iconst 0, 1) := by decide +kernel
theorem dX3_index_59 : decode cX3_index 59 = .ok (.ireturn, 1) := by decide +kernel
theorem dX3_index_60 : decode cX3_index 60 = .ok (.iload_n 2, 1) := by decide +kernel
theorem dX3_index_61 : decode cX3_index 61 = .ok (.istore 4, 2) := by decide +kernel
theorem dX3_index_63 : decode cX3_index 63 = .ok (.iload_n 1, 1) := by decide +kernel
theorem dX3_index_64 : decode cX3_index 64 = .ok (.iconst 1, 1) := by decide +kernel
theorem dX3_index_65 : decode cX3_index 65 = .ok (.if_icmp .ne 22, 3) := by decide +kernel
theorem dX3_index_68 : decode cX3_index 68 = .ok (.iconst 0, 1) := by decide +kernel
theorem dX3_index_69 : decode cX3_index 69 = .ok (.istore 4, 2) := by decide +kernel
theorem dX3_index_71 : decode cX3_index 71 = .ok (.aload_n 0, 1) := by decide +kernel
theorem dX3_index_72 : decode cX3_index 72 = .ok (.iload 4, 2) := by decide +kernel
theorem dX3_index_74 : decode cX3_index 74 = .ok (.invokevirtual 124, 3) := by decide +kernel
theorem dX3_index_77 : decode cX3_index 77 = .ok (.iload_n 2, 1) := by decide +kernel
theorem dX3_index_78 : decode cX3_index 78 = .ok (.if_icmp .ge 9, 3) := by decide +kernel
theorem dX3_index_81 : decode cX3_index 81 = .ok (.iinc 4 1, 3) := by decide +kernel
theorem dX3_index_84 : decode cX3_index 84 = .ok (.goto (-13), 3) := by decide +kernel
theorem dX3_index_87 : decode cX3_index 87 = .ok (.aload_n 0, 1) := by decide +kernel
theorem dX3_index_88 : decode cX3_index 88 = .ok (.iload 4, 2) := by decide +kernel
theorem dX3_index_90 : decode cX3_index 90 = .ok (.invokevirtual 65, 3) := by decide +kernel
theorem dX3_index_93 : decode cX3_index 93 = .ok (.istore 5, 2) := by decide +kernel
theorem dX3_index_95 : decode cX3_index 95 = .ok (.iload 5, 2) := by decide +kernel
theorem dX3_index_97 : decode cX3_index 97 = .ok (.iconst (-1), 1) := by decide +kernel
theorem dX3_index_98 : decode cX3_index 98 = .ok (.if_icmp .ne 7, 3) := by decide +kernel
theorem dX3_index_101 : decode cX3_index 101 = .ok (.iconst 0, 1) := by decide +kernel
theorem dX3_index_102 : decode cX3_index 102 = .ok (.goto 11, 3) := by decide +kernel
theorem dX3_index_105 : decode cX3_index 105 = .ok (.aload_n 0, 1) := by decide +kernel
theorem dX3_index_106 : decode cX3_index 106 = .ok (.getfield 7, 3) := by decide +kernel
theorem dX3_index_109 : decode cX3_index 109 = .ok (.iload 5, 2) := by decide +kernel
theorem dX3_index_111 : decode cX3_index 111 = .ok (.laload, 1) := by decide +kernel
theorem dX3_index_112 : decode cX3_index 112 = .ok (.l2i, 1) := by decide +kernel
theorem dX3_index_113 : decode cX3_index 113 = .ok (.ireturn, 1) := by decide +kernel
theorem dX3_verify_0 : decode cX3_verify 0 = .ok (.aload_n 0, 1) := by decide +kernel
theorem dX3_verify_1 : decode cX3_verify 1 = .ok (.iconst 0, 1) := by decide +kernel
theorem dX3_verify_2 : decode cX3_verify 2 = .ok (.putfield 55, 3) := by decide +kernel
theorem dX3_verify_5 : decode cX3_verify 5 = .ok (.iconst 0, 1) := by decide +kernel
theorem dX3_verify_6 : decode cX3_verify 6 = .ok (.ireturn, 1) := by decide +kernel
theorem dX3_order_0 : decode cX3_order 0 = .ok (.aload_n 0, 1) := by decide +kernel
theorem dX3_order_1 : decode cX3_order 1 = .ok (.iconst 0, 1) := by decide +kernel
theorem dX3_order_2 : decode cX3_order 2 = .ok (.putfield 55, 3) := by decide +kernel
theorem dX3_order_5 : decode cX3_order 5 = .ok (.iload_n 1, 1) := by decide +kernel
theorem dX3_order_6 : decode cX3_order 6 = .ok (.ifCond .lt 20, 3) := by decide +kernel
theorem dX3_order_9 : decode cX3_order 9 = .ok (.iload_n 1, 1) := by decide +kernel
theorem dX3_order_10 : decode cX3_order 10 = .ok (.aload_n 0, 1) := by decide +kernel
theorem dX3_order_11 : decode cX3_order 11 = .ok (.getfield 58, 3) := by decide +kernel
theorem dX3_order_14 : decode cX3_order 14 = .ok (.if_icmp .ge 12, 3) := by decide +kernel
theorem dX3_order_17 : decode cX3_order 17 = .ok (.aload_n 0, 1) := by decide +kernel
theorem dX3_order_18 : decode cX3_order 18 = .ok (.getfield 7, 3) := by decide +kernel
theorem dX3_order_21 : decode cX3_order 21 = .ok (.iload_n 1, 1) := by decide +kernel
theorem dX3_order_22 : decode cX3_order 22 = .ok (.laload, 1) := by decide +kernel
theorem dX3_order_23 : decode cX3_order 23 = .ok (.goto 4, 3) := by decide +kernel
theorem dX3_order_26 : decode cX3_order 26 = .ok (.lconst 0, 1) := by decide +kernel
theorem dX3_order_27 : decode cX3_order 27 = .ok (.lreturn, 1) := by decide +kernel
theorem dX3_count_0 : decode cX3_count 0 = .ok (.aload_n 0, 1) := by decide +kernel
theorem dX3_count_1 : decode cX3_count 1 = .ok (.iconst 0, 1) := by decide +kernel
theorem dX3_count_2 : decode cX3_count 2 = .ok (.putfield 55, 3) := by decide +kernel
theorem dX3_count_5 : decode cX3_count 5 = .ok (.iconst 0, 1) := by decide +kernel
theorem dX3_count_6 : decode cX3_count 6 = .ok (.istore_n 2, 1) := by decide +kernel
theorem dX3_count_7 : decode cX3_count 7 = .ok (.iconst 0, 1) := by decide +kernel
theorem dX3_count_8 : decode cX3_count 8 = .ok (.istore_n 3, 1) := by decide +kernel
theorem dX3_count_9 : decode cX3_count 9 = .ok (.iload_n 3, 1) := by decide +kernel
theorem dX3_count_10 : decode cX3_count 10 = .ok (.aload_n 0, 1) := by decide +kernel
theorem dX3_count_11 : decode cX3_count 11 = .ok (.getfield 58, 3) := by decide +kernel
theorem dX3_count_14 : decode cX3_count 14 = .ok (.if_icmp .ge 18, 3) := by decide +kernel
theorem dX3_count_17 : decode cX3_count 17 = .ok (.iload_n 2, 1) := by decide +kernel
theorem dX3_count_18 : decode cX3_count 18 = .ok (.aload_n 0, 1) := by decide +kernel
theorem dX3_count_19 : decode cX3_count 19 = .ok (.getfield 13, 3) := by decide +kernel
theorem dX3_count_22 : decode cX3_count 22 = .ok (.iload_n 3, 1) := by decide +kernel
theorem dX3_count_23 : decode cX3_count 23 = .ok (.iaload, 1) := by decide +kernel
theorem dX3_count_24 : decode cX3_count 24 = .ok (.iadd, 1) := by decide +kernel
theorem dX3_count_25 : decode cX3_count 25 = .ok (.istore_n 2, 1) := by decide +kernel
theorem dX3_count_26 : decode cX3_count 26 = .ok (.iinc 3 1, 3) := by decide +kernel
theorem dX3_count_29 : decode cX3_count 29 = .ok (.goto (-20), 3) := by decide +kernel
theorem dX3_count_32 : decode cX3_count 32 = .ok (.iload_n 1, 1) := by decide +kernel
theorem dX3_count_33 : decode cX3_count 33 = .ok (.tableswitch 82 0 5 #[39, 44, 49, 62, 75, 80], 39) := by decide +kernel
theorem dX3_count_72 : decode cX3_count 72 = .ok (.aload_n 0, 1) := by decide +kernel
theorem dX3_count_73 : decode cX3_count 73 = .ok (.getfield 58, 3) := by decide +kernel
theorem dX3_count_76 : decode cX3_count 76 = .ok (.ireturn, 1) := by decide +kernel
theorem dX3_count_77 : decode cX3_count 77 = .ok (.aload_n 0, 1) := by decide +kernel
theorem dX3_count_78 : decode cX3_count 78 = .ok (.getfield 26, 3) := by decide +kernel
theorem dX3_count_81 : decode cX3_count 81 = .ok (.ireturn, 1) := by decide +kernel
theorem dX3_count_82 : decode cX3_count 82 = .ok (.aload_n 0, 1) := by decide +kernel
theorem dX3_count_83 : decode cX3_count 83 = .ok (.aload_n 0, 1) := by decide +kernel
theorem dX3_count_84 : decode cX3_count 84 = .ok (.getfield 26, 3) := by decide +kernel
theorem dX3_count_87 : decode cX3_count 87 = .ok (.iconst 1, 1) := by decide +kernel
theorem dX3_count_88 : decode cX3_count 88 = .ok (.isub, 1) := by decide +kernel
theorem dX3_count_89 : decode cX3_count 89 = .ok (.invokevirtual 124, 3) := by decide +kernel
theorem dX3_count_92 : decode cX3_count 92 = .ok (.iconst 1, 1) := by decide +kernel
theorem dX3_count_93 : decode cX3_count 93 = .ok (.iadd, 1) := by decide +kernel
theorem dX3_count_94 : decode cX3_count 94 = .ok (.ireturn, 1) := by decide +kernel
theorem dX3_count_95 : decode cX3_count 95 = .ok (.aload_n 0, 1) := by decide +kernel
theorem dX3_count_96 : decode cX3_count 96 = .ok (.getfield 88, 3) := by decide +kernel
theorem dX3_count_99 : decode cX3_count 99 = .ok (.ifCond .eq 7, 3) := by decide +kernel
theorem dX3_count_102 : decode cX3_count 102 = .ok (.iconst 1, 1) := by decide +kernel
theorem dX3_count_103 : decode cX3_count 103 = .ok (.goto 4, 3) := by decide +kernel
theorem dX3_count_106 : decode cX3_count 106 = .ok (.iconst 0, 1) := by decide +kernel
theorem dX3_count_107 : decode cX3_count 107 = .ok (.ireturn, 1) := by decide +kernel
theorem dX3_count_108 : decode cX3_count 108 = .ok (.aload_n 0, 1) := by decide +kernel
theorem dX3_count_109 : decode cX3_count 109 = .ok (.getfield 30, 3) := by decide +kernel
theorem dX3_count_112 : decode cX3_count 112 = .ok (.ireturn, 1) := by decide +kernel
theorem dX3_count_113 : decode cX3_count 113 = .ok (.iload_n 2, 1) := by decide +kernel
theorem dX3_count_114 : decode cX3_count 114 = .ok (.ireturn, 1) := by decide +kernel
theorem dX3_count_115 : decode cX3_count 115 = .ok (.iconst (-1), 1) := by decide +kernel
theorem dX3_count_116 : decode cX3_count 116 = .ok (.ireturn, 1) := by decide +kernel
end
section
/-! the words that every method stands on: the good ones of the tables, by their places -/
def LT : List Cond := lw_tbl.filter goodWord
theorem LT_in : ∀ w ∈ LT, w ∈ lw_tbl := fun _ h => (List.mem_filter.mp h).1
theorem LT_good : ∀ w ∈ LT, (w.onTables && w.keeps) = true ∨ ∃ ty, w = .arrayClass ty := fun _ h => good_of_word (List.mem_filter.mp h).2
theorem gLT {w : Cond} (h : w ∈ LT) : GoodIn LT (w :: LT) := fun u hu => (List.mem_cons.mp hu).elim (fun e => by subst e; exact ⟨h, LT_good _ h⟩) (fun hu => ⟨hu, LT_good _ hu⟩)
theorem mT {w : Cond} (i : Nat) (h : tables_1[i]? = some w) (hg : goodWord w = true) : w ∈ LT := List.mem_filter.mpr ⟨List.mem_append_right _ (List.mem_of_getElem? h), hg⟩
theorem mS {q : MethodName × Nat} (i : Nat) (h : lw_privs[i]? = some q) (hg : goodWord (Cond.selects q.1.cls q.1 q.1) = true) : Cond.selects q.1.cls q.1 q.1 ∈ LT := List.mem_filter.mpr ⟨List.mem_append_left _ (List.mem_map.mpr ⟨q, List.mem_of_getElem? h, rfl⟩), hg⟩
theorem tw_0 : Cond.initialized "IntervalSplitsLaw" ∈ LT := mT 0 (by rfl) (by rfl)
theorem tw_1 : Cond.initialized "IntervalSplits" ∈ LT := mT 1 (by rfl) (by rfl)
theorem tw_2 : Cond.initialized "IntervalSplits$Row" ∈ LT := mT 2 (by rfl) (by rfl)
theorem tw_3 : Cond.initialized "java/lang/Math" ∈ LT := mT 3 (by rfl) (by rfl)
theorem tw_4 : Cond.initialized "java/lang/Enum" ∈ LT := mT 4 (by rfl) (by rfl)
theorem tw_5 : Cond.initialized "IntervalSplits$Kind" ∈ LT := mT 5 (by rfl) (by rfl)
theorem tw_6 : Cond.initialized "java/lang/System" ∈ LT := mT 6 (by rfl) (by rfl)
theorem tw_7 : Cond.initialized "IntervalSplitsModel" ∈ LT := mT 7 (by rfl) (by rfl)
theorem tw_8 : Cond.initialized "java/lang/Throwable" ∈ LT := mT 8 (by rfl) (by rfl)
theorem tw_9 : Cond.initialized "java/lang/Exception" ∈ LT := mT 9 (by rfl) (by rfl)
theorem tw_10 : Cond.initialized "java/lang/RuntimeException" ∈ LT := mT 10 (by rfl) (by rfl)
theorem tw_11 : Cond.initialized "java/lang/IndexOutOfBoundsException" ∈ LT := mT 11 (by rfl) (by rfl)
theorem tw_12 : Cond.initialized "java/lang/ArrayIndexOutOfBoundsException" ∈ LT := mT 12 (by rfl) (by rfl)
theorem tw_13 : Cond.classLink "IntervalSplitsLaw" 8 "IntervalSplits" ∈ LT := mT 13 (by rfl) (by rfl)
theorem tw_14 : Cond.instantiable "IntervalSplits" 19 ∈ LT := mT 14 (by rfl) (by rfl)
theorem tw_15 : Cond.methodLink "IntervalSplitsLaw" 21 ⟨"IntervalSplits", "<init>", "(IIII)V"⟩ ∈ LT := mT 15 (by rfl) (by rfl)
theorem tw_16 : Cond.instanceMethod ⟨"IntervalSplits", "<init>", "(IIII)V"⟩ ∈ LT := mT 16 (by rfl) (by rfl)
theorem tw_17 : Cond.code ⟨"IntervalSplits", "<init>", "(IIII)V"⟩ prog_1_method_1_code 7 none ∈ LT := mT 17 (by rfl) (by rfl)
theorem tw_18 : Cond.methodLink "IntervalSplits" 3 ⟨"java/lang/Object", "<init>", "()V"⟩ ∈ LT := mT 18 (by rfl) (by rfl)
theorem tw_19 : Cond.instanceMethod ⟨"java/lang/Object", "<init>", "()V"⟩ ∈ LT := mT 19 (by rfl) (by rfl)
theorem tw_20 : Cond.code ⟨"java/lang/Object", "<init>", "()V"⟩ object_method_1_code 1 none ∈ LT := mT 20 (by rfl) (by rfl)
theorem tw_21 : Cond.classLink "IntervalSplits" 9 "IntervalSplits$Row" ∈ LT := mT 21 (by rfl) (by rfl)
theorem tw_22 : Cond.instantiable "IntervalSplits$Row" 2 ∈ LT := mT 22 (by rfl) (by rfl)
theorem tw_24 : Cond.instanceMethod ⟨"IntervalSplits$Row", "<init>", "(I)V"⟩ ∈ LT := mT 24 (by rfl) (by rfl)
theorem tw_25 : Cond.code ⟨"IntervalSplits$Row", "<init>", "(I)V"⟩ prog_3_method_1_code 2 none ∈ LT := mT 25 (by rfl) (by rfl)
theorem tw_26 : Cond.methodLink "IntervalSplits$Row" 1 ⟨"java/lang/Object", "<init>", "()V"⟩ ∈ LT := mT 26 (by rfl) (by rfl)
theorem tw_27 : Cond.methodLink "IntervalSplits$Row" 13 ⟨"java/lang/Math", "max", "(II)I"⟩ ∈ LT := mT 27 (by rfl) (by rfl)
theorem tw_28 : Cond.static ⟨"java/lang/Math", "max", "(II)I"⟩ ∈ LT := mT 28 (by rfl) (by rfl)
theorem tw_29 : Cond.code ⟨"java/lang/Math", "max", "(II)I"⟩ prog_10_method_65_code 2 (some FieldType.int) ∈ LT := mT 29 (by rfl) (by rfl)
theorem tw_30 : Cond.fieldLink "IntervalSplits$Row" 19 "IntervalSplits$Row" "cells" "[J" ∈ LT := mT 30 (by rfl) (by rfl)
theorem tw_31 : Cond.fieldLink "IntervalSplits$Row" 7 "IntervalSplits$Row" "size" "I" ∈ LT := mT 31 (by rfl) (by rfl)
theorem tw_33 : Cond.laysFinal "IntervalSplits$Row" "IntervalSplits$Row" "cells" "[J" ∈ LT := mT 33 (by rfl) (by rfl)
theorem tw_35 : Cond.lays "IntervalSplits$Row" "IntervalSplits$Row" "size" "I" ∈ LT := mT 35 (by rfl) (by rfl)
theorem tw_37 : Cond.superclass "IntervalSplits$Row" "java/lang/Object" ∈ LT := mT 37 (by rfl) (by rfl)
theorem tw_38 : Cond.arrayClass FieldType.long ∈ LT := mT 38 (by rfl) (by rfl)
theorem tw_39 : Cond.fieldLink "IntervalSplits" 44 "IntervalSplits$Kind" "HALVES" "LIntervalSplits$Kind;" ∈ LT := mT 39 (by rfl) (by rfl)
theorem tw_41 : Cond.methodLink "IntervalSplits" 68 ⟨"IntervalSplits", "heldTo", "(III)I"⟩ ∈ LT := mT 41 (by rfl) (by rfl)
theorem tw_42 : Cond.static ⟨"IntervalSplits", "heldTo", "(III)I"⟩ ∈ LT := mT 42 (by rfl) (by rfl)
theorem tw_43 : Cond.code ⟨"IntervalSplits", "heldTo", "(III)I"⟩ prog_1_method_15_code 3 (some FieldType.int) ∈ LT := mT 43 (by rfl) (by rfl)
theorem tw_44 : Cond.methodLink "IntervalSplits" 161 ⟨"java/lang/Math", "min", "(II)I"⟩ ∈ LT := mT 44 (by rfl) (by rfl)
theorem tw_45 : Cond.static ⟨"java/lang/Math", "min", "(II)I"⟩ ∈ LT := mT 45 (by rfl) (by rfl)
theorem tw_46 : Cond.code ⟨"java/lang/Math", "min", "(II)I"⟩ prog_10_method_69_code 2 (some FieldType.int) ∈ LT := mT 46 (by rfl) (by rfl)
theorem tw_47 : Cond.methodLink "IntervalSplits" 81 ⟨"java/lang/Math", "max", "(II)I"⟩ ∈ LT := mT 47 (by rfl) (by rfl)
theorem tw_48 : Cond.methodLink "IntervalSplits" 90 ⟨"IntervalSplits", "layInterval", "(I)V"⟩ ∈ LT := mT 48 (by rfl) (by rfl)
theorem tw_50 : Cond.instanceMethod ⟨"IntervalSplits", "layInterval", "(I)V"⟩ ∈ LT := mT 50 (by rfl) (by rfl)
theorem tw_51 : Cond.code ⟨"IntervalSplits", "layInterval", "(I)V"⟩ prog_1_method_32_code 3 none ∈ LT := mT 51 (by rfl) (by rfl)
theorem tw_52 : Cond.methodLink "IntervalSplits" 188 ⟨"IntervalSplits", "takeNumber", "()I"⟩ ∈ LT := mT 52 (by rfl) (by rfl)
theorem tw_54 : Cond.instanceMethod ⟨"IntervalSplits", "takeNumber", "()I"⟩ ∈ LT := mT 54 (by rfl) (by rfl)
theorem tw_55 : Cond.code ⟨"IntervalSplits", "takeNumber", "()I"⟩ prog_1_method_23_code 2 (some FieldType.int) ∈ LT := mT 55 (by rfl) (by rfl)
theorem tw_58 : Cond.instanceMethod ⟨"IntervalSplits$Row", "insertAt", "(IJ)V"⟩ ∈ LT := mT 58 (by rfl) (by rfl)
theorem tw_59 : Cond.code ⟨"IntervalSplits$Row", "insertAt", "(IJ)V"⟩ prog_3_method_6_code 4 none ∈ LT := mT 59 (by rfl) (by rfl)
theorem tw_60 : Cond.methodLink "IntervalSplits$Row" 27 ⟨"java/lang/System", "arraycopy", "(Ljava/lang/Object;ILjava/lang/Object;II)V"⟩ ∈ LT := mT 60 (by rfl) (by rfl)
theorem tw_61 : Cond.static ⟨"java/lang/System", "arraycopy", "(Ljava/lang/Object;ILjava/lang/Object;II)V"⟩ ∈ LT := mT 61 (by rfl) (by rfl)
theorem tw_62 : Cond.native ⟨"java/lang/System", "arraycopy", "(Ljava/lang/Object;ILjava/lang/Object;II)V"⟩ ∈ LT := mT 62 (by rfl) (by rfl)
theorem tw_65 : Cond.instanceMethod ⟨"IntervalSplits$Row", "intAt", "(I)I"⟩ ∈ LT := mT 65 (by rfl) (by rfl)
theorem tw_66 : Cond.code ⟨"IntervalSplits$Row", "intAt", "(I)I"⟩ prog_3_method_4_code 2 (some FieldType.int) ∈ LT := mT 66 (by rfl) (by rfl)
theorem tw_67 : Cond.methodLink "IntervalSplits$Row" 23 ⟨"IntervalSplits$Row", "at", "(I)J"⟩ ∈ LT := mT 67 (by rfl) (by rfl)
theorem tw_69 : Cond.instanceMethod ⟨"IntervalSplits$Row", "at", "(I)J"⟩ ∈ LT := mT 69 (by rfl) (by rfl)
theorem tw_70 : Cond.code ⟨"IntervalSplits$Row", "at", "(I)J"⟩ prog_3_method_3_code 2 (some FieldType.long) ∈ LT := mT 70 (by rfl) (by rfl)
theorem tw_73 : Cond.instanceMethod ⟨"IntervalSplits$Row", "raise", "(II)V"⟩ ∈ LT := mT 73 (by rfl) (by rfl)
theorem tw_74 : Cond.code ⟨"IntervalSplits$Row", "raise", "(II)V"⟩ prog_3_method_5_code 3 none ∈ LT := mT 74 (by rfl) (by rfl)
theorem tw_75 : Cond.fieldLink "IntervalSplits" 72 "IntervalSplits" "room" "I" ∈ LT := mT 75 (by rfl) (by rfl)
theorem tw_76 : Cond.fieldLink "IntervalSplits" 75 "IntervalSplits" "width" "I" ∈ LT := mT 76 (by rfl) (by rfl)
theorem tw_77 : Cond.fieldLink "IntervalSplits" 78 "IntervalSplits" "laidRoom" "I" ∈ LT := mT 77 (by rfl) (by rfl)
theorem tw_78 : Cond.fieldLink "IntervalSplits" 87 "IntervalSplits" "laidWidth" "I" ∈ LT := mT 78 (by rfl) (by rfl)
theorem tw_79 : Cond.fieldLink "IntervalSplits" 14 "IntervalSplits" "keys" "LIntervalSplits$Row;" ∈ LT := mT 79 (by rfl) (by rfl)
theorem tw_80 : Cond.fieldLink "IntervalSplits" 18 "IntervalSplits" "lengths" "LIntervalSplits$Row;" ∈ LT := mT 80 (by rfl) (by rfl)
theorem tw_81 : Cond.fieldLink "IntervalSplits" 21 "IntervalSplits" "numbers" "LIntervalSplits$Row;" ∈ LT := mT 81 (by rfl) (by rfl)
theorem tw_82 : Cond.fieldLink "IntervalSplits" 24 "IntervalSplits" "sizes" "LIntervalSplits$Row;" ∈ LT := mT 82 (by rfl) (by rfl)
theorem tw_83 : Cond.fieldLink "IntervalSplits" 27 "IntervalSplits" "spans" "LIntervalSplits$Row;" ∈ LT := mT 83 (by rfl) (by rfl)
theorem tw_84 : Cond.fieldLink "IntervalSplits" 30 "IntervalSplits" "nextNumber" "I" ∈ LT := mT 84 (by rfl) (by rfl)
theorem tw_85 : Cond.fieldLink "IntervalSplits" 34 "IntervalSplits" "toldCut" "I" ∈ LT := mT 85 (by rfl) (by rfl)
theorem tw_86 : Cond.fieldLink "IntervalSplits" 37 "IntervalSplits" "closed" "Z" ∈ LT := mT 86 (by rfl) (by rfl)
theorem tw_87 : Cond.fieldLink "IntervalSplits" 41 "IntervalSplits" "cutHasRow" "Z" ∈ LT := mT 87 (by rfl) (by rfl)
theorem tw_88 : Cond.fieldLink "IntervalSplits" 50 "IntervalSplits" "cutKind" "LIntervalSplits$Kind;" ∈ LT := mT 88 (by rfl) (by rfl)
theorem tw_89 : Cond.fieldLink "IntervalSplits" 53 "IntervalSplits" "cutPlace" "I" ∈ LT := mT 89 (by rfl) (by rfl)
theorem tw_90 : Cond.fieldLink "IntervalSplits" 56 "IntervalSplits" "intervalSplits" "I" ∈ LT := mT 90 (by rfl) (by rfl)
theorem tw_91 : Cond.fieldLink "IntervalSplits" 59 "IntervalSplits" "areaSplits" "I" ∈ LT := mT 91 (by rfl) (by rfl)
theorem tw_92 : Cond.fieldLink "IntervalSplits" 62 "IntervalSplits" "undoneSplits" "I" ∈ LT := mT 92 (by rfl) (by rfl)
theorem tw_93 : Cond.fieldLink "IntervalSplits" 65 "IntervalSplits" "finishedSplits" "I" ∈ LT := mT 93 (by rfl) (by rfl)
theorem tw_94 : Cond.laysFinal "IntervalSplits" "IntervalSplits" "room" "I" ∈ LT := mT 94 (by rfl) (by rfl)
theorem tw_96 : Cond.laysFinal "IntervalSplits" "IntervalSplits" "width" "I" ∈ LT := mT 96 (by rfl) (by rfl)
theorem tw_98 : Cond.laysFinal "IntervalSplits" "IntervalSplits" "laidRoom" "I" ∈ LT := mT 98 (by rfl) (by rfl)
theorem tw_100 : Cond.laysFinal "IntervalSplits" "IntervalSplits" "laidWidth" "I" ∈ LT := mT 100 (by rfl) (by rfl)
theorem tw_102 : Cond.laysFinal "IntervalSplits" "IntervalSplits" "keys" "LIntervalSplits$Row;" ∈ LT := mT 102 (by rfl) (by rfl)
theorem tw_104 : Cond.laysFinal "IntervalSplits" "IntervalSplits" "lengths" "LIntervalSplits$Row;" ∈ LT := mT 104 (by rfl) (by rfl)
theorem tw_106 : Cond.laysFinal "IntervalSplits" "IntervalSplits" "numbers" "LIntervalSplits$Row;" ∈ LT := mT 106 (by rfl) (by rfl)
theorem tw_108 : Cond.laysFinal "IntervalSplits" "IntervalSplits" "sizes" "LIntervalSplits$Row;" ∈ LT := mT 108 (by rfl) (by rfl)
theorem tw_110 : Cond.laysFinal "IntervalSplits" "IntervalSplits" "spans" "LIntervalSplits$Row;" ∈ LT := mT 110 (by rfl) (by rfl)
theorem tw_112 : Cond.lays "IntervalSplits" "IntervalSplits" "nextNumber" "I" ∈ LT := mT 112 (by rfl) (by rfl)
theorem tw_114 : Cond.lays "IntervalSplits" "IntervalSplits" "toldCut" "I" ∈ LT := mT 114 (by rfl) (by rfl)
theorem tw_116 : Cond.lays "IntervalSplits" "IntervalSplits" "closed" "Z" ∈ LT := mT 116 (by rfl) (by rfl)
theorem tw_118 : Cond.lays "IntervalSplits" "IntervalSplits" "cutHasRow" "Z" ∈ LT := mT 118 (by rfl) (by rfl)
theorem tw_120 : Cond.lays "IntervalSplits" "IntervalSplits" "cutKind" "LIntervalSplits$Kind;" ∈ LT := mT 120 (by rfl) (by rfl)
theorem tw_122 : Cond.lays "IntervalSplits" "IntervalSplits" "cutPlace" "I" ∈ LT := mT 122 (by rfl) (by rfl)
theorem tw_124 : Cond.lays "IntervalSplits" "IntervalSplits" "intervalSplits" "I" ∈ LT := mT 124 (by rfl) (by rfl)
theorem tw_126 : Cond.lays "IntervalSplits" "IntervalSplits" "areaSplits" "I" ∈ LT := mT 126 (by rfl) (by rfl)
theorem tw_128 : Cond.lays "IntervalSplits" "IntervalSplits" "undoneSplits" "I" ∈ LT := mT 128 (by rfl) (by rfl)
theorem tw_130 : Cond.lays "IntervalSplits" "IntervalSplits" "finishedSplits" "I" ∈ LT := mT 130 (by rfl) (by rfl)
theorem tw_132 : Cond.superclass "IntervalSplits" "java/lang/Object" ∈ LT := mT 132 (by rfl) (by rfl)
theorem tw_133 : Cond.methodLink "IntervalSplitsLaw" 29 ⟨"IntervalSplits", "put", "(JI)I"⟩ ∈ LT := mT 133 (by rfl) (by rfl)
theorem tw_134 : Cond.instanceMethod ⟨"IntervalSplits", "put", "(JI)I"⟩ ∈ LT := mT 134 (by rfl) (by rfl)
theorem tw_135 : Cond.selects "IntervalSplits" ⟨"IntervalSplits", "put", "(JI)I"⟩ ⟨"IntervalSplits", "put", "(JI)I"⟩ ∈ LT := mT 135 (by rfl) (by rfl)
theorem tw_136 : Cond.code ⟨"IntervalSplits", "put", "(JI)I"⟩ prog_1_method_2_code 4 (some FieldType.int) ∈ LT := mT 136 (by rfl) (by rfl)
theorem tw_137 : Cond.methodLink "IntervalSplits" 93 ⟨"IntervalSplits", "positionOf", "(J)I"⟩ ∈ LT := mT 137 (by rfl) (by rfl)
theorem tw_139 : Cond.instanceMethod ⟨"IntervalSplits", "positionOf", "(J)I"⟩ ∈ LT := mT 139 (by rfl) (by rfl)
theorem tw_140 : Cond.code ⟨"IntervalSplits", "positionOf", "(J)I"⟩ prog_1_method_17_code 4 (some FieldType.int) ∈ LT := mT 140 (by rfl) (by rfl)
theorem tw_141 : Cond.methodLink "IntervalSplits" 111 ⟨"IntervalSplits", "notGreaterThan", "(J)I"⟩ ∈ LT := mT 141 (by rfl) (by rfl)
theorem tw_143 : Cond.instanceMethod ⟨"IntervalSplits", "notGreaterThan", "(J)I"⟩ ∈ LT := mT 143 (by rfl) (by rfl)
theorem tw_144 : Cond.code ⟨"IntervalSplits", "notGreaterThan", "(J)I"⟩ prog_1_method_16_code 4 (some FieldType.int) ∈ LT := mT 144 (by rfl) (by rfl)
theorem tw_146 : Cond.methodLink "IntervalSplits" 100 ⟨"IntervalSplits", "place", "(JI)Z"⟩ ∈ LT := mT 146 (by rfl) (by rfl)
theorem tw_148 : Cond.instanceMethod ⟨"IntervalSplits", "place", "(JI)Z"⟩ ∈ LT := mT 148 (by rfl) (by rfl)
theorem tw_149 : Cond.code ⟨"IntervalSplits", "place", "(JI)Z"⟩ prog_1_method_20_code 7 (some FieldType.boolean) ∈ LT := mT 149 (by rfl) (by rfl)
theorem tw_152 : Cond.instanceMethod ⟨"IntervalSplits$Row", "groupOf", "(I)I"⟩ ∈ LT := mT 152 (by rfl) (by rfl)
theorem tw_153 : Cond.code ⟨"IntervalSplits$Row", "groupOf", "(I)I"⟩ prog_3_method_9_code 4 (some FieldType.int) ∈ LT := mT 153 (by rfl) (by rfl)
theorem tw_154 : Cond.methodLink "IntervalSplits" 128 ⟨"IntervalSplits", "lengthsIn", "(I)I"⟩ ∈ LT := mT 154 (by rfl) (by rfl)
theorem tw_156 : Cond.instanceMethod ⟨"IntervalSplits", "lengthsIn", "(I)I"⟩ ∈ LT := mT 156 (by rfl) (by rfl)
theorem tw_157 : Cond.code ⟨"IntervalSplits", "lengthsIn", "(I)I"⟩ prog_1_method_18_code 3 (some FieldType.int) ∈ LT := mT 157 (by rfl) (by rfl)
theorem tw_160 : Cond.instanceMethod ⟨"IntervalSplits$Row", "sum", "(II)I"⟩ ∈ LT := mT 160 (by rfl) (by rfl)
theorem tw_161 : Cond.code ⟨"IntervalSplits$Row", "sum", "(II)I"⟩ prog_3_method_8_code 6 (some FieldType.int) ∈ LT := mT 161 (by rfl) (by rfl)
theorem tw_162 : Cond.methodLink "IntervalSplits" 164 ⟨"IntervalSplits", "insertRecord", "(IJI)V"⟩ ∈ LT := mT 162 (by rfl) (by rfl)
theorem tw_164 : Cond.instanceMethod ⟨"IntervalSplits", "insertRecord", "(IJI)V"⟩ ∈ LT := mT 164 (by rfl) (by rfl)
theorem tw_165 : Cond.code ⟨"IntervalSplits", "insertRecord", "(IJI)V"⟩ prog_1_method_21_code 6 none ∈ LT := mT 165 (by rfl) (by rfl)
theorem tw_166 : Cond.methodLink "IntervalSplits" 168 ⟨"IntervalSplits", "kindOfSplit", "(I)LIntervalSplits$Kind;"⟩ ∈ LT := mT 166 (by rfl) (by rfl)
theorem tw_168 : Cond.instanceMethod ⟨"IntervalSplits", "kindOfSplit", "(I)LIntervalSplits$Kind;"⟩ ∈ LT := mT 168 (by rfl) (by rfl)
theorem tw_169 : Cond.code ⟨"IntervalSplits", "kindOfSplit", "(I)LIntervalSplits$Kind;"⟩ prog_1_method_22_code 2 (some (FieldType.object "IntervalSplits$Kind")) ∈ LT := mT 169 (by rfl) (by rfl)
theorem tw_170 : Cond.fieldLink "IntervalSplits" 182 "IntervalSplits$Kind" "AREA" "LIntervalSplits$Kind;" ∈ LT := mT 170 (by rfl) (by rfl)
theorem tw_172 : Cond.fieldLink "IntervalSplits" 176 "IntervalSplits$Kind" "OWN" "LIntervalSplits$Kind;" ∈ LT := mT 172 (by rfl) (by rfl)
theorem tw_174 : Cond.methodLink "IntervalSplits" 172 ⟨"IntervalSplits", "closeAhead", "(LIntervalSplits$Kind;I)V"⟩ ∈ LT := mT 174 (by rfl) (by rfl)
theorem tw_176 : Cond.instanceMethod ⟨"IntervalSplits", "closeAhead", "(LIntervalSplits$Kind;I)V"⟩ ∈ LT := mT 176 (by rfl) (by rfl)
theorem tw_177 : Cond.code ⟨"IntervalSplits", "closeAhead", "(LIntervalSplits$Kind;I)V"⟩ prog_1_method_30_code 3 none ∈ LT := mT 177 (by rfl) (by rfl)
theorem tw_178 : Cond.methodLink "IntervalSplits" 179 ⟨"IntervalSplits", "giveOwnInterval", "(IJI)V"⟩ ∈ LT := mT 178 (by rfl) (by rfl)
theorem tw_180 : Cond.instanceMethod ⟨"IntervalSplits", "giveOwnInterval", "(IJI)V"⟩ ∈ LT := mT 180 (by rfl) (by rfl)
theorem tw_181 : Cond.code ⟨"IntervalSplits", "giveOwnInterval", "(IJI)V"⟩ prog_1_method_27_code 7 none ∈ LT := mT 181 (by rfl) (by rfl)
theorem tw_182 : Cond.methodLink "IntervalSplits" 201 ⟨"IntervalSplits", "insertInterval", "(IIII)V"⟩ ∈ LT := mT 182 (by rfl) (by rfl)
theorem tw_184 : Cond.instanceMethod ⟨"IntervalSplits", "insertInterval", "(IIII)V"⟩ ∈ LT := mT 184 (by rfl) (by rfl)
theorem tw_185 : Cond.code ⟨"IntervalSplits", "insertInterval", "(IIII)V"⟩ prog_1_method_28_code 5 none ∈ LT := mT 185 (by rfl) (by rfl)
theorem tw_186 : Cond.methodLink "IntervalSplits" 185 ⟨"IntervalSplits", "splitArea", "(I)V"⟩ ∈ LT := mT 186 (by rfl) (by rfl)
theorem tw_188 : Cond.instanceMethod ⟨"IntervalSplits", "splitArea", "(I)V"⟩ ∈ LT := mT 188 (by rfl) (by rfl)
theorem tw_189 : Cond.code ⟨"IntervalSplits", "splitArea", "(I)V"⟩ prog_1_method_24_code 3 none ∈ LT := mT 189 (by rfl) (by rfl)
theorem tw_190 : Cond.methodLink "IntervalSplits" 191 ⟨"IntervalSplits", "halveInterval", "(II)V"⟩ ∈ LT := mT 190 (by rfl) (by rfl)
theorem tw_192 : Cond.instanceMethod ⟨"IntervalSplits", "halveInterval", "(II)V"⟩ ∈ LT := mT 192 (by rfl) (by rfl)
theorem tw_193 : Cond.code ⟨"IntervalSplits", "halveInterval", "(II)V"⟩ prog_1_method_25_code 5 none ∈ LT := mT 193 (by rfl) (by rfl)
theorem tw_194 : Cond.methodLink "IntervalSplits" 198 ⟨"IntervalSplits", "keptByHalving", "(I)I"⟩ ∈ LT := mT 194 (by rfl) (by rfl)
theorem tw_196 : Cond.instanceMethod ⟨"IntervalSplits", "keptByHalving", "(I)I"⟩ ∈ LT := mT 196 (by rfl) (by rfl)
theorem tw_197 : Cond.code ⟨"IntervalSplits", "keptByHalving", "(I)I"⟩ prog_1_method_26_code 7 (some FieldType.int) ∈ LT := mT 197 (by rfl) (by rfl)
theorem tw_198 : Cond.methodLink "IntervalSplitsLaw" 34 ⟨"IntervalSplits", "find", "(J)I"⟩ ∈ LT := mT 198 (by rfl) (by rfl)
theorem tw_199 : Cond.instanceMethod ⟨"IntervalSplits", "find", "(J)I"⟩ ∈ LT := mT 199 (by rfl) (by rfl)
theorem tw_200 : Cond.selects "IntervalSplits" ⟨"IntervalSplits", "find", "(J)I"⟩ ⟨"IntervalSplits", "find", "(J)I"⟩ ∈ LT := mT 200 (by rfl) (by rfl)
theorem tw_201 : Cond.code ⟨"IntervalSplits", "find", "(J)I"⟩ prog_1_method_3_code 4 (some FieldType.int) ∈ LT := mT 201 (by rfl) (by rfl)
theorem tw_202 : Cond.methodLink "IntervalSplitsLaw" 39 ⟨"IntervalSplits", "next", "(J)I"⟩ ∈ LT := mT 202 (by rfl) (by rfl)
theorem tw_203 : Cond.instanceMethod ⟨"IntervalSplits", "next", "(J)I"⟩ ∈ LT := mT 203 (by rfl) (by rfl)
theorem tw_204 : Cond.selects "IntervalSplits" ⟨"IntervalSplits", "next", "(J)I"⟩ ⟨"IntervalSplits", "next", "(J)I"⟩ ∈ LT := mT 204 (by rfl) (by rfl)
theorem tw_205 : Cond.code ⟨"IntervalSplits", "next", "(J)I"⟩ prog_1_method_4_code 4 (some FieldType.int) ∈ LT := mT 205 (by rfl) (by rfl)
theorem tw_206 : Cond.methodLink "IntervalSplitsLaw" 43 ⟨"IntervalSplits", "remove", "(J)I"⟩ ∈ LT := mT 206 (by rfl) (by rfl)
theorem tw_207 : Cond.instanceMethod ⟨"IntervalSplits", "remove", "(J)I"⟩ ∈ LT := mT 207 (by rfl) (by rfl)
theorem tw_208 : Cond.selects "IntervalSplits" ⟨"IntervalSplits", "remove", "(J)I"⟩ ⟨"IntervalSplits", "remove", "(J)I"⟩ ∈ LT := mT 208 (by rfl) (by rfl)
theorem tw_209 : Cond.code ⟨"IntervalSplits", "remove", "(J)I"⟩ prog_1_method_5_code 5 (some FieldType.int) ∈ LT := mT 209 (by rfl) (by rfl)
theorem tw_212 : Cond.instanceMethod ⟨"IntervalSplits$Row", "deleteAt", "(I)V"⟩ ∈ LT := mT 212 (by rfl) (by rfl)
theorem tw_213 : Cond.code ⟨"IntervalSplits$Row", "deleteAt", "(I)V"⟩ prog_3_method_7_code 2 none ∈ LT := mT 213 (by rfl) (by rfl)
theorem tw_214 : Cond.methodLink "IntervalSplits" 121 ⟨"IntervalSplits", "dropInterval", "(I)V"⟩ ∈ LT := mT 214 (by rfl) (by rfl)
theorem tw_216 : Cond.instanceMethod ⟨"IntervalSplits", "dropInterval", "(I)V"⟩ ∈ LT := mT 216 (by rfl) (by rfl)
theorem tw_217 : Cond.code ⟨"IntervalSplits", "dropInterval", "(I)V"⟩ prog_1_method_29_code 3 none ∈ LT := mT 217 (by rfl) (by rfl)
theorem tw_218 : Cond.methodLink "IntervalSplitsLaw" 47 ⟨"IntervalSplits", "interval", "(II)I"⟩ ∈ LT := mT 218 (by rfl) (by rfl)
theorem tw_219 : Cond.instanceMethod ⟨"IntervalSplits", "interval", "(II)I"⟩ ∈ LT := mT 219 (by rfl) (by rfl)
theorem tw_220 : Cond.selects "IntervalSplits" ⟨"IntervalSplits", "interval", "(II)I"⟩ ⟨"IntervalSplits", "interval", "(II)I"⟩ ∈ LT := mT 220 (by rfl) (by rfl)
theorem tw_221 : Cond.code ⟨"IntervalSplits", "interval", "(II)I"⟩ prog_1_method_6_code 3 (some FieldType.int) ∈ LT := mT 221 (by rfl) (by rfl)
theorem tw_224 : Cond.instanceMethod ⟨"IntervalSplits$Row", "holds", "(I)Z"⟩ ∈ LT := mT 224 (by rfl) (by rfl)
theorem tw_225 : Cond.code ⟨"IntervalSplits$Row", "holds", "(I)Z"⟩ prog_3_method_2_code 2 (some FieldType.boolean) ∈ LT := mT 225 (by rfl) (by rfl)
theorem tw_226 : Cond.methodLink "IntervalSplitsLaw" 51 ⟨"IntervalSplits", "cut", "(I)I"⟩ ∈ LT := mT 226 (by rfl) (by rfl)
theorem tw_227 : Cond.instanceMethod ⟨"IntervalSplits", "cut", "(I)I"⟩ ∈ LT := mT 227 (by rfl) (by rfl)
theorem tw_228 : Cond.selects "IntervalSplits" ⟨"IntervalSplits", "cut", "(I)I"⟩ ⟨"IntervalSplits", "cut", "(I)I"⟩ ∈ LT := mT 228 (by rfl) (by rfl)
theorem tw_229 : Cond.code ⟨"IntervalSplits", "cut", "(I)I"⟩ prog_1_method_7_code 3 (some FieldType.int) ∈ LT := mT 229 (by rfl) (by rfl)
theorem tw_230 : Cond.methodLink "IntervalSplitsLaw" 56 ⟨"IntervalSplits", "open", "()I"⟩ ∈ LT := mT 230 (by rfl) (by rfl)
theorem tw_231 : Cond.instanceMethod ⟨"IntervalSplits", "open", "()I"⟩ ∈ LT := mT 231 (by rfl) (by rfl)
theorem tw_232 : Cond.selects "IntervalSplits" ⟨"IntervalSplits", "open", "()I"⟩ ⟨"IntervalSplits", "open", "()I"⟩ ∈ LT := mT 232 (by rfl) (by rfl)
theorem tw_233 : Cond.code ⟨"IntervalSplits", "open", "()I"⟩ prog_1_method_8_code 1 (some FieldType.int) ∈ LT := mT 233 (by rfl) (by rfl)
theorem tw_234 : Cond.methodLink "IntervalSplits" 131 ⟨"IntervalSplits", "finishCutSplit", "()V"⟩ ∈ LT := mT 234 (by rfl) (by rfl)
theorem tw_236 : Cond.instanceMethod ⟨"IntervalSplits", "finishCutSplit", "()V"⟩ ∈ LT := mT 236 (by rfl) (by rfl)
theorem tw_237 : Cond.code ⟨"IntervalSplits", "finishCutSplit", "()V"⟩ prog_1_method_31_code 1 none ∈ LT := mT 237 (by rfl) (by rfl)
theorem tw_238 : Cond.methodLink "IntervalSplitsLaw" 61 ⟨"IntervalSplits", "split", "(I)I"⟩ ∈ LT := mT 238 (by rfl) (by rfl)
theorem tw_239 : Cond.instanceMethod ⟨"IntervalSplits", "split", "(I)I"⟩ ∈ LT := mT 239 (by rfl) (by rfl)
theorem tw_240 : Cond.selects "IntervalSplits" ⟨"IntervalSplits", "split", "(I)I"⟩ ⟨"IntervalSplits", "split", "(I)I"⟩ ∈ LT := mT 240 (by rfl) (by rfl)
theorem tw_241 : Cond.code ⟨"IntervalSplits", "split", "(I)I"⟩ prog_1_method_9_code 2 (some FieldType.int) ∈ LT := mT 241 (by rfl) (by rfl)
theorem tw_242 : Cond.methodLink "IntervalSplitsLaw" 72 ⟨"IntervalSplits", "verify", "()I"⟩ ∈ LT := mT 242 (by rfl) (by rfl)
theorem tw_243 : Cond.instanceMethod ⟨"IntervalSplits", "verify", "()I"⟩ ∈ LT := mT 243 (by rfl) (by rfl)
theorem tw_244 : Cond.selects "IntervalSplits" ⟨"IntervalSplits", "verify", "()I"⟩ ⟨"IntervalSplits", "verify", "()I"⟩ ∈ LT := mT 244 (by rfl) (by rfl)
theorem tw_245 : Cond.code ⟨"IntervalSplits", "verify", "()I"⟩ prog_1_method_11_code 1 (some FieldType.int) ∈ LT := mT 245 (by rfl) (by rfl)
theorem tw_246 : Cond.methodLink "IntervalSplits" 147 ⟨"IntervalSplits", "brokenOrders", "()I"⟩ ∈ LT := mT 246 (by rfl) (by rfl)
theorem tw_248 : Cond.instanceMethod ⟨"IntervalSplits", "brokenOrders", "()I"⟩ ∈ LT := mT 248 (by rfl) (by rfl)
theorem tw_249 : Cond.code ⟨"IntervalSplits", "brokenOrders", "()I"⟩ prog_1_method_33_code 3 (some FieldType.int) ∈ LT := mT 249 (by rfl) (by rfl)
theorem tw_250 : Cond.methodLink "IntervalSplits" 151 ⟨"IntervalSplits", "brokenRooms", "()I"⟩ ∈ LT := mT 250 (by rfl) (by rfl)
theorem tw_252 : Cond.instanceMethod ⟨"IntervalSplits", "brokenRooms", "()I"⟩ ∈ LT := mT 252 (by rfl) (by rfl)
theorem tw_253 : Cond.code ⟨"IntervalSplits", "brokenRooms", "()I"⟩ prog_1_method_34_code 5 (some FieldType.int) ∈ LT := mT 253 (by rfl) (by rfl)
theorem tw_254 : Cond.methodLink "IntervalSplits" 154 ⟨"IntervalSplits", "brokenWidths", "()I"⟩ ∈ LT := mT 254 (by rfl) (by rfl)
theorem tw_256 : Cond.instanceMethod ⟨"IntervalSplits", "brokenWidths", "()I"⟩ ∈ LT := mT 256 (by rfl) (by rfl)
theorem tw_257 : Cond.code ⟨"IntervalSplits", "brokenWidths", "()I"⟩ prog_1_method_35_code 3 (some FieldType.int) ∈ LT := mT 257 (by rfl) (by rfl)
theorem tw_258 : Cond.methodLink "IntervalSplitsLaw" 76 ⟨"IntervalSplits", "reorganise", "()I"⟩ ∈ LT := mT 258 (by rfl) (by rfl)
theorem tw_259 : Cond.instanceMethod ⟨"IntervalSplits", "reorganise", "()I"⟩ ∈ LT := mT 259 (by rfl) (by rfl)
theorem tw_260 : Cond.selects "IntervalSplits" ⟨"IntervalSplits", "reorganise", "()I"⟩ ⟨"IntervalSplits", "reorganise", "()I"⟩ ∈ LT := mT 260 (by rfl) (by rfl)
theorem tw_261 : Cond.code ⟨"IntervalSplits", "reorganise", "()I"⟩ prog_1_method_12_code 5 (some FieldType.int) ∈ LT := mT 261 (by rfl) (by rfl)
theorem tw_262 : Cond.methodLink "IntervalSplitsLaw" 80 ⟨"IntervalSplits", "order", "(I)J"⟩ ∈ LT := mT 262 (by rfl) (by rfl)
theorem tw_263 : Cond.instanceMethod ⟨"IntervalSplits", "order", "(I)J"⟩ ∈ LT := mT 263 (by rfl) (by rfl)
theorem tw_264 : Cond.selects "IntervalSplits" ⟨"IntervalSplits", "order", "(I)J"⟩ ⟨"IntervalSplits", "order", "(I)J"⟩ ∈ LT := mT 264 (by rfl) (by rfl)
theorem tw_265 : Cond.code ⟨"IntervalSplits", "order", "(I)J"⟩ prog_1_method_13_code 2 (some FieldType.long) ∈ LT := mT 265 (by rfl) (by rfl)
theorem tw_266 : Cond.methodLink "IntervalSplitsLaw" 85 ⟨"IntervalSplits", "count", "(I)I"⟩ ∈ LT := mT 266 (by rfl) (by rfl)
theorem tw_267 : Cond.instanceMethod ⟨"IntervalSplits", "count", "(I)I"⟩ ∈ LT := mT 267 (by rfl) (by rfl)
theorem tw_268 : Cond.selects "IntervalSplits" ⟨"IntervalSplits", "count", "(I)I"⟩ ⟨"IntervalSplits", "count", "(I)I"⟩ ∈ LT := mT 268 (by rfl) (by rfl)
theorem tw_269 : Cond.code ⟨"IntervalSplits", "count", "(I)I"⟩ prog_1_method_14_code 2 (some FieldType.int) ∈ LT := mT 269 (by rfl) (by rfl)
theorem tw_270 : Cond.methodLink "IntervalSplitsLaw" 15 ⟨"IntervalSplitsLaw", "cell", "([II)I"⟩ ∈ LT := mT 270 (by rfl) (by rfl)
theorem tw_271 : Cond.static ⟨"IntervalSplitsLaw", "cell", "([II)I"⟩ ∈ LT := mT 271 (by rfl) (by rfl)
theorem tw_272 : Cond.code ⟨"IntervalSplitsLaw", "cell", "([II)I"⟩ method_2_code 2 (some FieldType.int) ∈ LT := mT 272 (by rfl) (by rfl)
theorem tw_273 : Cond.methodLink "IntervalSplitsLaw" 65 ⟨"IntervalSplitsLaw", "index", "(LIntervalSplits;II[J)I"⟩ ∈ LT := mT 273 (by rfl) (by rfl)
theorem tw_274 : Cond.static ⟨"IntervalSplitsLaw", "index", "(LIntervalSplits;II[J)I"⟩ ∈ LT := mT 274 (by rfl) (by rfl)
theorem tw_276 : Cond.classLink "IntervalSplitsLaw" 13 "java/lang/ArrayIndexOutOfBoundsException" ∈ LT := mT 276 (by rfl) (by rfl)
theorem tw_277 : Cond.methodLink "IntervalSplitsLaw" 7 ⟨"IntervalSplits", "index", "(II)I"⟩ ∈ LT := mT 277 (by rfl) (by rfl)
theorem tw_278 : Cond.instanceMethod ⟨"IntervalSplits", "index", "(II)I"⟩ ∈ LT := mT 278 (by rfl) (by rfl)
theorem tw_279 : Cond.selects "IntervalSplits" ⟨"IntervalSplits", "index", "(II)I"⟩ ⟨"IntervalSplits", "index", "(II)I"⟩ ∈ LT := mT 279 (by rfl) (by rfl)
theorem tw_280 : Cond.code ⟨"IntervalSplits", "index", "(II)I"⟩ prog_1_method_10_code 3 (some FieldType.int) ∈ LT := mT 280 (by rfl) (by rfl)
theorem tw_281 : Cond.methodLink "IntervalSplits" 134 ⟨"IntervalSplits", "lowBitsOfFirstKey", "(I)I"⟩ ∈ LT := mT 281 (by rfl) (by rfl)
theorem tw_283 : Cond.instanceMethod ⟨"IntervalSplits", "lowBitsOfFirstKey", "(I)I"⟩ ∈ LT := mT 283 (by rfl) (by rfl)
theorem tw_284 : Cond.code ⟨"IntervalSplits", "lowBitsOfFirstKey", "(I)I"⟩ prog_1_method_19_code 2 (some FieldType.int) ∈ LT := mT 284 (by rfl) (by rfl)
theorem tw_285 : Cond.classLink "IntervalSplits" 140 "java/lang/ArrayIndexOutOfBoundsException" ∈ LT := mT 285 (by rfl) (by rfl)
theorem tw_286 : Cond.instantiable "java/lang/ArrayIndexOutOfBoundsException" 6 ∈ LT := mT 286 (by rfl) (by rfl)
theorem tw_296 : Cond.selects "java/lang/ArrayIndexOutOfBoundsException" ⟨"java/lang/Throwable", "fillInStackTrace", "(I)Ljava/lang/Throwable;"⟩ ⟨"java/lang/Throwable", "fillInStackTrace", "(I)Ljava/lang/Throwable;"⟩ ∈ LT := mT 296 (by rfl) (by rfl)
theorem tw_297 : Cond.selects "java/lang/ArrayIndexOutOfBoundsException" ⟨"java/lang/Throwable", "fillInStackTrace", "()Ljava/lang/Throwable;"⟩ ⟨"java/lang/Throwable", "fillInStackTrace", "()Ljava/lang/Throwable;"⟩ ∈ LT := mT 297 (by rfl) (by rfl)
theorem tw_298 : Cond.lays "java/lang/ArrayIndexOutOfBoundsException" "java/lang/Throwable" "cause" "Ljava/lang/Throwable;" ∈ LT := mT 298 (by rfl) (by rfl)
theorem tw_299 : Cond.lays "java/lang/Throwable" "java/lang/Throwable" "cause" "Ljava/lang/Throwable;" ∈ LT := mT 299 (by rfl) (by rfl)
theorem tw_300 : Cond.lays "java/lang/ArrayIndexOutOfBoundsException" "java/lang/Throwable" "stackTrace" "[Ljava/lang/StackTraceElement;" ∈ LT := mT 300 (by rfl) (by rfl)
set_option maxRecDepth 20000 in
theorem tw_301 : Cond.lays "java/lang/Throwable" "java/lang/Throwable" "stackTrace" "[Ljava/lang/StackTraceElement;" ∈ LT := mT 301 (by rfl) (by rfl)
set_option maxRecDepth 20000 in
theorem tw_302 : Cond.lays "java/lang/ArrayIndexOutOfBoundsException" "java/lang/Throwable" "suppressedExceptions" "Ljava/util/List;" ∈ LT := mT 302 (by rfl) (by rfl)
set_option maxRecDepth 20000 in
theorem tw_303 : Cond.lays "java/lang/Throwable" "java/lang/Throwable" "suppressedExceptions" "Ljava/util/List;" ∈ LT := mT 303 (by rfl) (by rfl)
set_option maxRecDepth 20000 in
theorem tw_304 : Cond.lays "java/lang/ArrayIndexOutOfBoundsException" "java/lang/Throwable" "detailMessage" "Ljava/lang/String;" ∈ LT := mT 304 (by rfl) (by rfl)
set_option maxRecDepth 20000 in
theorem tw_305 : Cond.lays "java/lang/Throwable" "java/lang/Throwable" "detailMessage" "Ljava/lang/String;" ∈ LT := mT 305 (by rfl) (by rfl)
set_option maxRecDepth 20000 in
theorem tw_306 : Cond.lays "java/lang/ArrayIndexOutOfBoundsException" "java/lang/Throwable" "backtrace" "Ljava/lang/Object;" ∈ LT := mT 306 (by rfl) (by rfl)
set_option maxRecDepth 20000 in
theorem tw_307 : Cond.lays "java/lang/Throwable" "java/lang/Throwable" "backtrace" "Ljava/lang/Object;" ∈ LT := mT 307 (by rfl) (by rfl)
set_option maxRecDepth 20000 in
theorem tw_308 : Cond.fieldLink "java/lang/Throwable" 198 "java/lang/Throwable" "backtrace" "Ljava/lang/Object;" ∈ LT := mT 308 (by rfl) (by rfl)
set_option maxRecDepth 20000 in
theorem tw_309 : Cond.superclass "java/lang/Throwable" "java/lang/Object" ∈ LT := mT 309 (by rfl) (by rfl)
set_option maxRecDepth 20000 in
theorem tw_310 : Cond.instanceMethod ⟨"java/lang/Throwable", "<init>", "()V"⟩ ∈ LT := mT 310 (by rfl) (by rfl)
set_option maxRecDepth 20000 in
theorem tw_311 : Cond.code ⟨"java/lang/Throwable", "<init>", "()V"⟩ prog_14_method_1_code 1 none ∈ LT := mT 311 (by rfl) (by rfl)
set_option maxRecDepth 20000 in
theorem tw_312 : Cond.methodLink "java/lang/Throwable" 1 ⟨"java/lang/Object", "<init>", "()V"⟩ ∈ LT := mT 312 (by rfl) (by rfl)
set_option maxRecDepth 20000 in
theorem tw_313 : Cond.fieldLink "java/lang/Throwable" 13 "java/lang/Throwable" "UNASSIGNED_STACK" "[Ljava/lang/StackTraceElement;" ∈ LT := mT 313 (by rfl) (by rfl)
set_option maxRecDepth 20000 in
theorem tw_315 : Cond.fieldLink "java/lang/Throwable" 20 "java/lang/Throwable" "SUPPRESSED_SENTINEL" "Ljava/util/List;" ∈ LT := mT 315 (by rfl) (by rfl)
set_option maxRecDepth 20000 in
theorem tw_317 : Cond.methodLink "java/lang/Throwable" 27 ⟨"java/lang/Throwable", "fillInStackTrace", "()Ljava/lang/Throwable;"⟩ ∈ LT := mT 317 (by rfl) (by rfl)
set_option maxRecDepth 20000 in
theorem tw_318 : Cond.instanceMethod ⟨"java/lang/Throwable", "fillInStackTrace", "()Ljava/lang/Throwable;"⟩ ∈ LT := mT 318 (by rfl) (by rfl)
set_option maxRecDepth 20000 in
theorem tw_321 : Cond.methodLink "java/lang/Throwable" 202 ⟨"java/lang/Throwable", "fillInStackTrace", "(I)Ljava/lang/Throwable;"⟩ ∈ LT := mT 321 (by rfl) (by rfl)
set_option maxRecDepth 20000 in
theorem tw_323 : Cond.instanceMethod ⟨"java/lang/Throwable", "fillInStackTrace", "(I)Ljava/lang/Throwable;"⟩ ∈ LT := mT 323 (by rfl) (by rfl)
set_option maxRecDepth 20000 in
theorem tw_324 : Cond.instantiable "java/lang/Throwable" 6 ∈ LT := mT 324 (by rfl) (by rfl)
set_option maxRecDepth 20000 in
theorem tw_325 : Cond.native ⟨"java/lang/Throwable", "fillInStackTrace", "(I)Ljava/lang/Throwable;"⟩ ∈ LT := mT 325 (by rfl) (by rfl)
set_option maxRecDepth 20000 in
theorem tw_327 : Cond.methodLink "IntervalSplits" 144 ⟨"java/lang/ArrayIndexOutOfBoundsException", "<init>", "(Ljava/lang/String;)V"⟩ ∈ LT := mT 327 (by rfl) (by rfl)
set_option maxRecDepth 20000 in
theorem tw_328 : Cond.instanceMethod ⟨"java/lang/ArrayIndexOutOfBoundsException", "<init>", "(Ljava/lang/String;)V"⟩ ∈ LT := mT 328 (by rfl) (by rfl)
set_option maxRecDepth 20000 in
theorem tw_329 : Cond.code ⟨"java/lang/ArrayIndexOutOfBoundsException", "<init>", "(Ljava/lang/String;)V"⟩ prog_6_method_2_code 2 none ∈ LT := mT 329 (by rfl) (by rfl)
set_option maxRecDepth 20000 in
theorem tw_330 : Cond.methodLink "java/lang/ArrayIndexOutOfBoundsException" 7 ⟨"java/lang/IndexOutOfBoundsException", "<init>", "(Ljava/lang/String;)V"⟩ ∈ LT := mT 330 (by rfl) (by rfl)
set_option maxRecDepth 20000 in
theorem tw_331 : Cond.instanceMethod ⟨"java/lang/IndexOutOfBoundsException", "<init>", "(Ljava/lang/String;)V"⟩ ∈ LT := mT 331 (by rfl) (by rfl)
set_option maxRecDepth 20000 in
theorem tw_332 : Cond.code ⟨"java/lang/IndexOutOfBoundsException", "<init>", "(Ljava/lang/String;)V"⟩ prog_9_method_2_code 2 none ∈ LT := mT 332 (by rfl) (by rfl)
set_option maxRecDepth 20000 in
theorem tw_333 : Cond.methodLink "java/lang/IndexOutOfBoundsException" 7 ⟨"java/lang/RuntimeException", "<init>", "(Ljava/lang/String;)V"⟩ ∈ LT := mT 333 (by rfl) (by rfl)
set_option maxRecDepth 20000 in
theorem tw_334 : Cond.instanceMethod ⟨"java/lang/RuntimeException", "<init>", "(Ljava/lang/String;)V"⟩ ∈ LT := mT 334 (by rfl) (by rfl)
set_option maxRecDepth 20000 in
theorem tw_335 : Cond.code ⟨"java/lang/RuntimeException", "<init>", "(Ljava/lang/String;)V"⟩ prog_11_method_2_code 2 none ∈ LT := mT 335 (by rfl) (by rfl)
set_option maxRecDepth 20000 in
theorem tw_336 : Cond.methodLink "java/lang/RuntimeException" 7 ⟨"java/lang/Exception", "<init>", "(Ljava/lang/String;)V"⟩ ∈ LT := mT 336 (by rfl) (by rfl)
set_option maxRecDepth 20000 in
theorem tw_337 : Cond.instanceMethod ⟨"java/lang/Exception", "<init>", "(Ljava/lang/String;)V"⟩ ∈ LT := mT 337 (by rfl) (by rfl)
set_option maxRecDepth 20000 in
theorem tw_338 : Cond.code ⟨"java/lang/Exception", "<init>", "(Ljava/lang/String;)V"⟩ prog_8_method_2_code 2 none ∈ LT := mT 338 (by rfl) (by rfl)
set_option maxRecDepth 20000 in
theorem tw_339 : Cond.methodLink "java/lang/Exception" 7 ⟨"java/lang/Throwable", "<init>", "(Ljava/lang/String;)V"⟩ ∈ LT := mT 339 (by rfl) (by rfl)
set_option maxRecDepth 20000 in
theorem tw_340 : Cond.instanceMethod ⟨"java/lang/Throwable", "<init>", "(Ljava/lang/String;)V"⟩ ∈ LT := mT 340 (by rfl) (by rfl)
set_option maxRecDepth 20000 in
theorem tw_341 : Cond.code ⟨"java/lang/Throwable", "<init>", "(Ljava/lang/String;)V"⟩ prog_14_method_2_code 2 none ∈ LT := mT 341 (by rfl) (by rfl)
set_option maxRecDepth 20000 in
theorem tw_343 : Cond.fieldLink "java/lang/Throwable" 31 "java/lang/Throwable" "detailMessage" "Ljava/lang/String;" ∈ LT := mT 343 (by rfl) (by rfl)
set_option maxRecDepth 20000 in
theorem tw_344 : Cond.fieldLink "java/lang/Throwable" 7 "java/lang/Throwable" "cause" "Ljava/lang/Throwable;" ∈ LT := mT 344 (by rfl) (by rfl)
set_option maxRecDepth 20000 in
theorem tw_345 : Cond.fieldLink "java/lang/Throwable" 17 "java/lang/Throwable" "stackTrace" "[Ljava/lang/StackTraceElement;" ∈ LT := mT 345 (by rfl) (by rfl)
set_option maxRecDepth 20000 in
theorem tw_346 : Cond.fieldLink "java/lang/Throwable" 24 "java/lang/Throwable" "suppressedExceptions" "Ljava/util/List;" ∈ LT := mT 346 (by rfl) (by rfl)
set_option maxRecDepth 20000 in
theorem tw_351 : Cond.lays "java/lang/ArrayIndexOutOfBoundsException" "java/lang/Throwable" "depth" "I" ∈ LT := mT 351 (by rfl) (by rfl)
set_option maxRecDepth 20000 in
theorem tw_354 : Cond.superclass "java/lang/ArrayIndexOutOfBoundsException" "java/lang/IndexOutOfBoundsException" ∈ LT := mT 354 (by rfl) (by rfl)
set_option maxRecDepth 20000 in
theorem tw_355 : Cond.arrayClass FieldType.byte ∈ LT := mT 355 (by rfl) (by rfl)
set_option maxRecDepth 20000 in
theorem tw_356 : Cond.classLink "IntervalSplitsLaw" 24 "IntervalSplitsModel" ∈ LT := mT 356 (by rfl) (by rfl)
set_option maxRecDepth 20000 in
theorem tw_357 : Cond.instantiable "IntervalSplitsModel" 20 ∈ LT := mT 357 (by rfl) (by rfl)
set_option maxRecDepth 20000 in
theorem tw_358 : Cond.methodLink "IntervalSplitsLaw" 26 ⟨"IntervalSplitsModel", "<init>", "(IIII)V"⟩ ∈ LT := mT 358 (by rfl) (by rfl)
set_option maxRecDepth 20000 in
theorem tw_359 : Cond.instanceMethod ⟨"IntervalSplitsModel", "<init>", "(IIII)V"⟩ ∈ LT := mT 359 (by rfl) (by rfl)
set_option maxRecDepth 20000 in
theorem tw_360 : Cond.code ⟨"IntervalSplitsModel", "<init>", "(IIII)V"⟩ prog_5_method_1_code 7 none ∈ LT := mT 360 (by rfl) (by rfl)
set_option maxRecDepth 20000 in
theorem tw_361 : Cond.methodLink "IntervalSplitsModel" 1 ⟨"java/lang/Object", "<init>", "()V"⟩ ∈ LT := mT 361 (by rfl) (by rfl)
set_option maxRecDepth 20000 in
theorem tw_362 : Cond.methodLink "IntervalSplitsModel" 39 ⟨"IntervalSplitsModel", "held", "(III)I"⟩ ∈ LT := mT 362 (by rfl) (by rfl)
set_option maxRecDepth 20000 in
theorem tw_363 : Cond.static ⟨"IntervalSplitsModel", "held", "(III)I"⟩ ∈ LT := mT 363 (by rfl) (by rfl)
set_option maxRecDepth 20000 in
theorem tw_364 : Cond.code ⟨"IntervalSplitsModel", "held", "(III)I"⟩ prog_5_method_2_code 3 (some FieldType.int) ∈ LT := mT 364 (by rfl) (by rfl)
set_option maxRecDepth 20000 in
theorem tw_365 : Cond.fieldLink "IntervalSplitsModel" 55 "IntervalSplitsModel" "code" "I" ∈ LT := mT 365 (by rfl) (by rfl)
set_option maxRecDepth 20000 in
theorem tw_366 : Cond.fieldLink "IntervalSplitsModel" 43 "IntervalSplitsModel" "room" "I" ∈ LT := mT 366 (by rfl) (by rfl)
set_option maxRecDepth 20000 in
theorem tw_367 : Cond.fieldLink "IntervalSplitsModel" 46 "IntervalSplitsModel" "width" "I" ∈ LT := mT 367 (by rfl) (by rfl)
set_option maxRecDepth 20000 in
theorem tw_368 : Cond.fieldLink "IntervalSplitsModel" 49 "IntervalSplitsModel" "load" "I" ∈ LT := mT 368 (by rfl) (by rfl)
set_option maxRecDepth 20000 in
theorem tw_369 : Cond.fieldLink "IntervalSplitsModel" 52 "IntervalSplitsModel" "loadWidth" "I" ∈ LT := mT 369 (by rfl) (by rfl)
set_option maxRecDepth 20000 in
theorem tw_370 : Cond.fieldLink "IntervalSplitsModel" 7 "IntervalSplitsModel" "keys" "[J" ∈ LT := mT 370 (by rfl) (by rfl)
set_option maxRecDepth 20000 in
theorem tw_371 : Cond.fieldLink "IntervalSplitsModel" 13 "IntervalSplitsModel" "lengths" "[I" ∈ LT := mT 371 (by rfl) (by rfl)
set_option maxRecDepth 20000 in
theorem tw_372 : Cond.fieldLink "IntervalSplitsModel" 17 "IntervalSplitsModel" "of" "[I" ∈ LT := mT 372 (by rfl) (by rfl)
set_option maxRecDepth 20000 in
theorem tw_373 : Cond.fieldLink "IntervalSplitsModel" 58 "IntervalSplitsModel" "size" "I" ∈ LT := mT 373 (by rfl) (by rfl)
set_option maxRecDepth 20000 in
theorem tw_374 : Cond.fieldLink "IntervalSplitsModel" 20 "IntervalSplitsModel" "intervals" "[I" ∈ LT := mT 374 (by rfl) (by rfl)
set_option maxRecDepth 20000 in
theorem tw_375 : Cond.fieldLink "IntervalSplitsModel" 23 "IntervalSplitsModel" "areas" "[I" ∈ LT := mT 375 (by rfl) (by rfl)
set_option maxRecDepth 20000 in
theorem tw_376 : Cond.fieldLink "IntervalSplitsModel" 26 "IntervalSplitsModel" "many" "I" ∈ LT := mT 376 (by rfl) (by rfl)
set_option maxRecDepth 20000 in
theorem tw_377 : Cond.fieldLink "IntervalSplitsModel" 30 "IntervalSplitsModel" "number" "I" ∈ LT := mT 377 (by rfl) (by rfl)
set_option maxRecDepth 20000 in
theorem tw_378 : Cond.fieldLink "IntervalSplitsModel" 33 "IntervalSplitsModel" "area" "I" ∈ LT := mT 378 (by rfl) (by rfl)
set_option maxRecDepth 20000 in
theorem tw_379 : Cond.fieldLink "IntervalSplitsModel" 85 "IntervalSplitsModel" "cutAt" "I" ∈ LT := mT 379 (by rfl) (by rfl)
set_option maxRecDepth 20000 in
theorem tw_380 : Cond.fieldLink "IntervalSplitsModel" 92 "IntervalSplitsModel" "pending" "I" ∈ LT := mT 380 (by rfl) (by rfl)
set_option maxRecDepth 20000 in
theorem tw_381 : Cond.fieldLink "IntervalSplitsModel" 95 "IntervalSplitsModel" "pendingAt" "I" ∈ LT := mT 381 (by rfl) (by rfl)
set_option maxRecDepth 20000 in
theorem tw_382 : Cond.fieldLink "IntervalSplitsModel" 88 "IntervalSplitsModel" "closed" "Z" ∈ LT := mT 382 (by rfl) (by rfl)
set_option maxRecDepth 20000 in
theorem tw_383 : Cond.fieldLink "IntervalSplitsModel" 98 "IntervalSplitsModel" "finishes" "Z" ∈ LT := mT 383 (by rfl) (by rfl)
set_option maxRecDepth 20000 in
theorem tw_384 : Cond.fieldLink "IntervalSplitsModel" 36 "IntervalSplitsModel" "splits" "[I" ∈ LT := mT 384 (by rfl) (by rfl)
set_option maxRecDepth 20000 in
theorem tw_385 : Cond.lays "IntervalSplitsModel" "IntervalSplitsModel" "code" "I" ∈ LT := mT 385 (by rfl) (by rfl)
set_option maxRecDepth 20000 in
theorem tw_387 : Cond.laysFinal "IntervalSplitsModel" "IntervalSplitsModel" "room" "I" ∈ LT := mT 387 (by rfl) (by rfl)
set_option maxRecDepth 20000 in
theorem tw_389 : Cond.laysFinal "IntervalSplitsModel" "IntervalSplitsModel" "width" "I" ∈ LT := mT 389 (by rfl) (by rfl)
set_option maxRecDepth 20000 in
theorem tw_391 : Cond.laysFinal "IntervalSplitsModel" "IntervalSplitsModel" "load" "I" ∈ LT := mT 391 (by rfl) (by rfl)
set_option maxRecDepth 20000 in
theorem tw_393 : Cond.laysFinal "IntervalSplitsModel" "IntervalSplitsModel" "loadWidth" "I" ∈ LT := mT 393 (by rfl) (by rfl)
set_option maxRecDepth 20000 in
theorem tw_395 : Cond.laysFinal "IntervalSplitsModel" "IntervalSplitsModel" "keys" "[J" ∈ LT := mT 395 (by rfl) (by rfl)
set_option maxRecDepth 20000 in
theorem tw_397 : Cond.laysFinal "IntervalSplitsModel" "IntervalSplitsModel" "lengths" "[I" ∈ LT := mT 397 (by rfl) (by rfl)
set_option maxRecDepth 20000 in
theorem tw_399 : Cond.laysFinal "IntervalSplitsModel" "IntervalSplitsModel" "of" "[I" ∈ LT := mT 399 (by rfl) (by rfl)
set_option maxRecDepth 20000 in
theorem tw_401 : Cond.lays "IntervalSplitsModel" "IntervalSplitsModel" "size" "I" ∈ LT := mT 401 (by rfl) (by rfl)
set_option maxRecDepth 20000 in
theorem tw_403 : Cond.laysFinal "IntervalSplitsModel" "IntervalSplitsModel" "intervals" "[I" ∈ LT := mT 403 (by rfl) (by rfl)
set_option maxRecDepth 20000 in
theorem tw_405 : Cond.laysFinal "IntervalSplitsModel" "IntervalSplitsModel" "areas" "[I" ∈ LT := mT 405 (by rfl) (by rfl)
set_option maxRecDepth 20000 in
theorem tw_407 : Cond.lays "IntervalSplitsModel" "IntervalSplitsModel" "many" "I" ∈ LT := mT 407 (by rfl) (by rfl)
set_option maxRecDepth 20000 in
theorem tw_409 : Cond.lays "IntervalSplitsModel" "IntervalSplitsModel" "number" "I" ∈ LT := mT 409 (by rfl) (by rfl)
set_option maxRecDepth 20000 in
theorem tw_411 : Cond.lays "IntervalSplitsModel" "IntervalSplitsModel" "area" "I" ∈ LT := mT 411 (by rfl) (by rfl)
set_option maxRecDepth 20000 in
theorem tw_413 : Cond.lays "IntervalSplitsModel" "IntervalSplitsModel" "cutAt" "I" ∈ LT := mT 413 (by rfl) (by rfl)
set_option maxRecDepth 20000 in
theorem tw_415 : Cond.lays "IntervalSplitsModel" "IntervalSplitsModel" "pending" "I" ∈ LT := mT 415 (by rfl) (by rfl)
set_option maxRecDepth 20000 in
theorem tw_417 : Cond.lays "IntervalSplitsModel" "IntervalSplitsModel" "pendingAt" "I" ∈ LT := mT 417 (by rfl) (by rfl)
set_option maxRecDepth 20000 in
theorem tw_419 : Cond.lays "IntervalSplitsModel" "IntervalSplitsModel" "closed" "Z" ∈ LT := mT 419 (by rfl) (by rfl)
set_option maxRecDepth 20000 in
theorem tw_421 : Cond.lays "IntervalSplitsModel" "IntervalSplitsModel" "finishes" "Z" ∈ LT := mT 421 (by rfl) (by rfl)
set_option maxRecDepth 20000 in
theorem tw_423 : Cond.laysFinal "IntervalSplitsModel" "IntervalSplitsModel" "splits" "[I" ∈ LT := mT 423 (by rfl) (by rfl)
set_option maxRecDepth 20000 in
theorem tw_425 : Cond.superclass "IntervalSplitsModel" "java/lang/Object" ∈ LT := mT 425 (by rfl) (by rfl)
set_option maxRecDepth 20000 in
theorem tw_426 : Cond.arrayClass FieldType.int ∈ LT := mT 426 (by rfl) (by rfl)
set_option maxRecDepth 20000 in
theorem tw_427 : Cond.methodLink "IntervalSplitsLaw" 69 ⟨"IntervalSplitsModel", "thrown", "()I"⟩ ∈ LT := mT 427 (by rfl) (by rfl)
set_option maxRecDepth 20000 in
theorem tw_428 : Cond.instanceMethod ⟨"IntervalSplitsModel", "thrown", "()I"⟩ ∈ LT := mT 428 (by rfl) (by rfl)
set_option maxRecDepth 20000 in
theorem tw_429 : Cond.selects "IntervalSplitsModel" ⟨"IntervalSplitsModel", "thrown", "()I"⟩ ⟨"IntervalSplitsModel", "thrown", "()I"⟩ ∈ LT := mT 429 (by rfl) (by rfl)
set_option maxRecDepth 20000 in
theorem tw_430 : Cond.code ⟨"IntervalSplitsModel", "thrown", "()I"⟩ prog_5_method_3_code 1 (some FieldType.int) ∈ LT := mT 430 (by rfl) (by rfl)
set_option maxRecDepth 20000 in
theorem tw_431 : Cond.methodLink "IntervalSplitsLaw" 33 ⟨"IntervalSplitsModel", "put", "(JI)I"⟩ ∈ LT := mT 431 (by rfl) (by rfl)
set_option maxRecDepth 20000 in
theorem tw_432 : Cond.instanceMethod ⟨"IntervalSplitsModel", "put", "(JI)I"⟩ ∈ LT := mT 432 (by rfl) (by rfl)
set_option maxRecDepth 20000 in
theorem tw_433 : Cond.selects "IntervalSplitsModel" ⟨"IntervalSplitsModel", "put", "(JI)I"⟩ ⟨"IntervalSplitsModel", "put", "(JI)I"⟩ ∈ LT := mT 433 (by rfl) (by rfl)
set_option maxRecDepth 20000 in
theorem tw_434 : Cond.code ⟨"IntervalSplitsModel", "put", "(JI)I"⟩ prog_5_method_17_code 8 (some FieldType.int) ∈ LT := mT 434 (by rfl) (by rfl)
set_option maxRecDepth 20000 in
theorem tw_435 : Cond.methodLink "IntervalSplitsModel" 101 ⟨"IntervalSplitsModel", "has", "(J)Z"⟩ ∈ LT := mT 435 (by rfl) (by rfl)
set_option maxRecDepth 20000 in
theorem tw_437 : Cond.instanceMethod ⟨"IntervalSplitsModel", "has", "(J)Z"⟩ ∈ LT := mT 437 (by rfl) (by rfl)
set_option maxRecDepth 20000 in
theorem tw_438 : Cond.code ⟨"IntervalSplitsModel", "has", "(J)Z"⟩ prog_5_method_5_code 4 (some FieldType.boolean) ∈ LT := mT 438 (by rfl) (by rfl)
set_option maxRecDepth 20000 in
theorem tw_439 : Cond.methodLink "IntervalSplitsModel" 61 ⟨"IntervalSplitsModel", "less", "(J)I"⟩ ∈ LT := mT 439 (by rfl) (by rfl)
set_option maxRecDepth 20000 in
theorem tw_441 : Cond.instanceMethod ⟨"IntervalSplitsModel", "less", "(J)I"⟩ ∈ LT := mT 441 (by rfl) (by rfl)
set_option maxRecDepth 20000 in
theorem tw_442 : Cond.code ⟨"IntervalSplitsModel", "less", "(J)I"⟩ prog_5_method_4_code 5 (some FieldType.int) ∈ LT := mT 442 (by rfl) (by rfl)
set_option maxRecDepth 20000 in
theorem tw_443 : Cond.methodLink "IntervalSplitsModel" 105 ⟨"IntervalSplitsModel", "belongs", "(J)I"⟩ ∈ LT := mT 443 (by rfl) (by rfl)
set_option maxRecDepth 20000 in
theorem tw_445 : Cond.instanceMethod ⟨"IntervalSplitsModel", "belongs", "(J)I"⟩ ∈ LT := mT 445 (by rfl) (by rfl)
set_option maxRecDepth 20000 in
theorem tw_446 : Cond.code ⟨"IntervalSplitsModel", "belongs", "(J)I"⟩ prog_5_method_9_code 5 (some FieldType.int) ∈ LT := mT 446 (by rfl) (by rfl)
set_option maxRecDepth 20000 in
theorem tw_447 : Cond.methodLink "IntervalSplitsModel" 65 ⟨"IntervalSplitsModel", "first", "(I)I"⟩ ∈ LT := mT 447 (by rfl) (by rfl)
set_option maxRecDepth 20000 in
theorem tw_449 : Cond.instanceMethod ⟨"IntervalSplitsModel", "first", "(I)I"⟩ ∈ LT := mT 449 (by rfl) (by rfl)
set_option maxRecDepth 20000 in
theorem tw_450 : Cond.code ⟨"IntervalSplitsModel", "first", "(I)I"⟩ prog_5_method_6_code 3 (some FieldType.int) ∈ LT := mT 450 (by rfl) (by rfl)
set_option maxRecDepth 20000 in
theorem tw_451 : Cond.methodLink "IntervalSplitsModel" 69 ⟨"IntervalSplitsModel", "lengthsOf", "(I)I"⟩ ∈ LT := mT 451 (by rfl) (by rfl)
set_option maxRecDepth 20000 in
theorem tw_453 : Cond.instanceMethod ⟨"IntervalSplitsModel", "lengthsOf", "(I)I"⟩ ∈ LT := mT 453 (by rfl) (by rfl)
set_option maxRecDepth 20000 in
theorem tw_454 : Cond.code ⟨"IntervalSplitsModel", "lengthsOf", "(I)I"⟩ prog_5_method_8_code 4 (some FieldType.int) ∈ LT := mT 454 (by rfl) (by rfl)
set_option maxRecDepth 20000 in
theorem tw_455 : Cond.methodLink "IntervalSplitsModel" 108 ⟨"IntervalSplitsModel", "insert", "(JII)V"⟩ ∈ LT := mT 455 (by rfl) (by rfl)
set_option maxRecDepth 20000 in
theorem tw_457 : Cond.instanceMethod ⟨"IntervalSplitsModel", "insert", "(JII)V"⟩ ∈ LT := mT 457 (by rfl) (by rfl)
set_option maxRecDepth 20000 in
theorem tw_458 : Cond.code ⟨"IntervalSplitsModel", "insert", "(JII)V"⟩ prog_5_method_11_code 7 none ∈ LT := mT 458 (by rfl) (by rfl)
set_option maxRecDepth 20000 in
theorem tw_459 : Cond.methodLink "IntervalSplitsModel" 72 ⟨"IntervalSplitsModel", "recordsOf", "(I)I"⟩ ∈ LT := mT 459 (by rfl) (by rfl)
set_option maxRecDepth 20000 in
theorem tw_461 : Cond.instanceMethod ⟨"IntervalSplitsModel", "recordsOf", "(I)I"⟩ ∈ LT := mT 461 (by rfl) (by rfl)
set_option maxRecDepth 20000 in
theorem tw_462 : Cond.code ⟨"IntervalSplitsModel", "recordsOf", "(I)I"⟩ prog_5_method_7_code 4 (some FieldType.int) ∈ LT := mT 462 (by rfl) (by rfl)
set_option maxRecDepth 20000 in
theorem tw_463 : Cond.methodLink "IntervalSplitsModel" 82 ⟨"IntervalSplitsModel", "widthOf", "(I)I"⟩ ∈ LT := mT 463 (by rfl) (by rfl)
set_option maxRecDepth 20000 in
theorem tw_465 : Cond.instanceMethod ⟨"IntervalSplitsModel", "widthOf", "(I)I"⟩ ∈ LT := mT 465 (by rfl) (by rfl)
set_option maxRecDepth 20000 in
theorem tw_466 : Cond.code ⟨"IntervalSplitsModel", "widthOf", "(I)I"⟩ prog_5_method_10_code 4 (some FieldType.int) ∈ LT := mT 466 (by rfl) (by rfl)
set_option maxRecDepth 20000 in
theorem tw_467 : Cond.methodLink "IntervalSplitsModel" 112 ⟨"IntervalSplitsModel", "isCut", "(II)Z"⟩ ∈ LT := mT 467 (by rfl) (by rfl)
set_option maxRecDepth 20000 in
theorem tw_469 : Cond.instanceMethod ⟨"IntervalSplitsModel", "isCut", "(II)Z"⟩ ∈ LT := mT 469 (by rfl) (by rfl)
set_option maxRecDepth 20000 in
theorem tw_470 : Cond.code ⟨"IntervalSplitsModel", "isCut", "(II)Z"⟩ prog_5_method_16_code 3 (some FieldType.boolean) ∈ LT := mT 470 (by rfl) (by rfl)
set_option maxRecDepth 20000 in
theorem tw_471 : Cond.methodLink "IntervalSplitsModel" 116 ⟨"IntervalSplitsModel", "splitArea", "(I)V"⟩ ∈ LT := mT 471 (by rfl) (by rfl)
set_option maxRecDepth 20000 in
theorem tw_473 : Cond.instanceMethod ⟨"IntervalSplitsModel", "splitArea", "(I)V"⟩ ∈ LT := mT 473 (by rfl) (by rfl)
set_option maxRecDepth 20000 in
theorem tw_474 : Cond.code ⟨"IntervalSplitsModel", "splitArea", "(I)V"⟩ prog_5_method_15_code 6 none ∈ LT := mT 474 (by rfl) (by rfl)
set_option maxRecDepth 20000 in
theorem tw_475 : Cond.methodLink "IntervalSplitsModel" 78 ⟨"IntervalSplitsModel", "open", "(III)V"⟩ ∈ LT := mT 475 (by rfl) (by rfl)
set_option maxRecDepth 20000 in
theorem tw_477 : Cond.instanceMethod ⟨"IntervalSplitsModel", "open", "(III)V"⟩ ∈ LT := mT 477 (by rfl) (by rfl)
set_option maxRecDepth 20000 in
theorem tw_478 : Cond.code ⟨"IntervalSplitsModel", "open", "(III)V"⟩ prog_5_method_12_code 5 none ∈ LT := mT 478 (by rfl) (by rfl)
set_option maxRecDepth 20000 in
theorem tw_479 : Cond.methodLink "IntervalSplitsModel" 120 ⟨"IntervalSplitsModel", "splitInterval", "(II)V"⟩ ∈ LT := mT 479 (by rfl) (by rfl)
set_option maxRecDepth 20000 in
theorem tw_481 : Cond.instanceMethod ⟨"IntervalSplitsModel", "splitInterval", "(II)V"⟩ ∈ LT := mT 481 (by rfl) (by rfl)
set_option maxRecDepth 20000 in
theorem tw_482 : Cond.code ⟨"IntervalSplitsModel", "splitInterval", "(II)V"⟩ prog_5_method_14_code 6 none ∈ LT := mT 482 (by rfl) (by rfl)
set_option maxRecDepth 20000 in
theorem tw_483 : Cond.methodLink "IntervalSplitsModel" 75 ⟨"IntervalSplitsModel", "kept", "(I)I"⟩ ∈ LT := mT 483 (by rfl) (by rfl)
set_option maxRecDepth 20000 in
theorem tw_485 : Cond.instanceMethod ⟨"IntervalSplitsModel", "kept", "(I)I"⟩ ∈ LT := mT 485 (by rfl) (by rfl)
set_option maxRecDepth 20000 in
theorem tw_486 : Cond.code ⟨"IntervalSplitsModel", "kept", "(I)I"⟩ prog_5_method_13_code 9 (some FieldType.int) ∈ LT := mT 486 (by rfl) (by rfl)
set_option maxRecDepth 20000 in
theorem tw_487 : Cond.methodLink "IntervalSplitsLaw" 55 ⟨"IntervalSplitsModel", "cut", "(I)I"⟩ ∈ LT := mT 487 (by rfl) (by rfl)
set_option maxRecDepth 20000 in
theorem tw_488 : Cond.instanceMethod ⟨"IntervalSplitsModel", "cut", "(I)I"⟩ ∈ LT := mT 488 (by rfl) (by rfl)
set_option maxRecDepth 20000 in
theorem tw_489 : Cond.selects "IntervalSplitsModel" ⟨"IntervalSplitsModel", "cut", "(I)I"⟩ ⟨"IntervalSplitsModel", "cut", "(I)I"⟩ ∈ LT := mT 489 (by rfl) (by rfl)
set_option maxRecDepth 20000 in
theorem tw_490 : Cond.code ⟨"IntervalSplitsModel", "cut", "(I)I"⟩ prog_5_method_18_code 3 (some FieldType.int) ∈ LT := mT 490 (by rfl) (by rfl)
set_option maxRecDepth 20000 in
theorem tw_491 : Cond.methodLink "IntervalSplitsLaw" 60 ⟨"IntervalSplitsModel", "open", "()I"⟩ ∈ LT := mT 491 (by rfl) (by rfl)
set_option maxRecDepth 20000 in
theorem tw_492 : Cond.instanceMethod ⟨"IntervalSplitsModel", "open", "()I"⟩ ∈ LT := mT 492 (by rfl) (by rfl)
set_option maxRecDepth 20000 in
theorem tw_493 : Cond.selects "IntervalSplitsModel" ⟨"IntervalSplitsModel", "open", "()I"⟩ ⟨"IntervalSplitsModel", "open", "()I"⟩ ∈ LT := mT 493 (by rfl) (by rfl)
set_option maxRecDepth 20000 in
theorem tw_494 : Cond.code ⟨"IntervalSplitsModel", "open", "()I"⟩ prog_5_method_19_code 1 (some FieldType.int) ∈ LT := mT 494 (by rfl) (by rfl)
set_option maxRecDepth 20000 in
theorem tw_495 : Cond.methodLink "IntervalSplitsLaw" 46 ⟨"IntervalSplitsModel", "remove", "(J)I"⟩ ∈ LT := mT 495 (by rfl) (by rfl)
set_option maxRecDepth 20000 in
theorem tw_496 : Cond.instanceMethod ⟨"IntervalSplitsModel", "remove", "(J)I"⟩ ∈ LT := mT 496 (by rfl) (by rfl)
set_option maxRecDepth 20000 in
theorem tw_497 : Cond.selects "IntervalSplitsModel" ⟨"IntervalSplitsModel", "remove", "(J)I"⟩ ⟨"IntervalSplitsModel", "remove", "(J)I"⟩ ∈ LT := mT 497 (by rfl) (by rfl)
set_option maxRecDepth 20000 in
theorem tw_498 : Cond.code ⟨"IntervalSplitsModel", "remove", "(J)I"⟩ prog_5_method_20_code 7 (some FieldType.int) ∈ LT := mT 498 (by rfl) (by rfl)
set_option maxRecDepth 20000 in
theorem tw_499 : Cond.methodLink "IntervalSplitsLaw" 79 ⟨"IntervalSplitsModel", "reorganise", "()I"⟩ ∈ LT := mT 499 (by rfl) (by rfl)
set_option maxRecDepth 20000 in
theorem tw_500 : Cond.instanceMethod ⟨"IntervalSplitsModel", "reorganise", "()I"⟩ ∈ LT := mT 500 (by rfl) (by rfl)
set_option maxRecDepth 20000 in
theorem tw_501 : Cond.selects "IntervalSplitsModel" ⟨"IntervalSplitsModel", "reorganise", "()I"⟩ ⟨"IntervalSplitsModel", "reorganise", "()I"⟩ ∈ LT := mT 501 (by rfl) (by rfl)
set_option maxRecDepth 20000 in
theorem tw_502 : Cond.code ⟨"IntervalSplitsModel", "reorganise", "()I"⟩ prog_5_method_21_code 6 (some FieldType.int) ∈ LT := mT 502 (by rfl) (by rfl)
set_option maxRecDepth 20000 in
theorem tw_503 : Cond.methodLink "IntervalSplitsLaw" 38 ⟨"IntervalSplitsModel", "find", "(J)I"⟩ ∈ LT := mT 503 (by rfl) (by rfl)
set_option maxRecDepth 20000 in
theorem tw_504 : Cond.instanceMethod ⟨"IntervalSplitsModel", "find", "(J)I"⟩ ∈ LT := mT 504 (by rfl) (by rfl)
set_option maxRecDepth 20000 in
theorem tw_505 : Cond.selects "IntervalSplitsModel" ⟨"IntervalSplitsModel", "find", "(J)I"⟩ ⟨"IntervalSplitsModel", "find", "(J)I"⟩ ∈ LT := mT 505 (by rfl) (by rfl)
set_option maxRecDepth 20000 in
theorem tw_506 : Cond.code ⟨"IntervalSplitsModel", "find", "(J)I"⟩ prog_5_method_22_code 3 (some FieldType.int) ∈ LT := mT 506 (by rfl) (by rfl)
set_option maxRecDepth 20000 in
theorem tw_507 : Cond.methodLink "IntervalSplitsLaw" 42 ⟨"IntervalSplitsModel", "next", "(J)I"⟩ ∈ LT := mT 507 (by rfl) (by rfl)
set_option maxRecDepth 20000 in
theorem tw_508 : Cond.instanceMethod ⟨"IntervalSplitsModel", "next", "(J)I"⟩ ∈ LT := mT 508 (by rfl) (by rfl)
set_option maxRecDepth 20000 in
theorem tw_509 : Cond.selects "IntervalSplitsModel" ⟨"IntervalSplitsModel", "next", "(J)I"⟩ ⟨"IntervalSplitsModel", "next", "(J)I"⟩ ∈ LT := mT 509 (by rfl) (by rfl)
set_option maxRecDepth 20000 in
theorem tw_510 : Cond.code ⟨"IntervalSplitsModel", "next", "(J)I"⟩ prog_5_method_23_code 4 (some FieldType.int) ∈ LT := mT 510 (by rfl) (by rfl)
set_option maxRecDepth 20000 in
theorem tw_511 : Cond.methodLink "IntervalSplitsLaw" 50 ⟨"IntervalSplitsModel", "interval", "(II)I"⟩ ∈ LT := mT 511 (by rfl) (by rfl)
set_option maxRecDepth 20000 in
theorem tw_512 : Cond.instanceMethod ⟨"IntervalSplitsModel", "interval", "(II)I"⟩ ∈ LT := mT 512 (by rfl) (by rfl)
set_option maxRecDepth 20000 in
theorem tw_513 : Cond.selects "IntervalSplitsModel" ⟨"IntervalSplitsModel", "interval", "(II)I"⟩ ⟨"IntervalSplitsModel", "interval", "(II)I"⟩ ∈ LT := mT 513 (by rfl) (by rfl)
set_option maxRecDepth 20000 in
theorem tw_514 : Cond.code ⟨"IntervalSplitsModel", "interval", "(II)I"⟩ prog_5_method_25_code 3 (some FieldType.int) ∈ LT := mT 514 (by rfl) (by rfl)
set_option maxRecDepth 20000 in
theorem tw_515 : Cond.methodLink "IntervalSplitsModel" 124 ⟨"IntervalSplitsModel", "areaOf", "(I)I"⟩ ∈ LT := mT 515 (by rfl) (by rfl)
set_option maxRecDepth 20000 in
theorem tw_517 : Cond.instanceMethod ⟨"IntervalSplitsModel", "areaOf", "(I)I"⟩ ∈ LT := mT 517 (by rfl) (by rfl)
set_option maxRecDepth 20000 in
theorem tw_518 : Cond.code ⟨"IntervalSplitsModel", "areaOf", "(I)I"⟩ prog_5_method_24_code 4 (some FieldType.int) ∈ LT := mT 518 (by rfl) (by rfl)
set_option maxRecDepth 20000 in
theorem tw_519 : Cond.methodLink "IntervalSplitsLaw" 64 ⟨"IntervalSplitsModel", "split", "(I)I"⟩ ∈ LT := mT 519 (by rfl) (by rfl)
set_option maxRecDepth 20000 in
theorem tw_520 : Cond.instanceMethod ⟨"IntervalSplitsModel", "split", "(I)I"⟩ ∈ LT := mT 520 (by rfl) (by rfl)
set_option maxRecDepth 20000 in
theorem tw_521 : Cond.selects "IntervalSplitsModel" ⟨"IntervalSplitsModel", "split", "(I)I"⟩ ⟨"IntervalSplitsModel", "split", "(I)I"⟩ ∈ LT := mT 521 (by rfl) (by rfl)
set_option maxRecDepth 20000 in
theorem tw_522 : Cond.code ⟨"IntervalSplitsModel", "split", "(I)I"⟩ prog_5_method_26_code 2 (some FieldType.int) ∈ LT := mT 522 (by rfl) (by rfl)
set_option maxRecDepth 20000 in
theorem tw_523 : Cond.methodLink "IntervalSplitsLaw" 68 ⟨"IntervalSplitsModel", "index", "(II)I"⟩ ∈ LT := mT 523 (by rfl) (by rfl)
set_option maxRecDepth 20000 in
theorem tw_524 : Cond.instanceMethod ⟨"IntervalSplitsModel", "index", "(II)I"⟩ ∈ LT := mT 524 (by rfl) (by rfl)
set_option maxRecDepth 20000 in
theorem tw_525 : Cond.selects "IntervalSplitsModel" ⟨"IntervalSplitsModel", "index", "(II)I"⟩ ⟨"IntervalSplitsModel", "index", "(II)I"⟩ ∈ LT := mT 525 (by rfl) (by rfl)
set_option maxRecDepth 20000 in
theorem tw_526 : Cond.code ⟨"IntervalSplitsModel", "index", "(II)I"⟩ prog_5_method_27_code 6 (some FieldType.int) ∈ LT := mT 526 (by rfl) (by rfl)
set_option maxRecDepth 20000 in
theorem tw_527 : Cond.methodLink "IntervalSplitsLaw" 75 ⟨"IntervalSplitsModel", "verify", "()I"⟩ ∈ LT := mT 527 (by rfl) (by rfl)
set_option maxRecDepth 20000 in
theorem tw_528 : Cond.instanceMethod ⟨"IntervalSplitsModel", "verify", "()I"⟩ ∈ LT := mT 528 (by rfl) (by rfl)
set_option maxRecDepth 20000 in
theorem tw_529 : Cond.selects "IntervalSplitsModel" ⟨"IntervalSplitsModel", "verify", "()I"⟩ ⟨"IntervalSplitsModel", "verify", "()I"⟩ ∈ LT := mT 529 (by rfl) (by rfl)
set_option maxRecDepth 20000 in
theorem tw_530 : Cond.code ⟨"IntervalSplitsModel", "verify", "()I"⟩ prog_5_method_28_code 1 (some FieldType.int) ∈ LT := mT 530 (by rfl) (by rfl)
set_option maxRecDepth 20000 in
theorem tw_531 : Cond.methodLink "IntervalSplitsLaw" 84 ⟨"IntervalSplitsModel", "order", "(I)J"⟩ ∈ LT := mT 531 (by rfl) (by rfl)
set_option maxRecDepth 20000 in
theorem tw_532 : Cond.instanceMethod ⟨"IntervalSplitsModel", "order", "(I)J"⟩ ∈ LT := mT 532 (by rfl) (by rfl)
set_option maxRecDepth 20000 in
theorem tw_533 : Cond.selects "IntervalSplitsModel" ⟨"IntervalSplitsModel", "order", "(I)J"⟩ ⟨"IntervalSplitsModel", "order", "(I)J"⟩ ∈ LT := mT 533 (by rfl) (by rfl)
set_option maxRecDepth 20000 in
theorem tw_534 : Cond.code ⟨"IntervalSplitsModel", "order", "(I)J"⟩ prog_5_method_29_code 2 (some FieldType.long) ∈ LT := mT 534 (by rfl) (by rfl)
set_option maxRecDepth 20000 in
theorem tw_535 : Cond.methodLink "IntervalSplitsLaw" 88 ⟨"IntervalSplitsModel", "count", "(I)I"⟩ ∈ LT := mT 535 (by rfl) (by rfl)
set_option maxRecDepth 20000 in
theorem tw_536 : Cond.instanceMethod ⟨"IntervalSplitsModel", "count", "(I)I"⟩ ∈ LT := mT 536 (by rfl) (by rfl)
set_option maxRecDepth 20000 in
theorem tw_537 : Cond.selects "IntervalSplitsModel" ⟨"IntervalSplitsModel", "count", "(I)I"⟩ ⟨"IntervalSplitsModel", "count", "(I)I"⟩ ∈ LT := mT 537 (by rfl) (by rfl)
set_option maxRecDepth 20000 in
theorem tw_538 : Cond.code ⟨"IntervalSplitsModel", "count", "(I)I"⟩ prog_5_method_30_code 4 (some FieldType.int) ∈ LT := mT 538 (by rfl) (by rfl)
set_option maxRecDepth 20000 in
theorem tw_539 : Cond.constantLong "IntervalSplitsLaw" 27 (4294967295 : Int64) ∈ LT := mT 539 (by rfl) (by rfl)
theorem ts_0 : Cond.selects "IntervalSplits" ⟨"IntervalSplits", "layInterval", "(I)V"⟩ ⟨"IntervalSplits", "layInterval", "(I)V"⟩ ∈ LT := mS (q := (⟨"IntervalSplits", "layInterval", "(I)V"⟩, 19)) 0 (by rfl) (by rfl)
theorem ts_1 : Cond.selects "IntervalSplits" ⟨"IntervalSplits", "takeNumber", "()I"⟩ ⟨"IntervalSplits", "takeNumber", "()I"⟩ ∈ LT := mS (q := (⟨"IntervalSplits", "takeNumber", "()I"⟩, 19)) 1 (by rfl) (by rfl)
theorem ts_2 : Cond.selects "IntervalSplits$Row" ⟨"IntervalSplits$Row", "insertAt", "(IJ)V"⟩ ⟨"IntervalSplits$Row", "insertAt", "(IJ)V"⟩ ∈ LT := mS (q := (⟨"IntervalSplits$Row", "insertAt", "(IJ)V"⟩, 2)) 2 (by rfl) (by rfl)
theorem ts_3 : Cond.selects "IntervalSplits$Row" ⟨"IntervalSplits$Row", "intAt", "(I)I"⟩ ⟨"IntervalSplits$Row", "intAt", "(I)I"⟩ ∈ LT := mS (q := (⟨"IntervalSplits$Row", "intAt", "(I)I"⟩, 2)) 3 (by rfl) (by rfl)
theorem ts_4 : Cond.selects "IntervalSplits$Row" ⟨"IntervalSplits$Row", "at", "(I)J"⟩ ⟨"IntervalSplits$Row", "at", "(I)J"⟩ ∈ LT := mS (q := (⟨"IntervalSplits$Row", "at", "(I)J"⟩, 2)) 4 (by rfl) (by rfl)
theorem ts_5 : Cond.selects "IntervalSplits$Row" ⟨"IntervalSplits$Row", "raise", "(II)V"⟩ ⟨"IntervalSplits$Row", "raise", "(II)V"⟩ ∈ LT := mS (q := (⟨"IntervalSplits$Row", "raise", "(II)V"⟩, 2)) 5 (by rfl) (by rfl)
theorem ts_6 : Cond.selects "IntervalSplits" ⟨"IntervalSplits", "positionOf", "(J)I"⟩ ⟨"IntervalSplits", "positionOf", "(J)I"⟩ ∈ LT := mS (q := (⟨"IntervalSplits", "positionOf", "(J)I"⟩, 19)) 6 (by rfl) (by rfl)
theorem ts_7 : Cond.selects "IntervalSplits" ⟨"IntervalSplits", "notGreaterThan", "(J)I"⟩ ⟨"IntervalSplits", "notGreaterThan", "(J)I"⟩ ∈ LT := mS (q := (⟨"IntervalSplits", "notGreaterThan", "(J)I"⟩, 19)) 7 (by rfl) (by rfl)
theorem ts_8 : Cond.selects "IntervalSplits" ⟨"IntervalSplits", "place", "(JI)Z"⟩ ⟨"IntervalSplits", "place", "(JI)Z"⟩ ∈ LT := mS (q := (⟨"IntervalSplits", "place", "(JI)Z"⟩, 19)) 8 (by rfl) (by rfl)
theorem ts_9 : Cond.selects "IntervalSplits$Row" ⟨"IntervalSplits$Row", "groupOf", "(I)I"⟩ ⟨"IntervalSplits$Row", "groupOf", "(I)I"⟩ ∈ LT := mS (q := (⟨"IntervalSplits$Row", "groupOf", "(I)I"⟩, 2)) 9 (by rfl) (by rfl)
theorem ts_10 : Cond.selects "IntervalSplits" ⟨"IntervalSplits", "lengthsIn", "(I)I"⟩ ⟨"IntervalSplits", "lengthsIn", "(I)I"⟩ ∈ LT := mS (q := (⟨"IntervalSplits", "lengthsIn", "(I)I"⟩, 19)) 10 (by rfl) (by rfl)
theorem ts_11 : Cond.selects "IntervalSplits$Row" ⟨"IntervalSplits$Row", "sum", "(II)I"⟩ ⟨"IntervalSplits$Row", "sum", "(II)I"⟩ ∈ LT := mS (q := (⟨"IntervalSplits$Row", "sum", "(II)I"⟩, 2)) 11 (by rfl) (by rfl)
theorem ts_12 : Cond.selects "IntervalSplits" ⟨"IntervalSplits", "insertRecord", "(IJI)V"⟩ ⟨"IntervalSplits", "insertRecord", "(IJI)V"⟩ ∈ LT := mS (q := (⟨"IntervalSplits", "insertRecord", "(IJI)V"⟩, 19)) 12 (by rfl) (by rfl)
theorem ts_13 : Cond.selects "IntervalSplits" ⟨"IntervalSplits", "kindOfSplit", "(I)LIntervalSplits$Kind;"⟩ ⟨"IntervalSplits", "kindOfSplit", "(I)LIntervalSplits$Kind;"⟩ ∈ LT := mS (q := (⟨"IntervalSplits", "kindOfSplit", "(I)LIntervalSplits$Kind;"⟩, 19)) 13 (by rfl) (by rfl)
theorem ts_14 : Cond.selects "IntervalSplits" ⟨"IntervalSplits", "closeAhead", "(LIntervalSplits$Kind;I)V"⟩ ⟨"IntervalSplits", "closeAhead", "(LIntervalSplits$Kind;I)V"⟩ ∈ LT := mS (q := (⟨"IntervalSplits", "closeAhead", "(LIntervalSplits$Kind;I)V"⟩, 19)) 14 (by rfl) (by rfl)
theorem ts_15 : Cond.selects "IntervalSplits" ⟨"IntervalSplits", "giveOwnInterval", "(IJI)V"⟩ ⟨"IntervalSplits", "giveOwnInterval", "(IJI)V"⟩ ∈ LT := mS (q := (⟨"IntervalSplits", "giveOwnInterval", "(IJI)V"⟩, 19)) 15 (by rfl) (by rfl)
theorem ts_16 : Cond.selects "IntervalSplits" ⟨"IntervalSplits", "insertInterval", "(IIII)V"⟩ ⟨"IntervalSplits", "insertInterval", "(IIII)V"⟩ ∈ LT := mS (q := (⟨"IntervalSplits", "insertInterval", "(IIII)V"⟩, 19)) 16 (by rfl) (by rfl)
theorem ts_17 : Cond.selects "IntervalSplits" ⟨"IntervalSplits", "splitArea", "(I)V"⟩ ⟨"IntervalSplits", "splitArea", "(I)V"⟩ ∈ LT := mS (q := (⟨"IntervalSplits", "splitArea", "(I)V"⟩, 19)) 17 (by rfl) (by rfl)
theorem ts_18 : Cond.selects "IntervalSplits" ⟨"IntervalSplits", "halveInterval", "(II)V"⟩ ⟨"IntervalSplits", "halveInterval", "(II)V"⟩ ∈ LT := mS (q := (⟨"IntervalSplits", "halveInterval", "(II)V"⟩, 19)) 18 (by rfl) (by rfl)
theorem ts_19 : Cond.selects "IntervalSplits" ⟨"IntervalSplits", "keptByHalving", "(I)I"⟩ ⟨"IntervalSplits", "keptByHalving", "(I)I"⟩ ∈ LT := mS (q := (⟨"IntervalSplits", "keptByHalving", "(I)I"⟩, 19)) 19 (by rfl) (by rfl)
theorem ts_20 : Cond.selects "IntervalSplits$Row" ⟨"IntervalSplits$Row", "deleteAt", "(I)V"⟩ ⟨"IntervalSplits$Row", "deleteAt", "(I)V"⟩ ∈ LT := mS (q := (⟨"IntervalSplits$Row", "deleteAt", "(I)V"⟩, 2)) 20 (by rfl) (by rfl)
theorem ts_21 : Cond.selects "IntervalSplits" ⟨"IntervalSplits", "dropInterval", "(I)V"⟩ ⟨"IntervalSplits", "dropInterval", "(I)V"⟩ ∈ LT := mS (q := (⟨"IntervalSplits", "dropInterval", "(I)V"⟩, 19)) 21 (by rfl) (by rfl)
theorem ts_22 : Cond.selects "IntervalSplits$Row" ⟨"IntervalSplits$Row", "holds", "(I)Z"⟩ ⟨"IntervalSplits$Row", "holds", "(I)Z"⟩ ∈ LT := mS (q := (⟨"IntervalSplits$Row", "holds", "(I)Z"⟩, 2)) 22 (by rfl) (by rfl)
theorem ts_23 : Cond.selects "IntervalSplits" ⟨"IntervalSplits", "finishCutSplit", "()V"⟩ ⟨"IntervalSplits", "finishCutSplit", "()V"⟩ ∈ LT := mS (q := (⟨"IntervalSplits", "finishCutSplit", "()V"⟩, 19)) 23 (by rfl) (by rfl)
theorem ts_24 : Cond.selects "IntervalSplits" ⟨"IntervalSplits", "brokenOrders", "()I"⟩ ⟨"IntervalSplits", "brokenOrders", "()I"⟩ ∈ LT := mS (q := (⟨"IntervalSplits", "brokenOrders", "()I"⟩, 19)) 24 (by rfl) (by rfl)
theorem ts_25 : Cond.selects "IntervalSplits" ⟨"IntervalSplits", "brokenRooms", "()I"⟩ ⟨"IntervalSplits", "brokenRooms", "()I"⟩ ∈ LT := mS (q := (⟨"IntervalSplits", "brokenRooms", "()I"⟩, 19)) 25 (by rfl) (by rfl)
theorem ts_26 : Cond.selects "IntervalSplits" ⟨"IntervalSplits", "brokenWidths", "()I"⟩ ⟨"IntervalSplits", "brokenWidths", "()I"⟩ ∈ LT := mS (q := (⟨"IntervalSplits", "brokenWidths", "()I"⟩, 19)) 26 (by rfl) (by rfl)
theorem ts_27 : Cond.selects "IntervalSplits" ⟨"IntervalSplits", "lowBitsOfFirstKey", "(I)I"⟩ ⟨"IntervalSplits", "lowBitsOfFirstKey", "(I)I"⟩ ∈ LT := mS (q := (⟨"IntervalSplits", "lowBitsOfFirstKey", "(I)I"⟩, 19)) 27 (by rfl) (by rfl)
theorem ts_28 : Cond.selects "java/lang/Throwable" ⟨"java/lang/Throwable", "fillInStackTrace", "(I)Ljava/lang/Throwable;"⟩ ⟨"java/lang/Throwable", "fillInStackTrace", "(I)Ljava/lang/Throwable;"⟩ ∈ LT := mS (q := (⟨"java/lang/Throwable", "fillInStackTrace", "(I)Ljava/lang/Throwable;"⟩, 6)) 28 (by rfl) (by rfl)
theorem ts_29 : Cond.selects "IntervalSplitsModel" ⟨"IntervalSplitsModel", "has", "(J)Z"⟩ ⟨"IntervalSplitsModel", "has", "(J)Z"⟩ ∈ LT := mS (q := (⟨"IntervalSplitsModel", "has", "(J)Z"⟩, 20)) 29 (by rfl) (by rfl)
theorem ts_30 : Cond.selects "IntervalSplitsModel" ⟨"IntervalSplitsModel", "less", "(J)I"⟩ ⟨"IntervalSplitsModel", "less", "(J)I"⟩ ∈ LT := mS (q := (⟨"IntervalSplitsModel", "less", "(J)I"⟩, 20)) 30 (by rfl) (by rfl)
theorem ts_31 : Cond.selects "IntervalSplitsModel" ⟨"IntervalSplitsModel", "belongs", "(J)I"⟩ ⟨"IntervalSplitsModel", "belongs", "(J)I"⟩ ∈ LT := mS (q := (⟨"IntervalSplitsModel", "belongs", "(J)I"⟩, 20)) 31 (by rfl) (by rfl)
theorem ts_32 : Cond.selects "IntervalSplitsModel" ⟨"IntervalSplitsModel", "first", "(I)I"⟩ ⟨"IntervalSplitsModel", "first", "(I)I"⟩ ∈ LT := mS (q := (⟨"IntervalSplitsModel", "first", "(I)I"⟩, 20)) 32 (by rfl) (by rfl)
theorem ts_33 : Cond.selects "IntervalSplitsModel" ⟨"IntervalSplitsModel", "lengthsOf", "(I)I"⟩ ⟨"IntervalSplitsModel", "lengthsOf", "(I)I"⟩ ∈ LT := mS (q := (⟨"IntervalSplitsModel", "lengthsOf", "(I)I"⟩, 20)) 33 (by rfl) (by rfl)
theorem ts_34 : Cond.selects "IntervalSplitsModel" ⟨"IntervalSplitsModel", "insert", "(JII)V"⟩ ⟨"IntervalSplitsModel", "insert", "(JII)V"⟩ ∈ LT := mS (q := (⟨"IntervalSplitsModel", "insert", "(JII)V"⟩, 20)) 34 (by rfl) (by rfl)
theorem ts_35 : Cond.selects "IntervalSplitsModel" ⟨"IntervalSplitsModel", "recordsOf", "(I)I"⟩ ⟨"IntervalSplitsModel", "recordsOf", "(I)I"⟩ ∈ LT := mS (q := (⟨"IntervalSplitsModel", "recordsOf", "(I)I"⟩, 20)) 35 (by rfl) (by rfl)
theorem ts_36 : Cond.selects "IntervalSplitsModel" ⟨"IntervalSplitsModel", "widthOf", "(I)I"⟩ ⟨"IntervalSplitsModel", "widthOf", "(I)I"⟩ ∈ LT := mS (q := (⟨"IntervalSplitsModel", "widthOf", "(I)I"⟩, 20)) 36 (by rfl) (by rfl)
theorem ts_37 : Cond.selects "IntervalSplitsModel" ⟨"IntervalSplitsModel", "isCut", "(II)Z"⟩ ⟨"IntervalSplitsModel", "isCut", "(II)Z"⟩ ∈ LT := mS (q := (⟨"IntervalSplitsModel", "isCut", "(II)Z"⟩, 20)) 37 (by rfl) (by rfl)
theorem ts_38 : Cond.selects "IntervalSplitsModel" ⟨"IntervalSplitsModel", "splitArea", "(I)V"⟩ ⟨"IntervalSplitsModel", "splitArea", "(I)V"⟩ ∈ LT := mS (q := (⟨"IntervalSplitsModel", "splitArea", "(I)V"⟩, 20)) 38 (by rfl) (by rfl)
theorem ts_39 : Cond.selects "IntervalSplitsModel" ⟨"IntervalSplitsModel", "open", "(III)V"⟩ ⟨"IntervalSplitsModel", "open", "(III)V"⟩ ∈ LT := mS (q := (⟨"IntervalSplitsModel", "open", "(III)V"⟩, 20)) 39 (by rfl) (by rfl)
theorem ts_40 : Cond.selects "IntervalSplitsModel" ⟨"IntervalSplitsModel", "splitInterval", "(II)V"⟩ ⟨"IntervalSplitsModel", "splitInterval", "(II)V"⟩ ∈ LT := mS (q := (⟨"IntervalSplitsModel", "splitInterval", "(II)V"⟩, 20)) 40 (by rfl) (by rfl)
theorem ts_41 : Cond.selects "IntervalSplitsModel" ⟨"IntervalSplitsModel", "kept", "(I)I"⟩ ⟨"IntervalSplitsModel", "kept", "(I)I"⟩ ∈ LT := mS (q := (⟨"IntervalSplitsModel", "kept", "(I)I"⟩, 20)) 41 (by rfl) (by rfl)
theorem ts_42 : Cond.selects "IntervalSplitsModel" ⟨"IntervalSplitsModel", "areaOf", "(I)I"⟩ ⟨"IntervalSplitsModel", "areaOf", "(I)I"⟩ ∈ LT := mS (q := (⟨"IntervalSplitsModel", "areaOf", "(I)I"⟩, 20)) 42 (by rfl) (by rfl)
theorem in_X1 : ∀ w ∈ u_ws RX1 TX1 2, w ∈ LT := by
  intro w hw
  obtain ⟨k, hk, rfl⟩ := List.mem_map.mp hw
  have h := List.mem_range.mp hk
  match k, h with
  | 0, _ => exact tw_33
  | 1, _ => exact tw_35
  | k + 2, h => exact absurd h (by omega)
theorem in_X2 : ∀ w ∈ u_ws RX2 TX2 19, w ∈ LT := by
  intro w hw
  obtain ⟨k, hk, rfl⟩ := List.mem_map.mp hw
  have h := List.mem_range.mp hk
  match k, h with
  | 0, _ => exact tw_94
  | 1, _ => exact tw_96
  | 2, _ => exact tw_98
  | 3, _ => exact tw_100
  | 4, _ => exact tw_102
  | 5, _ => exact tw_104
  | 6, _ => exact tw_106
  | 7, _ => exact tw_108
  | 8, _ => exact tw_110
  | 9, _ => exact tw_112
  | 10, _ => exact tw_114
  | 11, _ => exact tw_116
  | 12, _ => exact tw_118
  | 13, _ => exact tw_120
  | 14, _ => exact tw_122
  | 15, _ => exact tw_124
  | 16, _ => exact tw_126
  | 17, _ => exact tw_128
  | 18, _ => exact tw_130
  | k + 19, h => exact absurd h (by omega)
theorem in_X3 : ∀ w ∈ u_ws RX3 TX3 20, w ∈ LT := by
  intro w hw
  obtain ⟨k, hk, rfl⟩ := List.mem_map.mp hw
  have h := List.mem_range.mp hk
  match k, h with
  | 0, _ => exact tw_385
  | 1, _ => exact tw_387
  | 2, _ => exact tw_389
  | 3, _ => exact tw_391
  | 4, _ => exact tw_393
  | 5, _ => exact tw_395
  | 6, _ => exact tw_397
  | 7, _ => exact tw_399
  | 8, _ => exact tw_401
  | 9, _ => exact tw_403
  | 10, _ => exact tw_405
  | 11, _ => exact tw_407
  | 12, _ => exact tw_409
  | 13, _ => exact tw_411
  | 14, _ => exact tw_413
  | 15, _ => exact tw_415
  | 16, _ => exact tw_417
  | 17, _ => exact tw_419
  | 18, _ => exact tw_421
  | 19, _ => exact tw_423
  | k + 20, h => exact absurd h (by omega)
theorem in_Jx00060 : ∀ w ∈ u_ws RJx00060 TJx00060 6, w ∈ LT := by
  intro w hw
  obtain ⟨k, hk, rfl⟩ := List.mem_map.mp hw
  have h := List.mem_range.mp hk
  match k, h with
  | 0, _ => exact tw_298
  | 1, _ => exact tw_300
  | 2, _ => exact tw_302
  | 3, _ => exact tw_304
  | 4, _ => exact tw_306
  | 5, _ => exact tw_351
  | k + 6, h => exact absurd h (by omega)
end
section
/-! THE COMMON GROUND: what a method knows at its entry (Cx), a world (Wl), contracts that read (Qr) and that write (Qw), calls -/
abbrev Gq : Type := va_G × ClassId × ClassId × (Nat → Nat)
def NWM : List (Nat × MethodName) := [(11, yX1_init), (194, yX1_insertAt), (108, yX1_intAt), (117, yX1_raise), (157, yX1_at), (104, yX1_groupOf), (137, yX1_sum), (114, yX1_deleteAt), (124, yX1_holds)]
def NwAll (U : State) : Prop := (∀ q ∈ NWM, va_Nw (.methodLinkNest RX2 q.1 q.2 RX2) U) ∧ va_Nw (.fieldLinkNest RX2 97 RX1 "size" "I" RX2) U
theorem NwAll.warm {s U : State} (hW : s.WarmedH U.vm) (h : NwAll s) : NwAll U := ⟨fun q hq => va_Nw.warmM hW (h.1 q hq), va_Nw.warmF hW h.2⟩
theorem NwAll.same {u U : State} (h : u.vm = U.vm) (hZ : NwAll u) : NwAll U := ⟨fun q hq => va_Nw.same rfl h (hZ.1 q hq), va_Nw.same rfl h hZ.2⟩
abbrev KE (ad : Nat → Nat) (A : Nat → Prop) (U : State) (H : Heap) : Prop := va_En "IntervalSplits$Kind" "LIntervalSplits$Kind;" ["HALVES", "OWN", "AREA"] [] ad A U H
def KK (E : Gq) (U : State) : Prop := va_K E.1 vwCl [(E.2.1, .int), (E.2.2.1, .long)] U ∧ NwAll U
theorem KK.warm {E : Gq} {s U : State} (hW : s.WarmedH U.vm) (h : KK E s) : KK E U := ⟨va_K.moved hW.alike h.1, h.2.warm hW⟩
def Rm (k mc ms : Nat) : Room := { frames := k, cells := mc, slots := ms, locals := 28 * k }
def Pw (E : Gq) (av : List Value) (ws : va_W) (sz : Nat) : Array Value → State → Prop := va_Pc av (fun U => U.heap.size = sz ∧ va_P E.1 vwCl ws U.heap ∧ va_D (fun _ => True) ws ∧ KK E U ∧ KE E.2.2.2 (va_A ws sz) U U.heap)
theorem Pw.blind (E : Gq) (av : List Value) (ws : va_W) (sz : Nat) : FrameBlind (Pw E av ws sz) := fun a U g mk q => by
  obtain ⟨q0, q1, qP, qD, qK, qE⟩ := q
  exact ⟨q0, q1, qP, qD, ⟨va_K.moved (u := U) (U := U.calling g mk a) (Vm.Alike.refl U.vm) qK.1, NwAll.same rfl qK.2⟩, va_En.moved (u := U) (U := U.calling g mk a) (Vm.Alike.refl U.vm) qE⟩
def Qw (E : Gq) (ws : va_W) (sz : Nat) (post : Option Value → va_W → Prop) : Array Value → State → Outcome → State → Prop := fun _ st oc t => (∃ (r : Option Value) (ws' : va_W), oc = .returned r ∧ post r ws' ∧ va_P E.1 vwCl ws' t.heap ∧ va_D (va_A ws sz) ws') ∧ va_F (va_A ws sz) st t
def Qr (post : Option Value → Prop) : Array Value → State → Outcome → State → Prop := fun _ st oc t => ∃ r : Option Value, oc = .returned r ∧ post r ∧ t.heap = st.heap
/-- what a method knows at its entry, and keeps -/
def Cx (E : Gq) (p : Program) (s : State) (m : MethodId) (args : Array Value) (meth : Method) (c : Code) (cc : ByteArray) (nL : Nat) (ret : Option FieldType) (own : String) (A : Nat → Prop) : Prop :=
  p.tables.exec = Jvm.exec ∧ c.code = cc ∧ c.maxLocals = nL ∧ meth.sig.returnType = ret ∧ meth.locks = false ∧ s.vm.findClass own = some m.cls ∧ (∀ w ∈ LT, w.before args s = true) ∧ KK E s ∧ KE E.2.2.2 A s s.heap ∧ (∀ q : Nat, s.heap.size ≤ q → A q)
def Wl (E : Gq) (A : Nat → Prop) (ws : va_W) (s : State) (H : Heap) (locs : List Loc) : Prop := va_P E.1 vwCl ws H ∧ va_D A ws ∧ va_S A s.heap H locs
section BS
variable {p : Program} {l : Launch} {e : Env} {R : Room} {s : State} {m : MethodId} {args : Array Value} {below : List Frame} {meth : Method} {c : Code} {H : Heap} {locs : List Loc} {cells slots : Nat} {Q : State → Prop}
variable {E : Gq} {cc : ByteArray} {nL : Nat} {ret : Option FieldType} {own : String} {A : Nat → Prop} {ws : va_W} {pc : Nat} {ls : Array Slot} {rest : List Value}
theorem Cx.hx (C : Cx E p s m args meth c cc nL ret own A) : p.tables.exec = Jvm.exec := C.1
theorem Cx.hb (C : Cx E p s m args meth c cc nL ret own A) : c.code = cc := C.2.1
theorem Cx.hml (C : Cx E p s m args meth c cc nL ret own A) : c.maxLocals = nL := C.2.2.1
theorem Cx.hr (C : Cx E p s m args meth c cc nL ret own A) : meth.sig.returnType = ret := C.2.2.2.1
theorem Cx.hlk (C : Cx E p s m args meth c cc nL ret own A) : meth.locks = false := C.2.2.2.2.1
theorem Cx.hown (C : Cx E p s m args meth c cc nL ret own A) : s.vm.findClass own = some m.cls := C.2.2.2.2.2.1
theorem Cx.hts (C : Cx E p s m args meth c cc nL ret own A) : ∀ w ∈ LT, w.before args s = true := C.2.2.2.2.2.2.1
theorem Cx.hK (C : Cx E p s m args meth c cc nL ret own A) : KK E s := C.2.2.2.2.2.2.2.1
theorem Cx.hE (C : Cx E p s m args meth c cc nL ret own A) : KE E.2.2.2 A s s.heap := C.2.2.2.2.2.2.2.2.1
theorem Cx.hA (C : Cx E p s m args meth c cc nL ret own A) : ∀ q : Nat, s.heap.size ≤ q → A q := C.2.2.2.2.2.2.2.2.2
theorem Wl.inA (C : Cx E p s m args meth c cc nL ret own A) (Wd : Wl E A ws s H locs) : ∀ q : Nat, va_A ws H.size q → A q := fun q h => by
  rcases h with ⟨k, e, h⟩ | h
  · exact Wd.2.1.2 k _ h
  · exact C.hA q (Nat.le_trans Wd.2.2.1 h)
theorem Cx.pre (C : Cx E p s m args meth c cc nL ret own A) (Wd : Wl E A ws s H locs) (av : List Value) : ∀ U : State, U.heap = H → s.WarmedH U.vm → Pw E av ws H.size av.toArray U := fun U hU hW =>
  ⟨rfl, by rw [hU], by rw [hU]; exact Wd.1, Wd.2.1.weaken (fun _ _ _ _ => trivial), KK.warm hW C.hK, by rw [hU]; exact va_En.moved hW.alike ((C.hE.kept Wd.2.2.2.1).narrow (Wd.inA C))⟩
/-- a contract that writes, out of its body's walk -/
theorem mk_w {y : MethodName} {maxL k mc ms : Nat} {av : List Value} {post : Option Value → va_W → Prop} (hy : plainName y.cls = true) (hlen : (lg_sl av).length ≤ maxL)
    (body : ∀ (p : Program) (e : Env) (s : State) (m : MethodId) (below : List Frame) (meth : Method) (c : Code) (ls : Array Slot), Cx E p s m av.toArray meth c cc maxL ret y.cls (va_A ws s.heap.size) → Wl E (va_A ws s.heap.size) ws s s.heap [] → lv_has ls maxL (lv_args 0 av) →
      W p l e (Rm k mc ms) s m av.toArray below meth c s.heap [] 0 0 (MQ below (Qw E ws s.heap.size post) av.toArray s mc ms (va_A ws s.heap.size)) (F0 m 0 ls [])) :
    ∀ sz : Nat, Met l y (.code y cc maxL ret :: LT) (Rm k mc ms) (Pw E av ws sz) (Qw E ws sz post) mc ms (va_A ws sz) := by
  intro sz
  refine Met.ofW (cc := cc) (maxL := maxL) (ret := ret) hy rfl ?_
  intro p e s m args below meth c s₁ B hml hv
  obtain ⟨rfl, hsz, hP, hD0, hK, hE⟩ := hv
  have hts := atoms_spec (ws := .code y cc maxL ret :: LT) B.pre
  subst hsz
  have hl := lv_entry av (n := maxL) hlen
  rw [lg_entry_eq]
  exact body p e s m below meth c _ ⟨B.exec, B.bytes, hml, B.returns, B.notSynchronized, findClass_of_methodNamed B.named, fun w h => hts w (List.mem_cons_of_mem _ h), hK, hE, fun q h => Or.inr h⟩ ⟨hP, hD0.self, va_S.rf⟩ hl
/-- a contract that reads -/
theorem mk_r {y : MethodName} {maxL k : Nat} {av : List Value} {post : Option Value → Prop} (hy : plainName y.cls = true) (hlen : (lg_sl av).length ≤ maxL)
    (body : ∀ (p : Program) (e : Env) (s : State) (m : MethodId) (below : List Frame) (meth : Method) (c : Code) (ls : Array Slot), Cx E p s m av.toArray meth c cc maxL ret y.cls (va_A ws s.heap.size) → Wl E (va_A ws s.heap.size) ws s s.heap [] → lv_has ls maxL (lv_args 0 av) →
      W p l e (Rm k 0 0) s m av.toArray below meth c s.heap [] 0 0 (MQ below (Qr post) av.toArray s 0 0 (fun _ => False)) (F0 m 0 ls [])) :
    ∀ sz : Nat, Met l y (.code y cc maxL ret :: LT) (Rm k 0 0) (Pw E av ws sz) (Qr post) 0 0 (fun _ => False) := by
  intro sz
  refine Met.ofW (cc := cc) (maxL := maxL) (ret := ret) hy rfl ?_
  intro p e s m args below meth c s₁ B hml hv
  obtain ⟨rfl, hsz, hP, hD0, hK, hE⟩ := hv
  have hts := atoms_spec (ws := .code y cc maxL ret :: LT) B.pre
  subst hsz
  have hl := lv_entry av (n := maxL) hlen
  rw [lg_entry_eq]
  exact body p e s m below meth c _ ⟨B.exec, B.bytes, hml, B.returns, B.notSynchronized, findClass_of_methodNamed B.named, fun w h => hts w (List.mem_cons_of_mem _ h), hK, hE, fun q h => Or.inr h⟩ ⟨hP, hD0.self, va_S.rf⟩ hl
/-! ends -/
theorem ret_ir {post : Option Value → Prop} {v : Int32} (C : Cx E p s m args meth c cc nL (some .int) own A) (hp : post (some (.int v))) (hdg : decode cc pc = .ok (.ireturn, 1)) : W p l e R s m args below meth c s.heap [] 0 0 (MQ below (Qr post) args s 0 0 (fun _ => False)) (F0 m pc ls [.int v]) :=
  W.iret C.hx C.hb C.hr (fun _ ht _ => ⟨_, rfl, hp, ht⟩) (fun _ h => absurd h List.not_mem_nil) hdg C.hlk
theorem ret_zr {post : Option Value → Prop} {v : Int32} (C : Cx E p s m args meth c cc nL (some .boolean) own A) (hp : post (some (.int v))) (hn : narrow .boolean (.int v) = .int v) (hdg : decode cc pc = .ok (.ireturn, 1)) : W p l e R s m args below meth c s.heap [] 0 0 (MQ below (Qr post) args s 0 0 (fun _ => False)) (F0 m pc ls [.int v]) :=
  W.zret C.hx C.hb C.hr hn (fun _ ht _ => ⟨_, rfl, hp, ht⟩) (fun _ h => absurd h List.not_mem_nil) hdg C.hlk
theorem ret_lr {post : Option Value → Prop} {v : Int64} (C : Cx E p s m args meth c cc nL (some .long) own A) (hp : post (some (.long v))) (hdg : decode cc pc = .ok (.lreturn, 1)) : W p l e R s m args below meth c s.heap [] 0 0 (MQ below (Qr post) args s 0 0 (fun _ => False)) (F0 m pc ls [.long v]) :=
  W.lret C.hx C.hb C.hr (fun _ ht _ => ⟨_, rfl, hp, ht⟩) (fun _ h => absurd h List.not_mem_nil) hdg C.hlk
theorem ret_ar {post : Option Value → Prop} {a : Nat} {cn : String} (C : Cx E p s m args meth c cc nL (some (.object cn)) own A) (hp : post (some (.ref a))) (hdg : decode cc pc = .ok (.areturn, 1)) : W p l e R s m args below meth c s.heap [] 0 0 (MQ below (Qr post) args s 0 0 (fun _ => False)) (F0 m pc ls [.ref a]) :=
  W.aret C.hx C.hb C.hr (Or.inl ⟨_, rfl⟩) (Or.inr ⟨_, rfl⟩) (fun _ ht _ => ⟨_, rfl, hp, ht⟩) (fun _ h => absurd h List.not_mem_nil) hdg C.hlk
theorem ret_iw {post : Option Value → va_W → Prop} {ws0 : va_W} {v : Int32} {mc ms : Nat} (C : Cx E p s m args meth c cc nL (some .int) own (va_A ws0 s.heap.size)) (Wd : Wl E (va_A ws0 s.heap.size) ws s H locs) (hp : post (some (.int v)) ws) (hdg : decode cc pc = .ok (.ireturn, 1)) : W p l e R s m args below meth c H locs mc ms (MQ below (Qw E ws0 s.heap.size post) args s mc ms (va_A ws0 s.heap.size)) (F0 m pc ls [.int v]) :=
  W.iret C.hx C.hb C.hr (fun _ ht _ => ⟨⟨_, ws, rfl, hp, by rw [ht]; exact Wd.1, Wd.2.1⟩, Wd.2.2.F ht⟩) Wd.2.2.2.2 hdg C.hlk
theorem ret_zw {post : Option Value → va_W → Prop} {ws0 : va_W} {v : Int32} {mc ms : Nat} (C : Cx E p s m args meth c cc nL (some .boolean) own (va_A ws0 s.heap.size)) (Wd : Wl E (va_A ws0 s.heap.size) ws s H locs) (hp : post (some (.int v)) ws) (hn : narrow .boolean (.int v) = .int v) (hdg : decode cc pc = .ok (.ireturn, 1)) : W p l e R s m args below meth c H locs mc ms (MQ below (Qw E ws0 s.heap.size post) args s mc ms (va_A ws0 s.heap.size)) (F0 m pc ls [.int v]) :=
  W.zret C.hx C.hb C.hr hn (fun _ ht _ => ⟨⟨_, ws, rfl, hp, by rw [ht]; exact Wd.1, Wd.2.1⟩, Wd.2.2.F ht⟩) Wd.2.2.2.2 hdg C.hlk
theorem ret_vw {post : Option Value → va_W → Prop} {ws0 : va_W} {mc ms : Nat} (C : Cx E p s m args meth c cc nL none own (va_A ws0 s.heap.size)) (Wd : Wl E (va_A ws0 s.heap.size) ws s H locs) (hp : post none ws) (hdg : decode cc pc = .ok (.return_, 1)) : W p l e R s m args below meth c H locs mc ms (MQ below (Qw E ws0 s.heap.size post) args s mc ms (va_A ws0 s.heap.size)) (F0 m pc ls []) :=
  W.vret C.hx C.hb C.hr (fun _ ht _ => ⟨⟨_, ws, rfl, hp, by rw [ht]; exact Wd.1, Wd.2.1⟩, Wd.2.2.F ht⟩) Wd.2.2.2.2 hdg C.hlk
/-! calls -/
theorem call_r {st0 : List Value} {a : Array Value} {post : Option Value → Prop} (hr : va_Run p l e R s m args below meth c H locs cells slots 0 0 (F0 m pc ls st0) rest (Qr post a) (fun _ => False))
    (kk : ∀ v : Option Value, post v → W p l e R s m args below meth c H locs cells slots Q (F0 m (pc + 3) ls (v.toList ++ rest))) : W p l e R s m args below meth c H locs cells slots Q (F0 m pc ls st0) := by
  intro T hT X
  obtain ⟨v, st₀, t, T', L, h0, X', hL, e1, e2, ⟨r, hv, hp, hh⟩, st⟩ := hr T hT X
  cases hv
  obtain ⟨t2, a1, b1⟩ := kk v hp T' (by rw [e1, hh, h0]) (Stand.forget X' (fun q h => (hL q h).elim))
  exact ⟨t2, st t2 a1, b1⟩
theorem call_w {st0 : List Value} {a : Array Value} {mc ms : Nat} {post : Option Value → va_W → Prop} (C : Cx E p s m args meth c cc nL ret own A) (Wd : Wl E A ws s H locs) (hr : va_Run p l e R s m args below meth c H locs cells slots mc ms (F0 m pc ls st0) rest (Qw E ws H.size post a) (va_A ws H.size))
    (kk : ∀ (v : Option Value) (ws' : va_W) (H1 : Heap) (locs1 : List Loc), post v ws' → Wl E A ws' s H1 locs1 → W p l e R s m args below meth c H1 locs1 (cells + mc) (slots + ms) Q (F0 m (pc + 3) ls (v.toList ++ rest))) : W p l e R s m args below meth c H locs cells slots Q (F0 m pc ls st0) := by
  intro T hT X
  obtain ⟨v, st₀, t, T', L, h0, X', hL, e1, e2, ⟨⟨r, ws', hv, hp, hP, hD⟩, hz, hk⟩, st⟩ := hr T hT X
  cases hv
  rw [h0] at hz hk
  have hin := Wd.inA C
  have hS := Wd.2.2
  obtain ⟨t2, a1, b1⟩ := kk v ws' T'.heap (locs ++ L) hp ⟨by rw [e1]; exact hP, hD.weaken (fun _ q _ h => hin q.1 h), Nat.le_trans hS.1 (by rw [e1]; exact hz), fun q h1 h2 => by
      rw [e1, hk q (Nat.lt_of_lt_of_le h1 hS.1) (fun z => h2 (hin q z))]; exact hS.2.1 q h1 h2, fun q hq => by
      rcases List.mem_append.mp hq with h | h
      · exact hS.2.2 q h
      · exact hin _ (hL q h)⟩ T' rfl X'
  exact ⟨t2, st t2 a1, b1⟩
/-- the words of a method that is called on an object; of a static one -/
def Wy (y : MethodName) (bytes : ByteArray) (maxL : Nat) (rt : Option FieldType) (n : Nat) : Prop := Cond.code y bytes maxL rt ∈ LT ∧ Cond.initialized y.cls ∈ LT ∧ Cond.instanceMethod y ∈ LT ∧ maxL ≤ 9 ∧ (y.cls ≠ "java/lang/invoke/MethodHandle" ∧ y.cls ≠ "java/lang/invoke/VarHandle" ∧ (parseMethodDescriptor y.desc).map (fun d => d.parameters.length) = some n)
def Wz (y : MethodName) (bytes : ByteArray) (maxL : Nat) (rt : Option FieldType) (n : Nat) : Prop := Cond.code y bytes maxL rt ∈ LT ∧ Cond.initialized y.cls ∈ LT ∧ Cond.static y ∈ LT ∧ maxL ≤ 9 ∧ (y.cls ≠ "java/lang/invoke/MethodHandle" ∧ y.cls ≠ "java/lang/invoke/VarHandle" ∧ (parseMethodDescriptor y.desc).map (fun d => d.parameters.length) = some n)
section RN
variable {y : MethodName} {bytes : ByteArray} {maxL n k mc ms idx b : Nat} {rt : Option FieldType} {As : List Value} {st0 : List Value} {Qc : Nat → Array Value → State → Outcome → State → Prop} {free : Nat → Addr → Prop}
/-- a call on an object, by a link of its own class -/
theorem runV (C : Cx E p s m args meth c cc nL ret own A) (Wd : Wl E A ws s H locs) (hM : ∀ sz : Nat, Met l y (.code y bytes maxL rt :: LT) (Rm k mc ms) (Pw E (.ref b :: As) ws sz) (Qc sz) mc ms (free sz)) (hy : Wy y bytes maxL rt n) (hse : Cond.selects y.cls y y ∈ LT) (hl : Cond.methodLink own idx y ∈ LT)
    {ci N q0 : Nat} {T : u_T} {fs : List Value} (hc : vwCl[ci]? = some (y.cls, T, N)) (he : ws[q0]? = some (b, .inr (ci, fs))) (hR : k + 1 ≤ R.frames ∧ 28 * (k + 1) ≤ R.locals) (hn : As.length = n) (hsz : ls.size = nL) (hst : st0 = As.reverse ++ .ref b :: rest) (hW : (rest.map fun v => v.category).sum ≤ 8) (hdg : decode cc pc = .ok (.invokevirtual idx, 3)) (hf : cells + mc ≤ R.cells ∧ slots + ms ≤ R.slots) :
    va_Run p l e R s m args below meth c H locs cells slots mc ms (F0 m pc ls st0) rest (Qc H.size (Value.ref b :: As).toArray) (free H.size) := by
  obtain ⟨w1, w2, w3, w4, w5⟩ := hy
  refine va_runV (C := y.cls) (b := b) (As := As) (index := idx) ⟨C.hx, C.hb, C.hml, C.hown, C.hts⟩ (hM H.size) ⟨callB_of n C.hts (gLT w1) rfl rfl rfl (C.hts _ w2) (C.hts _ hl) w5 ⟨hR.1, ?_⟩, C.hts _ w3, C.hts _ hse⟩ ⟨Pw.blind _ _ _ _, va_recv C.hK.1 Wd.1 hc he, C.pre Wd (.ref b :: As)⟩ rfl hn hsz hst (lv_room hW) hdg hf
  have := hR.2
  show 8 + (maxL + 11) + 28 * k ≤ R.locals
  omega
/-- a nest mate's private method on an object -/
theorem runVN (C : Cx E p s m args meth c cc nL ret RX2 A) (Wd : Wl E A ws s H locs) (hM : ∀ sz : Nat, Met l y (.code y bytes maxL rt :: LT) (Rm k mc ms) (Pw E (.ref b :: As) ws sz) (Qc sz) mc ms (free sz)) (hy : Wy y bytes maxL rt n) (hse : Cond.selects y.cls y y ∈ LT) (hl : (idx, y) ∈ NWM)
    {ci N q0 : Nat} {T : u_T} {fs : List Value} (hc : vwCl[ci]? = some (y.cls, T, N)) (he : ws[q0]? = some (b, .inr (ci, fs))) (hR : k + 1 ≤ R.frames ∧ 28 * (k + 1) ≤ R.locals) (hn : As.length = n) (hsz : ls.size = nL) (hst : st0 = As.reverse ++ .ref b :: rest) (hW : (rest.map fun v => v.category).sum ≤ 8) (hdg : decode cc pc = .ok (.invokevirtual idx, 3)) (hf : cells + mc ≤ R.cells ∧ slots + ms ≤ R.slots) :
    va_Run p l e R s m args below meth c H locs cells slots mc ms (F0 m pc ls st0) rest (Qc H.size (Value.ref b :: As).toArray) (free H.size) := by
  obtain ⟨w1, w2, w3, w4, w5⟩ := hy
  refine va_runVN (C := y.cls) (b := b) (As := As) (index := idx) (host := RX2) ⟨C.hx, C.hb, C.hml, C.hown, C.hts⟩ (hM H.size) ⟨va_cnB n C.hts (gLT w1) rfl rfl rfl (C.hK.2.1 _ hl) (C.hts _ w2) w5 ⟨hR.1, ?_⟩, C.hts _ w3, C.hts _ hse⟩ ⟨Pw.blind _ _ _ _, va_recv C.hK.1 Wd.1 hc he, C.pre Wd (.ref b :: As)⟩ rfl hn hsz hst (lv_room hW) hdg hf
  have := hR.2
  show 8 + (maxL + 11) + 28 * k ≤ R.locals
  omega
/-- a static method of the own class -/
theorem runS (C : Cx E p s m args meth c cc nL ret own A) (Wd : Wl E A ws s H locs) (hM : ∀ sz : Nat, Met l y (.code y bytes maxL rt :: LT) (Rm k mc ms) (Pw E As ws sz) (Qc sz) mc ms (free sz)) (hy : Wz y bytes maxL rt n) (hl : Cond.methodLink own idx y ∈ LT)
    (hR : k + 1 ≤ R.frames ∧ 28 * (k + 1) ≤ R.locals) (hn : As.length = n) (hsz : ls.size = nL) (hst : st0 = As.reverse ++ rest) (hW : (rest.map fun v => v.category).sum ≤ 8) (hdg : decode cc pc = .ok (.invokestatic idx, 3)) (hf : cells + mc ≤ R.cells ∧ slots + ms ≤ R.slots) :
    va_Run p l e R s m args below meth c H locs cells slots mc ms (F0 m pc ls st0) rest (Qc H.size As.toArray) (free H.size) := by
  obtain ⟨w1, w2, w3, w4, w5⟩ := hy
  refine va_runS (As := As) (index := idx) ⟨C.hx, C.hb, C.hml, C.hown, C.hts⟩ (hM H.size) ⟨callB_of n C.hts (gLT w1) rfl rfl rfl (C.hts _ w2) (C.hts _ hl) w5 ⟨hR.1, ?_⟩, C.hts _ w3⟩ ⟨Pw.blind _ _ _ _, C.pre Wd As⟩ rfl hn hsz hst (lv_room hW) hdg hf
  have := hR.2
  show 8 + (maxL + 11) + 28 * k ≤ R.locals
  omega
/-- a constructor, by a link of the own class; by a nest mate's link -/
theorem runI (C : Cx E p s m args meth c cc nL ret own A) (Wd : Wl E A ws s H locs) (hM : ∀ sz : Nat, Met l y (.code y bytes maxL none :: LT) (Rm k mc ms) (Pw E (.ref b :: As) ws sz) (Qc sz) mc ms (free sz)) (hy : Wy y bytes maxL none n) (hnm : y.name = "<init>") (hl : Cond.methodLink own idx y ∈ LT)
    (hR : k + 1 ≤ R.frames ∧ 28 * (k + 1) ≤ R.locals) (hn : As.length = n) (hsz : ls.size = nL) (hst : st0 = As.reverse ++ .ref b :: rest) (hW : (rest.map fun v => v.category).sum ≤ 8) (hdg : decode cc pc = .ok (.invokespecial idx, 3)) (hf : cells + mc ≤ R.cells ∧ slots + ms ≤ R.slots) :
    va_Run p l e R s m args below meth c H locs cells slots mc ms (F0 m pc ls st0) rest (Qc H.size (Value.ref b :: As).toArray) (free H.size) := by
  obtain ⟨w1, w2, w3, w4, w5⟩ := hy
  refine va_runI (b := b) (As := As) (index := idx) ⟨C.hx, C.hb, C.hml, C.hown, C.hts⟩ (hM H.size) ⟨callB_of n C.hts (gLT w1) rfl rfl rfl (C.hts _ w2) (C.hts _ hl) w5 ⟨hR.1, ?_⟩, hnm, C.hts _ w3⟩ ⟨Pw.blind _ _ _ _, C.pre Wd (.ref b :: As)⟩ rfl hn hsz hst (lv_room hW) hdg hf
  have := hR.2
  show 8 + (maxL + 11) + 28 * k ≤ R.locals
  omega
end RN
/-! fields and arrays of a world -/
section FD
variable {ci N q0 idx a n : Nat} {T : u_T} {fs : List Value} {Cn : String} {v : Value}
theorem getf (C : Cx E p s m args meth c cc nL ret own A) (Wd : Wl E A ws s H locs) (q0 : Nat) (he : ws[q0]? = some (a, .inr (ci, fs))) (hc : vwCl[ci]? = some (Cn, T, N)) (hin : ∀ w ∈ u_ws Cn T N, w ∈ LT) (k : Nat) (hk : k < N) (hl : Cond.fieldLink own idx (T k).1 (T k).2.1 (T k).2.2.1 ∈ LT) (hv : fs[k]? = some v) (hdg : decode cc pc = .ok (.getfield idx, 3))
    (kk : W p l e R s m args below meth c H locs cells slots Q (F0 m (pc + 3) ls (v :: rest))) : W p l e R s m args below meth c H locs cells slots Q (F0 m pc ls (.ref a :: rest)) :=
  va_get C.hx C.hb C.hts hin C.hown C.hK.1 Wd.1 q0 he hc k hk (C.hts _ hl) (fun _ h => h) hv hdg kk
theorem putf (C : Cx E p s m args meth c cc nL ret own A) (Wd : Wl E A ws s H locs) (q0 : Nat) (he : ws[q0]? = some (a, .inr (ci, fs))) (hc : vwCl[ci]? = some (Cn, T, N)) (hin : ∀ w ∈ u_ws Cn T N, w ∈ LT) (ty0 : Nat → FieldType) (hty : ∀ k, k < N → parseFieldDescriptor (T k).2.2.1 = some (ty0 k)) (hnm : ∀ a, a < N → ∀ b, b < N → a ≠ b → (T a).2.1 ≠ (T b).2.1) (k : Nat) (hk : k < N) (hl : Cond.fieldLink own idx (T k).1 (T k).2.1 (T k).2.2.1 ∈ LT) (hfin : (T k).2.2.2 = false) {ty : FieldType} (hd : parseFieldDescriptor (T k).2.2.1 = some ty) (hn : narrow ty v = v) (hfit : fits ty v = true) (hlt : k < fs.length) (hdg : decode cc pc = .ok (.putfield idx, 3))
    (kk : ∀ (H1 : Heap) (locs1 : List Loc), Wl E A (ws.set q0 (a, .inr (ci, fs.set k v))) s H1 locs1 → W p l e R s m args below meth c H1 locs1 cells slots Q (F0 m (pc + 3) ls rest)) : W p l e R s m args below meth c H locs cells slots Q (F0 m pc ls (v :: .ref a :: rest)) :=
  va_put C.hx C.hb C.hts hin ty0 hty hnm C.hown C.hK.1 Wd.1 Wd.2.1 Wd.2.2 q0 he hc k hk (C.hts _ hl) (fun _ h => h) hfin hd hn hfit hlt hdg (fun H1 locs1 a1 a2 a3 => kk H1 locs1 ⟨a1, a2, a3⟩)
theorem lald (C : Cx E p s m args meth c cc nL ret own A) (Wd : Wl E A ws s H locs) (q0 : Nat) {f : Nat → Int64} (ha : ws[q0]? = some (a, .inl (E.2.2.1, n, .inr (.inl f)))) {i : Int32} (hin : vp_in i n) (hdg : decode cc pc = .ok (.laload, 1))
    (kk : W p l e R s m args below meth c H locs cells slots Q (F0 m (pc + 1) ls (.long (f i.toNatClampNeg) :: rest))) : W p l e R s m args below meth c H locs cells slots Q (F0 m pc ls (.int i :: .ref a :: rest)) :=
  va_lald C.hx C.hb C.hK.1 Wd.1 q0 1 ha rfl hin hdg kk
theorem iald (C : Cx E p s m args meth c cc nL ret own A) (Wd : Wl E A ws s H locs) (q0 : Nat) {f : Nat → Int32} (ha : ws[q0]? = some (a, .inl (E.2.1, n, .inl f))) {i : Int32} (hin : vp_in i n) (hdg : decode cc pc = .ok (.iaload, 1))
    (kk : W p l e R s m args below meth c H locs cells slots Q (F0 m (pc + 1) ls (.int (f i.toNatClampNeg) :: rest))) : W p l e R s m args below meth c H locs cells slots Q (F0 m pc ls (.int i :: .ref a :: rest)) :=
  va_iald C.hx C.hb C.hK.1 Wd.1 q0 0 ha rfl hin hdg kk
theorem alenJ (C : Cx E p s m args meth c cc nL ret own A) (Wd : Wl E A ws s H locs) (q0 : Nat) {f : Nat → Int64} (ha : ws[q0]? = some (a, .inl (E.2.2.1, n, .inr (.inl f)))) (hdg : decode cc pc = .ok (.arraylength, 1))
    (kk : W p l e R s m args below meth c H locs cells slots Q (F0 m (pc + 1) ls (.int (nI n) :: rest))) : W p l e R s m args below meth c H locs cells slots Q (F0 m pc ls (.ref a :: rest)) :=
  va_alen C.hx C.hb C.hK.1 Wd.1 q0 1 ha rfl rfl hdg kk
theorem last (C : Cx E p s m args meth c cc nL ret own A) (Wd : Wl E A ws s H locs) (q0 : Nat) {f : Nat → Int64} (ha : ws[q0]? = some (a, .inl (E.2.2.1, n, .inr (.inl f)))) {i : Int32} {x : Int64} (hin : vp_in i n) (hdg : decode cc pc = .ok (.lastore, 1))
    (kk : ∀ (H1 : Heap) (locs1 : List Loc), Wl E A (ws.set q0 (a, .inl (E.2.2.1, n, .inr (.inl (vp_updL f i.toNatClampNeg x))))) s H1 locs1 → W p l e R s m args below meth c H1 locs1 cells slots Q (F0 m (pc + 1) ls rest)) : W p l e R s m args below meth c H locs cells slots Q (F0 m pc ls (.long x :: .int i :: .ref a :: rest)) :=
  va_last C.hx C.hb C.hK.1 Wd.1 Wd.2.1 Wd.2.2 q0 1 ha rfl hin hdg (fun H1 locs1 a1 a2 a3 => kk H1 locs1 ⟨a1, a2, a3⟩)
theorem iast (C : Cx E p s m args meth c cc nL ret own A) (Wd : Wl E A ws s H locs) (q0 : Nat) {f : Nat → Int32} (ha : ws[q0]? = some (a, .inl (E.2.1, n, .inl f))) {i : Int32} {x : Int32} (hin : vp_in i n) (hdg : decode cc pc = .ok (.iastore, 1))
    (kk : ∀ (H1 : Heap) (locs1 : List Loc), Wl E A (ws.set q0 (a, .inl (E.2.1, n, .inl (upd f i.toNatClampNeg x)))) s H1 locs1 → W p l e R s m args below meth c H1 locs1 cells slots Q (F0 m (pc + 1) ls rest)) : W p l e R s m args below meth c H locs cells slots Q (F0 m pc ls (.int x :: .int i :: .ref a :: rest)) :=
  va_iast C.hx C.hb C.hK.1 Wd.1 Wd.2.1 Wd.2.2 q0 0 ha rfl hin hdg (fun H1 locs1 a1 a2 a3 => kk H1 locs1 ⟨a1, a2, a3⟩)
end FD
end BS
end
section
/-! instructions over ints that are small naturals (nI), and compares of longs with their branch -/
section NR
variable {p : Program} {l : Launch} {e : Env} {R : Room} {s : State} {m : MethodId} {args : Array Value} {below : List Frame} {meth : Method} {c : Code} {H : Heap} {locs : List Loc} {cells slots : Nat} {Q : State → Prop}
variable {E : Gq} {cc : ByteArray} {nL : Nat} {ret : Option FieldType} {own : String} {A : Nat → Prop} {pc : Nat} {ls : Array Slot} {rest : List Value} {a b tgt : Nat} {off : Int} {x y : Int64}
theorem n_add (C : Cx E p s m args meth c cc nL ret own A) (hdg : decode cc pc = .ok (.iadd, 1)) (k : W p l e R s m args below meth c H locs cells slots Q (F0 m (pc + 1) ls (.int (nI (a + b)) :: rest))) : W p l e R s m args below meth c H locs cells slots Q (F0 m pc ls (.int (nI b) :: .int (nI a) :: rest)) := lv_iadd C.hx C.hb hdg (by rw [nI_add]; exact k)
theorem n_sub (C : Cx E p s m args meth c cc nL ret own A) (hdg : decode cc pc = .ok (.isub, 1)) (h : b ≤ a) (k : W p l e R s m args below meth c H locs cells slots Q (F0 m (pc + 1) ls (.int (nI (a - b)) :: rest))) : W p l e R s m args below meth c H locs cells slots Q (F0 m pc ls (.int (nI b) :: .int (nI a) :: rest)) := lv_isub C.hx C.hb hdg (by rw [pk_sub h]; exact k)
theorem n_mul (C : Cx E p s m args meth c cc nL ret own A) (hdg : decode cc pc = .ok (.imul, 1)) (k : W p l e R s m args below meth c H locs cells slots Q (F0 m (pc + 1) ls (.int (nI (a * b)) :: rest))) : W p l e R s m args below meth c H locs cells slots Q (F0 m pc ls (.int (nI b) :: .int (nI a) :: rest)) := lv_imul C.hx C.hb hdg (by rw [pk_mul]; exact k)
theorem n_div (C : Cx E p s m args meth c cc nL ret own A) (hdg : decode cc pc = .ok (.idiv, 1)) (ha : a < 2 ^ 31) (h0 : 0 < b) (hb : b < 2 ^ 31) (k : W p l e R s m args below meth c H locs cells slots Q (F0 m (pc + 1) ls (.int (nI (a / b)) :: rest))) : W p l e R s m args below meth c H locs cells slots Q (F0 m pc ls (.int (nI b) :: .int (nI a) :: rest)) := lv_idiv C.hx C.hb hdg (nI_ne0 h0 hb) (by rw [pk_div ha h0 hb]; exact k)
theorem n_rem (C : Cx E p s m args meth c cc nL ret own A) (hdg : decode cc pc = .ok (.irem, 1)) (ha : a < 2 ^ 31) (h0 : 0 < b) (hb : b < 2 ^ 31) (k : W p l e R s m args below meth c H locs cells slots Q (F0 m (pc + 1) ls (.int (nI (a % b)) :: rest))) : W p l e R s m args below meth c H locs cells slots Q (F0 m pc ls (.int (nI b) :: .int (nI a) :: rest)) := lv_irem C.hx C.hb hdg (nI_ne0 h0 hb) (by rw [pk_rem ha h0 hb]; exact k)
theorem n_icmp_lt (C : Cx E p s m args meth c cc nL ret own A) (hdg : decode cc pc = .ok (.if_icmp .lt off, 3)) (ht : (pc : Int) + off = (tgt : Int)) (ha : a < 2 ^ 31) (hb : b < 2 ^ 31) (kt : a < b → W p l e R s m args below meth c H locs cells slots Q (F0 m tgt ls rest)) (kf : b ≤ a → W p l e R s m args below meth c H locs cells slots Q (F0 m (pc + 3) ls rest)) : W p l e R s m args below meth c H locs cells slots Q (F0 m pc ls (.int (nI b) :: .int (nI a) :: rest)) := lv_icmp_lt C.hx C.hb hdg ht (fun h => kt ((nI_ltI ha hb).mp h)) (fun h => kf (Nat.le_of_not_lt fun q => h ((nI_ltI ha hb).mpr q)))
theorem n_icmp_ge (C : Cx E p s m args meth c cc nL ret own A) (hdg : decode cc pc = .ok (.if_icmp .ge off, 3)) (ht : (pc : Int) + off = (tgt : Int)) (ha : a < 2 ^ 31) (hb : b < 2 ^ 31) (kt : b ≤ a → W p l e R s m args below meth c H locs cells slots Q (F0 m tgt ls rest)) (kf : a < b → W p l e R s m args below meth c H locs cells slots Q (F0 m (pc + 3) ls rest)) : W p l e R s m args below meth c H locs cells slots Q (F0 m pc ls (.int (nI b) :: .int (nI a) :: rest)) := lv_icmp_ge C.hx C.hb hdg ht (fun h => kt ((nI_leI hb ha).mp h)) (fun h => kf (Nat.lt_of_not_le fun q => h ((nI_leI hb ha).mpr q)))
theorem n_icmp_gt (C : Cx E p s m args meth c cc nL ret own A) (hdg : decode cc pc = .ok (.if_icmp .gt off, 3)) (ht : (pc : Int) + off = (tgt : Int)) (ha : a < 2 ^ 31) (hb : b < 2 ^ 31) (kt : b < a → W p l e R s m args below meth c H locs cells slots Q (F0 m tgt ls rest)) (kf : a ≤ b → W p l e R s m args below meth c H locs cells slots Q (F0 m (pc + 3) ls rest)) : W p l e R s m args below meth c H locs cells slots Q (F0 m pc ls (.int (nI b) :: .int (nI a) :: rest)) := lv_icmp_gt C.hx C.hb hdg ht (fun h => kt ((nI_ltI hb ha).mp h)) (fun h => kf (Nat.le_of_not_lt fun q => h ((nI_ltI hb ha).mpr q)))
theorem n_icmp_le (C : Cx E p s m args meth c cc nL ret own A) (hdg : decode cc pc = .ok (.if_icmp .le off, 3)) (ht : (pc : Int) + off = (tgt : Int)) (ha : a < 2 ^ 31) (hb : b < 2 ^ 31) (kt : a ≤ b → W p l e R s m args below meth c H locs cells slots Q (F0 m tgt ls rest)) (kf : b < a → W p l e R s m args below meth c H locs cells slots Q (F0 m (pc + 3) ls rest)) : W p l e R s m args below meth c H locs cells slots Q (F0 m pc ls (.int (nI b) :: .int (nI a) :: rest)) := lv_icmp_le C.hx C.hb hdg ht (fun h => kt ((nI_leI ha hb).mp h)) (fun h => kf (Nat.lt_of_not_le fun q => h ((nI_leI ha hb).mpr q)))
theorem n_icmp_eq (C : Cx E p s m args meth c cc nL ret own A) (hdg : decode cc pc = .ok (.if_icmp .eq off, 3)) (ht : (pc : Int) + off = (tgt : Int)) (ha : a < 2 ^ 31) (hb : b < 2 ^ 31) (kt : a = b → W p l e R s m args below meth c H locs cells slots Q (F0 m tgt ls rest)) (kf : a ≠ b → W p l e R s m args below meth c H locs cells slots Q (F0 m (pc + 3) ls rest)) : W p l e R s m args below meth c H locs cells slots Q (F0 m pc ls (.int (nI b) :: .int (nI a) :: rest)) := lv_icmp_eq C.hx C.hb hdg ht (fun h => kt ((nI_eq ha hb).mp h)) (fun h => kf (fun q => h ((nI_eq ha hb).mpr q)))
theorem n_icmp_ne (C : Cx E p s m args meth c cc nL ret own A) (hdg : decode cc pc = .ok (.if_icmp .ne off, 3)) (ht : (pc : Int) + off = (tgt : Int)) (ha : a < 2 ^ 31) (hb : b < 2 ^ 31) (kt : a ≠ b → W p l e R s m args below meth c H locs cells slots Q (F0 m tgt ls rest)) (kf : a = b → W p l e R s m args below meth c H locs cells slots Q (F0 m (pc + 3) ls rest)) : W p l e R s m args below meth c H locs cells slots Q (F0 m pc ls (.int (nI b) :: .int (nI a) :: rest)) := lv_icmp_ne C.hx C.hb hdg ht (fun h => kt (fun q => h ((nI_eq ha hb).mpr q))) (fun h => kf ((nI_eq ha hb).mp h))
theorem nI_eq0 {a : Nat} (ha : a < 2 ^ 31) : nI a = 0 ↔ a = 0 := nI_eq (b := 0) ha (by decide)
theorem nI_le0 {a : Nat} (ha : a < 2 ^ 31) : nI a ≤ 0 ↔ a = 0 := ⟨fun h => Nat.le_zero.mp ((nI_leI (b := 0) ha (by decide)).mp h), fun h => by subst h; exact (nI_leI (b := 0) (by decide) (by decide)).mpr (Nat.le_refl 0)⟩
theorem nI_gt0 {a : Nat} (ha : a < 2 ^ 31) : 0 < nI a ↔ 0 < a := nI_ltI (a := 0) (by decide) ha
theorem n_if_eq (C : Cx E p s m args meth c cc nL ret own A) (hdg : decode cc pc = .ok (.ifCond .eq off, 3)) (ht : (pc : Int) + off = (tgt : Int)) (ha : a < 2 ^ 31) (kt : a = 0 → W p l e R s m args below meth c H locs cells slots Q (F0 m tgt ls rest)) (kf : a ≠ 0 → W p l e R s m args below meth c H locs cells slots Q (F0 m (pc + 3) ls rest)) : W p l e R s m args below meth c H locs cells slots Q (F0 m pc ls (.int (nI a) :: rest)) := lv_if_eq C.hx C.hb hdg ht (fun h => kt ((nI_eq0 ha).mp h)) (fun h => kf (fun q => h ((nI_eq0 ha).mpr q)))
theorem n_if_ne (C : Cx E p s m args meth c cc nL ret own A) (hdg : decode cc pc = .ok (.ifCond .ne off, 3)) (ht : (pc : Int) + off = (tgt : Int)) (ha : a < 2 ^ 31) (kt : a ≠ 0 → W p l e R s m args below meth c H locs cells slots Q (F0 m tgt ls rest)) (kf : a = 0 → W p l e R s m args below meth c H locs cells slots Q (F0 m (pc + 3) ls rest)) : W p l e R s m args below meth c H locs cells slots Q (F0 m pc ls (.int (nI a) :: rest)) := lv_if_ne C.hx C.hb hdg ht (fun h => kt (fun q => h ((nI_eq0 ha).mpr q))) (fun h => kf ((nI_eq0 ha).mp h))
theorem n_if_lt (C : Cx E p s m args meth c cc nL ret own A) (hdg : decode cc pc = .ok (.ifCond .lt off, 3)) (ht : (pc : Int) + off = (tgt : Int)) (ha : a < 2 ^ 31) (kf : W p l e R s m args below meth c H locs cells slots Q (F0 m (pc + 3) ls rest)) : W p l e R s m args below meth c H locs cells slots Q (F0 m pc ls (.int (nI a) :: rest)) := lv_if_lt C.hx C.hb hdg ht (fun h => absurd h (nI_pos ha)) (fun _ => kf)
theorem n_if_ge (C : Cx E p s m args meth c cc nL ret own A) (hdg : decode cc pc = .ok (.ifCond .ge off, 3)) (ht : (pc : Int) + off = (tgt : Int)) (ha : a < 2 ^ 31) (kt : W p l e R s m args below meth c H locs cells slots Q (F0 m tgt ls rest)) : W p l e R s m args below meth c H locs cells slots Q (F0 m pc ls (.int (nI a) :: rest)) := lv_if_ge C.hx C.hb hdg ht (fun _ => kt) (fun h => absurd (nI_pos' ha) h)
theorem n_if_gt (C : Cx E p s m args meth c cc nL ret own A) (hdg : decode cc pc = .ok (.ifCond .gt off, 3)) (ht : (pc : Int) + off = (tgt : Int)) (ha : a < 2 ^ 31) (kt : 0 < a → W p l e R s m args below meth c H locs cells slots Q (F0 m tgt ls rest)) (kf : a = 0 → W p l e R s m args below meth c H locs cells slots Q (F0 m (pc + 3) ls rest)) : W p l e R s m args below meth c H locs cells slots Q (F0 m pc ls (.int (nI a) :: rest)) := lv_if_gt C.hx C.hb hdg ht (fun h => kt ((nI_gt0 ha).mp h)) (fun h => kf (Nat.eq_zero_of_not_pos fun q => h ((nI_gt0 ha).mpr q)))
theorem n_if_le (C : Cx E p s m args meth c cc nL ret own A) (hdg : decode cc pc = .ok (.ifCond .le off, 3)) (ht : (pc : Int) + off = (tgt : Int)) (ha : a < 2 ^ 31) (kt : a = 0 → W p l e R s m args below meth c H locs cells slots Q (F0 m tgt ls rest)) (kf : 0 < a → W p l e R s m args below meth c H locs cells slots Q (F0 m (pc + 3) ls rest)) : W p l e R s m args below meth c H locs cells slots Q (F0 m pc ls (.int (nI a) :: rest)) := lv_if_le C.hx C.hb hdg ht (fun h => kt ((nI_le0 ha).mp h)) (fun h => kf (Nat.pos_of_ne_zero fun q => h ((nI_le0 ha).mpr q)))
theorem n_lcmp_gt (C : Cx E p s m args meth c cc nL ret own A) (hd1 : decode cc pc = .ok (.lcmp, 1)) (hd2 : decode cc (pc + 1) = .ok (.ifCond .gt off, 3)) (ht : ((pc + 1 : Nat) : Int) + off = (tgt : Int)) (kt : y < x → W p l e R s m args below meth c H locs cells slots Q (F0 m tgt ls rest)) (kf : x ≤ y → W p l e R s m args below meth c H locs cells slots Q (F0 m (pc + 4) ls rest)) : W p l e R s m args below meth c H locs cells slots Q (F0 m pc ls (.long y :: .long x :: rest)) := W.lcmp C.hx C.hb hd1 (lv_if_gt C.hx C.hb hd2 ht (fun h => kt ((lg_cmp_gt x y).mp h)) (fun h => kf (Int64.not_lt.mp fun q => h ((lg_cmp_gt x y).mpr q))))
theorem n_lcmp_le (C : Cx E p s m args meth c cc nL ret own A) (hd1 : decode cc pc = .ok (.lcmp, 1)) (hd2 : decode cc (pc + 1) = .ok (.ifCond .le off, 3)) (ht : ((pc + 1 : Nat) : Int) + off = (tgt : Int)) (kt : x ≤ y → W p l e R s m args below meth c H locs cells slots Q (F0 m tgt ls rest)) (kf : y < x → W p l e R s m args below meth c H locs cells slots Q (F0 m (pc + 4) ls rest)) : W p l e R s m args below meth c H locs cells slots Q (F0 m pc ls (.long y :: .long x :: rest)) := W.lcmp C.hx C.hb hd1 (lv_if_le C.hx C.hb hd2 ht (fun h => kt ((lg_cmp_le x y).mp h)) (fun h => kf (Int64.not_le.mp fun q => h ((lg_cmp_le x y).mpr q))))
theorem n_lcmp_ge (C : Cx E p s m args meth c cc nL ret own A) (hd1 : decode cc pc = .ok (.lcmp, 1)) (hd2 : decode cc (pc + 1) = .ok (.ifCond .ge off, 3)) (ht : ((pc + 1 : Nat) : Int) + off = (tgt : Int)) (kt : y ≤ x → W p l e R s m args below meth c H locs cells slots Q (F0 m tgt ls rest)) (kf : x < y → W p l e R s m args below meth c H locs cells slots Q (F0 m (pc + 4) ls rest)) : W p l e R s m args below meth c H locs cells slots Q (F0 m pc ls (.long y :: .long x :: rest)) := W.lcmp C.hx C.hb hd1 (lv_if_ge C.hx C.hb hd2 ht (fun h => kt ((lg_cmp_ge x y).mp h)) (fun h => kf (Int64.not_le.mp fun q => h ((lg_cmp_ge x y).mpr q))))
theorem n_lcmp_lt (C : Cx E p s m args meth c cc nL ret own A) (hd1 : decode cc pc = .ok (.lcmp, 1)) (hd2 : decode cc (pc + 1) = .ok (.ifCond .lt off, 3)) (ht : ((pc + 1 : Nat) : Int) + off = (tgt : Int)) (kt : x < y → W p l e R s m args below meth c H locs cells slots Q (F0 m tgt ls rest)) (kf : y ≤ x → W p l e R s m args below meth c H locs cells slots Q (F0 m (pc + 4) ls rest)) : W p l e R s m args below meth c H locs cells slots Q (F0 m pc ls (.long y :: .long x :: rest)) := W.lcmp C.hx C.hb hd1 (lv_if_lt C.hx C.hb hd2 ht (fun h => kt ((lg_cmp_lt x y).mp h)) (fun h => kf (Int64.not_lt.mp fun q => h ((lg_cmp_lt x y).mpr q))))
theorem n_lcmp_eq (C : Cx E p s m args meth c cc nL ret own A) (hd1 : decode cc pc = .ok (.lcmp, 1)) (hd2 : decode cc (pc + 1) = .ok (.ifCond .eq off, 3)) (ht : ((pc + 1 : Nat) : Int) + off = (tgt : Int)) (kt : x = y → W p l e R s m args below meth c H locs cells slots Q (F0 m tgt ls rest)) (kf : x ≠ y → W p l e R s m args below meth c H locs cells slots Q (F0 m (pc + 4) ls rest)) : W p l e R s m args below meth c H locs cells slots Q (F0 m pc ls (.long y :: .long x :: rest)) := W.lcmp C.hx C.hb hd1 (lv_if_eq C.hx C.hb hd2 ht (fun h => kt ((lg_cmp_eq x y).mp h)) (fun h => kf (fun q => h ((lg_cmp_eq x y).mpr q))))
theorem n_lcmp_ne (C : Cx E p s m args meth c cc nL ret own A) (hd1 : decode cc pc = .ok (.lcmp, 1)) (hd2 : decode cc (pc + 1) = .ok (.ifCond .ne off, 3)) (ht : ((pc + 1 : Nat) : Int) + off = (tgt : Int)) (kt : x ≠ y → W p l e R s m args below meth c H locs cells slots Q (F0 m tgt ls rest)) (kf : x = y → W p l e R s m args below meth c H locs cells slots Q (F0 m (pc + 4) ls rest)) : W p l e R s m args below meth c H locs cells slots Q (F0 m pc ls (.long y :: .long x :: rest)) := W.lcmp C.hx C.hb hd1 (lv_if_ne C.hx C.hb hd2 ht (fun h => kt (fun q => h ((lg_cmp_eq x y).mpr q))) (fun h => kf ((lg_cmp_eq x y).mp h)))
/-- another word for the number on top -/
theorem n_re {i j : Int32} (h : i = j) (k : W p l e R s m args below meth c H locs cells slots Q (F0 m pc ls (.int j :: rest))) : W p l e R s m args below meth c H locs cells slots Q (F0 m pc ls (.int i :: rest)) := by rw [h]; exact k
theorem n_rel (h : x = y) (k : W p l e R s m args below meth c H locs cells slots Q (F0 m pc ls (.long y :: rest))) : W p l e R s m args below meth c H locs cells slots Q (F0 m pc ls (.long x :: rest)) := by rw [h]; exact k
end NR
/-! rows as lists -/
def ins {α : Type} (L : List α) (j : Nat) (x : α) : List α := L.take j ++ x :: L.drop j
def del {α : Type} (L : List α) (j : Nat) : List α := L.take j ++ L.drop (j + 1)
theorem ins_len {α : Type} {L : List α} {j : Nat} {x : α} (h : j ≤ L.length) : (ins L j x).length = L.length + 1 := by simp [ins]; omega
theorem del_len {α : Type} {L : List α} {j : Nat} (h : j < L.length) : (del L j).length = L.length - 1 := by simp [del]; omega
theorem ins_map {α β : Type} (f : α → β) (L : List α) (j : Nat) (x : α) : (ins L j x).map f = ins (L.map f) j (f x) := by simp [ins, List.map_take, List.map_drop]
theorem del_map {α β : Type} (f : α → β) (L : List α) (j : Nat) : (del L j).map f = del (L.map f) j := by simp [del, List.map_take, List.map_drop]
theorem ins_get {α : Type} {L : List α} {j : Nat} {x d : α} (h : j ≤ L.length) (i : Nat) : (ins L j x).getD i d = if i < j then L.getD i d else if i = j then x else L.getD (i - 1) d := by
  simp only [ins, List.getD_eq_getElem?_getD]
  by_cases h1 : i < j
  · rw [List.getElem?_append_left (by simp; omega), if_pos h1, List.getElem?_take_of_lt h1]
  · rw [List.getElem?_append_right (by simp; omega), if_neg h1]
    have e : (L.take j).length = j := by simp; omega
    rw [e]
    by_cases h2 : i = j
    · subst h2; simp
    · rw [if_neg h2]
      obtain ⟨q, hq⟩ : ∃ q, i - j = q + 1 := ⟨i - j - 1, by omega⟩
      rw [hq, List.getElem?_cons_succ, List.getElem?_drop]
      congr 2
      omega
theorem del_get {α : Type} {L : List α} {j : Nat} {d : α} (h : j < L.length) (i : Nat) : (del L j).getD i d = if i < j then L.getD i d else L.getD (i + 1) d := by
  simp only [del, List.getD_eq_getElem?_getD]
  by_cases h1 : i < j
  · rw [List.getElem?_append_left (by simp; omega), if_pos h1, List.getElem?_take_of_lt h1]
  · rw [List.getElem?_append_right (by simp; omega), if_neg h1]
    have e : (L.take j).length = j := by simp; omega
    rw [e, List.getElem?_drop]
    congr 2
    omega
/-- the array f of cap places holds the list M at its head -/
def RowOk (f : Nat → Int64) (cap : Nat) (M : List Int64) : Prop := M.length ≤ cap ∧ ∀ j : Nat, j < M.length → f j = M.getD j 0
/-- what a row answers at a place -/
def lAt (M : List Int64) (i : Int32) : Int64 := if i < 0 then 0 else M.getD i.toNatClampNeg 0
theorem lAt_n {M : List Int64} {j : Nat} (h : j < 2 ^ 31) : lAt M (nI j) = M.getD j 0 := by
  unfold lAt
  rw [if_neg (nI_pos h), nI_clamp h]
theorem map_getD (L : List Nat) (j : Nat) : (L.map lN).getD j 0 = lN (L.getD j 0) := by
  simp only [List.getD_eq_getElem?_getD, List.getElem?_map]
  cases L[j]? <;> rfl
end
section
theorem wy_X1_init : Wy yX1_init cX1_init 2 none 1 := ⟨tw_25, tw_2, tw_24, by decide, by decide +kernel⟩
theorem wy_X1_holds : Wy yX1_holds cX1_holds 2 (some .boolean) 1 := ⟨tw_225, tw_2, tw_224, by decide, by decide +kernel⟩
theorem wy_X1_at : Wy yX1_at cX1_at 2 (some .long) 1 := ⟨tw_70, tw_2, tw_69, by decide, by decide +kernel⟩
theorem wy_X1_intAt : Wy yX1_intAt cX1_intAt 2 (some .int) 1 := ⟨tw_66, tw_2, tw_65, by decide, by decide +kernel⟩
theorem wy_X1_raise : Wy yX1_raise cX1_raise 3 none 2 := ⟨tw_74, tw_2, tw_73, by decide, by decide +kernel⟩
theorem wy_X1_insertAt : Wy yX1_insertAt cX1_insertAt 4 none 2 := ⟨tw_59, tw_2, tw_58, by decide, by decide +kernel⟩
theorem wy_X1_deleteAt : Wy yX1_deleteAt cX1_deleteAt 2 none 1 := ⟨tw_213, tw_2, tw_212, by decide, by decide +kernel⟩
theorem wy_X1_sum : Wy yX1_sum cX1_sum 6 (some .int) 2 := ⟨tw_161, tw_2, tw_160, by decide, by decide +kernel⟩
theorem wy_X1_groupOf : Wy yX1_groupOf cX1_groupOf 4 (some .int) 1 := ⟨tw_153, tw_2, tw_152, by decide, by decide +kernel⟩
theorem wy_X2_init : Wy yX2_init cX2_init 7 none 4 := ⟨tw_17, tw_1, tw_16, by decide, by decide +kernel⟩
theorem wy_X2_put : Wy yX2_put cX2_put 4 (some .int) 2 := ⟨tw_136, tw_1, tw_134, by decide, by decide +kernel⟩
theorem wy_X2_find : Wy yX2_find cX2_find 4 (some .int) 1 := ⟨tw_201, tw_1, tw_199, by decide, by decide +kernel⟩
theorem wy_X2_next : Wy yX2_next cX2_next 4 (some .int) 1 := ⟨tw_205, tw_1, tw_203, by decide, by decide +kernel⟩
theorem wy_X2_remove : Wy yX2_remove cX2_remove 5 (some .int) 1 := ⟨tw_209, tw_1, tw_207, by decide, by decide +kernel⟩
theorem wy_X2_interval : Wy yX2_interval cX2_interval 3 (some .int) 2 := ⟨tw_221, tw_1, tw_219, by decide, by decide +kernel⟩
theorem wy_X2_cut : Wy yX2_cut cX2_cut 3 (some .int) 1 := ⟨tw_229, tw_1, tw_227, by decide, by decide +kernel⟩
theorem wy_X2_open : Wy yX2_open cX2_open 1 (some .int) 0 := ⟨tw_233, tw_1, tw_231, by decide, by decide +kernel⟩
theorem wy_X2_split : Wy yX2_split cX2_split 2 (some .int) 1 := ⟨tw_241, tw_1, tw_239, by decide, by decide +kernel⟩
theorem wy_X2_index : Wy yX2_index cX2_index 3 (some .int) 2 := ⟨tw_280, tw_1, tw_278, by decide, by decide +kernel⟩
theorem wy_X2_verify : Wy yX2_verify cX2_verify 1 (some .int) 0 := ⟨tw_245, tw_1, tw_243, by decide, by decide +kernel⟩
theorem wy_X2_reorganise : Wy yX2_reorganise cX2_reorganise 5 (some .int) 0 := ⟨tw_261, tw_1, tw_259, by decide, by decide +kernel⟩
theorem wy_X2_order : Wy yX2_order cX2_order 2 (some .long) 1 := ⟨tw_265, tw_1, tw_263, by decide, by decide +kernel⟩
theorem wy_X2_count : Wy yX2_count cX2_count 2 (some .int) 1 := ⟨tw_269, tw_1, tw_267, by decide, by decide +kernel⟩
theorem wy_X2_heldTo : Wz yX2_heldTo cX2_heldTo 3 (some .int) 3 := ⟨tw_43, tw_1, tw_42, by decide, by decide +kernel⟩
theorem wy_X2_notGreaterThan : Wy yX2_notGreaterThan cX2_notGreaterThan 4 (some .int) 1 := ⟨tw_144, tw_1, tw_143, by decide, by decide +kernel⟩
theorem wy_X2_positionOf : Wy yX2_positionOf cX2_positionOf 4 (some .int) 1 := ⟨tw_140, tw_1, tw_139, by decide, by decide +kernel⟩
theorem wy_X2_lengthsIn : Wy yX2_lengthsIn cX2_lengthsIn 3 (some .int) 1 := ⟨tw_157, tw_1, tw_156, by decide, by decide +kernel⟩
theorem wy_X2_lowBitsOfFirstKey : Wy yX2_lowBitsOfFirstKey cX2_lowBitsOfFirstKey 2 (some .int) 1 := ⟨tw_284, tw_1, tw_283, by decide, by decide +kernel⟩
theorem wy_X2_place : Wy yX2_place cX2_place 7 (some .boolean) 2 := ⟨tw_149, tw_1, tw_148, by decide, by decide +kernel⟩
theorem wy_X2_insertRecord : Wy yX2_insertRecord cX2_insertRecord 6 none 3 := ⟨tw_165, tw_1, tw_164, by decide, by decide +kernel⟩
theorem wy_X2_kindOfSplit : Wy yX2_kindOfSplit cX2_kindOfSplit 2 (some (.object "IntervalSplits$Kind")) 1 := ⟨tw_169, tw_1, tw_168, by decide, by decide +kernel⟩
theorem wy_X2_takeNumber : Wy yX2_takeNumber cX2_takeNumber 2 (some .int) 0 := ⟨tw_55, tw_1, tw_54, by decide, by decide +kernel⟩
theorem wy_X2_splitArea : Wy yX2_splitArea cX2_splitArea 3 none 1 := ⟨tw_189, tw_1, tw_188, by decide, by decide +kernel⟩
theorem wy_X2_halveInterval : Wy yX2_halveInterval cX2_halveInterval 5 none 2 := ⟨tw_193, tw_1, tw_192, by decide, by decide +kernel⟩
theorem wy_X2_keptByHalving : Wy yX2_keptByHalving cX2_keptByHalving 7 (some .int) 1 := ⟨tw_197, tw_1, tw_196, by decide, by decide +kernel⟩
theorem wy_X2_giveOwnInterval : Wy yX2_giveOwnInterval cX2_giveOwnInterval 7 none 3 := ⟨tw_181, tw_1, tw_180, by decide, by decide +kernel⟩
theorem wy_X2_insertInterval : Wy yX2_insertInterval cX2_insertInterval 5 none 4 := ⟨tw_185, tw_1, tw_184, by decide, by decide +kernel⟩
theorem wy_X2_dropInterval : Wy yX2_dropInterval cX2_dropInterval 3 none 1 := ⟨tw_217, tw_1, tw_216, by decide, by decide +kernel⟩
theorem wy_X2_closeAhead : Wy yX2_closeAhead cX2_closeAhead 3 none 2 := ⟨tw_177, tw_1, tw_176, by decide, by decide +kernel⟩
theorem wy_X2_finishCutSplit : Wy yX2_finishCutSplit cX2_finishCutSplit 1 none 0 := ⟨tw_237, tw_1, tw_236, by decide, by decide +kernel⟩
theorem wy_X2_layInterval : Wy yX2_layInterval cX2_layInterval 3 none 1 := ⟨tw_51, tw_1, tw_50, by decide, by decide +kernel⟩
theorem wy_X2_brokenOrders : Wy yX2_brokenOrders cX2_brokenOrders 3 (some .int) 0 := ⟨tw_249, tw_1, tw_248, by decide, by decide +kernel⟩
theorem wy_X2_brokenRooms : Wy yX2_brokenRooms cX2_brokenRooms 5 (some .int) 0 := ⟨tw_253, tw_1, tw_252, by decide, by decide +kernel⟩
theorem wy_X2_brokenWidths : Wy yX2_brokenWidths cX2_brokenWidths 3 (some .int) 0 := ⟨tw_257, tw_1, tw_256, by decide, by decide +kernel⟩
set_option maxHeartbeats 4000000 in
set_option maxRecDepth 100000 in
/-- Row.at -/
theorem c1_at {l : Launch} {E : Gq} {ws : va_W} {q0 qa h a cap : Nat} {f : Nat → Int64} {M : List Int64} (he : ws[q0]? = some (h, .inr (1, [.ref a, .int (nI M.length)]))) (ha : ws[qa]? = some (a, .inl (E.2.2.1, cap, .inr (.inl f)))) (hok : RowOk f cap M) (hcap : cap ≤ 601) (i : Int32) : ∀ sz : Nat, Met l yX1_at (.code yX1_at cX1_at 2 (some .long) :: LT) (Rm 0 0 0) (Pw E [.ref h, .int i] ws sz) (Qr (fun r => r = some (.long (lAt M i)))) 0 0 (fun _ => False) := by
  refine mk_r (by decide) (Nat.le_of_ble_eq_true rfl) ?_
  intro p e s m below meth c ls C Wd hl
  have hl : lv_has ls 2 [(0, .ref h), (1, .int i)] := hl
  have hlen := hok.1
  by_cases hi : i < 0
  · refine lv_iload_n C.hx C.hb dX1_at_0 rfl (lv_at hl 1 rfl) ?_
    refine lv_if_lt (tgt := 30) C.hx C.hb dX1_at_1 (by decide) (fun c1 => ?_) (fun c1 => ?_)
    · refine lv_lconst (v := 0) C.hx C.hb dX1_at_30 (by decide) ?_
      exact ret_lr C (by unfold lAt; rw [if_pos hi]) dX1_at_31
    · exact absurd hi c1
  · obtain ⟨j, hj, rfl⟩ := nI_of hi
    refine lv_iload_n C.hx C.hb dX1_at_0 rfl (lv_at hl 1 rfl) ?_
    refine n_if_lt (tgt := 30) C dX1_at_1 (by decide) (by omega) ?_
    refine lv_iload_n C.hx C.hb dX1_at_4 rfl (lv_at hl 1 rfl) ?_
    refine lv_aload_n C.hx C.hb dX1_at_5 rfl (lv_at hl 0 rfl) ?_
    refine getf C Wd q0 he rfl in_X1 1 (by decide) tw_31 rfl dX1_at_6 ?_
    refine n_icmp_ge (tgt := 30) C dX1_at_9 (by decide) (by omega) (by omega) (fun c9 => ?_) (fun c9 => ?_)
    · refine lv_lconst (v := 0) C.hx C.hb dX1_at_30 (by decide) ?_
      exact ret_lr C (by rw [lAt_n hj, List.getD_eq_getElem?_getD, List.getElem?_eq_none (by omega)]; rfl) dX1_at_31
    · refine lv_iload_n C.hx C.hb dX1_at_12 rfl (lv_at hl 1 rfl) ?_
      refine lv_aload_n C.hx C.hb dX1_at_13 rfl (lv_at hl 0 rfl) ?_
      refine getf C Wd q0 he rfl in_X1 0 (by decide) tw_30 rfl dX1_at_14 ?_
      refine alenJ C Wd qa ha dX1_at_17 ?_
      refine n_icmp_ge (tgt := 30) C dX1_at_18 (by decide) (by omega) (by omega) (fun c18 => ?_) (fun c18 => ?_)
      · omega
      · refine lv_aload_n C.hx C.hb dX1_at_21 rfl (lv_at hl 0 rfl) ?_
        refine getf C Wd q0 he rfl in_X1 0 (by decide) tw_30 rfl dX1_at_22 ?_
        refine lv_iload_n C.hx C.hb dX1_at_25 rfl (lv_at hl 1 rfl) ?_
        refine lald C Wd qa ha (vp_in_nI (by omega) (by omega)) dX1_at_26 ?_
        refine n_rel (y := M.getD j 0) (by rw [nI_clamp (by omega)]; exact hok.2 _ (by omega)) ?_
        refine lv_goto (tgt := 31) C.hx C.hb dX1_at_27 (by decide) ?_
        exact ret_lr C (by rw [lAt_n hj]) dX1_at_31
set_option maxHeartbeats 4000000 in
set_option maxRecDepth 100000 in
/-- Row.intAt -/
theorem c1_intAt {l : Launch} {E : Gq} {ws : va_W} {q0 qa h a cap : Nat} {f : Nat → Int64} {M : List Int64} (he : ws[q0]? = some (h, .inr (1, [.ref a, .int (nI M.length)]))) (ha : ws[qa]? = some (a, .inl (E.2.2.1, cap, .inr (.inl f)))) (hok : RowOk f cap M) (hcap : cap ≤ 601) (i : Int32) : ∀ sz : Nat, Met l yX1_intAt (.code yX1_intAt cX1_intAt 2 (some .int) :: LT) (Rm 1 0 0) (Pw E [.ref h, .int i] ws sz) (Qr (fun r => r = some (.int (lAt M i).toInt32))) 0 0 (fun _ => False) := by
  refine mk_r (by decide) (Nat.le_of_ble_eq_true rfl) ?_
  intro p e s m below meth c ls C Wd hl
  have hl : lv_has ls 2 [(0, .ref h), (1, .int i)] := hl
  have hlen := hok.1
  refine lv_aload_n C.hx C.hb dX1_intAt_0 rfl (lv_at hl 0 rfl) ?_
  refine lv_iload_n C.hx C.hb dX1_intAt_1 rfl (lv_at hl 1 rfl) ?_
  refine call_r (runV (As := [.int (i)]) (rest := []) C Wd (c1_at (l := l) he ha hok hcap (i)) wy_X1_at ts_4 tw_67 rfl he ⟨by decide, by decide⟩ rfl hl.1 rfl (Nat.le_of_ble_eq_true rfl) dX1_intAt_2 ⟨Nat.le_refl _, Nat.le_refl _⟩) (fun v hv => ?_)
  subst hv
  refine W.eq (g2 := F0 m 5 ls [.long (lAt M (i))]) rfl ?_
  refine lv_l2i C.hx C.hb dX1_intAt_5 rfl ?_
  exact ret_ir C (rfl) dX1_intAt_6
def hld (n : Nat) (i : Int32) : Int32 := if i < 0 then 0 else if i.toNatClampNeg < n then 1 else 0
set_option maxHeartbeats 4000000 in
set_option maxRecDepth 100000 in
/-- Row.holds -/
theorem c1_holds {l : Launch} {E : Gq} {ws : va_W} {q0 qa h a cap : Nat} {f : Nat → Int64} {M : List Int64} (he : ws[q0]? = some (h, .inr (1, [.ref a, .int (nI M.length)]))) (ha : ws[qa]? = some (a, .inl (E.2.2.1, cap, .inr (.inl f)))) (hok : RowOk f cap M) (hcap : cap ≤ 601) (i : Int32) : ∀ sz : Nat, Met l yX1_holds (.code yX1_holds cX1_holds 2 (some .boolean) :: LT) (Rm 0 0 0) (Pw E [.ref h, .int i] ws sz) (Qr (fun r => r = some (.int (hld M.length i)))) 0 0 (fun _ => False) := by
  refine mk_r (by decide) (Nat.le_of_ble_eq_true rfl) ?_
  intro p e s m below meth c ls C Wd hl
  have hl : lv_has ls 2 [(0, .ref h), (1, .int i)] := hl
  have hlen := hok.1
  by_cases hi : i < 0
  · refine lv_iload_n C.hx C.hb dX1_holds_0 rfl (lv_at hl 1 rfl) ?_
    refine lv_if_lt (tgt := 16) C.hx C.hb dX1_holds_1 (by decide) (fun c1 => ?_) (fun c1 => ?_)
    · refine lv_iconst (v := nI (0)) C.hx C.hb dX1_holds_16 (by decide) ?_
      exact ret_zr C (by unfold hld; rw [if_pos hi]; rfl) (by decide) dX1_holds_17
    · exact absurd hi c1
  · obtain ⟨j, hj, rfl⟩ := nI_of hi
    refine lv_iload_n C.hx C.hb dX1_holds_0 rfl (lv_at hl 1 rfl) ?_
    refine n_if_lt (tgt := 16) C dX1_holds_1 (by decide) (by omega) ?_
    refine lv_iload_n C.hx C.hb dX1_holds_4 rfl (lv_at hl 1 rfl) ?_
    refine lv_aload_n C.hx C.hb dX1_holds_5 rfl (lv_at hl 0 rfl) ?_
    refine getf C Wd q0 he rfl in_X1 1 (by decide) tw_31 rfl dX1_holds_6 ?_
    refine n_icmp_ge (tgt := 16) C dX1_holds_9 (by decide) (by omega) (by omega) (fun c9 => ?_) (fun c9 => ?_)
    · refine lv_iconst (v := nI (0)) C.hx C.hb dX1_holds_16 (by decide) ?_
      exact ret_zr C (by unfold hld; rw [if_neg hi, nI_clamp hj, if_neg (by omega)]; rfl) (by decide) dX1_holds_17
    · refine lv_iconst (v := nI (1)) C.hx C.hb dX1_holds_12 (by decide) ?_
      refine lv_goto (tgt := 17) C.hx C.hb dX1_holds_13 (by decide) ?_
      exact ret_zr C (by unfold hld; rw [if_neg hi, nI_clamp hj, if_pos (by omega)]; rfl) (by decide) dX1_holds_17
/-- the numbers from place a to ahead of place b, together -/
def sm (L : List Nat) (a b : Nat) : Nat := ((L.take b).drop a).sum
theorem sm_step {L : List Nat} {j b : Nat} (h : j < b) (hb : j < L.length) : sm L j b = L.getD j 0 + sm L (j + 1) b := by
  unfold sm
  have h1 : j < (L.take b).length := by simp; omega
  rw [List.drop_eq_getElem_cons h1, List.sum_cons]
  congr 1
  simp [List.getD_eq_getElem?_getD, List.getElem?_eq_getElem hb]
theorem sm_end {L : List Nat} {j b : Nat} (h : b ≤ j ∨ L.length ≤ j) : sm L j b = 0 := by
  unfold sm
  rw [List.drop_eq_nil_of_le (by simp; omega)]
  rfl
theorem lAt_m {L : List Nat} {j : Nat} (h : j < 2 ^ 31) : (lAt (L.map lN) (nI j)).toInt32 = nI (L.getD j 0) := by rw [lAt_n h, map_getD, lN_i]
set_option maxHeartbeats 4000000 in
set_option maxRecDepth 100000 in
theorem l1_sum {p : Program} {l : Launch} {e : Env} {s : State} {m : MethodId} {args : Array Value} {below : List Frame} {meth : Method} {c : Code} {A : Nat → Prop} {E : Gq} {ws : va_W} {q0 qa h a cap : Nat} {f : Nat → Int64} {L : List Nat} (he : ws[q0]? = some (h, .inr (1, [.ref a, .int (nI (L.map lN).length)]))) (ha : ws[qa]? = some (a, .inl (E.2.2.1, cap, .inr (.inl f)))) (hok : RowOk f cap (L.map lN)) (hcap : cap ≤ 601) {x0 x1 : Value} (C : Cx E p s m args meth c cX1_sum 6 (some .int) RX1 A) (Wd : Wl E A ws s s.heap []) {b t0 : Nat} {en : Nat} (hen : en = b ∨ (en = L.length ∧ L.length ≤ b)) (hle : en ≤ L.length) : ∀ (n j t : Nat), en - j = n → j ≤ 2 ^ 30 → nI (t + sm L j b) = nI t0 → ∀ ls : Array Slot, lv_has ls 6 [(5, .int (nI j)), (4, .int (nI t)), (3, .int (nI en)), (0, .ref h)] → W p l e (Rm 1 0 0) s m args below meth c s.heap [] 0 0 (MQ below (Qr (fun r => r = some (.int (nI t0)))) args s 0 0 (fun _ => False)) (F0 m 23 ls []) := by
  have hlen := hok.1
  rw [List.length_map] at hlen
  intro n
  induction n with
  | zero =>
    intro j t hn hj ht ls hl
    refine lv_iload C.hx C.hb dX1_sum_23 (lv_at hl 0 rfl) ?_
    refine lv_iload_n C.hx C.hb dX1_sum_25 rfl (lv_at hl 2 rfl) ?_
    refine n_icmp_ge (tgt := 47) C dX1_sum_26 (by decide) (by omega) (by omega) (fun c26 => ?_) (fun c26 => ?_)
    · refine lv_iload C.hx C.hb dX1_sum_47 (lv_at hl 1 rfl) ?_
      exact ret_ir C (by rw [sm_end (by omega)] at ht; rw [← ht]; rfl) dX1_sum_49
    · omega
  | succ n ih =>
    intro j t hn hj ht ls hl
    refine lv_iload C.hx C.hb dX1_sum_23 (lv_at hl 0 rfl) ?_
    refine lv_iload_n C.hx C.hb dX1_sum_25 rfl (lv_at hl 2 rfl) ?_
    refine n_icmp_ge (tgt := 47) C dX1_sum_26 (by decide) (by omega) (by omega) (fun c26 => ?_) (fun c26 => ?_)
    · omega
    · refine lv_iload C.hx C.hb dX1_sum_29 (lv_at hl 1 rfl) ?_
      refine lv_aload_n C.hx C.hb dX1_sum_31 rfl (lv_at hl 3 rfl) ?_
      refine lv_iload C.hx C.hb dX1_sum_32 (lv_at hl 0 rfl) ?_
      refine call_r (runV (As := [.int (nI (j))]) (rest := [.int (nI (t))]) C Wd (c1_at (l := l) he ha hok hcap (nI (j))) wy_X1_at ts_4 tw_67 rfl he ⟨by decide, by decide⟩ rfl hl.1 rfl (Nat.le_of_ble_eq_true rfl) dX1_sum_34 ⟨Nat.le_refl _, Nat.le_refl _⟩) (fun v hv => ?_)
      subst hv
      refine W.eq (g2 := F0 m 37 ls [.long (lAt (L.map lN) (nI (j))), .int (nI (t))]) rfl ?_
      refine lv_l2i C.hx C.hb dX1_sum_37 rfl ?_
      refine n_re (j := nI (L.getD j 0)) (lAt_m (by omega)) ?_
      refine n_add C dX1_sum_38 ?_
      refine lv_istore (lv' := [(4, .int (nI (t + (L.getD j 0)))), (5, .int (nI (j))), (3, .int (nI (en))), (0, .ref (h))]) C.hx C.hb dX1_sum_39 hl (by decide) rfl (fun ls hl => ?_)
      refine lv_iinc (v := nI (j + 1)) (lv' := [(5, .int (nI (j + 1))), (4, .int (nI (t + (L.getD j 0)))), (3, .int (nI (en))), (0, .ref (h))]) C.hx C.hb dX1_sum_41 hl (k := 1) rfl (nI_1 _) (by decide) rfl (fun ls hl => ?_)
      refine lv_goto (tgt := 23) C.hx C.hb dX1_sum_44 (by decide) ?_
      exact ih (j + 1) (t + L.getD j 0) (by omega) (by omega) (by rw [← ht, sm_step (L := L) (j := j) (b := b) (by omega) (by omega), Nat.add_assoc]) ls (lv_sub hl [0, 1, 2, 3] rfl)
set_option maxHeartbeats 4000000 in
set_option maxRecDepth 100000 in
/-- Row.sum -/
theorem c1_sum {l : Launch} {E : Gq} {ws : va_W} {q0 qa h a cap : Nat} {f : Nat → Int64} {L : List Nat} (he : ws[q0]? = some (h, .inr (1, [.ref a, .int (nI (L.map lN).length)]))) (ha : ws[qa]? = some (a, .inl (E.2.2.1, cap, .inr (.inl f)))) (hok : RowOk f cap (L.map lN)) (hcap : cap ≤ 601) {x y : Nat} (hx : x ≤ 2 ^ 30) (hy : y ≤ 2 ^ 30) : ∀ sz : Nat, Met l yX1_sum (.code yX1_sum cX1_sum 6 (some .int) :: LT) (Rm 1 0 0) (Pw E [.ref h, .int (nI x), .int (nI y)] ws sz) (Qr (fun r => r = some (.int (nI (sm L x y))))) 0 0 (fun _ => False) := by
  refine mk_r (by decide) (Nat.le_of_ble_eq_true rfl) ?_
  intro p e s m below meth c ls C Wd hl
  have hl : lv_has ls 6 [(0, .ref h), (1, .int (nI x)), (2, .int (nI y))] := hl
  have hlen := hok.1
  have hlm : (L.map lN).length = L.length := List.length_map _
  refine lv_iload_n C.hx C.hb dX1_sum_0 rfl (lv_at hl 2 rfl) ?_
  refine lv_aload_n C.hx C.hb dX1_sum_1 rfl (lv_at hl 0 rfl) ?_
  refine getf C Wd q0 he rfl in_X1 1 (by decide) tw_31 rfl dX1_sum_2 ?_
  refine n_icmp_ge (tgt := 12) C dX1_sum_5 (by decide) (by omega) (by omega) (fun c5 => ?_) (fun c5 => ?_)
  · refine lv_aload_n C.hx C.hb dX1_sum_12 rfl (lv_at hl 0 rfl) ?_
    refine getf C Wd q0 he rfl in_X1 1 (by decide) tw_31 rfl dX1_sum_13 ?_
    refine lv_istore_n (lv' := [(3, .int (nI ((L.map lN).length))), (0, .ref (h)), (1, .int (nI (x))), (2, .int (nI (y)))]) C.hx C.hb dX1_sum_16 rfl hl (by decide) rfl (fun ls hl => ?_)
    refine lv_iconst (v := nI (0)) C.hx C.hb dX1_sum_17 (by decide) ?_
    refine lv_istore (lv' := [(4, .int (nI (0))), (3, .int (nI ((L.map lN).length))), (0, .ref (h)), (1, .int (nI (x))), (2, .int (nI (y)))]) C.hx C.hb dX1_sum_18 hl (by decide) rfl (fun ls hl => ?_)
    refine lv_iload_n C.hx C.hb dX1_sum_20 rfl (lv_at hl 3 rfl) ?_
    refine lv_istore (lv' := [(5, .int (nI (x))), (4, .int (nI (0))), (3, .int (nI ((L.map lN).length))), (0, .ref (h)), (1, .int (nI (x))), (2, .int (nI (y)))]) C.hx C.hb dX1_sum_21 hl (by decide) rfl (fun ls hl => ?_)
    exact l1_sum he ha hok hcap (x0 := .null) (x1 := .null) C Wd (b := y) (en := (L.map lN).length) (by omega) (by omega) _ x 0 rfl hx (by rw [Nat.zero_add]) ls (lv_sub hl [0, 1, 2, 3] rfl)
  · refine lv_iload_n C.hx C.hb dX1_sum_8 rfl (lv_at hl 2 rfl) ?_
    refine lv_goto (tgt := 16) C.hx C.hb dX1_sum_9 (by decide) ?_
    refine lv_istore_n (lv' := [(3, .int (nI (y))), (0, .ref (h)), (1, .int (nI (x))), (2, .int (nI (y)))]) C.hx C.hb dX1_sum_16 rfl hl (by decide) rfl (fun ls hl => ?_)
    refine lv_iconst (v := nI (0)) C.hx C.hb dX1_sum_17 (by decide) ?_
    refine lv_istore (lv' := [(4, .int (nI (0))), (3, .int (nI (y))), (0, .ref (h)), (1, .int (nI (x))), (2, .int (nI (y)))]) C.hx C.hb dX1_sum_18 hl (by decide) rfl (fun ls hl => ?_)
    refine lv_iload_n C.hx C.hb dX1_sum_20 rfl (lv_at hl 3 rfl) ?_
    refine lv_istore (lv' := [(5, .int (nI (x))), (4, .int (nI (0))), (3, .int (nI (y))), (0, .ref (h)), (1, .int (nI (x))), (2, .int (nI (y)))]) C.hx C.hb dX1_sum_21 hl (by decide) rfl (fun ls hl => ?_)
    exact l1_sum he ha hok hcap (x0 := .null) (x1 := .null) C Wd (b := y) (en := y) (by omega) (by omega) _ x 0 rfl hx (by rw [Nat.zero_add]) ls (lv_sub hl [0, 1, 2, 3] rfl)
/-- which group a member is in -/
def gIx : List Nat → Nat → Nat
  | [], _ => 0
  | x :: l, m => if m < x then 0 else gIx l (m - x) + 1
def gOf (L : List Nat) (m : Nat) : Nat := if m < L.sum then gIx L m else 0
theorem take_s {L : List Nat} {j : Nat} (h : j < L.length) : (L.take (j + 1)).sum = (L.take j).sum + L.getD j 0 := by
  rw [List.take_succ_eq_append_getElem h, List.sum_append]
  simp [List.getD_eq_getElem?_getD, List.getElem?_eq_getElem h]
theorem sum_split (L : List Nat) (j : Nat) : L.sum = (L.take j).sum + (L.drop j).sum := by
  rw [← List.sum_append, List.take_append_drop]
theorem gIx_at {L : List Nat} : ∀ {j m : Nat}, j < L.length → (L.take j).sum ≤ m → m < (L.take (j + 1)).sum → gIx L m = j := by
  induction L with
  | nil => intro j m h; simp at h
  | cons x l ih =>
    intro j m h h1 h2
    cases j with
    | zero =>
      have h3 : m < x := by simpa using h2
      simp [gIx, h3]
    | succ j =>
      simp only [List.take_succ_cons, List.sum_cons] at h1 h2
      have h3 : ¬ m < x := by omega
      simp only [gIx, if_neg h3]
      rw [ih (j := j) (m := m - x) (by simpa using h) (by omega) (by omega)]
set_option maxHeartbeats 4000000 in
set_option maxRecDepth 100000 in
theorem l1_groupOf {p : Program} {l : Launch} {e : Env} {s : State} {m : MethodId} {args : Array Value} {below : List Frame} {meth : Method} {c : Code} {A : Nat → Prop} {E : Gq} {ws : va_W} {q0 qa h a cap : Nat} {f : Nat → Int64} {L : List Nat} (he : ws[q0]? = some (h, .inr (1, [.ref a, .int (nI (L.map lN).length)]))) (ha : ws[qa]? = some (a, .inl (E.2.2.1, cap, .inr (.inl f)))) (hok : RowOk f cap (L.map lN)) (hcap : cap ≤ 601) (C : Cx E p s m args meth c cX1_groupOf 4 (some .int) RX1 A) (Wd : Wl E A ws s s.heap []) {b : Nat} (hb : b < 2 ^ 31) (hsum : L.sum < 2 ^ 31) : ∀ (n j : Nat), L.length - j = n → j ≤ L.length → (L.take j).sum ≤ b → ∀ ls : Array Slot, lv_has ls 4 [(3, .int (nI j)), (2, .int (nI (L.take j).sum)), (1, .int (nI b)), (0, .ref h)] → W p l e (Rm 1 0 0) s m args below meth c s.heap [] 0 0 (MQ below (Qr (fun r => r = some (.int (nI (gOf L b))))) args s 0 0 (fun _ => False)) (F0 m 4 ls []) := by
  have hlen := hok.1
  have hlm : (L.map lN).length = L.length := List.length_map _
  intro n
  induction n with
  | zero =>
    intro j hn hj ht ls hl
    refine lv_iload_n C.hx C.hb dX1_groupOf_4 rfl (lv_at hl 0 rfl) ?_
    refine lv_aload_n C.hx C.hb dX1_groupOf_5 rfl (lv_at hl 3 rfl) ?_
    refine getf C Wd q0 he rfl in_X1 1 (by decide) tw_31 rfl dX1_groupOf_6 ?_
    refine n_icmp_ge (tgt := 34) C dX1_groupOf_9 (by decide) (by omega) (by omega) (fun c9 => ?_) (fun c9 => ?_)
    · refine lv_iconst (v := nI (0)) C.hx C.hb dX1_groupOf_34 (by decide) ?_
      exact ret_ir C (by have e : j = L.length := (by omega); subst e; rw [List.take_length] at ht; unfold gOf; rw [if_neg (by omega)]) dX1_groupOf_35
    · omega
  | succ n ih =>
    intro j hn hj ht ls hl
    have hs := take_s (L := L) (j := j) (by omega)
    have hs2 := sum_split L (j + 1)
    refine lv_iload_n C.hx C.hb dX1_groupOf_4 rfl (lv_at hl 0 rfl) ?_
    refine lv_aload_n C.hx C.hb dX1_groupOf_5 rfl (lv_at hl 3 rfl) ?_
    refine getf C Wd q0 he rfl in_X1 1 (by decide) tw_31 rfl dX1_groupOf_6 ?_
    refine n_icmp_ge (tgt := 34) C dX1_groupOf_9 (by decide) (by omega) (by omega) (fun c9 => ?_) (fun c9 => ?_)
    · omega
    · refine lv_iload_n C.hx C.hb dX1_groupOf_12 rfl (lv_at hl 1 rfl) ?_
      refine lv_aload_n C.hx C.hb dX1_groupOf_13 rfl (lv_at hl 3 rfl) ?_
      refine lv_iload_n C.hx C.hb dX1_groupOf_14 rfl (lv_at hl 0 rfl) ?_
      refine call_r (runV (As := [.int (nI (j))]) (rest := [.int (nI ((L.take j).sum))]) C Wd (c1_at (l := l) he ha hok hcap (nI (j))) wy_X1_at ts_4 tw_67 rfl he ⟨by decide, by decide⟩ rfl hl.1 rfl (Nat.le_of_ble_eq_true rfl) dX1_groupOf_15 ⟨Nat.le_refl _, Nat.le_refl _⟩) (fun v hv => ?_)
      subst hv
      refine W.eq (g2 := F0 m 18 ls [.long (lAt (L.map lN) (nI (j))), .int (nI ((L.take j).sum))]) rfl ?_
      refine lv_l2i C.hx C.hb dX1_groupOf_18 rfl ?_
      refine n_re (j := nI (L.getD j 0)) (lAt_m (by omega)) ?_
      refine n_add C dX1_groupOf_19 ?_
      refine n_re (j := nI (L.take (j + 1)).sum) (by rw [hs]) ?_
      refine lv_istore_n (lv' := [(2, .int (nI ((L.take (j + 1)).sum))), (3, .int (nI (j))), (1, .int (nI (b))), (0, .ref (h))]) C.hx C.hb dX1_groupOf_20 rfl hl (by decide) rfl (fun ls hl => ?_)
      refine lv_iload_n C.hx C.hb dX1_groupOf_21 rfl (lv_at hl 2 rfl) ?_
      refine lv_iload_n C.hx C.hb dX1_groupOf_22 rfl (lv_at hl 0 rfl) ?_
      refine n_icmp_ge (tgt := 28) C dX1_groupOf_23 (by decide) (by omega) (by omega) (fun c23 => ?_) (fun c23 => ?_)
      · refine lv_iinc (v := nI (j + 1)) (lv' := [(3, .int (nI (j + 1))), (2, .int (nI ((L.take (j + 1)).sum))), (1, .int (nI (b))), (0, .ref (h))]) C.hx C.hb dX1_groupOf_28 hl (k := 1) rfl (nI_1 _) (by decide) rfl (fun ls hl => ?_)
        refine lv_goto (tgt := 4) C.hx C.hb dX1_groupOf_31 (by decide) ?_
        exact ih (j + 1) (by omega) (by omega) (by omega) ls (lv_sub hl [0, 1, 2, 3] rfl)
      · refine lv_iload_n C.hx C.hb dX1_groupOf_26 rfl (lv_at hl 1 rfl) ?_
        exact ret_ir C (by unfold gOf; rw [if_pos (by omega), gIx_at (j := j) (by omega) ht (by omega)]) dX1_groupOf_27
set_option maxHeartbeats 4000000 in
set_option maxRecDepth 100000 in
/-- Row.groupOf -/
theorem c1_groupOf {l : Launch} {E : Gq} {ws : va_W} {q0 qa h a cap : Nat} {f : Nat → Int64} {L : List Nat} (he : ws[q0]? = some (h, .inr (1, [.ref a, .int (nI (L.map lN).length)]))) (ha : ws[qa]? = some (a, .inl (E.2.2.1, cap, .inr (.inl f)))) (hok : RowOk f cap (L.map lN)) (hcap : cap ≤ 601) {b : Nat} (hb : b < 2 ^ 31) (hsum : L.sum < 2 ^ 31) : ∀ sz : Nat, Met l yX1_groupOf (.code yX1_groupOf cX1_groupOf 4 (some .int) :: LT) (Rm 1 0 0) (Pw E [.ref h, .int (nI b)] ws sz) (Qr (fun r => r = some (.int (nI (gOf L b))))) 0 0 (fun _ => False) := by
  refine mk_r (by decide) (Nat.le_of_ble_eq_true rfl) ?_
  intro p e s m below meth c ls C Wd hl
  have hl : lv_has ls 4 [(0, .ref h), (1, .int (nI b))] := hl
  have hlen := hok.1
  refine lv_iconst (v := nI (0)) C.hx C.hb dX1_groupOf_0 (by decide) ?_
  refine lv_istore_n (lv' := [(2, .int (nI (0))), (0, .ref (h)), (1, .int (nI (b)))]) C.hx C.hb dX1_groupOf_1 rfl hl (by decide) rfl (fun ls hl => ?_)
  refine lv_iconst (v := nI (0)) C.hx C.hb dX1_groupOf_2 (by decide) ?_
  refine lv_istore_n (lv' := [(3, .int (nI (0))), (2, .int (nI (0))), (0, .ref (h)), (1, .int (nI (b)))]) C.hx C.hb dX1_groupOf_3 rfl hl (by decide) rfl (fun ls hl => ?_)
  exact l1_groupOf he ha hok hcap C Wd hb hsum _ 0 rfl (Nat.zero_le _) (Nat.zero_le _) ls (lv_sub hl [0, 1, 3, 2] rfl)
/-- a world whose row at q0, qa holds n numbers of f -/
def rwS (E : Gq) (ws : va_W) (q0 qa h a cap : Nat) (f : Nat → Int64) (n : Nat) : va_W := (ws.set q0 (h, .inr (1, [.ref a, .int (nI n)]))).set qa (a, .inl (E.2.2.1, cap, .inr (.inl f)))
theorem set_same {α : Type} {l : List α} {i : Nat} {x : α} (h : l[i]? = some x) : l.set i x = l := by
  apply List.ext_getElem?
  intro j
  by_cases e : i = j
  · subst e
    obtain ⟨h1, -⟩ := List.getElem?_eq_some_iff.mp h
    rw [List.getElem?_set_self h1]
    exact h.symm
  · simp [List.getElem?_set, e]
theorem rw_ne {E : Gq} {ws : va_W} {q0 qa h a cap : Nat} {f : Nat → Int64} {fs : List Value} (he : ws[q0]? = some (h, .inr (1, fs))) (ha : ws[qa]? = some (a, .inl (E.2.2.1, cap, .inr (.inl f)))) : q0 ≠ qa := by
  intro e
  subst e
  rw [he] at ha
  cases ha
theorem row_set {f : Nat → Int64} {cap j : Nat} {M : List Int64} {x : Int64} (hok : RowOk f cap M) : RowOk (vp_updL f j x) cap (M.set j x) := by
  refine ⟨by rw [List.length_set]; exact hok.1, fun i hi => ?_⟩
  rw [List.length_set] at hi
  by_cases e : i = j
  · subst e
    rw [pk_uLs]
    simp [List.getD_eq_getElem?_getD, hi]
  · rw [pk_uLn e, hok.2 i hi]
    simp [List.getD_eq_getElem?_getD, List.getElem?_set, Ne.symm e]
theorem row_ins {f : Nat → Int64} {cap j : Nat} {M : List Int64} {x : Int64} (hok : RowOk f cap M) (hj : j ≤ M.length) (hc : M.length < cap) : RowOk (vp_updL (va_cpy f f j (j + 1) (M.length - j)) j x) cap (ins M j x) := by
  refine ⟨by rw [ins_len hj]; omega, fun i hi => ?_⟩
  rw [ins_len hj] at hi
  rw [ins_get hj]
  by_cases e : i = j
  · subst e
    rw [pk_uLs, if_neg (Nat.lt_irrefl _), if_pos rfl]
  · rw [pk_uLn e]
    by_cases h1 : i < j
    · rw [if_pos h1, pk_cpy_out (Or.inl (by omega)), hok.2 i (by omega)]
    · rw [if_neg h1, if_neg e, pk_cpy_in (by omega) (by omega), hok.2 _ (by omega)]
      congr 1
      omega
theorem row_del {f : Nat → Int64} {cap j : Nat} {M : List Int64} (hok : RowOk f cap M) (hj : j < M.length) : RowOk (va_cpy f f (j + 1) j (M.length - j - 1)) cap (del M j) := by
  have := hok.1
  refine ⟨by rw [del_len hj]; omega, fun i hi => ?_⟩
  rw [del_len hj] at hi
  rw [del_get hj]
  by_cases h1 : i < j
  · rw [if_pos h1, pk_cpy_out (Or.inl (by omega)), hok.2 i (by omega)]
  · rw [if_neg h1, pk_cpy_in (by omega) (by omega), hok.2 _ (by omega)]
    congr 1
    omega
theorem at_set_self {α : Type} {l : List α} {i : Nat} {x y : α} (h : l[i]? = some y) : (l.set i x)[i]? = some x := by
  obtain ⟨h1, -⟩ := List.getElem?_eq_some_iff.mp h
  simp [List.getElem?_set, h1]
set_option maxHeartbeats 4000000 in
set_option maxRecDepth 100000 in
/-- Row.raise -/
theorem c1_raise {l : Launch} {E : Gq} {ws : va_W} {q0 qa h a cap : Nat} {f : Nat → Int64} {M : List Int64} (he : ws[q0]? = some (h, .inr (1, [.ref a, .int (nI M.length)]))) (ha : ws[qa]? = some (a, .inl (E.2.2.1, cap, .inr (.inl f)))) (hok : RowOk f cap M) (hcap : cap ≤ 601) {j : Nat} (hj : j < M.length) (d : Int32) : ∀ sz : Nat, Met l yX1_raise (.code yX1_raise cX1_raise 3 none :: LT) (Rm 0 0 0) (Pw E [.ref h, .int (nI j), .int d] ws sz) (Qw E ws sz (fun r ws' => r = none ∧ ∃ f', ws' = rwS E ws q0 qa h a cap f' M.length ∧ RowOk f' cap (M.set j (M.getD j 0 + d.toInt64)))) 0 0 (va_A ws sz) := by
  refine mk_w (by decide) (Nat.le_of_ble_eq_true rfl) ?_
  intro p e s m below meth c ls C Wd hl
  have hl : lv_has ls 3 [(0, .ref h), (1, .int (nI j)), (2, .int d)] := hl
  have hlen := hok.1
  have hne := rw_ne he ha
  refine lv_iload_n C.hx C.hb dX1_raise_0 rfl (lv_at hl 1 rfl) ?_
  refine n_if_lt (tgt := 32) C dX1_raise_1 (by decide) (by omega) ?_
  refine lv_iload_n C.hx C.hb dX1_raise_4 rfl (lv_at hl 1 rfl) ?_
  refine lv_aload_n C.hx C.hb dX1_raise_5 rfl (lv_at hl 0 rfl) ?_
  refine getf C Wd q0 he rfl in_X1 1 (by decide) tw_31 rfl dX1_raise_6 ?_
  refine n_icmp_ge (tgt := 32) C dX1_raise_9 (by decide) (by omega) (by omega) (fun c9 => ?_) (fun c9 => ?_)
  · omega
  · refine lv_iload_n C.hx C.hb dX1_raise_12 rfl (lv_at hl 1 rfl) ?_
    refine lv_aload_n C.hx C.hb dX1_raise_13 rfl (lv_at hl 0 rfl) ?_
    refine getf C Wd q0 he rfl in_X1 0 (by decide) tw_30 rfl dX1_raise_14 ?_
    refine alenJ C Wd qa ha dX1_raise_17 ?_
    refine n_icmp_ge (tgt := 32) C dX1_raise_18 (by decide) (by omega) (by omega) (fun c18 => ?_) (fun c18 => ?_)
    · omega
    · refine lv_aload_n C.hx C.hb dX1_raise_21 rfl (lv_at hl 0 rfl) ?_
      refine getf C Wd q0 he rfl in_X1 0 (by decide) tw_30 rfl dX1_raise_22 ?_
      refine lv_iload_n C.hx C.hb dX1_raise_25 rfl (lv_at hl 1 rfl) ?_
      refine lv_dup2_11 C.hx C.hb dX1_raise_26 rfl rfl ?_
      refine lald C Wd qa ha (vp_in_nI (by omega) (by omega)) dX1_raise_27 ?_
      refine n_rel (y := M.getD j 0) (by rw [nI_clamp (by omega)]; exact hok.2 _ (by omega)) ?_
      refine lv_iload_n C.hx C.hb dX1_raise_28 rfl (lv_at hl 2 rfl) ?_
      refine lv_i2l C.hx C.hb dX1_raise_29 rfl ?_
      refine lv_ladd C.hx C.hb dX1_raise_30 ?_
      refine last C Wd qa ha (vp_in_nI (by omega) (by omega)) dX1_raise_31 (fun H locs Wd => ?_)
      rw [nI_clamp (show j < 2 ^ 31 by omega)] at Wd
      exact ret_vw C Wd (⟨rfl, _, by unfold rwS; rw [set_same he], row_set hok⟩) dX1_raise_32
set_option maxHeartbeats 4000000 in
set_option maxRecDepth 100000 in
/-- Row.insertAt -/
theorem c1_insertAt {l : Launch} {E : Gq} {ws : va_W} {q0 qa h a cap : Nat} {f : Nat → Int64} {M : List Int64} (he : ws[q0]? = some (h, .inr (1, [.ref a, .int (nI M.length)]))) (ha : ws[qa]? = some (a, .inl (E.2.2.1, cap, .inr (.inl f)))) (hok : RowOk f cap M) (hcap : cap ≤ 601) {j : Nat} (hj : j ≤ M.length) (hc : M.length < cap) (x : Int64) : ∀ sz : Nat, Met l yX1_insertAt (.code yX1_insertAt cX1_insertAt 4 none :: LT) (Rm 1 0 0) (Pw E [.ref h, .int (nI j), .long x] ws sz) (Qw E ws sz (fun r ws' => r = none ∧ ∃ f', ws' = rwS E ws q0 qa h a cap f' (M.length + 1) ∧ RowOk f' cap (ins M j x))) 0 0 (va_A ws sz) := by
  refine mk_w (by decide) (Nat.le_of_ble_eq_true rfl) ?_
  intro p e s m below meth c ls C Wd hl
  have hl : lv_has ls 4 [(0, .ref h), (1, .int (nI j)), (2, .long x)] := hl
  have hlen := hok.1
  have hne := rw_ne he ha
  have he0 := he
  refine lv_iload_n C.hx C.hb dX1_insertAt_0 rfl (lv_at hl 1 rfl) ?_
  refine n_if_lt (tgt := 24) C dX1_insertAt_1 (by decide) (by omega) ?_
  refine lv_iload_n C.hx C.hb dX1_insertAt_4 rfl (lv_at hl 1 rfl) ?_
  refine lv_aload_n C.hx C.hb dX1_insertAt_5 rfl (lv_at hl 0 rfl) ?_
  refine getf C Wd q0 he rfl in_X1 1 (by decide) tw_31 rfl dX1_insertAt_6 ?_
  refine n_icmp_gt (tgt := 24) C dX1_insertAt_9 (by decide) (by omega) (by omega) (fun c9 => ?_) (fun c9 => ?_)
  · omega
  · refine lv_aload_n C.hx C.hb dX1_insertAt_12 rfl (lv_at hl 0 rfl) ?_
    refine getf C Wd q0 he rfl in_X1 1 (by decide) tw_31 rfl dX1_insertAt_13 ?_
    refine lv_aload_n C.hx C.hb dX1_insertAt_16 rfl (lv_at hl 0 rfl) ?_
    refine getf C Wd q0 he rfl in_X1 0 (by decide) tw_30 rfl dX1_insertAt_17 ?_
    refine alenJ C Wd qa ha dX1_insertAt_20 ?_
    refine n_icmp_lt (tgt := 25) C dX1_insertAt_21 (by decide) (by omega) (by omega) (fun c21 => ?_) (fun c21 => ?_)
    · refine lv_aload_n C.hx C.hb dX1_insertAt_25 rfl (lv_at hl 0 rfl) ?_
      refine getf C Wd q0 he rfl in_X1 0 (by decide) tw_30 rfl dX1_insertAt_26 ?_
      refine lv_iload_n C.hx C.hb dX1_insertAt_29 rfl (lv_at hl 1 rfl) ?_
      refine lv_aload_n C.hx C.hb dX1_insertAt_30 rfl (lv_at hl 0 rfl) ?_
      refine getf C Wd q0 he rfl in_X1 0 (by decide) tw_30 rfl dX1_insertAt_31 ?_
      refine lv_iload_n C.hx C.hb dX1_insertAt_34 rfl (lv_at hl 1 rfl) ?_
      refine lv_iconst (v := nI (1)) C.hx C.hb dX1_insertAt_35 (by decide) ?_
      refine n_add C dX1_insertAt_36 ?_
      refine lv_aload_n C.hx C.hb dX1_insertAt_37 rfl (lv_at hl 0 rfl) ?_
      refine getf C Wd q0 he rfl in_X1 1 (by decide) tw_31 rfl dX1_insertAt_38 ?_
      refine lv_iload_n C.hx C.hb dX1_insertAt_41 rfl (lv_at hl 1 rfl) ?_
      refine n_sub C dX1_insertAt_42 (by omega) ?_
      refine va_copyl C.hx C.hb (C.hml.trans hl.1.symm) C.hown (C.hts _ tw_60) (C.hts _ tw_62) (C.hts _ tw_61) (C.hts _ tw_6) C.hK.1 Wd.1 Wd.2.1 Wd.2.2 qa qa 1 1 ha ha rfl rfl rfl (nI_pos (by omega)) (nI_pos (by omega)) (nI_pos (by omega)) (by rw [nI_clamp (by omega), nI_clamp (by omega)]; omega) (by rw [nI_clamp (by omega), nI_clamp (by omega)]; omega) (fun _ _ => rfl) (by decide) (by decide) dX1_insertAt_43 (fun H locs a1 a2 a3 => ?_)
      have Wd : Wl E _ _ s H locs := ⟨a1, a2, a3⟩
      rw [nI_clamp (show j < 2 ^ 31 by omega), nI_clamp (show j + 1 < 2 ^ 31 by omega), nI_clamp (show M.length - j < 2 ^ 31 by omega)] at Wd
      have he := (List.getElem?_set_ne (l := ws) (a := (a, (.inl (E.2.2.1, cap, .inr (.inl (va_cpy f f (j) (j + 1) (M.length - j)))) : va_E))) (Ne.symm hne)).trans he
      have ha := at_set_self (x := (a, (.inl (E.2.2.1, cap, .inr (.inl (va_cpy f f (j) (j + 1) (M.length - j)))) : va_E))) ha
      refine lv_aload_n C.hx C.hb dX1_insertAt_46 rfl (lv_at hl 0 rfl) ?_
      refine getf C Wd q0 he rfl in_X1 0 (by decide) tw_30 rfl dX1_insertAt_47 ?_
      refine lv_iload_n C.hx C.hb dX1_insertAt_50 rfl (lv_at hl 1 rfl) ?_
      refine lv_lload_n C.hx C.hb dX1_insertAt_51 rfl (lv_at hl 2 rfl) ?_
      refine last C Wd qa ha (vp_in_nI (by omega) (by omega)) dX1_insertAt_52 (fun H locs Wd => ?_)
      rw [nI_clamp (show j < 2 ^ 31 by omega)] at Wd
      rw [List.set_set] at Wd
      have he := (List.getElem?_set_ne (l := ws) (a := (a, (.inl (E.2.2.1, cap, .inr (.inl (vp_updL (va_cpy f f j (j + 1) (M.length - j)) j x))) : va_E))) (Ne.symm hne)).trans he0
      refine lv_aload_n C.hx C.hb dX1_insertAt_53 rfl (lv_at hl 0 rfl) ?_
      refine lv_dup C.hx C.hb dX1_insertAt_54 rfl ?_
      refine getf C Wd q0 he rfl in_X1 1 (by decide) tw_31 rfl dX1_insertAt_55 ?_
      refine lv_iconst (v := nI (1)) C.hx C.hb dX1_insertAt_58 (by decide) ?_
      refine n_add C dX1_insertAt_59 ?_
      refine putf C Wd q0 he rfl in_X1 tyX1 tyX1_ok nmX1 1 (by decide) tw_31 rfl (ty := .int) (by decide +kernel) rfl rfl (Nat.le_of_ble_eq_true rfl) dX1_insertAt_60 (fun H locs Wd => ?_)
      exact ret_vw C Wd (⟨rfl, _, by unfold rwS; rw [List.set_comm _ _ hne]; rfl, row_ins hok hj hc⟩) dX1_insertAt_63
    · omega
set_option maxHeartbeats 4000000 in
set_option maxRecDepth 100000 in
/-- Row.deleteAt -/
theorem c1_deleteAt {l : Launch} {E : Gq} {ws : va_W} {q0 qa h a cap : Nat} {f : Nat → Int64} {M : List Int64} (he : ws[q0]? = some (h, .inr (1, [.ref a, .int (nI M.length)]))) (ha : ws[qa]? = some (a, .inl (E.2.2.1, cap, .inr (.inl f)))) (hok : RowOk f cap M) (hcap : cap ≤ 601) {j : Nat} (hj : j < M.length) : ∀ sz : Nat, Met l yX1_deleteAt (.code yX1_deleteAt cX1_deleteAt 2 none :: LT) (Rm 1 0 0) (Pw E [.ref h, .int (nI j)] ws sz) (Qw E ws sz (fun r ws' => r = none ∧ ∃ f', ws' = rwS E ws q0 qa h a cap f' (M.length - 1) ∧ RowOk f' cap (del M j))) 0 0 (va_A ws sz) := by
  refine mk_w (by decide) (Nat.le_of_ble_eq_true rfl) ?_
  intro p e s m below meth c ls C Wd hl
  have hl : lv_has ls 2 [(0, .ref h), (1, .int (nI j))] := hl
  have hlen := hok.1
  have hne := rw_ne he ha
  refine lv_iload_n C.hx C.hb dX1_deleteAt_0 rfl (lv_at hl 1 rfl) ?_
  refine n_if_lt (tgt := 57) C dX1_deleteAt_1 (by decide) (by omega) ?_
  refine lv_iload_n C.hx C.hb dX1_deleteAt_4 rfl (lv_at hl 1 rfl) ?_
  refine lv_aload_n C.hx C.hb dX1_deleteAt_5 rfl (lv_at hl 0 rfl) ?_
  refine getf C Wd q0 he rfl in_X1 1 (by decide) tw_31 rfl dX1_deleteAt_6 ?_
  refine n_icmp_ge (tgt := 57) C dX1_deleteAt_9 (by decide) (by omega) (by omega) (fun c9 => ?_) (fun c9 => ?_)
  · omega
  · refine lv_aload_n C.hx C.hb dX1_deleteAt_12 rfl (lv_at hl 0 rfl) ?_
    refine getf C Wd q0 he rfl in_X1 1 (by decide) tw_31 rfl dX1_deleteAt_13 ?_
    refine lv_aload_n C.hx C.hb dX1_deleteAt_16 rfl (lv_at hl 0 rfl) ?_
    refine getf C Wd q0 he rfl in_X1 0 (by decide) tw_30 rfl dX1_deleteAt_17 ?_
    refine alenJ C Wd qa ha dX1_deleteAt_20 ?_
    refine n_icmp_gt (tgt := 57) C dX1_deleteAt_21 (by decide) (by omega) (by omega) (fun c21 => ?_) (fun c21 => ?_)
    · omega
    · refine lv_aload_n C.hx C.hb dX1_deleteAt_24 rfl (lv_at hl 0 rfl) ?_
      refine getf C Wd q0 he rfl in_X1 0 (by decide) tw_30 rfl dX1_deleteAt_25 ?_
      refine lv_iload_n C.hx C.hb dX1_deleteAt_28 rfl (lv_at hl 1 rfl) ?_
      refine lv_iconst (v := nI (1)) C.hx C.hb dX1_deleteAt_29 (by decide) ?_
      refine n_add C dX1_deleteAt_30 ?_
      refine lv_aload_n C.hx C.hb dX1_deleteAt_31 rfl (lv_at hl 0 rfl) ?_
      refine getf C Wd q0 he rfl in_X1 0 (by decide) tw_30 rfl dX1_deleteAt_32 ?_
      refine lv_iload_n C.hx C.hb dX1_deleteAt_35 rfl (lv_at hl 1 rfl) ?_
      refine lv_aload_n C.hx C.hb dX1_deleteAt_36 rfl (lv_at hl 0 rfl) ?_
      refine getf C Wd q0 he rfl in_X1 1 (by decide) tw_31 rfl dX1_deleteAt_37 ?_
      refine lv_iload_n C.hx C.hb dX1_deleteAt_40 rfl (lv_at hl 1 rfl) ?_
      refine n_sub C dX1_deleteAt_41 (by omega) ?_
      refine lv_iconst (v := nI (1)) C.hx C.hb dX1_deleteAt_42 (by decide) ?_
      refine n_sub C dX1_deleteAt_43 (by omega) ?_
      refine va_copyl C.hx C.hb (C.hml.trans hl.1.symm) C.hown (C.hts _ tw_60) (C.hts _ tw_62) (C.hts _ tw_61) (C.hts _ tw_6) C.hK.1 Wd.1 Wd.2.1 Wd.2.2 qa qa 1 1 ha ha rfl rfl rfl (nI_pos (by omega)) (nI_pos (by omega)) (nI_pos (by omega)) (by rw [nI_clamp (by omega), nI_clamp (by omega)]; omega) (by rw [nI_clamp (by omega), nI_clamp (by omega)]; omega) (fun _ _ => rfl) (by decide) (by decide) dX1_deleteAt_44 (fun H locs a1 a2 a3 => ?_)
      have Wd : Wl E _ _ s H locs := ⟨a1, a2, a3⟩
      rw [nI_clamp (show j + 1 < 2 ^ 31 by omega), nI_clamp (show j < 2 ^ 31 by omega), nI_clamp (show (M.length - j) - 1 < 2 ^ 31 by omega)] at Wd
      have he := (List.getElem?_set_ne (l := ws) (a := (a, (.inl (E.2.2.1, cap, .inr (.inl (va_cpy f f (j + 1) (j) ((M.length - j) - 1)))) : va_E))) (Ne.symm hne)).trans he
      have ha := at_set_self (x := (a, (.inl (E.2.2.1, cap, .inr (.inl (va_cpy f f (j + 1) (j) ((M.length - j) - 1)))) : va_E))) ha
      refine lv_aload_n C.hx C.hb dX1_deleteAt_47 rfl (lv_at hl 0 rfl) ?_
      refine lv_dup C.hx C.hb dX1_deleteAt_48 rfl ?_
      refine getf C Wd q0 he rfl in_X1 1 (by decide) tw_31 rfl dX1_deleteAt_49 ?_
      refine lv_iconst (v := nI (1)) C.hx C.hb dX1_deleteAt_52 (by decide) ?_
      refine n_sub C dX1_deleteAt_53 (by omega) ?_
      refine putf C Wd q0 he rfl in_X1 tyX1 tyX1_ok nmX1 1 (by decide) tw_31 rfl (ty := .int) (by decide +kernel) rfl rfl (Nat.le_of_ble_eq_true rfl) dX1_deleteAt_54 (fun H locs Wd => ?_)
      exact ret_vw C Wd (⟨rfl, _, by unfold rwS; rw [List.set_comm _ _ hne]; rfl, row_del hok hj⟩) dX1_deleteAt_57
end
section
/-! THE CLASS: its world (an object, five rows), what is read and written of it -/
def w2 (E : Gq) (z : Nat → Nat) (v : Nat → Int32) (kd : Nat) (K : List Int64) (L N S P : List Nat) (f : Nat → Nat → Int64) : va_W := [(z 0, .inr (2, [.int (v 0), .int (v 1), .int (v 2), .int (v 3), .ref (z 1), .ref (z 2), .ref (z 3), .ref (z 4), .ref (z 5), .int (v 9), .int (v 10), .int (v 11), .int (v 12), .ref (E.2.2.2 kd), .int (v 14), .int (v 15), .int (v 16), .int (v 17), .int (v 18)])), (z 1, .inr (1, [.ref (z 6), .int (nI K.length)])), (z 2, .inr (1, [.ref (z 7), .int (nI L.length)])), (z 3, .inr (1, [.ref (z 8), .int (nI N.length)])), (z 4, .inr (1, [.ref (z 9), .int (nI S.length)])), (z 5, .inr (1, [.ref (z 10), .int (nI P.length)])), (z 6, .inl (E.2.2.1, 600, .inr (.inl (f 1)))), (z 7, .inl (E.2.2.1, 600, .inr (.inl (f 2)))), (z 8, .inl (E.2.2.1, 601, .inr (.inl (f 3)))), (z 9, .inl (E.2.2.1, 601, .inr (.inl (f 4)))), (z 10, .inl (E.2.2.1, 601, .inr (.inl (f 5))))]
def Rok (f : Nat → Nat → Int64) (K : List Int64) (L N S P : List Nat) : Prop := RowOk (f 1) 600 K ∧ RowOk (f 2) 600 (L.map lN) ∧ RowOk (f 3) 601 (N.map lN) ∧ RowOk (f 4) 601 (S.map lN) ∧ RowOk (f 5) 601 (P.map lN)
def X2w (E : Gq) (A : Nat → Prop) (z : Nat → Nat) (v : Nat → Int32) (kd : Nat) (K : List Int64) (L N S P : List Nat) (s : State) (H : Heap) (locs : List Loc) : Prop := ∃ f, Wl E A (w2 E z v kd K L N S P f) s H locs ∧ Rok f K L N S P
def P2 (E : Gq) (z : Nat → Nat) (post : Option Value → (Nat → Int32) → Nat → List Int64 → List Nat → List Nat → List Nat → List Nat → Prop) : Option Value → va_W → Prop := fun r ws' => ∃ (v : Nat → Int32) (kd : Nat) (K : List Int64) (L N S P : List Nat) (f : Nat → Nat → Int64), ws' = w2 E z v kd K L N S P f ∧ Rok f K L N S P ∧ post r v kd K L N S P
/-- contracts of the class's methods: one that reads, one that writes -/
def M2r (l : Launch) (E : Gq) (y : MethodName) (cc : ByteArray) (maxL : Nat) (ret : Option FieldType) (k : Nat) (av : List Value) (z : Nat → Nat) (v : Nat → Int32) (kd : Nat) (K : List Int64) (L N S P : List Nat) (post : Option Value → Prop) : Prop := ∀ f, Rok f K L N S P → ∀ sz : Nat, Met l y (.code y cc maxL ret :: LT) (Rm k 0 0) (Pw E av (w2 E z v kd K L N S P f) sz) (Qr post) 0 0 (fun _ => False)
def M2w (l : Launch) (E : Gq) (y : MethodName) (cc : ByteArray) (maxL : Nat) (ret : Option FieldType) (k : Nat) (av : List Value) (z : Nat → Nat) (v : Nat → Int32) (kd : Nat) (K : List Int64) (L N S P : List Nat) (post : Option Value → (Nat → Int32) → Nat → List Int64 → List Nat → List Nat → List Nat → List Nat → Prop) : Prop := ∀ f, Rok f K L N S P → ∀ sz : Nat, Met l y (.code y cc maxL ret :: LT) (Rm k 0 0) (Pw E av (w2 E z v kd K L N S P f) sz) (Qw E (w2 E z v kd K L N S P f) sz (P2 E z post)) 0 0 (va_A (w2 E z v kd K L N S P f) sz)
theorem Rok.lens {f : Nat → Nat → Int64} {K : List Int64} {L N S P : List Nat} (h : Rok f K L N S P) : K.length ≤ 600 ∧ L.length ≤ 600 ∧ N.length ≤ 601 ∧ S.length ≤ 601 ∧ P.length ≤ 601 := by
  obtain ⟨h1, h2, h3, h4, h5⟩ := h
  have e2 := h2.1; have e3 := h3.1; have e4 := h4.1; have e5 := h5.1
  rw [List.length_map] at e2 e3 e4 e5
  exact ⟨h1.1, e2, e3, e4, e5⟩
theorem neg64 {q : Nat} (h : q < 2 ^ 31) : (-(nI q)).toInt64 = -(lN q) := by
  apply Int64.toInt_inj.mp
  rw [Int32.toInt_toInt64, sb_negT h, Int64.toInt_neg, lN_toInt h]
  exact (Int.bmod_eq_of_le (by omega) (by omega)).symm
theorem dn64 {x q : Nat} (h : q ≤ x) : lN x + -(lN q) = lN (x - q) := by rw [← Int64.sub_eq_add_neg, lN_sub h]
theorem setm (L : List Nat) (j y : Nat) : (L.map lN).set j (lN y) = (L.set j y).map lN := by rw [List.map_set]
section X2S
variable {p : Program} {l : Launch} {e : Env} {R : Room} {s : State} {m : MethodId} {args : Array Value} {below : List Frame} {meth : Method} {c : Code} {H : Heap} {locs : List Loc} {cells slots : Nat} {Q : State → Prop}
variable {E : Gq} {cc : ByteArray} {nL : Nat} {ret : Option FieldType} {A : Nat → Prop} {pc : Nat} {ls : Array Slot} {rest : List Value} {z : Nat → Nat} {v : Nat → Int32} {kd : Nat} {K : List Int64} {L N S P : List Nat}
theorem x2g_0 (C : Cx E p s m args meth c cc nL ret RX2 A) (X : X2w E A z v kd K L N S P s H locs) {x : Int32} (hv : v 0 = x) (hdg : decode cc pc = .ok (.getfield 72, 3)) (kk : W p l e R s m args below meth c H locs cells slots Q (F0 m (pc + 3) ls (.int x :: rest))) : W p l e R s m args below meth c H locs cells slots Q (F0 m pc ls (.ref (z 0) :: rest)) := by
  subst hv
  obtain ⟨f, Wd, -⟩ := X
  exact getf C Wd 0 rfl rfl in_X2 0 (by decide) tw_75 rfl hdg kk
theorem x2g_1 (C : Cx E p s m args meth c cc nL ret RX2 A) (X : X2w E A z v kd K L N S P s H locs) {x : Int32} (hv : v 1 = x) (hdg : decode cc pc = .ok (.getfield 75, 3)) (kk : W p l e R s m args below meth c H locs cells slots Q (F0 m (pc + 3) ls (.int x :: rest))) : W p l e R s m args below meth c H locs cells slots Q (F0 m pc ls (.ref (z 0) :: rest)) := by
  subst hv
  obtain ⟨f, Wd, -⟩ := X
  exact getf C Wd 0 rfl rfl in_X2 1 (by decide) tw_76 rfl hdg kk
theorem x2g_2 (C : Cx E p s m args meth c cc nL ret RX2 A) (X : X2w E A z v kd K L N S P s H locs) {x : Int32} (hv : v 2 = x) (hdg : decode cc pc = .ok (.getfield 78, 3)) (kk : W p l e R s m args below meth c H locs cells slots Q (F0 m (pc + 3) ls (.int x :: rest))) : W p l e R s m args below meth c H locs cells slots Q (F0 m pc ls (.ref (z 0) :: rest)) := by
  subst hv
  obtain ⟨f, Wd, -⟩ := X
  exact getf C Wd 0 rfl rfl in_X2 2 (by decide) tw_77 rfl hdg kk
theorem x2g_3 (C : Cx E p s m args meth c cc nL ret RX2 A) (X : X2w E A z v kd K L N S P s H locs) {x : Int32} (hv : v 3 = x) (hdg : decode cc pc = .ok (.getfield 87, 3)) (kk : W p l e R s m args below meth c H locs cells slots Q (F0 m (pc + 3) ls (.int x :: rest))) : W p l e R s m args below meth c H locs cells slots Q (F0 m pc ls (.ref (z 0) :: rest)) := by
  subst hv
  obtain ⟨f, Wd, -⟩ := X
  exact getf C Wd 0 rfl rfl in_X2 3 (by decide) tw_78 rfl hdg kk
theorem x2g_4 (C : Cx E p s m args meth c cc nL ret RX2 A) (X : X2w E A z v kd K L N S P s H locs) (hdg : decode cc pc = .ok (.getfield 14, 3)) (kk : W p l e R s m args below meth c H locs cells slots Q (F0 m (pc + 3) ls (.ref (z 1) :: rest))) : W p l e R s m args below meth c H locs cells slots Q (F0 m pc ls (.ref (z 0) :: rest)) := by
  obtain ⟨f, Wd, -⟩ := X
  exact getf C Wd 0 rfl rfl in_X2 4 (by decide) tw_79 rfl hdg kk
theorem x2g_5 (C : Cx E p s m args meth c cc nL ret RX2 A) (X : X2w E A z v kd K L N S P s H locs) (hdg : decode cc pc = .ok (.getfield 18, 3)) (kk : W p l e R s m args below meth c H locs cells slots Q (F0 m (pc + 3) ls (.ref (z 2) :: rest))) : W p l e R s m args below meth c H locs cells slots Q (F0 m pc ls (.ref (z 0) :: rest)) := by
  obtain ⟨f, Wd, -⟩ := X
  exact getf C Wd 0 rfl rfl in_X2 5 (by decide) tw_80 rfl hdg kk
theorem x2g_6 (C : Cx E p s m args meth c cc nL ret RX2 A) (X : X2w E A z v kd K L N S P s H locs) (hdg : decode cc pc = .ok (.getfield 21, 3)) (kk : W p l e R s m args below meth c H locs cells slots Q (F0 m (pc + 3) ls (.ref (z 3) :: rest))) : W p l e R s m args below meth c H locs cells slots Q (F0 m pc ls (.ref (z 0) :: rest)) := by
  obtain ⟨f, Wd, -⟩ := X
  exact getf C Wd 0 rfl rfl in_X2 6 (by decide) tw_81 rfl hdg kk
theorem x2g_7 (C : Cx E p s m args meth c cc nL ret RX2 A) (X : X2w E A z v kd K L N S P s H locs) (hdg : decode cc pc = .ok (.getfield 24, 3)) (kk : W p l e R s m args below meth c H locs cells slots Q (F0 m (pc + 3) ls (.ref (z 4) :: rest))) : W p l e R s m args below meth c H locs cells slots Q (F0 m pc ls (.ref (z 0) :: rest)) := by
  obtain ⟨f, Wd, -⟩ := X
  exact getf C Wd 0 rfl rfl in_X2 7 (by decide) tw_82 rfl hdg kk
theorem x2g_8 (C : Cx E p s m args meth c cc nL ret RX2 A) (X : X2w E A z v kd K L N S P s H locs) (hdg : decode cc pc = .ok (.getfield 27, 3)) (kk : W p l e R s m args below meth c H locs cells slots Q (F0 m (pc + 3) ls (.ref (z 5) :: rest))) : W p l e R s m args below meth c H locs cells slots Q (F0 m pc ls (.ref (z 0) :: rest)) := by
  obtain ⟨f, Wd, -⟩ := X
  exact getf C Wd 0 rfl rfl in_X2 8 (by decide) tw_83 rfl hdg kk
theorem x2g_9 (C : Cx E p s m args meth c cc nL ret RX2 A) (X : X2w E A z v kd K L N S P s H locs) {x : Int32} (hv : v 9 = x) (hdg : decode cc pc = .ok (.getfield 30, 3)) (kk : W p l e R s m args below meth c H locs cells slots Q (F0 m (pc + 3) ls (.int x :: rest))) : W p l e R s m args below meth c H locs cells slots Q (F0 m pc ls (.ref (z 0) :: rest)) := by
  subst hv
  obtain ⟨f, Wd, -⟩ := X
  exact getf C Wd 0 rfl rfl in_X2 9 (by decide) tw_84 rfl hdg kk
theorem x2g_10 (C : Cx E p s m args meth c cc nL ret RX2 A) (X : X2w E A z v kd K L N S P s H locs) {x : Int32} (hv : v 10 = x) (hdg : decode cc pc = .ok (.getfield 34, 3)) (kk : W p l e R s m args below meth c H locs cells slots Q (F0 m (pc + 3) ls (.int x :: rest))) : W p l e R s m args below meth c H locs cells slots Q (F0 m pc ls (.ref (z 0) :: rest)) := by
  subst hv
  obtain ⟨f, Wd, -⟩ := X
  exact getf C Wd 0 rfl rfl in_X2 10 (by decide) tw_85 rfl hdg kk
theorem x2g_11 (C : Cx E p s m args meth c cc nL ret RX2 A) (X : X2w E A z v kd K L N S P s H locs) {x : Int32} (hv : v 11 = x) (hdg : decode cc pc = .ok (.getfield 37, 3)) (kk : W p l e R s m args below meth c H locs cells slots Q (F0 m (pc + 3) ls (.int x :: rest))) : W p l e R s m args below meth c H locs cells slots Q (F0 m pc ls (.ref (z 0) :: rest)) := by
  subst hv
  obtain ⟨f, Wd, -⟩ := X
  exact getf C Wd 0 rfl rfl in_X2 11 (by decide) tw_86 rfl hdg kk
theorem x2g_12 (C : Cx E p s m args meth c cc nL ret RX2 A) (X : X2w E A z v kd K L N S P s H locs) {x : Int32} (hv : v 12 = x) (hdg : decode cc pc = .ok (.getfield 41, 3)) (kk : W p l e R s m args below meth c H locs cells slots Q (F0 m (pc + 3) ls (.int x :: rest))) : W p l e R s m args below meth c H locs cells slots Q (F0 m pc ls (.ref (z 0) :: rest)) := by
  subst hv
  obtain ⟨f, Wd, -⟩ := X
  exact getf C Wd 0 rfl rfl in_X2 12 (by decide) tw_87 rfl hdg kk
theorem x2g_13 (C : Cx E p s m args meth c cc nL ret RX2 A) (X : X2w E A z v kd K L N S P s H locs) (hdg : decode cc pc = .ok (.getfield 50, 3)) (kk : W p l e R s m args below meth c H locs cells slots Q (F0 m (pc + 3) ls (.ref (E.2.2.2 kd) :: rest))) : W p l e R s m args below meth c H locs cells slots Q (F0 m pc ls (.ref (z 0) :: rest)) := by
  obtain ⟨f, Wd, -⟩ := X
  exact getf C Wd 0 rfl rfl in_X2 13 (by decide) tw_88 rfl hdg kk
theorem x2g_14 (C : Cx E p s m args meth c cc nL ret RX2 A) (X : X2w E A z v kd K L N S P s H locs) {x : Int32} (hv : v 14 = x) (hdg : decode cc pc = .ok (.getfield 53, 3)) (kk : W p l e R s m args below meth c H locs cells slots Q (F0 m (pc + 3) ls (.int x :: rest))) : W p l e R s m args below meth c H locs cells slots Q (F0 m pc ls (.ref (z 0) :: rest)) := by
  subst hv
  obtain ⟨f, Wd, -⟩ := X
  exact getf C Wd 0 rfl rfl in_X2 14 (by decide) tw_89 rfl hdg kk
theorem x2g_15 (C : Cx E p s m args meth c cc nL ret RX2 A) (X : X2w E A z v kd K L N S P s H locs) {x : Int32} (hv : v 15 = x) (hdg : decode cc pc = .ok (.getfield 56, 3)) (kk : W p l e R s m args below meth c H locs cells slots Q (F0 m (pc + 3) ls (.int x :: rest))) : W p l e R s m args below meth c H locs cells slots Q (F0 m pc ls (.ref (z 0) :: rest)) := by
  subst hv
  obtain ⟨f, Wd, -⟩ := X
  exact getf C Wd 0 rfl rfl in_X2 15 (by decide) tw_90 rfl hdg kk
theorem x2g_16 (C : Cx E p s m args meth c cc nL ret RX2 A) (X : X2w E A z v kd K L N S P s H locs) {x : Int32} (hv : v 16 = x) (hdg : decode cc pc = .ok (.getfield 59, 3)) (kk : W p l e R s m args below meth c H locs cells slots Q (F0 m (pc + 3) ls (.int x :: rest))) : W p l e R s m args below meth c H locs cells slots Q (F0 m pc ls (.ref (z 0) :: rest)) := by
  subst hv
  obtain ⟨f, Wd, -⟩ := X
  exact getf C Wd 0 rfl rfl in_X2 16 (by decide) tw_91 rfl hdg kk
theorem x2g_17 (C : Cx E p s m args meth c cc nL ret RX2 A) (X : X2w E A z v kd K L N S P s H locs) {x : Int32} (hv : v 17 = x) (hdg : decode cc pc = .ok (.getfield 62, 3)) (kk : W p l e R s m args below meth c H locs cells slots Q (F0 m (pc + 3) ls (.int x :: rest))) : W p l e R s m args below meth c H locs cells slots Q (F0 m pc ls (.ref (z 0) :: rest)) := by
  subst hv
  obtain ⟨f, Wd, -⟩ := X
  exact getf C Wd 0 rfl rfl in_X2 17 (by decide) tw_92 rfl hdg kk
theorem x2g_18 (C : Cx E p s m args meth c cc nL ret RX2 A) (X : X2w E A z v kd K L N S P s H locs) {x : Int32} (hv : v 18 = x) (hdg : decode cc pc = .ok (.getfield 65, 3)) (kk : W p l e R s m args below meth c H locs cells slots Q (F0 m (pc + 3) ls (.int x :: rest))) : W p l e R s m args below meth c H locs cells slots Q (F0 m pc ls (.ref (z 0) :: rest)) := by
  subst hv
  obtain ⟨f, Wd, -⟩ := X
  exact getf C Wd 0 rfl rfl in_X2 18 (by decide) tw_93 rfl hdg kk
theorem x2p_9 (C : Cx E p s m args meth c cc nL ret RX2 A) (X : X2w E A z v kd K L N S P s H locs) {x : Int32} (hdg : decode cc pc = .ok (.putfield 30, 3)) (kk : ∀ (H1 : Heap) (locs1 : List Loc), X2w E A z (upd v 9 x) kd K L N S P s H1 locs1 → W p l e R s m args below meth c H1 locs1 cells slots Q (F0 m (pc + 3) ls rest)) : W p l e R s m args below meth c H locs cells slots Q (F0 m pc ls (.int x :: .ref (z 0) :: rest)) := by
  obtain ⟨f, Wd, hf⟩ := X
  exact putf C Wd 0 rfl rfl in_X2 tyX2 tyX2_ok nmX2 9 (by decide) tw_84 rfl (ty := .int) (by decide +kernel) rfl rfl (Nat.le_of_ble_eq_true rfl) hdg (fun H1 locs1 W1 => kk H1 locs1 ⟨f, W1, hf⟩)
theorem x2p_10 (C : Cx E p s m args meth c cc nL ret RX2 A) (X : X2w E A z v kd K L N S P s H locs) {x : Int32} (hdg : decode cc pc = .ok (.putfield 34, 3)) (kk : ∀ (H1 : Heap) (locs1 : List Loc), X2w E A z (upd v 10 x) kd K L N S P s H1 locs1 → W p l e R s m args below meth c H1 locs1 cells slots Q (F0 m (pc + 3) ls rest)) : W p l e R s m args below meth c H locs cells slots Q (F0 m pc ls (.int x :: .ref (z 0) :: rest)) := by
  obtain ⟨f, Wd, hf⟩ := X
  exact putf C Wd 0 rfl rfl in_X2 tyX2 tyX2_ok nmX2 10 (by decide) tw_85 rfl (ty := .int) (by decide +kernel) rfl rfl (Nat.le_of_ble_eq_true rfl) hdg (fun H1 locs1 W1 => kk H1 locs1 ⟨f, W1, hf⟩)
theorem x2p_11 (C : Cx E p s m args meth c cc nL ret RX2 A) (X : X2w E A z v kd K L N S P s H locs) {x : Int32} (hn : narrow .boolean (.int x) = .int x) (hfi : fits .boolean (.int x) = true) (hdg : decode cc pc = .ok (.putfield 37, 3)) (kk : ∀ (H1 : Heap) (locs1 : List Loc), X2w E A z (upd v 11 x) kd K L N S P s H1 locs1 → W p l e R s m args below meth c H1 locs1 cells slots Q (F0 m (pc + 3) ls rest)) : W p l e R s m args below meth c H locs cells slots Q (F0 m pc ls (.int x :: .ref (z 0) :: rest)) := by
  obtain ⟨f, Wd, hf⟩ := X
  exact putf C Wd 0 rfl rfl in_X2 tyX2 tyX2_ok nmX2 11 (by decide) tw_86 rfl (ty := .boolean) (by decide +kernel) hn hfi (Nat.le_of_ble_eq_true rfl) hdg (fun H1 locs1 W1 => kk H1 locs1 ⟨f, W1, hf⟩)
theorem x2p_12 (C : Cx E p s m args meth c cc nL ret RX2 A) (X : X2w E A z v kd K L N S P s H locs) {x : Int32} (hn : narrow .boolean (.int x) = .int x) (hfi : fits .boolean (.int x) = true) (hdg : decode cc pc = .ok (.putfield 41, 3)) (kk : ∀ (H1 : Heap) (locs1 : List Loc), X2w E A z (upd v 12 x) kd K L N S P s H1 locs1 → W p l e R s m args below meth c H1 locs1 cells slots Q (F0 m (pc + 3) ls rest)) : W p l e R s m args below meth c H locs cells slots Q (F0 m pc ls (.int x :: .ref (z 0) :: rest)) := by
  obtain ⟨f, Wd, hf⟩ := X
  exact putf C Wd 0 rfl rfl in_X2 tyX2 tyX2_ok nmX2 12 (by decide) tw_87 rfl (ty := .boolean) (by decide +kernel) hn hfi (Nat.le_of_ble_eq_true rfl) hdg (fun H1 locs1 W1 => kk H1 locs1 ⟨f, W1, hf⟩)
theorem x2p_14 (C : Cx E p s m args meth c cc nL ret RX2 A) (X : X2w E A z v kd K L N S P s H locs) {x : Int32} (hdg : decode cc pc = .ok (.putfield 53, 3)) (kk : ∀ (H1 : Heap) (locs1 : List Loc), X2w E A z (upd v 14 x) kd K L N S P s H1 locs1 → W p l e R s m args below meth c H1 locs1 cells slots Q (F0 m (pc + 3) ls rest)) : W p l e R s m args below meth c H locs cells slots Q (F0 m pc ls (.int x :: .ref (z 0) :: rest)) := by
  obtain ⟨f, Wd, hf⟩ := X
  exact putf C Wd 0 rfl rfl in_X2 tyX2 tyX2_ok nmX2 14 (by decide) tw_89 rfl (ty := .int) (by decide +kernel) rfl rfl (Nat.le_of_ble_eq_true rfl) hdg (fun H1 locs1 W1 => kk H1 locs1 ⟨f, W1, hf⟩)
theorem x2p_15 (C : Cx E p s m args meth c cc nL ret RX2 A) (X : X2w E A z v kd K L N S P s H locs) {x : Int32} (hdg : decode cc pc = .ok (.putfield 56, 3)) (kk : ∀ (H1 : Heap) (locs1 : List Loc), X2w E A z (upd v 15 x) kd K L N S P s H1 locs1 → W p l e R s m args below meth c H1 locs1 cells slots Q (F0 m (pc + 3) ls rest)) : W p l e R s m args below meth c H locs cells slots Q (F0 m pc ls (.int x :: .ref (z 0) :: rest)) := by
  obtain ⟨f, Wd, hf⟩ := X
  exact putf C Wd 0 rfl rfl in_X2 tyX2 tyX2_ok nmX2 15 (by decide) tw_90 rfl (ty := .int) (by decide +kernel) rfl rfl (Nat.le_of_ble_eq_true rfl) hdg (fun H1 locs1 W1 => kk H1 locs1 ⟨f, W1, hf⟩)
theorem x2p_16 (C : Cx E p s m args meth c cc nL ret RX2 A) (X : X2w E A z v kd K L N S P s H locs) {x : Int32} (hdg : decode cc pc = .ok (.putfield 59, 3)) (kk : ∀ (H1 : Heap) (locs1 : List Loc), X2w E A z (upd v 16 x) kd K L N S P s H1 locs1 → W p l e R s m args below meth c H1 locs1 cells slots Q (F0 m (pc + 3) ls rest)) : W p l e R s m args below meth c H locs cells slots Q (F0 m pc ls (.int x :: .ref (z 0) :: rest)) := by
  obtain ⟨f, Wd, hf⟩ := X
  exact putf C Wd 0 rfl rfl in_X2 tyX2 tyX2_ok nmX2 16 (by decide) tw_91 rfl (ty := .int) (by decide +kernel) rfl rfl (Nat.le_of_ble_eq_true rfl) hdg (fun H1 locs1 W1 => kk H1 locs1 ⟨f, W1, hf⟩)
theorem x2p_17 (C : Cx E p s m args meth c cc nL ret RX2 A) (X : X2w E A z v kd K L N S P s H locs) {x : Int32} (hdg : decode cc pc = .ok (.putfield 62, 3)) (kk : ∀ (H1 : Heap) (locs1 : List Loc), X2w E A z (upd v 17 x) kd K L N S P s H1 locs1 → W p l e R s m args below meth c H1 locs1 cells slots Q (F0 m (pc + 3) ls rest)) : W p l e R s m args below meth c H locs cells slots Q (F0 m pc ls (.int x :: .ref (z 0) :: rest)) := by
  obtain ⟨f, Wd, hf⟩ := X
  exact putf C Wd 0 rfl rfl in_X2 tyX2 tyX2_ok nmX2 17 (by decide) tw_92 rfl (ty := .int) (by decide +kernel) rfl rfl (Nat.le_of_ble_eq_true rfl) hdg (fun H1 locs1 W1 => kk H1 locs1 ⟨f, W1, hf⟩)
theorem x2p_18 (C : Cx E p s m args meth c cc nL ret RX2 A) (X : X2w E A z v kd K L N S P s H locs) {x : Int32} (hdg : decode cc pc = .ok (.putfield 65, 3)) (kk : ∀ (H1 : Heap) (locs1 : List Loc), X2w E A z (upd v 18 x) kd K L N S P s H1 locs1 → W p l e R s m args below meth c H1 locs1 cells slots Q (F0 m (pc + 3) ls rest)) : W p l e R s m args below meth c H locs cells slots Q (F0 m pc ls (.int x :: .ref (z 0) :: rest)) := by
  obtain ⟨f, Wd, hf⟩ := X
  exact putf C Wd 0 rfl rfl in_X2 tyX2 tyX2_ok nmX2 18 (by decide) tw_93 rfl (ty := .int) (by decide +kernel) rfl rfl (Nat.le_of_ble_eq_true rfl) hdg (fun H1 locs1 W1 => kk H1 locs1 ⟨f, W1, hf⟩)
theorem x2p_13 (C : Cx E p s m args meth c cc nL ret RX2 A) (X : X2w E A z v kd K L N S P s H locs) {kd' : Nat} (hdg : decode cc pc = .ok (.putfield 50, 3)) (kk : ∀ (H1 : Heap) (locs1 : List Loc), X2w E A z v kd' K L N S P s H1 locs1 → W p l e R s m args below meth c H1 locs1 cells slots Q (F0 m (pc + 3) ls rest)) : W p l e R s m args below meth c H locs cells slots Q (F0 m pc ls (.ref (E.2.2.2 kd') :: .ref (z 0) :: rest)) := by
  obtain ⟨f, Wd, hf⟩ := X
  exact putf C Wd 0 rfl rfl in_X2 tyX2 tyX2_ok nmX2 13 (by decide) tw_88 rfl (ty := .object "IntervalSplits$Kind") (by decide +kernel) rfl rfl (Nat.le_of_ble_eq_true rfl) hdg (fun H1 locs1 W1 => kk H1 locs1 ⟨f, W1, hf⟩)
theorem x2s_1 (C : Cx E p s m args meth c cc nL ret RX2 A) (X : X2w E A z v kd K L N S P s H locs) (hdg : decode cc pc = .ok (.getfield 97, 3)) (kk : W p l e R s m args below meth c H locs cells slots Q (F0 m (pc + 3) ls (.int (nI K.length) :: rest))) : W p l e R s m args below meth c H locs cells slots Q (F0 m pc ls (.ref (z 1) :: rest)) := by
  obtain ⟨f, Wd, -⟩ := X
  exact va_getN (ref := RX1) (C := RX1) (T := TX1) (N := 2) (ci := 1) C.hx C.hb C.hts in_X1 C.hown C.hK.1 Wd.1 1 rfl rfl 1 (by decide) (va_Nw.use rfl C.hK.2.2) (fun _ h => h) rfl hdg kk
theorem x2s_2 (C : Cx E p s m args meth c cc nL ret RX2 A) (X : X2w E A z v kd K L N S P s H locs) (hdg : decode cc pc = .ok (.getfield 97, 3)) (kk : W p l e R s m args below meth c H locs cells slots Q (F0 m (pc + 3) ls (.int (nI L.length) :: rest))) : W p l e R s m args below meth c H locs cells slots Q (F0 m pc ls (.ref (z 2) :: rest)) := by
  obtain ⟨f, Wd, -⟩ := X
  exact va_getN (ref := RX1) (C := RX1) (T := TX1) (N := 2) (ci := 1) C.hx C.hb C.hts in_X1 C.hown C.hK.1 Wd.1 2 rfl rfl 1 (by decide) (va_Nw.use rfl C.hK.2.2) (fun _ h => h) rfl hdg kk
theorem x2s_3 (C : Cx E p s m args meth c cc nL ret RX2 A) (X : X2w E A z v kd K L N S P s H locs) (hdg : decode cc pc = .ok (.getfield 97, 3)) (kk : W p l e R s m args below meth c H locs cells slots Q (F0 m (pc + 3) ls (.int (nI N.length) :: rest))) : W p l e R s m args below meth c H locs cells slots Q (F0 m pc ls (.ref (z 3) :: rest)) := by
  obtain ⟨f, Wd, -⟩ := X
  exact va_getN (ref := RX1) (C := RX1) (T := TX1) (N := 2) (ci := 1) C.hx C.hb C.hts in_X1 C.hown C.hK.1 Wd.1 3 rfl rfl 1 (by decide) (va_Nw.use rfl C.hK.2.2) (fun _ h => h) rfl hdg kk
theorem x2s_4 (C : Cx E p s m args meth c cc nL ret RX2 A) (X : X2w E A z v kd K L N S P s H locs) (hdg : decode cc pc = .ok (.getfield 97, 3)) (kk : W p l e R s m args below meth c H locs cells slots Q (F0 m (pc + 3) ls (.int (nI S.length) :: rest))) : W p l e R s m args below meth c H locs cells slots Q (F0 m pc ls (.ref (z 4) :: rest)) := by
  obtain ⟨f, Wd, -⟩ := X
  exact va_getN (ref := RX1) (C := RX1) (T := TX1) (N := 2) (ci := 1) C.hx C.hb C.hts in_X1 C.hown C.hK.1 Wd.1 4 rfl rfl 1 (by decide) (va_Nw.use rfl C.hK.2.2) (fun _ h => h) rfl hdg kk
theorem x2s_5 (C : Cx E p s m args meth c cc nL ret RX2 A) (X : X2w E A z v kd K L N S P s H locs) (hdg : decode cc pc = .ok (.getfield 97, 3)) (kk : W p l e R s m args below meth c H locs cells slots Q (F0 m (pc + 3) ls (.int (nI P.length) :: rest))) : W p l e R s m args below meth c H locs cells slots Q (F0 m pc ls (.ref (z 5) :: rest)) := by
  obtain ⟨f, Wd, -⟩ := X
  exact va_getN (ref := RX1) (C := RX1) (T := TX1) (N := 2) (ci := 1) C.hx C.hb C.hts in_X1 C.hown C.hK.1 Wd.1 5 rfl rfl 1 (by decide) (va_Nw.use rfl C.hK.2.2) (fun _ h => h) rfl hdg kk
theorem x2z_3 (C : Cx E p s m args meth c cc nL ret RX2 A) (X : X2w E A z v kd K L N S P s H locs) (hdg : decode cc pc = .ok (.putfield 97, 3)) (kk : ∀ (H1 : Heap) (locs1 : List Loc), X2w E A z v kd K L [] S P s H1 locs1 → W p l e R s m args below meth c H1 locs1 cells slots Q (F0 m (pc + 3) ls rest)) : W p l e R s m args below meth c H locs cells slots Q (F0 m pc ls (.int (nI 0) :: .ref (z 3) :: rest)) := by
  obtain ⟨f, Wd, h1, h2, h3, h4, h5⟩ := X
  exact va_putN (ref := RX1) (C := RX1) (T := TX1) (N := 2) (ci := 1) C.hx C.hb C.hts in_X1 tyX1 tyX1_ok nmX1 C.hown C.hK.1 Wd.1 Wd.2.1 Wd.2.2 3 rfl rfl 1 (by decide) (va_Nw.use rfl C.hK.2.2) (fun _ h => h) rfl (ty := .int) (by decide +kernel) rfl rfl (Nat.le_of_ble_eq_true rfl) hdg (fun H1 locs1 a1 a2 a3 => kk H1 locs1 ⟨f, ⟨a1, a2, a3⟩, h1, h2, ⟨Nat.zero_le _, fun j hj => absurd hj (Nat.not_lt_zero j)⟩, h4, h5⟩)
theorem x2z_4 (C : Cx E p s m args meth c cc nL ret RX2 A) (X : X2w E A z v kd K L N S P s H locs) (hdg : decode cc pc = .ok (.putfield 97, 3)) (kk : ∀ (H1 : Heap) (locs1 : List Loc), X2w E A z v kd K L N [] P s H1 locs1 → W p l e R s m args below meth c H1 locs1 cells slots Q (F0 m (pc + 3) ls rest)) : W p l e R s m args below meth c H locs cells slots Q (F0 m pc ls (.int (nI 0) :: .ref (z 4) :: rest)) := by
  obtain ⟨f, Wd, h1, h2, h3, h4, h5⟩ := X
  exact va_putN (ref := RX1) (C := RX1) (T := TX1) (N := 2) (ci := 1) C.hx C.hb C.hts in_X1 tyX1 tyX1_ok nmX1 C.hown C.hK.1 Wd.1 Wd.2.1 Wd.2.2 4 rfl rfl 1 (by decide) (va_Nw.use rfl C.hK.2.2) (fun _ h => h) rfl (ty := .int) (by decide +kernel) rfl rfl (Nat.le_of_ble_eq_true rfl) hdg (fun H1 locs1 a1 a2 a3 => kk H1 locs1 ⟨f, ⟨a1, a2, a3⟩, h1, h2, h3, ⟨Nat.zero_le _, fun j hj => absurd hj (Nat.not_lt_zero j)⟩, h5⟩)
theorem x2z_5 (C : Cx E p s m args meth c cc nL ret RX2 A) (X : X2w E A z v kd K L N S P s H locs) (hdg : decode cc pc = .ok (.putfield 97, 3)) (kk : ∀ (H1 : Heap) (locs1 : List Loc), X2w E A z v kd K L N S [] s H1 locs1 → W p l e R s m args below meth c H1 locs1 cells slots Q (F0 m (pc + 3) ls rest)) : W p l e R s m args below meth c H locs cells slots Q (F0 m pc ls (.int (nI 0) :: .ref (z 5) :: rest)) := by
  obtain ⟨f, Wd, h1, h2, h3, h4, h5⟩ := X
  exact va_putN (ref := RX1) (C := RX1) (T := TX1) (N := 2) (ci := 1) C.hx C.hb C.hts in_X1 tyX1 tyX1_ok nmX1 C.hown C.hK.1 Wd.1 Wd.2.1 Wd.2.2 5 rfl rfl 1 (by decide) (va_Nw.use rfl C.hK.2.2) (fun _ h => h) rfl (ty := .int) (by decide +kernel) rfl rfl (Nat.le_of_ble_eq_true rfl) hdg (fun H1 locs1 a1 a2 a3 => kk H1 locs1 ⟨f, ⟨a1, a2, a3⟩, h1, h2, h3, h4, ⟨Nat.zero_le _, fun j hj => absurd hj (Nat.not_lt_zero j)⟩⟩)
theorem x2_at (C : Cx E p s m args meth c cc nL ret RX2 A) (X : X2w E A z v kd K L N S P s H locs) {i : Int32} (hR : 1 ≤ R.frames ∧ 28 ≤ R.locals) (hsz : ls.size = nL) (hW : (rest.map fun v => v.category).sum ≤ 8) (hf : cells ≤ R.cells ∧ slots ≤ R.slots) (hdg : decode cc pc = .ok (.invokevirtual 157, 3)) (kk : W p l e R s m args below meth c H locs cells slots Q (F0 m (pc + 3) ls (.long (lAt K i) :: rest))) : W p l e R s m args below meth c H locs cells slots Q (F0 m pc ls (.int i :: .ref (z 1) :: rest)) := by
  obtain ⟨f, Wd, h1, h2, h3, h4, h5⟩ := X
  refine call_r (runVN (As := [.int i]) (rest := rest) C Wd (c1_at (l := l) (q0 := 1) (qa := 6) (h := z 1) (a := z 6) (cap := 600) (f := f 1) (M := K) rfl rfl h1 (by decide) i) wy_X1_at ts_4 (List.mem_of_getElem? (i := 4) rfl) rfl (q0 := 1) rfl hR rfl hsz rfl hW hdg hf) (fun v hv => ?_)
  subst hv
  exact kk
theorem x2_holds_1 (C : Cx E p s m args meth c cc nL ret RX2 A) (X : X2w E A z v kd K L N S P s H locs) {i : Int32} (hR : 1 ≤ R.frames ∧ 28 ≤ R.locals) (hsz : ls.size = nL) (hW : (rest.map fun v => v.category).sum ≤ 8) (hf : cells ≤ R.cells ∧ slots ≤ R.slots) (hdg : decode cc pc = .ok (.invokevirtual 124, 3)) (kk : W p l e R s m args below meth c H locs cells slots Q (F0 m (pc + 3) ls (.int (hld K.length i) :: rest))) : W p l e R s m args below meth c H locs cells slots Q (F0 m pc ls (.int i :: .ref (z 1) :: rest)) := by
  obtain ⟨f, Wd, h1, h2, h3, h4, h5⟩ := X
  refine call_r (runVN (As := [.int i]) (rest := rest) C Wd (c1_holds (l := l) (q0 := 1) (qa := 6) (h := z 1) (a := z 6) (cap := 600) (f := f 1) (M := K) rfl rfl h1 (by decide) i) wy_X1_holds ts_22 (List.mem_of_getElem? (i := 8) rfl) rfl (q0 := 1) rfl hR rfl hsz rfl hW hdg hf) (fun v hv => ?_)
  subst hv
  exact kk
theorem x2_holds_2 (C : Cx E p s m args meth c cc nL ret RX2 A) (X : X2w E A z v kd K L N S P s H locs) {i : Int32} (hR : 1 ≤ R.frames ∧ 28 ≤ R.locals) (hsz : ls.size = nL) (hW : (rest.map fun v => v.category).sum ≤ 8) (hf : cells ≤ R.cells ∧ slots ≤ R.slots) (hdg : decode cc pc = .ok (.invokevirtual 124, 3)) (kk : W p l e R s m args below meth c H locs cells slots Q (F0 m (pc + 3) ls (.int (hld L.length i) :: rest))) : W p l e R s m args below meth c H locs cells slots Q (F0 m pc ls (.int i :: .ref (z 2) :: rest)) := by
  obtain ⟨f, Wd, h1, h2, h3, h4, h5⟩ := X
  refine call_r (runVN (As := [.int i]) (rest := rest) C Wd (c1_holds (l := l) (q0 := 2) (qa := 7) (h := z 2) (a := z 7) (cap := 600) (f := f 2) (M := L.map lN) (by rw [List.length_map]; rfl) rfl h2 (by decide) i) wy_X1_holds ts_22 (List.mem_of_getElem? (i := 8) rfl) rfl (q0 := 2) rfl hR rfl hsz rfl hW hdg hf) (fun v hv => ?_)
  subst hv
  rw [List.length_map]
  exact kk
theorem x2_intAt_2 (C : Cx E p s m args meth c cc nL ret RX2 A) (X : X2w E A z v kd K L N S P s H locs) {j : Nat} (hj : j < 2 ^ 31) (hR : 2 ≤ R.frames ∧ 56 ≤ R.locals) (hsz : ls.size = nL) (hW : (rest.map fun v => v.category).sum ≤ 8) (hf : cells ≤ R.cells ∧ slots ≤ R.slots) (hdg : decode cc pc = .ok (.invokevirtual 108, 3)) (kk : W p l e R s m args below meth c H locs cells slots Q (F0 m (pc + 3) ls (.int (nI (L.getD j 0)) :: rest))) : W p l e R s m args below meth c H locs cells slots Q (F0 m pc ls (.int (nI j) :: .ref (z 2) :: rest)) := by
  obtain ⟨f, Wd, h1, h2, h3, h4, h5⟩ := X
  refine call_r (runVN (As := [.int (nI j)]) (rest := rest) C Wd (c1_intAt (l := l) (q0 := 2) (qa := 7) (h := z 2) (a := z 7) (cap := 600) (f := f 2) (M := L.map lN) (by rw [List.length_map]; rfl) rfl h2 (by decide) (nI j)) wy_X1_intAt ts_3 (List.mem_of_getElem? (i := 2) rfl) rfl (q0 := 2) rfl hR rfl hsz rfl hW hdg hf) (fun v hv => ?_)
  subst hv
  rw [lAt_m hj]
  exact kk
theorem x2_sum_2 (C : Cx E p s m args meth c cc nL ret RX2 A) (X : X2w E A z v kd K L N S P s H locs) {a b : Nat} (ha : a ≤ 2 ^ 30) (hb : b ≤ 2 ^ 30) (hR : 2 ≤ R.frames ∧ 56 ≤ R.locals) (hsz : ls.size = nL) (hW : (rest.map fun v => v.category).sum ≤ 8) (hf : cells ≤ R.cells ∧ slots ≤ R.slots) (hdg : decode cc pc = .ok (.invokevirtual 137, 3)) (kk : W p l e R s m args below meth c H locs cells slots Q (F0 m (pc + 3) ls (.int (nI (sm L a b)) :: rest))) : W p l e R s m args below meth c H locs cells slots Q (F0 m pc ls (.int (nI b) :: .int (nI a) :: .ref (z 2) :: rest)) := by
  obtain ⟨f, Wd, h1, h2, h3, h4, h5⟩ := X
  refine call_r (runVN (As := [.int (nI a), .int (nI b)]) (rest := rest) C Wd (c1_sum (l := l) (q0 := 2) (qa := 7) (h := z 2) (a := z 7) (cap := 600) (f := f 2) (L := L) (by rw [List.length_map]; rfl) rfl h2 (by decide) ha hb) wy_X1_sum ts_11 (List.mem_of_getElem? (i := 6) rfl) rfl (q0 := 2) rfl hR rfl hsz rfl hW hdg hf) (fun v hv => ?_)
  subst hv
  exact kk
theorem x2_groupOf_2 (C : Cx E p s m args meth c cc nL ret RX2 A) (X : X2w E A z v kd K L N S P s H locs) {b : Nat} (hb : b < 2 ^ 31) (hs : L.sum < 2 ^ 31) (hR : 2 ≤ R.frames ∧ 56 ≤ R.locals) (hsz : ls.size = nL) (hW : (rest.map fun v => v.category).sum ≤ 8) (hf : cells ≤ R.cells ∧ slots ≤ R.slots) (hdg : decode cc pc = .ok (.invokevirtual 104, 3)) (kk : W p l e R s m args below meth c H locs cells slots Q (F0 m (pc + 3) ls (.int (nI (gOf L b)) :: rest))) : W p l e R s m args below meth c H locs cells slots Q (F0 m pc ls (.int (nI b) :: .ref (z 2) :: rest)) := by
  obtain ⟨f, Wd, h1, h2, h3, h4, h5⟩ := X
  refine call_r (runVN (As := [.int (nI b)]) (rest := rest) C Wd (c1_groupOf (l := l) (q0 := 2) (qa := 7) (h := z 2) (a := z 7) (cap := 600) (f := f 2) (L := L) (by rw [List.length_map]; rfl) rfl h2 (by decide) hb hs) wy_X1_groupOf ts_9 (List.mem_of_getElem? (i := 5) rfl) rfl (q0 := 2) rfl hR rfl hsz rfl hW hdg hf) (fun v hv => ?_)
  subst hv
  exact kk
theorem x2_holds_3 (C : Cx E p s m args meth c cc nL ret RX2 A) (X : X2w E A z v kd K L N S P s H locs) {i : Int32} (hR : 1 ≤ R.frames ∧ 28 ≤ R.locals) (hsz : ls.size = nL) (hW : (rest.map fun v => v.category).sum ≤ 8) (hf : cells ≤ R.cells ∧ slots ≤ R.slots) (hdg : decode cc pc = .ok (.invokevirtual 124, 3)) (kk : W p l e R s m args below meth c H locs cells slots Q (F0 m (pc + 3) ls (.int (hld N.length i) :: rest))) : W p l e R s m args below meth c H locs cells slots Q (F0 m pc ls (.int i :: .ref (z 3) :: rest)) := by
  obtain ⟨f, Wd, h1, h2, h3, h4, h5⟩ := X
  refine call_r (runVN (As := [.int i]) (rest := rest) C Wd (c1_holds (l := l) (q0 := 3) (qa := 8) (h := z 3) (a := z 8) (cap := 601) (f := f 3) (M := N.map lN) (by rw [List.length_map]; rfl) rfl h3 (by decide) i) wy_X1_holds ts_22 (List.mem_of_getElem? (i := 8) rfl) rfl (q0 := 3) rfl hR rfl hsz rfl hW hdg hf) (fun v hv => ?_)
  subst hv
  rw [List.length_map]
  exact kk
theorem x2_intAt_3 (C : Cx E p s m args meth c cc nL ret RX2 A) (X : X2w E A z v kd K L N S P s H locs) {j : Nat} (hj : j < 2 ^ 31) (hR : 2 ≤ R.frames ∧ 56 ≤ R.locals) (hsz : ls.size = nL) (hW : (rest.map fun v => v.category).sum ≤ 8) (hf : cells ≤ R.cells ∧ slots ≤ R.slots) (hdg : decode cc pc = .ok (.invokevirtual 108, 3)) (kk : W p l e R s m args below meth c H locs cells slots Q (F0 m (pc + 3) ls (.int (nI (N.getD j 0)) :: rest))) : W p l e R s m args below meth c H locs cells slots Q (F0 m pc ls (.int (nI j) :: .ref (z 3) :: rest)) := by
  obtain ⟨f, Wd, h1, h2, h3, h4, h5⟩ := X
  refine call_r (runVN (As := [.int (nI j)]) (rest := rest) C Wd (c1_intAt (l := l) (q0 := 3) (qa := 8) (h := z 3) (a := z 8) (cap := 601) (f := f 3) (M := N.map lN) (by rw [List.length_map]; rfl) rfl h3 (by decide) (nI j)) wy_X1_intAt ts_3 (List.mem_of_getElem? (i := 2) rfl) rfl (q0 := 3) rfl hR rfl hsz rfl hW hdg hf) (fun v hv => ?_)
  subst hv
  rw [lAt_m hj]
  exact kk
theorem x2_sum_3 (C : Cx E p s m args meth c cc nL ret RX2 A) (X : X2w E A z v kd K L N S P s H locs) {a b : Nat} (ha : a ≤ 2 ^ 30) (hb : b ≤ 2 ^ 30) (hR : 2 ≤ R.frames ∧ 56 ≤ R.locals) (hsz : ls.size = nL) (hW : (rest.map fun v => v.category).sum ≤ 8) (hf : cells ≤ R.cells ∧ slots ≤ R.slots) (hdg : decode cc pc = .ok (.invokevirtual 137, 3)) (kk : W p l e R s m args below meth c H locs cells slots Q (F0 m (pc + 3) ls (.int (nI (sm N a b)) :: rest))) : W p l e R s m args below meth c H locs cells slots Q (F0 m pc ls (.int (nI b) :: .int (nI a) :: .ref (z 3) :: rest)) := by
  obtain ⟨f, Wd, h1, h2, h3, h4, h5⟩ := X
  refine call_r (runVN (As := [.int (nI a), .int (nI b)]) (rest := rest) C Wd (c1_sum (l := l) (q0 := 3) (qa := 8) (h := z 3) (a := z 8) (cap := 601) (f := f 3) (L := N) (by rw [List.length_map]; rfl) rfl h3 (by decide) ha hb) wy_X1_sum ts_11 (List.mem_of_getElem? (i := 6) rfl) rfl (q0 := 3) rfl hR rfl hsz rfl hW hdg hf) (fun v hv => ?_)
  subst hv
  exact kk
theorem x2_groupOf_3 (C : Cx E p s m args meth c cc nL ret RX2 A) (X : X2w E A z v kd K L N S P s H locs) {b : Nat} (hb : b < 2 ^ 31) (hs : N.sum < 2 ^ 31) (hR : 2 ≤ R.frames ∧ 56 ≤ R.locals) (hsz : ls.size = nL) (hW : (rest.map fun v => v.category).sum ≤ 8) (hf : cells ≤ R.cells ∧ slots ≤ R.slots) (hdg : decode cc pc = .ok (.invokevirtual 104, 3)) (kk : W p l e R s m args below meth c H locs cells slots Q (F0 m (pc + 3) ls (.int (nI (gOf N b)) :: rest))) : W p l e R s m args below meth c H locs cells slots Q (F0 m pc ls (.int (nI b) :: .ref (z 3) :: rest)) := by
  obtain ⟨f, Wd, h1, h2, h3, h4, h5⟩ := X
  refine call_r (runVN (As := [.int (nI b)]) (rest := rest) C Wd (c1_groupOf (l := l) (q0 := 3) (qa := 8) (h := z 3) (a := z 8) (cap := 601) (f := f 3) (L := N) (by rw [List.length_map]; rfl) rfl h3 (by decide) hb hs) wy_X1_groupOf ts_9 (List.mem_of_getElem? (i := 5) rfl) rfl (q0 := 3) rfl hR rfl hsz rfl hW hdg hf) (fun v hv => ?_)
  subst hv
  exact kk
theorem x2_holds_4 (C : Cx E p s m args meth c cc nL ret RX2 A) (X : X2w E A z v kd K L N S P s H locs) {i : Int32} (hR : 1 ≤ R.frames ∧ 28 ≤ R.locals) (hsz : ls.size = nL) (hW : (rest.map fun v => v.category).sum ≤ 8) (hf : cells ≤ R.cells ∧ slots ≤ R.slots) (hdg : decode cc pc = .ok (.invokevirtual 124, 3)) (kk : W p l e R s m args below meth c H locs cells slots Q (F0 m (pc + 3) ls (.int (hld S.length i) :: rest))) : W p l e R s m args below meth c H locs cells slots Q (F0 m pc ls (.int i :: .ref (z 4) :: rest)) := by
  obtain ⟨f, Wd, h1, h2, h3, h4, h5⟩ := X
  refine call_r (runVN (As := [.int i]) (rest := rest) C Wd (c1_holds (l := l) (q0 := 4) (qa := 9) (h := z 4) (a := z 9) (cap := 601) (f := f 4) (M := S.map lN) (by rw [List.length_map]; rfl) rfl h4 (by decide) i) wy_X1_holds ts_22 (List.mem_of_getElem? (i := 8) rfl) rfl (q0 := 4) rfl hR rfl hsz rfl hW hdg hf) (fun v hv => ?_)
  subst hv
  rw [List.length_map]
  exact kk
theorem x2_intAt_4 (C : Cx E p s m args meth c cc nL ret RX2 A) (X : X2w E A z v kd K L N S P s H locs) {j : Nat} (hj : j < 2 ^ 31) (hR : 2 ≤ R.frames ∧ 56 ≤ R.locals) (hsz : ls.size = nL) (hW : (rest.map fun v => v.category).sum ≤ 8) (hf : cells ≤ R.cells ∧ slots ≤ R.slots) (hdg : decode cc pc = .ok (.invokevirtual 108, 3)) (kk : W p l e R s m args below meth c H locs cells slots Q (F0 m (pc + 3) ls (.int (nI (S.getD j 0)) :: rest))) : W p l e R s m args below meth c H locs cells slots Q (F0 m pc ls (.int (nI j) :: .ref (z 4) :: rest)) := by
  obtain ⟨f, Wd, h1, h2, h3, h4, h5⟩ := X
  refine call_r (runVN (As := [.int (nI j)]) (rest := rest) C Wd (c1_intAt (l := l) (q0 := 4) (qa := 9) (h := z 4) (a := z 9) (cap := 601) (f := f 4) (M := S.map lN) (by rw [List.length_map]; rfl) rfl h4 (by decide) (nI j)) wy_X1_intAt ts_3 (List.mem_of_getElem? (i := 2) rfl) rfl (q0 := 4) rfl hR rfl hsz rfl hW hdg hf) (fun v hv => ?_)
  subst hv
  rw [lAt_m hj]
  exact kk
theorem x2_sum_4 (C : Cx E p s m args meth c cc nL ret RX2 A) (X : X2w E A z v kd K L N S P s H locs) {a b : Nat} (ha : a ≤ 2 ^ 30) (hb : b ≤ 2 ^ 30) (hR : 2 ≤ R.frames ∧ 56 ≤ R.locals) (hsz : ls.size = nL) (hW : (rest.map fun v => v.category).sum ≤ 8) (hf : cells ≤ R.cells ∧ slots ≤ R.slots) (hdg : decode cc pc = .ok (.invokevirtual 137, 3)) (kk : W p l e R s m args below meth c H locs cells slots Q (F0 m (pc + 3) ls (.int (nI (sm S a b)) :: rest))) : W p l e R s m args below meth c H locs cells slots Q (F0 m pc ls (.int (nI b) :: .int (nI a) :: .ref (z 4) :: rest)) := by
  obtain ⟨f, Wd, h1, h2, h3, h4, h5⟩ := X
  refine call_r (runVN (As := [.int (nI a), .int (nI b)]) (rest := rest) C Wd (c1_sum (l := l) (q0 := 4) (qa := 9) (h := z 4) (a := z 9) (cap := 601) (f := f 4) (L := S) (by rw [List.length_map]; rfl) rfl h4 (by decide) ha hb) wy_X1_sum ts_11 (List.mem_of_getElem? (i := 6) rfl) rfl (q0 := 4) rfl hR rfl hsz rfl hW hdg hf) (fun v hv => ?_)
  subst hv
  exact kk
theorem x2_groupOf_4 (C : Cx E p s m args meth c cc nL ret RX2 A) (X : X2w E A z v kd K L N S P s H locs) {b : Nat} (hb : b < 2 ^ 31) (hs : S.sum < 2 ^ 31) (hR : 2 ≤ R.frames ∧ 56 ≤ R.locals) (hsz : ls.size = nL) (hW : (rest.map fun v => v.category).sum ≤ 8) (hf : cells ≤ R.cells ∧ slots ≤ R.slots) (hdg : decode cc pc = .ok (.invokevirtual 104, 3)) (kk : W p l e R s m args below meth c H locs cells slots Q (F0 m (pc + 3) ls (.int (nI (gOf S b)) :: rest))) : W p l e R s m args below meth c H locs cells slots Q (F0 m pc ls (.int (nI b) :: .ref (z 4) :: rest)) := by
  obtain ⟨f, Wd, h1, h2, h3, h4, h5⟩ := X
  refine call_r (runVN (As := [.int (nI b)]) (rest := rest) C Wd (c1_groupOf (l := l) (q0 := 4) (qa := 9) (h := z 4) (a := z 9) (cap := 601) (f := f 4) (L := S) (by rw [List.length_map]; rfl) rfl h4 (by decide) hb hs) wy_X1_groupOf ts_9 (List.mem_of_getElem? (i := 5) rfl) rfl (q0 := 4) rfl hR rfl hsz rfl hW hdg hf) (fun v hv => ?_)
  subst hv
  exact kk
theorem x2_holds_5 (C : Cx E p s m args meth c cc nL ret RX2 A) (X : X2w E A z v kd K L N S P s H locs) {i : Int32} (hR : 1 ≤ R.frames ∧ 28 ≤ R.locals) (hsz : ls.size = nL) (hW : (rest.map fun v => v.category).sum ≤ 8) (hf : cells ≤ R.cells ∧ slots ≤ R.slots) (hdg : decode cc pc = .ok (.invokevirtual 124, 3)) (kk : W p l e R s m args below meth c H locs cells slots Q (F0 m (pc + 3) ls (.int (hld P.length i) :: rest))) : W p l e R s m args below meth c H locs cells slots Q (F0 m pc ls (.int i :: .ref (z 5) :: rest)) := by
  obtain ⟨f, Wd, h1, h2, h3, h4, h5⟩ := X
  refine call_r (runVN (As := [.int i]) (rest := rest) C Wd (c1_holds (l := l) (q0 := 5) (qa := 10) (h := z 5) (a := z 10) (cap := 601) (f := f 5) (M := P.map lN) (by rw [List.length_map]; rfl) rfl h5 (by decide) i) wy_X1_holds ts_22 (List.mem_of_getElem? (i := 8) rfl) rfl (q0 := 5) rfl hR rfl hsz rfl hW hdg hf) (fun v hv => ?_)
  subst hv
  rw [List.length_map]
  exact kk
theorem x2_intAt_5 (C : Cx E p s m args meth c cc nL ret RX2 A) (X : X2w E A z v kd K L N S P s H locs) {j : Nat} (hj : j < 2 ^ 31) (hR : 2 ≤ R.frames ∧ 56 ≤ R.locals) (hsz : ls.size = nL) (hW : (rest.map fun v => v.category).sum ≤ 8) (hf : cells ≤ R.cells ∧ slots ≤ R.slots) (hdg : decode cc pc = .ok (.invokevirtual 108, 3)) (kk : W p l e R s m args below meth c H locs cells slots Q (F0 m (pc + 3) ls (.int (nI (P.getD j 0)) :: rest))) : W p l e R s m args below meth c H locs cells slots Q (F0 m pc ls (.int (nI j) :: .ref (z 5) :: rest)) := by
  obtain ⟨f, Wd, h1, h2, h3, h4, h5⟩ := X
  refine call_r (runVN (As := [.int (nI j)]) (rest := rest) C Wd (c1_intAt (l := l) (q0 := 5) (qa := 10) (h := z 5) (a := z 10) (cap := 601) (f := f 5) (M := P.map lN) (by rw [List.length_map]; rfl) rfl h5 (by decide) (nI j)) wy_X1_intAt ts_3 (List.mem_of_getElem? (i := 2) rfl) rfl (q0 := 5) rfl hR rfl hsz rfl hW hdg hf) (fun v hv => ?_)
  subst hv
  rw [lAt_m hj]
  exact kk
theorem x2_sum_5 (C : Cx E p s m args meth c cc nL ret RX2 A) (X : X2w E A z v kd K L N S P s H locs) {a b : Nat} (ha : a ≤ 2 ^ 30) (hb : b ≤ 2 ^ 30) (hR : 2 ≤ R.frames ∧ 56 ≤ R.locals) (hsz : ls.size = nL) (hW : (rest.map fun v => v.category).sum ≤ 8) (hf : cells ≤ R.cells ∧ slots ≤ R.slots) (hdg : decode cc pc = .ok (.invokevirtual 137, 3)) (kk : W p l e R s m args below meth c H locs cells slots Q (F0 m (pc + 3) ls (.int (nI (sm P a b)) :: rest))) : W p l e R s m args below meth c H locs cells slots Q (F0 m pc ls (.int (nI b) :: .int (nI a) :: .ref (z 5) :: rest)) := by
  obtain ⟨f, Wd, h1, h2, h3, h4, h5⟩ := X
  refine call_r (runVN (As := [.int (nI a), .int (nI b)]) (rest := rest) C Wd (c1_sum (l := l) (q0 := 5) (qa := 10) (h := z 5) (a := z 10) (cap := 601) (f := f 5) (L := P) (by rw [List.length_map]; rfl) rfl h5 (by decide) ha hb) wy_X1_sum ts_11 (List.mem_of_getElem? (i := 6) rfl) rfl (q0 := 5) rfl hR rfl hsz rfl hW hdg hf) (fun v hv => ?_)
  subst hv
  exact kk
theorem x2_groupOf_5 (C : Cx E p s m args meth c cc nL ret RX2 A) (X : X2w E A z v kd K L N S P s H locs) {b : Nat} (hb : b < 2 ^ 31) (hs : P.sum < 2 ^ 31) (hR : 2 ≤ R.frames ∧ 56 ≤ R.locals) (hsz : ls.size = nL) (hW : (rest.map fun v => v.category).sum ≤ 8) (hf : cells ≤ R.cells ∧ slots ≤ R.slots) (hdg : decode cc pc = .ok (.invokevirtual 104, 3)) (kk : W p l e R s m args below meth c H locs cells slots Q (F0 m (pc + 3) ls (.int (nI (gOf P b)) :: rest))) : W p l e R s m args below meth c H locs cells slots Q (F0 m pc ls (.int (nI b) :: .ref (z 5) :: rest)) := by
  obtain ⟨f, Wd, h1, h2, h3, h4, h5⟩ := X
  refine call_r (runVN (As := [.int (nI b)]) (rest := rest) C Wd (c1_groupOf (l := l) (q0 := 5) (qa := 10) (h := z 5) (a := z 10) (cap := 601) (f := f 5) (L := P) (by rw [List.length_map]; rfl) rfl h5 (by decide) hb hs) wy_X1_groupOf ts_9 (List.mem_of_getElem? (i := 5) rfl) rfl (q0 := 5) rfl hR rfl hsz rfl hW hdg hf) (fun v hv => ?_)
  subst hv
  exact kk
theorem x2_insertAt_1 (C : Cx E p s m args meth c cc nL ret RX2 A) (X : X2w E A z v kd K L N S P s H locs) {j : Nat} {x : Int64} (hj : j ≤ K.length) (hc : K.length < 600) (hR : 2 ≤ R.frames ∧ 56 ≤ R.locals) (hsz : ls.size = nL) (hW : (rest.map fun v => v.category).sum ≤ 8) (hf : cells ≤ R.cells ∧ slots ≤ R.slots) (hdg : decode cc pc = .ok (.invokevirtual 194, 3)) (kk : ∀ (H1 : Heap) (locs1 : List Loc), X2w E A z v kd (ins K j x) L N S P s H1 locs1 → W p l e R s m args below meth c H1 locs1 cells slots Q (F0 m (pc + 3) ls rest)) : W p l e R s m args below meth c H locs cells slots Q (F0 m pc ls (.long x :: .int (nI j) :: .ref (z 1) :: rest)) := by
  obtain ⟨f, Wd, h1, h2, h3, h4, h5⟩ := X
  refine call_w C Wd (runVN (As := [.int (nI j), .long x]) (rest := rest) C Wd (c1_insertAt (l := l) (q0 := 1) (qa := 6) (h := z 1) (a := z 6) (cap := 600) (f := f 1) (M := K) rfl rfl h1 (by decide) hj hc x) wy_X1_insertAt ts_2 (List.mem_of_getElem? (i := 1) rfl) rfl (q0 := 1) rfl hR rfl hsz rfl hW hdg hf) (fun v ws' H1 locs1 hp Wd => ?_)
  obtain ⟨rfl, f', rfl, hok⟩ := hp
  have hok2 : RowOk f' 600 (ins K j x) := hok
  have e : K.length + 1 = (ins K j x).length := (ins_len hj).symm
  rw [e] at Wd
  exact kk H1 locs1 ⟨va_up f 1 f', Wd, hok2, h2, h3, h4, h5⟩
theorem x2_deleteAt_1 (C : Cx E p s m args meth c cc nL ret RX2 A) (X : X2w E A z v kd K L N S P s H locs) {j : Nat} (hj : j < K.length) (hR : 2 ≤ R.frames ∧ 56 ≤ R.locals) (hsz : ls.size = nL) (hW : (rest.map fun v => v.category).sum ≤ 8) (hf : cells ≤ R.cells ∧ slots ≤ R.slots) (hdg : decode cc pc = .ok (.invokevirtual 114, 3)) (kk : ∀ (H1 : Heap) (locs1 : List Loc), X2w E A z v kd (del K j) L N S P s H1 locs1 → W p l e R s m args below meth c H1 locs1 cells slots Q (F0 m (pc + 3) ls rest)) : W p l e R s m args below meth c H locs cells slots Q (F0 m pc ls (.int (nI j) :: .ref (z 1) :: rest)) := by
  obtain ⟨f, Wd, h1, h2, h3, h4, h5⟩ := X
  refine call_w C Wd (runVN (As := [.int (nI j)]) (rest := rest) C Wd (c1_deleteAt (l := l) (q0 := 1) (qa := 6) (h := z 1) (a := z 6) (cap := 600) (f := f 1) (M := K) rfl rfl h1 (by decide) hj) wy_X1_deleteAt ts_20 (List.mem_of_getElem? (i := 7) rfl) rfl (q0 := 1) rfl hR rfl hsz rfl hW hdg hf) (fun v ws' H1 locs1 hp Wd => ?_)
  obtain ⟨rfl, f', rfl, hok⟩ := hp
  have hok2 : RowOk f' 600 (del K j) := hok
  have e : K.length - 1 = (del K j).length := (del_len hj).symm
  rw [e] at Wd
  exact kk H1 locs1 ⟨va_up f 1 f', Wd, hok2, h2, h3, h4, h5⟩
theorem x2_insertAt_2 (C : Cx E p s m args meth c cc nL ret RX2 A) (X : X2w E A z v kd K L N S P s H locs) {j x : Nat} (hj : j ≤ L.length) (hc : L.length < 600) (hR : 2 ≤ R.frames ∧ 56 ≤ R.locals) (hsz : ls.size = nL) (hW : (rest.map fun v => v.category).sum ≤ 8) (hf : cells ≤ R.cells ∧ slots ≤ R.slots) (hdg : decode cc pc = .ok (.invokevirtual 194, 3)) (kk : ∀ (H1 : Heap) (locs1 : List Loc), X2w E A z v kd K (ins L j x) N S P s H1 locs1 → W p l e R s m args below meth c H1 locs1 cells slots Q (F0 m (pc + 3) ls rest)) : W p l e R s m args below meth c H locs cells slots Q (F0 m pc ls (.long (lN x) :: .int (nI j) :: .ref (z 2) :: rest)) := by
  obtain ⟨f, Wd, h1, h2, h3, h4, h5⟩ := X
  refine call_w C Wd (runVN (As := [.int (nI j), .long (lN x)]) (rest := rest) C Wd (c1_insertAt (l := l) (q0 := 2) (qa := 7) (h := z 2) (a := z 7) (cap := 600) (f := f 2) (M := L.map lN) (by rw [List.length_map]; rfl) rfl h2 (by decide) (by rw [List.length_map]; exact hj) (by rw [List.length_map]; exact hc) (lN x)) wy_X1_insertAt ts_2 (List.mem_of_getElem? (i := 1) rfl) rfl (q0 := 2) rfl hR rfl hsz rfl hW hdg hf) (fun v ws' H1 locs1 hp Wd => ?_)
  obtain ⟨rfl, f', rfl, hok⟩ := hp
  have hok2 : RowOk f' 600 ((ins L j x).map lN) := by rw [ins_map]; exact hok
  have e : (L.map lN).length + 1 = (ins L j x).length := by rw [List.length_map, ins_len hj]
  rw [e] at Wd
  exact kk H1 locs1 ⟨va_up f 2 f', Wd, h1, hok2, h3, h4, h5⟩
theorem x2_deleteAt_2 (C : Cx E p s m args meth c cc nL ret RX2 A) (X : X2w E A z v kd K L N S P s H locs) {j : Nat} (hj : j < L.length) (hR : 2 ≤ R.frames ∧ 56 ≤ R.locals) (hsz : ls.size = nL) (hW : (rest.map fun v => v.category).sum ≤ 8) (hf : cells ≤ R.cells ∧ slots ≤ R.slots) (hdg : decode cc pc = .ok (.invokevirtual 114, 3)) (kk : ∀ (H1 : Heap) (locs1 : List Loc), X2w E A z v kd K (del L j) N S P s H1 locs1 → W p l e R s m args below meth c H1 locs1 cells slots Q (F0 m (pc + 3) ls rest)) : W p l e R s m args below meth c H locs cells slots Q (F0 m pc ls (.int (nI j) :: .ref (z 2) :: rest)) := by
  obtain ⟨f, Wd, h1, h2, h3, h4, h5⟩ := X
  refine call_w C Wd (runVN (As := [.int (nI j)]) (rest := rest) C Wd (c1_deleteAt (l := l) (q0 := 2) (qa := 7) (h := z 2) (a := z 7) (cap := 600) (f := f 2) (M := L.map lN) (by rw [List.length_map]; rfl) rfl h2 (by decide) (by rw [List.length_map]; exact hj)) wy_X1_deleteAt ts_20 (List.mem_of_getElem? (i := 7) rfl) rfl (q0 := 2) rfl hR rfl hsz rfl hW hdg hf) (fun v ws' H1 locs1 hp Wd => ?_)
  obtain ⟨rfl, f', rfl, hok⟩ := hp
  have hok2 : RowOk f' 600 ((del L j).map lN) := by rw [del_map]; exact hok
  have e : (L.map lN).length - 1 = (del L j).length := by rw [List.length_map, del_len hj]
  rw [e] at Wd
  exact kk H1 locs1 ⟨va_up f 2 f', Wd, h1, hok2, h3, h4, h5⟩
theorem x2_raiseUp_2 (C : Cx E p s m args meth c cc nL ret RX2 A) (X : X2w E A z v kd K L N S P s H locs) {j q : Nat} (hj : j < L.length) (hq : q < 2 ^ 31) (hR : 1 ≤ R.frames ∧ 28 ≤ R.locals) (hsz : ls.size = nL) (hW : (rest.map fun v => v.category).sum ≤ 8) (hf : cells ≤ R.cells ∧ slots ≤ R.slots) (hdg : decode cc pc = .ok (.invokevirtual 117, 3)) (kk : ∀ (H1 : Heap) (locs1 : List Loc), X2w E A z v kd K (L.set j (L.getD j 0 + q)) N S P s H1 locs1 → W p l e R s m args below meth c H1 locs1 cells slots Q (F0 m (pc + 3) ls rest)) : W p l e R s m args below meth c H locs cells slots Q (F0 m pc ls (.int (nI q) :: .int (nI j) :: .ref (z 2) :: rest)) := by
  obtain ⟨f, Wd, h1, h2, h3, h4, h5⟩ := X
  refine call_w C Wd (runVN (As := [.int (nI j), .int (nI q)]) (rest := rest) C Wd (c1_raise (l := l) (q0 := 2) (qa := 7) (h := z 2) (a := z 7) (cap := 600) (f := f 2) (M := L.map lN) (by rw [List.length_map]; rfl) rfl h2 (by decide) (by rw [List.length_map]; exact hj) (nI q)) wy_X1_raise ts_5 (List.mem_of_getElem? (i := 3) rfl) rfl (q0 := 2) rfl hR rfl hsz rfl hW hdg hf) (fun v ws' H1 locs1 hp Wd => ?_)
  obtain ⟨rfl, f', rfl, hok⟩ := hp
  have hok2 : RowOk f' 600 ((L.set j (L.getD j 0 + q)).map lN) := by rw [map_getD, nI_l hq, lN_add, setm] at hok; exact hok
  have e : (L.map lN).length = (L.set j (L.getD j 0 + q)).length := by rw [List.length_map, List.length_set]
  rw [e] at Wd
  exact kk H1 locs1 ⟨va_up f 2 f', Wd, h1, hok2, h3, h4, h5⟩
theorem x2_raiseDn_2 (C : Cx E p s m args meth c cc nL ret RX2 A) (X : X2w E A z v kd K L N S P s H locs) {j q : Nat} {d : Int32} (hd : d = -(nI q)) (hj : j < L.length) (hq : q < 2 ^ 31) (hle : q ≤ L.getD j 0) (hR : 1 ≤ R.frames ∧ 28 ≤ R.locals) (hsz : ls.size = nL) (hW : (rest.map fun v => v.category).sum ≤ 8) (hf : cells ≤ R.cells ∧ slots ≤ R.slots) (hdg : decode cc pc = .ok (.invokevirtual 117, 3)) (kk : ∀ (H1 : Heap) (locs1 : List Loc), X2w E A z v kd K (L.set j (L.getD j 0 - q)) N S P s H1 locs1 → W p l e R s m args below meth c H1 locs1 cells slots Q (F0 m (pc + 3) ls rest)) : W p l e R s m args below meth c H locs cells slots Q (F0 m pc ls (.int d :: .int (nI j) :: .ref (z 2) :: rest)) := by
  obtain ⟨f, Wd, h1, h2, h3, h4, h5⟩ := X
  refine call_w C Wd (runVN (As := [.int (nI j), .int d]) (rest := rest) C Wd (c1_raise (l := l) (q0 := 2) (qa := 7) (h := z 2) (a := z 7) (cap := 600) (f := f 2) (M := L.map lN) (by rw [List.length_map]; rfl) rfl h2 (by decide) (by rw [List.length_map]; exact hj) d) wy_X1_raise ts_5 (List.mem_of_getElem? (i := 3) rfl) rfl (q0 := 2) rfl hR rfl hsz rfl hW hdg hf) (fun v ws' H1 locs1 hp Wd => ?_)
  obtain ⟨rfl, f', rfl, hok⟩ := hp
  have hok2 : RowOk f' 600 ((L.set j (L.getD j 0 - q)).map lN) := by rw [hd, map_getD, neg64 hq, dn64 hle, setm] at hok; exact hok
  have e : (L.map lN).length = (L.set j (L.getD j 0 - q)).length := by rw [List.length_map, List.length_set]
  rw [e] at Wd
  exact kk H1 locs1 ⟨va_up f 2 f', Wd, h1, hok2, h3, h4, h5⟩
theorem x2_insertAt_3 (C : Cx E p s m args meth c cc nL ret RX2 A) (X : X2w E A z v kd K L N S P s H locs) {j x : Nat} (hj : j ≤ N.length) (hc : N.length < 601) (hR : 2 ≤ R.frames ∧ 56 ≤ R.locals) (hsz : ls.size = nL) (hW : (rest.map fun v => v.category).sum ≤ 8) (hf : cells ≤ R.cells ∧ slots ≤ R.slots) (hdg : decode cc pc = .ok (.invokevirtual 194, 3)) (kk : ∀ (H1 : Heap) (locs1 : List Loc), X2w E A z v kd K L (ins N j x) S P s H1 locs1 → W p l e R s m args below meth c H1 locs1 cells slots Q (F0 m (pc + 3) ls rest)) : W p l e R s m args below meth c H locs cells slots Q (F0 m pc ls (.long (lN x) :: .int (nI j) :: .ref (z 3) :: rest)) := by
  obtain ⟨f, Wd, h1, h2, h3, h4, h5⟩ := X
  refine call_w C Wd (runVN (As := [.int (nI j), .long (lN x)]) (rest := rest) C Wd (c1_insertAt (l := l) (q0 := 3) (qa := 8) (h := z 3) (a := z 8) (cap := 601) (f := f 3) (M := N.map lN) (by rw [List.length_map]; rfl) rfl h3 (by decide) (by rw [List.length_map]; exact hj) (by rw [List.length_map]; exact hc) (lN x)) wy_X1_insertAt ts_2 (List.mem_of_getElem? (i := 1) rfl) rfl (q0 := 3) rfl hR rfl hsz rfl hW hdg hf) (fun v ws' H1 locs1 hp Wd => ?_)
  obtain ⟨rfl, f', rfl, hok⟩ := hp
  have hok2 : RowOk f' 601 ((ins N j x).map lN) := by rw [ins_map]; exact hok
  have e : (N.map lN).length + 1 = (ins N j x).length := by rw [List.length_map, ins_len hj]
  rw [e] at Wd
  exact kk H1 locs1 ⟨va_up f 3 f', Wd, h1, h2, hok2, h4, h5⟩
theorem x2_deleteAt_3 (C : Cx E p s m args meth c cc nL ret RX2 A) (X : X2w E A z v kd K L N S P s H locs) {j : Nat} (hj : j < N.length) (hR : 2 ≤ R.frames ∧ 56 ≤ R.locals) (hsz : ls.size = nL) (hW : (rest.map fun v => v.category).sum ≤ 8) (hf : cells ≤ R.cells ∧ slots ≤ R.slots) (hdg : decode cc pc = .ok (.invokevirtual 114, 3)) (kk : ∀ (H1 : Heap) (locs1 : List Loc), X2w E A z v kd K L (del N j) S P s H1 locs1 → W p l e R s m args below meth c H1 locs1 cells slots Q (F0 m (pc + 3) ls rest)) : W p l e R s m args below meth c H locs cells slots Q (F0 m pc ls (.int (nI j) :: .ref (z 3) :: rest)) := by
  obtain ⟨f, Wd, h1, h2, h3, h4, h5⟩ := X
  refine call_w C Wd (runVN (As := [.int (nI j)]) (rest := rest) C Wd (c1_deleteAt (l := l) (q0 := 3) (qa := 8) (h := z 3) (a := z 8) (cap := 601) (f := f 3) (M := N.map lN) (by rw [List.length_map]; rfl) rfl h3 (by decide) (by rw [List.length_map]; exact hj)) wy_X1_deleteAt ts_20 (List.mem_of_getElem? (i := 7) rfl) rfl (q0 := 3) rfl hR rfl hsz rfl hW hdg hf) (fun v ws' H1 locs1 hp Wd => ?_)
  obtain ⟨rfl, f', rfl, hok⟩ := hp
  have hok2 : RowOk f' 601 ((del N j).map lN) := by rw [del_map]; exact hok
  have e : (N.map lN).length - 1 = (del N j).length := by rw [List.length_map, del_len hj]
  rw [e] at Wd
  exact kk H1 locs1 ⟨va_up f 3 f', Wd, h1, h2, hok2, h4, h5⟩
theorem x2_raiseUp_3 (C : Cx E p s m args meth c cc nL ret RX2 A) (X : X2w E A z v kd K L N S P s H locs) {j q : Nat} (hj : j < N.length) (hq : q < 2 ^ 31) (hR : 1 ≤ R.frames ∧ 28 ≤ R.locals) (hsz : ls.size = nL) (hW : (rest.map fun v => v.category).sum ≤ 8) (hf : cells ≤ R.cells ∧ slots ≤ R.slots) (hdg : decode cc pc = .ok (.invokevirtual 117, 3)) (kk : ∀ (H1 : Heap) (locs1 : List Loc), X2w E A z v kd K L (N.set j (N.getD j 0 + q)) S P s H1 locs1 → W p l e R s m args below meth c H1 locs1 cells slots Q (F0 m (pc + 3) ls rest)) : W p l e R s m args below meth c H locs cells slots Q (F0 m pc ls (.int (nI q) :: .int (nI j) :: .ref (z 3) :: rest)) := by
  obtain ⟨f, Wd, h1, h2, h3, h4, h5⟩ := X
  refine call_w C Wd (runVN (As := [.int (nI j), .int (nI q)]) (rest := rest) C Wd (c1_raise (l := l) (q0 := 3) (qa := 8) (h := z 3) (a := z 8) (cap := 601) (f := f 3) (M := N.map lN) (by rw [List.length_map]; rfl) rfl h3 (by decide) (by rw [List.length_map]; exact hj) (nI q)) wy_X1_raise ts_5 (List.mem_of_getElem? (i := 3) rfl) rfl (q0 := 3) rfl hR rfl hsz rfl hW hdg hf) (fun v ws' H1 locs1 hp Wd => ?_)
  obtain ⟨rfl, f', rfl, hok⟩ := hp
  have hok2 : RowOk f' 601 ((N.set j (N.getD j 0 + q)).map lN) := by rw [map_getD, nI_l hq, lN_add, setm] at hok; exact hok
  have e : (N.map lN).length = (N.set j (N.getD j 0 + q)).length := by rw [List.length_map, List.length_set]
  rw [e] at Wd
  exact kk H1 locs1 ⟨va_up f 3 f', Wd, h1, h2, hok2, h4, h5⟩
theorem x2_raiseDn_3 (C : Cx E p s m args meth c cc nL ret RX2 A) (X : X2w E A z v kd K L N S P s H locs) {j q : Nat} {d : Int32} (hd : d = -(nI q)) (hj : j < N.length) (hq : q < 2 ^ 31) (hle : q ≤ N.getD j 0) (hR : 1 ≤ R.frames ∧ 28 ≤ R.locals) (hsz : ls.size = nL) (hW : (rest.map fun v => v.category).sum ≤ 8) (hf : cells ≤ R.cells ∧ slots ≤ R.slots) (hdg : decode cc pc = .ok (.invokevirtual 117, 3)) (kk : ∀ (H1 : Heap) (locs1 : List Loc), X2w E A z v kd K L (N.set j (N.getD j 0 - q)) S P s H1 locs1 → W p l e R s m args below meth c H1 locs1 cells slots Q (F0 m (pc + 3) ls rest)) : W p l e R s m args below meth c H locs cells slots Q (F0 m pc ls (.int d :: .int (nI j) :: .ref (z 3) :: rest)) := by
  obtain ⟨f, Wd, h1, h2, h3, h4, h5⟩ := X
  refine call_w C Wd (runVN (As := [.int (nI j), .int d]) (rest := rest) C Wd (c1_raise (l := l) (q0 := 3) (qa := 8) (h := z 3) (a := z 8) (cap := 601) (f := f 3) (M := N.map lN) (by rw [List.length_map]; rfl) rfl h3 (by decide) (by rw [List.length_map]; exact hj) d) wy_X1_raise ts_5 (List.mem_of_getElem? (i := 3) rfl) rfl (q0 := 3) rfl hR rfl hsz rfl hW hdg hf) (fun v ws' H1 locs1 hp Wd => ?_)
  obtain ⟨rfl, f', rfl, hok⟩ := hp
  have hok2 : RowOk f' 601 ((N.set j (N.getD j 0 - q)).map lN) := by rw [hd, map_getD, neg64 hq, dn64 hle, setm] at hok; exact hok
  have e : (N.map lN).length = (N.set j (N.getD j 0 - q)).length := by rw [List.length_map, List.length_set]
  rw [e] at Wd
  exact kk H1 locs1 ⟨va_up f 3 f', Wd, h1, h2, hok2, h4, h5⟩
theorem x2_insertAt_4 (C : Cx E p s m args meth c cc nL ret RX2 A) (X : X2w E A z v kd K L N S P s H locs) {j x : Nat} (hj : j ≤ S.length) (hc : S.length < 601) (hR : 2 ≤ R.frames ∧ 56 ≤ R.locals) (hsz : ls.size = nL) (hW : (rest.map fun v => v.category).sum ≤ 8) (hf : cells ≤ R.cells ∧ slots ≤ R.slots) (hdg : decode cc pc = .ok (.invokevirtual 194, 3)) (kk : ∀ (H1 : Heap) (locs1 : List Loc), X2w E A z v kd K L N (ins S j x) P s H1 locs1 → W p l e R s m args below meth c H1 locs1 cells slots Q (F0 m (pc + 3) ls rest)) : W p l e R s m args below meth c H locs cells slots Q (F0 m pc ls (.long (lN x) :: .int (nI j) :: .ref (z 4) :: rest)) := by
  obtain ⟨f, Wd, h1, h2, h3, h4, h5⟩ := X
  refine call_w C Wd (runVN (As := [.int (nI j), .long (lN x)]) (rest := rest) C Wd (c1_insertAt (l := l) (q0 := 4) (qa := 9) (h := z 4) (a := z 9) (cap := 601) (f := f 4) (M := S.map lN) (by rw [List.length_map]; rfl) rfl h4 (by decide) (by rw [List.length_map]; exact hj) (by rw [List.length_map]; exact hc) (lN x)) wy_X1_insertAt ts_2 (List.mem_of_getElem? (i := 1) rfl) rfl (q0 := 4) rfl hR rfl hsz rfl hW hdg hf) (fun v ws' H1 locs1 hp Wd => ?_)
  obtain ⟨rfl, f', rfl, hok⟩ := hp
  have hok2 : RowOk f' 601 ((ins S j x).map lN) := by rw [ins_map]; exact hok
  have e : (S.map lN).length + 1 = (ins S j x).length := by rw [List.length_map, ins_len hj]
  rw [e] at Wd
  exact kk H1 locs1 ⟨va_up f 4 f', Wd, h1, h2, h3, hok2, h5⟩
theorem x2_deleteAt_4 (C : Cx E p s m args meth c cc nL ret RX2 A) (X : X2w E A z v kd K L N S P s H locs) {j : Nat} (hj : j < S.length) (hR : 2 ≤ R.frames ∧ 56 ≤ R.locals) (hsz : ls.size = nL) (hW : (rest.map fun v => v.category).sum ≤ 8) (hf : cells ≤ R.cells ∧ slots ≤ R.slots) (hdg : decode cc pc = .ok (.invokevirtual 114, 3)) (kk : ∀ (H1 : Heap) (locs1 : List Loc), X2w E A z v kd K L N (del S j) P s H1 locs1 → W p l e R s m args below meth c H1 locs1 cells slots Q (F0 m (pc + 3) ls rest)) : W p l e R s m args below meth c H locs cells slots Q (F0 m pc ls (.int (nI j) :: .ref (z 4) :: rest)) := by
  obtain ⟨f, Wd, h1, h2, h3, h4, h5⟩ := X
  refine call_w C Wd (runVN (As := [.int (nI j)]) (rest := rest) C Wd (c1_deleteAt (l := l) (q0 := 4) (qa := 9) (h := z 4) (a := z 9) (cap := 601) (f := f 4) (M := S.map lN) (by rw [List.length_map]; rfl) rfl h4 (by decide) (by rw [List.length_map]; exact hj)) wy_X1_deleteAt ts_20 (List.mem_of_getElem? (i := 7) rfl) rfl (q0 := 4) rfl hR rfl hsz rfl hW hdg hf) (fun v ws' H1 locs1 hp Wd => ?_)
  obtain ⟨rfl, f', rfl, hok⟩ := hp
  have hok2 : RowOk f' 601 ((del S j).map lN) := by rw [del_map]; exact hok
  have e : (S.map lN).length - 1 = (del S j).length := by rw [List.length_map, del_len hj]
  rw [e] at Wd
  exact kk H1 locs1 ⟨va_up f 4 f', Wd, h1, h2, h3, hok2, h5⟩
theorem x2_raiseUp_4 (C : Cx E p s m args meth c cc nL ret RX2 A) (X : X2w E A z v kd K L N S P s H locs) {j q : Nat} (hj : j < S.length) (hq : q < 2 ^ 31) (hR : 1 ≤ R.frames ∧ 28 ≤ R.locals) (hsz : ls.size = nL) (hW : (rest.map fun v => v.category).sum ≤ 8) (hf : cells ≤ R.cells ∧ slots ≤ R.slots) (hdg : decode cc pc = .ok (.invokevirtual 117, 3)) (kk : ∀ (H1 : Heap) (locs1 : List Loc), X2w E A z v kd K L N (S.set j (S.getD j 0 + q)) P s H1 locs1 → W p l e R s m args below meth c H1 locs1 cells slots Q (F0 m (pc + 3) ls rest)) : W p l e R s m args below meth c H locs cells slots Q (F0 m pc ls (.int (nI q) :: .int (nI j) :: .ref (z 4) :: rest)) := by
  obtain ⟨f, Wd, h1, h2, h3, h4, h5⟩ := X
  refine call_w C Wd (runVN (As := [.int (nI j), .int (nI q)]) (rest := rest) C Wd (c1_raise (l := l) (q0 := 4) (qa := 9) (h := z 4) (a := z 9) (cap := 601) (f := f 4) (M := S.map lN) (by rw [List.length_map]; rfl) rfl h4 (by decide) (by rw [List.length_map]; exact hj) (nI q)) wy_X1_raise ts_5 (List.mem_of_getElem? (i := 3) rfl) rfl (q0 := 4) rfl hR rfl hsz rfl hW hdg hf) (fun v ws' H1 locs1 hp Wd => ?_)
  obtain ⟨rfl, f', rfl, hok⟩ := hp
  have hok2 : RowOk f' 601 ((S.set j (S.getD j 0 + q)).map lN) := by rw [map_getD, nI_l hq, lN_add, setm] at hok; exact hok
  have e : (S.map lN).length = (S.set j (S.getD j 0 + q)).length := by rw [List.length_map, List.length_set]
  rw [e] at Wd
  exact kk H1 locs1 ⟨va_up f 4 f', Wd, h1, h2, h3, hok2, h5⟩
theorem x2_raiseDn_4 (C : Cx E p s m args meth c cc nL ret RX2 A) (X : X2w E A z v kd K L N S P s H locs) {j q : Nat} {d : Int32} (hd : d = -(nI q)) (hj : j < S.length) (hq : q < 2 ^ 31) (hle : q ≤ S.getD j 0) (hR : 1 ≤ R.frames ∧ 28 ≤ R.locals) (hsz : ls.size = nL) (hW : (rest.map fun v => v.category).sum ≤ 8) (hf : cells ≤ R.cells ∧ slots ≤ R.slots) (hdg : decode cc pc = .ok (.invokevirtual 117, 3)) (kk : ∀ (H1 : Heap) (locs1 : List Loc), X2w E A z v kd K L N (S.set j (S.getD j 0 - q)) P s H1 locs1 → W p l e R s m args below meth c H1 locs1 cells slots Q (F0 m (pc + 3) ls rest)) : W p l e R s m args below meth c H locs cells slots Q (F0 m pc ls (.int d :: .int (nI j) :: .ref (z 4) :: rest)) := by
  obtain ⟨f, Wd, h1, h2, h3, h4, h5⟩ := X
  refine call_w C Wd (runVN (As := [.int (nI j), .int d]) (rest := rest) C Wd (c1_raise (l := l) (q0 := 4) (qa := 9) (h := z 4) (a := z 9) (cap := 601) (f := f 4) (M := S.map lN) (by rw [List.length_map]; rfl) rfl h4 (by decide) (by rw [List.length_map]; exact hj) d) wy_X1_raise ts_5 (List.mem_of_getElem? (i := 3) rfl) rfl (q0 := 4) rfl hR rfl hsz rfl hW hdg hf) (fun v ws' H1 locs1 hp Wd => ?_)
  obtain ⟨rfl, f', rfl, hok⟩ := hp
  have hok2 : RowOk f' 601 ((S.set j (S.getD j 0 - q)).map lN) := by rw [hd, map_getD, neg64 hq, dn64 hle, setm] at hok; exact hok
  have e : (S.map lN).length = (S.set j (S.getD j 0 - q)).length := by rw [List.length_map, List.length_set]
  rw [e] at Wd
  exact kk H1 locs1 ⟨va_up f 4 f', Wd, h1, h2, h3, hok2, h5⟩
theorem x2_insertAt_5 (C : Cx E p s m args meth c cc nL ret RX2 A) (X : X2w E A z v kd K L N S P s H locs) {j x : Nat} (hj : j ≤ P.length) (hc : P.length < 601) (hR : 2 ≤ R.frames ∧ 56 ≤ R.locals) (hsz : ls.size = nL) (hW : (rest.map fun v => v.category).sum ≤ 8) (hf : cells ≤ R.cells ∧ slots ≤ R.slots) (hdg : decode cc pc = .ok (.invokevirtual 194, 3)) (kk : ∀ (H1 : Heap) (locs1 : List Loc), X2w E A z v kd K L N S (ins P j x) s H1 locs1 → W p l e R s m args below meth c H1 locs1 cells slots Q (F0 m (pc + 3) ls rest)) : W p l e R s m args below meth c H locs cells slots Q (F0 m pc ls (.long (lN x) :: .int (nI j) :: .ref (z 5) :: rest)) := by
  obtain ⟨f, Wd, h1, h2, h3, h4, h5⟩ := X
  refine call_w C Wd (runVN (As := [.int (nI j), .long (lN x)]) (rest := rest) C Wd (c1_insertAt (l := l) (q0 := 5) (qa := 10) (h := z 5) (a := z 10) (cap := 601) (f := f 5) (M := P.map lN) (by rw [List.length_map]; rfl) rfl h5 (by decide) (by rw [List.length_map]; exact hj) (by rw [List.length_map]; exact hc) (lN x)) wy_X1_insertAt ts_2 (List.mem_of_getElem? (i := 1) rfl) rfl (q0 := 5) rfl hR rfl hsz rfl hW hdg hf) (fun v ws' H1 locs1 hp Wd => ?_)
  obtain ⟨rfl, f', rfl, hok⟩ := hp
  have hok2 : RowOk f' 601 ((ins P j x).map lN) := by rw [ins_map]; exact hok
  have e : (P.map lN).length + 1 = (ins P j x).length := by rw [List.length_map, ins_len hj]
  rw [e] at Wd
  exact kk H1 locs1 ⟨va_up f 5 f', Wd, h1, h2, h3, h4, hok2⟩
theorem x2_deleteAt_5 (C : Cx E p s m args meth c cc nL ret RX2 A) (X : X2w E A z v kd K L N S P s H locs) {j : Nat} (hj : j < P.length) (hR : 2 ≤ R.frames ∧ 56 ≤ R.locals) (hsz : ls.size = nL) (hW : (rest.map fun v => v.category).sum ≤ 8) (hf : cells ≤ R.cells ∧ slots ≤ R.slots) (hdg : decode cc pc = .ok (.invokevirtual 114, 3)) (kk : ∀ (H1 : Heap) (locs1 : List Loc), X2w E A z v kd K L N S (del P j) s H1 locs1 → W p l e R s m args below meth c H1 locs1 cells slots Q (F0 m (pc + 3) ls rest)) : W p l e R s m args below meth c H locs cells slots Q (F0 m pc ls (.int (nI j) :: .ref (z 5) :: rest)) := by
  obtain ⟨f, Wd, h1, h2, h3, h4, h5⟩ := X
  refine call_w C Wd (runVN (As := [.int (nI j)]) (rest := rest) C Wd (c1_deleteAt (l := l) (q0 := 5) (qa := 10) (h := z 5) (a := z 10) (cap := 601) (f := f 5) (M := P.map lN) (by rw [List.length_map]; rfl) rfl h5 (by decide) (by rw [List.length_map]; exact hj)) wy_X1_deleteAt ts_20 (List.mem_of_getElem? (i := 7) rfl) rfl (q0 := 5) rfl hR rfl hsz rfl hW hdg hf) (fun v ws' H1 locs1 hp Wd => ?_)
  obtain ⟨rfl, f', rfl, hok⟩ := hp
  have hok2 : RowOk f' 601 ((del P j).map lN) := by rw [del_map]; exact hok
  have e : (P.map lN).length - 1 = (del P j).length := by rw [List.length_map, del_len hj]
  rw [e] at Wd
  exact kk H1 locs1 ⟨va_up f 5 f', Wd, h1, h2, h3, h4, hok2⟩
theorem x2_raiseUp_5 (C : Cx E p s m args meth c cc nL ret RX2 A) (X : X2w E A z v kd K L N S P s H locs) {j q : Nat} (hj : j < P.length) (hq : q < 2 ^ 31) (hR : 1 ≤ R.frames ∧ 28 ≤ R.locals) (hsz : ls.size = nL) (hW : (rest.map fun v => v.category).sum ≤ 8) (hf : cells ≤ R.cells ∧ slots ≤ R.slots) (hdg : decode cc pc = .ok (.invokevirtual 117, 3)) (kk : ∀ (H1 : Heap) (locs1 : List Loc), X2w E A z v kd K L N S (P.set j (P.getD j 0 + q)) s H1 locs1 → W p l e R s m args below meth c H1 locs1 cells slots Q (F0 m (pc + 3) ls rest)) : W p l e R s m args below meth c H locs cells slots Q (F0 m pc ls (.int (nI q) :: .int (nI j) :: .ref (z 5) :: rest)) := by
  obtain ⟨f, Wd, h1, h2, h3, h4, h5⟩ := X
  refine call_w C Wd (runVN (As := [.int (nI j), .int (nI q)]) (rest := rest) C Wd (c1_raise (l := l) (q0 := 5) (qa := 10) (h := z 5) (a := z 10) (cap := 601) (f := f 5) (M := P.map lN) (by rw [List.length_map]; rfl) rfl h5 (by decide) (by rw [List.length_map]; exact hj) (nI q)) wy_X1_raise ts_5 (List.mem_of_getElem? (i := 3) rfl) rfl (q0 := 5) rfl hR rfl hsz rfl hW hdg hf) (fun v ws' H1 locs1 hp Wd => ?_)
  obtain ⟨rfl, f', rfl, hok⟩ := hp
  have hok2 : RowOk f' 601 ((P.set j (P.getD j 0 + q)).map lN) := by rw [map_getD, nI_l hq, lN_add, setm] at hok; exact hok
  have e : (P.map lN).length = (P.set j (P.getD j 0 + q)).length := by rw [List.length_map, List.length_set]
  rw [e] at Wd
  exact kk H1 locs1 ⟨va_up f 5 f', Wd, h1, h2, h3, h4, hok2⟩
theorem x2_raiseDn_5 (C : Cx E p s m args meth c cc nL ret RX2 A) (X : X2w E A z v kd K L N S P s H locs) {j q : Nat} {d : Int32} (hd : d = -(nI q)) (hj : j < P.length) (hq : q < 2 ^ 31) (hle : q ≤ P.getD j 0) (hR : 1 ≤ R.frames ∧ 28 ≤ R.locals) (hsz : ls.size = nL) (hW : (rest.map fun v => v.category).sum ≤ 8) (hf : cells ≤ R.cells ∧ slots ≤ R.slots) (hdg : decode cc pc = .ok (.invokevirtual 117, 3)) (kk : ∀ (H1 : Heap) (locs1 : List Loc), X2w E A z v kd K L N S (P.set j (P.getD j 0 - q)) s H1 locs1 → W p l e R s m args below meth c H1 locs1 cells slots Q (F0 m (pc + 3) ls rest)) : W p l e R s m args below meth c H locs cells slots Q (F0 m pc ls (.int d :: .int (nI j) :: .ref (z 5) :: rest)) := by
  obtain ⟨f, Wd, h1, h2, h3, h4, h5⟩ := X
  refine call_w C Wd (runVN (As := [.int (nI j), .int d]) (rest := rest) C Wd (c1_raise (l := l) (q0 := 5) (qa := 10) (h := z 5) (a := z 10) (cap := 601) (f := f 5) (M := P.map lN) (by rw [List.length_map]; rfl) rfl h5 (by decide) (by rw [List.length_map]; exact hj) d) wy_X1_raise ts_5 (List.mem_of_getElem? (i := 3) rfl) rfl (q0 := 5) rfl hR rfl hsz rfl hW hdg hf) (fun v ws' H1 locs1 hp Wd => ?_)
  obtain ⟨rfl, f', rfl, hok⟩ := hp
  have hok2 : RowOk f' 601 ((P.set j (P.getD j 0 - q)).map lN) := by rw [hd, map_getD, neg64 hq, dn64 hle, setm] at hok; exact hok
  have e : (P.map lN).length = (P.set j (P.getD j 0 - q)).length := by rw [List.length_map, List.length_set]
  rw [e] at Wd
  exact kk H1 locs1 ⟨va_up f 5 f', Wd, h1, h2, h3, h4, hok2⟩
section OC
variable {y : MethodName} {bytes : ByteArray} {maxL n k idx : Nat} {rt : Option FieldType} {As st0 : List Value}
theorem x2_cr {post : Option Value → Prop} (C : Cx E p s m args meth c cc nL ret RX2 A) (X : X2w E A z v kd K L N S P s H locs) (hM : M2r l E y bytes maxL rt k (.ref (z 0) :: As) z v kd K L N S P post) (hy : Wy y bytes maxL rt n) (hse : Cond.selects y.cls y y ∈ LT) (hl : Cond.methodLink RX2 idx y ∈ LT) (hc : vwCl[2]? = some (y.cls, TX2, 19)) (hR : k + 1 ≤ R.frames ∧ 28 * (k + 1) ≤ R.locals) (hn : As.length = n) (hsz : ls.size = nL) (hst : st0 = As.reverse ++ .ref (z 0) :: rest) (hW : (rest.map fun v => v.category).sum ≤ 8) (hf : cells ≤ R.cells ∧ slots ≤ R.slots) (hdg : decode cc pc = .ok (.invokevirtual idx, 3))
    (kk : ∀ r : Option Value, post r → W p l e R s m args below meth c H locs cells slots Q (F0 m (pc + 3) ls (r.toList ++ rest))) : W p l e R s m args below meth c H locs cells slots Q (F0 m pc ls st0) := by
  obtain ⟨f, Wd, h⟩ := X
  exact call_r (runV (As := As) (rest := rest) C Wd (hM f h) hy hse hl hc (q0 := 0) rfl hR hn hsz hst hW hdg hf) kk
theorem x2_cw {post : Option Value → (Nat → Int32) → Nat → List Int64 → List Nat → List Nat → List Nat → List Nat → Prop} (C : Cx E p s m args meth c cc nL ret RX2 A) (X : X2w E A z v kd K L N S P s H locs) (hM : M2w l E y bytes maxL rt k (.ref (z 0) :: As) z v kd K L N S P post) (hy : Wy y bytes maxL rt n) (hse : Cond.selects y.cls y y ∈ LT) (hl : Cond.methodLink RX2 idx y ∈ LT) (hc : vwCl[2]? = some (y.cls, TX2, 19)) (hR : k + 1 ≤ R.frames ∧ 28 * (k + 1) ≤ R.locals) (hn : As.length = n) (hsz : ls.size = nL) (hst : st0 = As.reverse ++ .ref (z 0) :: rest) (hW : (rest.map fun v => v.category).sum ≤ 8) (hf : cells ≤ R.cells ∧ slots ≤ R.slots) (hdg : decode cc pc = .ok (.invokevirtual idx, 3))
    (kk : ∀ (r : Option Value) (v' : Nat → Int32) (kd' : Nat) (K' : List Int64) (L' N' S' P' : List Nat) (H1 : Heap) (locs1 : List Loc), post r v' kd' K' L' N' S' P' → X2w E A z v' kd' K' L' N' S' P' s H1 locs1 → W p l e R s m args below meth c H1 locs1 cells slots Q (F0 m (pc + 3) ls (r.toList ++ rest))) : W p l e R s m args below meth c H locs cells slots Q (F0 m pc ls st0) := by
  obtain ⟨f, Wd, h⟩ := X
  refine call_w C Wd (runV (As := As) (rest := rest) C Wd (hM f h) hy hse hl hc (q0 := 0) rfl hR hn hsz hst hW hdg hf) (fun r ws' H1 locs1 hp Wd => ?_)
  obtain ⟨v', kd', K', L', N', S', P', f', rfl, hok, hpp⟩ := hp
  exact kk r v' kd' K' L' N' S' P' H1 locs1 hpp ⟨f', Wd, hok⟩
end OC
theorem x2_kind_0 (C : Cx E p s m args meth c cc nL ret RX2 A) (X : X2w E A z v kd K L N S P s H locs) (hdg : decode cc pc = .ok (.getstatic 44, 3)) (kk : W p l e R s m args below meth c H locs cells slots Q (F0 m (pc + 3) ls (.ref (E.2.2.2 0) :: rest))) : W p l e R s m args below meth c H locs cells slots Q (F0 m pc ls rest) := by
  obtain ⟨f, Wd, -⟩ := X
  exact va_gets (n := "HALVES") C.hx C.hb (C.hE.1 0 (by decide)).1 Wd.2.2 C.hown (C.hts _ tw_39) (fun _ h => h) hdg kk
theorem x2_kind_1 (C : Cx E p s m args meth c cc nL ret RX2 A) (X : X2w E A z v kd K L N S P s H locs) (hdg : decode cc pc = .ok (.getstatic 176, 3)) (kk : W p l e R s m args below meth c H locs cells slots Q (F0 m (pc + 3) ls (.ref (E.2.2.2 1) :: rest))) : W p l e R s m args below meth c H locs cells slots Q (F0 m pc ls rest) := by
  obtain ⟨f, Wd, -⟩ := X
  exact va_gets (n := "OWN") C.hx C.hb (C.hE.1 1 (by decide)).1 Wd.2.2 C.hown (C.hts _ tw_172) (fun _ h => h) hdg kk
theorem x2_kind_2 (C : Cx E p s m args meth c cc nL ret RX2 A) (X : X2w E A z v kd K L N S P s H locs) (hdg : decode cc pc = .ok (.getstatic 182, 3)) (kk : W p l e R s m args below meth c H locs cells slots Q (F0 m (pc + 3) ls (.ref (E.2.2.2 2) :: rest))) : W p l e R s m args below meth c H locs cells slots Q (F0 m pc ls rest) := by
  obtain ⟨f, Wd, -⟩ := X
  exact va_gets (n := "AREA") C.hx C.hb (C.hE.1 2 (by decide)).1 Wd.2.2 C.hown (C.hts _ tw_170) (fun _ h => h) hdg kk
theorem x2_acmp_ne (C : Cx E p s m args meth c cc nL ret RX2 A) {i j : Nat} (hi : i < 3) (hj : j < 3) {off : Int} {tgt : Nat} (hdg : decode cc pc = .ok (.if_acmp .ne off, 3)) (ht : (pc : Int) + off = (tgt : Int)) (kt : i ≠ j → W p l e R s m args below meth c H locs cells slots Q (F0 m tgt ls rest)) (kf : i = j → W p l e R s m args below meth c H locs cells slots Q (F0 m (pc + 3) ls rest)) : W p l e R s m args below meth c H locs cells slots Q (F0 m pc ls (.ref (E.2.2.2 j) :: .ref (E.2.2.2 i) :: rest)) :=
  lv_acmp_ne (rx := some (E.2.2.2 i)) (ry := some (E.2.2.2 j)) C.hx C.hb hdg ht (fun h => kt (fun q => h (by rw [q]))) (fun h => kf (C.hE.2 i j hi hj (Option.some.inj h)))
theorem x2_acmp_eq (C : Cx E p s m args meth c cc nL ret RX2 A) {i j : Nat} (hi : i < 3) (hj : j < 3) {off : Int} {tgt : Nat} (hdg : decode cc pc = .ok (.if_acmp .eq off, 3)) (ht : (pc : Int) + off = (tgt : Int)) (kt : i = j → W p l e R s m args below meth c H locs cells slots Q (F0 m tgt ls rest)) (kf : i ≠ j → W p l e R s m args below meth c H locs cells slots Q (F0 m (pc + 3) ls rest)) : W p l e R s m args below meth c H locs cells slots Q (F0 m pc ls (.ref (E.2.2.2 j) :: .ref (E.2.2.2 i) :: rest)) :=
  lv_acmp_eq (rx := some (E.2.2.2 i)) (ry := some (E.2.2.2 j)) C.hx C.hb hdg ht (fun h => kt (C.hE.2 i j hi hj (Option.some.inj h))) (fun h => kf (fun q => h (by rw [q])))
end X2S
end
section
/-! THE CLASS: what its methods say of the lists -/
section RT2
variable {p : Program} {l : Launch} {e : Env} {R : Room} {s : State} {m : MethodId} {args : Array Value} {below : List Frame} {meth : Method} {c : Code} {H : Heap} {locs : List Loc} {mc ms : Nat}
variable {E : Gq} {cc : ByteArray} {nL : Nat} {A : Nat → Prop} {pc : Nat} {ls : Array Slot} {z : Nat → Nat} {v : Nat → Int32} {kd : Nat} {K : List Int64} {L N S P : List Nat} {ws0 : va_W} {post : Option Value → (Nat → Int32) → Nat → List Int64 → List Nat → List Nat → List Nat → List Nat → Prop}
theorem ret2_v (C : Cx E p s m args meth c cc nL none RX2 (va_A ws0 s.heap.size)) (X : X2w E (va_A ws0 s.heap.size) z v kd K L N S P s H locs) (hp : post none v kd K L N S P) (hdg : decode cc pc = .ok (.return_, 1)) : W p l e R s m args below meth c H locs mc ms (MQ below (Qw E ws0 s.heap.size (P2 E z post)) args s mc ms (va_A ws0 s.heap.size)) (F0 m pc ls []) := by
  obtain ⟨f, Wd, hf⟩ := X
  exact ret_vw C Wd ⟨v, kd, K, L, N, S, P, f, rfl, hf, hp⟩ hdg
theorem ret2_i {r : Int32} (C : Cx E p s m args meth c cc nL (some .int) RX2 (va_A ws0 s.heap.size)) (X : X2w E (va_A ws0 s.heap.size) z v kd K L N S P s H locs) (hp : post (some (.int r)) v kd K L N S P) (hdg : decode cc pc = .ok (.ireturn, 1)) : W p l e R s m args below meth c H locs mc ms (MQ below (Qw E ws0 s.heap.size (P2 E z post)) args s mc ms (va_A ws0 s.heap.size)) (F0 m pc ls [.int r]) := by
  obtain ⟨f, Wd, hf⟩ := X
  exact ret_iw C Wd ⟨v, kd, K, L, N, S, P, f, rfl, hf, hp⟩ hdg
theorem ret2_z {r : Int32} (C : Cx E p s m args meth c cc nL (some .boolean) RX2 (va_A ws0 s.heap.size)) (X : X2w E (va_A ws0 s.heap.size) z v kd K L N S P s H locs) (hp : post (some (.int r)) v kd K L N S P) (hn : narrow .boolean (.int r) = .int r) (hdg : decode cc pc = .ok (.ireturn, 1)) : W p l e R s m args below meth c H locs mc ms (MQ below (Qw E ws0 s.heap.size (P2 E z post)) args s mc ms (va_A ws0 s.heap.size)) (F0 m pc ls [.int r]) := by
  obtain ⟨f, Wd, hf⟩ := X
  exact ret_zw C Wd ⟨v, kd, K, L, N, S, P, f, rfl, hf, hp⟩ hn hdg
end RT2
/-- how many keys, from the head on, are not greater -/
def ngt : List Int64 → Int64 → Nat
  | [], _ => 0
  | x :: l, key => if x ≤ key then ngt l key + 1 else 0
theorem ngt_le (K : List Int64) (key : Int64) : ngt K key ≤ K.length := by
  induction K with
  | nil => exact Nat.le_refl _
  | cons x l ih =>
    simp only [ngt, List.length_cons]
    split <;> omega
theorem ngt_drop {K : List Int64} {key : Int64} {j : Nat} (h : j < K.length) : ngt (K.drop j) key = if K.getD j 0 ≤ key then ngt (K.drop (j + 1)) key + 1 else 0 := by
  rw [List.drop_eq_getElem_cons h]
  simp [ngt, List.getD_eq_getElem?_getD, List.getElem?_eq_getElem h]
def hask (K : List Int64) (key : Int64) : Prop := 0 < ngt K key ∧ K.getD (ngt K key - 1) 0 = key
theorem sm_le (L : List Nat) (a b : Nat) : sm L a b ≤ L.sum := by
  unfold sm
  have h1 := sum_split (L.take b) a
  have h2 := sum_split L b
  omega
theorem getD_le (L : List Nat) (j : Nat) : L.getD j 0 ≤ L.sum := by
  by_cases h : j < L.length
  · have h1 := take_s h
    have h2 := sum_split L (j + 1)
    omega
  · rw [List.getD_eq_getElem?_getD, List.getElem?_eq_none (by omega)]
    exact Nat.zero_le _
theorem sm0 (L : List Nat) (i : Nat) : sm L 0 i = (L.take i).sum := rfl
theorem sm0_get (L : List Nat) (i : Nat) : sm L 0 i + L.getD i 0 ≤ L.sum := by
  by_cases h : i < L.length
  · have h1 := take_s h
    have h2 := sum_split L (i + 1)
    rw [sm0]; omega
  · rw [List.getD_eq_getElem?_getD, List.getElem?_eq_none (by omega)]
    exact sm_le L 0 i
/-- the lengths in an interval -/
def lin (L S : List Nat) (i : Nat) : Nat := sm L (sm S 0 i) (sm S 0 i + S.getD i 0)
theorem gIx_lt {L : List Nat} : ∀ {m : Nat}, m < L.sum → gIx L m < L.length := by
  induction L with
  | nil => intro m h; simp at h
  | cons x l ih =>
    intro m h
    simp only [gIx, List.length_cons]
    split
    · omega
    · have := ih (m := m - x) (by simp at h; omega)
      omega
theorem gOf_lt {L : List Nat} {m : Nat} (h : 0 < L.length) : gOf L m < L.length := by
  unfold gOf
  split
  · exact gIx_lt ‹_›
  · exact h
/-- the kind of split: 2 area, 1 own, 0 halves -/
def kos (P S : List Nat) (wd i : Nat) : Nat := if wd ≤ P.getD (gOf P i) 0 then 2 else if S.getD i 0 ≤ 1 then 1 else 0
theorem kos_lt (P S : List Nat) (wd i : Nat) : kos P S wd i < 3 := by unfold kos; split; decide; split <;> decide
/-- how many an interval keeps: from kept on, together their lengths so far, at most 'most', at most 'half' -/
def kbl (L : List Nat) (start most half : Nat) : Nat → Nat → Nat → Nat
  | 0, kept, _ => kept
  | n + 1, kept, tog => if kept < most ∧ tog + L.getD (start + kept) 0 ≤ half then kbl L start most half n (kept + 1) (tog + L.getD (start + kept) 0) else kept
def kbh (L S : List Nat) (i : Nat) : Nat := kbl L (sm S 0 i) (S.getD i 0 - 1) (lin L S i / 2) (S.getD i 0) 1 (L.getD (sm S 0 i) 0)
theorem kbl_ge (L : List Nat) (start most half : Nat) : ∀ (n kept tog : Nat), kept ≤ kbl L start most half n kept tog := by
  intro n
  induction n with
  | zero => intro kept tog; exact Nat.le_refl _
  | succ n ih =>
    intro kept tog
    simp only [kbl]
    split
    · exact Nat.le_trans (Nat.le_succ kept) (ih _ _)
    · exact Nat.le_refl _
theorem kbl_le (L : List Nat) (start most half : Nat) : ∀ (n kept tog : Nat), kept ≤ most → kbl L start most half n kept tog ≤ most := by
  intro n
  induction n with
  | zero => intro kept tog h; exact h
  | succ n ih =>
    intro kept tog h
    simp only [kbl]
    split
    · exact ih _ _ (by omega)
    · exact h
end
section
theorem nmax {a b : Nat} (ha : a < 2 ^ 31) (hb : b < 2 ^ 31) : (if nI a < nI b then nI b else nI a) = nI (max a b) := by
  by_cases h : a < b
  · rw [if_pos ((nI_ltI ha hb).mpr h)]; congr 1; omega
  · rw [if_neg (fun q => h ((nI_ltI ha hb).mp q))]; congr 1; omega
set_option maxHeartbeats 4000000 in
set_option maxRecDepth 100000 in
theorem l2_ngt {p : Program} {l : Launch} {e : Env} {s : State} {m : MethodId} {args : Array Value} {below : List Frame} {meth : Method} {c : Code} {E : Gq} {A : Nat → Prop} {z : Nat → Nat} {v : Nat → Int32} {kd : Nat} {K : List Int64} {L N S P : List Nat} {key : Int64} (C : Cx E p s m args meth c cX2_notGreaterThan 4 (some .int) RX2 A) (X : X2w E A z v kd K L N S P s s.heap []) (b1 : K.length ≤ 600) : ∀ (n j : Nat), K.length - j = n → j ≤ K.length → ngt K key = j + ngt (K.drop j) key → ∀ ls : Array Slot, lv_has ls 4 [(3, .int (nI j)), (0, .ref (z 0)), (1, .long key)] → W p l e (Rm 1 0 0) s m args below meth c s.heap [] 0 0 (MQ below (Qr (fun r => r = some (.int (nI (ngt K key))))) args s 0 0 (fun _ => False)) (F0 m 2 ls []) := by
  intro n
  induction n with
  | zero =>
    intro j hn hj ht ls hl
    refine lv_iload_n C.hx C.hb dX2_notGreaterThan_2 rfl (lv_at hl 0 rfl) ?_
    refine lv_aload_n C.hx C.hb dX2_notGreaterThan_3 rfl (lv_at hl 1 rfl) ?_
    refine x2g_4 C X dX2_notGreaterThan_4 ?_
    refine x2s_1 C X dX2_notGreaterThan_7 ?_
    refine n_icmp_ge (tgt := 32) C dX2_notGreaterThan_10 (by decide) (by omega) (by omega) (fun c10 => ?_) (fun c10 => ?_)
    · refine lv_iload_n C.hx C.hb dX2_notGreaterThan_32 rfl (lv_at hl 0 rfl) ?_
      exact ret_ir C (by rw [ht, List.drop_eq_nil_of_le (by omega)]; rfl) dX2_notGreaterThan_33
    · omega
  | succ n ih =>
    intro j hn hj ht ls hl
    have hd := ngt_drop (K := K) (key := key) (j := j) (by omega)
    refine lv_iload_n C.hx C.hb dX2_notGreaterThan_2 rfl (lv_at hl 0 rfl) ?_
    refine lv_aload_n C.hx C.hb dX2_notGreaterThan_3 rfl (lv_at hl 1 rfl) ?_
    refine x2g_4 C X dX2_notGreaterThan_4 ?_
    refine x2s_1 C X dX2_notGreaterThan_7 ?_
    refine n_icmp_ge (tgt := 32) C dX2_notGreaterThan_10 (by decide) (by omega) (by omega) (fun c10 => ?_) (fun c10 => ?_)
    · omega
    · refine lv_aload_n C.hx C.hb dX2_notGreaterThan_13 rfl (lv_at hl 1 rfl) ?_
      refine x2g_4 C X dX2_notGreaterThan_14 ?_
      refine lv_iload_n C.hx C.hb dX2_notGreaterThan_17 rfl (lv_at hl 0 rfl) ?_
      refine x2_at C X ⟨by decide, by decide⟩ hl.1 (Nat.le_of_ble_eq_true rfl) ⟨Nat.le_refl _, Nat.le_refl _⟩ dX2_notGreaterThan_18 ?_
      refine n_rel (lAt_n (by omega)) ?_
      refine lv_lload_n C.hx C.hb dX2_notGreaterThan_21 rfl (lv_at hl 2 rfl) ?_
      refine n_lcmp_gt (tgt := 32) C dX2_notGreaterThan_22 dX2_notGreaterThan_23 (by decide) (fun c22 => ?_) (fun c22 => ?_)
      · refine lv_iload_n C.hx C.hb dX2_notGreaterThan_32 rfl (lv_at hl 0 rfl) ?_
        exact ret_ir C (by rw [ht, hd, if_neg (Int64.not_le.mpr c22)]; rfl) dX2_notGreaterThan_33
      · refine lv_iinc (v := nI (j + 1)) (lv' := [(3, .int (nI (j + 1))), (0, .ref (z 0)), (1, .long (key))]) C.hx C.hb dX2_notGreaterThan_26 hl (k := 0) rfl (nI_1 _) (by decide) rfl (fun ls hl => ?_)
        refine lv_goto (tgt := 2) C.hx C.hb dX2_notGreaterThan_29 (by decide) ?_
        exact ih (j + 1) (by omega) (by omega) (by rw [ht, hd, if_pos c22]; omega) ls (lv_sub hl [0, 1, 2] rfl)
set_option maxHeartbeats 4000000 in
set_option maxRecDepth 100000 in
/-- how many keys are not greater -/
theorem c2_notGreaterThan {l : Launch} {E : Gq} {z : Nat → Nat} {v : Nat → Int32} {kd : Nat} {K : List Int64} {L N S P : List Nat} {key : Int64} : M2r l E yX2_notGreaterThan cX2_notGreaterThan 4 (some .int) 1 [.ref (z 0), .long (key)] z v kd K L N S P (fun r => r = some (.int (nI (ngt K key)))) := by
  intro f hf
  obtain ⟨b1, b2, b3, b4, b5⟩ := hf.lens
  refine mk_r (by decide) (Nat.le_of_ble_eq_true rfl) ?_
  intro p e s m below meth c ls C Wd hl
  have X : X2w E _ z v kd K L N S P s s.heap [] := ⟨f, Wd, hf⟩
  have hl : lv_has ls 4 [(0, .ref (z 0)), (1, .long (key))] := hl
  refine lv_iconst (v := nI (0)) C.hx C.hb dX2_notGreaterThan_0 (by decide) ?_
  refine lv_istore_n (lv' := [(3, .int (nI (0))), (0, .ref (z 0)), (1, .long (key))]) C.hx C.hb dX2_notGreaterThan_1 rfl hl (by decide) rfl (fun ls hl => ?_)
  exact l2_ngt C X b1 _ 0 rfl (Nat.zero_le _) (by rw [List.drop_zero, Nat.zero_add]) ls (lv_sub hl [0, 1, 2] rfl)
noncomputable def pof (K : List Int64) (key : Int64) : Int32 := @ite _ (hask K key) (Classical.propDecidable _) (nI (ngt K key - 1)) (-1)
theorem pof_y {K : List Int64} {key : Int64} (h : hask K key) : pof K key = nI (ngt K key - 1) := by unfold pof; rw [if_pos h]
theorem pof_n {K : List Int64} {key : Int64} (h : ¬ hask K key) : pof K key = -1 := by unfold pof; rw [if_neg h]
set_option maxHeartbeats 4000000 in
set_option maxRecDepth 100000 in
/-- where a key is -/
theorem c2_positionOf {l : Launch} {E : Gq} {z : Nat → Nat} {v : Nat → Int32} {kd : Nat} {K : List Int64} {L N S P : List Nat} {key : Int64} : M2r l E yX2_positionOf cX2_positionOf 4 (some .int) 2 [.ref (z 0), .long (key)] z v kd K L N S P (fun r => r = some (.int (pof K key))) := by
  intro f hf
  obtain ⟨b1, b2, b3, b4, b5⟩ := hf.lens
  refine mk_r (by decide) (Nat.le_of_ble_eq_true rfl) ?_
  intro p e s m below meth c ls C Wd hl
  have X : X2w E _ z v kd K L N S P s s.heap [] := ⟨f, Wd, hf⟩
  have hl : lv_has ls 4 [(0, .ref (z 0)), (1, .long (key))] := hl
  have hng := ngt_le K key
  rcases Nat.eq_zero_or_pos (ngt K key) with h0 | h0
  · refine lv_aload_n C.hx C.hb dX2_positionOf_0 rfl (lv_at hl 0 rfl) ?_
    refine lv_lload_n C.hx C.hb dX2_positionOf_1 rfl (lv_at hl 1 rfl) ?_
    refine x2_cr (As := [.long (key)]) (rest := []) C X (c2_notGreaterThan (key := key)) wy_X2_notGreaterThan ts_7 tw_141 rfl ⟨by decide, by decide⟩ rfl hl.1 rfl (Nat.le_of_ble_eq_true rfl) ⟨Nat.le_refl _, Nat.le_refl _⟩ dX2_positionOf_2 (fun r hp => ?_)
    subst hp
    refine W.eq (g2 := F0 m 5 ls [.int (nI (ngt K key))]) rfl ?_
    refine lv_iconst (v := nI (1)) C.hx C.hb dX2_positionOf_5 (by decide) ?_
    refine lv_isub C.hx C.hb dX2_positionOf_6 ?_
    refine lv_istore_n (lv' := [(3, .int ((nI (ngt K key)) - (nI (1)))), (0, .ref (z 0)), (1, .long (key))]) C.hx C.hb dX2_positionOf_7 rfl hl (by decide) rfl (fun ls hl => ?_)
    refine lv_iload_n C.hx C.hb dX2_positionOf_8 rfl (lv_at hl 0 rfl) ?_
    refine lv_if_lt (tgt := 29) C.hx C.hb dX2_positionOf_9 (by decide) (fun c9 => ?_) (fun c9 => ?_)
    · refine lv_iconst (v := (-1)) C.hx C.hb dX2_positionOf_29 (by decide) ?_
      exact ret_ir C (by rw [pof_n (fun h => absurd h.1 (by omega))]) dX2_positionOf_30
    · exact absurd (by rw [h0]; decide) c9
  · refine lv_aload_n C.hx C.hb dX2_positionOf_0 rfl (lv_at hl 0 rfl) ?_
    refine lv_lload_n C.hx C.hb dX2_positionOf_1 rfl (lv_at hl 1 rfl) ?_
    refine x2_cr (As := [.long (key)]) (rest := []) C X (c2_notGreaterThan (key := key)) wy_X2_notGreaterThan ts_7 tw_141 rfl ⟨by decide, by decide⟩ rfl hl.1 rfl (Nat.le_of_ble_eq_true rfl) ⟨Nat.le_refl _, Nat.le_refl _⟩ dX2_positionOf_2 (fun r hp => ?_)
    subst hp
    refine W.eq (g2 := F0 m 5 ls [.int (nI (ngt K key))]) rfl ?_
    refine lv_iconst (v := nI (1)) C.hx C.hb dX2_positionOf_5 (by decide) ?_
    refine n_sub C dX2_positionOf_6 (by omega) ?_
    refine lv_istore_n (lv' := [(3, .int (nI ((ngt K key) - 1))), (0, .ref (z 0)), (1, .long (key))]) C.hx C.hb dX2_positionOf_7 rfl hl (by decide) rfl (fun ls hl => ?_)
    refine lv_iload_n C.hx C.hb dX2_positionOf_8 rfl (lv_at hl 0 rfl) ?_
    refine n_if_lt (tgt := 29) C dX2_positionOf_9 (by decide) (by omega) ?_
    refine lv_aload_n C.hx C.hb dX2_positionOf_12 rfl (lv_at hl 1 rfl) ?_
    refine x2g_4 C X dX2_positionOf_13 ?_
    refine lv_iload_n C.hx C.hb dX2_positionOf_16 rfl (lv_at hl 0 rfl) ?_
    refine x2_at C X ⟨by decide, by decide⟩ hl.1 (Nat.le_of_ble_eq_true rfl) ⟨Nat.le_refl _, Nat.le_refl _⟩ dX2_positionOf_17 ?_
    refine n_rel (lAt_n (by omega)) ?_
    refine lv_lload_n C.hx C.hb dX2_positionOf_20 rfl (lv_at hl 2 rfl) ?_
    refine n_lcmp_ne (tgt := 29) C dX2_positionOf_21 dX2_positionOf_22 (by decide) (fun c21 => ?_) (fun c21 => ?_)
    · refine lv_iconst (v := (-1)) C.hx C.hb dX2_positionOf_29 (by decide) ?_
      exact ret_ir C (by rw [pof_n (fun h => c21 h.2)]) dX2_positionOf_30
    · refine lv_iload_n C.hx C.hb dX2_positionOf_25 rfl (lv_at hl 0 rfl) ?_
      refine lv_goto (tgt := 30) C.hx C.hb dX2_positionOf_26 (by decide) ?_
      exact ret_ir C (by rw [pof_y ⟨h0, c21⟩]) dX2_positionOf_30
set_option maxHeartbeats 4000000 in
set_option maxRecDepth 100000 in
/-- the lengths in an interval -/
theorem c2_lengthsIn {l : Launch} {E : Gq} {z : Nat → Nat} {v : Nat → Int32} {kd : Nat} {K : List Int64} {L N S P : List Nat} {i : Nat} (hi : i ≤ 2 ^ 20) (hS : S.sum ≤ 2 ^ 20) : M2r l E yX2_lengthsIn cX2_lengthsIn 3 (some .int) 2 [.ref (z 0), .int (nI (i))] z v kd K L N S P (fun r => r = some (.int (nI (lin L S i)))) := by
  intro f hf
  obtain ⟨b1, b2, b3, b4, b5⟩ := hf.lens
  refine mk_r (by decide) (Nat.le_of_ble_eq_true rfl) ?_
  intro p e s m below meth c ls C Wd hl
  have X : X2w E _ z v kd K L N S P s s.heap [] := ⟨f, Wd, hf⟩
  have hl : lv_has ls 3 [(0, .ref (z 0)), (1, .int (nI (i)))] := hl
  have q1 := sm0_get S i
  refine lv_aload_n C.hx C.hb dX2_lengthsIn_0 rfl (lv_at hl 0 rfl) ?_
  refine x2g_7 C X dX2_lengthsIn_1 ?_
  refine lv_iconst (v := nI (0)) C.hx C.hb dX2_lengthsIn_4 (by decide) ?_
  refine lv_iload_n C.hx C.hb dX2_lengthsIn_5 rfl (lv_at hl 1 rfl) ?_
  refine x2_sum_4 C X (by omega) (by omega) ⟨by decide, by decide⟩ hl.1 (Nat.le_of_ble_eq_true rfl) ⟨Nat.le_refl _, Nat.le_refl _⟩ dX2_lengthsIn_6 ?_
  refine lv_istore_n (lv' := [(2, .int (nI (sm S 0 i))), (0, .ref (z 0)), (1, .int (nI (i)))]) C.hx C.hb dX2_lengthsIn_9 rfl hl (by decide) rfl (fun ls hl => ?_)
  refine lv_aload_n C.hx C.hb dX2_lengthsIn_10 rfl (lv_at hl 1 rfl) ?_
  refine x2g_5 C X dX2_lengthsIn_11 ?_
  refine lv_iload_n C.hx C.hb dX2_lengthsIn_14 rfl (lv_at hl 0 rfl) ?_
  refine lv_iload_n C.hx C.hb dX2_lengthsIn_15 rfl (lv_at hl 0 rfl) ?_
  refine lv_aload_n C.hx C.hb dX2_lengthsIn_16 rfl (lv_at hl 1 rfl) ?_
  refine x2g_7 C X dX2_lengthsIn_17 ?_
  refine lv_iload_n C.hx C.hb dX2_lengthsIn_20 rfl (lv_at hl 2 rfl) ?_
  refine x2_intAt_4 C X (by omega) ⟨by decide, by decide⟩ hl.1 (Nat.le_of_ble_eq_true rfl) ⟨Nat.le_refl _, Nat.le_refl _⟩ dX2_lengthsIn_21 ?_
  refine n_add C dX2_lengthsIn_24 ?_
  refine x2_sum_2 C X (by omega) (by omega) ⟨by decide, by decide⟩ hl.1 (Nat.le_of_ble_eq_true rfl) ⟨Nat.le_refl _, Nat.le_refl _⟩ dX2_lengthsIn_25 ?_
  exact ret_ir C (rfl) dX2_lengthsIn_28
set_option maxHeartbeats 4000000 in
set_option maxRecDepth 100000 in
/-- the low bits of the first key of an interval -/
theorem c2_lowBitsOfFirstKey {l : Launch} {E : Gq} {z : Nat → Nat} {v : Nat → Int32} {kd : Nat} {K : List Int64} {L N S P : List Nat} {i : Nat} (hi : i ≤ 2 ^ 20) (hS : S.sum ≤ 2 ^ 20) : M2r l E yX2_lowBitsOfFirstKey cX2_lowBitsOfFirstKey 2 (some .int) 2 [.ref (z 0), .int (nI (i))] z v kd K L N S P (fun r => r = some (.int (K.getD (sm S 0 i) 0).toInt32)) := by
  intro f hf
  obtain ⟨b1, b2, b3, b4, b5⟩ := hf.lens
  refine mk_r (by decide) (Nat.le_of_ble_eq_true rfl) ?_
  intro p e s m below meth c ls C Wd hl
  have X : X2w E _ z v kd K L N S P s s.heap [] := ⟨f, Wd, hf⟩
  have hl : lv_has ls 2 [(0, .ref (z 0)), (1, .int (nI (i)))] := hl
  have q1 := sm0_get S i
  refine lv_aload_n C.hx C.hb dX2_lowBitsOfFirstKey_0 rfl (lv_at hl 0 rfl) ?_
  refine x2g_4 C X dX2_lowBitsOfFirstKey_1 ?_
  refine lv_aload_n C.hx C.hb dX2_lowBitsOfFirstKey_4 rfl (lv_at hl 0 rfl) ?_
  refine x2g_7 C X dX2_lowBitsOfFirstKey_5 ?_
  refine lv_iconst (v := nI (0)) C.hx C.hb dX2_lowBitsOfFirstKey_8 (by decide) ?_
  refine lv_iload_n C.hx C.hb dX2_lowBitsOfFirstKey_9 rfl (lv_at hl 1 rfl) ?_
  refine x2_sum_4 C X (by omega) (by omega) ⟨by decide, by decide⟩ hl.1 (Nat.le_of_ble_eq_true rfl) ⟨Nat.le_refl _, Nat.le_refl _⟩ dX2_lowBitsOfFirstKey_10 ?_
  refine x2_at C X ⟨by decide, by decide⟩ hl.1 (Nat.le_of_ble_eq_true rfl) ⟨Nat.le_refl _, Nat.le_refl _⟩ dX2_lowBitsOfFirstKey_13 ?_
  refine n_rel (lAt_n (by omega)) ?_
  refine lv_l2i C.hx C.hb dX2_lowBitsOfFirstKey_16 rfl ?_
  exact ret_ir C (rfl) dX2_lowBitsOfFirstKey_17
set_option maxHeartbeats 4000000 in
set_option maxRecDepth 100000 in
/-- which split -/
theorem c2_kindOfSplit {l : Launch} {E : Gq} {z : Nat → Nat} {v : Nat → Int32} {kd : Nat} {K : List Int64} {L N S P : List Nat} {i wd : Nat} (hi : i ≤ 2 ^ 20) (hP : P.sum ≤ 2 ^ 20) (hS : S.sum ≤ 2 ^ 20) (hw : v 1 = nI wd) (hwd : wd ≤ 20) : M2r l E yX2_kindOfSplit cX2_kindOfSplit 2 (some (.object "IntervalSplits$Kind")) 2 [.ref (z 0), .int (nI (i))] z v kd K L N S P (fun r => r = some (.ref (E.2.2.2 (kos P S wd i)))) := by
  intro f hf
  obtain ⟨b1, b2, b3, b4, b5⟩ := hf.lens
  refine mk_r (by decide) (Nat.le_of_ble_eq_true rfl) ?_
  intro p e s m below meth c ls C Wd hl
  have X : X2w E _ z v kd K L N S P s s.heap [] := ⟨f, Wd, hf⟩
  have hl : lv_has ls 2 [(0, .ref (z 0)), (1, .int (nI (i)))] := hl
  have q1 := getD_le P (gOf P i)
  have q2 := getD_le S i
  have hb : 0 < P.length ∨ P.length = 0 := by omega
  have q3 : gOf P i < 2 ^ 20 := by
    rcases hb with h | h
    · have := gOf_lt (L := P) (m := i) h; omega
    · have : P = [] := List.length_eq_zero_iff.mp h
      subst this; simp [gOf]
  refine lv_aload_n C.hx C.hb dX2_kindOfSplit_0 rfl (lv_at hl 0 rfl) ?_
  refine x2g_8 C X dX2_kindOfSplit_1 ?_
  refine lv_aload_n C.hx C.hb dX2_kindOfSplit_4 rfl (lv_at hl 0 rfl) ?_
  refine x2g_8 C X dX2_kindOfSplit_5 ?_
  refine lv_iload_n C.hx C.hb dX2_kindOfSplit_8 rfl (lv_at hl 1 rfl) ?_
  refine x2_groupOf_5 C X (by omega) (by omega) ⟨by decide, by decide⟩ hl.1 (Nat.le_of_ble_eq_true rfl) ⟨Nat.le_refl _, Nat.le_refl _⟩ dX2_kindOfSplit_9 ?_
  refine x2_intAt_5 C X (by omega) ⟨by decide, by decide⟩ hl.1 (Nat.le_of_ble_eq_true rfl) ⟨Nat.le_refl _, Nat.le_refl _⟩ dX2_kindOfSplit_12 ?_
  refine lv_aload_n C.hx C.hb dX2_kindOfSplit_15 rfl (lv_at hl 0 rfl) ?_
  refine x2g_1 C X (x := nI (wd)) hw dX2_kindOfSplit_16 ?_
  refine n_icmp_lt (tgt := 26) C dX2_kindOfSplit_19 (by decide) (by omega) (by omega) (fun c19 => ?_) (fun c19 => ?_)
  · refine lv_aload_n C.hx C.hb dX2_kindOfSplit_26 rfl (lv_at hl 0 rfl) ?_
    refine x2g_7 C X dX2_kindOfSplit_27 ?_
    refine lv_iload_n C.hx C.hb dX2_kindOfSplit_30 rfl (lv_at hl 1 rfl) ?_
    refine x2_intAt_4 C X (by omega) ⟨by decide, by decide⟩ hl.1 (Nat.le_of_ble_eq_true rfl) ⟨Nat.le_refl _, Nat.le_refl _⟩ dX2_kindOfSplit_31 ?_
    refine lv_iconst (v := nI (1)) C.hx C.hb dX2_kindOfSplit_34 (by decide) ?_
    refine n_icmp_gt (tgt := 44) C dX2_kindOfSplit_35 (by decide) (by omega) (by omega) (fun c35 => ?_) (fun c35 => ?_)
    · refine x2_kind_0 C X dX2_kindOfSplit_44 ?_
      exact ret_ar C (by unfold kos; rw [if_neg (by omega), if_neg (by omega)]) dX2_kindOfSplit_47
    · refine x2_kind_1 C X dX2_kindOfSplit_38 ?_
      refine lv_goto (tgt := 47) C.hx C.hb dX2_kindOfSplit_41 (by decide) ?_
      exact ret_ar C (by unfold kos; rw [if_neg (by omega), if_pos (by omega)]) dX2_kindOfSplit_47
  · refine x2_kind_2 C X dX2_kindOfSplit_22 ?_
    exact ret_ar C (by unfold kos; rw [if_pos (by omega)]) dX2_kindOfSplit_25
set_option maxHeartbeats 4000000 in
set_option maxRecDepth 100000 in
/-- the next number -/
theorem c2_takeNumber {l : Launch} {E : Gq} {z : Nat → Nat} {v : Nat → Int32} {kd : Nat} {K : List Int64} {L N S P : List Nat} {nx : Nat} (hv9 : v 9 = nI nx) : M2w l E yX2_takeNumber cX2_takeNumber 2 (some .int) 0 [.ref (z 0)] z v kd K L N S P (fun r v' kd' K' L' N' S' P' => some (.int (nI nx)) = r ∧ upd v 9 (nI (nx + 1)) = v' ∧ kd = kd' ∧ K = K' ∧ L = L' ∧ N = N' ∧ S = S' ∧ P = P') := by
  intro f hf
  obtain ⟨b1, b2, b3, b4, b5⟩ := hf.lens
  refine mk_w (by decide) (Nat.le_of_ble_eq_true rfl) ?_
  intro p e s m below meth c ls C Wd hl
  have X : X2w E _ z v kd K L N S P s s.heap [] := ⟨f, Wd, hf⟩
  have hl : lv_has ls 2 [(0, .ref (z 0))] := hl
  refine lv_aload_n C.hx C.hb dX2_takeNumber_0 rfl (lv_at hl 0 rfl) ?_
  refine x2g_9 C X (x := nI (nx)) hv9 dX2_takeNumber_1 ?_
  refine lv_istore_n (lv' := [(1, .int (nI (nx))), (0, .ref (z 0))]) C.hx C.hb dX2_takeNumber_4 rfl hl (by decide) rfl (fun ls hl => ?_)
  refine lv_aload_n C.hx C.hb dX2_takeNumber_5 rfl (lv_at hl 1 rfl) ?_
  refine lv_dup C.hx C.hb dX2_takeNumber_6 rfl ?_
  refine x2g_9 C X (x := nI (nx)) hv9 dX2_takeNumber_7 ?_
  refine lv_iconst (v := nI (1)) C.hx C.hb dX2_takeNumber_10 (by decide) ?_
  refine n_add C dX2_takeNumber_11 ?_
  refine x2p_9 C X dX2_takeNumber_12 (fun H locs X => ?_)
  refine lv_iload_n C.hx C.hb dX2_takeNumber_15 rfl (lv_at hl 0 rfl) ?_
  exact ret2_i C X (⟨rfl, rfl, rfl, rfl, rfl, rfl, rfl, rfl⟩) dX2_takeNumber_16
set_option maxHeartbeats 4000000 in
set_option maxRecDepth 100000 in
/-- a record comes -/
theorem c2_insertRecord {l : Launch} {E : Gq} {z : Nat → Nat} {v : Nat → Int32} {kd : Nat} {K : List Int64} {L N S P : List Nat} {i : Nat} {key : Int64} {len : Nat} (hi : i < S.length) (hk : K.length < 600) (hL : L.length = K.length) (hlen : len < 2 ^ 31) : M2w l E yX2_insertRecord cX2_insertRecord 6 none 2 [.ref (z 0), .int (nI (i)), .long (key), .int (nI (len))] z v kd K L N S P (fun r v' kd' K' L' N' S' P' => none = r ∧ v = v' ∧ kd = kd' ∧ ins K (ngt K key) key = K' ∧ ins L (ngt K key) len = L' ∧ N = N' ∧ S.set i (S.getD i 0 + 1) = S' ∧ P = P') := by
  intro f hf
  obtain ⟨b1, b2, b3, b4, b5⟩ := hf.lens
  refine mk_w (by decide) (Nat.le_of_ble_eq_true rfl) ?_
  intro p e s m below meth c ls C Wd hl
  have X : X2w E _ z v kd K L N S P s s.heap [] := ⟨f, Wd, hf⟩
  have hl : lv_has ls 6 [(0, .ref (z 0)), (1, .int (nI (i))), (2, .long (key)), (4, .int (nI (len)))] := hl
  have hng := ngt_le K key
  refine lv_aload_n C.hx C.hb dX2_insertRecord_0 rfl (lv_at hl 0 rfl) ?_
  refine lv_lload_n C.hx C.hb dX2_insertRecord_1 rfl (lv_at hl 2 rfl) ?_
  refine x2_cr (As := [.long (key)]) (rest := []) C X (c2_notGreaterThan (key := key)) wy_X2_notGreaterThan ts_7 tw_141 rfl ⟨by decide, by decide⟩ rfl hl.1 rfl (Nat.le_of_ble_eq_true rfl) ⟨Nat.le_refl _, Nat.le_refl _⟩ dX2_insertRecord_2 (fun r hp => ?_)
  subst hp
  refine W.eq (g2 := F0 m 5 ls [.int (nI (ngt K key))]) rfl ?_
  refine lv_istore (lv' := [(5, .int (nI (ngt K key))), (0, .ref (z 0)), (1, .int (nI (i))), (2, .long (key)), (4, .int (nI (len)))]) C.hx C.hb dX2_insertRecord_5 hl (by decide) rfl (fun ls hl => ?_)
  refine lv_aload_n C.hx C.hb dX2_insertRecord_7 rfl (lv_at hl 1 rfl) ?_
  refine x2g_4 C X dX2_insertRecord_8 ?_
  refine lv_iload C.hx C.hb dX2_insertRecord_11 (lv_at hl 0 rfl) ?_
  refine lv_lload_n C.hx C.hb dX2_insertRecord_13 rfl (lv_at hl 3 rfl) ?_
  refine x2_insertAt_1 C X (by omega) (by omega) ⟨by decide, by decide⟩ hl.1 (Nat.le_of_ble_eq_true rfl) ⟨Nat.le_refl _, Nat.le_refl _⟩ dX2_insertRecord_14 (fun H locs X => ?_)
  refine lv_aload_n C.hx C.hb dX2_insertRecord_17 rfl (lv_at hl 1 rfl) ?_
  refine x2g_5 C X dX2_insertRecord_18 ?_
  refine lv_iload C.hx C.hb dX2_insertRecord_21 (lv_at hl 0 rfl) ?_
  refine lv_iload C.hx C.hb dX2_insertRecord_23 (lv_at hl 4 rfl) ?_
  refine lv_i2l (v := lN (len)) C.hx C.hb dX2_insertRecord_25 (nI_l (by omega)) ?_
  refine x2_insertAt_2 C X (by omega) (by omega) ⟨by decide, by decide⟩ hl.1 (Nat.le_of_ble_eq_true rfl) ⟨Nat.le_refl _, Nat.le_refl _⟩ dX2_insertRecord_26 (fun H locs X => ?_)
  refine lv_aload_n C.hx C.hb dX2_insertRecord_29 rfl (lv_at hl 1 rfl) ?_
  refine x2g_7 C X dX2_insertRecord_30 ?_
  refine lv_iload_n C.hx C.hb dX2_insertRecord_33 rfl (lv_at hl 2 rfl) ?_
  refine lv_iconst (v := nI (1)) C.hx C.hb dX2_insertRecord_34 (by decide) ?_
  refine x2_raiseUp_4 C X (by omega) (by omega) ⟨by decide, by decide⟩ hl.1 (Nat.le_of_ble_eq_true rfl) ⟨Nat.le_refl _, Nat.le_refl _⟩ dX2_insertRecord_35 (fun H locs X => ?_)
  exact ret2_v C X (⟨rfl, rfl, rfl, rfl, rfl, rfl, rfl, rfl⟩) dX2_insertRecord_38
set_option maxHeartbeats 4000000 in
set_option maxRecDepth 100000 in
/-- an area splits -/
theorem c2_splitArea {l : Launch} {E : Gq} {z : Nat → Nat} {v : Nat → Int32} {kd : Nat} {K : List Int64} {L N S P : List Nat} {a wd : Nat} (hw : v 1 = nI wd) (hwd : wd ≤ 20) (ha : a < P.length) (hp : wd / 2 ≤ P.getD a 0) (hc : P.length < 601) : M2w l E yX2_splitArea cX2_splitArea 3 none 2 [.ref (z 0), .int (nI (a))] z v kd K L N S P (fun r v' kd' K' L' N' S' P' => none = r ∧ upd v 16 (v 16 + nI 1) = v' ∧ kd = kd' ∧ K = K' ∧ L = L' ∧ N = N' ∧ S = S' ∧ ins (P.set a (P.getD a 0 - wd / 2)) (a + 1) (wd / 2) = P') := by
  intro f hf
  obtain ⟨b1, b2, b3, b4, b5⟩ := hf.lens
  refine mk_w (by decide) (Nat.le_of_ble_eq_true rfl) ?_
  intro p e s m below meth c ls C Wd hl
  have X : X2w E _ z v kd K L N S P s s.heap [] := ⟨f, Wd, hf⟩
  have hl : lv_has ls 3 [(0, .ref (z 0)), (1, .int (nI (a)))] := hl
  have hsl : (P.set a (P.getD a 0 - wd / 2)).length = P.length := List.length_set ..
  refine lv_aload_n C.hx C.hb dX2_splitArea_0 rfl (lv_at hl 0 rfl) ?_
  refine x2g_1 C X (x := nI (wd)) hw dX2_splitArea_1 ?_
  refine lv_iconst (v := nI (2)) C.hx C.hb dX2_splitArea_4 (by decide) ?_
  refine n_div C dX2_splitArea_5 (by omega) (by omega) (by omega) ?_
  refine lv_istore_n (lv' := [(2, .int (nI (wd / 2))), (0, .ref (z 0)), (1, .int (nI (a)))]) C.hx C.hb dX2_splitArea_6 rfl hl (by decide) rfl (fun ls hl => ?_)
  refine lv_aload_n C.hx C.hb dX2_splitArea_7 rfl (lv_at hl 1 rfl) ?_
  refine x2g_8 C X dX2_splitArea_8 ?_
  refine lv_iload_n C.hx C.hb dX2_splitArea_11 rfl (lv_at hl 2 rfl) ?_
  refine lv_iload_n C.hx C.hb dX2_splitArea_12 rfl (lv_at hl 0 rfl) ?_
  refine lv_ineg C.hx C.hb dX2_splitArea_13 ?_
  refine x2_raiseDn_5 C X (q := wd / 2) rfl (by omega) (by omega) (by omega) ⟨by decide, by decide⟩ hl.1 (Nat.le_of_ble_eq_true rfl) ⟨Nat.le_refl _, Nat.le_refl _⟩ dX2_splitArea_14 (fun H locs X => ?_)
  refine lv_aload_n C.hx C.hb dX2_splitArea_17 rfl (lv_at hl 1 rfl) ?_
  refine x2g_8 C X dX2_splitArea_18 ?_
  refine lv_iload_n C.hx C.hb dX2_splitArea_21 rfl (lv_at hl 2 rfl) ?_
  refine lv_iconst (v := nI (1)) C.hx C.hb dX2_splitArea_22 (by decide) ?_
  refine n_add C dX2_splitArea_23 ?_
  refine lv_iload_n C.hx C.hb dX2_splitArea_24 rfl (lv_at hl 0 rfl) ?_
  refine lv_i2l (v := lN (wd / 2)) C.hx C.hb dX2_splitArea_25 (nI_l (by omega)) ?_
  refine x2_insertAt_5 C X (by omega) (by omega) ⟨by decide, by decide⟩ hl.1 (Nat.le_of_ble_eq_true rfl) ⟨Nat.le_refl _, Nat.le_refl _⟩ dX2_splitArea_26 (fun H locs X => ?_)
  refine lv_aload_n C.hx C.hb dX2_splitArea_29 rfl (lv_at hl 1 rfl) ?_
  refine lv_dup C.hx C.hb dX2_splitArea_30 rfl ?_
  refine x2g_16 C X (x := v 16) rfl dX2_splitArea_31 ?_
  refine lv_iconst (v := nI (1)) C.hx C.hb dX2_splitArea_34 (by decide) ?_
  refine lv_iadd C.hx C.hb dX2_splitArea_35 ?_
  refine x2p_16 C X dX2_splitArea_36 (fun H locs X => ?_)
  exact ret2_v C X (⟨rfl, rfl, rfl, rfl, rfl, rfl, rfl, rfl⟩) dX2_splitArea_39
set_option maxHeartbeats 4000000 in
set_option maxRecDepth 100000 in
/-- an interval comes -/
theorem c2_insertInterval {l : Launch} {E : Gq} {z : Nat → Nat} {v : Nat → Int32} {kd : Nat} {K : List Int64} {L N S P : List Nat} {at_ ar num sz : Nat} (h1 : at_ ≤ N.length) (h2 : at_ ≤ S.length) (hc1 : N.length < 601) (hc2 : S.length < 601) (ha : ar < P.length) (hn : num < 2 ^ 31) (hs : sz < 2 ^ 31) : M2w l E yX2_insertInterval cX2_insertInterval 5 none 2 [.ref (z 0), .int (nI (at_)), .int (nI (ar)), .int (nI (num)), .int (nI (sz))] z v kd K L N S P (fun r v' kd' K' L' N' S' P' => none = r ∧ v = v' ∧ kd = kd' ∧ K = K' ∧ L = L' ∧ ins N at_ num = N' ∧ ins S at_ sz = S' ∧ P.set ar (P.getD ar 0 + 1) = P') := by
  intro f hf
  obtain ⟨b1, b2, b3, b4, b5⟩ := hf.lens
  refine mk_w (by decide) (Nat.le_of_ble_eq_true rfl) ?_
  intro p e s m below meth c ls C Wd hl
  have X : X2w E _ z v kd K L N S P s s.heap [] := ⟨f, Wd, hf⟩
  have hl : lv_has ls 5 [(0, .ref (z 0)), (1, .int (nI (at_))), (2, .int (nI (ar))), (3, .int (nI (num))), (4, .int (nI (sz)))] := hl
  refine lv_aload_n C.hx C.hb dX2_insertInterval_0 rfl (lv_at hl 0 rfl) ?_
  refine x2g_6 C X dX2_insertInterval_1 ?_
  refine lv_iload_n C.hx C.hb dX2_insertInterval_4 rfl (lv_at hl 1 rfl) ?_
  refine lv_iload_n C.hx C.hb dX2_insertInterval_5 rfl (lv_at hl 3 rfl) ?_
  refine lv_i2l (v := lN (num)) C.hx C.hb dX2_insertInterval_6 (nI_l (by omega)) ?_
  refine x2_insertAt_3 C X (by omega) (by omega) ⟨by decide, by decide⟩ hl.1 (Nat.le_of_ble_eq_true rfl) ⟨Nat.le_refl _, Nat.le_refl _⟩ dX2_insertInterval_7 (fun H locs X => ?_)
  refine lv_aload_n C.hx C.hb dX2_insertInterval_10 rfl (lv_at hl 0 rfl) ?_
  refine x2g_7 C X dX2_insertInterval_11 ?_
  refine lv_iload_n C.hx C.hb dX2_insertInterval_14 rfl (lv_at hl 1 rfl) ?_
  refine lv_iload C.hx C.hb dX2_insertInterval_15 (lv_at hl 4 rfl) ?_
  refine lv_i2l (v := lN (sz)) C.hx C.hb dX2_insertInterval_17 (nI_l (by omega)) ?_
  refine x2_insertAt_4 C X (by omega) (by omega) ⟨by decide, by decide⟩ hl.1 (Nat.le_of_ble_eq_true rfl) ⟨Nat.le_refl _, Nat.le_refl _⟩ dX2_insertInterval_18 (fun H locs X => ?_)
  refine lv_aload_n C.hx C.hb dX2_insertInterval_21 rfl (lv_at hl 0 rfl) ?_
  refine x2g_8 C X dX2_insertInterval_22 ?_
  refine lv_iload_n C.hx C.hb dX2_insertInterval_25 rfl (lv_at hl 2 rfl) ?_
  refine lv_iconst (v := nI (1)) C.hx C.hb dX2_insertInterval_26 (by decide) ?_
  refine x2_raiseUp_5 C X (by omega) (by omega) ⟨by decide, by decide⟩ hl.1 (Nat.le_of_ble_eq_true rfl) ⟨Nat.le_refl _, Nat.le_refl _⟩ dX2_insertInterval_27 (fun H locs X => ?_)
  exact ret2_v C X (⟨rfl, rfl, rfl, rfl, rfl, rfl, rfl, rfl⟩) dX2_insertInterval_30
end
section
theorem upd_same {v : Nat → Int32} {k : Nat} {x : Int32} (h : v k = x) : upd v k x = v := by
  funext j
  unfold upd
  by_cases e : j = k
  · rw [if_pos e, e]; exact h.symm
  · rw [if_neg e]
/-- a cut ahead of write tc of a split of kind k: whether it uses a number up, whether it has its row -/
def cbump (tc k : Nat) : Nat := if 2 < tc ∧ k ≠ 2 then 1 else 0
def crow (tc : Nat) : Nat := if 3 < tc then 1 else 0
def vClose (v : Nat → Int32) (nx tc k i : Nat) : Nat → Int32 := upd (upd (upd (upd (upd v 9 (nI (nx + cbump tc k))) 12 (nI (crow tc))) 14 (nI i)) 10 (nI 0)) 11 (nI 1)
set_option maxHeartbeats 4000000 in
set_option maxRecDepth 100000 in
/-- closed ahead of a write -/
theorem c2_closeAhead {l : Launch} {E : Gq} {z : Nat → Nat} {v : Nat → Int32} {kd : Nat} {K : List Int64} {L N S P : List Nat} {nx tc k i : Nat} (hv9 : v 9 = nI nx) (hv10 : v 10 = nI tc) (htc : tc ≤ 4) (hk : k < 3) : M2w l E yX2_closeAhead cX2_closeAhead 3 none 0 [.ref (z 0), .ref (E.2.2.2 k), .int (nI (i))] z v kd K L N S P (fun r v' kd' K' L' N' S' P' => none = r ∧ vClose v nx tc k i = v' ∧ k = kd' ∧ K = K' ∧ L = L' ∧ N = N' ∧ S = S' ∧ P = P') := by
  intro f hf
  obtain ⟨b1, b2, b3, b4, b5⟩ := hf.lens
  refine mk_w (by decide) (Nat.le_of_ble_eq_true rfl) ?_
  intro p e s m below meth c ls C Wd hl
  have X : X2w E _ z v kd K L N S P s s.heap [] := ⟨f, Wd, hf⟩
  have hl : lv_has ls 3 [(0, .ref (z 0)), (1, .ref (E.2.2.2 k)), (2, .int (nI (i)))] := hl
  refine lv_aload_n C.hx C.hb dX2_closeAhead_0 rfl (lv_at hl 0 rfl) ?_
  refine x2g_10 C X (x := nI (tc)) hv10 dX2_closeAhead_1 ?_
  refine lv_iconst (v := nI (2)) C.hx C.hb dX2_closeAhead_4 (by decide) ?_
  refine n_icmp_le (tgt := 25) C dX2_closeAhead_5 (by decide) (by omega) (by omega) (fun c5 => ?_) (fun c5 => ?_)
  · refine lv_aload_n C.hx C.hb dX2_closeAhead_25 rfl (lv_at hl 0 rfl) ?_
    refine lv_aload_n C.hx C.hb dX2_closeAhead_26 rfl (lv_at hl 0 rfl) ?_
    refine x2g_10 C X (x := nI (tc)) hv10 dX2_closeAhead_27 ?_
    refine lv_iconst (v := nI (3)) C.hx C.hb dX2_closeAhead_30 (by decide) ?_
    refine n_icmp_le (tgt := 38) C dX2_closeAhead_31 (by decide) (by omega) (by omega) (fun c31 => ?_) (fun c31 => ?_)
    · refine lv_iconst (v := nI (0)) C.hx C.hb dX2_closeAhead_38 (by decide) ?_
      refine x2p_12 C X (by decide) (by decide) dX2_closeAhead_39 (fun H locs X => ?_)
      refine lv_aload_n C.hx C.hb dX2_closeAhead_42 rfl (lv_at hl 0 rfl) ?_
      refine lv_aload_n C.hx C.hb dX2_closeAhead_43 rfl (lv_at hl 1 rfl) ?_
      refine x2p_13 C X dX2_closeAhead_44 (fun H locs X => ?_)
      refine lv_aload_n C.hx C.hb dX2_closeAhead_47 rfl (lv_at hl 0 rfl) ?_
      refine lv_iload_n C.hx C.hb dX2_closeAhead_48 rfl (lv_at hl 2 rfl) ?_
      refine x2p_14 C X dX2_closeAhead_49 (fun H locs X => ?_)
      refine lv_aload_n C.hx C.hb dX2_closeAhead_52 rfl (lv_at hl 0 rfl) ?_
      refine lv_iconst (v := nI (0)) C.hx C.hb dX2_closeAhead_53 (by decide) ?_
      refine x2p_10 C X dX2_closeAhead_54 (fun H locs X => ?_)
      refine lv_aload_n C.hx C.hb dX2_closeAhead_57 rfl (lv_at hl 0 rfl) ?_
      refine lv_iconst (v := nI (1)) C.hx C.hb dX2_closeAhead_58 (by decide) ?_
      refine x2p_11 C X (by decide) (by decide) dX2_closeAhead_59 (fun H locs X => ?_)
      exact ret2_v C X (⟨rfl, by have e1 : cbump tc k = 0 := (by unfold cbump; rw [if_neg (fun h => by omega)]); have e2 : crow tc = 0 := (by unfold crow; rw [if_neg (by omega)]); unfold vClose; rw [e1, e2, Nat.add_zero, upd_same hv9], rfl, rfl, rfl, rfl, rfl, rfl⟩) dX2_closeAhead_62
    · refine lv_iconst (v := nI (1)) C.hx C.hb dX2_closeAhead_34 (by decide) ?_
      refine lv_goto (tgt := 39) C.hx C.hb dX2_closeAhead_35 (by decide) ?_
      refine x2p_12 C X (by decide) (by decide) dX2_closeAhead_39 (fun H locs X => ?_)
      refine lv_aload_n C.hx C.hb dX2_closeAhead_42 rfl (lv_at hl 0 rfl) ?_
      refine lv_aload_n C.hx C.hb dX2_closeAhead_43 rfl (lv_at hl 1 rfl) ?_
      refine x2p_13 C X dX2_closeAhead_44 (fun H locs X => ?_)
      refine lv_aload_n C.hx C.hb dX2_closeAhead_47 rfl (lv_at hl 0 rfl) ?_
      refine lv_iload_n C.hx C.hb dX2_closeAhead_48 rfl (lv_at hl 2 rfl) ?_
      refine x2p_14 C X dX2_closeAhead_49 (fun H locs X => ?_)
      refine lv_aload_n C.hx C.hb dX2_closeAhead_52 rfl (lv_at hl 0 rfl) ?_
      refine lv_iconst (v := nI (0)) C.hx C.hb dX2_closeAhead_53 (by decide) ?_
      refine x2p_10 C X dX2_closeAhead_54 (fun H locs X => ?_)
      refine lv_aload_n C.hx C.hb dX2_closeAhead_57 rfl (lv_at hl 0 rfl) ?_
      refine lv_iconst (v := nI (1)) C.hx C.hb dX2_closeAhead_58 (by decide) ?_
      refine x2p_11 C X (by decide) (by decide) dX2_closeAhead_59 (fun H locs X => ?_)
      exact ret2_v C X (⟨rfl, by have e1 : cbump tc k = 0 := (by unfold cbump; rw [if_neg (fun h => by omega)]); have e2 : crow tc = 1 := (by unfold crow; rw [if_pos (by omega)]); unfold vClose; rw [e1, e2, Nat.add_zero, upd_same hv9], rfl, rfl, rfl, rfl, rfl, rfl⟩) dX2_closeAhead_62
  · refine lv_aload_n C.hx C.hb dX2_closeAhead_8 rfl (lv_at hl 1 rfl) ?_
    refine x2_kind_2 C X dX2_closeAhead_9 ?_
    refine x2_acmp_eq (tgt := 25) C (i := k) (j := 2) hk (by decide) dX2_closeAhead_12 (by decide) (fun c12 => ?_) (fun c12 => ?_)
    · refine lv_aload_n C.hx C.hb dX2_closeAhead_25 rfl (lv_at hl 0 rfl) ?_
      refine lv_aload_n C.hx C.hb dX2_closeAhead_26 rfl (lv_at hl 0 rfl) ?_
      refine x2g_10 C X (x := nI (tc)) hv10 dX2_closeAhead_27 ?_
      refine lv_iconst (v := nI (3)) C.hx C.hb dX2_closeAhead_30 (by decide) ?_
      refine n_icmp_le (tgt := 38) C dX2_closeAhead_31 (by decide) (by omega) (by omega) (fun c31 => ?_) (fun c31 => ?_)
      · refine lv_iconst (v := nI (0)) C.hx C.hb dX2_closeAhead_38 (by decide) ?_
        refine x2p_12 C X (by decide) (by decide) dX2_closeAhead_39 (fun H locs X => ?_)
        refine lv_aload_n C.hx C.hb dX2_closeAhead_42 rfl (lv_at hl 0 rfl) ?_
        refine lv_aload_n C.hx C.hb dX2_closeAhead_43 rfl (lv_at hl 1 rfl) ?_
        refine x2p_13 C X dX2_closeAhead_44 (fun H locs X => ?_)
        refine lv_aload_n C.hx C.hb dX2_closeAhead_47 rfl (lv_at hl 0 rfl) ?_
        refine lv_iload_n C.hx C.hb dX2_closeAhead_48 rfl (lv_at hl 2 rfl) ?_
        refine x2p_14 C X dX2_closeAhead_49 (fun H locs X => ?_)
        refine lv_aload_n C.hx C.hb dX2_closeAhead_52 rfl (lv_at hl 0 rfl) ?_
        refine lv_iconst (v := nI (0)) C.hx C.hb dX2_closeAhead_53 (by decide) ?_
        refine x2p_10 C X dX2_closeAhead_54 (fun H locs X => ?_)
        refine lv_aload_n C.hx C.hb dX2_closeAhead_57 rfl (lv_at hl 0 rfl) ?_
        refine lv_iconst (v := nI (1)) C.hx C.hb dX2_closeAhead_58 (by decide) ?_
        refine x2p_11 C X (by decide) (by decide) dX2_closeAhead_59 (fun H locs X => ?_)
        exact ret2_v C X (⟨rfl, by have e1 : cbump tc k = 0 := (by unfold cbump; rw [if_neg (fun h => by omega)]); have e2 : crow tc = 0 := (by unfold crow; rw [if_neg (by omega)]); unfold vClose; rw [e1, e2, Nat.add_zero, upd_same hv9], rfl, rfl, rfl, rfl, rfl, rfl⟩) dX2_closeAhead_62
      · refine lv_iconst (v := nI (1)) C.hx C.hb dX2_closeAhead_34 (by decide) ?_
        refine lv_goto (tgt := 39) C.hx C.hb dX2_closeAhead_35 (by decide) ?_
        refine x2p_12 C X (by decide) (by decide) dX2_closeAhead_39 (fun H locs X => ?_)
        refine lv_aload_n C.hx C.hb dX2_closeAhead_42 rfl (lv_at hl 0 rfl) ?_
        refine lv_aload_n C.hx C.hb dX2_closeAhead_43 rfl (lv_at hl 1 rfl) ?_
        refine x2p_13 C X dX2_closeAhead_44 (fun H locs X => ?_)
        refine lv_aload_n C.hx C.hb dX2_closeAhead_47 rfl (lv_at hl 0 rfl) ?_
        refine lv_iload_n C.hx C.hb dX2_closeAhead_48 rfl (lv_at hl 2 rfl) ?_
        refine x2p_14 C X dX2_closeAhead_49 (fun H locs X => ?_)
        refine lv_aload_n C.hx C.hb dX2_closeAhead_52 rfl (lv_at hl 0 rfl) ?_
        refine lv_iconst (v := nI (0)) C.hx C.hb dX2_closeAhead_53 (by decide) ?_
        refine x2p_10 C X dX2_closeAhead_54 (fun H locs X => ?_)
        refine lv_aload_n C.hx C.hb dX2_closeAhead_57 rfl (lv_at hl 0 rfl) ?_
        refine lv_iconst (v := nI (1)) C.hx C.hb dX2_closeAhead_58 (by decide) ?_
        refine x2p_11 C X (by decide) (by decide) dX2_closeAhead_59 (fun H locs X => ?_)
        exact ret2_v C X (⟨rfl, by have e1 : cbump tc k = 0 := (by unfold cbump; rw [if_neg (fun h => by omega)]); have e2 : crow tc = 1 := (by unfold crow; rw [if_pos (by omega)]); unfold vClose; rw [e1, e2, Nat.add_zero, upd_same hv9], rfl, rfl, rfl, rfl, rfl, rfl⟩) dX2_closeAhead_62
    · refine lv_aload_n C.hx C.hb dX2_closeAhead_15 rfl (lv_at hl 0 rfl) ?_
      refine lv_dup C.hx C.hb dX2_closeAhead_16 rfl ?_
      refine x2g_9 C X (x := nI (nx)) hv9 dX2_closeAhead_17 ?_
      refine lv_iconst (v := nI (1)) C.hx C.hb dX2_closeAhead_20 (by decide) ?_
      refine n_add C dX2_closeAhead_21 ?_
      refine x2p_9 C X dX2_closeAhead_22 (fun H locs X => ?_)
      refine lv_aload_n C.hx C.hb dX2_closeAhead_25 rfl (lv_at hl 0 rfl) ?_
      refine lv_aload_n C.hx C.hb dX2_closeAhead_26 rfl (lv_at hl 0 rfl) ?_
      refine x2g_10 C X (x := nI (tc)) hv10 dX2_closeAhead_27 ?_
      refine lv_iconst (v := nI (3)) C.hx C.hb dX2_closeAhead_30 (by decide) ?_
      refine n_icmp_le (tgt := 38) C dX2_closeAhead_31 (by decide) (by omega) (by omega) (fun c31 => ?_) (fun c31 => ?_)
      · refine lv_iconst (v := nI (0)) C.hx C.hb dX2_closeAhead_38 (by decide) ?_
        refine x2p_12 C X (by decide) (by decide) dX2_closeAhead_39 (fun H locs X => ?_)
        refine lv_aload_n C.hx C.hb dX2_closeAhead_42 rfl (lv_at hl 0 rfl) ?_
        refine lv_aload_n C.hx C.hb dX2_closeAhead_43 rfl (lv_at hl 1 rfl) ?_
        refine x2p_13 C X dX2_closeAhead_44 (fun H locs X => ?_)
        refine lv_aload_n C.hx C.hb dX2_closeAhead_47 rfl (lv_at hl 0 rfl) ?_
        refine lv_iload_n C.hx C.hb dX2_closeAhead_48 rfl (lv_at hl 2 rfl) ?_
        refine x2p_14 C X dX2_closeAhead_49 (fun H locs X => ?_)
        refine lv_aload_n C.hx C.hb dX2_closeAhead_52 rfl (lv_at hl 0 rfl) ?_
        refine lv_iconst (v := nI (0)) C.hx C.hb dX2_closeAhead_53 (by decide) ?_
        refine x2p_10 C X dX2_closeAhead_54 (fun H locs X => ?_)
        refine lv_aload_n C.hx C.hb dX2_closeAhead_57 rfl (lv_at hl 0 rfl) ?_
        refine lv_iconst (v := nI (1)) C.hx C.hb dX2_closeAhead_58 (by decide) ?_
        refine x2p_11 C X (by decide) (by decide) dX2_closeAhead_59 (fun H locs X => ?_)
        exact ret2_v C X (⟨rfl, by have e1 : cbump tc k = 1 := (by unfold cbump; rw [if_pos ⟨by omega, by omega⟩]); have e2 : crow tc = 0 := (by unfold crow; rw [if_neg (by omega)]); unfold vClose; rw [e1, e2], rfl, rfl, rfl, rfl, rfl, rfl⟩) dX2_closeAhead_62
      · refine lv_iconst (v := nI (1)) C.hx C.hb dX2_closeAhead_34 (by decide) ?_
        refine lv_goto (tgt := 39) C.hx C.hb dX2_closeAhead_35 (by decide) ?_
        refine x2p_12 C X (by decide) (by decide) dX2_closeAhead_39 (fun H locs X => ?_)
        refine lv_aload_n C.hx C.hb dX2_closeAhead_42 rfl (lv_at hl 0 rfl) ?_
        refine lv_aload_n C.hx C.hb dX2_closeAhead_43 rfl (lv_at hl 1 rfl) ?_
        refine x2p_13 C X dX2_closeAhead_44 (fun H locs X => ?_)
        refine lv_aload_n C.hx C.hb dX2_closeAhead_47 rfl (lv_at hl 0 rfl) ?_
        refine lv_iload_n C.hx C.hb dX2_closeAhead_48 rfl (lv_at hl 2 rfl) ?_
        refine x2p_14 C X dX2_closeAhead_49 (fun H locs X => ?_)
        refine lv_aload_n C.hx C.hb dX2_closeAhead_52 rfl (lv_at hl 0 rfl) ?_
        refine lv_iconst (v := nI (0)) C.hx C.hb dX2_closeAhead_53 (by decide) ?_
        refine x2p_10 C X dX2_closeAhead_54 (fun H locs X => ?_)
        refine lv_aload_n C.hx C.hb dX2_closeAhead_57 rfl (lv_at hl 0 rfl) ?_
        refine lv_iconst (v := nI (1)) C.hx C.hb dX2_closeAhead_58 (by decide) ?_
        refine x2p_11 C X (by decide) (by decide) dX2_closeAhead_59 (fun H locs X => ?_)
        exact ret2_v C X (⟨rfl, by have e1 : cbump tc k = 1 := (by unfold cbump; rw [if_pos ⟨by omega, by omega⟩]); have e2 : crow tc = 1 := (by unfold crow; rw [if_pos (by omega)]); unfold vClose; rw [e1, e2], rfl, rfl, rfl, rfl, rfl, rfl⟩) dX2_closeAhead_62
def drp (P : List Nat) (a : Nat) : List Nat := if P.getD a 0 - 1 = 0 then del (P.set a (P.getD a 0 - 1)) a else P.set a (P.getD a 0 - 1)
theorem getD_set_self {P : List Nat} {a x : Nat} (h : a < P.length) : (P.set a x).getD a 0 = x := by simp [List.getD_eq_getElem?_getD, h]
theorem getD_set_ne {P : List Nat} {a b x : Nat} (h : a ≠ b) : (P.set a x).getD b 0 = P.getD b 0 := by simp [List.getD_eq_getElem?_getD, List.getElem?_set, h]
set_option maxHeartbeats 4000000 in
set_option maxRecDepth 100000 in
/-- an interval goes -/
theorem c2_dropInterval {l : Launch} {E : Gq} {z : Nat → Nat} {v : Nat → Int32} {kd : Nat} {K : List Int64} {L N S P : List Nat} {i : Nat} (hi : i < N.length) (hi2 : i < S.length) (hP : P.sum ≤ 2 ^ 20) (hp0 : 0 < P.length) (hone : 1 ≤ P.getD (gOf P i) 0) : M2w l E yX2_dropInterval cX2_dropInterval 3 none 2 [.ref (z 0), .int (nI (i))] z v kd K L N S P (fun r v' kd' K' L' N' S' P' => none = r ∧ v = v' ∧ kd = kd' ∧ K = K' ∧ L = L' ∧ del N i = N' ∧ del S i = S' ∧ drp P (gOf P i) = P') := by
  intro f hf
  obtain ⟨b1, b2, b3, b4, b5⟩ := hf.lens
  refine mk_w (by decide) (Nat.le_of_ble_eq_true rfl) ?_
  intro p e s m below meth c ls C Wd hl
  have X : X2w E _ z v kd K L N S P s s.heap [] := ⟨f, Wd, hf⟩
  have hl : lv_has ls 3 [(0, .ref (z 0)), (1, .int (nI (i)))] := hl
  have har := gOf_lt (L := P) (m := i) hp0
  have hge := getD_set_self (x := P.getD (gOf P i) 0 - 1) har
  have hsl : (P.set (gOf P i) (P.getD (gOf P i) 0 - 1)).length = P.length := List.length_set ..
  have hq := getD_le P (gOf P i)
  refine lv_aload_n C.hx C.hb dX2_dropInterval_0 rfl (lv_at hl 0 rfl) ?_
  refine x2g_8 C X dX2_dropInterval_1 ?_
  refine lv_iload_n C.hx C.hb dX2_dropInterval_4 rfl (lv_at hl 1 rfl) ?_
  refine x2_groupOf_5 C X (by omega) (by omega) ⟨by decide, by decide⟩ hl.1 (Nat.le_of_ble_eq_true rfl) ⟨Nat.le_refl _, Nat.le_refl _⟩ dX2_dropInterval_5 ?_
  refine lv_istore_n (lv' := [(2, .int (nI (gOf P i))), (0, .ref (z 0)), (1, .int (nI (i)))]) C.hx C.hb dX2_dropInterval_8 rfl hl (by decide) rfl (fun ls hl => ?_)
  refine lv_aload_n C.hx C.hb dX2_dropInterval_9 rfl (lv_at hl 1 rfl) ?_
  refine x2g_6 C X dX2_dropInterval_10 ?_
  refine lv_iload_n C.hx C.hb dX2_dropInterval_13 rfl (lv_at hl 2 rfl) ?_
  refine x2_deleteAt_3 C X (by omega) ⟨by decide, by decide⟩ hl.1 (Nat.le_of_ble_eq_true rfl) ⟨Nat.le_refl _, Nat.le_refl _⟩ dX2_dropInterval_14 (fun H locs X => ?_)
  refine lv_aload_n C.hx C.hb dX2_dropInterval_17 rfl (lv_at hl 1 rfl) ?_
  refine x2g_7 C X dX2_dropInterval_18 ?_
  refine lv_iload_n C.hx C.hb dX2_dropInterval_21 rfl (lv_at hl 2 rfl) ?_
  refine x2_deleteAt_4 C X (by omega) ⟨by decide, by decide⟩ hl.1 (Nat.le_of_ble_eq_true rfl) ⟨Nat.le_refl _, Nat.le_refl _⟩ dX2_dropInterval_22 (fun H locs X => ?_)
  refine lv_aload_n C.hx C.hb dX2_dropInterval_25 rfl (lv_at hl 1 rfl) ?_
  refine x2g_8 C X dX2_dropInterval_26 ?_
  refine lv_iload_n C.hx C.hb dX2_dropInterval_29 rfl (lv_at hl 0 rfl) ?_
  refine lv_iconst (v := (-1)) C.hx C.hb dX2_dropInterval_30 (by decide) ?_
  refine x2_raiseDn_5 C X (q := 1) (by decide) (by omega) (by omega) (by omega) ⟨by decide, by decide⟩ hl.1 (Nat.le_of_ble_eq_true rfl) ⟨Nat.le_refl _, Nat.le_refl _⟩ dX2_dropInterval_31 (fun H locs X => ?_)
  refine lv_aload_n C.hx C.hb dX2_dropInterval_34 rfl (lv_at hl 1 rfl) ?_
  refine x2g_8 C X dX2_dropInterval_35 ?_
  refine lv_iload_n C.hx C.hb dX2_dropInterval_38 rfl (lv_at hl 0 rfl) ?_
  refine x2_intAt_5 C X (by omega) ⟨by decide, by decide⟩ hl.1 (Nat.le_of_ble_eq_true rfl) ⟨Nat.le_refl _, Nat.le_refl _⟩ dX2_dropInterval_39 ?_
  refine n_if_ne (tgt := 53) C dX2_dropInterval_42 (by decide) (by omega) (fun c42 => ?_) (fun c42 => ?_)
  · exact ret2_v C X (⟨rfl, rfl, rfl, rfl, rfl, rfl, rfl, by unfold drp; rw [if_neg (by omega)]⟩) dX2_dropInterval_53
  · refine lv_aload_n C.hx C.hb dX2_dropInterval_45 rfl (lv_at hl 1 rfl) ?_
    refine x2g_8 C X dX2_dropInterval_46 ?_
    refine lv_iload_n C.hx C.hb dX2_dropInterval_49 rfl (lv_at hl 0 rfl) ?_
    refine x2_deleteAt_5 C X (by omega) ⟨by decide, by decide⟩ hl.1 (Nat.le_of_ble_eq_true rfl) ⟨Nat.le_refl _, Nat.le_refl _⟩ dX2_dropInterval_50 (fun H locs X => ?_)
    exact ret2_v C X (⟨rfl, rfl, rfl, rfl, rfl, rfl, rfl, by unfold drp; rw [if_pos (by omega)]⟩) dX2_dropInterval_53
def lay (P : List Nat) (lw : Nat) : List Nat := if 0 < P.length ∧ P.getD (P.length - 1) 0 < lw then P.set (P.length - 1) (P.getD (P.length - 1) 0 + 1) else ins P P.length 1
set_option maxHeartbeats 4000000 in
set_option maxRecDepth 100000 in
/-- an interval is laid -/
theorem c2_layInterval {l : Launch} {E : Gq} {z : Nat → Nat} {v : Nat → Int32} {kd : Nat} {K : List Int64} {L N S P : List Nat} {nx lw sz : Nat} (hv9 : v 9 = nI nx) (hv3 : v 3 = nI lw) (hlw : lw ≤ 2 ^ 20) (hnx : nx < 2 ^ 31) (hsz : sz < 2 ^ 31) (hN : N.length < 601) (hS : S.length < 601) (hPl : P.length < 601) (hP : P.sum ≤ 2 ^ 20) : M2w l E yX2_layInterval cX2_layInterval 3 none 2 [.ref (z 0), .int (nI (sz))] z v kd K L N S P (fun r v' kd' K' L' N' S' P' => none = r ∧ upd v 9 (nI (nx + 1)) = v' ∧ kd = kd' ∧ K = K' ∧ L = L' ∧ ins N N.length nx = N' ∧ ins S S.length sz = S' ∧ lay P lw = P') := by
  intro f hf
  obtain ⟨b1, b2, b3, b4, b5⟩ := hf.lens
  refine mk_w (by decide) (Nat.le_of_ble_eq_true rfl) ?_
  intro p e s m below meth c ls C Wd hl
  have X : X2w E _ z v kd K L N S P s s.heap [] := ⟨f, Wd, hf⟩
  have hl : lv_has ls 3 [(0, .ref (z 0)), (1, .int (nI (sz)))] := hl
  have hq := getD_le P (P.length - 1)
  rcases Nat.eq_zero_or_pos P.length with h0 | h0
  · refine lv_aload_n C.hx C.hb dX2_layInterval_0 rfl (lv_at hl 0 rfl) ?_
    refine x2g_6 C X dX2_layInterval_1 ?_
    refine lv_aload_n C.hx C.hb dX2_layInterval_4 rfl (lv_at hl 0 rfl) ?_
    refine x2g_6 C X dX2_layInterval_5 ?_
    refine x2s_3 C X dX2_layInterval_8 ?_
    refine lv_aload_n C.hx C.hb dX2_layInterval_11 rfl (lv_at hl 0 rfl) ?_
    refine x2_cw (As := []) (rest := [.int (nI (N.length)), .ref (z 3)]) C X (c2_takeNumber (nx := nx) hv9) wy_X2_takeNumber ts_1 tw_52 rfl ⟨by decide, by decide⟩ rfl hl.1 rfl (Nat.le_of_ble_eq_true rfl) ⟨Nat.le_refl _, Nat.le_refl _⟩ dX2_layInterval_12 (fun r v' kd' K' L' N' S' P' H locs hp X => ?_)
    obtain ⟨rfl, rfl, rfl, rfl, rfl, rfl, rfl, rfl⟩ := hp
    refine W.eq (g2 := F0 m 15 ls [.int (nI (nx)), .int (nI (N.length)), .ref (z 3)]) rfl ?_
    refine lv_i2l (v := lN (nx)) C.hx C.hb dX2_layInterval_15 (nI_l (by omega)) ?_
    refine x2_insertAt_3 C X (by omega) (by omega) ⟨by decide, by decide⟩ hl.1 (Nat.le_of_ble_eq_true rfl) ⟨Nat.le_refl _, Nat.le_refl _⟩ dX2_layInterval_16 (fun H locs X => ?_)
    refine lv_aload_n C.hx C.hb dX2_layInterval_19 rfl (lv_at hl 0 rfl) ?_
    refine x2g_7 C X dX2_layInterval_20 ?_
    refine lv_aload_n C.hx C.hb dX2_layInterval_23 rfl (lv_at hl 0 rfl) ?_
    refine x2g_7 C X dX2_layInterval_24 ?_
    refine x2s_4 C X dX2_layInterval_27 ?_
    refine lv_iload_n C.hx C.hb dX2_layInterval_30 rfl (lv_at hl 1 rfl) ?_
    refine lv_i2l (v := lN (sz)) C.hx C.hb dX2_layInterval_31 (nI_l (by omega)) ?_
    refine x2_insertAt_4 C X (by omega) (by omega) ⟨by decide, by decide⟩ hl.1 (Nat.le_of_ble_eq_true rfl) ⟨Nat.le_refl _, Nat.le_refl _⟩ dX2_layInterval_32 (fun H locs X => ?_)
    refine lv_aload_n C.hx C.hb dX2_layInterval_35 rfl (lv_at hl 0 rfl) ?_
    refine x2g_8 C X dX2_layInterval_36 ?_
    refine x2s_5 C X dX2_layInterval_39 ?_
    refine lv_iconst (v := nI (1)) C.hx C.hb dX2_layInterval_42 (by decide) ?_
    refine lv_isub C.hx C.hb dX2_layInterval_43 ?_
    refine lv_istore_n (lv' := [(2, .int ((nI (P.length)) - (nI (1)))), (0, .ref (z 0)), (1, .int (nI (sz)))]) C.hx C.hb dX2_layInterval_44 rfl hl (by decide) rfl (fun ls hl => ?_)
    refine lv_iload_n C.hx C.hb dX2_layInterval_45 rfl (lv_at hl 0 rfl) ?_
    refine lv_if_lt (tgt := 76) C.hx C.hb dX2_layInterval_46 (by decide) (fun c46 => ?_) (fun c46 => ?_)
    · refine lv_aload_n C.hx C.hb dX2_layInterval_76 rfl (lv_at hl 1 rfl) ?_
      refine x2g_8 C X dX2_layInterval_77 ?_
      refine lv_aload_n C.hx C.hb dX2_layInterval_80 rfl (lv_at hl 1 rfl) ?_
      refine x2g_8 C X dX2_layInterval_81 ?_
      refine x2s_5 C X dX2_layInterval_84 ?_
      refine lv_lconst (v := lN 1) C.hx C.hb dX2_layInterval_87 (by decide) ?_
      refine x2_insertAt_5 C X (by omega) (by omega) ⟨by decide, by decide⟩ hl.1 (Nat.le_of_ble_eq_true rfl) ⟨Nat.le_refl _, Nat.le_refl _⟩ dX2_layInterval_88 (fun H locs X => ?_)
      exact ret2_v C X (⟨rfl, rfl, rfl, rfl, rfl, rfl, rfl, by unfold lay; rw [if_neg (fun h => by omega)]⟩) dX2_layInterval_91
    · exact absurd (by rw [h0]; decide) c46
  · refine lv_aload_n C.hx C.hb dX2_layInterval_0 rfl (lv_at hl 0 rfl) ?_
    refine x2g_6 C X dX2_layInterval_1 ?_
    refine lv_aload_n C.hx C.hb dX2_layInterval_4 rfl (lv_at hl 0 rfl) ?_
    refine x2g_6 C X dX2_layInterval_5 ?_
    refine x2s_3 C X dX2_layInterval_8 ?_
    refine lv_aload_n C.hx C.hb dX2_layInterval_11 rfl (lv_at hl 0 rfl) ?_
    refine x2_cw (As := []) (rest := [.int (nI (N.length)), .ref (z 3)]) C X (c2_takeNumber (nx := nx) hv9) wy_X2_takeNumber ts_1 tw_52 rfl ⟨by decide, by decide⟩ rfl hl.1 rfl (Nat.le_of_ble_eq_true rfl) ⟨Nat.le_refl _, Nat.le_refl _⟩ dX2_layInterval_12 (fun r v' kd' K' L' N' S' P' H locs hp X => ?_)
    obtain ⟨rfl, rfl, rfl, rfl, rfl, rfl, rfl, rfl⟩ := hp
    refine W.eq (g2 := F0 m 15 ls [.int (nI (nx)), .int (nI (N.length)), .ref (z 3)]) rfl ?_
    refine lv_i2l (v := lN (nx)) C.hx C.hb dX2_layInterval_15 (nI_l (by omega)) ?_
    refine x2_insertAt_3 C X (by omega) (by omega) ⟨by decide, by decide⟩ hl.1 (Nat.le_of_ble_eq_true rfl) ⟨Nat.le_refl _, Nat.le_refl _⟩ dX2_layInterval_16 (fun H locs X => ?_)
    refine lv_aload_n C.hx C.hb dX2_layInterval_19 rfl (lv_at hl 0 rfl) ?_
    refine x2g_7 C X dX2_layInterval_20 ?_
    refine lv_aload_n C.hx C.hb dX2_layInterval_23 rfl (lv_at hl 0 rfl) ?_
    refine x2g_7 C X dX2_layInterval_24 ?_
    refine x2s_4 C X dX2_layInterval_27 ?_
    refine lv_iload_n C.hx C.hb dX2_layInterval_30 rfl (lv_at hl 1 rfl) ?_
    refine lv_i2l (v := lN (sz)) C.hx C.hb dX2_layInterval_31 (nI_l (by omega)) ?_
    refine x2_insertAt_4 C X (by omega) (by omega) ⟨by decide, by decide⟩ hl.1 (Nat.le_of_ble_eq_true rfl) ⟨Nat.le_refl _, Nat.le_refl _⟩ dX2_layInterval_32 (fun H locs X => ?_)
    refine lv_aload_n C.hx C.hb dX2_layInterval_35 rfl (lv_at hl 0 rfl) ?_
    refine x2g_8 C X dX2_layInterval_36 ?_
    refine x2s_5 C X dX2_layInterval_39 ?_
    refine lv_iconst (v := nI (1)) C.hx C.hb dX2_layInterval_42 (by decide) ?_
    refine n_sub C dX2_layInterval_43 (by omega) ?_
    refine lv_istore_n (lv' := [(2, .int (nI (P.length - 1))), (0, .ref (z 0)), (1, .int (nI (sz)))]) C.hx C.hb dX2_layInterval_44 rfl hl (by decide) rfl (fun ls hl => ?_)
    refine lv_iload_n C.hx C.hb dX2_layInterval_45 rfl (lv_at hl 0 rfl) ?_
    refine n_if_lt (tgt := 76) C dX2_layInterval_46 (by decide) (by omega) ?_
    refine lv_aload_n C.hx C.hb dX2_layInterval_49 rfl (lv_at hl 1 rfl) ?_
    refine x2g_8 C X dX2_layInterval_50 ?_
    refine lv_iload_n C.hx C.hb dX2_layInterval_53 rfl (lv_at hl 0 rfl) ?_
    refine x2_intAt_5 C X (by omega) ⟨by decide, by decide⟩ hl.1 (Nat.le_of_ble_eq_true rfl) ⟨Nat.le_refl _, Nat.le_refl _⟩ dX2_layInterval_54 ?_
    refine lv_aload_n C.hx C.hb dX2_layInterval_57 rfl (lv_at hl 1 rfl) ?_
    refine x2g_3 C X (x := nI (lw)) hv3 dX2_layInterval_58 ?_
    refine n_icmp_ge (tgt := 76) C dX2_layInterval_61 (by decide) (by omega) (by omega) (fun c61 => ?_) (fun c61 => ?_)
    · refine lv_aload_n C.hx C.hb dX2_layInterval_76 rfl (lv_at hl 1 rfl) ?_
      refine x2g_8 C X dX2_layInterval_77 ?_
      refine lv_aload_n C.hx C.hb dX2_layInterval_80 rfl (lv_at hl 1 rfl) ?_
      refine x2g_8 C X dX2_layInterval_81 ?_
      refine x2s_5 C X dX2_layInterval_84 ?_
      refine lv_lconst (v := lN 1) C.hx C.hb dX2_layInterval_87 (by decide) ?_
      refine x2_insertAt_5 C X (by omega) (by omega) ⟨by decide, by decide⟩ hl.1 (Nat.le_of_ble_eq_true rfl) ⟨Nat.le_refl _, Nat.le_refl _⟩ dX2_layInterval_88 (fun H locs X => ?_)
      exact ret2_v C X (⟨rfl, rfl, rfl, rfl, rfl, rfl, rfl, by unfold lay; rw [if_neg (fun h => by omega)]⟩) dX2_layInterval_91
    · refine lv_aload_n C.hx C.hb dX2_layInterval_64 rfl (lv_at hl 1 rfl) ?_
      refine x2g_8 C X dX2_layInterval_65 ?_
      refine lv_iload_n C.hx C.hb dX2_layInterval_68 rfl (lv_at hl 0 rfl) ?_
      refine lv_iconst (v := nI (1)) C.hx C.hb dX2_layInterval_69 (by decide) ?_
      refine x2_raiseUp_5 C X (by omega) (by omega) ⟨by decide, by decide⟩ hl.1 (Nat.le_of_ble_eq_true rfl) ⟨Nat.le_refl _, Nat.le_refl _⟩ dX2_layInterval_70 (fun H locs X => ?_)
      refine lv_goto (tgt := 91) C.hx C.hb dX2_layInterval_73 (by decide) ?_
      exact ret2_v C X (⟨rfl, rfl, rfl, rfl, rfl, rfl, rfl, by unfold lay; rw [if_pos ⟨by omega, by omega⟩]⟩) dX2_layInterval_91
set_option maxHeartbeats 4000000 in
set_option maxRecDepth 100000 in
theorem l2_kbh {p : Program} {l : Launch} {e : Env} {s : State} {m : MethodId} {args : Array Value} {below : List Frame} {meth : Method} {c : Code} {E : Gq} {A : Nat → Prop} {z : Nat → Nat} {v : Nat → Int32} {kd : Nat} {K : List Int64} {L N S P : List Nat} {a0 most half start : Nat} (C : Cx E p s m args meth c cX2_keptByHalving 7 (some .int) RX2 A) (X : X2w E A z v kd K L N S P s s.heap []) (hL : L.sum ≤ 2 ^ 20) (hst : start ≤ 2 ^ 20) (hm : most ≤ 2 ^ 20) (hh : half ≤ 2 ^ 20) {r0 : Nat} : ∀ (n kept tog : Nat), most ≤ kept + n → kept ≤ 2 ^ 20 + 1 → tog ≤ 2 ^ 20 → kbl L start most half n kept tog = r0 → ∀ ls : Array Slot, lv_has ls 7 [(6, .int (nI tog)), (5, .int (nI kept)), (4, .int (nI half)), (3, .int (nI most)), (2, .int (nI start)), (0, .ref (z 0))] → W p l e (Rm 3 0 0) s m args below meth c s.heap [] 0 0 (MQ below (Qr (fun r => r = some (.int (nI r0)))) args s 0 0 (fun _ => False)) (F0 m 43 ls []) := by
  intro n
  induction n with
  | zero =>
    intro kept tog h1 h2 h3 hr ls hl
    refine lv_iload C.hx C.hb dX2_keptByHalving_43 (lv_at hl 1 rfl) ?_
    refine lv_iload_n C.hx C.hb dX2_keptByHalving_45 rfl (lv_at hl 3 rfl) ?_
    refine n_icmp_ge (tgt := 90) C dX2_keptByHalving_46 (by decide) (by omega) (by omega) (fun c46 => ?_) (fun c46 => ?_)
    · refine lv_iload C.hx C.hb dX2_keptByHalving_90 (lv_at hl 1 rfl) ?_
      exact ret_ir C (by rw [← hr]; rfl) dX2_keptByHalving_92
    · omega
  | succ n ih =>
    intro kept tog h1 h2 h3 hr ls hl
    have hg := getD_le L (start + kept)
    simp only [kbl] at hr
    refine lv_iload C.hx C.hb dX2_keptByHalving_43 (lv_at hl 1 rfl) ?_
    refine lv_iload_n C.hx C.hb dX2_keptByHalving_45 rfl (lv_at hl 3 rfl) ?_
    refine n_icmp_ge (tgt := 90) C dX2_keptByHalving_46 (by decide) (by omega) (by omega) (fun c46 => ?_) (fun c46 => ?_)
    · refine lv_iload C.hx C.hb dX2_keptByHalving_90 (lv_at hl 1 rfl) ?_
      exact ret_ir C (by rw [if_neg (fun h => by omega)] at hr; rw [← hr]) dX2_keptByHalving_92
    · refine lv_iload C.hx C.hb dX2_keptByHalving_49 (lv_at hl 0 rfl) ?_
      refine lv_aload_n C.hx C.hb dX2_keptByHalving_51 rfl (lv_at hl 5 rfl) ?_
      refine x2g_5 C X dX2_keptByHalving_52 ?_
      refine lv_iload_n C.hx C.hb dX2_keptByHalving_55 rfl (lv_at hl 4 rfl) ?_
      refine lv_iload C.hx C.hb dX2_keptByHalving_56 (lv_at hl 1 rfl) ?_
      refine n_add C dX2_keptByHalving_58 ?_
      refine x2_intAt_2 C X (by omega) ⟨by decide, by decide⟩ hl.1 (Nat.le_of_ble_eq_true rfl) ⟨Nat.le_refl _, Nat.le_refl _⟩ dX2_keptByHalving_59 ?_
      refine n_add C dX2_keptByHalving_62 ?_
      refine lv_iload C.hx C.hb dX2_keptByHalving_63 (lv_at hl 2 rfl) ?_
      refine n_icmp_gt (tgt := 90) C dX2_keptByHalving_65 (by decide) (by omega) (by omega) (fun c65 => ?_) (fun c65 => ?_)
      · refine lv_iload C.hx C.hb dX2_keptByHalving_90 (lv_at hl 1 rfl) ?_
        exact ret_ir C (by rw [if_neg (fun h => by omega)] at hr; rw [← hr]) dX2_keptByHalving_92
      · refine lv_iload C.hx C.hb dX2_keptByHalving_68 (lv_at hl 0 rfl) ?_
        refine lv_aload_n C.hx C.hb dX2_keptByHalving_70 rfl (lv_at hl 5 rfl) ?_
        refine x2g_5 C X dX2_keptByHalving_71 ?_
        refine lv_iload_n C.hx C.hb dX2_keptByHalving_74 rfl (lv_at hl 4 rfl) ?_
        refine lv_iload C.hx C.hb dX2_keptByHalving_75 (lv_at hl 1 rfl) ?_
        refine n_add C dX2_keptByHalving_77 ?_
        refine x2_intAt_2 C X (by omega) ⟨by decide, by decide⟩ hl.1 (Nat.le_of_ble_eq_true rfl) ⟨Nat.le_refl _, Nat.le_refl _⟩ dX2_keptByHalving_78 ?_
        refine n_add C dX2_keptByHalving_81 ?_
        refine lv_istore (lv' := [(6, .int (nI (tog + (L.getD (start + kept) 0)))), (5, .int (nI (kept))), (4, .int (nI (half))), (3, .int (nI (most))), (2, .int (nI (start))), (0, .ref (z 0))]) C.hx C.hb dX2_keptByHalving_82 hl (by decide) rfl (fun ls hl => ?_)
        refine lv_iinc (v := nI (kept + 1)) (lv' := [(5, .int (nI (kept + 1))), (6, .int (nI (tog + (L.getD (start + kept) 0)))), (4, .int (nI (half))), (3, .int (nI (most))), (2, .int (nI (start))), (0, .ref (z 0))]) C.hx C.hb dX2_keptByHalving_84 hl (k := 1) rfl (nI_1 _) (by decide) rfl (fun ls hl => ?_)
        refine lv_goto (tgt := 43) C.hx C.hb dX2_keptByHalving_87 (by decide) ?_
        exact ih (kept + 1) (tog + L.getD (start + kept) 0) (by omega) (by omega) (by omega) (by rw [if_pos ⟨by omega, by omega⟩] at hr; exact hr) ls (lv_sub hl [1, 0, 2, 3, 4, 5] rfl)
set_option maxHeartbeats 4000000 in
set_option maxRecDepth 100000 in
/-- how many an interval keeps -/
theorem c2_keptByHalving {l : Launch} {E : Gq} {z : Nat → Nat} {v : Nat → Int32} {kd : Nat} {K : List Int64} {L N S P : List Nat} {i : Nat} (hi : i ≤ 2 ^ 20) (hS : S.sum ≤ 2 ^ 20) (hL : L.sum ≤ 2 ^ 20) (hone : 1 ≤ S.getD i 0) : M2r l E yX2_keptByHalving cX2_keptByHalving 7 (some .int) 3 [.ref (z 0), .int (nI (i))] z v kd K L N S P (fun r => r = some (.int (nI (kbh L S i)))) := by
  intro f hf
  obtain ⟨b1, b2, b3, b4, b5⟩ := hf.lens
  refine mk_r (by decide) (Nat.le_of_ble_eq_true rfl) ?_
  intro p e s m below meth c ls C Wd hl
  have X : X2w E _ z v kd K L N S P s s.heap [] := ⟨f, Wd, hf⟩
  have hl : lv_has ls 7 [(0, .ref (z 0)), (1, .int (nI (i)))] := hl
  have q1 := sm0_get S i
  have q2 : lin L S i ≤ L.sum := sm_le _ _ _
  have q3 := getD_le L (sm S 0 i)
  refine lv_aload_n C.hx C.hb dX2_keptByHalving_0 rfl (lv_at hl 0 rfl) ?_
  refine x2g_7 C X dX2_keptByHalving_1 ?_
  refine lv_iconst (v := nI (0)) C.hx C.hb dX2_keptByHalving_4 (by decide) ?_
  refine lv_iload_n C.hx C.hb dX2_keptByHalving_5 rfl (lv_at hl 1 rfl) ?_
  refine x2_sum_4 C X (by omega) (by omega) ⟨by decide, by decide⟩ hl.1 (Nat.le_of_ble_eq_true rfl) ⟨Nat.le_refl _, Nat.le_refl _⟩ dX2_keptByHalving_6 ?_
  refine lv_istore_n (lv' := [(2, .int (nI (sm S 0 i))), (0, .ref (z 0)), (1, .int (nI (i)))]) C.hx C.hb dX2_keptByHalving_9 rfl hl (by decide) rfl (fun ls hl => ?_)
  refine lv_aload_n C.hx C.hb dX2_keptByHalving_10 rfl (lv_at hl 1 rfl) ?_
  refine x2g_7 C X dX2_keptByHalving_11 ?_
  refine lv_iload_n C.hx C.hb dX2_keptByHalving_14 rfl (lv_at hl 2 rfl) ?_
  refine x2_intAt_4 C X (by omega) ⟨by decide, by decide⟩ hl.1 (Nat.le_of_ble_eq_true rfl) ⟨Nat.le_refl _, Nat.le_refl _⟩ dX2_keptByHalving_15 ?_
  refine lv_iconst (v := nI (1)) C.hx C.hb dX2_keptByHalving_18 (by decide) ?_
  refine n_sub C dX2_keptByHalving_19 (by omega) ?_
  refine lv_istore_n (lv' := [(3, .int (nI ((S.getD i 0) - 1))), (2, .int (nI (sm S 0 i))), (0, .ref (z 0)), (1, .int (nI (i)))]) C.hx C.hb dX2_keptByHalving_20 rfl hl (by decide) rfl (fun ls hl => ?_)
  refine lv_aload_n C.hx C.hb dX2_keptByHalving_21 rfl (lv_at hl 2 rfl) ?_
  refine lv_iload_n C.hx C.hb dX2_keptByHalving_22 rfl (lv_at hl 3 rfl) ?_
  refine x2_cr (As := [.int (nI (i))]) (rest := []) C X (c2_lengthsIn (i := i) (by omega) (by omega)) wy_X2_lengthsIn ts_10 tw_154 rfl ⟨by decide, by decide⟩ rfl hl.1 rfl (Nat.le_of_ble_eq_true rfl) ⟨Nat.le_refl _, Nat.le_refl _⟩ dX2_keptByHalving_23 (fun r hp => ?_)
  subst hp
  refine W.eq (g2 := F0 m 26 ls [.int (nI (lin L S i))]) rfl ?_
  refine lv_iconst (v := nI (2)) C.hx C.hb dX2_keptByHalving_26 (by decide) ?_
  refine n_div C dX2_keptByHalving_27 (by omega) (by omega) (by omega) ?_
  refine lv_istore (lv' := [(4, .int (nI ((lin L S i) / 2))), (3, .int (nI ((S.getD i 0) - 1))), (2, .int (nI (sm S 0 i))), (0, .ref (z 0)), (1, .int (nI (i)))]) C.hx C.hb dX2_keptByHalving_28 hl (by decide) rfl (fun ls hl => ?_)
  refine lv_iconst (v := nI (1)) C.hx C.hb dX2_keptByHalving_30 (by decide) ?_
  refine lv_istore (lv' := [(5, .int (nI (1))), (4, .int (nI ((lin L S i) / 2))), (3, .int (nI ((S.getD i 0) - 1))), (2, .int (nI (sm S 0 i))), (0, .ref (z 0)), (1, .int (nI (i)))]) C.hx C.hb dX2_keptByHalving_31 hl (by decide) rfl (fun ls hl => ?_)
  refine lv_aload_n C.hx C.hb dX2_keptByHalving_33 rfl (lv_at hl 4 rfl) ?_
  refine x2g_5 C X dX2_keptByHalving_34 ?_
  refine lv_iload_n C.hx C.hb dX2_keptByHalving_37 rfl (lv_at hl 3 rfl) ?_
  refine x2_intAt_2 C X (by omega) ⟨by decide, by decide⟩ hl.1 (Nat.le_of_ble_eq_true rfl) ⟨Nat.le_refl _, Nat.le_refl _⟩ dX2_keptByHalving_38 ?_
  refine lv_istore (lv' := [(6, .int (nI (L.getD (sm S 0 i) 0))), (5, .int (nI (1))), (4, .int (nI ((lin L S i) / 2))), (3, .int (nI ((S.getD i 0) - 1))), (2, .int (nI (sm S 0 i))), (0, .ref (z 0)), (1, .int (nI (i)))]) C.hx C.hb dX2_keptByHalving_41 hl (by decide) rfl (fun ls hl => ?_)
  exact l2_kbh (a0 := 0) C X hL (by omega) (by omega) (by omega) (S.getD i 0) 1 _ (by omega) (by omega) (by omega) rfl ls (lv_sub hl [0, 1, 2, 3, 4, 5] rfl)
set_option maxHeartbeats 4000000 in
set_option maxRecDepth 100000 in
/-- an interval splits -/
theorem c2_halveInterval {l : Launch} {E : Gq} {z : Nat → Nat} {v : Nat → Int32} {kd : Nat} {K : List Int64} {L N S P : List Nat} {i num : Nat} (hi : i < S.length) (hN : N.length = S.length) (hSl : S.length < 601) (hS : S.sum ≤ 2 ^ 20) (hL : L.sum ≤ 2 ^ 20) (hP : P.sum ≤ 2 ^ 20) (hp0 : 0 < P.length) (htwo : 2 ≤ S.getD i 0) (hnum : num < 2 ^ 31) : M2w l E yX2_halveInterval cX2_halveInterval 5 none 4 [.ref (z 0), .int (nI (i)), .int (nI (num))] z v kd K L N S P (fun r v' kd' K' L' N' S' P' => none = r ∧ upd v 15 (v 15 + nI 1) = v' ∧ kd = kd' ∧ K = K' ∧ L = L' ∧ ins N (i + 1) num = N' ∧ ins (S.set i (S.getD i 0 - (S.getD i 0 - kbh L S i))) (i + 1) (S.getD i 0 - kbh L S i) = S' ∧ P.set (gOf P i) (P.getD (gOf P i) 0 + 1) = P') := by
  intro f hf
  obtain ⟨b1, b2, b3, b4, b5⟩ := hf.lens
  refine mk_w (by decide) (Nat.le_of_ble_eq_true rfl) ?_
  intro p e s m below meth c ls C Wd hl
  have X : X2w E _ z v kd K L N S P s s.heap [] := ⟨f, Wd, hf⟩
  have hl : lv_has ls 5 [(0, .ref (z 0)), (1, .int (nI (i))), (2, .int (nI (num)))] := hl
  have q1 := getD_le S i
  have q2 : kbh L S i ≤ S.getD i 0 - 1 := kbl_le _ _ _ _ _ _ _ (by omega)
  have har := gOf_lt (L := P) (m := i) hp0
  have hsl : (S.set i (S.getD i 0 - (S.getD i 0 - kbh L S i))).length = S.length := List.length_set ..
  refine lv_aload_n C.hx C.hb dX2_halveInterval_0 rfl (lv_at hl 0 rfl) ?_
  refine lv_iload_n C.hx C.hb dX2_halveInterval_1 rfl (lv_at hl 1 rfl) ?_
  refine x2_cr (As := [.int (nI (i))]) (rest := []) C X (c2_keptByHalving (i := i) (by omega) (by omega) (by omega) (by omega)) wy_X2_keptByHalving ts_19 tw_194 rfl ⟨by decide, by decide⟩ rfl hl.1 rfl (Nat.le_of_ble_eq_true rfl) ⟨Nat.le_refl _, Nat.le_refl _⟩ dX2_halveInterval_2 (fun r hp => ?_)
  subst hp
  refine W.eq (g2 := F0 m 5 ls [.int (nI (kbh L S i))]) rfl ?_
  refine lv_istore_n (lv' := [(3, .int (nI (kbh L S i))), (0, .ref (z 0)), (1, .int (nI (i))), (2, .int (nI (num)))]) C.hx C.hb dX2_halveInterval_5 rfl hl (by decide) rfl (fun ls hl => ?_)
  refine lv_aload_n C.hx C.hb dX2_halveInterval_6 rfl (lv_at hl 1 rfl) ?_
  refine x2g_7 C X dX2_halveInterval_7 ?_
  refine lv_iload_n C.hx C.hb dX2_halveInterval_10 rfl (lv_at hl 2 rfl) ?_
  refine x2_intAt_4 C X (by omega) ⟨by decide, by decide⟩ hl.1 (Nat.le_of_ble_eq_true rfl) ⟨Nat.le_refl _, Nat.le_refl _⟩ dX2_halveInterval_11 ?_
  refine lv_iload_n C.hx C.hb dX2_halveInterval_14 rfl (lv_at hl 0 rfl) ?_
  refine n_sub C dX2_halveInterval_15 (by omega) ?_
  refine lv_istore (lv' := [(4, .int (nI ((S.getD i 0) - (kbh L S i)))), (3, .int (nI (kbh L S i))), (0, .ref (z 0)), (1, .int (nI (i))), (2, .int (nI (num)))]) C.hx C.hb dX2_halveInterval_16 hl (by decide) rfl (fun ls hl => ?_)
  refine lv_aload_n C.hx C.hb dX2_halveInterval_18 rfl (lv_at hl 2 rfl) ?_
  refine x2g_7 C X dX2_halveInterval_19 ?_
  refine lv_iload_n C.hx C.hb dX2_halveInterval_22 rfl (lv_at hl 3 rfl) ?_
  refine lv_iload C.hx C.hb dX2_halveInterval_23 (lv_at hl 0 rfl) ?_
  refine lv_ineg C.hx C.hb dX2_halveInterval_25 ?_
  refine x2_raiseDn_4 C X (q := (S.getD i 0) - (kbh L S i)) rfl (by omega) (by omega) (by omega) ⟨by decide, by decide⟩ hl.1 (Nat.le_of_ble_eq_true rfl) ⟨Nat.le_refl _, Nat.le_refl _⟩ dX2_halveInterval_26 (fun H locs X => ?_)
  refine lv_aload_n C.hx C.hb dX2_halveInterval_29 rfl (lv_at hl 2 rfl) ?_
  refine lv_iload_n C.hx C.hb dX2_halveInterval_30 rfl (lv_at hl 3 rfl) ?_
  refine lv_iconst (v := nI (1)) C.hx C.hb dX2_halveInterval_31 (by decide) ?_
  refine n_add C dX2_halveInterval_32 ?_
  refine lv_aload_n C.hx C.hb dX2_halveInterval_33 rfl (lv_at hl 2 rfl) ?_
  refine x2g_8 C X dX2_halveInterval_34 ?_
  refine lv_iload_n C.hx C.hb dX2_halveInterval_37 rfl (lv_at hl 3 rfl) ?_
  refine x2_groupOf_5 C X (by omega) (by omega) ⟨by decide, by decide⟩ hl.1 (Nat.le_of_ble_eq_true rfl) ⟨Nat.le_refl _, Nat.le_refl _⟩ dX2_halveInterval_38 ?_
  refine lv_iload_n C.hx C.hb dX2_halveInterval_41 rfl (lv_at hl 4 rfl) ?_
  refine lv_iload C.hx C.hb dX2_halveInterval_42 (lv_at hl 0 rfl) ?_
  refine x2_cw (As := [.int (nI (i + 1)), .int (nI (gOf P i)), .int (nI (num)), .int (nI ((S.getD i 0) - (kbh L S i)))]) (rest := []) C X (c2_insertInterval (at_ := (i + 1)) (ar := (gOf P i)) (num := num) (sz := ((S.getD i 0) - (kbh L S i))) (by omega) (by omega) (by omega) (by omega) (by omega) (by omega) (by omega)) wy_X2_insertInterval ts_16 tw_182 rfl ⟨by decide, by decide⟩ rfl hl.1 rfl (Nat.le_of_ble_eq_true rfl) ⟨Nat.le_refl _, Nat.le_refl _⟩ dX2_halveInterval_44 (fun r v' kd' K' L' N' S' P' H locs hp X => ?_)
  obtain ⟨rfl, rfl, rfl, rfl, rfl, rfl, rfl, rfl⟩ := hp
  refine W.eq (g2 := F0 m 47 ls []) rfl ?_
  refine lv_aload_n C.hx C.hb dX2_halveInterval_47 rfl (lv_at hl 2 rfl) ?_
  refine lv_dup C.hx C.hb dX2_halveInterval_48 rfl ?_
  refine x2g_15 C X (x := v 15) rfl dX2_halveInterval_49 ?_
  refine lv_iconst (v := nI (1)) C.hx C.hb dX2_halveInterval_52 (by decide) ?_
  refine lv_iadd C.hx C.hb dX2_halveInterval_53 ?_
  refine x2p_15 C X dX2_halveInterval_54 (fun H locs X => ?_)
  exact ret2_v C X (⟨rfl, rfl, rfl, rfl, rfl, rfl, rfl, rfl⟩) dX2_halveInterval_57
/-- where the interval of its own comes -/
def ownAt (K : List Int64) (S : List Nat) (key : Int64) (i : Nat) : Nat := if K.getD (sm S 0 i) 0 < key then i + 1 else i
set_option maxHeartbeats 4000000 in
set_option maxRecDepth 100000 in
/-- a record gets an interval of its own -/
theorem c2_giveOwnInterval {l : Launch} {E : Gq} {z : Nat → Nat} {v : Nat → Int32} {kd : Nat} {K : List Int64} {L N S P : List Nat} {i len nx : Nat} {key : Int64} (hv9 : v 9 = nI nx) (hnx : nx < 2 ^ 31) (hi : i < S.length) (hN : N.length = S.length) (hSl : S.length < 601) (hS : S.sum ≤ 2 ^ 20) (hP : P.sum ≤ 2 ^ 20) (hp0 : 0 < P.length) (hk : K.length < 600) (hL : L.length = K.length) (hlen : len < 2 ^ 31) : M2w l E yX2_giveOwnInterval cX2_giveOwnInterval 7 none 3 [.ref (z 0), .int (nI (i)), .long (key), .int (nI (len))] z v kd K L N S P (fun r v' kd' K' L' N' S' P' => none = r ∧ upd (upd v 9 (nI (nx + 1))) 15 (v 15 + nI 1) = v' ∧ kd = kd' ∧ ins K (ngt K key) key = K' ∧ ins L (ngt K key) len = L' ∧ ins N (ownAt K S key i) nx = N' ∧ (ins S (ownAt K S key i) 0).set (ownAt K S key i) ((ins S (ownAt K S key i) 0).getD (ownAt K S key i) 0 + 1) = S' ∧ P.set (gOf P i) (P.getD (gOf P i) 0 + 1) = P') := by
  intro f hf
  obtain ⟨b1, b2, b3, b4, b5⟩ := hf.lens
  refine mk_w (by decide) (Nat.le_of_ble_eq_true rfl) ?_
  intro p e s m below meth c ls C Wd hl
  have X : X2w E _ z v kd K L N S P s s.heap [] := ⟨f, Wd, hf⟩
  have hl : lv_has ls 7 [(0, .ref (z 0)), (1, .int (nI (i))), (2, .long (key)), (4, .int (nI (len)))] := hl
  have q1 := sm0_get S i
  have har := gOf_lt (L := P) (m := i) hp0
  have e1 := ins_len (L := S) (j := i + 1) (x := 0) (by omega)
  have e2 := ins_len (L := S) (j := i) (x := 0) (by omega)
  refine lv_lload_n C.hx C.hb dX2_giveOwnInterval_0 rfl (lv_at hl 2 rfl) ?_
  refine lv_aload_n C.hx C.hb dX2_giveOwnInterval_1 rfl (lv_at hl 0 rfl) ?_
  refine x2g_4 C X dX2_giveOwnInterval_2 ?_
  refine lv_aload_n C.hx C.hb dX2_giveOwnInterval_5 rfl (lv_at hl 0 rfl) ?_
  refine x2g_7 C X dX2_giveOwnInterval_6 ?_
  refine lv_iconst (v := nI (0)) C.hx C.hb dX2_giveOwnInterval_9 (by decide) ?_
  refine lv_iload_n C.hx C.hb dX2_giveOwnInterval_10 rfl (lv_at hl 1 rfl) ?_
  refine x2_sum_4 C X (by omega) (by omega) ⟨by decide, by decide⟩ hl.1 (Nat.le_of_ble_eq_true rfl) ⟨Nat.le_refl _, Nat.le_refl _⟩ dX2_giveOwnInterval_11 ?_
  refine x2_at C X ⟨by decide, by decide⟩ hl.1 (Nat.le_of_ble_eq_true rfl) ⟨Nat.le_refl _, Nat.le_refl _⟩ dX2_giveOwnInterval_14 ?_
  refine n_rel (lAt_n (by omega)) ?_
  refine n_lcmp_le (tgt := 25) C dX2_giveOwnInterval_17 dX2_giveOwnInterval_18 (by decide) (fun c17 => ?_) (fun c17 => ?_)
  · refine lv_iconst (v := nI (0)) C.hx C.hb dX2_giveOwnInterval_25 (by decide) ?_
    refine lv_istore (lv' := [(5, .int (nI (0))), (0, .ref (z 0)), (1, .int (nI (i))), (2, .long (key)), (4, .int (nI (len)))]) C.hx C.hb dX2_giveOwnInterval_26 hl (by decide) rfl (fun ls hl => ?_)
    refine lv_iload C.hx C.hb dX2_giveOwnInterval_28 (lv_at hl 0 rfl) ?_
    refine n_if_eq (tgt := 39) C dX2_giveOwnInterval_30 (by decide) (by decide) (fun _ => ?_) (fun h => absurd h (by decide))
    refine lv_iload_n C.hx C.hb dX2_giveOwnInterval_39 rfl (lv_at hl 2 rfl) ?_
    refine lv_istore (lv' := [(6, .int (nI (i))), (5, .int (nI (0))), (0, .ref (z 0)), (1, .int (nI (i))), (2, .long (key)), (4, .int (nI (len)))]) C.hx C.hb dX2_giveOwnInterval_40 hl (by decide) rfl (fun ls hl => ?_)
    refine lv_aload_n C.hx C.hb dX2_giveOwnInterval_42 rfl (lv_at hl 2 rfl) ?_
    refine lv_iload C.hx C.hb dX2_giveOwnInterval_43 (lv_at hl 0 rfl) ?_
    refine lv_aload_n C.hx C.hb dX2_giveOwnInterval_45 rfl (lv_at hl 2 rfl) ?_
    refine x2g_8 C X dX2_giveOwnInterval_46 ?_
    refine lv_iload_n C.hx C.hb dX2_giveOwnInterval_49 rfl (lv_at hl 3 rfl) ?_
    refine x2_groupOf_5 C X (by omega) (by omega) ⟨by decide, by decide⟩ hl.1 (Nat.le_of_ble_eq_true rfl) ⟨Nat.le_refl _, Nat.le_refl _⟩ dX2_giveOwnInterval_50 ?_
    refine lv_aload_n C.hx C.hb dX2_giveOwnInterval_53 rfl (lv_at hl 2 rfl) ?_
    refine x2_cw (As := []) (rest := [.int (nI (gOf P i)), .int (nI (i)), .ref (z 0)]) C X (c2_takeNumber (nx := nx) hv9) wy_X2_takeNumber ts_1 tw_52 rfl ⟨by decide, by decide⟩ rfl hl.1 rfl (Nat.le_of_ble_eq_true rfl) ⟨Nat.le_refl _, Nat.le_refl _⟩ dX2_giveOwnInterval_54 (fun r v' kd' K' L' N' S' P' H locs hp X => ?_)
    obtain ⟨rfl, rfl, rfl, rfl, rfl, rfl, rfl, rfl⟩ := hp
    refine W.eq (g2 := F0 m 57 ls [.int (nI (nx)), .int (nI (gOf P i)), .int (nI (i)), .ref (z 0)]) rfl ?_
    refine lv_iconst (v := nI (0)) C.hx C.hb dX2_giveOwnInterval_57 (by decide) ?_
    refine x2_cw (As := [.int (nI (i)), .int (nI (gOf P i)), .int (nI (nx)), .int (nI (0))]) (rest := []) C X (c2_insertInterval (at_ := i) (ar := (gOf P i)) (num := nx) (sz := 0) (by omega) (by omega) (by omega) (by omega) (by omega) (by omega) (by omega)) wy_X2_insertInterval ts_16 tw_182 rfl ⟨by decide, by decide⟩ rfl hl.1 rfl (Nat.le_of_ble_eq_true rfl) ⟨Nat.le_refl _, Nat.le_refl _⟩ dX2_giveOwnInterval_58 (fun r v' kd' K' L' N' S' P' H locs hp X => ?_)
    obtain ⟨rfl, rfl, rfl, rfl, rfl, rfl, rfl, rfl⟩ := hp
    refine W.eq (g2 := F0 m 61 ls []) rfl ?_
    refine lv_aload_n C.hx C.hb dX2_giveOwnInterval_61 rfl (lv_at hl 2 rfl) ?_
    refine lv_iload C.hx C.hb dX2_giveOwnInterval_62 (lv_at hl 0 rfl) ?_
    refine lv_lload_n C.hx C.hb dX2_giveOwnInterval_64 rfl (lv_at hl 4 rfl) ?_
    refine lv_iload C.hx C.hb dX2_giveOwnInterval_65 (lv_at hl 5 rfl) ?_
    refine x2_cw (As := [.int (nI (i)), .long (key), .int (nI (len))]) (rest := []) C X (c2_insertRecord (i := i) (key := key) (len := len) (by omega) (by omega) (by omega) (by omega)) wy_X2_insertRecord ts_12 tw_162 rfl ⟨by decide, by decide⟩ rfl hl.1 rfl (Nat.le_of_ble_eq_true rfl) ⟨Nat.le_refl _, Nat.le_refl _⟩ dX2_giveOwnInterval_67 (fun r v' kd' K' L' N' S' P' H locs hp X => ?_)
    obtain ⟨rfl, rfl, rfl, rfl, rfl, rfl, rfl, rfl⟩ := hp
    refine W.eq (g2 := F0 m 70 ls []) rfl ?_
    refine lv_aload_n C.hx C.hb dX2_giveOwnInterval_70 rfl (lv_at hl 2 rfl) ?_
    refine lv_dup C.hx C.hb dX2_giveOwnInterval_71 rfl ?_
    refine x2g_15 C X (x := (upd v 9 (nI (nx + 1))) 15) rfl dX2_giveOwnInterval_72 ?_
    refine lv_iconst (v := nI (1)) C.hx C.hb dX2_giveOwnInterval_75 (by decide) ?_
    refine lv_iadd C.hx C.hb dX2_giveOwnInterval_76 ?_
    refine x2p_15 C X dX2_giveOwnInterval_77 (fun H locs X => ?_)
    exact ret2_v C X (by have e : ownAt K S key i = i := (by unfold ownAt; rw [if_neg (Int64.not_lt.mpr c17)]); rw [e]; exact ⟨rfl, rfl, rfl, rfl, rfl, rfl, rfl, rfl⟩) dX2_giveOwnInterval_80
  · refine lv_iconst (v := nI (1)) C.hx C.hb dX2_giveOwnInterval_21 (by decide) ?_
    refine lv_goto (tgt := 26) C.hx C.hb dX2_giveOwnInterval_22 (by decide) ?_
    refine lv_istore (lv' := [(5, .int (nI (1))), (0, .ref (z 0)), (1, .int (nI (i))), (2, .long (key)), (4, .int (nI (len)))]) C.hx C.hb dX2_giveOwnInterval_26 hl (by decide) rfl (fun ls hl => ?_)
    refine lv_iload C.hx C.hb dX2_giveOwnInterval_28 (lv_at hl 0 rfl) ?_
    refine n_if_eq (tgt := 39) C dX2_giveOwnInterval_30 (by decide) (by decide) (fun h => absurd h (by decide)) (fun _ => ?_)
    refine lv_iload_n C.hx C.hb dX2_giveOwnInterval_33 rfl (lv_at hl 2 rfl) ?_
    refine lv_iconst (v := nI (1)) C.hx C.hb dX2_giveOwnInterval_34 (by decide) ?_
    refine n_add C dX2_giveOwnInterval_35 ?_
    refine lv_goto (tgt := 40) C.hx C.hb dX2_giveOwnInterval_36 (by decide) ?_
    refine lv_istore (lv' := [(6, .int (nI (i + 1))), (5, .int (nI (1))), (0, .ref (z 0)), (1, .int (nI (i))), (2, .long (key)), (4, .int (nI (len)))]) C.hx C.hb dX2_giveOwnInterval_40 hl (by decide) rfl (fun ls hl => ?_)
    refine lv_aload_n C.hx C.hb dX2_giveOwnInterval_42 rfl (lv_at hl 2 rfl) ?_
    refine lv_iload C.hx C.hb dX2_giveOwnInterval_43 (lv_at hl 0 rfl) ?_
    refine lv_aload_n C.hx C.hb dX2_giveOwnInterval_45 rfl (lv_at hl 2 rfl) ?_
    refine x2g_8 C X dX2_giveOwnInterval_46 ?_
    refine lv_iload_n C.hx C.hb dX2_giveOwnInterval_49 rfl (lv_at hl 3 rfl) ?_
    refine x2_groupOf_5 C X (by omega) (by omega) ⟨by decide, by decide⟩ hl.1 (Nat.le_of_ble_eq_true rfl) ⟨Nat.le_refl _, Nat.le_refl _⟩ dX2_giveOwnInterval_50 ?_
    refine lv_aload_n C.hx C.hb dX2_giveOwnInterval_53 rfl (lv_at hl 2 rfl) ?_
    refine x2_cw (As := []) (rest := [.int (nI (gOf P i)), .int (nI (i + 1)), .ref (z 0)]) C X (c2_takeNumber (nx := nx) hv9) wy_X2_takeNumber ts_1 tw_52 rfl ⟨by decide, by decide⟩ rfl hl.1 rfl (Nat.le_of_ble_eq_true rfl) ⟨Nat.le_refl _, Nat.le_refl _⟩ dX2_giveOwnInterval_54 (fun r v' kd' K' L' N' S' P' H locs hp X => ?_)
    obtain ⟨rfl, rfl, rfl, rfl, rfl, rfl, rfl, rfl⟩ := hp
    refine W.eq (g2 := F0 m 57 ls [.int (nI (nx)), .int (nI (gOf P i)), .int (nI (i + 1)), .ref (z 0)]) rfl ?_
    refine lv_iconst (v := nI (0)) C.hx C.hb dX2_giveOwnInterval_57 (by decide) ?_
    refine x2_cw (As := [.int (nI (i + 1)), .int (nI (gOf P i)), .int (nI (nx)), .int (nI (0))]) (rest := []) C X (c2_insertInterval (at_ := (i + 1)) (ar := (gOf P i)) (num := nx) (sz := 0) (by omega) (by omega) (by omega) (by omega) (by omega) (by omega) (by omega)) wy_X2_insertInterval ts_16 tw_182 rfl ⟨by decide, by decide⟩ rfl hl.1 rfl (Nat.le_of_ble_eq_true rfl) ⟨Nat.le_refl _, Nat.le_refl _⟩ dX2_giveOwnInterval_58 (fun r v' kd' K' L' N' S' P' H locs hp X => ?_)
    obtain ⟨rfl, rfl, rfl, rfl, rfl, rfl, rfl, rfl⟩ := hp
    refine W.eq (g2 := F0 m 61 ls []) rfl ?_
    refine lv_aload_n C.hx C.hb dX2_giveOwnInterval_61 rfl (lv_at hl 2 rfl) ?_
    refine lv_iload C.hx C.hb dX2_giveOwnInterval_62 (lv_at hl 0 rfl) ?_
    refine lv_lload_n C.hx C.hb dX2_giveOwnInterval_64 rfl (lv_at hl 4 rfl) ?_
    refine lv_iload C.hx C.hb dX2_giveOwnInterval_65 (lv_at hl 5 rfl) ?_
    refine x2_cw (As := [.int (nI (i + 1)), .long (key), .int (nI (len))]) (rest := []) C X (c2_insertRecord (i := i + 1) (key := key) (len := len) (by omega) (by omega) (by omega) (by omega)) wy_X2_insertRecord ts_12 tw_162 rfl ⟨by decide, by decide⟩ rfl hl.1 rfl (Nat.le_of_ble_eq_true rfl) ⟨Nat.le_refl _, Nat.le_refl _⟩ dX2_giveOwnInterval_67 (fun r v' kd' K' L' N' S' P' H locs hp X => ?_)
    obtain ⟨rfl, rfl, rfl, rfl, rfl, rfl, rfl, rfl⟩ := hp
    refine W.eq (g2 := F0 m 70 ls []) rfl ?_
    refine lv_aload_n C.hx C.hb dX2_giveOwnInterval_70 rfl (lv_at hl 2 rfl) ?_
    refine lv_dup C.hx C.hb dX2_giveOwnInterval_71 rfl ?_
    refine x2g_15 C X (x := (upd v 9 (nI (nx + 1))) 15) rfl dX2_giveOwnInterval_72 ?_
    refine lv_iconst (v := nI (1)) C.hx C.hb dX2_giveOwnInterval_75 (by decide) ?_
    refine lv_iadd C.hx C.hb dX2_giveOwnInterval_76 ?_
    refine x2p_15 C X dX2_giveOwnInterval_77 (fun H locs X => ?_)
    exact ret2_v C X (by have e : ownAt K S key i = i + 1 := (by unfold ownAt; rw [if_pos c17]); rw [e]; exact ⟨rfl, rfl, rfl, rfl, rfl, rfl, rfl, rfl⟩) dX2_giveOwnInterval_80
end
section
/-! lists of naturals: sums under a change; what the class's rows keep (J2); place as a function -/
theorem ins_sum (L : List Nat) (j x : Nat) : (ins L j x).sum = L.sum + x := by
  have h := sum_split L j
  unfold ins
  rw [List.sum_append, List.sum_cons]
  omega
theorem set_sum {L : List Nat} {j x : Nat} (h : j < L.length) : (L.set j x).sum + L.getD j 0 = L.sum + x := by
  have h1 := sum_split L j
  rw [List.drop_eq_getElem_cons h, List.sum_cons] at h1
  rw [List.set_eq_take_append_cons_drop, if_pos h, List.sum_append, List.sum_cons]
  have h2 : L.getD j 0 = L[j] := by simp [List.getD_eq_getElem?_getD, h]
  rw [h2]
  omega
theorem del_sum {L : List Nat} {j : Nat} (h : j < L.length) : (del L j).sum + L.getD j 0 = L.sum := by
  have h1 := sum_split L j
  rw [List.drop_eq_getElem_cons h, List.sum_cons] at h1
  unfold del
  rw [List.sum_append]
  have h2 : L.getD j 0 = L[j] := by simp [List.getD_eq_getElem?_getD, h]
  rw [h2]
  omega
theorem mem_ins {α : Type} {L : List α} {j : Nat} {x y : α} (h : y ∈ ins L j x) : y = x ∨ y ∈ L := by
  unfold ins at h
  rcases List.mem_append.mp h with h | h
  · exact Or.inr (List.mem_of_mem_take h)
  · rcases List.mem_cons.mp h with h | h
    · exact Or.inl h
    · exact Or.inr (List.mem_of_mem_drop h)
theorem mem_del {α : Type} {L : List α} {j : Nat} {y : α} (h : y ∈ del L j) : y ∈ L := by
  unfold del at h
  rcases List.mem_append.mp h with h | h
  · exact List.mem_of_mem_take h
  · exact List.mem_of_mem_drop h
theorem getD_mem {L : List Nat} {j : Nat} (h : j < L.length) : L.getD j 0 ∈ L := by
  have : L.getD j 0 = L[j] := by simp [List.getD_eq_getElem?_getD, h]
  rw [this]
  exact List.getElem_mem h
theorem len_le_sum {L : List Nat} (h : ∀ x ∈ L, 1 ≤ x) : L.length ≤ L.sum := by
  induction L with
  | nil => exact Nat.le_refl _
  | cons x l ih =>
    have h1 := h x List.mem_cons_self
    have h2 := ih (fun y hy => h y (List.mem_cons_of_mem _ hy))
    simp only [List.length_cons, List.sum_cons]
    omega
theorem sum_pos_len {L : List Nat} (h : 0 < L.sum) : 0 < L.length := by
  cases L with
  | nil => simp at h
  | cons x l => simp
/-- what the class's rows keep -/
def J2 (K : List Int64) (L N S P : List Nat) : Prop := L.length = K.length ∧ N.length = S.length ∧ S.sum = K.length ∧ P.sum = S.length ∧ 0 < S.length ∧ (∀ x ∈ P, 1 ≤ x) ∧ (S.length = 1 ∨ ∀ x ∈ S, 1 ≤ x) ∧ L.sum ≤ 2 ^ 20
theorem J2.b {K : List Int64} {L N S P : List Nat} (h : J2 K L N S P) : P.length ≤ S.length ∧ 0 < P.length ∧ S.length ≤ K.length + 1 ∧ (1 ≤ K.length → S.length ≤ K.length) := by
  obtain ⟨h1, h2, h3, h4, h5, h6, h7, h8⟩ := h
  have q1 := len_le_sum h6
  have q2 : 0 < P.length := sum_pos_len (by omega)
  refine ⟨by omega, q2, ?_, ?_⟩
  · rcases h7 with h7 | h7
    · omega
    · have := len_le_sum h7; omega
  · intro hk
    rcases h7 with h7 | h7
    · omega
    · have := len_le_sum h7; omega
theorem J2.area {K : List Int64} {L N S P : List Nat} {a w : Nat} (h : J2 K L N S P) (ha : a < P.length) (hw : 1 ≤ w) (hle : w + 1 ≤ P.getD a 0) : J2 K L N S (ins (P.set a (P.getD a 0 - w)) (a + 1) w) := by
  obtain ⟨h1, h2, h3, h4, h5, h6, h7, h8⟩ := h
  have q := set_sum (x := P.getD a 0 - w) ha
  refine ⟨h1, h2, h3, ?_, h5, ?_, h7, h8⟩
  · rw [ins_sum]; omega
  · intro x hx
    rcases mem_ins hx with hx | hx
    · omega
    · rcases List.mem_or_eq_of_mem_set hx with hx | hx
      · exact h6 x hx
      · omega
theorem J2.halve {K : List Int64} {L N S P : List Nat} {i g num k : Nat} (h : J2 K L N S P) (hi : i < S.length) (hg : g < P.length) (hk : 1 ≤ k) (hle : k + 1 ≤ S.getD i 0) : J2 K L (ins N (i + 1) num) (ins (S.set i (S.getD i 0 - (S.getD i 0 - k))) (i + 1) (S.getD i 0 - k)) (P.set g (P.getD g 0 + 1)) := by
  obtain ⟨h1, h2, h3, h4, h5, h6, h7, h8⟩ := h
  have q := set_sum (x := S.getD i 0 - (S.getD i 0 - k)) hi
  have q2 := set_sum (x := P.getD g 0 + 1) hg
  have q3 : (S.set i (S.getD i 0 - (S.getD i 0 - k))).length = S.length := List.length_set ..
  have q4 := ins_len (L := S.set i (S.getD i 0 - (S.getD i 0 - k))) (j := i + 1) (x := S.getD i 0 - k) (by omega)
  have q5 := ins_len (L := N) (j := i + 1) (x := num) (by omega)
  refine ⟨h1, by omega, ?_, by omega, by omega, ?_, Or.inr ?_, h8⟩
  · rw [ins_sum]; omega
  · intro x hx
    rcases List.mem_or_eq_of_mem_set hx with hx | hx
    · exact h6 x hx
    · omega
  · intro x hx
    rcases mem_ins hx with hx | hx
    · omega
    · rcases List.mem_or_eq_of_mem_set hx with hx | hx
      · rcases h7 with h7 | h7
        · obtain ⟨y, rfl⟩ := List.length_eq_one_iff.mp h7
          have e : i = 0 := by simp at hi; omega
          subst e
          simp at hx
          subst hx
          simp at hle
          omega
        · exact h7 x hx
      · omega
/-- the interval where a key belongs -/
def pIx (K : List Int64) (S : List Nat) (key : Int64) : Nat := gOf S (ngt K key - 1)
/-- putting a record: what is answered (1 put, 0 cut or no end), and all that is there behind it -/
def plc (rm wd : Nat) (key : Int64) (len tc : Nat) : Nat → Nat → (Nat → Int32) → Nat → List Int64 → List Nat → List Nat → List Nat → List Nat → Nat × (Nat → Int32) × Nat × List Int64 × List Nat × List Nat × List Nat × List Nat
  | 0, _, v, kd, K, L, N, S, P => (0, v, kd, K, L, N, S, P)
  | n + 1, nx, v, kd, K, L, N, S, P =>
    if lin L S (pIx K S key) + len ≤ rm then (1, v, kd, ins K (ngt K key) key, ins L (ngt K key) len, N, S.set (pIx K S key) (S.getD (pIx K S key) 0 + 1), P)
    else if tc ≠ 0 then (0, vClose v nx tc (kos P S wd (pIx K S key)) (pIx K S key), kos P S wd (pIx K S key), K, L, N, S, P)
    else if kos P S wd (pIx K S key) = 1 then (1, upd (upd v 9 (nI (nx + 1))) 15 (v 15 + nI 1), kd, ins K (ngt K key) key, ins L (ngt K key) len, ins N (ownAt K S key (pIx K S key)) nx, (ins S (ownAt K S key (pIx K S key)) 0).set (ownAt K S key (pIx K S key)) ((ins S (ownAt K S key (pIx K S key)) 0).getD (ownAt K S key (pIx K S key)) 0 + 1), P.set (gOf P (pIx K S key)) (P.getD (gOf P (pIx K S key)) 0 + 1))
    else if kos P S wd (pIx K S key) = 2 then plc rm wd key len tc n nx (upd v 16 (v 16 + nI 1)) kd K L N S (ins (P.set (gOf P (pIx K S key)) (P.getD (gOf P (pIx K S key)) 0 - wd / 2)) (gOf P (pIx K S key) + 1) (wd / 2))
    else plc rm wd key len tc n (nx + 1) (upd (upd v 9 (nI (nx + 1))) 15 ((upd v 9 (nI (nx + 1))) 15 + nI 1)) kd K L (ins N (pIx K S key + 1) nx) (ins (S.set (pIx K S key) (S.getD (pIx K S key) 0 - (S.getD (pIx K S key) 0 - kbh L S (pIx K S key)))) (pIx K S key + 1) (S.getD (pIx K S key) 0 - kbh L S (pIx K S key))) (P.set (gOf P (pIx K S key)) (P.getD (gOf P (pIx K S key)) 0 + 1))
theorem kbh_b {L S : List Nat} {i : Nat} (h : 2 ≤ S.getD i 0) : 1 ≤ kbh L S i ∧ kbh L S i + 1 ≤ S.getD i 0 := by
  have h1 : 1 ≤ kbh L S i := kbl_ge _ _ _ _ _ _ _
  have h2 : kbh L S i ≤ S.getD i 0 - 1 := kbl_le _ _ _ _ _ _ _ (by omega)
  omega
end
section
set_option maxHeartbeats 4000000 in
set_option maxRecDepth 100000 in
theorem l2_place {p : Program} {l : Launch} {e : Env} {s : State} {m : MethodId} {args : Array Value} {below : List Frame} {meth : Method} {c : Code} {E : Gq} {ws0 : va_W} {z : Nat → Nat} {key : Int64} {rm wd len tc : Nat} {T0 : Nat × (Nat → Int32) × Nat × List Int64 × List Nat × List Nat × List Nat × List Nat} (C : Cx E p s m args meth c cX2_place 7 (some .boolean) RX2 (va_A ws0 s.heap.size)) (hrm : rm ≤ 1000) (hwd : wd ≤ 20) (hw2 : 2 ≤ wd) (hlen : len ≤ 1000) (htc : tc ≤ 4) :
    ∀ (n d nx : Nat) (v : Nat → Int32) (kd : Nat) (K : List Int64) (L N S P : List Nat) (H : Heap) (locs : List Loc), d + n = 2400 → J2 K L N S P → K.length < 600 → nx + n < 2 ^ 30 → v 0 = nI rm → v 1 = nI wd → v 9 = nI nx → v 10 = nI tc → plc rm wd key len tc n nx v kd K L N S P = T0 → X2w E (va_A ws0 s.heap.size) z v kd K L N S P s H locs →
      ∀ ls : Array Slot, lv_has ls 7 [(4, .int (nI d)), (0, .ref (z 0)), (1, .long key), (3, .int (nI len))] → W p l e (Rm 5 0 0) s m args below meth c H locs 0 0 (MQ below (Qw E ws0 s.heap.size (P2 E z (fun r v' kd' K' L' N' S' P' => ∃ q, some (.int (nI q)) = r ∧ T0 = (q, v', kd', K', L', N', S', P')))) args s 0 0 (va_A ws0 s.heap.size)) (F0 m 3 ls []) := by
  intro n
  induction n with
  | zero =>
    intro d nx v kd K L N S P H locs hd hJ hk hnx hv0 hw hv9 hv10 hT X ls hl
    refine lv_iload C.hx C.hb dX2_place_3 (lv_at hl 0 rfl) ?_
    refine lv_sipush (v := nI (2400)) C.hx C.hb dX2_place_5 (by decide) ?_
    refine n_icmp_ge (tgt := 139) C dX2_place_8 (by decide) (by omega) (by omega) (fun c8 => ?_) (fun c8 => ?_)
    · refine lv_iconst (v := nI (0)) C.hx C.hb dX2_place_139 (by decide) ?_
      exact ret2_z C X (⟨0, rfl, hT.symm⟩) (by decide) dX2_place_140
    · omega
  | succ n ih =>
    intro d nx v kd K L N S P H locs hd hJ hk hnx hv0 hw hv9 hv10 hT X ls hl
    obtain ⟨j1, j2, j3, j4, j5, j6, j7, j8⟩ := id hJ
    obtain ⟨k1, k2, k3, k4⟩ := hJ.b
    have hng := ngt_le K key
    have hix : pIx K S key < S.length := gOf_lt j5
    have har : gOf P (pIx K S key) < P.length := gOf_lt k2
    have hll : lin L S (pIx K S key) ≤ L.sum := sm_le _ _ _
    have hgs := getD_le S (pIx K S key)
    simp only [plc] at hT
    rcases Nat.eq_zero_or_pos (ngt K key) with h0 | h0
    · refine lv_iload C.hx C.hb dX2_place_3 (lv_at hl 0 rfl) ?_
      refine lv_sipush (v := nI (2400)) C.hx C.hb dX2_place_5 (by decide) ?_
      refine n_icmp_ge (tgt := 139) C dX2_place_8 (by decide) (by omega) (by omega) (fun c8 => ?_) (fun c8 => ?_)
      · omega
      · refine lv_aload_n C.hx C.hb dX2_place_11 rfl (lv_at hl 1 rfl) ?_
        refine x2g_7 C X dX2_place_12 ?_
        refine lv_iconst (v := nI (0)) C.hx C.hb dX2_place_15 (by decide) ?_
        refine lv_aload_n C.hx C.hb dX2_place_16 rfl (lv_at hl 1 rfl) ?_
        refine lv_lload_n C.hx C.hb dX2_place_17 rfl (lv_at hl 2 rfl) ?_
        refine x2_cr (As := [.long (key)]) (rest := [.int (nI (0)), .ref (z 4)]) C X (c2_notGreaterThan (key := key)) wy_X2_notGreaterThan ts_7 tw_141 rfl ⟨by decide, by decide⟩ rfl hl.1 rfl (Nat.le_of_ble_eq_true rfl) ⟨Nat.le_refl _, Nat.le_refl _⟩ dX2_place_18 (fun r hp => ?_)
        subst hp
        refine W.eq (g2 := F0 m 21 ls [.int (nI (ngt K key)), .int (nI (0)), .ref (z 4)]) rfl ?_
        refine lv_iconst (v := nI (1)) C.hx C.hb dX2_place_21 (by decide) ?_
        refine lv_isub C.hx C.hb dX2_place_22 ?_
        refine va_mmax C.hx C.hb (C.hml.trans hl.1.symm) C.hown (C.hts _ tw_47) (C.hts _ tw_28) (C.hts _ tw_3) (C.hts _ tw_29) (by decide) (Nat.le_of_ble_eq_true rfl) (Nat.le_refl _) (Nat.le_refl _) dX2_place_23 ?_
        refine n_re (j := nI 0) (by rw [h0]; decide) ?_
        refine x2_groupOf_4 C X (by omega) (by omega) ⟨by decide, by decide⟩ hl.1 (Nat.le_of_ble_eq_true rfl) ⟨Nat.le_refl _, Nat.le_refl _⟩ dX2_place_26 ?_
        refine n_re (j := nI (pIx K S key)) (by unfold pIx; rw [h0]) ?_
        refine lv_istore (lv' := [(5, .int (nI (pIx K S key))), (4, .int (nI (d))), (0, .ref (z 0)), (1, .long (key)), (3, .int (nI (len)))]) C.hx C.hb dX2_place_29 hl (by decide) rfl (fun ls hl => ?_)
        refine lv_aload_n C.hx C.hb dX2_place_31 rfl (lv_at hl 2 rfl) ?_
        refine lv_iload C.hx C.hb dX2_place_32 (lv_at hl 0 rfl) ?_
        refine x2_cr (As := [.int (nI (pIx K S key))]) (rest := []) C X (c2_lengthsIn (i := pIx K S key) (by omega) (by omega)) wy_X2_lengthsIn ts_10 tw_154 rfl ⟨by decide, by decide⟩ rfl hl.1 rfl (Nat.le_of_ble_eq_true rfl) ⟨Nat.le_refl _, Nat.le_refl _⟩ dX2_place_34 (fun r hp => ?_)
        subst hp
        refine W.eq (g2 := F0 m 37 ls [.int (nI (lin L S (pIx K S key)))]) rfl ?_
        refine lv_iload_n C.hx C.hb dX2_place_37 rfl (lv_at hl 4 rfl) ?_
        refine n_add C dX2_place_38 ?_
        refine lv_aload_n C.hx C.hb dX2_place_39 rfl (lv_at hl 2 rfl) ?_
        refine x2g_0 C X (x := nI (rm)) hv0 dX2_place_40 ?_
        refine n_icmp_gt (tgt := 56) C dX2_place_43 (by decide) (by omega) (by omega) (fun c43 => ?_) (fun c43 => ?_)
        · refine lv_aload_n C.hx C.hb dX2_place_56 rfl (lv_at hl 2 rfl) ?_
          refine lv_iload C.hx C.hb dX2_place_57 (lv_at hl 0 rfl) ?_
          refine x2_cr (As := [.int (nI (pIx K S key))]) (rest := []) C X (c2_kindOfSplit (i := pIx K S key) (wd := wd) (by omega) (by omega) (by omega) hw hwd) wy_X2_kindOfSplit ts_13 tw_166 rfl ⟨by decide, by decide⟩ rfl hl.1 rfl (Nat.le_of_ble_eq_true rfl) ⟨Nat.le_refl _, Nat.le_refl _⟩ dX2_place_59 (fun r hp => ?_)
          subst hp
          refine W.eq (g2 := F0 m 62 ls [.ref (E.2.2.2 (kos P S wd (pIx K S key)))]) rfl ?_
          refine lv_astore (lv' := [(6, .ref (E.2.2.2 (kos P S wd (pIx K S key)))), (5, .int (nI (pIx K S key))), (4, .int (nI (d))), (0, .ref (z 0)), (1, .long (key)), (3, .int (nI (len)))]) C.hx C.hb dX2_place_62 hl (by decide) rfl (fun ls hl => ?_)
          refine lv_aload_n C.hx C.hb dX2_place_64 rfl (lv_at hl 3 rfl) ?_
          refine x2g_10 C X (x := nI (tc)) hv10 dX2_place_65 ?_
          refine n_if_eq (tgt := 81) C dX2_place_68 (by decide) (by omega) (fun c68 => ?_) (fun c68 => ?_)
          · refine lv_aload C.hx C.hb dX2_place_81 (lv_at hl 0 rfl) ?_
            refine x2_kind_1 C X dX2_place_83 ?_
            refine x2_acmp_ne (tgt := 99) C (i := (kos P S wd (pIx K S key))) (j := 1) (kos_lt _ _ _ _) (by decide) dX2_place_86 (by decide) (fun c86 => ?_) (fun c86 => ?_)
            · refine lv_aload C.hx C.hb dX2_place_99 (lv_at hl 0 rfl) ?_
              refine x2_kind_2 C X dX2_place_101 ?_
              refine x2_acmp_ne (tgt := 123) C (i := (kos P S wd (pIx K S key))) (j := 2) (kos_lt _ _ _ _) (by decide) dX2_place_104 (by decide) (fun c104 => ?_) (fun c104 => ?_)
              · have hkb := kbh_b (L := L) (S := S) (i := pIx K S key) (by have hk0 : kos P S wd (pIx K S key) = 0 := (by have := kos_lt P S wd (pIx K S key); omega); unfold kos at hk0; split at hk0; omega; split at hk0; omega; omega)
                have hk2 : ¬ wd ≤ P.getD (gOf P (pIx K S key)) 0 := fun h => c104 (by unfold kos; rw [if_pos h])
                refine lv_aload_n C.hx C.hb dX2_place_123 rfl (lv_at hl 3 rfl) ?_
                refine lv_iload C.hx C.hb dX2_place_124 (lv_at hl 1 rfl) ?_
                refine lv_aload_n C.hx C.hb dX2_place_126 rfl (lv_at hl 3 rfl) ?_
                refine x2_cw (As := []) (rest := [.int (nI (pIx K S key)), .ref (z 0)]) C X (c2_takeNumber (nx := nx) hv9) wy_X2_takeNumber ts_1 tw_52 rfl ⟨by decide, by decide⟩ rfl hl.1 rfl (Nat.le_of_ble_eq_true rfl) ⟨Nat.le_refl _, Nat.le_refl _⟩ dX2_place_127 (fun r v' kd' K' L' N' S' P' H locs hp X => ?_)
                obtain ⟨rfl, rfl, rfl, rfl, rfl, rfl, rfl, rfl⟩ := hp
                refine W.eq (g2 := F0 m 130 ls [.int (nI (nx)), .int (nI (pIx K S key)), .ref (z 0)]) rfl ?_
                refine x2_cw (As := [.int (nI (pIx K S key)), .int (nI (nx))]) (rest := []) C X (c2_halveInterval (i := (pIx K S key)) (num := nx) (by omega) (by omega) (by omega) (by omega) (by omega) (by omega) (by omega) (by omega) (by omega)) wy_X2_halveInterval ts_18 tw_190 rfl ⟨by decide, by decide⟩ rfl hl.1 rfl (Nat.le_of_ble_eq_true rfl) ⟨Nat.le_refl _, Nat.le_refl _⟩ dX2_place_130 (fun r v' kd' K' L' N' S' P' H locs hp X => ?_)
                obtain ⟨rfl, rfl, rfl, rfl, rfl, rfl, rfl, rfl⟩ := hp
                refine W.eq (g2 := F0 m 133 ls []) rfl ?_
                refine lv_iinc (v := nI (d + 1)) (lv' := [(4, .int (nI (d + 1))), (6, .ref (E.2.2.2 (kos P S wd (pIx K S key)))), (5, .int (nI (pIx K S key))), (0, .ref (z 0)), (1, .long (key)), (3, .int (nI (len)))]) C.hx C.hb dX2_place_133 hl (k := 2) rfl (nI_1 _) (by decide) rfl (fun ls hl => ?_)
                refine lv_goto (tgt := 3) C.hx C.hb dX2_place_136 (by decide) ?_
                exact ih (d + 1) (nx + 1) (upd (upd v 9 (nI (nx + 1))) 15 ((upd v 9 (nI (nx + 1))) 15 + nI 1)) kd K L (ins N ((pIx K S key) + 1) nx) (ins (S.set (pIx K S key) (S.getD (pIx K S key) 0 - (S.getD (pIx K S key) 0 - kbh L S (pIx K S key)))) ((pIx K S key) + 1) (S.getD (pIx K S key) 0 - kbh L S (pIx K S key))) (P.set (gOf P (pIx K S key)) (P.getD (gOf P (pIx K S key)) 0 + 1)) H locs (by omega) (hJ.halve hix har hkb.1 hkb.2) hk (by omega) hv0 hw rfl hv10 (by rw [if_neg (by omega), if_neg (by omega), if_neg c86, if_neg c104] at hT; exact hT) X ls (lv_sub hl [0, 3, 4, 5] rfl)
              · have hk2 : wd ≤ P.getD (gOf P (pIx K S key)) 0 := by
                  unfold kos at c104; split at c104; assumption; split at c104 <;> omega
                refine lv_aload_n C.hx C.hb dX2_place_107 rfl (lv_at hl 3 rfl) ?_
                refine lv_aload_n C.hx C.hb dX2_place_108 rfl (lv_at hl 3 rfl) ?_
                refine x2g_8 C X dX2_place_109 ?_
                refine lv_iload C.hx C.hb dX2_place_112 (lv_at hl 1 rfl) ?_
                refine x2_groupOf_5 C X (by omega) (by omega) ⟨by decide, by decide⟩ hl.1 (Nat.le_of_ble_eq_true rfl) ⟨Nat.le_refl _, Nat.le_refl _⟩ dX2_place_114 ?_
                refine x2_cw (As := [.int (nI (gOf P (pIx K S key)))]) (rest := []) C X (c2_splitArea (a := gOf P (pIx K S key)) (wd := wd) hw hwd (by omega) (by omega) (by omega)) wy_X2_splitArea ts_17 tw_186 rfl ⟨by decide, by decide⟩ rfl hl.1 rfl (Nat.le_of_ble_eq_true rfl) ⟨Nat.le_refl _, Nat.le_refl _⟩ dX2_place_117 (fun r v' kd' K' L' N' S' P' H locs hp X => ?_)
                obtain ⟨rfl, rfl, rfl, rfl, rfl, rfl, rfl, rfl⟩ := hp
                refine W.eq (g2 := F0 m 120 ls []) rfl ?_
                refine lv_goto (tgt := 133) C.hx C.hb dX2_place_120 (by decide) ?_
                refine lv_iinc (v := nI (d + 1)) (lv' := [(4, .int (nI (d + 1))), (6, .ref (E.2.2.2 (kos P S wd (pIx K S key)))), (5, .int (nI (pIx K S key))), (0, .ref (z 0)), (1, .long (key)), (3, .int (nI (len)))]) C.hx C.hb dX2_place_133 hl (k := 2) rfl (nI_1 _) (by decide) rfl (fun ls hl => ?_)
                refine lv_goto (tgt := 3) C.hx C.hb dX2_place_136 (by decide) ?_
                exact ih (d + 1) nx (upd v 16 (v 16 + nI 1)) kd K L N S (ins (P.set (gOf P (pIx K S key)) (P.getD (gOf P (pIx K S key)) 0 - wd / 2)) ((gOf P (pIx K S key)) + 1) (wd / 2)) H locs (by omega) (hJ.area har (by omega) (by omega)) hk (by omega) hv0 hw hv9 hv10 (by rw [if_neg (by omega), if_neg (by omega), if_neg c86, if_pos c104] at hT; exact hT) X ls (lv_sub hl [0, 3, 4, 5] rfl)
            · refine lv_aload_n C.hx C.hb dX2_place_89 rfl (lv_at hl 3 rfl) ?_
              refine lv_iload C.hx C.hb dX2_place_90 (lv_at hl 1 rfl) ?_
              refine lv_lload_n C.hx C.hb dX2_place_92 rfl (lv_at hl 4 rfl) ?_
              refine lv_iload_n C.hx C.hb dX2_place_93 rfl (lv_at hl 5 rfl) ?_
              refine x2_cw (As := [.int (nI (pIx K S key)), .long (key), .int (nI (len))]) (rest := []) C X (c2_giveOwnInterval (i := (pIx K S key)) (key := key) (len := len) (nx := nx) hv9 (by omega) (by omega) (by omega) (by omega) (by omega) (by omega) (by omega) (by omega) (by omega) (by omega)) wy_X2_giveOwnInterval ts_15 tw_178 rfl ⟨by decide, by decide⟩ rfl hl.1 rfl (Nat.le_of_ble_eq_true rfl) ⟨Nat.le_refl _, Nat.le_refl _⟩ dX2_place_94 (fun r v' kd' K' L' N' S' P' H locs hp X => ?_)
              obtain ⟨rfl, rfl, rfl, rfl, rfl, rfl, rfl, rfl⟩ := hp
              refine W.eq (g2 := F0 m 97 ls []) rfl ?_
              refine lv_iconst (v := nI (1)) C.hx C.hb dX2_place_97 (by decide) ?_
              exact ret2_z C X (⟨1, rfl, by rw [if_neg (by omega), if_neg (by omega), if_pos c86] at hT; exact hT.symm⟩) (by decide) dX2_place_98
          · refine lv_aload_n C.hx C.hb dX2_place_71 rfl (lv_at hl 3 rfl) ?_
            refine lv_aload C.hx C.hb dX2_place_72 (lv_at hl 0 rfl) ?_
            refine lv_iload C.hx C.hb dX2_place_74 (lv_at hl 1 rfl) ?_
            refine x2_cw (As := [.ref (E.2.2.2 (kos P S wd (pIx K S key))), .int (nI (pIx K S key))]) (rest := []) C X (c2_closeAhead (nx := nx) (tc := tc) (k := (kos P S wd (pIx K S key))) (i := (pIx K S key)) hv9 hv10 (by omega) (kos_lt _ _ _ _)) wy_X2_closeAhead ts_14 tw_174 rfl ⟨by decide, by decide⟩ rfl hl.1 rfl (Nat.le_of_ble_eq_true rfl) ⟨Nat.le_refl _, Nat.le_refl _⟩ dX2_place_76 (fun r v' kd' K' L' N' S' P' H locs hp X => ?_)
            obtain ⟨rfl, rfl, rfl, rfl, rfl, rfl, rfl, rfl⟩ := hp
            refine W.eq (g2 := F0 m 79 ls []) rfl ?_
            refine lv_iconst (v := nI (0)) C.hx C.hb dX2_place_79 (by decide) ?_
            exact ret2_z C X (⟨0, rfl, by rw [if_neg (by omega), if_pos c68] at hT; exact hT.symm⟩) (by decide) dX2_place_80
        · refine lv_aload_n C.hx C.hb dX2_place_46 rfl (lv_at hl 2 rfl) ?_
          refine lv_iload C.hx C.hb dX2_place_47 (lv_at hl 0 rfl) ?_
          refine lv_lload_n C.hx C.hb dX2_place_49 rfl (lv_at hl 3 rfl) ?_
          refine lv_iload_n C.hx C.hb dX2_place_50 rfl (lv_at hl 4 rfl) ?_
          refine x2_cw (As := [.int (nI (pIx K S key)), .long (key), .int (nI (len))]) (rest := []) C X (c2_insertRecord (i := pIx K S key) (key := key) (len := len) (by omega) (by omega) (by omega) (by omega)) wy_X2_insertRecord ts_12 tw_162 rfl ⟨by decide, by decide⟩ rfl hl.1 rfl (Nat.le_of_ble_eq_true rfl) ⟨Nat.le_refl _, Nat.le_refl _⟩ dX2_place_51 (fun r v' kd' K' L' N' S' P' H locs hp X => ?_)
          obtain ⟨rfl, rfl, rfl, rfl, rfl, rfl, rfl, rfl⟩ := hp
          refine W.eq (g2 := F0 m 54 ls []) rfl ?_
          refine lv_iconst (v := nI (1)) C.hx C.hb dX2_place_54 (by decide) ?_
          exact ret2_z C X (⟨1, rfl, by rw [if_pos (by omega)] at hT; exact hT.symm⟩) (by decide) dX2_place_55
    · refine lv_iload C.hx C.hb dX2_place_3 (lv_at hl 0 rfl) ?_
      refine lv_sipush (v := nI (2400)) C.hx C.hb dX2_place_5 (by decide) ?_
      refine n_icmp_ge (tgt := 139) C dX2_place_8 (by decide) (by omega) (by omega) (fun c8 => ?_) (fun c8 => ?_)
      · omega
      · refine lv_aload_n C.hx C.hb dX2_place_11 rfl (lv_at hl 1 rfl) ?_
        refine x2g_7 C X dX2_place_12 ?_
        refine lv_iconst (v := nI (0)) C.hx C.hb dX2_place_15 (by decide) ?_
        refine lv_aload_n C.hx C.hb dX2_place_16 rfl (lv_at hl 1 rfl) ?_
        refine lv_lload_n C.hx C.hb dX2_place_17 rfl (lv_at hl 2 rfl) ?_
        refine x2_cr (As := [.long (key)]) (rest := [.int (nI (0)), .ref (z 4)]) C X (c2_notGreaterThan (key := key)) wy_X2_notGreaterThan ts_7 tw_141 rfl ⟨by decide, by decide⟩ rfl hl.1 rfl (Nat.le_of_ble_eq_true rfl) ⟨Nat.le_refl _, Nat.le_refl _⟩ dX2_place_18 (fun r hp => ?_)
        subst hp
        refine W.eq (g2 := F0 m 21 ls [.int (nI (ngt K key)), .int (nI (0)), .ref (z 4)]) rfl ?_
        refine lv_iconst (v := nI (1)) C.hx C.hb dX2_place_21 (by decide) ?_
        refine n_sub C dX2_place_22 (by omega) ?_
        refine va_mmax C.hx C.hb (C.hml.trans hl.1.symm) C.hown (C.hts _ tw_47) (C.hts _ tw_28) (C.hts _ tw_3) (C.hts _ tw_29) (by decide) (Nat.le_of_ble_eq_true rfl) (Nat.le_refl _) (Nat.le_refl _) dX2_place_23 ?_
        refine n_re (j := nI (max 0 ((ngt K key) - 1))) (nmax (by omega) (by omega)) ?_
        refine n_re (j := nI (ngt K key - 1)) (by rw [Nat.zero_max]) ?_
        refine x2_groupOf_4 C X (by omega) (by omega) ⟨by decide, by decide⟩ hl.1 (Nat.le_of_ble_eq_true rfl) ⟨Nat.le_refl _, Nat.le_refl _⟩ dX2_place_26 ?_
        refine n_re (j := nI (pIx K S key)) rfl ?_
        refine lv_istore (lv' := [(5, .int (nI (pIx K S key))), (4, .int (nI (d))), (0, .ref (z 0)), (1, .long (key)), (3, .int (nI (len)))]) C.hx C.hb dX2_place_29 hl (by decide) rfl (fun ls hl => ?_)
        refine lv_aload_n C.hx C.hb dX2_place_31 rfl (lv_at hl 2 rfl) ?_
        refine lv_iload C.hx C.hb dX2_place_32 (lv_at hl 0 rfl) ?_
        refine x2_cr (As := [.int (nI (pIx K S key))]) (rest := []) C X (c2_lengthsIn (i := pIx K S key) (by omega) (by omega)) wy_X2_lengthsIn ts_10 tw_154 rfl ⟨by decide, by decide⟩ rfl hl.1 rfl (Nat.le_of_ble_eq_true rfl) ⟨Nat.le_refl _, Nat.le_refl _⟩ dX2_place_34 (fun r hp => ?_)
        subst hp
        refine W.eq (g2 := F0 m 37 ls [.int (nI (lin L S (pIx K S key)))]) rfl ?_
        refine lv_iload_n C.hx C.hb dX2_place_37 rfl (lv_at hl 4 rfl) ?_
        refine n_add C dX2_place_38 ?_
        refine lv_aload_n C.hx C.hb dX2_place_39 rfl (lv_at hl 2 rfl) ?_
        refine x2g_0 C X (x := nI (rm)) hv0 dX2_place_40 ?_
        refine n_icmp_gt (tgt := 56) C dX2_place_43 (by decide) (by omega) (by omega) (fun c43 => ?_) (fun c43 => ?_)
        · refine lv_aload_n C.hx C.hb dX2_place_56 rfl (lv_at hl 2 rfl) ?_
          refine lv_iload C.hx C.hb dX2_place_57 (lv_at hl 0 rfl) ?_
          refine x2_cr (As := [.int (nI (pIx K S key))]) (rest := []) C X (c2_kindOfSplit (i := pIx K S key) (wd := wd) (by omega) (by omega) (by omega) hw hwd) wy_X2_kindOfSplit ts_13 tw_166 rfl ⟨by decide, by decide⟩ rfl hl.1 rfl (Nat.le_of_ble_eq_true rfl) ⟨Nat.le_refl _, Nat.le_refl _⟩ dX2_place_59 (fun r hp => ?_)
          subst hp
          refine W.eq (g2 := F0 m 62 ls [.ref (E.2.2.2 (kos P S wd (pIx K S key)))]) rfl ?_
          refine lv_astore (lv' := [(6, .ref (E.2.2.2 (kos P S wd (pIx K S key)))), (5, .int (nI (pIx K S key))), (4, .int (nI (d))), (0, .ref (z 0)), (1, .long (key)), (3, .int (nI (len)))]) C.hx C.hb dX2_place_62 hl (by decide) rfl (fun ls hl => ?_)
          refine lv_aload_n C.hx C.hb dX2_place_64 rfl (lv_at hl 3 rfl) ?_
          refine x2g_10 C X (x := nI (tc)) hv10 dX2_place_65 ?_
          refine n_if_eq (tgt := 81) C dX2_place_68 (by decide) (by omega) (fun c68 => ?_) (fun c68 => ?_)
          · refine lv_aload C.hx C.hb dX2_place_81 (lv_at hl 0 rfl) ?_
            refine x2_kind_1 C X dX2_place_83 ?_
            refine x2_acmp_ne (tgt := 99) C (i := (kos P S wd (pIx K S key))) (j := 1) (kos_lt _ _ _ _) (by decide) dX2_place_86 (by decide) (fun c86 => ?_) (fun c86 => ?_)
            · refine lv_aload C.hx C.hb dX2_place_99 (lv_at hl 0 rfl) ?_
              refine x2_kind_2 C X dX2_place_101 ?_
              refine x2_acmp_ne (tgt := 123) C (i := (kos P S wd (pIx K S key))) (j := 2) (kos_lt _ _ _ _) (by decide) dX2_place_104 (by decide) (fun c104 => ?_) (fun c104 => ?_)
              · have hkb := kbh_b (L := L) (S := S) (i := pIx K S key) (by have hk0 : kos P S wd (pIx K S key) = 0 := (by have := kos_lt P S wd (pIx K S key); omega); unfold kos at hk0; split at hk0; omega; split at hk0; omega; omega)
                have hk2 : ¬ wd ≤ P.getD (gOf P (pIx K S key)) 0 := fun h => c104 (by unfold kos; rw [if_pos h])
                refine lv_aload_n C.hx C.hb dX2_place_123 rfl (lv_at hl 3 rfl) ?_
                refine lv_iload C.hx C.hb dX2_place_124 (lv_at hl 1 rfl) ?_
                refine lv_aload_n C.hx C.hb dX2_place_126 rfl (lv_at hl 3 rfl) ?_
                refine x2_cw (As := []) (rest := [.int (nI (pIx K S key)), .ref (z 0)]) C X (c2_takeNumber (nx := nx) hv9) wy_X2_takeNumber ts_1 tw_52 rfl ⟨by decide, by decide⟩ rfl hl.1 rfl (Nat.le_of_ble_eq_true rfl) ⟨Nat.le_refl _, Nat.le_refl _⟩ dX2_place_127 (fun r v' kd' K' L' N' S' P' H locs hp X => ?_)
                obtain ⟨rfl, rfl, rfl, rfl, rfl, rfl, rfl, rfl⟩ := hp
                refine W.eq (g2 := F0 m 130 ls [.int (nI (nx)), .int (nI (pIx K S key)), .ref (z 0)]) rfl ?_
                refine x2_cw (As := [.int (nI (pIx K S key)), .int (nI (nx))]) (rest := []) C X (c2_halveInterval (i := (pIx K S key)) (num := nx) (by omega) (by omega) (by omega) (by omega) (by omega) (by omega) (by omega) (by omega) (by omega)) wy_X2_halveInterval ts_18 tw_190 rfl ⟨by decide, by decide⟩ rfl hl.1 rfl (Nat.le_of_ble_eq_true rfl) ⟨Nat.le_refl _, Nat.le_refl _⟩ dX2_place_130 (fun r v' kd' K' L' N' S' P' H locs hp X => ?_)
                obtain ⟨rfl, rfl, rfl, rfl, rfl, rfl, rfl, rfl⟩ := hp
                refine W.eq (g2 := F0 m 133 ls []) rfl ?_
                refine lv_iinc (v := nI (d + 1)) (lv' := [(4, .int (nI (d + 1))), (6, .ref (E.2.2.2 (kos P S wd (pIx K S key)))), (5, .int (nI (pIx K S key))), (0, .ref (z 0)), (1, .long (key)), (3, .int (nI (len)))]) C.hx C.hb dX2_place_133 hl (k := 2) rfl (nI_1 _) (by decide) rfl (fun ls hl => ?_)
                refine lv_goto (tgt := 3) C.hx C.hb dX2_place_136 (by decide) ?_
                exact ih (d + 1) (nx + 1) (upd (upd v 9 (nI (nx + 1))) 15 ((upd v 9 (nI (nx + 1))) 15 + nI 1)) kd K L (ins N ((pIx K S key) + 1) nx) (ins (S.set (pIx K S key) (S.getD (pIx K S key) 0 - (S.getD (pIx K S key) 0 - kbh L S (pIx K S key)))) ((pIx K S key) + 1) (S.getD (pIx K S key) 0 - kbh L S (pIx K S key))) (P.set (gOf P (pIx K S key)) (P.getD (gOf P (pIx K S key)) 0 + 1)) H locs (by omega) (hJ.halve hix har hkb.1 hkb.2) hk (by omega) hv0 hw rfl hv10 (by rw [if_neg (by omega), if_neg (by omega), if_neg c86, if_neg c104] at hT; exact hT) X ls (lv_sub hl [0, 3, 4, 5] rfl)
              · have hk2 : wd ≤ P.getD (gOf P (pIx K S key)) 0 := by
                  unfold kos at c104; split at c104; assumption; split at c104 <;> omega
                refine lv_aload_n C.hx C.hb dX2_place_107 rfl (lv_at hl 3 rfl) ?_
                refine lv_aload_n C.hx C.hb dX2_place_108 rfl (lv_at hl 3 rfl) ?_
                refine x2g_8 C X dX2_place_109 ?_
                refine lv_iload C.hx C.hb dX2_place_112 (lv_at hl 1 rfl) ?_
                refine x2_groupOf_5 C X (by omega) (by omega) ⟨by decide, by decide⟩ hl.1 (Nat.le_of_ble_eq_true rfl) ⟨Nat.le_refl _, Nat.le_refl _⟩ dX2_place_114 ?_
                refine x2_cw (As := [.int (nI (gOf P (pIx K S key)))]) (rest := []) C X (c2_splitArea (a := gOf P (pIx K S key)) (wd := wd) hw hwd (by omega) (by omega) (by omega)) wy_X2_splitArea ts_17 tw_186 rfl ⟨by decide, by decide⟩ rfl hl.1 rfl (Nat.le_of_ble_eq_true rfl) ⟨Nat.le_refl _, Nat.le_refl _⟩ dX2_place_117 (fun r v' kd' K' L' N' S' P' H locs hp X => ?_)
                obtain ⟨rfl, rfl, rfl, rfl, rfl, rfl, rfl, rfl⟩ := hp
                refine W.eq (g2 := F0 m 120 ls []) rfl ?_
                refine lv_goto (tgt := 133) C.hx C.hb dX2_place_120 (by decide) ?_
                refine lv_iinc (v := nI (d + 1)) (lv' := [(4, .int (nI (d + 1))), (6, .ref (E.2.2.2 (kos P S wd (pIx K S key)))), (5, .int (nI (pIx K S key))), (0, .ref (z 0)), (1, .long (key)), (3, .int (nI (len)))]) C.hx C.hb dX2_place_133 hl (k := 2) rfl (nI_1 _) (by decide) rfl (fun ls hl => ?_)
                refine lv_goto (tgt := 3) C.hx C.hb dX2_place_136 (by decide) ?_
                exact ih (d + 1) nx (upd v 16 (v 16 + nI 1)) kd K L N S (ins (P.set (gOf P (pIx K S key)) (P.getD (gOf P (pIx K S key)) 0 - wd / 2)) ((gOf P (pIx K S key)) + 1) (wd / 2)) H locs (by omega) (hJ.area har (by omega) (by omega)) hk (by omega) hv0 hw hv9 hv10 (by rw [if_neg (by omega), if_neg (by omega), if_neg c86, if_pos c104] at hT; exact hT) X ls (lv_sub hl [0, 3, 4, 5] rfl)
            · refine lv_aload_n C.hx C.hb dX2_place_89 rfl (lv_at hl 3 rfl) ?_
              refine lv_iload C.hx C.hb dX2_place_90 (lv_at hl 1 rfl) ?_
              refine lv_lload_n C.hx C.hb dX2_place_92 rfl (lv_at hl 4 rfl) ?_
              refine lv_iload_n C.hx C.hb dX2_place_93 rfl (lv_at hl 5 rfl) ?_
              refine x2_cw (As := [.int (nI (pIx K S key)), .long (key), .int (nI (len))]) (rest := []) C X (c2_giveOwnInterval (i := (pIx K S key)) (key := key) (len := len) (nx := nx) hv9 (by omega) (by omega) (by omega) (by omega) (by omega) (by omega) (by omega) (by omega) (by omega) (by omega)) wy_X2_giveOwnInterval ts_15 tw_178 rfl ⟨by decide, by decide⟩ rfl hl.1 rfl (Nat.le_of_ble_eq_true rfl) ⟨Nat.le_refl _, Nat.le_refl _⟩ dX2_place_94 (fun r v' kd' K' L' N' S' P' H locs hp X => ?_)
              obtain ⟨rfl, rfl, rfl, rfl, rfl, rfl, rfl, rfl⟩ := hp
              refine W.eq (g2 := F0 m 97 ls []) rfl ?_
              refine lv_iconst (v := nI (1)) C.hx C.hb dX2_place_97 (by decide) ?_
              exact ret2_z C X (⟨1, rfl, by rw [if_neg (by omega), if_neg (by omega), if_pos c86] at hT; exact hT.symm⟩) (by decide) dX2_place_98
          · refine lv_aload_n C.hx C.hb dX2_place_71 rfl (lv_at hl 3 rfl) ?_
            refine lv_aload C.hx C.hb dX2_place_72 (lv_at hl 0 rfl) ?_
            refine lv_iload C.hx C.hb dX2_place_74 (lv_at hl 1 rfl) ?_
            refine x2_cw (As := [.ref (E.2.2.2 (kos P S wd (pIx K S key))), .int (nI (pIx K S key))]) (rest := []) C X (c2_closeAhead (nx := nx) (tc := tc) (k := (kos P S wd (pIx K S key))) (i := (pIx K S key)) hv9 hv10 (by omega) (kos_lt _ _ _ _)) wy_X2_closeAhead ts_14 tw_174 rfl ⟨by decide, by decide⟩ rfl hl.1 rfl (Nat.le_of_ble_eq_true rfl) ⟨Nat.le_refl _, Nat.le_refl _⟩ dX2_place_76 (fun r v' kd' K' L' N' S' P' H locs hp X => ?_)
            obtain ⟨rfl, rfl, rfl, rfl, rfl, rfl, rfl, rfl⟩ := hp
            refine W.eq (g2 := F0 m 79 ls []) rfl ?_
            refine lv_iconst (v := nI (0)) C.hx C.hb dX2_place_79 (by decide) ?_
            exact ret2_z C X (⟨0, rfl, by rw [if_neg (by omega), if_pos c68] at hT; exact hT.symm⟩) (by decide) dX2_place_80
        · refine lv_aload_n C.hx C.hb dX2_place_46 rfl (lv_at hl 2 rfl) ?_
          refine lv_iload C.hx C.hb dX2_place_47 (lv_at hl 0 rfl) ?_
          refine lv_lload_n C.hx C.hb dX2_place_49 rfl (lv_at hl 3 rfl) ?_
          refine lv_iload_n C.hx C.hb dX2_place_50 rfl (lv_at hl 4 rfl) ?_
          refine x2_cw (As := [.int (nI (pIx K S key)), .long (key), .int (nI (len))]) (rest := []) C X (c2_insertRecord (i := pIx K S key) (key := key) (len := len) (by omega) (by omega) (by omega) (by omega)) wy_X2_insertRecord ts_12 tw_162 rfl ⟨by decide, by decide⟩ rfl hl.1 rfl (Nat.le_of_ble_eq_true rfl) ⟨Nat.le_refl _, Nat.le_refl _⟩ dX2_place_51 (fun r v' kd' K' L' N' S' P' H locs hp X => ?_)
          obtain ⟨rfl, rfl, rfl, rfl, rfl, rfl, rfl, rfl⟩ := hp
          refine W.eq (g2 := F0 m 54 ls []) rfl ?_
          refine lv_iconst (v := nI (1)) C.hx C.hb dX2_place_54 (by decide) ?_
          exact ret2_z C X (⟨1, rfl, by rw [if_pos (by omega)] at hT; exact hT.symm⟩) (by decide) dX2_place_55
set_option maxHeartbeats 4000000 in
set_option maxRecDepth 100000 in
/-- a record is put, with its splits -/
theorem c2_place {l : Launch} {E : Gq} {z : Nat → Nat} {v : Nat → Int32} {kd : Nat} {K : List Int64} {L N S P : List Nat} {key : Int64} {len rm wd nx tc : Nat} (hrm : rm ≤ 1000) (hwd : wd ≤ 20) (hw2 : 2 ≤ wd) (hlen : len ≤ 1000) (htc : tc ≤ 4) (hJ : J2 K L N S P) (hk : K.length < 600) (hnx : nx + 2400 < 2 ^ 30) (hv0 : v 0 = nI rm) (hw : v 1 = nI wd) (hv9 : v 9 = nI nx) (hv10 : v 10 = nI tc) : M2w l E yX2_place cX2_place 7 (some .boolean) 5 [.ref (z 0), .long (key), .int (nI (len))] z v kd K L N S P (fun r v' kd' K' L' N' S' P' => ∃ q, some (.int (nI q)) = r ∧ plc rm wd key len tc 2400 nx v kd K L N S P = (q, v', kd', K', L', N', S', P')) := by
  intro f hf
  obtain ⟨b1, b2, b3, b4, b5⟩ := hf.lens
  refine mk_w (by decide) (Nat.le_of_ble_eq_true rfl) ?_
  intro p e s m below meth c ls C Wd hl
  have X : X2w E _ z v kd K L N S P s s.heap [] := ⟨f, Wd, hf⟩
  have hl : lv_has ls 7 [(0, .ref (z 0)), (1, .long (key)), (3, .int (nI (len)))] := hl
  refine lv_iconst (v := nI (0)) C.hx C.hb dX2_place_0 (by decide) ?_
  refine lv_istore (lv' := [(4, .int (nI (0))), (0, .ref (z 0)), (1, .long (key)), (3, .int (nI (len)))]) C.hx C.hb dX2_place_1 hl (by decide) rfl (fun ls hl => ?_)
  exact l2_place C hrm hwd hw2 hlen htc 2400 0 nx v kd K L N S P _ _ rfl hJ hk hnx hv0 hw hv9 hv10 rfl X ls (lv_sub hl [0, 1, 2, 3] rfl)
end
section
theorem nI_m1 {a : Nat} (h : a < 2 ^ 31) : nI a ≠ -1 := by
  intro e
  have h1 := nI_toInt h
  rw [e] at h1
  have h2 : (-1 : Int32).toInt = -1 := by decide
  omega
theorem plc_lt {rm wd : Nat} {key : Int64} {len tc : Nat} : ∀ {n nx : Nat} {v : Nat → Int32} {kd : Nat} {K : List Int64} {L N S P : List Nat} {q : Nat} {v' : Nat → Int32} {kd' : Nat} {K' : List Int64} {L' N' S' P' : List Nat}, plc rm wd key len tc n nx v kd K L N S P = (q, v', kd', K', L', N', S', P') → q < 2 := by
  intro n
  induction n with
  | zero => intro nx v kd K L N S P q v' kd' K' L' N' S' P' h; simp only [plc, Prod.mk.injEq] at h; omega
  | succ n ih =>
    intro nx v kd K L N S P q v' kd' K' L' N' S' P' h
    simp only [plc] at h
    split at h
    · simp only [Prod.mk.injEq] at h; omega
    · split at h
      · simp only [Prod.mk.injEq] at h; omega
      · split at h
        · simp only [Prod.mk.injEq] at h; omega
        · split at h
          · exact ih h
          · exact ih h
set_option maxHeartbeats 4000000 in
set_option maxRecDepth 100000 in
/-- a cut split is finished, kind 2 -/
theorem c2_fin2 {l : Launch} {E : Gq} {z : Nat → Nat} {v : Nat → Int32} {K : List Int64} {L N S P : List Nat} {cp wd : Nat} (hw : v 1 = nI wd) (hwd : wd ≤ 20) (hv14 : v 14 = nI cp) (hJ : J2 K L N S P) (hk : K.length < 600) (hc : cp < S.length) (hp : wd / 2 ≤ P.getD (gOf P cp) 0) : M2w l E yX2_finishCutSplit cX2_finishCutSplit 1 none 5 [.ref (z 0)] z v 2 K L N S P (fun r v' kd' K' L' N' S' P' => none = r ∧ upd v 16 (v 16 + nI 1) = v' ∧ 2 = kd' ∧ K = K' ∧ L = L' ∧ N = N' ∧ S = S' ∧ ins (P.set (gOf P cp) (P.getD (gOf P cp) 0 - wd / 2)) (gOf P cp + 1) (wd / 2) = P') := by
  intro f hf
  obtain ⟨b1, b2, b3, b4, b5⟩ := hf.lens
  refine mk_w (by decide) (Nat.le_of_ble_eq_true rfl) ?_
  intro p e s m below meth c ls C Wd hl
  have X : X2w E _ z v 2 K L N S P s s.heap [] := ⟨f, Wd, hf⟩
  have hl : lv_has ls 1 [(0, .ref (z 0))] := hl
  obtain ⟨j1, j2, j3, j4, j5, j6, j7, j8⟩ := id hJ
  obtain ⟨k1, k2, k3, k4⟩ := hJ.b
  have har := gOf_lt (L := P) (m := cp) k2
  refine lv_aload_n C.hx C.hb dX2_finishCutSplit_0 rfl (lv_at hl 0 rfl) ?_
  refine x2g_13 C X dX2_finishCutSplit_1 ?_
  refine x2_kind_2 C X dX2_finishCutSplit_4 ?_
  refine x2_acmp_ne (tgt := 28) C (i := (2)) (j := 2) (by decide) (by decide) dX2_finishCutSplit_7 (by decide) (fun c7 => ?_) (fun c7 => ?_)
  · exact absurd rfl c7
  · refine lv_aload_n C.hx C.hb dX2_finishCutSplit_10 rfl (lv_at hl 0 rfl) ?_
    refine lv_aload_n C.hx C.hb dX2_finishCutSplit_11 rfl (lv_at hl 0 rfl) ?_
    refine x2g_8 C X dX2_finishCutSplit_12 ?_
    refine lv_aload_n C.hx C.hb dX2_finishCutSplit_15 rfl (lv_at hl 0 rfl) ?_
    refine x2g_14 C X (x := nI (cp)) hv14 dX2_finishCutSplit_16 ?_
    refine x2_groupOf_5 C X (by omega) (by omega) ⟨by decide, by decide⟩ hl.1 (Nat.le_of_ble_eq_true rfl) ⟨Nat.le_refl _, Nat.le_refl _⟩ dX2_finishCutSplit_19 ?_
    refine x2_cw (As := [.int (nI (gOf P cp))]) (rest := []) C X (c2_splitArea (a := gOf P cp) (wd := wd) hw hwd (by omega) (by omega) (by omega)) wy_X2_splitArea ts_17 tw_186 rfl ⟨by decide, by decide⟩ rfl hl.1 rfl (Nat.le_of_ble_eq_true rfl) ⟨Nat.le_refl _, Nat.le_refl _⟩ dX2_finishCutSplit_22 (fun r v' kd' K' L' N' S' P' H locs hp X => ?_)
    obtain ⟨rfl, rfl, rfl, rfl, rfl, rfl, rfl, rfl⟩ := hp
    refine W.eq (g2 := F0 m 25 ls []) rfl ?_
    refine lv_goto (tgt := 65) C.hx C.hb dX2_finishCutSplit_25 (by decide) ?_
    exact ret2_v C X (⟨rfl, rfl, rfl, rfl, rfl, rfl, rfl, rfl⟩) dX2_finishCutSplit_65
set_option maxHeartbeats 4000000 in
set_option maxRecDepth 100000 in
/-- a cut split is finished, kind 0 -/
theorem c2_fin0 {l : Launch} {E : Gq} {z : Nat → Nat} {v : Nat → Int32} {K : List Int64} {L N S P : List Nat} {cp nx : Nat} (hv9 : v 9 = nI nx) (hnx : nx < 2 ^ 31) (hnx1 : 1 ≤ nx) (hv14 : v 14 = nI cp) (hJ : J2 K L N S P) (hk : K.length < 600) (hc : cp < S.length) (htwo : 2 ≤ S.getD cp 0) : M2w l E yX2_finishCutSplit cX2_finishCutSplit 1 none 5 [.ref (z 0)] z v 0 K L N S P (fun r v' kd' K' L' N' S' P' => none = r ∧ upd v 15 (v 15 + nI 1) = v' ∧ 0 = kd' ∧ K = K' ∧ L = L' ∧ ins N (cp + 1) (nx - 1) = N' ∧ ins (S.set cp (S.getD cp 0 - (S.getD cp 0 - kbh L S cp))) (cp + 1) (S.getD cp 0 - kbh L S cp) = S' ∧ P.set (gOf P cp) (P.getD (gOf P cp) 0 + 1) = P') := by
  intro f hf
  obtain ⟨b1, b2, b3, b4, b5⟩ := hf.lens
  refine mk_w (by decide) (Nat.le_of_ble_eq_true rfl) ?_
  intro p e s m below meth c ls C Wd hl
  have X : X2w E _ z v 0 K L N S P s s.heap [] := ⟨f, Wd, hf⟩
  have hl : lv_has ls 1 [(0, .ref (z 0))] := hl
  obtain ⟨j1, j2, j3, j4, j5, j6, j7, j8⟩ := id hJ
  obtain ⟨k1, k2, k3, k4⟩ := hJ.b
  refine lv_aload_n C.hx C.hb dX2_finishCutSplit_0 rfl (lv_at hl 0 rfl) ?_
  refine x2g_13 C X dX2_finishCutSplit_1 ?_
  refine x2_kind_2 C X dX2_finishCutSplit_4 ?_
  refine x2_acmp_ne (tgt := 28) C (i := (0)) (j := 2) (by decide) (by decide) dX2_finishCutSplit_7 (by decide) (fun c7 => ?_) (fun c7 => ?_)
  · refine lv_aload_n C.hx C.hb dX2_finishCutSplit_28 rfl (lv_at hl 0 rfl) ?_
    refine x2g_13 C X dX2_finishCutSplit_29 ?_
    refine x2_kind_0 C X dX2_finishCutSplit_32 ?_
    refine x2_acmp_ne (tgt := 55) C (i := (0)) (j := 0) (by decide) (by decide) dX2_finishCutSplit_35 (by decide) (fun c35 => ?_) (fun c35 => ?_)
    · exact absurd rfl c35
    · refine lv_aload_n C.hx C.hb dX2_finishCutSplit_38 rfl (lv_at hl 0 rfl) ?_
      refine lv_aload_n C.hx C.hb dX2_finishCutSplit_39 rfl (lv_at hl 0 rfl) ?_
      refine x2g_14 C X (x := nI (cp)) hv14 dX2_finishCutSplit_40 ?_
      refine lv_aload_n C.hx C.hb dX2_finishCutSplit_43 rfl (lv_at hl 0 rfl) ?_
      refine x2g_9 C X (x := nI (nx)) hv9 dX2_finishCutSplit_44 ?_
      refine lv_iconst (v := nI (1)) C.hx C.hb dX2_finishCutSplit_47 (by decide) ?_
      refine n_sub C dX2_finishCutSplit_48 (by omega) ?_
      refine x2_cw (As := [.int (nI (cp)), .int (nI (nx - 1))]) (rest := []) C X (c2_halveInterval (i := cp) (num := (nx - 1)) (by omega) (by omega) (by omega) (by omega) (by omega) (by omega) (by omega) (by omega) (by omega)) wy_X2_halveInterval ts_18 tw_190 rfl ⟨by decide, by decide⟩ rfl hl.1 rfl (Nat.le_of_ble_eq_true rfl) ⟨Nat.le_refl _, Nat.le_refl _⟩ dX2_finishCutSplit_49 (fun r v' kd' K' L' N' S' P' H locs hp X => ?_)
      obtain ⟨rfl, rfl, rfl, rfl, rfl, rfl, rfl, rfl⟩ := hp
      refine W.eq (g2 := F0 m 52 ls []) rfl ?_
      refine lv_goto (tgt := 65) C.hx C.hb dX2_finishCutSplit_52 (by decide) ?_
      exact ret2_v C X (⟨rfl, rfl, rfl, rfl, rfl, rfl, rfl, rfl⟩) dX2_finishCutSplit_65
  · exact absurd c7 (by decide)
set_option maxHeartbeats 4000000 in
set_option maxRecDepth 100000 in
/-- a cut split is finished, kind 1 -/
theorem c2_fin1 {l : Launch} {E : Gq} {z : Nat → Nat} {v : Nat → Int32} {K : List Int64} {L N S P : List Nat}  : M2w l E yX2_finishCutSplit cX2_finishCutSplit 1 none 5 [.ref (z 0)] z v 1 K L N S P (fun r v' kd' K' L' N' S' P' => none = r ∧ upd v 15 (v 15 + nI 1) = v' ∧ 1 = kd' ∧ K = K' ∧ L = L' ∧ N = N' ∧ S = S' ∧ P = P') := by
  intro f hf
  obtain ⟨b1, b2, b3, b4, b5⟩ := hf.lens
  refine mk_w (by decide) (Nat.le_of_ble_eq_true rfl) ?_
  intro p e s m below meth c ls C Wd hl
  have X : X2w E _ z v 1 K L N S P s s.heap [] := ⟨f, Wd, hf⟩
  have hl : lv_has ls 1 [(0, .ref (z 0))] := hl
  refine lv_aload_n C.hx C.hb dX2_finishCutSplit_0 rfl (lv_at hl 0 rfl) ?_
  refine x2g_13 C X dX2_finishCutSplit_1 ?_
  refine x2_kind_2 C X dX2_finishCutSplit_4 ?_
  refine x2_acmp_ne (tgt := 28) C (i := (1)) (j := 2) (by decide) (by decide) dX2_finishCutSplit_7 (by decide) (fun c7 => ?_) (fun c7 => ?_)
  · refine lv_aload_n C.hx C.hb dX2_finishCutSplit_28 rfl (lv_at hl 0 rfl) ?_
    refine x2g_13 C X dX2_finishCutSplit_29 ?_
    refine x2_kind_0 C X dX2_finishCutSplit_32 ?_
    refine x2_acmp_ne (tgt := 55) C (i := (1)) (j := 0) (by decide) (by decide) dX2_finishCutSplit_35 (by decide) (fun c35 => ?_) (fun c35 => ?_)
    · refine lv_aload_n C.hx C.hb dX2_finishCutSplit_55 rfl (lv_at hl 0 rfl) ?_
      refine lv_dup C.hx C.hb dX2_finishCutSplit_56 rfl ?_
      refine x2g_15 C X (x := v 15) rfl dX2_finishCutSplit_57 ?_
      refine lv_iconst (v := nI (1)) C.hx C.hb dX2_finishCutSplit_60 (by decide) ?_
      refine lv_iadd C.hx C.hb dX2_finishCutSplit_61 ?_
      refine x2p_15 C X dX2_finishCutSplit_62 (fun H locs X => ?_)
      exact ret2_v C X (⟨rfl, rfl, rfl, rfl, rfl, rfl, rfl, rfl⟩) dX2_finishCutSplit_65
    · exact absurd c35 (by decide)
  · exact absurd c7 (by decide)
set_option maxHeartbeats 4000000 in
set_option maxRecDepth 100000 in
/-- open: it was not closed -/
theorem c2_open_n {l : Launch} {E : Gq} {z : Nat → Nat} {v : Nat → Int32} {kd : Nat} {K : List Int64} {L N S P : List Nat} (hv11 : v 11 = nI 0) : M2w l E yX2_open cX2_open 1 (some .int) 6 [.ref (z 0)] z v kd K L N S P (fun r v' kd' K' L' N' S' P' => some (.int (nI 0)) = r ∧ v = v' ∧ kd = kd' ∧ K = K' ∧ L = L' ∧ N = N' ∧ S = S' ∧ P = P') := by
  intro f hf
  obtain ⟨b1, b2, b3, b4, b5⟩ := hf.lens
  refine mk_w (by decide) (Nat.le_of_ble_eq_true rfl) ?_
  intro p e s m below meth c ls C Wd hl
  have X : X2w E _ z v kd K L N S P s s.heap [] := ⟨f, Wd, hf⟩
  have hl : lv_has ls 1 [(0, .ref (z 0))] := hl
  refine lv_aload_n C.hx C.hb dX2_open_0 rfl (lv_at hl 0 rfl) ?_
  refine x2g_11 C X (x := nI (0)) hv11 dX2_open_1 ?_
  refine n_if_ne (tgt := 9) C dX2_open_4 (by decide) (by decide) (fun h => absurd h (by decide)) (fun _ => ?_)
  refine lv_iconst (v := nI (0)) C.hx C.hb dX2_open_7 (by decide) ?_
  exact ret2_i C X (⟨rfl, rfl, rfl, rfl, rfl, rfl, rfl, rfl⟩) dX2_open_8
set_option maxHeartbeats 4000000 in
set_option maxRecDepth 100000 in
/-- open: undone -/
theorem c2_open_u {l : Launch} {E : Gq} {z : Nat → Nat} {v : Nat → Int32} {kd : Nat} {K : List Int64} {L N S P : List Nat} (hv11 : v 11 = nI 1) (hv12 : v 12 = nI 0) : M2w l E yX2_open cX2_open 1 (some .int) 6 [.ref (z 0)] z v kd K L N S P (fun r v' kd' K' L' N' S' P' => some (.int (nI 1)) = r ∧ upd (upd v 11 (nI 0)) 17 (v 17 + nI 1) = v' ∧ kd = kd' ∧ K = K' ∧ L = L' ∧ N = N' ∧ S = S' ∧ P = P') := by
  intro f hf
  obtain ⟨b1, b2, b3, b4, b5⟩ := hf.lens
  refine mk_w (by decide) (Nat.le_of_ble_eq_true rfl) ?_
  intro p e s m below meth c ls C Wd hl
  have X : X2w E _ z v kd K L N S P s s.heap [] := ⟨f, Wd, hf⟩
  have hl : lv_has ls 1 [(0, .ref (z 0))] := hl
  refine lv_aload_n C.hx C.hb dX2_open_0 rfl (lv_at hl 0 rfl) ?_
  refine x2g_11 C X (x := nI (1)) hv11 dX2_open_1 ?_
  refine n_if_ne (tgt := 9) C dX2_open_4 (by decide) (by decide) (fun _ => ?_) (fun h => absurd h (by decide))
  refine lv_aload_n C.hx C.hb dX2_open_9 rfl (lv_at hl 0 rfl) ?_
  refine lv_iconst (v := nI (0)) C.hx C.hb dX2_open_10 (by decide) ?_
  refine x2p_11 C X (by decide) (by decide) dX2_open_11 (fun H locs X => ?_)
  refine lv_aload_n C.hx C.hb dX2_open_14 rfl (lv_at hl 0 rfl) ?_
  refine x2g_12 C X (x := nI (0)) hv12 dX2_open_15 ?_
  refine n_if_ne (tgt := 33) C dX2_open_18 (by decide) (by decide) (fun h => absurd h (by decide)) (fun _ => ?_)
  refine lv_aload_n C.hx C.hb dX2_open_21 rfl (lv_at hl 0 rfl) ?_
  refine lv_dup C.hx C.hb dX2_open_22 rfl ?_
  refine x2g_17 C X (x := (upd v 11 (nI (0))) 17) rfl dX2_open_23 ?_
  refine lv_iconst (v := nI (1)) C.hx C.hb dX2_open_26 (by decide) ?_
  refine lv_iadd C.hx C.hb dX2_open_27 ?_
  refine x2p_17 C X dX2_open_28 (fun H locs X => ?_)
  refine lv_iconst (v := nI (1)) C.hx C.hb dX2_open_31 (by decide) ?_
  exact ret2_i C X (⟨rfl, rfl, rfl, rfl, rfl, rfl, rfl, rfl⟩) dX2_open_32
set_option maxHeartbeats 4000000 in
set_option maxRecDepth 100000 in
/-- open: finished, kind 2 -/
theorem c2_open_2 {l : Launch} {E : Gq} {z : Nat → Nat} {v : Nat → Int32} {K : List Int64} {L N S P : List Nat} (hv11 : v 11 = nI 1) (hv12 : v 12 = nI 1) {cp wd : Nat} (hw : v 1 = nI wd) (hwd : wd ≤ 20) (hv14 : v 14 = nI cp) (hJ : J2 K L N S P) (hk : K.length < 600) (hc : cp < S.length) (hp : wd / 2 ≤ P.getD (gOf P cp) 0) : M2w l E yX2_open cX2_open 1 (some .int) 6 [.ref (z 0)] z v 2 K L N S P (fun r v' kd' K' L' N' S' P' => some (.int (nI 2)) = r ∧ upd (upd (upd v 11 (nI 0)) 16 (v 16 + nI 1)) 18 (v 18 + nI 1) = v' ∧ 2 = kd' ∧ K = K' ∧ L = L' ∧ N = N' ∧ S = S' ∧ ins (P.set (gOf P cp) (P.getD (gOf P cp) 0 - wd / 2)) (gOf P cp + 1) (wd / 2) = P') := by
  intro f hf
  obtain ⟨b1, b2, b3, b4, b5⟩ := hf.lens
  refine mk_w (by decide) (Nat.le_of_ble_eq_true rfl) ?_
  intro p e s m below meth c ls C Wd hl
  have X : X2w E _ z v 2 K L N S P s s.heap [] := ⟨f, Wd, hf⟩
  have hl : lv_has ls 1 [(0, .ref (z 0))] := hl
  refine lv_aload_n C.hx C.hb dX2_open_0 rfl (lv_at hl 0 rfl) ?_
  refine x2g_11 C X (x := nI (1)) hv11 dX2_open_1 ?_
  refine n_if_ne (tgt := 9) C dX2_open_4 (by decide) (by decide) (fun _ => ?_) (fun h => absurd h (by decide))
  refine lv_aload_n C.hx C.hb dX2_open_9 rfl (lv_at hl 0 rfl) ?_
  refine lv_iconst (v := nI (0)) C.hx C.hb dX2_open_10 (by decide) ?_
  refine x2p_11 C X (by decide) (by decide) dX2_open_11 (fun H locs X => ?_)
  refine lv_aload_n C.hx C.hb dX2_open_14 rfl (lv_at hl 0 rfl) ?_
  refine x2g_12 C X (x := nI (1)) hv12 dX2_open_15 ?_
  refine n_if_ne (tgt := 33) C dX2_open_18 (by decide) (by decide) (fun _ => ?_) (fun h => absurd h (by decide))
  refine lv_aload_n C.hx C.hb dX2_open_33 rfl (lv_at hl 0 rfl) ?_
  refine x2_cw (As := []) (rest := []) C X (c2_fin2 (cp := cp) (wd := wd) hw hwd hv14 hJ hk hc hp) wy_X2_finishCutSplit ts_23 tw_234 rfl ⟨by decide, by decide⟩ rfl hl.1 rfl (Nat.le_of_ble_eq_true rfl) ⟨Nat.le_refl _, Nat.le_refl _⟩ dX2_open_34 (fun r v' kd' K' L' N' S' P' H locs hp X => ?_)
  obtain ⟨rfl, rfl, rfl, rfl, rfl, rfl, rfl, rfl⟩ := hp
  refine W.eq (g2 := F0 m 37 ls []) rfl ?_
  refine lv_aload_n C.hx C.hb dX2_open_37 rfl (lv_at hl 0 rfl) ?_
  refine lv_dup C.hx C.hb dX2_open_38 rfl ?_
  refine x2g_18 C X (x := (upd (upd v 11 (nI (0))) 16 ((upd v 11 (nI (0))) 16 + nI 1)) 18) rfl dX2_open_39 ?_
  refine lv_iconst (v := nI (1)) C.hx C.hb dX2_open_42 (by decide) ?_
  refine lv_iadd C.hx C.hb dX2_open_43 ?_
  refine x2p_18 C X dX2_open_44 (fun H locs X => ?_)
  refine lv_iconst (v := nI (2)) C.hx C.hb dX2_open_47 (by decide) ?_
  exact ret2_i C X (⟨rfl, rfl, rfl, rfl, rfl, rfl, rfl, rfl⟩) dX2_open_48
set_option maxHeartbeats 4000000 in
set_option maxRecDepth 100000 in
/-- open: finished, kind 0 -/
theorem c2_open_0 {l : Launch} {E : Gq} {z : Nat → Nat} {v : Nat → Int32} {K : List Int64} {L N S P : List Nat} (hv11 : v 11 = nI 1) (hv12 : v 12 = nI 1) {cp nx : Nat} (hv9 : v 9 = nI nx) (hnx : nx < 2 ^ 31) (hnx1 : 1 ≤ nx) (hv14 : v 14 = nI cp) (hJ : J2 K L N S P) (hk : K.length < 600) (hc : cp < S.length) (htwo : 2 ≤ S.getD cp 0) : M2w l E yX2_open cX2_open 1 (some .int) 6 [.ref (z 0)] z v 0 K L N S P (fun r v' kd' K' L' N' S' P' => some (.int (nI 2)) = r ∧ upd (upd (upd v 11 (nI 0)) 15 (v 15 + nI 1)) 18 (v 18 + nI 1) = v' ∧ 0 = kd' ∧ K = K' ∧ L = L' ∧ ins N (cp + 1) (nx - 1) = N' ∧ ins (S.set cp (S.getD cp 0 - (S.getD cp 0 - kbh L S cp))) (cp + 1) (S.getD cp 0 - kbh L S cp) = S' ∧ P.set (gOf P cp) (P.getD (gOf P cp) 0 + 1) = P') := by
  intro f hf
  obtain ⟨b1, b2, b3, b4, b5⟩ := hf.lens
  refine mk_w (by decide) (Nat.le_of_ble_eq_true rfl) ?_
  intro p e s m below meth c ls C Wd hl
  have X : X2w E _ z v 0 K L N S P s s.heap [] := ⟨f, Wd, hf⟩
  have hl : lv_has ls 1 [(0, .ref (z 0))] := hl
  refine lv_aload_n C.hx C.hb dX2_open_0 rfl (lv_at hl 0 rfl) ?_
  refine x2g_11 C X (x := nI (1)) hv11 dX2_open_1 ?_
  refine n_if_ne (tgt := 9) C dX2_open_4 (by decide) (by decide) (fun _ => ?_) (fun h => absurd h (by decide))
  refine lv_aload_n C.hx C.hb dX2_open_9 rfl (lv_at hl 0 rfl) ?_
  refine lv_iconst (v := nI (0)) C.hx C.hb dX2_open_10 (by decide) ?_
  refine x2p_11 C X (by decide) (by decide) dX2_open_11 (fun H locs X => ?_)
  refine lv_aload_n C.hx C.hb dX2_open_14 rfl (lv_at hl 0 rfl) ?_
  refine x2g_12 C X (x := nI (1)) hv12 dX2_open_15 ?_
  refine n_if_ne (tgt := 33) C dX2_open_18 (by decide) (by decide) (fun _ => ?_) (fun h => absurd h (by decide))
  refine lv_aload_n C.hx C.hb dX2_open_33 rfl (lv_at hl 0 rfl) ?_
  refine x2_cw (As := []) (rest := []) C X (c2_fin0 (cp := cp) (nx := nx) hv9 hnx hnx1 hv14 hJ hk hc htwo) wy_X2_finishCutSplit ts_23 tw_234 rfl ⟨by decide, by decide⟩ rfl hl.1 rfl (Nat.le_of_ble_eq_true rfl) ⟨Nat.le_refl _, Nat.le_refl _⟩ dX2_open_34 (fun r v' kd' K' L' N' S' P' H locs hp X => ?_)
  obtain ⟨rfl, rfl, rfl, rfl, rfl, rfl, rfl, rfl⟩ := hp
  refine W.eq (g2 := F0 m 37 ls []) rfl ?_
  refine lv_aload_n C.hx C.hb dX2_open_37 rfl (lv_at hl 0 rfl) ?_
  refine lv_dup C.hx C.hb dX2_open_38 rfl ?_
  refine x2g_18 C X (x := (upd (upd v 11 (nI (0))) 15 ((upd v 11 (nI (0))) 15 + nI 1)) 18) rfl dX2_open_39 ?_
  refine lv_iconst (v := nI (1)) C.hx C.hb dX2_open_42 (by decide) ?_
  refine lv_iadd C.hx C.hb dX2_open_43 ?_
  refine x2p_18 C X dX2_open_44 (fun H locs X => ?_)
  refine lv_iconst (v := nI (2)) C.hx C.hb dX2_open_47 (by decide) ?_
  exact ret2_i C X (⟨rfl, rfl, rfl, rfl, rfl, rfl, rfl, rfl⟩) dX2_open_48
set_option maxHeartbeats 4000000 in
set_option maxRecDepth 100000 in
/-- open: finished, kind 1 -/
theorem c2_open_1 {l : Launch} {E : Gq} {z : Nat → Nat} {v : Nat → Int32} {K : List Int64} {L N S P : List Nat} (hv11 : v 11 = nI 1) (hv12 : v 12 = nI 1)  : M2w l E yX2_open cX2_open 1 (some .int) 6 [.ref (z 0)] z v 1 K L N S P (fun r v' kd' K' L' N' S' P' => some (.int (nI 2)) = r ∧ upd (upd (upd v 11 (nI 0)) 15 (v 15 + nI 1)) 18 (v 18 + nI 1) = v' ∧ 1 = kd' ∧ K = K' ∧ L = L' ∧ N = N' ∧ S = S' ∧ P = P') := by
  intro f hf
  obtain ⟨b1, b2, b3, b4, b5⟩ := hf.lens
  refine mk_w (by decide) (Nat.le_of_ble_eq_true rfl) ?_
  intro p e s m below meth c ls C Wd hl
  have X : X2w E _ z v 1 K L N S P s s.heap [] := ⟨f, Wd, hf⟩
  have hl : lv_has ls 1 [(0, .ref (z 0))] := hl
  refine lv_aload_n C.hx C.hb dX2_open_0 rfl (lv_at hl 0 rfl) ?_
  refine x2g_11 C X (x := nI (1)) hv11 dX2_open_1 ?_
  refine n_if_ne (tgt := 9) C dX2_open_4 (by decide) (by decide) (fun _ => ?_) (fun h => absurd h (by decide))
  refine lv_aload_n C.hx C.hb dX2_open_9 rfl (lv_at hl 0 rfl) ?_
  refine lv_iconst (v := nI (0)) C.hx C.hb dX2_open_10 (by decide) ?_
  refine x2p_11 C X (by decide) (by decide) dX2_open_11 (fun H locs X => ?_)
  refine lv_aload_n C.hx C.hb dX2_open_14 rfl (lv_at hl 0 rfl) ?_
  refine x2g_12 C X (x := nI (1)) hv12 dX2_open_15 ?_
  refine n_if_ne (tgt := 33) C dX2_open_18 (by decide) (by decide) (fun _ => ?_) (fun h => absurd h (by decide))
  refine lv_aload_n C.hx C.hb dX2_open_33 rfl (lv_at hl 0 rfl) ?_
  refine x2_cw (As := []) (rest := []) C X (c2_fin1) wy_X2_finishCutSplit ts_23 tw_234 rfl ⟨by decide, by decide⟩ rfl hl.1 rfl (Nat.le_of_ble_eq_true rfl) ⟨Nat.le_refl _, Nat.le_refl _⟩ dX2_open_34 (fun r v' kd' K' L' N' S' P' H locs hp X => ?_)
  obtain ⟨rfl, rfl, rfl, rfl, rfl, rfl, rfl, rfl⟩ := hp
  refine W.eq (g2 := F0 m 37 ls []) rfl ?_
  refine lv_aload_n C.hx C.hb dX2_open_37 rfl (lv_at hl 0 rfl) ?_
  refine lv_dup C.hx C.hb dX2_open_38 rfl ?_
  refine x2g_18 C X (x := (upd (upd v 11 (nI (0))) 15 ((upd v 11 (nI (0))) 15 + nI 1)) 18) rfl dX2_open_39 ?_
  refine lv_iconst (v := nI (1)) C.hx C.hb dX2_open_42 (by decide) ?_
  refine lv_iadd C.hx C.hb dX2_open_43 ?_
  refine x2p_18 C X dX2_open_44 (fun H locs X => ?_)
  refine lv_iconst (v := nI (2)) C.hx C.hb dX2_open_47 (by decide) ?_
  exact ret2_i C X (⟨rfl, rfl, rfl, rfl, rfl, rfl, rfl, rfl⟩) dX2_open_48
set_option maxHeartbeats 4000000 in
set_option maxRecDepth 100000 in
/-- cut: closed -/
theorem c2_cut_c {l : Launch} {E : Gq} {z : Nat → Nat} {v : Nat → Int32} {kd : Nat} {K : List Int64} {L N S P : List Nat} {wr : Int32} (hv11 : v 11 = nI 1) : M2w l E yX2_cut cX2_cut 3 (some .int) 0 [.ref (z 0), .int (wr)] z v kd K L N S P (fun r v' kd' K' L' N' S' P' => some (.int (-5)) = r ∧ v = v' ∧ kd = kd' ∧ K = K' ∧ L = L' ∧ N = N' ∧ S = S' ∧ P = P') := by
  intro f hf
  obtain ⟨b1, b2, b3, b4, b5⟩ := hf.lens
  refine mk_w (by decide) (Nat.le_of_ble_eq_true rfl) ?_
  intro p e s m below meth c ls C Wd hl
  have X : X2w E _ z v kd K L N S P s s.heap [] := ⟨f, Wd, hf⟩
  have hl : lv_has ls 3 [(0, .ref (z 0)), (1, .int (wr))] := hl
  refine lv_aload_n C.hx C.hb dX2_cut_0 rfl (lv_at hl 0 rfl) ?_
  refine x2g_11 C X (x := nI (1)) hv11 dX2_cut_1 ?_
  refine n_if_eq (tgt := 10) C dX2_cut_4 (by decide) (by decide) (fun h => absurd h (by decide)) (fun _ => ?_)
  refine lv_bipush (v := (-5)) C.hx C.hb dX2_cut_7 (by decide) ?_
  exact ret2_i C X (⟨rfl, rfl, rfl, rfl, rfl, rfl, rfl, rfl⟩) dX2_cut_9
set_option maxHeartbeats 4000000 in
set_option maxRecDepth 100000 in
/-- cut: no such write -/
theorem c2_cut_b {l : Launch} {E : Gq} {z : Nat → Nat} {v : Nat → Int32} {kd : Nat} {K : List Int64} {L N S P : List Nat} {wr : Int32} (hv11 : v 11 = nI 0) (hb : wr < 0 ∨ nI 4 < wr) : M2w l E yX2_cut cX2_cut 3 (some .int) 0 [.ref (z 0), .int (wr)] z v kd K L N S P (fun r v' kd' K' L' N' S' P' => some (.int (-1)) = r ∧ v = v' ∧ kd = kd' ∧ K = K' ∧ L = L' ∧ N = N' ∧ S = S' ∧ P = P') := by
  intro f hf
  obtain ⟨b1, b2, b3, b4, b5⟩ := hf.lens
  refine mk_w (by decide) (Nat.le_of_ble_eq_true rfl) ?_
  intro p e s m below meth c ls C Wd hl
  have X : X2w E _ z v kd K L N S P s s.heap [] := ⟨f, Wd, hf⟩
  have hl : lv_has ls 3 [(0, .ref (z 0)), (1, .int (wr))] := hl
  refine lv_aload_n C.hx C.hb dX2_cut_0 rfl (lv_at hl 0 rfl) ?_
  refine x2g_11 C X (x := nI (0)) hv11 dX2_cut_1 ?_
  refine n_if_eq (tgt := 10) C dX2_cut_4 (by decide) (by decide) (fun _ => ?_) (fun h => absurd h (by decide))
  refine lv_iload_n C.hx C.hb dX2_cut_10 rfl (lv_at hl 1 rfl) ?_
  refine lv_if_lt (tgt := 19) C.hx C.hb dX2_cut_11 (by decide) (fun c11 => ?_) (fun c11 => ?_)
  · refine lv_iconst (v := (-1)) C.hx C.hb dX2_cut_19 (by decide) ?_
    exact ret2_i C X (⟨rfl, rfl, rfl, rfl, rfl, rfl, rfl, rfl⟩) dX2_cut_20
  · refine lv_iload_n C.hx C.hb dX2_cut_14 rfl (lv_at hl 1 rfl) ?_
    refine lv_iconst (v := nI (4)) C.hx C.hb dX2_cut_15 (by decide) ?_
    refine lv_icmp_le (tgt := 21) C.hx C.hb dX2_cut_16 (by decide) (fun c16 => ?_) (fun c16 => ?_)
    · exact hb.elim (fun h => absurd h c11) (fun h => absurd c16 (Int32.not_le.mpr h))
    · refine lv_iconst (v := (-1)) C.hx C.hb dX2_cut_19 (by decide) ?_
      exact ret2_i C X (⟨rfl, rfl, rfl, rfl, rfl, rfl, rfl, rfl⟩) dX2_cut_20
set_option maxHeartbeats 4000000 in
set_option maxRecDepth 100000 in
/-- cut -/
theorem c2_cut_g {l : Launch} {E : Gq} {z : Nat → Nat} {v : Nat → Int32} {kd : Nat} {K : List Int64} {L N S P : List Nat} {q tc : Nat} (hv11 : v 11 = nI 0) (hv10 : v 10 = nI tc) (hq : q ≤ 4) : M2w l E yX2_cut cX2_cut 3 (some .int) 0 [.ref (z 0), .int (nI (q))] z v kd K L N S P (fun r v' kd' K' L' N' S' P' => some (.int (nI tc)) = r ∧ upd v 10 (nI q) = v' ∧ kd = kd' ∧ K = K' ∧ L = L' ∧ N = N' ∧ S = S' ∧ P = P') := by
  intro f hf
  obtain ⟨b1, b2, b3, b4, b5⟩ := hf.lens
  refine mk_w (by decide) (Nat.le_of_ble_eq_true rfl) ?_
  intro p e s m below meth c ls C Wd hl
  have X : X2w E _ z v kd K L N S P s s.heap [] := ⟨f, Wd, hf⟩
  have hl : lv_has ls 3 [(0, .ref (z 0)), (1, .int (nI (q)))] := hl
  refine lv_aload_n C.hx C.hb dX2_cut_0 rfl (lv_at hl 0 rfl) ?_
  refine x2g_11 C X (x := nI (0)) hv11 dX2_cut_1 ?_
  refine n_if_eq (tgt := 10) C dX2_cut_4 (by decide) (by decide) (fun _ => ?_) (fun h => absurd h (by decide))
  refine lv_iload_n C.hx C.hb dX2_cut_10 rfl (lv_at hl 1 rfl) ?_
  refine n_if_lt (tgt := 19) C dX2_cut_11 (by decide) (by omega) ?_
  refine lv_iload_n C.hx C.hb dX2_cut_14 rfl (lv_at hl 1 rfl) ?_
  refine lv_iconst (v := nI (4)) C.hx C.hb dX2_cut_15 (by decide) ?_
  refine n_icmp_le (tgt := 21) C dX2_cut_16 (by decide) (by omega) (by omega) (fun c16 => ?_) (fun c16 => ?_)
  · refine lv_aload_n C.hx C.hb dX2_cut_21 rfl (lv_at hl 0 rfl) ?_
    refine x2g_10 C X (x := nI (tc)) hv10 dX2_cut_22 ?_
    refine lv_istore_n (lv' := [(2, .int (nI (tc))), (0, .ref (z 0)), (1, .int (nI (q)))]) C.hx C.hb dX2_cut_25 rfl hl (by decide) rfl (fun ls hl => ?_)
    refine lv_aload_n C.hx C.hb dX2_cut_26 rfl (lv_at hl 1 rfl) ?_
    refine lv_iload_n C.hx C.hb dX2_cut_27 rfl (lv_at hl 2 rfl) ?_
    refine x2p_10 C X dX2_cut_28 (fun H locs X => ?_)
    refine lv_iload_n C.hx C.hb dX2_cut_31 rfl (lv_at hl 0 rfl) ?_
    exact ret2_i C X (⟨rfl, rfl, rfl, rfl, rfl, rfl, rfl, rfl⟩) dX2_cut_32
  · omega
set_option maxHeartbeats 4000000 in
set_option maxRecDepth 100000 in
/-- put: closed -/
theorem c2_put_c {l : Launch} {E : Gq} {z : Nat → Nat} {v : Nat → Int32} {kd : Nat} {K : List Int64} {L N S P : List Nat} {key : Int64} {ln : Int32} (hv11 : v 11 = nI 1) : M2w l E yX2_put cX2_put 4 (some .int) 6 [.ref (z 0), .long (key), .int (ln)] z v kd K L N S P (fun r v' kd' K' L' N' S' P' => some (.int (-5)) = r ∧ v = v' ∧ kd = kd' ∧ K = K' ∧ L = L' ∧ N = N' ∧ S = S' ∧ P = P') := by
  intro f hf
  obtain ⟨b1, b2, b3, b4, b5⟩ := hf.lens
  refine mk_w (by decide) (Nat.le_of_ble_eq_true rfl) ?_
  intro p e s m below meth c ls C Wd hl
  have X : X2w E _ z v kd K L N S P s s.heap [] := ⟨f, Wd, hf⟩
  have hl : lv_has ls 4 [(0, .ref (z 0)), (1, .long (key)), (3, .int (ln))] := hl
  refine lv_aload_n C.hx C.hb dX2_put_0 rfl (lv_at hl 0 rfl) ?_
  refine x2g_11 C X (x := nI (1)) hv11 dX2_put_1 ?_
  refine n_if_eq (tgt := 10) C dX2_put_4 (by decide) (by decide) (fun h => absurd h (by decide)) (fun _ => ?_)
  refine lv_bipush (v := (-5)) C.hx C.hb dX2_put_7 (by decide) ?_
  exact ret2_i C X (⟨rfl, rfl, rfl, rfl, rfl, rfl, rfl, rfl⟩) dX2_put_9
set_option maxHeartbeats 4000000 in
set_option maxRecDepth 100000 in
/-- put: the key is there -/
theorem c2_put_h {l : Launch} {E : Gq} {z : Nat → Nat} {v : Nat → Int32} {kd : Nat} {K : List Int64} {L N S P : List Nat} {key : Int64} {ln : Int32} (hv11 : v 11 = nI 0) (hh : hask K key) : M2w l E yX2_put cX2_put 4 (some .int) 6 [.ref (z 0), .long (key), .int (ln)] z v kd K L N S P (fun r v' kd' K' L' N' S' P' => some (.int (nI 0)) = r ∧ v = v' ∧ kd = kd' ∧ K = K' ∧ L = L' ∧ N = N' ∧ S = S' ∧ P = P') := by
  intro f hf
  obtain ⟨b1, b2, b3, b4, b5⟩ := hf.lens
  refine mk_w (by decide) (Nat.le_of_ble_eq_true rfl) ?_
  intro p e s m below meth c ls C Wd hl
  have X : X2w E _ z v kd K L N S P s s.heap [] := ⟨f, Wd, hf⟩
  have hl : lv_has ls 4 [(0, .ref (z 0)), (1, .long (key)), (3, .int (ln))] := hl
  have hng := ngt_le K key
  refine lv_aload_n C.hx C.hb dX2_put_0 rfl (lv_at hl 0 rfl) ?_
  refine x2g_11 C X (x := nI (0)) hv11 dX2_put_1 ?_
  refine n_if_eq (tgt := 10) C dX2_put_4 (by decide) (by decide) (fun _ => ?_) (fun h => absurd h (by decide))
  refine lv_aload_n C.hx C.hb dX2_put_10 rfl (lv_at hl 0 rfl) ?_
  refine lv_lload_n C.hx C.hb dX2_put_11 rfl (lv_at hl 1 rfl) ?_
  refine x2_cr (As := [.long (key)]) (rest := []) C X (c2_positionOf (key := key)) wy_X2_positionOf ts_6 tw_137 rfl ⟨by decide, by decide⟩ rfl hl.1 rfl (Nat.le_of_ble_eq_true rfl) ⟨Nat.le_refl _, Nat.le_refl _⟩ dX2_put_12 (fun r hp => ?_)
  subst hp
  refine W.eq (g2 := F0 m 15 ls [.int (pof K key)]) rfl ?_
  refine n_re (pof_y hh) ?_
  refine lv_iconst (v := (-1)) C.hx C.hb dX2_put_15 (by decide) ?_
  refine lv_icmp_eq (tgt := 21) C.hx C.hb dX2_put_16 (by decide) (fun c16 => ?_) (fun c16 => ?_)
  · exact absurd c16 (nI_m1 (by omega))
  · refine lv_iconst (v := nI (0)) C.hx C.hb dX2_put_19 (by decide) ?_
    exact ret2_i C X (⟨rfl, rfl, rfl, rfl, rfl, rfl, rfl, rfl⟩) dX2_put_20
set_option maxHeartbeats 4000000 in
set_option maxRecDepth 100000 in
/-- put: no such length -/
theorem c2_put_b {l : Launch} {E : Gq} {z : Nat → Nat} {v : Nat → Int32} {kd : Nat} {K : List Int64} {L N S P : List Nat} {key : Int64} {ln : Int32} {rm : Nat} (hv11 : v 11 = nI 0) (hv0 : v 0 = nI rm) (hh : ¬ hask K key) (hb : ln < nI 1 ∨ nI rm < ln) : M2w l E yX2_put cX2_put 4 (some .int) 6 [.ref (z 0), .long (key), .int (ln)] z v kd K L N S P (fun r v' kd' K' L' N' S' P' => some (.int (-1)) = r ∧ v = v' ∧ kd = kd' ∧ K = K' ∧ L = L' ∧ N = N' ∧ S = S' ∧ P = P') := by
  intro f hf
  obtain ⟨b1, b2, b3, b4, b5⟩ := hf.lens
  refine mk_w (by decide) (Nat.le_of_ble_eq_true rfl) ?_
  intro p e s m below meth c ls C Wd hl
  have X : X2w E _ z v kd K L N S P s s.heap [] := ⟨f, Wd, hf⟩
  have hl : lv_has ls 4 [(0, .ref (z 0)), (1, .long (key)), (3, .int (ln))] := hl
  refine lv_aload_n C.hx C.hb dX2_put_0 rfl (lv_at hl 0 rfl) ?_
  refine x2g_11 C X (x := nI (0)) hv11 dX2_put_1 ?_
  refine n_if_eq (tgt := 10) C dX2_put_4 (by decide) (by decide) (fun _ => ?_) (fun h => absurd h (by decide))
  refine lv_aload_n C.hx C.hb dX2_put_10 rfl (lv_at hl 0 rfl) ?_
  refine lv_lload_n C.hx C.hb dX2_put_11 rfl (lv_at hl 1 rfl) ?_
  refine x2_cr (As := [.long (key)]) (rest := []) C X (c2_positionOf (key := key)) wy_X2_positionOf ts_6 tw_137 rfl ⟨by decide, by decide⟩ rfl hl.1 rfl (Nat.le_of_ble_eq_true rfl) ⟨Nat.le_refl _, Nat.le_refl _⟩ dX2_put_12 (fun r hp => ?_)
  subst hp
  refine W.eq (g2 := F0 m 15 ls [.int (pof K key)]) rfl ?_
  refine n_re (pof_n hh) ?_
  refine lv_iconst (v := (-1)) C.hx C.hb dX2_put_15 (by decide) ?_
  refine lv_icmp_eq (tgt := 21) C.hx C.hb dX2_put_16 (by decide) (fun c16 => ?_) (fun c16 => ?_)
  · refine lv_iload_n C.hx C.hb dX2_put_21 rfl (lv_at hl 2 rfl) ?_
    refine lv_iconst (v := nI (1)) C.hx C.hb dX2_put_22 (by decide) ?_
    refine lv_icmp_lt (tgt := 47) C.hx C.hb dX2_put_23 (by decide) (fun c23 => ?_) (fun c23 => ?_)
    · refine lv_iconst (v := (-1)) C.hx C.hb dX2_put_47 (by decide) ?_
      exact ret2_i C X (⟨rfl, rfl, rfl, rfl, rfl, rfl, rfl, rfl⟩) dX2_put_48
    · refine lv_iload_n C.hx C.hb dX2_put_26 rfl (lv_at hl 2 rfl) ?_
      refine lv_aload_n C.hx C.hb dX2_put_27 rfl (lv_at hl 0 rfl) ?_
      refine x2g_0 C X (x := nI (rm)) hv0 dX2_put_28 ?_
      refine lv_icmp_gt (tgt := 47) C.hx C.hb dX2_put_31 (by decide) (fun c31 => ?_) (fun c31 => ?_)
      · refine lv_iconst (v := (-1)) C.hx C.hb dX2_put_47 (by decide) ?_
        exact ret2_i C X (⟨rfl, rfl, rfl, rfl, rfl, rfl, rfl, rfl⟩) dX2_put_48
      · exact hb.elim (fun h => absurd h c23) (fun h => absurd h c31)
  · exact absurd rfl c16
set_option maxHeartbeats 4000000 in
set_option maxRecDepth 100000 in
/-- put -/
theorem c2_put_g {l : Launch} {E : Gq} {z : Nat → Nat} {v : Nat → Int32} {kd : Nat} {K : List Int64} {L N S P : List Nat} {key : Int64} {len rm wd nx tc : Nat} (hrm : rm ≤ 1000) (hwd : wd ≤ 20) (hw2 : 2 ≤ wd) (hl1 : 1 ≤ len) (hl2 : len ≤ rm) (htc : tc ≤ 4) (hJ : J2 K L N S P) (hk : K.length < 600) (hnx : nx + 2400 < 2 ^ 30) (hv0 : v 0 = nI rm) (hw : v 1 = nI wd) (hv9 : v 9 = nI nx) (hv10 : v 10 = nI tc) (hv11 : v 11 = nI 0) (hh : ¬ hask K key) : M2w l E yX2_put cX2_put 4 (some .int) 6 [.ref (z 0), .long (key), .int (nI (len))] z v kd K L N S P (fun r v' kd' K' L' N' S' P' => ∃ q, some (.int (if q = 0 then -5 else nI 1)) = r ∧ q < 2 ∧ plc rm wd key len tc 2400 nx v kd K L N S P = (q, v', kd', K', L', N', S', P')) := by
  intro f hf
  obtain ⟨b1, b2, b3, b4, b5⟩ := hf.lens
  refine mk_w (by decide) (Nat.le_of_ble_eq_true rfl) ?_
  intro p e s m below meth c ls C Wd hl
  have X : X2w E _ z v kd K L N S P s s.heap [] := ⟨f, Wd, hf⟩
  have hl : lv_has ls 4 [(0, .ref (z 0)), (1, .long (key)), (3, .int (nI (len)))] := hl
  refine lv_aload_n C.hx C.hb dX2_put_0 rfl (lv_at hl 0 rfl) ?_
  refine x2g_11 C X (x := nI (0)) hv11 dX2_put_1 ?_
  refine n_if_eq (tgt := 10) C dX2_put_4 (by decide) (by decide) (fun _ => ?_) (fun h => absurd h (by decide))
  refine lv_aload_n C.hx C.hb dX2_put_10 rfl (lv_at hl 0 rfl) ?_
  refine lv_lload_n C.hx C.hb dX2_put_11 rfl (lv_at hl 1 rfl) ?_
  refine x2_cr (As := [.long (key)]) (rest := []) C X (c2_positionOf (key := key)) wy_X2_positionOf ts_6 tw_137 rfl ⟨by decide, by decide⟩ rfl hl.1 rfl (Nat.le_of_ble_eq_true rfl) ⟨Nat.le_refl _, Nat.le_refl _⟩ dX2_put_12 (fun r hp => ?_)
  subst hp
  refine W.eq (g2 := F0 m 15 ls [.int (pof K key)]) rfl ?_
  refine n_re (pof_n hh) ?_
  refine lv_iconst (v := (-1)) C.hx C.hb dX2_put_15 (by decide) ?_
  refine lv_icmp_eq (tgt := 21) C.hx C.hb dX2_put_16 (by decide) (fun c16 => ?_) (fun c16 => ?_)
  · refine lv_iload_n C.hx C.hb dX2_put_21 rfl (lv_at hl 2 rfl) ?_
    refine lv_iconst (v := nI (1)) C.hx C.hb dX2_put_22 (by decide) ?_
    refine n_icmp_lt (tgt := 47) C dX2_put_23 (by decide) (by omega) (by omega) (fun c23 => ?_) (fun c23 => ?_)
    · omega
    · refine lv_iload_n C.hx C.hb dX2_put_26 rfl (lv_at hl 2 rfl) ?_
      refine lv_aload_n C.hx C.hb dX2_put_27 rfl (lv_at hl 0 rfl) ?_
      refine x2g_0 C X (x := nI (rm)) hv0 dX2_put_28 ?_
      refine n_icmp_gt (tgt := 47) C dX2_put_31 (by decide) (by omega) (by omega) (fun c31 => ?_) (fun c31 => ?_)
      · omega
      · refine lv_aload_n C.hx C.hb dX2_put_34 rfl (lv_at hl 0 rfl) ?_
        refine x2g_4 C X dX2_put_35 ?_
        refine x2s_1 C X dX2_put_38 ?_
        refine lv_sipush (v := nI (600)) C.hx C.hb dX2_put_41 (by decide) ?_
        refine n_icmp_lt (tgt := 49) C dX2_put_44 (by decide) (by omega) (by omega) (fun c44 => ?_) (fun c44 => ?_)
        · refine lv_aload_n C.hx C.hb dX2_put_49 rfl (lv_at hl 0 rfl) ?_
          refine lv_lload_n C.hx C.hb dX2_put_50 rfl (lv_at hl 1 rfl) ?_
          refine lv_iload_n C.hx C.hb dX2_put_51 rfl (lv_at hl 2 rfl) ?_
          refine x2_cw (As := [.long (key), .int (nI (len))]) (rest := []) C X (c2_place (key := key) (len := len) hrm hwd hw2 (by omega) htc hJ hk hnx hv0 hw hv9 hv10) wy_X2_place ts_8 tw_146 rfl ⟨by decide, by decide⟩ rfl hl.1 rfl (Nat.le_of_ble_eq_true rfl) ⟨Nat.le_refl _, Nat.le_refl _⟩ dX2_put_52 (fun r v' kd' K' L' N' S' P' H locs hp X => ?_)
          obtain ⟨q, rfl, hq⟩ := hp
          have hq2 := plc_lt hq
          refine W.eq (g2 := F0 m 55 ls [.int (nI (q))]) rfl ?_
          refine n_if_eq (tgt := 62) C dX2_put_55 (by decide) (by omega) (fun c55 => ?_) (fun c55 => ?_)
          · refine lv_bipush (v := (-5)) C.hx C.hb dX2_put_62 (by decide) ?_
            exact ret2_i C X (⟨q, by rw [if_pos c55], hq2, hq⟩) dX2_put_64
          · refine lv_iconst (v := nI (1)) C.hx C.hb dX2_put_58 (by decide) ?_
            refine lv_goto (tgt := 64) C.hx C.hb dX2_put_59 (by decide) ?_
            exact ret2_i C X (⟨q, by rw [if_neg c55], hq2, hq⟩) dX2_put_64
        · omega
  · exact absurd rfl c16
set_option maxHeartbeats 4000000 in
set_option maxRecDepth 100000 in
/-- find -/
theorem c2_find_y {l : Launch} {E : Gq} {z : Nat → Nat} {v : Nat → Int32} {kd : Nat} {K : List Int64} {L N S P : List Nat} {key : Int64} (hh : hask K key) (hJ : J2 K L N S P) : M2r l E yX2_find cX2_find 4 (some .int) 3 [.ref (z 0), .long (key)] z v kd K L N S P (fun r => r = some (.int (nI (N.getD (gOf S (ngt K key - 1)) 0)))) := by
  intro f hf
  obtain ⟨b1, b2, b3, b4, b5⟩ := hf.lens
  refine mk_r (by decide) (Nat.le_of_ble_eq_true rfl) ?_
  intro p e s m below meth c ls C Wd hl
  have X : X2w E _ z v kd K L N S P s s.heap [] := ⟨f, Wd, hf⟩
  have hl : lv_has ls 4 [(0, .ref (z 0)), (1, .long (key))] := hl
  obtain ⟨j1, j2, j3, j4, j5, j6, j7, j8⟩ := id hJ
  obtain ⟨k1, k2, k3, k4⟩ := hJ.b
  have hng := ngt_le K key
  have hgo := gOf_lt (L := S) (m := ngt K key - 1) j5
  refine lv_aload_n C.hx C.hb dX2_find_0 rfl (lv_at hl 0 rfl) ?_
  refine lv_lload_n C.hx C.hb dX2_find_1 rfl (lv_at hl 1 rfl) ?_
  refine x2_cr (As := [.long (key)]) (rest := []) C X (c2_positionOf (key := key)) wy_X2_positionOf ts_6 tw_137 rfl ⟨by decide, by decide⟩ rfl hl.1 rfl (Nat.le_of_ble_eq_true rfl) ⟨Nat.le_refl _, Nat.le_refl _⟩ dX2_find_2 (fun r hp => ?_)
  subst hp
  refine W.eq (g2 := F0 m 5 ls [.int (pof K key)]) rfl ?_
  refine n_re (pof_y hh) ?_
  refine lv_istore_n (lv' := [(3, .int (nI (ngt K key - 1))), (0, .ref (z 0)), (1, .long (key))]) C.hx C.hb dX2_find_5 rfl hl (by decide) rfl (fun ls hl => ?_)
  refine lv_iload_n C.hx C.hb dX2_find_6 rfl (lv_at hl 0 rfl) ?_
  refine lv_iconst (v := (-1)) C.hx C.hb dX2_find_7 (by decide) ?_
  refine lv_icmp_ne (tgt := 15) C.hx C.hb dX2_find_8 (by decide) (fun c8 => ?_) (fun c8 => ?_)
  · refine lv_aload_n C.hx C.hb dX2_find_15 rfl (lv_at hl 1 rfl) ?_
    refine x2g_6 C X dX2_find_16 ?_
    refine lv_aload_n C.hx C.hb dX2_find_19 rfl (lv_at hl 1 rfl) ?_
    refine x2g_7 C X dX2_find_20 ?_
    refine lv_iload_n C.hx C.hb dX2_find_23 rfl (lv_at hl 0 rfl) ?_
    refine x2_groupOf_4 C X (by omega) (by omega) ⟨by decide, by decide⟩ hl.1 (Nat.le_of_ble_eq_true rfl) ⟨Nat.le_refl _, Nat.le_refl _⟩ dX2_find_24 ?_
    refine x2_intAt_3 C X (by omega) ⟨by decide, by decide⟩ hl.1 (Nat.le_of_ble_eq_true rfl) ⟨Nat.le_refl _, Nat.le_refl _⟩ dX2_find_27 ?_
    exact ret_ir C (rfl) dX2_find_30
  · exact absurd c8 (nI_m1 (by omega))
set_option maxHeartbeats 4000000 in
set_option maxRecDepth 100000 in
/-- find: not there -/
theorem c2_find_n {l : Launch} {E : Gq} {z : Nat → Nat} {v : Nat → Int32} {kd : Nat} {K : List Int64} {L N S P : List Nat} {key : Int64} (hh : ¬ hask K key) : M2r l E yX2_find cX2_find 4 (some .int) 3 [.ref (z 0), .long (key)] z v kd K L N S P (fun r => r = some (.int (-1))) := by
  intro f hf
  obtain ⟨b1, b2, b3, b4, b5⟩ := hf.lens
  refine mk_r (by decide) (Nat.le_of_ble_eq_true rfl) ?_
  intro p e s m below meth c ls C Wd hl
  have X : X2w E _ z v kd K L N S P s s.heap [] := ⟨f, Wd, hf⟩
  have hl : lv_has ls 4 [(0, .ref (z 0)), (1, .long (key))] := hl
  refine lv_aload_n C.hx C.hb dX2_find_0 rfl (lv_at hl 0 rfl) ?_
  refine lv_lload_n C.hx C.hb dX2_find_1 rfl (lv_at hl 1 rfl) ?_
  refine x2_cr (As := [.long (key)]) (rest := []) C X (c2_positionOf (key := key)) wy_X2_positionOf ts_6 tw_137 rfl ⟨by decide, by decide⟩ rfl hl.1 rfl (Nat.le_of_ble_eq_true rfl) ⟨Nat.le_refl _, Nat.le_refl _⟩ dX2_find_2 (fun r hp => ?_)
  subst hp
  refine W.eq (g2 := F0 m 5 ls [.int (pof K key)]) rfl ?_
  refine n_re (pof_n hh) ?_
  refine lv_istore_n (lv' := [(3, .int (-1)), (0, .ref (z 0)), (1, .long (key))]) C.hx C.hb dX2_find_5 rfl hl (by decide) rfl (fun ls hl => ?_)
  refine lv_iload_n C.hx C.hb dX2_find_6 rfl (lv_at hl 0 rfl) ?_
  refine lv_iconst (v := (-1)) C.hx C.hb dX2_find_7 (by decide) ?_
  refine lv_icmp_ne (tgt := 15) C.hx C.hb dX2_find_8 (by decide) (fun c8 => ?_) (fun c8 => ?_)
  · exact absurd rfl c8
  · refine lv_iconst (v := (-1)) C.hx C.hb dX2_find_11 (by decide) ?_
    refine lv_goto (tgt := 30) C.hx C.hb dX2_find_12 (by decide) ?_
    exact ret_ir C (rfl) dX2_find_30
set_option maxHeartbeats 4000000 in
set_option maxRecDepth 100000 in
/-- next -/
theorem c2_next {l : Launch} {E : Gq} {z : Nat → Nat} {v : Nat → Int32} {kd : Nat} {K : List Int64} {L N S P : List Nat} {key : Int64} : M2r l E yX2_next cX2_next 4 (some .int) 2 [.ref (z 0), .long (key)] z v kd K L N S P (fun r => r = some (.int (if ngt K key < K.length then nI (ngt K key) else -1))) := by
  intro f hf
  obtain ⟨b1, b2, b3, b4, b5⟩ := hf.lens
  refine mk_r (by decide) (Nat.le_of_ble_eq_true rfl) ?_
  intro p e s m below meth c ls C Wd hl
  have X : X2w E _ z v kd K L N S P s s.heap [] := ⟨f, Wd, hf⟩
  have hl : lv_has ls 4 [(0, .ref (z 0)), (1, .long (key))] := hl
  have hng := ngt_le K key
  refine lv_aload_n C.hx C.hb dX2_next_0 rfl (lv_at hl 0 rfl) ?_
  refine lv_lload_n C.hx C.hb dX2_next_1 rfl (lv_at hl 1 rfl) ?_
  refine x2_cr (As := [.long (key)]) (rest := []) C X (c2_notGreaterThan (key := key)) wy_X2_notGreaterThan ts_7 tw_141 rfl ⟨by decide, by decide⟩ rfl hl.1 rfl (Nat.le_of_ble_eq_true rfl) ⟨Nat.le_refl _, Nat.le_refl _⟩ dX2_next_2 (fun r hp => ?_)
  subst hp
  refine W.eq (g2 := F0 m 5 ls [.int (nI (ngt K key))]) rfl ?_
  refine lv_istore_n (lv' := [(3, .int (nI (ngt K key))), (0, .ref (z 0)), (1, .long (key))]) C.hx C.hb dX2_next_5 rfl hl (by decide) rfl (fun ls hl => ?_)
  refine lv_iload_n C.hx C.hb dX2_next_6 rfl (lv_at hl 0 rfl) ?_
  refine lv_aload_n C.hx C.hb dX2_next_7 rfl (lv_at hl 1 rfl) ?_
  refine x2g_4 C X dX2_next_8 ?_
  refine x2s_1 C X dX2_next_11 ?_
  refine n_icmp_ge (tgt := 21) C dX2_next_14 (by decide) (by omega) (by omega) (fun c14 => ?_) (fun c14 => ?_)
  · refine lv_iconst (v := (-1)) C.hx C.hb dX2_next_21 (by decide) ?_
    exact ret_ir C (by rw [if_neg (Nat.not_lt.mpr c14)]) dX2_next_22
  · refine lv_iload_n C.hx C.hb dX2_next_17 rfl (lv_at hl 0 rfl) ?_
    refine lv_goto (tgt := 22) C.hx C.hb dX2_next_18 (by decide) ?_
    exact ret_ir C (by rw [if_pos c14]) dX2_next_22
set_option maxHeartbeats 4000000 in
set_option maxRecDepth 100000 in
/-- remove: closed -/
theorem c2_remove_c {l : Launch} {E : Gq} {z : Nat → Nat} {v : Nat → Int32} {kd : Nat} {K : List Int64} {L N S P : List Nat} {key : Int64} (hv11 : v 11 = nI 1) : M2w l E yX2_remove cX2_remove 5 (some .int) 3 [.ref (z 0), .long (key)] z v kd K L N S P (fun r v' kd' K' L' N' S' P' => some (.int (-5)) = r ∧ v = v' ∧ kd = kd' ∧ K = K' ∧ L = L' ∧ N = N' ∧ S = S' ∧ P = P') := by
  intro f hf
  obtain ⟨b1, b2, b3, b4, b5⟩ := hf.lens
  refine mk_w (by decide) (Nat.le_of_ble_eq_true rfl) ?_
  intro p e s m below meth c ls C Wd hl
  have X : X2w E _ z v kd K L N S P s s.heap [] := ⟨f, Wd, hf⟩
  have hl : lv_has ls 5 [(0, .ref (z 0)), (1, .long (key))] := hl
  refine lv_aload_n C.hx C.hb dX2_remove_0 rfl (lv_at hl 0 rfl) ?_
  refine x2g_11 C X (x := nI (1)) hv11 dX2_remove_1 ?_
  refine n_if_eq (tgt := 10) C dX2_remove_4 (by decide) (by decide) (fun h => absurd h (by decide)) (fun _ => ?_)
  refine lv_bipush (v := (-5)) C.hx C.hb dX2_remove_7 (by decide) ?_
  exact ret2_i C X (⟨rfl, rfl, rfl, rfl, rfl, rfl, rfl, rfl⟩) dX2_remove_9
set_option maxHeartbeats 4000000 in
set_option maxRecDepth 100000 in
/-- remove: not there -/
theorem c2_remove_n {l : Launch} {E : Gq} {z : Nat → Nat} {v : Nat → Int32} {kd : Nat} {K : List Int64} {L N S P : List Nat} {key : Int64} (hv11 : v 11 = nI 0) (hh : ¬ hask K key) : M2w l E yX2_remove cX2_remove 5 (some .int) 3 [.ref (z 0), .long (key)] z v kd K L N S P (fun r v' kd' K' L' N' S' P' => some (.int (nI 0)) = r ∧ v = v' ∧ kd = kd' ∧ K = K' ∧ L = L' ∧ N = N' ∧ S = S' ∧ P = P') := by
  intro f hf
  obtain ⟨b1, b2, b3, b4, b5⟩ := hf.lens
  refine mk_w (by decide) (Nat.le_of_ble_eq_true rfl) ?_
  intro p e s m below meth c ls C Wd hl
  have X : X2w E _ z v kd K L N S P s s.heap [] := ⟨f, Wd, hf⟩
  have hl : lv_has ls 5 [(0, .ref (z 0)), (1, .long (key))] := hl
  refine lv_aload_n C.hx C.hb dX2_remove_0 rfl (lv_at hl 0 rfl) ?_
  refine x2g_11 C X (x := nI (0)) hv11 dX2_remove_1 ?_
  refine n_if_eq (tgt := 10) C dX2_remove_4 (by decide) (by decide) (fun _ => ?_) (fun h => absurd h (by decide))
  refine lv_aload_n C.hx C.hb dX2_remove_10 rfl (lv_at hl 0 rfl) ?_
  refine lv_lload_n C.hx C.hb dX2_remove_11 rfl (lv_at hl 1 rfl) ?_
  refine x2_cr (As := [.long (key)]) (rest := []) C X (c2_positionOf (key := key)) wy_X2_positionOf ts_6 tw_137 rfl ⟨by decide, by decide⟩ rfl hl.1 rfl (Nat.le_of_ble_eq_true rfl) ⟨Nat.le_refl _, Nat.le_refl _⟩ dX2_remove_12 (fun r hp => ?_)
  subst hp
  refine W.eq (g2 := F0 m 15 ls [.int (pof K key)]) rfl ?_
  refine n_re (pof_n hh) ?_
  refine lv_istore_n (lv' := [(3, .int (-1)), (0, .ref (z 0)), (1, .long (key))]) C.hx C.hb dX2_remove_15 rfl hl (by decide) rfl (fun ls hl => ?_)
  refine lv_iload_n C.hx C.hb dX2_remove_16 rfl (lv_at hl 0 rfl) ?_
  refine lv_iconst (v := (-1)) C.hx C.hb dX2_remove_17 (by decide) ?_
  refine lv_icmp_ne (tgt := 23) C.hx C.hb dX2_remove_18 (by decide) (fun c18 => ?_) (fun c18 => ?_)
  · exact absurd rfl c18
  · refine lv_iconst (v := nI (0)) C.hx C.hb dX2_remove_21 (by decide) ?_
    exact ret2_i C X (⟨rfl, rfl, rfl, rfl, rfl, rfl, rfl, rfl⟩) dX2_remove_22
set_option maxHeartbeats 4000000 in
set_option maxRecDepth 100000 in
/-- remove -/
theorem c2_remove_k {l : Launch} {E : Gq} {z : Nat → Nat} {v : Nat → Int32} {kd : Nat} {K : List Int64} {L N S P : List Nat} {key : Int64} (hv11 : v 11 = nI 0) (hh : hask K key) (hJ : J2 K L N S P) (hone : 1 ≤ S.getD (gOf S (ngt K key - 1)) 0) (hkeep : ¬ (S.getD (gOf S (ngt K key - 1)) 0 - 1 = 0 ∧ 1 < S.length)) : M2w l E yX2_remove cX2_remove 5 (some .int) 3 [.ref (z 0), .long (key)] z v kd K L N S P (fun r v' kd' K' L' N' S' P' => some (.int (nI 1)) = r ∧ v = v' ∧ kd = kd' ∧ del K (ngt K key - 1) = K' ∧ del L (ngt K key - 1) = L' ∧ N = N' ∧ S.set (gOf S (ngt K key - 1)) (S.getD (gOf S (ngt K key - 1)) 0 - 1) = S' ∧ P = P') := by
  intro f hf
  obtain ⟨b1, b2, b3, b4, b5⟩ := hf.lens
  refine mk_w (by decide) (Nat.le_of_ble_eq_true rfl) ?_
  intro p e s m below meth c ls C Wd hl
  have X : X2w E _ z v kd K L N S P s s.heap [] := ⟨f, Wd, hf⟩
  have hl : lv_has ls 5 [(0, .ref (z 0)), (1, .long (key))] := hl
  obtain ⟨j1, j2, j3, j4, j5, j6, j7, j8⟩ := id hJ
  obtain ⟨k1, k2, k3, k4⟩ := hJ.b
  have hng := ngt_le K key
  have hgo := gOf_lt (L := S) (m := ngt K key - 1) j5
  have hh1 := hh.1
  have hge := getD_set_self (x := S.getD (gOf S (ngt K key - 1)) 0 - 1) hgo
  have hsl : (S.set (gOf S (ngt K key - 1)) (S.getD (gOf S (ngt K key - 1)) 0 - 1)).length = S.length := List.length_set ..
  have hq := getD_le S (gOf S (ngt K key - 1))
  have har := gOf_lt (L := P) (m := (gOf S (ngt K key - 1))) k2
  have hp1 := j6 _ (getD_mem har)
  refine lv_aload_n C.hx C.hb dX2_remove_0 rfl (lv_at hl 0 rfl) ?_
  refine x2g_11 C X (x := nI (0)) hv11 dX2_remove_1 ?_
  refine n_if_eq (tgt := 10) C dX2_remove_4 (by decide) (by decide) (fun _ => ?_) (fun h => absurd h (by decide))
  refine lv_aload_n C.hx C.hb dX2_remove_10 rfl (lv_at hl 0 rfl) ?_
  refine lv_lload_n C.hx C.hb dX2_remove_11 rfl (lv_at hl 1 rfl) ?_
  refine x2_cr (As := [.long (key)]) (rest := []) C X (c2_positionOf (key := key)) wy_X2_positionOf ts_6 tw_137 rfl ⟨by decide, by decide⟩ rfl hl.1 rfl (Nat.le_of_ble_eq_true rfl) ⟨Nat.le_refl _, Nat.le_refl _⟩ dX2_remove_12 (fun r hp => ?_)
  subst hp
  refine W.eq (g2 := F0 m 15 ls [.int (pof K key)]) rfl ?_
  refine n_re (pof_y hh) ?_
  refine lv_istore_n (lv' := [(3, .int (nI (ngt K key - 1))), (0, .ref (z 0)), (1, .long (key))]) C.hx C.hb dX2_remove_15 rfl hl (by decide) rfl (fun ls hl => ?_)
  refine lv_iload_n C.hx C.hb dX2_remove_16 rfl (lv_at hl 0 rfl) ?_
  refine lv_iconst (v := (-1)) C.hx C.hb dX2_remove_17 (by decide) ?_
  refine lv_icmp_ne (tgt := 23) C.hx C.hb dX2_remove_18 (by decide) (fun c18 => ?_) (fun c18 => ?_)
  · refine lv_aload_n C.hx C.hb dX2_remove_23 rfl (lv_at hl 1 rfl) ?_
    refine x2g_7 C X dX2_remove_24 ?_
    refine lv_iload_n C.hx C.hb dX2_remove_27 rfl (lv_at hl 0 rfl) ?_
    refine x2_groupOf_4 C X (by omega) (by omega) ⟨by decide, by decide⟩ hl.1 (Nat.le_of_ble_eq_true rfl) ⟨Nat.le_refl _, Nat.le_refl _⟩ dX2_remove_28 ?_
    refine lv_istore (lv' := [(4, .int (nI (gOf S (ngt K key - 1)))), (3, .int (nI (ngt K key - 1))), (0, .ref (z 0)), (1, .long (key))]) C.hx C.hb dX2_remove_31 hl (by decide) rfl (fun ls hl => ?_)
    refine lv_aload_n C.hx C.hb dX2_remove_33 rfl (lv_at hl 2 rfl) ?_
    refine x2g_4 C X dX2_remove_34 ?_
    refine lv_iload_n C.hx C.hb dX2_remove_37 rfl (lv_at hl 1 rfl) ?_
    refine x2_deleteAt_1 C X (by omega) ⟨by decide, by decide⟩ hl.1 (Nat.le_of_ble_eq_true rfl) ⟨Nat.le_refl _, Nat.le_refl _⟩ dX2_remove_38 (fun H locs X => ?_)
    refine lv_aload_n C.hx C.hb dX2_remove_41 rfl (lv_at hl 2 rfl) ?_
    refine x2g_5 C X dX2_remove_42 ?_
    refine lv_iload_n C.hx C.hb dX2_remove_45 rfl (lv_at hl 1 rfl) ?_
    refine x2_deleteAt_2 C X (by omega) ⟨by decide, by decide⟩ hl.1 (Nat.le_of_ble_eq_true rfl) ⟨Nat.le_refl _, Nat.le_refl _⟩ dX2_remove_46 (fun H locs X => ?_)
    refine lv_aload_n C.hx C.hb dX2_remove_49 rfl (lv_at hl 2 rfl) ?_
    refine x2g_7 C X dX2_remove_50 ?_
    refine lv_iload C.hx C.hb dX2_remove_53 (lv_at hl 0 rfl) ?_
    refine lv_iconst (v := (-1)) C.hx C.hb dX2_remove_55 (by decide) ?_
    refine x2_raiseDn_4 C X (q := 1) (by decide) (by omega) (by omega) (by omega) ⟨by decide, by decide⟩ hl.1 (Nat.le_of_ble_eq_true rfl) ⟨Nat.le_refl _, Nat.le_refl _⟩ dX2_remove_56 (fun H locs X => ?_)
    refine lv_aload_n C.hx C.hb dX2_remove_59 rfl (lv_at hl 2 rfl) ?_
    refine x2g_7 C X dX2_remove_60 ?_
    refine lv_iload C.hx C.hb dX2_remove_63 (lv_at hl 0 rfl) ?_
    refine x2_intAt_4 C X (by omega) ⟨by decide, by decide⟩ hl.1 (Nat.le_of_ble_eq_true rfl) ⟨Nat.le_refl _, Nat.le_refl _⟩ dX2_remove_65 ?_
    refine n_if_ne (tgt := 88) C dX2_remove_68 (by decide) (by omega) (fun c68 => ?_) (fun c68 => ?_)
    · refine lv_iconst (v := nI (1)) C.hx C.hb dX2_remove_88 (by decide) ?_
      exact ret2_i C X (⟨rfl, rfl, rfl, rfl, rfl, rfl, rfl, rfl⟩) dX2_remove_89
    · refine lv_aload_n C.hx C.hb dX2_remove_71 rfl (lv_at hl 2 rfl) ?_
      refine x2g_7 C X dX2_remove_72 ?_
      refine x2s_4 C X dX2_remove_75 ?_
      refine lv_iconst (v := nI (1)) C.hx C.hb dX2_remove_78 (by decide) ?_
      refine n_icmp_le (tgt := 88) C dX2_remove_79 (by decide) (by omega) (by omega) (fun c79 => ?_) (fun c79 => ?_)
      · refine lv_iconst (v := nI (1)) C.hx C.hb dX2_remove_88 (by decide) ?_
        exact ret2_i C X (⟨rfl, rfl, rfl, rfl, rfl, rfl, rfl, rfl⟩) dX2_remove_89
      · omega
  · exact absurd c18 (nI_m1 (by omega))
set_option maxHeartbeats 4000000 in
set_option maxRecDepth 100000 in
/-- remove -/
theorem c2_remove_d {l : Launch} {E : Gq} {z : Nat → Nat} {v : Nat → Int32} {kd : Nat} {K : List Int64} {L N S P : List Nat} {key : Int64} (hv11 : v 11 = nI 0) (hh : hask K key) (hJ : J2 K L N S P) (hone : 1 ≤ S.getD (gOf S (ngt K key - 1)) 0) (hdrop : S.getD (gOf S (ngt K key - 1)) 0 - 1 = 0 ∧ 1 < S.length) : M2w l E yX2_remove cX2_remove 5 (some .int) 3 [.ref (z 0), .long (key)] z v kd K L N S P (fun r v' kd' K' L' N' S' P' => some (.int (nI 1)) = r ∧ v = v' ∧ kd = kd' ∧ del K (ngt K key - 1) = K' ∧ del L (ngt K key - 1) = L' ∧ del N (gOf S (ngt K key - 1)) = N' ∧ del (S.set (gOf S (ngt K key - 1)) (S.getD (gOf S (ngt K key - 1)) 0 - 1)) (gOf S (ngt K key - 1)) = S' ∧ drp P (gOf P (gOf S (ngt K key - 1))) = P') := by
  intro f hf
  obtain ⟨b1, b2, b3, b4, b5⟩ := hf.lens
  refine mk_w (by decide) (Nat.le_of_ble_eq_true rfl) ?_
  intro p e s m below meth c ls C Wd hl
  have X : X2w E _ z v kd K L N S P s s.heap [] := ⟨f, Wd, hf⟩
  have hl : lv_has ls 5 [(0, .ref (z 0)), (1, .long (key))] := hl
  obtain ⟨j1, j2, j3, j4, j5, j6, j7, j8⟩ := id hJ
  obtain ⟨k1, k2, k3, k4⟩ := hJ.b
  have hng := ngt_le K key
  have hgo := gOf_lt (L := S) (m := ngt K key - 1) j5
  have hh1 := hh.1
  have hge := getD_set_self (x := S.getD (gOf S (ngt K key - 1)) 0 - 1) hgo
  have hsl : (S.set (gOf S (ngt K key - 1)) (S.getD (gOf S (ngt K key - 1)) 0 - 1)).length = S.length := List.length_set ..
  have hq := getD_le S (gOf S (ngt K key - 1))
  have har := gOf_lt (L := P) (m := (gOf S (ngt K key - 1))) k2
  have hp1 := j6 _ (getD_mem har)
  refine lv_aload_n C.hx C.hb dX2_remove_0 rfl (lv_at hl 0 rfl) ?_
  refine x2g_11 C X (x := nI (0)) hv11 dX2_remove_1 ?_
  refine n_if_eq (tgt := 10) C dX2_remove_4 (by decide) (by decide) (fun _ => ?_) (fun h => absurd h (by decide))
  refine lv_aload_n C.hx C.hb dX2_remove_10 rfl (lv_at hl 0 rfl) ?_
  refine lv_lload_n C.hx C.hb dX2_remove_11 rfl (lv_at hl 1 rfl) ?_
  refine x2_cr (As := [.long (key)]) (rest := []) C X (c2_positionOf (key := key)) wy_X2_positionOf ts_6 tw_137 rfl ⟨by decide, by decide⟩ rfl hl.1 rfl (Nat.le_of_ble_eq_true rfl) ⟨Nat.le_refl _, Nat.le_refl _⟩ dX2_remove_12 (fun r hp => ?_)
  subst hp
  refine W.eq (g2 := F0 m 15 ls [.int (pof K key)]) rfl ?_
  refine n_re (pof_y hh) ?_
  refine lv_istore_n (lv' := [(3, .int (nI (ngt K key - 1))), (0, .ref (z 0)), (1, .long (key))]) C.hx C.hb dX2_remove_15 rfl hl (by decide) rfl (fun ls hl => ?_)
  refine lv_iload_n C.hx C.hb dX2_remove_16 rfl (lv_at hl 0 rfl) ?_
  refine lv_iconst (v := (-1)) C.hx C.hb dX2_remove_17 (by decide) ?_
  refine lv_icmp_ne (tgt := 23) C.hx C.hb dX2_remove_18 (by decide) (fun c18 => ?_) (fun c18 => ?_)
  · refine lv_aload_n C.hx C.hb dX2_remove_23 rfl (lv_at hl 1 rfl) ?_
    refine x2g_7 C X dX2_remove_24 ?_
    refine lv_iload_n C.hx C.hb dX2_remove_27 rfl (lv_at hl 0 rfl) ?_
    refine x2_groupOf_4 C X (by omega) (by omega) ⟨by decide, by decide⟩ hl.1 (Nat.le_of_ble_eq_true rfl) ⟨Nat.le_refl _, Nat.le_refl _⟩ dX2_remove_28 ?_
    refine lv_istore (lv' := [(4, .int (nI (gOf S (ngt K key - 1)))), (3, .int (nI (ngt K key - 1))), (0, .ref (z 0)), (1, .long (key))]) C.hx C.hb dX2_remove_31 hl (by decide) rfl (fun ls hl => ?_)
    refine lv_aload_n C.hx C.hb dX2_remove_33 rfl (lv_at hl 2 rfl) ?_
    refine x2g_4 C X dX2_remove_34 ?_
    refine lv_iload_n C.hx C.hb dX2_remove_37 rfl (lv_at hl 1 rfl) ?_
    refine x2_deleteAt_1 C X (by omega) ⟨by decide, by decide⟩ hl.1 (Nat.le_of_ble_eq_true rfl) ⟨Nat.le_refl _, Nat.le_refl _⟩ dX2_remove_38 (fun H locs X => ?_)
    refine lv_aload_n C.hx C.hb dX2_remove_41 rfl (lv_at hl 2 rfl) ?_
    refine x2g_5 C X dX2_remove_42 ?_
    refine lv_iload_n C.hx C.hb dX2_remove_45 rfl (lv_at hl 1 rfl) ?_
    refine x2_deleteAt_2 C X (by omega) ⟨by decide, by decide⟩ hl.1 (Nat.le_of_ble_eq_true rfl) ⟨Nat.le_refl _, Nat.le_refl _⟩ dX2_remove_46 (fun H locs X => ?_)
    refine lv_aload_n C.hx C.hb dX2_remove_49 rfl (lv_at hl 2 rfl) ?_
    refine x2g_7 C X dX2_remove_50 ?_
    refine lv_iload C.hx C.hb dX2_remove_53 (lv_at hl 0 rfl) ?_
    refine lv_iconst (v := (-1)) C.hx C.hb dX2_remove_55 (by decide) ?_
    refine x2_raiseDn_4 C X (q := 1) (by decide) (by omega) (by omega) (by omega) ⟨by decide, by decide⟩ hl.1 (Nat.le_of_ble_eq_true rfl) ⟨Nat.le_refl _, Nat.le_refl _⟩ dX2_remove_56 (fun H locs X => ?_)
    refine lv_aload_n C.hx C.hb dX2_remove_59 rfl (lv_at hl 2 rfl) ?_
    refine x2g_7 C X dX2_remove_60 ?_
    refine lv_iload C.hx C.hb dX2_remove_63 (lv_at hl 0 rfl) ?_
    refine x2_intAt_4 C X (by omega) ⟨by decide, by decide⟩ hl.1 (Nat.le_of_ble_eq_true rfl) ⟨Nat.le_refl _, Nat.le_refl _⟩ dX2_remove_65 ?_
    refine n_if_ne (tgt := 88) C dX2_remove_68 (by decide) (by omega) (fun c68 => ?_) (fun c68 => ?_)
    · omega
    · refine lv_aload_n C.hx C.hb dX2_remove_71 rfl (lv_at hl 2 rfl) ?_
      refine x2g_7 C X dX2_remove_72 ?_
      refine x2s_4 C X dX2_remove_75 ?_
      refine lv_iconst (v := nI (1)) C.hx C.hb dX2_remove_78 (by decide) ?_
      refine n_icmp_le (tgt := 88) C dX2_remove_79 (by decide) (by omega) (by omega) (fun c79 => ?_) (fun c79 => ?_)
      · omega
      · refine lv_aload_n C.hx C.hb dX2_remove_82 rfl (lv_at hl 2 rfl) ?_
        refine lv_iload C.hx C.hb dX2_remove_83 (lv_at hl 0 rfl) ?_
        refine x2_cw (As := [.int (nI (gOf S (ngt K key - 1)))]) (rest := []) C X (c2_dropInterval (i := (gOf S (ngt K key - 1))) (by omega) (by omega) (by omega) (by omega) (by omega)) wy_X2_dropInterval ts_21 tw_214 rfl ⟨by decide, by decide⟩ rfl hl.1 rfl (Nat.le_of_ble_eq_true rfl) ⟨Nat.le_refl _, Nat.le_refl _⟩ dX2_remove_85 (fun r v' kd' K' L' N' S' P' H locs hp X => ?_)
        obtain ⟨rfl, rfl, rfl, rfl, rfl, rfl, rfl, rfl⟩ := hp
        refine W.eq (g2 := F0 m 88 ls []) rfl ?_
        refine lv_iconst (v := nI (1)) C.hx C.hb dX2_remove_88 (by decide) ?_
        exact ret2_i C X (⟨rfl, rfl, rfl, rfl, rfl, rfl, rfl, rfl⟩) dX2_remove_89
  · exact absurd c18 (nI_m1 (by omega))
end
section
theorem upd_upd (v : Nat → Int32) (k : Nat) (x y : Int32) : upd (upd v k x) k y = upd v k y := by
  funext j
  unfold upd
  by_cases e : j = k
  · rw [if_pos e, if_pos e]
  · rw [if_neg e, if_neg e, if_neg e]
theorem sm0_s {S : List Nat} {j : Nat} (h : j < S.length) : sm S 0 (j + 1) = sm S 0 j + S.getD j 0 := by rw [sm0, sm0, take_s h]
theorem hld_c (n : Nat) (i : Int32) (hn : n < 2 ^ 31) : hld n i = 0 ∨ ∃ j, j < n ∧ i = nI j := by
  by_cases h : i < 0
  · exact Or.inl (by unfold hld; rw [if_pos h])
  · obtain ⟨j, hj, rfl⟩ := nI_of h
    by_cases h2 : j < n
    · exact Or.inr ⟨j, h2, rfl⟩
    · exact Or.inl (by unfold hld; rw [if_neg h, nI_clamp hj, if_neg h2])
theorem hld_y {n j : Nat} (hj : j < n) (hn : n < 2 ^ 31) : hld n (nI j) = 1 := by
  unfold hld
  rw [if_neg (nI_pos (by omega)), nI_clamp (by omega), if_pos hj]
set_option maxHeartbeats 4000000 in
set_option maxRecDepth 100000 in
/-- interval -/
theorem c2_interval_o {l : Launch} {E : Gq} {z : Nat → Nat} {v : Nat → Int32} {kd : Nat} {K : List Int64} {L N S P : List Nat} {i what : Int32} (hh : hld S.length i = 0) : M2r l E yX2_interval cX2_interval 3 (some .int) 3 [.ref (z 0), .int (i), .int (what)] z v kd K L N S P (fun r => r = some (.int (-1))) := by
  intro f hf
  obtain ⟨b1, b2, b3, b4, b5⟩ := hf.lens
  refine mk_r (by decide) (Nat.le_of_ble_eq_true rfl) ?_
  intro p e s m below meth c ls C Wd hl
  have X : X2w E _ z v kd K L N S P s s.heap [] := ⟨f, Wd, hf⟩
  have hl : lv_has ls 3 [(0, .ref (z 0)), (1, .int (i)), (2, .int (what))] := hl
  refine lv_aload_n C.hx C.hb dX2_interval_0 rfl (lv_at hl 0 rfl) ?_
  refine x2g_7 C X dX2_interval_1 ?_
  refine lv_iload_n C.hx C.hb dX2_interval_4 rfl (lv_at hl 1 rfl) ?_
  refine x2_holds_4 C X ⟨by decide, by decide⟩ hl.1 (Nat.le_of_ble_eq_true rfl) ⟨Nat.le_refl _, Nat.le_refl _⟩ dX2_interval_5 ?_
  refine lv_if_ne (tgt := 13) C.hx C.hb dX2_interval_8 (by decide) (fun c8 => ?_) (fun c8 => ?_)
  · exact absurd hh c8
  · refine lv_iconst (v := (-1)) C.hx C.hb dX2_interval_11 (by decide) ?_
    exact ret_ir C (rfl) dX2_interval_12
set_option maxHeartbeats 4000000 in
set_option maxRecDepth 100000 in
/-- interval -/
theorem c2_interval_0 {l : Launch} {E : Gq} {z : Nat → Nat} {v : Nat → Int32} {kd : Nat} {K : List Int64} {L N S P : List Nat} {j : Nat} (hJ : J2 K L N S P) (hj : j < S.length) (hk : K.length ≤ 600) : M2r l E yX2_interval cX2_interval 3 (some .int) 3 [.ref (z 0), .int (nI (j)), .int (nI (0))] z v kd K L N S P (fun r => r = some (.int (nI (N.getD j 0)))) := by
  intro f hf
  obtain ⟨b1, b2, b3, b4, b5⟩ := hf.lens
  refine mk_r (by decide) (Nat.le_of_ble_eq_true rfl) ?_
  intro p e s m below meth c ls C Wd hl
  have X : X2w E _ z v kd K L N S P s s.heap [] := ⟨f, Wd, hf⟩
  have hl : lv_has ls 3 [(0, .ref (z 0)), (1, .int (nI (j))), (2, .int (nI (0)))] := hl
  obtain ⟨j1, j2, j3, j4, j5, j6, j7, j8⟩ := id hJ
  obtain ⟨k1, k2, k3, k4⟩ := hJ.b
  refine lv_aload_n C.hx C.hb dX2_interval_0 rfl (lv_at hl 0 rfl) ?_
  refine x2g_7 C X dX2_interval_1 ?_
  refine lv_iload_n C.hx C.hb dX2_interval_4 rfl (lv_at hl 1 rfl) ?_
  refine x2_holds_4 C X ⟨by decide, by decide⟩ hl.1 (Nat.le_of_ble_eq_true rfl) ⟨Nat.le_refl _, Nat.le_refl _⟩ dX2_interval_5 ?_
  refine n_re (j := nI 1) (hld_y hj (by omega)) ?_
  refine n_if_ne (tgt := 13) C dX2_interval_8 (by decide) (by decide) (fun _ => ?_) (fun h => absurd h (by decide))
  refine lv_iload_n C.hx C.hb dX2_interval_13 rfl (lv_at hl 2 rfl) ?_
  refine lv_tableIn (off := 30) (tgt := 44) C.hx C.hb dX2_interval_14 (by decide) (by decide) (by decide) (by decide) ?_
  refine lv_aload_n C.hx C.hb dX2_interval_44 rfl (lv_at hl 0 rfl) ?_
  refine x2g_6 C X dX2_interval_45 ?_
  refine lv_iload_n C.hx C.hb dX2_interval_48 rfl (lv_at hl 1 rfl) ?_
  refine x2_intAt_3 C X (by omega) ⟨by decide, by decide⟩ hl.1 (Nat.le_of_ble_eq_true rfl) ⟨Nat.le_refl _, Nat.le_refl _⟩ dX2_interval_49 ?_
  exact ret_ir C (rfl) dX2_interval_52
set_option maxHeartbeats 4000000 in
set_option maxRecDepth 100000 in
/-- interval -/
theorem c2_interval_1 {l : Launch} {E : Gq} {z : Nat → Nat} {v : Nat → Int32} {kd : Nat} {K : List Int64} {L N S P : List Nat} {j : Nat} (hJ : J2 K L N S P) (hj : j < S.length) (hk : K.length ≤ 600) : M2r l E yX2_interval cX2_interval 3 (some .int) 3 [.ref (z 0), .int (nI (j)), .int (nI (1))] z v kd K L N S P (fun r => r = some (.int (nI (S.getD j 0)))) := by
  intro f hf
  obtain ⟨b1, b2, b3, b4, b5⟩ := hf.lens
  refine mk_r (by decide) (Nat.le_of_ble_eq_true rfl) ?_
  intro p e s m below meth c ls C Wd hl
  have X : X2w E _ z v kd K L N S P s s.heap [] := ⟨f, Wd, hf⟩
  have hl : lv_has ls 3 [(0, .ref (z 0)), (1, .int (nI (j))), (2, .int (nI (1)))] := hl
  obtain ⟨j1, j2, j3, j4, j5, j6, j7, j8⟩ := id hJ
  obtain ⟨k1, k2, k3, k4⟩ := hJ.b
  refine lv_aload_n C.hx C.hb dX2_interval_0 rfl (lv_at hl 0 rfl) ?_
  refine x2g_7 C X dX2_interval_1 ?_
  refine lv_iload_n C.hx C.hb dX2_interval_4 rfl (lv_at hl 1 rfl) ?_
  refine x2_holds_4 C X ⟨by decide, by decide⟩ hl.1 (Nat.le_of_ble_eq_true rfl) ⟨Nat.le_refl _, Nat.le_refl _⟩ dX2_interval_5 ?_
  refine n_re (j := nI 1) (hld_y hj (by omega)) ?_
  refine n_if_ne (tgt := 13) C dX2_interval_8 (by decide) (by decide) (fun _ => ?_) (fun h => absurd h (by decide))
  refine lv_iload_n C.hx C.hb dX2_interval_13 rfl (lv_at hl 2 rfl) ?_
  refine lv_tableIn (off := 39) (tgt := 53) C.hx C.hb dX2_interval_14 (by decide) (by decide) (by decide) (by decide) ?_
  refine lv_aload_n C.hx C.hb dX2_interval_53 rfl (lv_at hl 0 rfl) ?_
  refine x2g_7 C X dX2_interval_54 ?_
  refine lv_iload_n C.hx C.hb dX2_interval_57 rfl (lv_at hl 1 rfl) ?_
  refine x2_intAt_4 C X (by omega) ⟨by decide, by decide⟩ hl.1 (Nat.le_of_ble_eq_true rfl) ⟨Nat.le_refl _, Nat.le_refl _⟩ dX2_interval_58 ?_
  exact ret_ir C (rfl) dX2_interval_61
set_option maxHeartbeats 4000000 in
set_option maxRecDepth 100000 in
/-- interval -/
theorem c2_interval_2 {l : Launch} {E : Gq} {z : Nat → Nat} {v : Nat → Int32} {kd : Nat} {K : List Int64} {L N S P : List Nat} {j : Nat} (hJ : J2 K L N S P) (hj : j < S.length) (hk : K.length ≤ 600) : M2r l E yX2_interval cX2_interval 3 (some .int) 3 [.ref (z 0), .int (nI (j)), .int (nI (2))] z v kd K L N S P (fun r => r = some (.int (nI (lin L S j)))) := by
  intro f hf
  obtain ⟨b1, b2, b3, b4, b5⟩ := hf.lens
  refine mk_r (by decide) (Nat.le_of_ble_eq_true rfl) ?_
  intro p e s m below meth c ls C Wd hl
  have X : X2w E _ z v kd K L N S P s s.heap [] := ⟨f, Wd, hf⟩
  have hl : lv_has ls 3 [(0, .ref (z 0)), (1, .int (nI (j))), (2, .int (nI (2)))] := hl
  obtain ⟨j1, j2, j3, j4, j5, j6, j7, j8⟩ := id hJ
  obtain ⟨k1, k2, k3, k4⟩ := hJ.b
  refine lv_aload_n C.hx C.hb dX2_interval_0 rfl (lv_at hl 0 rfl) ?_
  refine x2g_7 C X dX2_interval_1 ?_
  refine lv_iload_n C.hx C.hb dX2_interval_4 rfl (lv_at hl 1 rfl) ?_
  refine x2_holds_4 C X ⟨by decide, by decide⟩ hl.1 (Nat.le_of_ble_eq_true rfl) ⟨Nat.le_refl _, Nat.le_refl _⟩ dX2_interval_5 ?_
  refine n_re (j := nI 1) (hld_y hj (by omega)) ?_
  refine n_if_ne (tgt := 13) C dX2_interval_8 (by decide) (by decide) (fun _ => ?_) (fun h => absurd h (by decide))
  refine lv_iload_n C.hx C.hb dX2_interval_13 rfl (lv_at hl 2 rfl) ?_
  refine lv_tableIn (off := 48) (tgt := 62) C.hx C.hb dX2_interval_14 (by decide) (by decide) (by decide) (by decide) ?_
  refine lv_aload_n C.hx C.hb dX2_interval_62 rfl (lv_at hl 0 rfl) ?_
  refine lv_iload_n C.hx C.hb dX2_interval_63 rfl (lv_at hl 1 rfl) ?_
  refine x2_cr (As := [.int (nI (j))]) (rest := []) C X (c2_lengthsIn (i := j) (by omega) (by omega)) wy_X2_lengthsIn ts_10 tw_154 rfl ⟨by decide, by decide⟩ rfl hl.1 rfl (Nat.le_of_ble_eq_true rfl) ⟨Nat.le_refl _, Nat.le_refl _⟩ dX2_interval_64 (fun r hp => ?_)
  subst hp
  refine W.eq (g2 := F0 m 67 ls [.int (nI (lin L S j))]) rfl ?_
  exact ret_ir C (rfl) dX2_interval_67
set_option maxHeartbeats 4000000 in
set_option maxRecDepth 100000 in
/-- interval -/
theorem c2_interval_3 {l : Launch} {E : Gq} {z : Nat → Nat} {v : Nat → Int32} {kd : Nat} {K : List Int64} {L N S P : List Nat} {j : Nat} (hJ : J2 K L N S P) (hj : j < S.length) (hk : K.length ≤ 600) : M2r l E yX2_interval cX2_interval 3 (some .int) 3 [.ref (z 0), .int (nI (j)), .int (nI (3))] z v kd K L N S P (fun r => r = some (.int (nI (gOf P j)))) := by
  intro f hf
  obtain ⟨b1, b2, b3, b4, b5⟩ := hf.lens
  refine mk_r (by decide) (Nat.le_of_ble_eq_true rfl) ?_
  intro p e s m below meth c ls C Wd hl
  have X : X2w E _ z v kd K L N S P s s.heap [] := ⟨f, Wd, hf⟩
  have hl : lv_has ls 3 [(0, .ref (z 0)), (1, .int (nI (j))), (2, .int (nI (3)))] := hl
  obtain ⟨j1, j2, j3, j4, j5, j6, j7, j8⟩ := id hJ
  obtain ⟨k1, k2, k3, k4⟩ := hJ.b
  refine lv_aload_n C.hx C.hb dX2_interval_0 rfl (lv_at hl 0 rfl) ?_
  refine x2g_7 C X dX2_interval_1 ?_
  refine lv_iload_n C.hx C.hb dX2_interval_4 rfl (lv_at hl 1 rfl) ?_
  refine x2_holds_4 C X ⟨by decide, by decide⟩ hl.1 (Nat.le_of_ble_eq_true rfl) ⟨Nat.le_refl _, Nat.le_refl _⟩ dX2_interval_5 ?_
  refine n_re (j := nI 1) (hld_y hj (by omega)) ?_
  refine n_if_ne (tgt := 13) C dX2_interval_8 (by decide) (by decide) (fun _ => ?_) (fun h => absurd h (by decide))
  refine lv_iload_n C.hx C.hb dX2_interval_13 rfl (lv_at hl 2 rfl) ?_
  refine lv_tableIn (off := 54) (tgt := 68) C.hx C.hb dX2_interval_14 (by decide) (by decide) (by decide) (by decide) ?_
  refine lv_aload_n C.hx C.hb dX2_interval_68 rfl (lv_at hl 0 rfl) ?_
  refine x2g_8 C X dX2_interval_69 ?_
  refine lv_iload_n C.hx C.hb dX2_interval_72 rfl (lv_at hl 1 rfl) ?_
  refine x2_groupOf_5 C X (by omega) (by omega) ⟨by decide, by decide⟩ hl.1 (Nat.le_of_ble_eq_true rfl) ⟨Nat.le_refl _, Nat.le_refl _⟩ dX2_interval_73 ?_
  exact ret_ir C (rfl) dX2_interval_76
set_option maxHeartbeats 4000000 in
set_option maxRecDepth 100000 in
/-- interval -/
theorem c2_interval_x {l : Launch} {E : Gq} {z : Nat → Nat} {v : Nat → Int32} {kd : Nat} {K : List Int64} {L N S P : List Nat} {j : Nat} {what : Int32} (hj : j < S.length) (hsw : what.toInt < 0 ∨ 3 < what.toInt) : M2r l E yX2_interval cX2_interval 3 (some .int) 3 [.ref (z 0), .int (nI (j)), .int (what)] z v kd K L N S P (fun r => r = some (.int (-1))) := by
  intro f hf
  obtain ⟨b1, b2, b3, b4, b5⟩ := hf.lens
  refine mk_r (by decide) (Nat.le_of_ble_eq_true rfl) ?_
  intro p e s m below meth c ls C Wd hl
  have X : X2w E _ z v kd K L N S P s s.heap [] := ⟨f, Wd, hf⟩
  have hl : lv_has ls 3 [(0, .ref (z 0)), (1, .int (nI (j))), (2, .int (what))] := hl
  refine lv_aload_n C.hx C.hb dX2_interval_0 rfl (lv_at hl 0 rfl) ?_
  refine x2g_7 C X dX2_interval_1 ?_
  refine lv_iload_n C.hx C.hb dX2_interval_4 rfl (lv_at hl 1 rfl) ?_
  refine x2_holds_4 C X ⟨by decide, by decide⟩ hl.1 (Nat.le_of_ble_eq_true rfl) ⟨Nat.le_refl _, Nat.le_refl _⟩ dX2_interval_5 ?_
  refine n_re (j := nI 1) (hld_y hj (by omega)) ?_
  refine n_if_ne (tgt := 13) C dX2_interval_8 (by decide) (by decide) (fun _ => ?_) (fun h => absurd h (by decide))
  refine lv_iload_n C.hx C.hb dX2_interval_13 rfl (lv_at hl 2 rfl) ?_
  refine lv_tableOut (tgt := 77) C.hx C.hb dX2_interval_14 hsw (by decide) ?_
  refine lv_iconst (v := (-1)) C.hx C.hb dX2_interval_77 (by decide) ?_
  exact ret_ir C (rfl) dX2_interval_78
set_option maxHeartbeats 4000000 in
set_option maxRecDepth 100000 in
/-- split -/
theorem c2_split_0 {l : Launch} {E : Gq} {z : Nat → Nat} {v : Nat → Int32} {kd : Nat} {K : List Int64} {L N S P : List Nat}  : M2r l E yX2_split cX2_split 2 (some .int) 0 [.ref (z 0), .int (nI (0))] z v kd K L N S P (fun r => r = some (.int (v 15))) := by
  intro f hf
  obtain ⟨b1, b2, b3, b4, b5⟩ := hf.lens
  refine mk_r (by decide) (Nat.le_of_ble_eq_true rfl) ?_
  intro p e s m below meth c ls C Wd hl
  have X : X2w E _ z v kd K L N S P s s.heap [] := ⟨f, Wd, hf⟩
  have hl : lv_has ls 2 [(0, .ref (z 0)), (1, .int (nI (0)))] := hl
  refine lv_iload_n C.hx C.hb dX2_split_0 rfl (lv_at hl 1 rfl) ?_
  refine lv_tableIn (off := 31) (tgt := 32) C.hx C.hb dX2_split_1 (by decide) (by decide) (by decide) (by decide) ?_
  refine lv_aload_n C.hx C.hb dX2_split_32 rfl (lv_at hl 0 rfl) ?_
  refine x2g_15 C X (x := v 15) rfl dX2_split_33 ?_
  exact ret_ir C (rfl) dX2_split_36
set_option maxHeartbeats 4000000 in
set_option maxRecDepth 100000 in
/-- split -/
theorem c2_split_1 {l : Launch} {E : Gq} {z : Nat → Nat} {v : Nat → Int32} {kd : Nat} {K : List Int64} {L N S P : List Nat}  : M2r l E yX2_split cX2_split 2 (some .int) 0 [.ref (z 0), .int (nI (1))] z v kd K L N S P (fun r => r = some (.int (v 16))) := by
  intro f hf
  obtain ⟨b1, b2, b3, b4, b5⟩ := hf.lens
  refine mk_r (by decide) (Nat.le_of_ble_eq_true rfl) ?_
  intro p e s m below meth c ls C Wd hl
  have X : X2w E _ z v kd K L N S P s s.heap [] := ⟨f, Wd, hf⟩
  have hl : lv_has ls 2 [(0, .ref (z 0)), (1, .int (nI (1)))] := hl
  refine lv_iload_n C.hx C.hb dX2_split_0 rfl (lv_at hl 1 rfl) ?_
  refine lv_tableIn (off := 36) (tgt := 37) C.hx C.hb dX2_split_1 (by decide) (by decide) (by decide) (by decide) ?_
  refine lv_aload_n C.hx C.hb dX2_split_37 rfl (lv_at hl 0 rfl) ?_
  refine x2g_16 C X (x := v 16) rfl dX2_split_38 ?_
  exact ret_ir C (rfl) dX2_split_41
set_option maxHeartbeats 4000000 in
set_option maxRecDepth 100000 in
/-- split -/
theorem c2_split_2 {l : Launch} {E : Gq} {z : Nat → Nat} {v : Nat → Int32} {kd : Nat} {K : List Int64} {L N S P : List Nat}  : M2r l E yX2_split cX2_split 2 (some .int) 0 [.ref (z 0), .int (nI (2))] z v kd K L N S P (fun r => r = some (.int (v 17))) := by
  intro f hf
  obtain ⟨b1, b2, b3, b4, b5⟩ := hf.lens
  refine mk_r (by decide) (Nat.le_of_ble_eq_true rfl) ?_
  intro p e s m below meth c ls C Wd hl
  have X : X2w E _ z v kd K L N S P s s.heap [] := ⟨f, Wd, hf⟩
  have hl : lv_has ls 2 [(0, .ref (z 0)), (1, .int (nI (2)))] := hl
  refine lv_iload_n C.hx C.hb dX2_split_0 rfl (lv_at hl 1 rfl) ?_
  refine lv_tableIn (off := 41) (tgt := 42) C.hx C.hb dX2_split_1 (by decide) (by decide) (by decide) (by decide) ?_
  refine lv_aload_n C.hx C.hb dX2_split_42 rfl (lv_at hl 0 rfl) ?_
  refine x2g_17 C X (x := v 17) rfl dX2_split_43 ?_
  exact ret_ir C (rfl) dX2_split_46
set_option maxHeartbeats 4000000 in
set_option maxRecDepth 100000 in
/-- split -/
theorem c2_split_3 {l : Launch} {E : Gq} {z : Nat → Nat} {v : Nat → Int32} {kd : Nat} {K : List Int64} {L N S P : List Nat}  : M2r l E yX2_split cX2_split 2 (some .int) 0 [.ref (z 0), .int (nI (3))] z v kd K L N S P (fun r => r = some (.int (v 18))) := by
  intro f hf
  obtain ⟨b1, b2, b3, b4, b5⟩ := hf.lens
  refine mk_r (by decide) (Nat.le_of_ble_eq_true rfl) ?_
  intro p e s m below meth c ls C Wd hl
  have X : X2w E _ z v kd K L N S P s s.heap [] := ⟨f, Wd, hf⟩
  have hl : lv_has ls 2 [(0, .ref (z 0)), (1, .int (nI (3)))] := hl
  refine lv_iload_n C.hx C.hb dX2_split_0 rfl (lv_at hl 1 rfl) ?_
  refine lv_tableIn (off := 46) (tgt := 47) C.hx C.hb dX2_split_1 (by decide) (by decide) (by decide) (by decide) ?_
  refine lv_aload_n C.hx C.hb dX2_split_47 rfl (lv_at hl 0 rfl) ?_
  refine x2g_18 C X (x := v 18) rfl dX2_split_48 ?_
  exact ret_ir C (rfl) dX2_split_51
set_option maxHeartbeats 4000000 in
set_option maxRecDepth 100000 in
/-- split -/
theorem c2_split_x {l : Launch} {E : Gq} {z : Nat → Nat} {v : Nat → Int32} {kd : Nat} {K : List Int64} {L N S P : List Nat} {what : Int32} (hsw : what.toInt < 0 ∨ 3 < what.toInt) : M2r l E yX2_split cX2_split 2 (some .int) 0 [.ref (z 0), .int (what)] z v kd K L N S P (fun r => r = some (.int (-1))) := by
  intro f hf
  obtain ⟨b1, b2, b3, b4, b5⟩ := hf.lens
  refine mk_r (by decide) (Nat.le_of_ble_eq_true rfl) ?_
  intro p e s m below meth c ls C Wd hl
  have X : X2w E _ z v kd K L N S P s s.heap [] := ⟨f, Wd, hf⟩
  have hl : lv_has ls 2 [(0, .ref (z 0)), (1, .int (what))] := hl
  refine lv_iload_n C.hx C.hb dX2_split_0 rfl (lv_at hl 1 rfl) ?_
  refine lv_tableOut (tgt := 52) C.hx C.hb dX2_split_1 hsw (by decide) ?_
  refine lv_iconst (v := (-1)) C.hx C.hb dX2_split_52 (by decide) ?_
  exact ret_ir C (rfl) dX2_split_53
set_option maxHeartbeats 4000000 in
set_option maxRecDepth 100000 in
/-- count -/
theorem c2_count_0 {l : Launch} {E : Gq} {z : Nat → Nat} {v : Nat → Int32} {kd : Nat} {K : List Int64} {L N S P : List Nat}  : M2r l E yX2_count cX2_count 2 (some .int) 2 [.ref (z 0), .int (nI (0))] z v kd K L N S P (fun r => r = some (.int (nI K.length))) := by
  intro f hf
  obtain ⟨b1, b2, b3, b4, b5⟩ := hf.lens
  refine mk_r (by decide) (Nat.le_of_ble_eq_true rfl) ?_
  intro p e s m below meth c ls C Wd hl
  have X : X2w E _ z v kd K L N S P s s.heap [] := ⟨f, Wd, hf⟩
  have hl : lv_has ls 2 [(0, .ref (z 0)), (1, .int (nI (0)))] := hl
  refine lv_iload_n C.hx C.hb dX2_count_0 rfl (lv_at hl 1 rfl) ?_
  refine lv_tableIn (off := 39) (tgt := 40) C.hx C.hb dX2_count_1 (by decide) (by decide) (by decide) (by decide) ?_
  refine lv_aload_n C.hx C.hb dX2_count_40 rfl (lv_at hl 0 rfl) ?_
  refine x2g_4 C X dX2_count_41 ?_
  refine x2s_1 C X dX2_count_44 ?_
  exact ret_ir C (rfl) dX2_count_47
set_option maxHeartbeats 4000000 in
set_option maxRecDepth 100000 in
/-- count -/
theorem c2_count_1 {l : Launch} {E : Gq} {z : Nat → Nat} {v : Nat → Int32} {kd : Nat} {K : List Int64} {L N S P : List Nat}  : M2r l E yX2_count cX2_count 2 (some .int) 2 [.ref (z 0), .int (nI (1))] z v kd K L N S P (fun r => r = some (.int (nI S.length))) := by
  intro f hf
  obtain ⟨b1, b2, b3, b4, b5⟩ := hf.lens
  refine mk_r (by decide) (Nat.le_of_ble_eq_true rfl) ?_
  intro p e s m below meth c ls C Wd hl
  have X : X2w E _ z v kd K L N S P s s.heap [] := ⟨f, Wd, hf⟩
  have hl : lv_has ls 2 [(0, .ref (z 0)), (1, .int (nI (1)))] := hl
  refine lv_iload_n C.hx C.hb dX2_count_0 rfl (lv_at hl 1 rfl) ?_
  refine lv_tableIn (off := 47) (tgt := 48) C.hx C.hb dX2_count_1 (by decide) (by decide) (by decide) (by decide) ?_
  refine lv_aload_n C.hx C.hb dX2_count_48 rfl (lv_at hl 0 rfl) ?_
  refine x2g_7 C X dX2_count_49 ?_
  refine x2s_4 C X dX2_count_52 ?_
  exact ret_ir C (rfl) dX2_count_55
set_option maxHeartbeats 4000000 in
set_option maxRecDepth 100000 in
/-- count -/
theorem c2_count_2 {l : Launch} {E : Gq} {z : Nat → Nat} {v : Nat → Int32} {kd : Nat} {K : List Int64} {L N S P : List Nat}  : M2r l E yX2_count cX2_count 2 (some .int) 2 [.ref (z 0), .int (nI (2))] z v kd K L N S P (fun r => r = some (.int (nI P.length))) := by
  intro f hf
  obtain ⟨b1, b2, b3, b4, b5⟩ := hf.lens
  refine mk_r (by decide) (Nat.le_of_ble_eq_true rfl) ?_
  intro p e s m below meth c ls C Wd hl
  have X : X2w E _ z v kd K L N S P s s.heap [] := ⟨f, Wd, hf⟩
  have hl : lv_has ls 2 [(0, .ref (z 0)), (1, .int (nI (2)))] := hl
  refine lv_iload_n C.hx C.hb dX2_count_0 rfl (lv_at hl 1 rfl) ?_
  refine lv_tableIn (off := 55) (tgt := 56) C.hx C.hb dX2_count_1 (by decide) (by decide) (by decide) (by decide) ?_
  refine lv_aload_n C.hx C.hb dX2_count_56 rfl (lv_at hl 0 rfl) ?_
  refine x2g_8 C X dX2_count_57 ?_
  refine x2s_5 C X dX2_count_60 ?_
  exact ret_ir C (rfl) dX2_count_63
set_option maxHeartbeats 4000000 in
set_option maxRecDepth 100000 in
/-- count -/
theorem c2_count_3 {l : Launch} {E : Gq} {z : Nat → Nat} {v : Nat → Int32} {kd : Nat} {K : List Int64} {L N S P : List Nat} {cl : Nat} (hv11 : v 11 = nI cl) (hcl : cl ≤ 1) : M2r l E yX2_count cX2_count 2 (some .int) 2 [.ref (z 0), .int (nI (3))] z v kd K L N S P (fun r => r = some (.int (nI cl))) := by
  intro f hf
  obtain ⟨b1, b2, b3, b4, b5⟩ := hf.lens
  refine mk_r (by decide) (Nat.le_of_ble_eq_true rfl) ?_
  intro p e s m below meth c ls C Wd hl
  have X : X2w E _ z v kd K L N S P s s.heap [] := ⟨f, Wd, hf⟩
  have hl : lv_has ls 2 [(0, .ref (z 0)), (1, .int (nI (3)))] := hl
  refine lv_iload_n C.hx C.hb dX2_count_0 rfl (lv_at hl 1 rfl) ?_
  refine lv_tableIn (off := 63) (tgt := 64) C.hx C.hb dX2_count_1 (by decide) (by decide) (by decide) (by decide) ?_
  refine lv_aload_n C.hx C.hb dX2_count_64 rfl (lv_at hl 0 rfl) ?_
  refine x2g_11 C X (x := nI (cl)) hv11 dX2_count_65 ?_
  refine n_if_eq (tgt := 75) C dX2_count_68 (by decide) (by omega) (fun c68 => ?_) (fun c68 => ?_)
  · refine lv_iconst (v := nI (0)) C.hx C.hb dX2_count_75 (by decide) ?_
    exact ret_ir C (by rw [c68]) dX2_count_76
  · refine lv_iconst (v := nI (1)) C.hx C.hb dX2_count_71 (by decide) ?_
    refine lv_goto (tgt := 76) C.hx C.hb dX2_count_72 (by decide) ?_
    exact ret_ir C (by rw [show cl = 1 by omega]) dX2_count_76
set_option maxHeartbeats 4000000 in
set_option maxRecDepth 100000 in
/-- count -/
theorem c2_count_4 {l : Launch} {E : Gq} {z : Nat → Nat} {v : Nat → Int32} {kd : Nat} {K : List Int64} {L N S P : List Nat}  : M2r l E yX2_count cX2_count 2 (some .int) 2 [.ref (z 0), .int (nI (4))] z v kd K L N S P (fun r => r = some (.int (v 9))) := by
  intro f hf
  obtain ⟨b1, b2, b3, b4, b5⟩ := hf.lens
  refine mk_r (by decide) (Nat.le_of_ble_eq_true rfl) ?_
  intro p e s m below meth c ls C Wd hl
  have X : X2w E _ z v kd K L N S P s s.heap [] := ⟨f, Wd, hf⟩
  have hl : lv_has ls 2 [(0, .ref (z 0)), (1, .int (nI (4)))] := hl
  refine lv_iload_n C.hx C.hb dX2_count_0 rfl (lv_at hl 1 rfl) ?_
  refine lv_tableIn (off := 76) (tgt := 77) C.hx C.hb dX2_count_1 (by decide) (by decide) (by decide) (by decide) ?_
  refine lv_aload_n C.hx C.hb dX2_count_77 rfl (lv_at hl 0 rfl) ?_
  refine x2g_9 C X (x := v 9) rfl dX2_count_78 ?_
  exact ret_ir C (rfl) dX2_count_81
set_option maxHeartbeats 4000000 in
set_option maxRecDepth 100000 in
/-- count -/
theorem c2_count_5 {l : Launch} {E : Gq} {z : Nat → Nat} {v : Nat → Int32} {kd : Nat} {K : List Int64} {L N S P : List Nat}  : M2r l E yX2_count cX2_count 2 (some .int) 2 [.ref (z 0), .int (nI (5))] z v kd K L N S P (fun r => r = some (.int (nI (sm L 0 L.length)))) := by
  intro f hf
  obtain ⟨b1, b2, b3, b4, b5⟩ := hf.lens
  refine mk_r (by decide) (Nat.le_of_ble_eq_true rfl) ?_
  intro p e s m below meth c ls C Wd hl
  have X : X2w E _ z v kd K L N S P s s.heap [] := ⟨f, Wd, hf⟩
  have hl : lv_has ls 2 [(0, .ref (z 0)), (1, .int (nI (5)))] := hl
  refine lv_iload_n C.hx C.hb dX2_count_0 rfl (lv_at hl 1 rfl) ?_
  refine lv_tableIn (off := 81) (tgt := 82) C.hx C.hb dX2_count_1 (by decide) (by decide) (by decide) (by decide) ?_
  refine lv_aload_n C.hx C.hb dX2_count_82 rfl (lv_at hl 0 rfl) ?_
  refine x2g_5 C X dX2_count_83 ?_
  refine lv_iconst (v := nI (0)) C.hx C.hb dX2_count_86 (by decide) ?_
  refine lv_aload_n C.hx C.hb dX2_count_87 rfl (lv_at hl 0 rfl) ?_
  refine x2g_5 C X dX2_count_88 ?_
  refine x2s_2 C X dX2_count_91 ?_
  refine x2_sum_2 C X (by omega) (by omega) ⟨by decide, by decide⟩ hl.1 (Nat.le_of_ble_eq_true rfl) ⟨Nat.le_refl _, Nat.le_refl _⟩ dX2_count_94 ?_
  exact ret_ir C (rfl) dX2_count_97
set_option maxHeartbeats 4000000 in
set_option maxRecDepth 100000 in
/-- count -/
theorem c2_count_x {l : Launch} {E : Gq} {z : Nat → Nat} {v : Nat → Int32} {kd : Nat} {K : List Int64} {L N S P : List Nat} {what : Int32} (hsw : what.toInt < 0 ∨ 5 < what.toInt) : M2r l E yX2_count cX2_count 2 (some .int) 2 [.ref (z 0), .int (what)] z v kd K L N S P (fun r => r = some (.int (-1))) := by
  intro f hf
  obtain ⟨b1, b2, b3, b4, b5⟩ := hf.lens
  refine mk_r (by decide) (Nat.le_of_ble_eq_true rfl) ?_
  intro p e s m below meth c ls C Wd hl
  have X : X2w E _ z v kd K L N S P s s.heap [] := ⟨f, Wd, hf⟩
  have hl : lv_has ls 2 [(0, .ref (z 0)), (1, .int (what))] := hl
  refine lv_iload_n C.hx C.hb dX2_count_0 rfl (lv_at hl 1 rfl) ?_
  refine lv_tableOut (tgt := 98) C.hx C.hb dX2_count_1 hsw (by decide) ?_
  refine lv_iconst (v := (-1)) C.hx C.hb dX2_count_98 (by decide) ?_
  exact ret_ir C (rfl) dX2_count_99
set_option maxHeartbeats 4000000 in
set_option maxRecDepth 100000 in
/-- order -/
theorem c2_order {l : Launch} {E : Gq} {z : Nat → Nat} {v : Nat → Int32} {kd : Nat} {K : List Int64} {L N S P : List Nat} {i : Int32} : M2r l E yX2_order cX2_order 2 (some .long) 1 [.ref (z 0), .int (i)] z v kd K L N S P (fun r => r = some (.long (lAt K i))) := by
  intro f hf
  obtain ⟨b1, b2, b3, b4, b5⟩ := hf.lens
  refine mk_r (by decide) (Nat.le_of_ble_eq_true rfl) ?_
  intro p e s m below meth c ls C Wd hl
  have X : X2w E _ z v kd K L N S P s s.heap [] := ⟨f, Wd, hf⟩
  have hl : lv_has ls 2 [(0, .ref (z 0)), (1, .int (i))] := hl
  refine lv_aload_n C.hx C.hb dX2_order_0 rfl (lv_at hl 0 rfl) ?_
  refine x2g_4 C X dX2_order_1 ?_
  refine lv_iload_n C.hx C.hb dX2_order_4 rfl (lv_at hl 1 rfl) ?_
  refine x2_at C X ⟨by decide, by decide⟩ hl.1 (Nat.le_of_ble_eq_true rfl) ⟨Nat.le_refl _, Nat.le_refl _⟩ dX2_order_5 ?_
  exact ret_lr C (rfl) dX2_order_8
set_option maxHeartbeats 4000000 in
set_option maxRecDepth 100000 in
theorem l2_bo {p : Program} {l : Launch} {e : Env} {s : State} {m : MethodId} {args : Array Value} {below : List Frame} {meth : Method} {c : Code} {E : Gq} {A : Nat → Prop} {z : Nat → Nat} {v : Nat → Int32} {kd : Nat} {K : List Int64} {L N S P : List Nat} (C : Cx E p s m args meth c cX2_brokenOrders 3 (some .int) RX2 A) (X : X2w E A z v kd K L N S P s s.heap []) (b1 : K.length ≤ 600) (b4 : S.length ≤ 601) (b5 : P.length ≤ 601) (hso : ∀ j, 1 ≤ j → j < K.length → K.getD (j - 1) 0 < K.getD j 0) : ∀ (n j : Nat), K.length - j = n → 1 ≤ j → j ≤ K.length + 1 → ∀ ls : Array Slot, lv_has ls 3 [(2, .int (nI (j))), (1, .int (nI (0))), (0, .ref (z 0))] → W p l e (Rm 1 0 0) s m args below meth c s.heap [] 0 0 (MQ below (Qr (fun r => r = some (.int (nI 0)))) args s 0 0 (fun _ => False)) (F0 m 4 ls []) := by
  intro n
  induction n with
  | zero =>
    intro j hn h1 hj ls hl
    refine lv_iload_n C.hx C.hb dX2_brokenOrders_4 rfl (lv_at hl 0 rfl) ?_
    refine lv_aload_n C.hx C.hb dX2_brokenOrders_5 rfl (lv_at hl 2 rfl) ?_
    refine x2g_4 C X dX2_brokenOrders_6 ?_
    refine x2s_1 C X dX2_brokenOrders_9 ?_
    refine n_icmp_ge (tgt := 46) C dX2_brokenOrders_12 (by decide) (by omega) (by omega) (fun c12 => ?_) (fun c12 => ?_)
    · refine lv_iload_n C.hx C.hb dX2_brokenOrders_46 rfl (lv_at hl 1 rfl) ?_
      exact ret_ir C (rfl) dX2_brokenOrders_47
    · omega
  | succ n ih =>
    intro j hn h1 hj ls hl
    refine lv_iload_n C.hx C.hb dX2_brokenOrders_4 rfl (lv_at hl 0 rfl) ?_
    refine lv_aload_n C.hx C.hb dX2_brokenOrders_5 rfl (lv_at hl 2 rfl) ?_
    refine x2g_4 C X dX2_brokenOrders_6 ?_
    refine x2s_1 C X dX2_brokenOrders_9 ?_
    refine n_icmp_ge (tgt := 46) C dX2_brokenOrders_12 (by decide) (by omega) (by omega) (fun c12 => ?_) (fun c12 => ?_)
    · omega
    · refine lv_aload_n C.hx C.hb dX2_brokenOrders_15 rfl (lv_at hl 2 rfl) ?_
      refine x2g_4 C X dX2_brokenOrders_16 ?_
      refine lv_iload_n C.hx C.hb dX2_brokenOrders_19 rfl (lv_at hl 0 rfl) ?_
      refine lv_iconst (v := nI (1)) C.hx C.hb dX2_brokenOrders_20 (by decide) ?_
      refine n_sub C dX2_brokenOrders_21 (by omega) ?_
      refine x2_at C X ⟨by decide, by decide⟩ hl.1 (Nat.le_of_ble_eq_true rfl) ⟨Nat.le_refl _, Nat.le_refl _⟩ dX2_brokenOrders_22 ?_
      refine n_rel (lAt_n (by omega)) ?_
      refine lv_aload_n C.hx C.hb dX2_brokenOrders_25 rfl (lv_at hl 2 rfl) ?_
      refine x2g_4 C X dX2_brokenOrders_26 ?_
      refine lv_iload_n C.hx C.hb dX2_brokenOrders_29 rfl (lv_at hl 0 rfl) ?_
      refine x2_at C X ⟨by decide, by decide⟩ hl.1 (Nat.le_of_ble_eq_true rfl) ⟨Nat.le_refl _, Nat.le_refl _⟩ dX2_brokenOrders_30 ?_
      refine n_rel (lAt_n (by omega)) ?_
      refine n_lcmp_lt (tgt := 40) C dX2_brokenOrders_33 dX2_brokenOrders_34 (by decide) (fun c33 => ?_) (fun c33 => ?_)
      · refine lv_iinc (v := nI (j + 1)) (lv' := [(2, .int (nI (j + 1))), (1, .int (nI (0))), (0, .ref (z 0))]) C.hx C.hb dX2_brokenOrders_40 hl (k := 0) rfl (nI_1 _) (by decide) rfl (fun ls hl => ?_)
        refine lv_goto (tgt := 4) C.hx C.hb dX2_brokenOrders_43 (by decide) ?_
        exact ih (j + 1) (by omega) (by omega) (by omega) ls (lv_sub hl [0, 1, 2] rfl)
      · exact absurd (hso j h1 (by omega)) (Int64.not_lt.mpr c33)
set_option maxHeartbeats 4000000 in
set_option maxRecDepth 100000 in
/-- no order is broken -/
theorem c2_brokenOrders {l : Launch} {E : Gq} {z : Nat → Nat} {v : Nat → Int32} {kd : Nat} {K : List Int64} {L N S P : List Nat} (hso : ∀ j, 1 ≤ j → j < K.length → K.getD (j - 1) 0 < K.getD j 0) : M2r l E yX2_brokenOrders cX2_brokenOrders 3 (some .int) 1 [.ref (z 0)] z v kd K L N S P (fun r => r = some (.int (nI 0))) := by
  intro f hf
  obtain ⟨b1, b2, b3, b4, b5⟩ := hf.lens
  refine mk_r (by decide) (Nat.le_of_ble_eq_true rfl) ?_
  intro p e s m below meth c ls C Wd hl
  have X : X2w E _ z v kd K L N S P s s.heap [] := ⟨f, Wd, hf⟩
  have hl : lv_has ls 3 [(0, .ref (z 0))] := hl
  refine lv_iconst (v := nI (0)) C.hx C.hb dX2_brokenOrders_0 (by decide) ?_
  refine lv_istore_n (lv' := [(1, .int (nI (0))), (0, .ref (z 0))]) C.hx C.hb dX2_brokenOrders_1 rfl hl (by decide) rfl (fun ls hl => ?_)
  refine lv_iconst (v := nI (1)) C.hx C.hb dX2_brokenOrders_2 (by decide) ?_
  refine lv_istore_n (lv' := [(2, .int (nI (1))), (1, .int (nI (0))), (0, .ref (z 0))]) C.hx C.hb dX2_brokenOrders_3 rfl hl (by decide) rfl (fun ls hl => ?_)
  exact l2_bo C X b1 b4 b5 hso _ 1 rfl (Nat.le_refl _) (by omega) ls (lv_sub hl [0, 1, 2] rfl)
set_option maxHeartbeats 4000000 in
set_option maxRecDepth 100000 in
theorem l2_br {p : Program} {l : Launch} {e : Env} {s : State} {m : MethodId} {args : Array Value} {below : List Frame} {meth : Method} {c : Code} {E : Gq} {A : Nat → Prop} {z : Nat → Nat} {v : Nat → Int32} {kd : Nat} {K : List Int64} {L N S P : List Nat} (C : Cx E p s m args meth c cX2_brokenRooms 5 (some .int) RX2 A) (X : X2w E A z v kd K L N S P s s.heap []) (b1 : K.length ≤ 600) (b4 : S.length ≤ 601) (b5 : P.length ≤ 601) {rm : Nat} (hv0 : v 0 = nI rm) (hrm : rm ≤ 1000) (hSs : S.sum ≤ 2 ^ 20) (hLs : L.sum ≤ 2 ^ 20) (hro : ∀ j, j < S.length → lin L S j ≤ rm) : ∀ (n j : Nat), S.length - j = n → True → j ≤ S.length + 1 → ∀ ls : Array Slot, lv_has ls 5 [(3, .int (nI (j))), (2, .int (nI (sm S 0 j))), (1, .int (nI (0))), (0, .ref (z 0))] → W p l e (Rm 2 0 0) s m args below meth c s.heap [] 0 0 (MQ below (Qr (fun r => r = some (.int (nI 0)))) args s 0 0 (fun _ => False)) (F0 m 6 ls []) := by
  intro n
  induction n with
  | zero =>
    intro j hn h1 hj ls hl
    refine lv_iload_n C.hx C.hb dX2_brokenRooms_6 rfl (lv_at hl 0 rfl) ?_
    refine lv_aload_n C.hx C.hb dX2_brokenRooms_7 rfl (lv_at hl 3 rfl) ?_
    refine x2g_7 C X dX2_brokenRooms_8 ?_
    refine x2s_4 C X dX2_brokenRooms_11 ?_
    refine n_icmp_ge (tgt := 58) C dX2_brokenRooms_14 (by decide) (by omega) (by omega) (fun c14 => ?_) (fun c14 => ?_)
    · refine lv_iload_n C.hx C.hb dX2_brokenRooms_58 rfl (lv_at hl 2 rfl) ?_
      exact ret_ir C (rfl) dX2_brokenRooms_59
    · omega
  | succ n ih =>
    intro j hn h1 hj ls hl
    have q1 := sm0_get S j
    have q2 := sm_le L (sm S 0 j) (sm S 0 j + S.getD j 0)
    refine lv_iload_n C.hx C.hb dX2_brokenRooms_6 rfl (lv_at hl 0 rfl) ?_
    refine lv_aload_n C.hx C.hb dX2_brokenRooms_7 rfl (lv_at hl 3 rfl) ?_
    refine x2g_7 C X dX2_brokenRooms_8 ?_
    refine x2s_4 C X dX2_brokenRooms_11 ?_
    refine n_icmp_ge (tgt := 58) C dX2_brokenRooms_14 (by decide) (by omega) (by omega) (fun c14 => ?_) (fun c14 => ?_)
    · omega
    · refine lv_iload_n C.hx C.hb dX2_brokenRooms_17 rfl (lv_at hl 1 rfl) ?_
      refine lv_aload_n C.hx C.hb dX2_brokenRooms_18 rfl (lv_at hl 3 rfl) ?_
      refine x2g_7 C X dX2_brokenRooms_19 ?_
      refine lv_iload_n C.hx C.hb dX2_brokenRooms_22 rfl (lv_at hl 0 rfl) ?_
      refine x2_intAt_4 C X (by omega) ⟨by decide, by decide⟩ hl.1 (Nat.le_of_ble_eq_true rfl) ⟨Nat.le_refl _, Nat.le_refl _⟩ dX2_brokenRooms_23 ?_
      refine n_add C dX2_brokenRooms_26 ?_
      refine lv_istore (lv' := [(4, .int (nI ((sm S 0 j) + (S.getD j 0)))), (3, .int (nI (j))), (2, .int (nI (sm S 0 j))), (1, .int (nI (0))), (0, .ref (z 0))]) C.hx C.hb dX2_brokenRooms_27 hl (by decide) rfl (fun ls hl => ?_)
      refine lv_aload_n C.hx C.hb dX2_brokenRooms_29 rfl (lv_at hl 4 rfl) ?_
      refine x2g_5 C X dX2_brokenRooms_30 ?_
      refine lv_iload_n C.hx C.hb dX2_brokenRooms_33 rfl (lv_at hl 2 rfl) ?_
      refine lv_iload C.hx C.hb dX2_brokenRooms_34 (lv_at hl 0 rfl) ?_
      refine x2_sum_2 C X (by omega) (by omega) ⟨by decide, by decide⟩ hl.1 (Nat.le_of_ble_eq_true rfl) ⟨Nat.le_refl _, Nat.le_refl _⟩ dX2_brokenRooms_36 ?_
      refine lv_aload_n C.hx C.hb dX2_brokenRooms_39 rfl (lv_at hl 4 rfl) ?_
      refine x2g_0 C X (x := nI (rm)) hv0 dX2_brokenRooms_40 ?_
      refine n_icmp_le (tgt := 49) C dX2_brokenRooms_43 (by decide) (by omega) (by omega) (fun c43 => ?_) (fun c43 => ?_)
      · refine lv_iload C.hx C.hb dX2_brokenRooms_49 (lv_at hl 0 rfl) ?_
        refine lv_istore_n (lv' := [(2, .int (nI ((sm S 0 j) + (S.getD j 0)))), (4, .int (nI ((sm S 0 j) + (S.getD j 0)))), (3, .int (nI (j))), (1, .int (nI (0))), (0, .ref (z 0))]) C.hx C.hb dX2_brokenRooms_51 rfl hl (by decide) rfl (fun ls hl => ?_)
        refine lv_iinc (v := nI (j + 1)) (lv' := [(3, .int (nI (j + 1))), (2, .int (nI ((sm S 0 j) + (S.getD j 0)))), (4, .int (nI ((sm S 0 j) + (S.getD j 0)))), (1, .int (nI (0))), (0, .ref (z 0))]) C.hx C.hb dX2_brokenRooms_52 hl (k := 2) rfl (nI_1 _) (by decide) rfl (fun ls hl => ?_)
        refine lv_goto (tgt := 6) C.hx C.hb dX2_brokenRooms_55 (by decide) ?_
        exact ih (j + 1) (by omega) trivial (by omega) ls (by rw [sm0_s (by omega)]; exact lv_sub hl [0, 1, 3, 4] rfl)
      · exact absurd (hro j (by omega)) (Nat.not_le.mpr c43)
set_option maxHeartbeats 4000000 in
set_option maxRecDepth 100000 in
/-- no room is broken -/
theorem c2_brokenRooms {l : Launch} {E : Gq} {z : Nat → Nat} {v : Nat → Int32} {kd : Nat} {K : List Int64} {L N S P : List Nat} {rm : Nat} (hv0 : v 0 = nI rm) (hrm : rm ≤ 1000) (hSs : S.sum ≤ 2 ^ 20) (hLs : L.sum ≤ 2 ^ 20) (hro : ∀ j, j < S.length → lin L S j ≤ rm) : M2r l E yX2_brokenRooms cX2_brokenRooms 5 (some .int) 2 [.ref (z 0)] z v kd K L N S P (fun r => r = some (.int (nI 0))) := by
  intro f hf
  obtain ⟨b1, b2, b3, b4, b5⟩ := hf.lens
  refine mk_r (by decide) (Nat.le_of_ble_eq_true rfl) ?_
  intro p e s m below meth c ls C Wd hl
  have X : X2w E _ z v kd K L N S P s s.heap [] := ⟨f, Wd, hf⟩
  have hl : lv_has ls 5 [(0, .ref (z 0))] := hl
  refine lv_iconst (v := nI (0)) C.hx C.hb dX2_brokenRooms_0 (by decide) ?_
  refine lv_istore_n (lv' := [(1, .int (nI (0))), (0, .ref (z 0))]) C.hx C.hb dX2_brokenRooms_1 rfl hl (by decide) rfl (fun ls hl => ?_)
  refine lv_iconst (v := nI (0)) C.hx C.hb dX2_brokenRooms_2 (by decide) ?_
  refine lv_istore_n (lv' := [(2, .int (nI (0))), (1, .int (nI (0))), (0, .ref (z 0))]) C.hx C.hb dX2_brokenRooms_3 rfl hl (by decide) rfl (fun ls hl => ?_)
  refine lv_iconst (v := nI (0)) C.hx C.hb dX2_brokenRooms_4 (by decide) ?_
  refine lv_istore_n (lv' := [(3, .int (nI (0))), (2, .int (nI (0))), (1, .int (nI (0))), (0, .ref (z 0))]) C.hx C.hb dX2_brokenRooms_5 rfl hl (by decide) rfl (fun ls hl => ?_)
  exact l2_br C X b1 b4 b5 hv0 hrm hSs hLs hro _ 0 rfl trivial (by omega) ls (lv_sub hl [0, 1, 2, 3] rfl)
set_option maxHeartbeats 4000000 in
set_option maxRecDepth 100000 in
theorem l2_bw {p : Program} {l : Launch} {e : Env} {s : State} {m : MethodId} {args : Array Value} {below : List Frame} {meth : Method} {c : Code} {E : Gq} {A : Nat → Prop} {z : Nat → Nat} {v : Nat → Int32} {kd : Nat} {K : List Int64} {L N S P : List Nat} (C : Cx E p s m args meth c cX2_brokenWidths 3 (some .int) RX2 A) (X : X2w E A z v kd K L N S P s s.heap []) (b1 : K.length ≤ 600) (b4 : S.length ≤ 601) (b5 : P.length ≤ 601) {wd : Nat} (hw : v 1 = nI wd) (hwd : wd ≤ 20) (hwi : ∀ j, j < P.length → P.getD j 0 ≤ wd) : ∀ (n j : Nat), P.length - j = n → True → j ≤ P.length + 1 → ∀ ls : Array Slot, lv_has ls 3 [(2, .int (nI (j))), (1, .int (nI (0))), (0, .ref (z 0))] → W p l e (Rm 2 0 0) s m args below meth c s.heap [] 0 0 (MQ below (Qr (fun r => r = some (.int (nI 0)))) args s 0 0 (fun _ => False)) (F0 m 4 ls []) := by
  intro n
  induction n with
  | zero =>
    intro j hn h1 hj ls hl
    refine lv_iload_n C.hx C.hb dX2_brokenWidths_4 rfl (lv_at hl 0 rfl) ?_
    refine lv_aload_n C.hx C.hb dX2_brokenWidths_5 rfl (lv_at hl 2 rfl) ?_
    refine x2g_8 C X dX2_brokenWidths_6 ?_
    refine x2s_5 C X dX2_brokenWidths_9 ?_
    refine n_icmp_ge (tgt := 39) C dX2_brokenWidths_12 (by decide) (by omega) (by omega) (fun c12 => ?_) (fun c12 => ?_)
    · refine lv_iload_n C.hx C.hb dX2_brokenWidths_39 rfl (lv_at hl 1 rfl) ?_
      exact ret_ir C (rfl) dX2_brokenWidths_40
    · omega
  | succ n ih =>
    intro j hn h1 hj ls hl
    have q1 := hwi j (by omega)
    refine lv_iload_n C.hx C.hb dX2_brokenWidths_4 rfl (lv_at hl 0 rfl) ?_
    refine lv_aload_n C.hx C.hb dX2_brokenWidths_5 rfl (lv_at hl 2 rfl) ?_
    refine x2g_8 C X dX2_brokenWidths_6 ?_
    refine x2s_5 C X dX2_brokenWidths_9 ?_
    refine n_icmp_ge (tgt := 39) C dX2_brokenWidths_12 (by decide) (by omega) (by omega) (fun c12 => ?_) (fun c12 => ?_)
    · omega
    · refine lv_aload_n C.hx C.hb dX2_brokenWidths_15 rfl (lv_at hl 2 rfl) ?_
      refine x2g_8 C X dX2_brokenWidths_16 ?_
      refine lv_iload_n C.hx C.hb dX2_brokenWidths_19 rfl (lv_at hl 0 rfl) ?_
      refine x2_intAt_5 C X (by omega) ⟨by decide, by decide⟩ hl.1 (Nat.le_of_ble_eq_true rfl) ⟨Nat.le_refl _, Nat.le_refl _⟩ dX2_brokenWidths_20 ?_
      refine lv_aload_n C.hx C.hb dX2_brokenWidths_23 rfl (lv_at hl 2 rfl) ?_
      refine x2g_1 C X (x := nI (wd)) hw dX2_brokenWidths_24 ?_
      refine n_icmp_le (tgt := 33) C dX2_brokenWidths_27 (by decide) (by omega) (by omega) (fun c27 => ?_) (fun c27 => ?_)
      · refine lv_iinc (v := nI (j + 1)) (lv' := [(2, .int (nI (j + 1))), (1, .int (nI (0))), (0, .ref (z 0))]) C.hx C.hb dX2_brokenWidths_33 hl (k := 0) rfl (nI_1 _) (by decide) rfl (fun ls hl => ?_)
        refine lv_goto (tgt := 4) C.hx C.hb dX2_brokenWidths_36 (by decide) ?_
        exact ih (j + 1) (by omega) trivial (by omega) ls (lv_sub hl [0, 1, 2] rfl)
      · exact absurd (hwi j (by omega)) (Nat.not_le.mpr c27)
set_option maxHeartbeats 4000000 in
set_option maxRecDepth 100000 in
/-- no width is broken -/
theorem c2_brokenWidths {l : Launch} {E : Gq} {z : Nat → Nat} {v : Nat → Int32} {kd : Nat} {K : List Int64} {L N S P : List Nat} {wd : Nat} (hw : v 1 = nI wd) (hwd : wd ≤ 20) (hwi : ∀ j, j < P.length → P.getD j 0 ≤ wd) : M2r l E yX2_brokenWidths cX2_brokenWidths 3 (some .int) 2 [.ref (z 0)] z v kd K L N S P (fun r => r = some (.int (nI 0))) := by
  intro f hf
  obtain ⟨b1, b2, b3, b4, b5⟩ := hf.lens
  refine mk_r (by decide) (Nat.le_of_ble_eq_true rfl) ?_
  intro p e s m below meth c ls C Wd hl
  have X : X2w E _ z v kd K L N S P s s.heap [] := ⟨f, Wd, hf⟩
  have hl : lv_has ls 3 [(0, .ref (z 0))] := hl
  refine lv_iconst (v := nI (0)) C.hx C.hb dX2_brokenWidths_0 (by decide) ?_
  refine lv_istore_n (lv' := [(1, .int (nI (0))), (0, .ref (z 0))]) C.hx C.hb dX2_brokenWidths_1 rfl hl (by decide) rfl (fun ls hl => ?_)
  refine lv_iconst (v := nI (0)) C.hx C.hb dX2_brokenWidths_2 (by decide) ?_
  refine lv_istore_n (lv' := [(2, .int (nI (0))), (1, .int (nI (0))), (0, .ref (z 0))]) C.hx C.hb dX2_brokenWidths_3 rfl hl (by decide) rfl (fun ls hl => ?_)
  exact l2_bw C X b1 b4 b5 hw hwd hwi _ 0 rfl trivial (by omega) ls (lv_sub hl [0, 1, 2] rfl)
set_option maxHeartbeats 4000000 in
set_option maxRecDepth 100000 in
/-- verify -/
theorem c2_verify {l : Launch} {E : Gq} {z : Nat → Nat} {v : Nat → Int32} {kd : Nat} {K : List Int64} {L N S P : List Nat} {rm wd : Nat} (hv0 : v 0 = nI rm) (hrm : rm ≤ 1000) (hSs : S.sum ≤ 2 ^ 20) (hLs : L.sum ≤ 2 ^ 20) (hro : ∀ j, j < S.length → lin L S j ≤ rm) (hw : v 1 = nI wd) (hwd : wd ≤ 20) (hwi : ∀ j, j < P.length → P.getD j 0 ≤ wd) (hso : ∀ j, 1 ≤ j → j < K.length → K.getD (j - 1) 0 < K.getD j 0) : M2r l E yX2_verify cX2_verify 1 (some .int) 3 [.ref (z 0)] z v kd K L N S P (fun r => r = some (.int (nI 0))) := by
  intro f hf
  obtain ⟨b1, b2, b3, b4, b5⟩ := hf.lens
  refine mk_r (by decide) (Nat.le_of_ble_eq_true rfl) ?_
  intro p e s m below meth c ls C Wd hl
  have X : X2w E _ z v kd K L N S P s s.heap [] := ⟨f, Wd, hf⟩
  have hl : lv_has ls 1 [(0, .ref (z 0))] := hl
  refine lv_aload_n C.hx C.hb dX2_verify_0 rfl (lv_at hl 0 rfl) ?_
  refine x2_cr (As := []) (rest := []) C X (c2_brokenOrders hso) wy_X2_brokenOrders ts_24 tw_246 rfl ⟨by decide, by decide⟩ rfl hl.1 rfl (Nat.le_of_ble_eq_true rfl) ⟨Nat.le_refl _, Nat.le_refl _⟩ dX2_verify_1 (fun r hp => ?_)
  subst hp
  refine W.eq (g2 := F0 m 4 ls [.int (nI (0))]) rfl ?_
  refine lv_aload_n C.hx C.hb dX2_verify_4 rfl (lv_at hl 0 rfl) ?_
  refine x2_cr (As := []) (rest := [.int (nI (0))]) C X (c2_brokenRooms hv0 hrm hSs hLs hro) wy_X2_brokenRooms ts_25 tw_250 rfl ⟨by decide, by decide⟩ rfl hl.1 rfl (Nat.le_of_ble_eq_true rfl) ⟨Nat.le_refl _, Nat.le_refl _⟩ dX2_verify_5 (fun r hp => ?_)
  subst hp
  refine W.eq (g2 := F0 m 8 ls [.int (nI (0)), .int (nI (0))]) rfl ?_
  refine n_add C dX2_verify_8 ?_
  refine lv_aload_n C.hx C.hb dX2_verify_9 rfl (lv_at hl 0 rfl) ?_
  refine x2_cr (As := []) (rest := [.int (nI (0 + 0))]) C X (c2_brokenWidths hw hwd hwi) wy_X2_brokenWidths ts_26 tw_254 rfl ⟨by decide, by decide⟩ rfl hl.1 rfl (Nat.le_of_ble_eq_true rfl) ⟨Nat.le_refl _, Nat.le_refl _⟩ dX2_verify_10 (fun r hp => ?_)
  subst hp
  refine W.eq (g2 := F0 m 13 ls [.int (nI (0)), .int (nI (0 + 0))]) rfl ?_
  refine n_add C dX2_verify_13 ?_
  exact ret_ir C (rfl) dX2_verify_14
/-- laying all records anew: how many are held, the next number, and the rows so far -/
def rgl (L : List Nat) (lr lw : Nat) : Nat → Nat → Nat → Nat → Nat → List Nat → List Nat → List Nat → Nat × Nat × List Nat × List Nat × List Nat
  | 0, _, held, _, nx, N, S, P => (held, nx, N, S, P)
  | n + 1, i, held, tog, nx, N, S, P =>
    if 0 < held ∧ lr < tog + L.getD i 0 then rgl L lr lw n (i + 1) (0 + 1) (0 + L.getD i 0) (nx + 1) (ins N N.length nx) (ins S S.length held) (lay P lw)
    else rgl L lr lw n (i + 1) (held + 1) (tog + L.getD i 0) nx N S P
theorem lay_b (P : List Nat) (lw : Nat) : (lay P lw).length ≤ P.length + 1 ∧ (lay P lw).sum = P.sum + 1 := by
  unfold lay
  split
  · rename_i h
    have q := set_sum (L := P) (j := P.length - 1) (x := P.getD (P.length - 1) 0 + 1) (by omega)
    rw [List.length_set]
    exact ⟨by omega, by omega⟩
  · rw [ins_len (Nat.le_refl _), ins_sum]
    exact ⟨Nat.le_refl _, rfl⟩
set_option maxHeartbeats 4000000 in
set_option maxRecDepth 100000 in
/-- reorganise: closed -/
theorem c2_reorganise_c {l : Launch} {E : Gq} {z : Nat → Nat} {v : Nat → Int32} {kd : Nat} {K : List Int64} {L N S P : List Nat} (hv11 : v 11 = nI 1) : M2w l E yX2_reorganise cX2_reorganise 5 (some .int) 3 [.ref (z 0)] z v kd K L N S P (fun r v' kd' K' L' N' S' P' => some (.int (-5)) = r ∧ v = v' ∧ kd = kd' ∧ K = K' ∧ L = L' ∧ N = N' ∧ S = S' ∧ P = P') := by
  intro f hf
  obtain ⟨b1, b2, b3, b4, b5⟩ := hf.lens
  refine mk_w (by decide) (Nat.le_of_ble_eq_true rfl) ?_
  intro p e s m below meth c ls C Wd hl
  have X : X2w E _ z v kd K L N S P s s.heap [] := ⟨f, Wd, hf⟩
  have hl : lv_has ls 5 [(0, .ref (z 0))] := hl
  refine lv_aload_n C.hx C.hb dX2_reorganise_0 rfl (lv_at hl 0 rfl) ?_
  refine x2g_11 C X (x := nI (1)) hv11 dX2_reorganise_1 ?_
  refine n_if_eq (tgt := 10) C dX2_reorganise_4 (by decide) (by decide) (fun h => absurd h (by decide)) (fun _ => ?_)
  refine lv_bipush (v := (-5)) C.hx C.hb dX2_reorganise_7 (by decide) ?_
  exact ret2_i C X (⟨rfl, rfl, rfl, rfl, rfl, rfl, rfl, rfl⟩) dX2_reorganise_9
set_option maxHeartbeats 4000000 in
set_option maxRecDepth 100000 in
theorem l2_reorg {p : Program} {l : Launch} {e : Env} {s : State} {m : MethodId} {args : Array Value} {below : List Frame} {meth : Method} {c : Code} {E : Gq} {ws0 : va_W} {z : Nat → Nat} {v0 : Nat → Int32} {kd : Nat} {K : List Int64} {L : List Nat} {lr lw : Nat} {T0 : Nat × Nat × List Nat × List Nat × List Nat} (C : Cx E p s m args meth c cX2_reorganise 5 (some .int) RX2 (va_A ws0 s.heap.size)) (hlr : lr ≤ 2 ^ 20) (hlw : lw ≤ 2 ^ 20) (hv2 : v0 2 = nI lr) (hv3 : v0 3 = nI lw) (hLl : L.length ≤ 600) (hLs : L.sum ≤ 2 ^ 20) :
    ∀ (n i held tog nx : Nat) (N S P : List Nat) (H : Heap) (locs : List Loc), i + n = L.length → held ≤ i → tog ≤ (L.take i).sum → nx + n < 2 ^ 30 → N.length ≤ i → S.length ≤ i → P.length ≤ i → P.sum ≤ i → rgl L lr lw n i held tog nx N S P = T0 → X2w E (va_A ws0 s.heap.size) z (upd v0 9 (nI nx)) kd K L N S P s H locs →
      ∀ ls : Array Slot, lv_has ls 5 [(3, .int (nI i)), (2, .int (nI tog)), (1, .int (nI held)), (0, .ref (z 0))] → W p l e (Rm 3 0 0) s m args below meth c H locs 0 0 (MQ below (Qw E ws0 s.heap.size (P2 E z (fun r v' kd' K' L' N' S' P' => ∃ (h nx1 : Nat) (N1 S1 P1 : List Nat), T0 = (h, nx1, N1, S1, P1) ∧ some (.int (nI (ins S1 S1.length h).length)) = r ∧ upd v0 9 (nI (nx1 + 1)) = v' ∧ kd = kd' ∧ K = K' ∧ L = L' ∧ ins N1 N1.length nx1 = N' ∧ ins S1 S1.length h = S' ∧ lay P1 lw = P'))) args s 0 0 (va_A ws0 s.heap.size)) (F0 m 40 ls []) := by
  intro n
  induction n with
  | zero =>
    intro i held tog nx N S P H locs hi hh ht hnx n1 n2 n3 n4 hT X ls hl
    refine lv_iload_n C.hx C.hb dX2_reorganise_40 rfl (lv_at hl 0 rfl) ?_
    refine lv_aload_n C.hx C.hb dX2_reorganise_41 rfl (lv_at hl 3 rfl) ?_
    refine x2g_5 C X dX2_reorganise_42 ?_
    refine x2s_2 C X dX2_reorganise_45 ?_
    refine n_icmp_ge (tgt := 99) C dX2_reorganise_48 (by decide) (by omega) (by omega) (fun c48 => ?_) (fun c48 => ?_)
    · refine lv_aload_n C.hx C.hb dX2_reorganise_99 rfl (lv_at hl 3 rfl) ?_
      refine lv_iload_n C.hx C.hb dX2_reorganise_100 rfl (lv_at hl 2 rfl) ?_
      refine x2_cw (As := [.int (nI (held))]) (rest := []) C X (c2_layInterval (nx := nx) (lw := lw) (sz := held) rfl hv3 (by omega) (by omega) (by omega) (by omega) (by omega) (by omega) (by omega)) wy_X2_layInterval ts_0 tw_48 rfl ⟨by decide, by decide⟩ rfl hl.1 rfl (Nat.le_of_ble_eq_true rfl) ⟨Nat.le_refl _, Nat.le_refl _⟩ dX2_reorganise_101 (fun r v' kd' K' L' N' S' P' H locs hp X => ?_)
      obtain ⟨rfl, rfl, rfl, rfl, rfl, rfl, rfl, rfl⟩ := hp
      refine W.eq (g2 := F0 m 104 ls []) rfl ?_
      rw [upd_upd] at X
      refine lv_aload_n C.hx C.hb dX2_reorganise_104 rfl (lv_at hl 3 rfl) ?_
      refine x2g_7 C X dX2_reorganise_105 ?_
      refine x2s_4 C X dX2_reorganise_108 ?_
      exact ret2_i C X (⟨held, nx, N, S, P, hT.symm, rfl, rfl, rfl, rfl, rfl, rfl, rfl, rfl⟩) dX2_reorganise_111
    · omega
  | succ n ih =>
    intro i held tog nx N S P H locs hi hh ht hnx n1 n2 n3 n4 hT X ls hl
    have hg := take_s (L := L) (j := i) (by omega)
    have hg2 := sum_split L (i + 1)
    have e1 := ins_len (L := N) (j := N.length) (x := nx) (Nat.le_refl _)
    have e2 := ins_len (L := S) (j := S.length) (x := held) (Nat.le_refl _)
    obtain ⟨e3, e4⟩ := lay_b P lw
    simp only [rgl] at hT
    refine lv_iload_n C.hx C.hb dX2_reorganise_40 rfl (lv_at hl 0 rfl) ?_
    refine lv_aload_n C.hx C.hb dX2_reorganise_41 rfl (lv_at hl 3 rfl) ?_
    refine x2g_5 C X dX2_reorganise_42 ?_
    refine x2s_2 C X dX2_reorganise_45 ?_
    refine n_icmp_ge (tgt := 99) C dX2_reorganise_48 (by decide) (by omega) (by omega) (fun c48 => ?_) (fun c48 => ?_)
    · omega
    · refine lv_aload_n C.hx C.hb dX2_reorganise_51 rfl (lv_at hl 3 rfl) ?_
      refine x2g_5 C X dX2_reorganise_52 ?_
      refine lv_iload_n C.hx C.hb dX2_reorganise_55 rfl (lv_at hl 0 rfl) ?_
      refine x2_intAt_2 C X (by omega) ⟨by decide, by decide⟩ hl.1 (Nat.le_of_ble_eq_true rfl) ⟨Nat.le_refl _, Nat.le_refl _⟩ dX2_reorganise_56 ?_
      refine lv_istore (lv' := [(4, .int (nI (L.getD i 0))), (3, .int (nI (i))), (2, .int (nI (tog))), (1, .int (nI (held))), (0, .ref (z 0))]) C.hx C.hb dX2_reorganise_59 hl (by decide) rfl (fun ls hl => ?_)
      refine lv_iload_n C.hx C.hb dX2_reorganise_61 rfl (lv_at hl 3 rfl) ?_
      refine n_if_le (tgt := 85) C dX2_reorganise_62 (by decide) (by omega) (fun c62 => ?_) (fun c62 => ?_)
      · refine lv_iinc (v := nI (held + 1)) (lv' := [(1, .int (nI (held + 1))), (4, .int (nI (L.getD i 0))), (3, .int (nI (i))), (2, .int (nI (tog))), (0, .ref (z 0))]) C.hx C.hb dX2_reorganise_85 hl (k := 3) rfl (nI_1 _) (by decide) rfl (fun ls hl => ?_)
        refine lv_iload_n C.hx C.hb dX2_reorganise_88 rfl (lv_at hl 3 rfl) ?_
        refine lv_iload C.hx C.hb dX2_reorganise_89 (lv_at hl 1 rfl) ?_
        refine n_add C dX2_reorganise_91 ?_
        refine lv_istore_n (lv' := [(2, .int (nI (tog + (L.getD i 0)))), (1, .int (nI (held + 1))), (4, .int (nI (L.getD i 0))), (3, .int (nI (i))), (0, .ref (z 0))]) C.hx C.hb dX2_reorganise_92 rfl hl (by decide) rfl (fun ls hl => ?_)
        refine lv_iinc (v := nI (i + 1)) (lv' := [(3, .int (nI (i + 1))), (2, .int (nI (tog + (L.getD i 0)))), (1, .int (nI (held + 1))), (4, .int (nI (L.getD i 0))), (0, .ref (z 0))]) C.hx C.hb dX2_reorganise_93 hl (k := 3) rfl (nI_1 _) (by decide) rfl (fun ls hl => ?_)
        refine lv_goto (tgt := 40) C.hx C.hb dX2_reorganise_96 (by decide) ?_
        exact ih (i + 1) (held + 1) (tog + L.getD i 0) nx N S P H locs (by omega) (by omega) (by omega) (by omega) (by omega) (by omega) (by omega) (by omega) (by rw [if_neg (fun h => by omega)] at hT; exact hT) X ls (lv_sub hl [0, 1, 2, 4] rfl)
      · refine lv_iload_n C.hx C.hb dX2_reorganise_65 rfl (lv_at hl 2 rfl) ?_
        refine lv_iload C.hx C.hb dX2_reorganise_66 (lv_at hl 0 rfl) ?_
        refine n_add C dX2_reorganise_68 ?_
        refine lv_aload_n C.hx C.hb dX2_reorganise_69 rfl (lv_at hl 4 rfl) ?_
        refine x2g_2 C X (x := nI (lr)) hv2 dX2_reorganise_70 ?_
        refine n_icmp_le (tgt := 85) C dX2_reorganise_73 (by decide) (by omega) (by omega) (fun c73 => ?_) (fun c73 => ?_)
        · refine lv_iinc (v := nI (held + 1)) (lv' := [(1, .int (nI (held + 1))), (4, .int (nI (L.getD i 0))), (3, .int (nI (i))), (2, .int (nI (tog))), (0, .ref (z 0))]) C.hx C.hb dX2_reorganise_85 hl (k := 3) rfl (nI_1 _) (by decide) rfl (fun ls hl => ?_)
          refine lv_iload_n C.hx C.hb dX2_reorganise_88 rfl (lv_at hl 3 rfl) ?_
          refine lv_iload C.hx C.hb dX2_reorganise_89 (lv_at hl 1 rfl) ?_
          refine n_add C dX2_reorganise_91 ?_
          refine lv_istore_n (lv' := [(2, .int (nI (tog + (L.getD i 0)))), (1, .int (nI (held + 1))), (4, .int (nI (L.getD i 0))), (3, .int (nI (i))), (0, .ref (z 0))]) C.hx C.hb dX2_reorganise_92 rfl hl (by decide) rfl (fun ls hl => ?_)
          refine lv_iinc (v := nI (i + 1)) (lv' := [(3, .int (nI (i + 1))), (2, .int (nI (tog + (L.getD i 0)))), (1, .int (nI (held + 1))), (4, .int (nI (L.getD i 0))), (0, .ref (z 0))]) C.hx C.hb dX2_reorganise_93 hl (k := 3) rfl (nI_1 _) (by decide) rfl (fun ls hl => ?_)
          refine lv_goto (tgt := 40) C.hx C.hb dX2_reorganise_96 (by decide) ?_
          exact ih (i + 1) (held + 1) (tog + L.getD i 0) nx N S P H locs (by omega) (by omega) (by omega) (by omega) (by omega) (by omega) (by omega) (by omega) (by rw [if_neg (fun h => by omega)] at hT; exact hT) X ls (lv_sub hl [0, 1, 2, 4] rfl)
        · refine lv_aload_n C.hx C.hb dX2_reorganise_76 rfl (lv_at hl 4 rfl) ?_
          refine lv_iload_n C.hx C.hb dX2_reorganise_77 rfl (lv_at hl 3 rfl) ?_
          refine x2_cw (As := [.int (nI (held))]) (rest := []) C X (c2_layInterval (nx := nx) (lw := lw) (sz := held) rfl hv3 (by omega) (by omega) (by omega) (by omega) (by omega) (by omega) (by omega)) wy_X2_layInterval ts_0 tw_48 rfl ⟨by decide, by decide⟩ rfl hl.1 rfl (Nat.le_of_ble_eq_true rfl) ⟨Nat.le_refl _, Nat.le_refl _⟩ dX2_reorganise_78 (fun r v' kd' K' L' N' S' P' H locs hp X => ?_)
          obtain ⟨rfl, rfl, rfl, rfl, rfl, rfl, rfl, rfl⟩ := hp
          refine W.eq (g2 := F0 m 81 ls []) rfl ?_
          rw [upd_upd] at X
          refine lv_iconst (v := nI (0)) C.hx C.hb dX2_reorganise_81 (by decide) ?_
          refine lv_istore_n (lv' := [(1, .int (nI (0))), (4, .int (nI (L.getD i 0))), (3, .int (nI (i))), (2, .int (nI (tog))), (0, .ref (z 0))]) C.hx C.hb dX2_reorganise_82 rfl hl (by decide) rfl (fun ls hl => ?_)
          refine lv_iconst (v := nI (0)) C.hx C.hb dX2_reorganise_83 (by decide) ?_
          refine lv_istore_n (lv' := [(2, .int (nI (0))), (1, .int (nI (0))), (4, .int (nI (L.getD i 0))), (3, .int (nI (i))), (0, .ref (z 0))]) C.hx C.hb dX2_reorganise_84 rfl hl (by decide) rfl (fun ls hl => ?_)
          refine lv_iinc (v := nI (0 + 1)) (lv' := [(1, .int (nI (0 + 1))), (2, .int (nI (0))), (4, .int (nI (L.getD i 0))), (3, .int (nI (i))), (0, .ref (z 0))]) C.hx C.hb dX2_reorganise_85 hl (k := 1) rfl (nI_1 _) (by decide) rfl (fun ls hl => ?_)
          refine lv_iload_n C.hx C.hb dX2_reorganise_88 rfl (lv_at hl 1 rfl) ?_
          refine lv_iload C.hx C.hb dX2_reorganise_89 (lv_at hl 2 rfl) ?_
          refine n_add C dX2_reorganise_91 ?_
          refine lv_istore_n (lv' := [(2, .int (nI (0 + (L.getD i 0)))), (1, .int (nI (0 + 1))), (4, .int (nI (L.getD i 0))), (3, .int (nI (i))), (0, .ref (z 0))]) C.hx C.hb dX2_reorganise_92 rfl hl (by decide) rfl (fun ls hl => ?_)
          refine lv_iinc (v := nI (i + 1)) (lv' := [(3, .int (nI (i + 1))), (2, .int (nI (0 + (L.getD i 0)))), (1, .int (nI (0 + 1))), (4, .int (nI (L.getD i 0))), (0, .ref (z 0))]) C.hx C.hb dX2_reorganise_93 hl (k := 3) rfl (nI_1 _) (by decide) rfl (fun ls hl => ?_)
          refine lv_goto (tgt := 40) C.hx C.hb dX2_reorganise_96 (by decide) ?_
          exact ih (i + 1) (0 + 1) (0 + L.getD i 0) (nx + 1) (ins N N.length nx) (ins S S.length held) (lay P lw) H locs (by omega) (by omega) (by omega) (by omega) (by omega) (by omega) (by omega) (by omega) (by rw [if_pos ⟨c62, c73⟩] at hT; exact hT) X ls (lv_sub hl [0, 1, 2, 4] rfl)
set_option maxHeartbeats 4000000 in
set_option maxRecDepth 100000 in
/-- reorganise -/
theorem c2_reorganise_g {l : Launch} {E : Gq} {z : Nat → Nat} {v : Nat → Int32} {kd : Nat} {K : List Int64} {L N S P : List Nat} {lr lw nx : Nat} (hlr : lr ≤ 2 ^ 20) (hlw : lw ≤ 2 ^ 20) (hv2 : v 2 = nI lr) (hv3 : v 3 = nI lw) (hv9 : v 9 = nI nx) (hv11 : v 11 = nI 0) (hnx : nx + 600 < 2 ^ 30) (hLs : L.sum ≤ 2 ^ 20) : M2w l E yX2_reorganise cX2_reorganise 5 (some .int) 3 [.ref (z 0)] z v kd K L N S P (fun r v' kd' K' L' N' S' P' => ∃ (h nx1 : Nat) (N1 S1 P1 : List Nat), rgl L lr lw L.length 0 0 0 nx [] [] [] = (h, nx1, N1, S1, P1) ∧ some (.int (nI (ins S1 S1.length h).length)) = r ∧ upd v 9 (nI (nx1 + 1)) = v' ∧ kd = kd' ∧ K = K' ∧ L = L' ∧ ins N1 N1.length nx1 = N' ∧ ins S1 S1.length h = S' ∧ lay P1 lw = P') := by
  intro f hf
  obtain ⟨b1, b2, b3, b4, b5⟩ := hf.lens
  refine mk_w (by decide) (Nat.le_of_ble_eq_true rfl) ?_
  intro p e s m below meth c ls C Wd hl
  have X : X2w E _ z v kd K L N S P s s.heap [] := ⟨f, Wd, hf⟩
  have hl : lv_has ls 5 [(0, .ref (z 0))] := hl
  refine lv_aload_n C.hx C.hb dX2_reorganise_0 rfl (lv_at hl 0 rfl) ?_
  refine x2g_11 C X (x := nI (0)) hv11 dX2_reorganise_1 ?_
  refine n_if_eq (tgt := 10) C dX2_reorganise_4 (by decide) (by decide) (fun _ => ?_) (fun h => absurd h (by decide))
  refine lv_aload_n C.hx C.hb dX2_reorganise_10 rfl (lv_at hl 0 rfl) ?_
  refine x2g_6 C X dX2_reorganise_11 ?_
  refine lv_iconst (v := nI (0)) C.hx C.hb dX2_reorganise_14 (by decide) ?_
  refine x2z_3 C X dX2_reorganise_15 (fun H locs X => ?_)
  refine lv_aload_n C.hx C.hb dX2_reorganise_18 rfl (lv_at hl 0 rfl) ?_
  refine x2g_7 C X dX2_reorganise_19 ?_
  refine lv_iconst (v := nI (0)) C.hx C.hb dX2_reorganise_22 (by decide) ?_
  refine x2z_4 C X dX2_reorganise_23 (fun H locs X => ?_)
  refine lv_aload_n C.hx C.hb dX2_reorganise_26 rfl (lv_at hl 0 rfl) ?_
  refine x2g_8 C X dX2_reorganise_27 ?_
  refine lv_iconst (v := nI (0)) C.hx C.hb dX2_reorganise_30 (by decide) ?_
  refine x2z_5 C X dX2_reorganise_31 (fun H locs X => ?_)
  refine lv_iconst (v := nI (0)) C.hx C.hb dX2_reorganise_34 (by decide) ?_
  refine lv_istore_n (lv' := [(1, .int (nI (0))), (0, .ref (z 0))]) C.hx C.hb dX2_reorganise_35 rfl hl (by decide) rfl (fun ls hl => ?_)
  refine lv_iconst (v := nI (0)) C.hx C.hb dX2_reorganise_36 (by decide) ?_
  refine lv_istore_n (lv' := [(2, .int (nI (0))), (1, .int (nI (0))), (0, .ref (z 0))]) C.hx C.hb dX2_reorganise_37 rfl hl (by decide) rfl (fun ls hl => ?_)
  refine lv_iconst (v := nI (0)) C.hx C.hb dX2_reorganise_38 (by decide) ?_
  refine lv_istore_n (lv' := [(3, .int (nI (0))), (2, .int (nI (0))), (1, .int (nI (0))), (0, .ref (z 0))]) C.hx C.hb dX2_reorganise_39 rfl hl (by decide) rfl (fun ls hl => ?_)
  exact l2_reorg (T0 := rgl L lr lw L.length 0 0 0 nx [] [] []) C hlr hlw hv2 hv3 b2 hLs L.length 0 0 0 nx [] [] [] H locs (by omega) (Nat.le_refl _) (Nat.le_refl _) (by omega) (Nat.le_refl _) (Nat.le_refl _) (Nat.le_refl _) (Nat.le_refl _) rfl (by rw [upd_same hv9]; exact X) ls (lv_sub hl [0, 1, 2, 3] rfl)
end
section
theorem wy_X3_init : Wy yX3_init cX3_init 7 none 4 := ⟨tw_360, tw_7, tw_359, by decide, by decide +kernel⟩
theorem wy_X3_held : Wz yX3_held cX3_held 3 (some .int) 3 := ⟨tw_364, tw_7, tw_363, by decide, by decide +kernel⟩
theorem wy_X3_thrown : Wy yX3_thrown cX3_thrown 1 (some .int) 0 := ⟨tw_430, tw_7, tw_428, by decide, by decide +kernel⟩
theorem wy_X3_less : Wy yX3_less cX3_less 5 (some .int) 1 := ⟨tw_442, tw_7, tw_441, by decide, by decide +kernel⟩
theorem wy_X3_has : Wy yX3_has cX3_has 4 (some .boolean) 1 := ⟨tw_438, tw_7, tw_437, by decide, by decide +kernel⟩
theorem wy_X3_first : Wy yX3_first cX3_first 3 (some .int) 1 := ⟨tw_450, tw_7, tw_449, by decide, by decide +kernel⟩
theorem wy_X3_recordsOf : Wy yX3_recordsOf cX3_recordsOf 4 (some .int) 1 := ⟨tw_462, tw_7, tw_461, by decide, by decide +kernel⟩
theorem wy_X3_lengthsOf : Wy yX3_lengthsOf cX3_lengthsOf 4 (some .int) 1 := ⟨tw_454, tw_7, tw_453, by decide, by decide +kernel⟩
theorem wy_X3_belongs : Wy yX3_belongs cX3_belongs 5 (some .int) 1 := ⟨tw_446, tw_7, tw_445, by decide, by decide +kernel⟩
theorem wy_X3_widthOf : Wy yX3_widthOf cX3_widthOf 4 (some .int) 1 := ⟨tw_466, tw_7, tw_465, by decide, by decide +kernel⟩
theorem wy_X3_insert : Wy yX3_insert cX3_insert 7 none 3 := ⟨tw_458, tw_7, tw_457, by decide, by decide +kernel⟩
theorem wy_X3_open : Wy yX3_open cX3_open 5 none 3 := ⟨tw_478, tw_7, tw_477, by decide, by decide +kernel⟩
theorem wy_X3_kept : Wy yX3_kept cX3_kept 9 (some .int) 1 := ⟨tw_486, tw_7, tw_485, by decide, by decide +kernel⟩
theorem wy_X3_splitInterval : Wy yX3_splitInterval cX3_splitInterval 6 none 2 := ⟨tw_482, tw_7, tw_481, by decide, by decide +kernel⟩
theorem wy_X3_splitArea : Wy yX3_splitArea cX3_splitArea 6 none 1 := ⟨tw_474, tw_7, tw_473, by decide, by decide +kernel⟩
theorem wy_X3_isCut : Wy yX3_isCut cX3_isCut 3 (some .boolean) 2 := ⟨tw_470, tw_7, tw_469, by decide, by decide +kernel⟩
theorem wy_X3_put : Wy yX3_put cX3_put 8 (some .int) 2 := ⟨tw_434, tw_7, tw_432, by decide, by decide +kernel⟩
theorem wy_X3_cut : Wy yX3_cut cX3_cut 3 (some .int) 1 := ⟨tw_490, tw_7, tw_488, by decide, by decide +kernel⟩
theorem wy_X3_open_ : Wy yX3_open_ cX3_open_ 1 (some .int) 0 := ⟨tw_494, tw_7, tw_492, by decide, by decide +kernel⟩
theorem wy_X3_remove : Wy yX3_remove cX3_remove 7 (some .int) 1 := ⟨tw_498, tw_7, tw_496, by decide, by decide +kernel⟩
theorem wy_X3_reorganise : Wy yX3_reorganise cX3_reorganise 6 (some .int) 0 := ⟨tw_502, tw_7, tw_500, by decide, by decide +kernel⟩
theorem wy_X3_find : Wy yX3_find cX3_find 3 (some .int) 1 := ⟨tw_506, tw_7, tw_504, by decide, by decide +kernel⟩
theorem wy_X3_next : Wy yX3_next cX3_next 4 (some .int) 1 := ⟨tw_510, tw_7, tw_508, by decide, by decide +kernel⟩
theorem wy_X3_areaOf : Wy yX3_areaOf cX3_areaOf 4 (some .int) 1 := ⟨tw_518, tw_7, tw_517, by decide, by decide +kernel⟩
theorem wy_X3_interval : Wy yX3_interval cX3_interval 3 (some .int) 2 := ⟨tw_514, tw_7, tw_512, by decide, by decide +kernel⟩
theorem wy_X3_split : Wy yX3_split cX3_split 2 (some .int) 1 := ⟨tw_522, tw_7, tw_520, by decide, by decide +kernel⟩
theorem wy_X3_index : Wy yX3_index cX3_index 6 (some .int) 2 := ⟨tw_526, tw_7, tw_524, by decide, by decide +kernel⟩
theorem wy_X3_verify : Wy yX3_verify cX3_verify 1 (some .int) 0 := ⟨tw_530, tw_7, tw_528, by decide, by decide +kernel⟩
theorem wy_X3_order : Wy yX3_order cX3_order 2 (some .long) 1 := ⟨tw_534, tw_7, tw_532, by decide, by decide +kernel⟩
theorem wy_X3_count : Wy yX3_count cX3_count 4 (some .int) 1 := ⟨tw_538, tw_7, tw_536, by decide, by decide +kernel⟩
/-! THE REFERENCE: its world (an object, six arrays), what is read and written of it -/
def w3 (E : Gq) (z : Nat → Nat) (v : Nat → Int32) (fk : Nat → Int64) (gl go gi ga : Nat → Nat) (gs : Nat → Int32) : va_W := [(z 0, .inr (3, [.int (v 0), .int (v 1), .int (v 2), .int (v 3), .int (v 4), .ref (z 1), .ref (z 2), .ref (z 3), .int (v 8), .ref (z 4), .ref (z 5), .int (v 11), .int (v 12), .int (v 13), .int (v 14), .int (v 15), .int (v 16), .int (v 17), .int (v 18), .ref (z 6)])), (z 1, .inl (E.2.2.1, 601, .inr (.inl fk))), (z 2, .inl (E.2.1, 601, .inl (fun k => nI (gl k)))), (z 3, .inl (E.2.1, 601, .inl (fun k => nI (go k)))), (z 4, .inl (E.2.1, 1300, .inl (fun k => nI (gi k)))), (z 5, .inl (E.2.1, 1300, .inl (fun k => nI (ga k)))), (z 6, .inl (E.2.1, 4, .inl gs))]
def X3w (E : Gq) (A : Nat → Prop) (z : Nat → Nat) (v : Nat → Int32) (fk : Nat → Int64) (gl go gi ga : Nat → Nat) (gs : Nat → Int32) (s : State) (H : Heap) (locs : List Loc) : Prop := Wl E A (w3 E z v fk gl go gi ga gs) s H locs
def P3 (E : Gq) (z : Nat → Nat) (post : Option Value → (Nat → Int32) → (Nat → Int64) → (Nat → Nat) → (Nat → Nat) → (Nat → Nat) → (Nat → Nat) → (Nat → Int32) → Prop) : Option Value → va_W → Prop := fun r ws' => ∃ (v : Nat → Int32) (fk : Nat → Int64) (gl go gi ga : Nat → Nat) (gs : Nat → Int32), ws' = w3 E z v fk gl go gi ga gs ∧ post r v fk gl go gi ga gs
def M3r (l : Launch) (E : Gq) (y : MethodName) (cc : ByteArray) (maxL : Nat) (ret : Option FieldType) (k : Nat) (av : List Value) (z : Nat → Nat) (v : Nat → Int32) (fk : Nat → Int64) (gl go gi ga : Nat → Nat) (gs : Nat → Int32) (post : Option Value → Prop) : Prop := ∀ sz : Nat, Met l y (.code y cc maxL ret :: LT) (Rm k 0 0) (Pw E av (w3 E z v fk gl go gi ga gs) sz) (Qr post) 0 0 (fun _ => False)
def M3w (l : Launch) (E : Gq) (y : MethodName) (cc : ByteArray) (maxL : Nat) (ret : Option FieldType) (k : Nat) (av : List Value) (z : Nat → Nat) (v : Nat → Int32) (fk : Nat → Int64) (gl go gi ga : Nat → Nat) (gs : Nat → Int32) (post : Option Value → (Nat → Int32) → (Nat → Int64) → (Nat → Nat) → (Nat → Nat) → (Nat → Nat) → (Nat → Nat) → (Nat → Int32) → Prop) : Prop := ∀ sz : Nat, Met l y (.code y cc maxL ret :: LT) (Rm k 0 0) (Pw E av (w3 E z v fk gl go gi ga gs) sz) (Qw E (w3 E z v fk gl go gi ga gs) sz (P3 E z post)) 0 0 (va_A (w3 E z v fk gl go gi ga gs) sz)
theorem updN {g : Nat → Nat} {j x : Nat} : upd (fun k => nI (g k)) j (nI x) = fun k => nI (va_up g j x k) := by
  funext k
  unfold upd va_up
  by_cases h : k = j
  · rw [if_pos h, if_pos h]
  · rw [if_neg h, if_neg h]
section X3S
variable {p : Program} {l : Launch} {e : Env} {R : Room} {s : State} {m : MethodId} {args : Array Value} {below : List Frame} {meth : Method} {c : Code} {H : Heap} {locs : List Loc} {cells slots : Nat} {Q : State → Prop}
variable {E : Gq} {cc : ByteArray} {nL : Nat} {ret : Option FieldType} {A : Nat → Prop} {pc : Nat} {ls : Array Slot} {rest : List Value} {z : Nat → Nat} {v : Nat → Int32} {fk : Nat → Int64} {gl go gi ga : Nat → Nat} {gs : Nat → Int32}
theorem x3g_0 (C : Cx E p s m args meth c cc nL ret RX3 A) (X : X3w E A z v fk gl go gi ga gs s H locs) {x : Int32} (hv : v 0 = x) (hdg : decode cc pc = .ok (.getfield 55, 3)) (kk : W p l e R s m args below meth c H locs cells slots Q (F0 m (pc + 3) ls (.int x :: rest))) : W p l e R s m args below meth c H locs cells slots Q (F0 m pc ls (.ref (z 0) :: rest)) := by
  subst hv
  exact getf C X 0 rfl rfl in_X3 0 (by decide) tw_365 rfl hdg kk
theorem x3g_1 (C : Cx E p s m args meth c cc nL ret RX3 A) (X : X3w E A z v fk gl go gi ga gs s H locs) {x : Int32} (hv : v 1 = x) (hdg : decode cc pc = .ok (.getfield 43, 3)) (kk : W p l e R s m args below meth c H locs cells slots Q (F0 m (pc + 3) ls (.int x :: rest))) : W p l e R s m args below meth c H locs cells slots Q (F0 m pc ls (.ref (z 0) :: rest)) := by
  subst hv
  exact getf C X 0 rfl rfl in_X3 1 (by decide) tw_366 rfl hdg kk
theorem x3g_2 (C : Cx E p s m args meth c cc nL ret RX3 A) (X : X3w E A z v fk gl go gi ga gs s H locs) {x : Int32} (hv : v 2 = x) (hdg : decode cc pc = .ok (.getfield 46, 3)) (kk : W p l e R s m args below meth c H locs cells slots Q (F0 m (pc + 3) ls (.int x :: rest))) : W p l e R s m args below meth c H locs cells slots Q (F0 m pc ls (.ref (z 0) :: rest)) := by
  subst hv
  exact getf C X 0 rfl rfl in_X3 2 (by decide) tw_367 rfl hdg kk
theorem x3g_3 (C : Cx E p s m args meth c cc nL ret RX3 A) (X : X3w E A z v fk gl go gi ga gs s H locs) {x : Int32} (hv : v 3 = x) (hdg : decode cc pc = .ok (.getfield 49, 3)) (kk : W p l e R s m args below meth c H locs cells slots Q (F0 m (pc + 3) ls (.int x :: rest))) : W p l e R s m args below meth c H locs cells slots Q (F0 m pc ls (.ref (z 0) :: rest)) := by
  subst hv
  exact getf C X 0 rfl rfl in_X3 3 (by decide) tw_368 rfl hdg kk
theorem x3g_4 (C : Cx E p s m args meth c cc nL ret RX3 A) (X : X3w E A z v fk gl go gi ga gs s H locs) {x : Int32} (hv : v 4 = x) (hdg : decode cc pc = .ok (.getfield 52, 3)) (kk : W p l e R s m args below meth c H locs cells slots Q (F0 m (pc + 3) ls (.int x :: rest))) : W p l e R s m args below meth c H locs cells slots Q (F0 m pc ls (.ref (z 0) :: rest)) := by
  subst hv
  exact getf C X 0 rfl rfl in_X3 4 (by decide) tw_369 rfl hdg kk
theorem x3g_5 (C : Cx E p s m args meth c cc nL ret RX3 A) (X : X3w E A z v fk gl go gi ga gs s H locs) (hdg : decode cc pc = .ok (.getfield 7, 3)) (kk : W p l e R s m args below meth c H locs cells slots Q (F0 m (pc + 3) ls (.ref (z 1) :: rest))) : W p l e R s m args below meth c H locs cells slots Q (F0 m pc ls (.ref (z 0) :: rest)) := getf C X 0 rfl rfl in_X3 5 (by decide) tw_370 rfl hdg kk
theorem x3g_6 (C : Cx E p s m args meth c cc nL ret RX3 A) (X : X3w E A z v fk gl go gi ga gs s H locs) (hdg : decode cc pc = .ok (.getfield 13, 3)) (kk : W p l e R s m args below meth c H locs cells slots Q (F0 m (pc + 3) ls (.ref (z 2) :: rest))) : W p l e R s m args below meth c H locs cells slots Q (F0 m pc ls (.ref (z 0) :: rest)) := getf C X 0 rfl rfl in_X3 6 (by decide) tw_371 rfl hdg kk
theorem x3g_7 (C : Cx E p s m args meth c cc nL ret RX3 A) (X : X3w E A z v fk gl go gi ga gs s H locs) (hdg : decode cc pc = .ok (.getfield 17, 3)) (kk : W p l e R s m args below meth c H locs cells slots Q (F0 m (pc + 3) ls (.ref (z 3) :: rest))) : W p l e R s m args below meth c H locs cells slots Q (F0 m pc ls (.ref (z 0) :: rest)) := getf C X 0 rfl rfl in_X3 7 (by decide) tw_372 rfl hdg kk
theorem x3g_8 (C : Cx E p s m args meth c cc nL ret RX3 A) (X : X3w E A z v fk gl go gi ga gs s H locs) {x : Int32} (hv : v 8 = x) (hdg : decode cc pc = .ok (.getfield 58, 3)) (kk : W p l e R s m args below meth c H locs cells slots Q (F0 m (pc + 3) ls (.int x :: rest))) : W p l e R s m args below meth c H locs cells slots Q (F0 m pc ls (.ref (z 0) :: rest)) := by
  subst hv
  exact getf C X 0 rfl rfl in_X3 8 (by decide) tw_373 rfl hdg kk
theorem x3g_9 (C : Cx E p s m args meth c cc nL ret RX3 A) (X : X3w E A z v fk gl go gi ga gs s H locs) (hdg : decode cc pc = .ok (.getfield 20, 3)) (kk : W p l e R s m args below meth c H locs cells slots Q (F0 m (pc + 3) ls (.ref (z 4) :: rest))) : W p l e R s m args below meth c H locs cells slots Q (F0 m pc ls (.ref (z 0) :: rest)) := getf C X 0 rfl rfl in_X3 9 (by decide) tw_374 rfl hdg kk
theorem x3g_10 (C : Cx E p s m args meth c cc nL ret RX3 A) (X : X3w E A z v fk gl go gi ga gs s H locs) (hdg : decode cc pc = .ok (.getfield 23, 3)) (kk : W p l e R s m args below meth c H locs cells slots Q (F0 m (pc + 3) ls (.ref (z 5) :: rest))) : W p l e R s m args below meth c H locs cells slots Q (F0 m pc ls (.ref (z 0) :: rest)) := getf C X 0 rfl rfl in_X3 10 (by decide) tw_375 rfl hdg kk
theorem x3g_11 (C : Cx E p s m args meth c cc nL ret RX3 A) (X : X3w E A z v fk gl go gi ga gs s H locs) {x : Int32} (hv : v 11 = x) (hdg : decode cc pc = .ok (.getfield 26, 3)) (kk : W p l e R s m args below meth c H locs cells slots Q (F0 m (pc + 3) ls (.int x :: rest))) : W p l e R s m args below meth c H locs cells slots Q (F0 m pc ls (.ref (z 0) :: rest)) := by
  subst hv
  exact getf C X 0 rfl rfl in_X3 11 (by decide) tw_376 rfl hdg kk
theorem x3g_12 (C : Cx E p s m args meth c cc nL ret RX3 A) (X : X3w E A z v fk gl go gi ga gs s H locs) {x : Int32} (hv : v 12 = x) (hdg : decode cc pc = .ok (.getfield 30, 3)) (kk : W p l e R s m args below meth c H locs cells slots Q (F0 m (pc + 3) ls (.int x :: rest))) : W p l e R s m args below meth c H locs cells slots Q (F0 m pc ls (.ref (z 0) :: rest)) := by
  subst hv
  exact getf C X 0 rfl rfl in_X3 12 (by decide) tw_377 rfl hdg kk
theorem x3g_13 (C : Cx E p s m args meth c cc nL ret RX3 A) (X : X3w E A z v fk gl go gi ga gs s H locs) {x : Int32} (hv : v 13 = x) (hdg : decode cc pc = .ok (.getfield 33, 3)) (kk : W p l e R s m args below meth c H locs cells slots Q (F0 m (pc + 3) ls (.int x :: rest))) : W p l e R s m args below meth c H locs cells slots Q (F0 m pc ls (.ref (z 0) :: rest)) := by
  subst hv
  exact getf C X 0 rfl rfl in_X3 13 (by decide) tw_378 rfl hdg kk
theorem x3g_14 (C : Cx E p s m args meth c cc nL ret RX3 A) (X : X3w E A z v fk gl go gi ga gs s H locs) {x : Int32} (hv : v 14 = x) (hdg : decode cc pc = .ok (.getfield 85, 3)) (kk : W p l e R s m args below meth c H locs cells slots Q (F0 m (pc + 3) ls (.int x :: rest))) : W p l e R s m args below meth c H locs cells slots Q (F0 m pc ls (.ref (z 0) :: rest)) := by
  subst hv
  exact getf C X 0 rfl rfl in_X3 14 (by decide) tw_379 rfl hdg kk
theorem x3g_15 (C : Cx E p s m args meth c cc nL ret RX3 A) (X : X3w E A z v fk gl go gi ga gs s H locs) {x : Int32} (hv : v 15 = x) (hdg : decode cc pc = .ok (.getfield 92, 3)) (kk : W p l e R s m args below meth c H locs cells slots Q (F0 m (pc + 3) ls (.int x :: rest))) : W p l e R s m args below meth c H locs cells slots Q (F0 m pc ls (.ref (z 0) :: rest)) := by
  subst hv
  exact getf C X 0 rfl rfl in_X3 15 (by decide) tw_380 rfl hdg kk
theorem x3g_16 (C : Cx E p s m args meth c cc nL ret RX3 A) (X : X3w E A z v fk gl go gi ga gs s H locs) {x : Int32} (hv : v 16 = x) (hdg : decode cc pc = .ok (.getfield 95, 3)) (kk : W p l e R s m args below meth c H locs cells slots Q (F0 m (pc + 3) ls (.int x :: rest))) : W p l e R s m args below meth c H locs cells slots Q (F0 m pc ls (.ref (z 0) :: rest)) := by
  subst hv
  exact getf C X 0 rfl rfl in_X3 16 (by decide) tw_381 rfl hdg kk
theorem x3g_17 (C : Cx E p s m args meth c cc nL ret RX3 A) (X : X3w E A z v fk gl go gi ga gs s H locs) {x : Int32} (hv : v 17 = x) (hdg : decode cc pc = .ok (.getfield 88, 3)) (kk : W p l e R s m args below meth c H locs cells slots Q (F0 m (pc + 3) ls (.int x :: rest))) : W p l e R s m args below meth c H locs cells slots Q (F0 m pc ls (.ref (z 0) :: rest)) := by
  subst hv
  exact getf C X 0 rfl rfl in_X3 17 (by decide) tw_382 rfl hdg kk
theorem x3g_18 (C : Cx E p s m args meth c cc nL ret RX3 A) (X : X3w E A z v fk gl go gi ga gs s H locs) {x : Int32} (hv : v 18 = x) (hdg : decode cc pc = .ok (.getfield 98, 3)) (kk : W p l e R s m args below meth c H locs cells slots Q (F0 m (pc + 3) ls (.int x :: rest))) : W p l e R s m args below meth c H locs cells slots Q (F0 m pc ls (.ref (z 0) :: rest)) := by
  subst hv
  exact getf C X 0 rfl rfl in_X3 18 (by decide) tw_383 rfl hdg kk
theorem x3g_19 (C : Cx E p s m args meth c cc nL ret RX3 A) (X : X3w E A z v fk gl go gi ga gs s H locs) (hdg : decode cc pc = .ok (.getfield 36, 3)) (kk : W p l e R s m args below meth c H locs cells slots Q (F0 m (pc + 3) ls (.ref (z 6) :: rest))) : W p l e R s m args below meth c H locs cells slots Q (F0 m pc ls (.ref (z 0) :: rest)) := getf C X 0 rfl rfl in_X3 19 (by decide) tw_384 rfl hdg kk
theorem x3p_0 (C : Cx E p s m args meth c cc nL ret RX3 A) (X : X3w E A z v fk gl go gi ga gs s H locs) {x : Int32} (hdg : decode cc pc = .ok (.putfield 55, 3)) (kk : ∀ (H1 : Heap) (locs1 : List Loc), X3w E A z (upd v 0 x) fk gl go gi ga gs s H1 locs1 → W p l e R s m args below meth c H1 locs1 cells slots Q (F0 m (pc + 3) ls rest)) : W p l e R s m args below meth c H locs cells slots Q (F0 m pc ls (.int x :: .ref (z 0) :: rest)) := putf C X 0 rfl rfl in_X3 tyX3 tyX3_ok nmX3 0 (by decide) tw_365 rfl (ty := .int) (by decide +kernel) rfl rfl (Nat.le_of_ble_eq_true rfl) hdg kk
theorem x3p_8 (C : Cx E p s m args meth c cc nL ret RX3 A) (X : X3w E A z v fk gl go gi ga gs s H locs) {x : Int32} (hdg : decode cc pc = .ok (.putfield 58, 3)) (kk : ∀ (H1 : Heap) (locs1 : List Loc), X3w E A z (upd v 8 x) fk gl go gi ga gs s H1 locs1 → W p l e R s m args below meth c H1 locs1 cells slots Q (F0 m (pc + 3) ls rest)) : W p l e R s m args below meth c H locs cells slots Q (F0 m pc ls (.int x :: .ref (z 0) :: rest)) := putf C X 0 rfl rfl in_X3 tyX3 tyX3_ok nmX3 8 (by decide) tw_373 rfl (ty := .int) (by decide +kernel) rfl rfl (Nat.le_of_ble_eq_true rfl) hdg kk
theorem x3p_11 (C : Cx E p s m args meth c cc nL ret RX3 A) (X : X3w E A z v fk gl go gi ga gs s H locs) {x : Int32} (hdg : decode cc pc = .ok (.putfield 26, 3)) (kk : ∀ (H1 : Heap) (locs1 : List Loc), X3w E A z (upd v 11 x) fk gl go gi ga gs s H1 locs1 → W p l e R s m args below meth c H1 locs1 cells slots Q (F0 m (pc + 3) ls rest)) : W p l e R s m args below meth c H locs cells slots Q (F0 m pc ls (.int x :: .ref (z 0) :: rest)) := putf C X 0 rfl rfl in_X3 tyX3 tyX3_ok nmX3 11 (by decide) tw_376 rfl (ty := .int) (by decide +kernel) rfl rfl (Nat.le_of_ble_eq_true rfl) hdg kk
theorem x3p_12 (C : Cx E p s m args meth c cc nL ret RX3 A) (X : X3w E A z v fk gl go gi ga gs s H locs) {x : Int32} (hdg : decode cc pc = .ok (.putfield 30, 3)) (kk : ∀ (H1 : Heap) (locs1 : List Loc), X3w E A z (upd v 12 x) fk gl go gi ga gs s H1 locs1 → W p l e R s m args below meth c H1 locs1 cells slots Q (F0 m (pc + 3) ls rest)) : W p l e R s m args below meth c H locs cells slots Q (F0 m pc ls (.int x :: .ref (z 0) :: rest)) := putf C X 0 rfl rfl in_X3 tyX3 tyX3_ok nmX3 12 (by decide) tw_377 rfl (ty := .int) (by decide +kernel) rfl rfl (Nat.le_of_ble_eq_true rfl) hdg kk
theorem x3p_13 (C : Cx E p s m args meth c cc nL ret RX3 A) (X : X3w E A z v fk gl go gi ga gs s H locs) {x : Int32} (hdg : decode cc pc = .ok (.putfield 33, 3)) (kk : ∀ (H1 : Heap) (locs1 : List Loc), X3w E A z (upd v 13 x) fk gl go gi ga gs s H1 locs1 → W p l e R s m args below meth c H1 locs1 cells slots Q (F0 m (pc + 3) ls rest)) : W p l e R s m args below meth c H locs cells slots Q (F0 m pc ls (.int x :: .ref (z 0) :: rest)) := putf C X 0 rfl rfl in_X3 tyX3 tyX3_ok nmX3 13 (by decide) tw_378 rfl (ty := .int) (by decide +kernel) rfl rfl (Nat.le_of_ble_eq_true rfl) hdg kk
theorem x3p_14 (C : Cx E p s m args meth c cc nL ret RX3 A) (X : X3w E A z v fk gl go gi ga gs s H locs) {x : Int32} (hdg : decode cc pc = .ok (.putfield 85, 3)) (kk : ∀ (H1 : Heap) (locs1 : List Loc), X3w E A z (upd v 14 x) fk gl go gi ga gs s H1 locs1 → W p l e R s m args below meth c H1 locs1 cells slots Q (F0 m (pc + 3) ls rest)) : W p l e R s m args below meth c H locs cells slots Q (F0 m pc ls (.int x :: .ref (z 0) :: rest)) := putf C X 0 rfl rfl in_X3 tyX3 tyX3_ok nmX3 14 (by decide) tw_379 rfl (ty := .int) (by decide +kernel) rfl rfl (Nat.le_of_ble_eq_true rfl) hdg kk
theorem x3p_15 (C : Cx E p s m args meth c cc nL ret RX3 A) (X : X3w E A z v fk gl go gi ga gs s H locs) {x : Int32} (hdg : decode cc pc = .ok (.putfield 92, 3)) (kk : ∀ (H1 : Heap) (locs1 : List Loc), X3w E A z (upd v 15 x) fk gl go gi ga gs s H1 locs1 → W p l e R s m args below meth c H1 locs1 cells slots Q (F0 m (pc + 3) ls rest)) : W p l e R s m args below meth c H locs cells slots Q (F0 m pc ls (.int x :: .ref (z 0) :: rest)) := putf C X 0 rfl rfl in_X3 tyX3 tyX3_ok nmX3 15 (by decide) tw_380 rfl (ty := .int) (by decide +kernel) rfl rfl (Nat.le_of_ble_eq_true rfl) hdg kk
theorem x3p_16 (C : Cx E p s m args meth c cc nL ret RX3 A) (X : X3w E A z v fk gl go gi ga gs s H locs) {x : Int32} (hdg : decode cc pc = .ok (.putfield 95, 3)) (kk : ∀ (H1 : Heap) (locs1 : List Loc), X3w E A z (upd v 16 x) fk gl go gi ga gs s H1 locs1 → W p l e R s m args below meth c H1 locs1 cells slots Q (F0 m (pc + 3) ls rest)) : W p l e R s m args below meth c H locs cells slots Q (F0 m pc ls (.int x :: .ref (z 0) :: rest)) := putf C X 0 rfl rfl in_X3 tyX3 tyX3_ok nmX3 16 (by decide) tw_381 rfl (ty := .int) (by decide +kernel) rfl rfl (Nat.le_of_ble_eq_true rfl) hdg kk
theorem x3p_17 (C : Cx E p s m args meth c cc nL ret RX3 A) (X : X3w E A z v fk gl go gi ga gs s H locs) {x : Int32} (hn : narrow .boolean (.int x) = .int x) (hfi : fits .boolean (.int x) = true) (hdg : decode cc pc = .ok (.putfield 88, 3)) (kk : ∀ (H1 : Heap) (locs1 : List Loc), X3w E A z (upd v 17 x) fk gl go gi ga gs s H1 locs1 → W p l e R s m args below meth c H1 locs1 cells slots Q (F0 m (pc + 3) ls rest)) : W p l e R s m args below meth c H locs cells slots Q (F0 m pc ls (.int x :: .ref (z 0) :: rest)) := putf C X 0 rfl rfl in_X3 tyX3 tyX3_ok nmX3 17 (by decide) tw_382 rfl (ty := .boolean) (by decide +kernel) hn hfi (Nat.le_of_ble_eq_true rfl) hdg kk
theorem x3p_18 (C : Cx E p s m args meth c cc nL ret RX3 A) (X : X3w E A z v fk gl go gi ga gs s H locs) {x : Int32} (hn : narrow .boolean (.int x) = .int x) (hfi : fits .boolean (.int x) = true) (hdg : decode cc pc = .ok (.putfield 98, 3)) (kk : ∀ (H1 : Heap) (locs1 : List Loc), X3w E A z (upd v 18 x) fk gl go gi ga gs s H1 locs1 → W p l e R s m args below meth c H1 locs1 cells slots Q (F0 m (pc + 3) ls rest)) : W p l e R s m args below meth c H locs cells slots Q (F0 m pc ls (.int x :: .ref (z 0) :: rest)) := putf C X 0 rfl rfl in_X3 tyX3 tyX3_ok nmX3 18 (by decide) tw_383 rfl (ty := .boolean) (by decide +kernel) hn hfi (Nat.le_of_ble_eq_true rfl) hdg kk
theorem x3l_1 (C : Cx E p s m args meth c cc nL ret RX3 A) (X : X3w E A z v fk gl go gi ga gs s H locs) {j : Nat} (hj : j < 601) (hdg : decode cc pc = .ok (.laload, 1)) (kk : W p l e R s m args below meth c H locs cells slots Q (F0 m (pc + 1) ls (.long (fk j) :: rest))) : W p l e R s m args below meth c H locs cells slots Q (F0 m pc ls (.int (nI j) :: .ref (z 1) :: rest)) := by
  refine lald C X 1 rfl (vp_in_nI hj (by decide)) hdg ?_
  rw [nI_clamp (show j < 2 ^ 31 by omega)]
  exact kk
theorem x3t_1 (C : Cx E p s m args meth c cc nL ret RX3 A) (X : X3w E A z v fk gl go gi ga gs s H locs) {j : Nat} {x : Int64} (hj : j < 601) (hdg : decode cc pc = .ok (.lastore, 1)) (kk : ∀ (H1 : Heap) (locs1 : List Loc), X3w E A z v (vp_updL fk j x) gl go gi ga gs s H1 locs1 → W p l e R s m args below meth c H1 locs1 cells slots Q (F0 m (pc + 1) ls rest)) : W p l e R s m args below meth c H locs cells slots Q (F0 m pc ls (.long x :: .int (nI j) :: .ref (z 1) :: rest)) := by
  refine last C X 1 rfl (vp_in_nI hj (by decide)) hdg (fun H1 locs1 W1 => ?_)
  rw [nI_clamp (show j < 2 ^ 31 by omega)] at W1
  exact kk H1 locs1 W1
theorem x3l_2 (C : Cx E p s m args meth c cc nL ret RX3 A) (X : X3w E A z v fk gl go gi ga gs s H locs) {j : Nat} (hj : j < 601) (hdg : decode cc pc = .ok (.iaload, 1)) (kk : W p l e R s m args below meth c H locs cells slots Q (F0 m (pc + 1) ls (.int (nI (gl j)) :: rest))) : W p l e R s m args below meth c H locs cells slots Q (F0 m pc ls (.int (nI j) :: .ref (z 2) :: rest)) := by
  refine iald C X 2 rfl (vp_in_nI hj (by decide)) hdg ?_
  rw [nI_clamp (show j < 2 ^ 31 by omega)]
  exact kk
theorem x3t_2 (C : Cx E p s m args meth c cc nL ret RX3 A) (X : X3w E A z v fk gl go gi ga gs s H locs) {j : Nat} {x : Nat} (hj : j < 601) (hdg : decode cc pc = .ok (.iastore, 1)) (kk : ∀ (H1 : Heap) (locs1 : List Loc), X3w E A z v fk (va_up gl j x) go gi ga gs s H1 locs1 → W p l e R s m args below meth c H1 locs1 cells slots Q (F0 m (pc + 1) ls rest)) : W p l e R s m args below meth c H locs cells slots Q (F0 m pc ls (.int (nI x) :: .int (nI j) :: .ref (z 2) :: rest)) := by
  refine iast C X 2 rfl (vp_in_nI hj (by decide)) hdg (fun H1 locs1 W1 => ?_)
  rw [nI_clamp (show j < 2 ^ 31 by omega)] at W1
  rw [updN] at W1
  exact kk H1 locs1 W1
theorem x3l_3 (C : Cx E p s m args meth c cc nL ret RX3 A) (X : X3w E A z v fk gl go gi ga gs s H locs) {j : Nat} (hj : j < 601) (hdg : decode cc pc = .ok (.iaload, 1)) (kk : W p l e R s m args below meth c H locs cells slots Q (F0 m (pc + 1) ls (.int (nI (go j)) :: rest))) : W p l e R s m args below meth c H locs cells slots Q (F0 m pc ls (.int (nI j) :: .ref (z 3) :: rest)) := by
  refine iald C X 3 rfl (vp_in_nI hj (by decide)) hdg ?_
  rw [nI_clamp (show j < 2 ^ 31 by omega)]
  exact kk
theorem x3t_3 (C : Cx E p s m args meth c cc nL ret RX3 A) (X : X3w E A z v fk gl go gi ga gs s H locs) {j : Nat} {x : Nat} (hj : j < 601) (hdg : decode cc pc = .ok (.iastore, 1)) (kk : ∀ (H1 : Heap) (locs1 : List Loc), X3w E A z v fk gl (va_up go j x) gi ga gs s H1 locs1 → W p l e R s m args below meth c H1 locs1 cells slots Q (F0 m (pc + 1) ls rest)) : W p l e R s m args below meth c H locs cells slots Q (F0 m pc ls (.int (nI x) :: .int (nI j) :: .ref (z 3) :: rest)) := by
  refine iast C X 3 rfl (vp_in_nI hj (by decide)) hdg (fun H1 locs1 W1 => ?_)
  rw [nI_clamp (show j < 2 ^ 31 by omega)] at W1
  rw [updN] at W1
  exact kk H1 locs1 W1
theorem x3l_4 (C : Cx E p s m args meth c cc nL ret RX3 A) (X : X3w E A z v fk gl go gi ga gs s H locs) {j : Nat} (hj : j < 1300) (hdg : decode cc pc = .ok (.iaload, 1)) (kk : W p l e R s m args below meth c H locs cells slots Q (F0 m (pc + 1) ls (.int (nI (gi j)) :: rest))) : W p l e R s m args below meth c H locs cells slots Q (F0 m pc ls (.int (nI j) :: .ref (z 4) :: rest)) := by
  refine iald C X 4 rfl (vp_in_nI hj (by decide)) hdg ?_
  rw [nI_clamp (show j < 2 ^ 31 by omega)]
  exact kk
theorem x3t_4 (C : Cx E p s m args meth c cc nL ret RX3 A) (X : X3w E A z v fk gl go gi ga gs s H locs) {j : Nat} {x : Nat} (hj : j < 1300) (hdg : decode cc pc = .ok (.iastore, 1)) (kk : ∀ (H1 : Heap) (locs1 : List Loc), X3w E A z v fk gl go (va_up gi j x) ga gs s H1 locs1 → W p l e R s m args below meth c H1 locs1 cells slots Q (F0 m (pc + 1) ls rest)) : W p l e R s m args below meth c H locs cells slots Q (F0 m pc ls (.int (nI x) :: .int (nI j) :: .ref (z 4) :: rest)) := by
  refine iast C X 4 rfl (vp_in_nI hj (by decide)) hdg (fun H1 locs1 W1 => ?_)
  rw [nI_clamp (show j < 2 ^ 31 by omega)] at W1
  rw [updN] at W1
  exact kk H1 locs1 W1
theorem x3l_5 (C : Cx E p s m args meth c cc nL ret RX3 A) (X : X3w E A z v fk gl go gi ga gs s H locs) {j : Nat} (hj : j < 1300) (hdg : decode cc pc = .ok (.iaload, 1)) (kk : W p l e R s m args below meth c H locs cells slots Q (F0 m (pc + 1) ls (.int (nI (ga j)) :: rest))) : W p l e R s m args below meth c H locs cells slots Q (F0 m pc ls (.int (nI j) :: .ref (z 5) :: rest)) := by
  refine iald C X 5 rfl (vp_in_nI hj (by decide)) hdg ?_
  rw [nI_clamp (show j < 2 ^ 31 by omega)]
  exact kk
theorem x3t_5 (C : Cx E p s m args meth c cc nL ret RX3 A) (X : X3w E A z v fk gl go gi ga gs s H locs) {j : Nat} {x : Nat} (hj : j < 1300) (hdg : decode cc pc = .ok (.iastore, 1)) (kk : ∀ (H1 : Heap) (locs1 : List Loc), X3w E A z v fk gl go gi (va_up ga j x) gs s H1 locs1 → W p l e R s m args below meth c H1 locs1 cells slots Q (F0 m (pc + 1) ls rest)) : W p l e R s m args below meth c H locs cells slots Q (F0 m pc ls (.int (nI x) :: .int (nI j) :: .ref (z 5) :: rest)) := by
  refine iast C X 5 rfl (vp_in_nI hj (by decide)) hdg (fun H1 locs1 W1 => ?_)
  rw [nI_clamp (show j < 2 ^ 31 by omega)] at W1
  rw [updN] at W1
  exact kk H1 locs1 W1
theorem x3l_6 (C : Cx E p s m args meth c cc nL ret RX3 A) (X : X3w E A z v fk gl go gi ga gs s H locs) {j : Nat} (hj : j < 4) (hdg : decode cc pc = .ok (.iaload, 1)) (kk : W p l e R s m args below meth c H locs cells slots Q (F0 m (pc + 1) ls (.int (gs j) :: rest))) : W p l e R s m args below meth c H locs cells slots Q (F0 m pc ls (.int (nI j) :: .ref (z 6) :: rest)) := by
  refine iald C X 6 rfl (vp_in_nI hj (by decide)) hdg ?_
  rw [nI_clamp (show j < 2 ^ 31 by omega)]
  exact kk
theorem x3t_6 (C : Cx E p s m args meth c cc nL ret RX3 A) (X : X3w E A z v fk gl go gi ga gs s H locs) {j : Nat} {x : Int32} (hj : j < 4) (hdg : decode cc pc = .ok (.iastore, 1)) (kk : ∀ (H1 : Heap) (locs1 : List Loc), X3w E A z v fk gl go gi ga (upd gs j x) s H1 locs1 → W p l e R s m args below meth c H1 locs1 cells slots Q (F0 m (pc + 1) ls rest)) : W p l e R s m args below meth c H locs cells slots Q (F0 m pc ls (.int x :: .int (nI j) :: .ref (z 6) :: rest)) := by
  refine iast C X 6 rfl (vp_in_nI hj (by decide)) hdg (fun H1 locs1 W1 => ?_)
  rw [nI_clamp (show j < 2 ^ 31 by omega)] at W1
  exact kk H1 locs1 W1
section OC3
variable {y : MethodName} {bytes : ByteArray} {maxL n k idx : Nat} {rt : Option FieldType} {As st0 : List Value}
theorem x3_cr {post : Option Value → Prop} (C : Cx E p s m args meth c cc nL ret RX3 A) (X : X3w E A z v fk gl go gi ga gs s H locs) (hM : M3r l E y bytes maxL rt k (.ref (z 0) :: As) z v fk gl go gi ga gs post) (hy : Wy y bytes maxL rt n) (hse : Cond.selects y.cls y y ∈ LT) (hl : Cond.methodLink RX3 idx y ∈ LT) (hc : vwCl[3]? = some (y.cls, TX3, 20)) (hR : k + 1 ≤ R.frames ∧ 28 * (k + 1) ≤ R.locals) (hn : As.length = n) (hsz : ls.size = nL) (hst : st0 = As.reverse ++ .ref (z 0) :: rest) (hW : (rest.map fun v => v.category).sum ≤ 8) (hf : cells ≤ R.cells ∧ slots ≤ R.slots) (hdg : decode cc pc = .ok (.invokevirtual idx, 3))
    (kk : ∀ r : Option Value, post r → W p l e R s m args below meth c H locs cells slots Q (F0 m (pc + 3) ls (r.toList ++ rest))) : W p l e R s m args below meth c H locs cells slots Q (F0 m pc ls st0) :=
  call_r (runV (As := As) (rest := rest) C X hM hy hse hl hc (q0 := 0) rfl hR hn hsz hst hW hdg hf) kk
theorem x3_cw {post : Option Value → (Nat → Int32) → (Nat → Int64) → (Nat → Nat) → (Nat → Nat) → (Nat → Nat) → (Nat → Nat) → (Nat → Int32) → Prop} (C : Cx E p s m args meth c cc nL ret RX3 A) (X : X3w E A z v fk gl go gi ga gs s H locs) (hM : M3w l E y bytes maxL rt k (.ref (z 0) :: As) z v fk gl go gi ga gs post) (hy : Wy y bytes maxL rt n) (hse : Cond.selects y.cls y y ∈ LT) (hl : Cond.methodLink RX3 idx y ∈ LT) (hc : vwCl[3]? = some (y.cls, TX3, 20)) (hR : k + 1 ≤ R.frames ∧ 28 * (k + 1) ≤ R.locals) (hn : As.length = n) (hsz : ls.size = nL) (hst : st0 = As.reverse ++ .ref (z 0) :: rest) (hW : (rest.map fun v => v.category).sum ≤ 8) (hf : cells ≤ R.cells ∧ slots ≤ R.slots) (hdg : decode cc pc = .ok (.invokevirtual idx, 3))
    (kk : ∀ (r : Option Value) (v' : Nat → Int32) (fk' : Nat → Int64) (gl' go' gi' ga' : Nat → Nat) (gs' : Nat → Int32) (H1 : Heap) (locs1 : List Loc), post r v' fk' gl' go' gi' ga' gs' → X3w E A z v' fk' gl' go' gi' ga' gs' s H1 locs1 → W p l e R s m args below meth c H1 locs1 cells slots Q (F0 m (pc + 3) ls (r.toList ++ rest))) : W p l e R s m args below meth c H locs cells slots Q (F0 m pc ls st0) := by
  refine call_w C X (runV (As := As) (rest := rest) C X hM hy hse hl hc (q0 := 0) rfl hR hn hsz hst hW hdg hf) (fun r ws' H1 locs1 hp Wd => ?_)
  obtain ⟨v', fk', gl', go', gi', ga', gs', rfl, hpp⟩ := hp
  exact kk r v' fk' gl' go' gi' ga' gs' H1 locs1 hpp Wd
end OC3
end X3S
section RT3
variable {p : Program} {l : Launch} {e : Env} {R : Room} {s : State} {m : MethodId} {args : Array Value} {below : List Frame} {meth : Method} {c : Code} {H : Heap} {locs : List Loc} {mc ms : Nat}
variable {E : Gq} {cc : ByteArray} {nL : Nat} {A : Nat → Prop} {pc : Nat} {ls : Array Slot} {z : Nat → Nat} {v : Nat → Int32} {fk : Nat → Int64} {gl go gi ga : Nat → Nat} {gs : Nat → Int32} {ws0 : va_W} {post : Option Value → (Nat → Int32) → (Nat → Int64) → (Nat → Nat) → (Nat → Nat) → (Nat → Nat) → (Nat → Nat) → (Nat → Int32) → Prop}
theorem ret3_v (C : Cx E p s m args meth c cc nL none RX3 (va_A ws0 s.heap.size)) (X : X3w E (va_A ws0 s.heap.size) z v fk gl go gi ga gs s H locs) (hp : post none v fk gl go gi ga gs) (hdg : decode cc pc = .ok (.return_, 1)) : W p l e R s m args below meth c H locs mc ms (MQ below (Qw E ws0 s.heap.size (P3 E z post)) args s mc ms (va_A ws0 s.heap.size)) (F0 m pc ls []) := ret_vw C X ⟨v, fk, gl, go, gi, ga, gs, rfl, hp⟩ hdg
theorem ret3_i {r : Int32} (C : Cx E p s m args meth c cc nL (some .int) RX3 (va_A ws0 s.heap.size)) (X : X3w E (va_A ws0 s.heap.size) z v fk gl go gi ga gs s H locs) (hp : post (some (.int r)) v fk gl go gi ga gs) (hdg : decode cc pc = .ok (.ireturn, 1)) : W p l e R s m args below meth c H locs mc ms (MQ below (Qw E ws0 s.heap.size (P3 E z post)) args s mc ms (va_A ws0 s.heap.size)) (F0 m pc ls [.int r]) := ret_iw C X ⟨v, fk, gl, go, gi, ga, gs, rfl, hp⟩ hdg
theorem ret3_z {r : Int32} (C : Cx E p s m args meth c cc nL (some .boolean) RX3 (va_A ws0 s.heap.size)) (X : X3w E (va_A ws0 s.heap.size) z v fk gl go gi ga gs s H locs) (hp : post (some (.int r)) v fk gl go gi ga gs) (hn : narrow .boolean (.int r) = .int r) (hdg : decode cc pc = .ok (.ireturn, 1)) : W p l e R s m args below meth c H locs mc ms (MQ below (Qw E ws0 s.heap.size (P3 E z post)) args s mc ms (va_A ws0 s.heap.size)) (F0 m pc ls [.int r]) := ret_zw C X ⟨v, fk, gl, go, gi, ga, gs, rfl, hp⟩ hn hdg
end RT3
end
section
/-! THE REFERENCE beside the class's lists -/
theorem gIx_spec {L : List Nat} : ∀ {m : Nat}, m < L.sum → sm L 0 (gIx L m) ≤ m ∧ m < sm L 0 (gIx L m) + L.getD (gIx L m) 0 := by
  induction L with
  | nil => intro m h; simp at h
  | cons x l ih =>
    intro m h
    simp only [List.sum_cons] at h
    by_cases hx : m < x
    · have e : gIx (x :: l) m = 0 := by simp [gIx, hx]
      rw [e]
      simp [sm, hx]
    · have e : gIx (x :: l) m = gIx l (m - x) + 1 := by simp [gIx, hx]
      rw [e]
      have q := ih (m := m - x) (by omega)
      rw [sm0] at q ⊢
      simp only [List.take_succ_cons, List.sum_cons, List.getD_cons_succ]
      omega
theorem gIx_iff {L : List Nat} {m i : Nat} (hm : m < L.sum) (hi : i < L.length) : gIx L m = i ↔ sm L 0 i ≤ m ∧ m < sm L 0 i + L.getD i 0 := by
  constructor
  · intro h
    subst h
    exact gIx_spec hm
  · intro h
    refine gIx_at hi h.1 ?_
    rw [take_s hi]
    exact h.2
theorem nd_inj {N : List Nat} (h : N.Nodup) {a b : Nat} (ha : a < N.length) (hb : b < N.length) (e : N.getD a 0 = N.getD b 0) : a = b := by
  have e1 : N.getD a 0 = N[a] := by simp [List.getD_eq_getElem?_getD, ha]
  have e2 : N.getD b 0 = N[b] := by simp [List.getD_eq_getElem?_getD, hb]
  rw [e1, e2] at e
  have h2 := List.pairwise_iff_getElem.mp h
  rcases Nat.lt_trichotomy a b with q | q | q
  · exact absurd e (h2 a b ha hb q)
  · exact q
  · exact absurd e.symm (h2 b a hb ha q)
/-- the arrays of the reference hold the lists: keys, lengths, each record's interval, each interval's number and area -/
def Rel3 (K : List Int64) (L N S P A : List Nat) (fk : Nat → Int64) (gl go gi ga : Nat → Nat) : Prop :=
  (∀ j, j < K.length → fk j = K.getD j 0) ∧ (∀ j, j < K.length → gl j = L.getD j 0) ∧ (∀ j, j < K.length → go j = N.getD (gIx S j) 0) ∧ (∀ i, i < S.length → gi i = N.getD i 0) ∧ (∀ i, i < S.length → ga i = A.getD (gIx P i) 0) ∧ N.Nodup ∧ A.Nodup ∧ A.length = P.length
theorem Rel3.of {K : List Int64} {L N S P A : List Nat} {fk : Nat → Int64} {gl go gi ga : Nat → Nat} (h : Rel3 K L N S P A fk gl go gi ga) (hJ : J2 K L N S P) {i j : Nat} (hi : i < S.length) (hj : j < K.length) : go j = gi i ↔ sm S 0 i ≤ j ∧ j < sm S 0 i + S.getD i 0 := by
  obtain ⟨h1, h2, h3, h4, h5, h6, h7, h8⟩ := h
  obtain ⟨j1, j2, j3, j4, j5, j6, j7, j8⟩ := hJ
  rw [h3 j hj, h4 i hi, ← gIx_iff (by omega) hi]
  exact ⟨fun e => nd_inj h6 (by have := gIx_lt (L := S) (m := j) (by omega); omega) (by omega) e, fun e => by rw [e]⟩
theorem Rel3.ar {K : List Int64} {L N S P A : List Nat} {fk : Nat → Int64} {gl go gi ga : Nat → Nat} (h : Rel3 K L N S P A fk gl go gi ga) (hJ : J2 K L N S P) {i k : Nat} (hi : i < S.length) (hk : k < S.length) : ga k = ga i ↔ gIx P k = gIx P i := by
  obtain ⟨h1, h2, h3, h4, h5, h6, h7, h8⟩ := h
  obtain ⟨j1, j2, j3, j4, j5, j6, j7, j8⟩ := hJ
  rw [h5 k hk, h5 i hi]
  exact ⟨fun e => nd_inj h7 (by have := gIx_lt (L := P) (m := k) (by omega); omega) (by have := gIx_lt (L := P) (m := i) (by omega); omega) e, fun e => by rw [e]⟩
theorem gOf_gIx {L : List Nat} {m : Nat} (h : m < L.sum) : gOf L m = gIx L m := by unfold gOf; rw [if_pos h]
theorem sm_snoc {L : List Nat} {a b : Nat} (h : a ≤ b) (hb : b < L.length) : sm L a (b + 1) = sm L a b + L.getD b 0 := by
  unfold sm
  rw [List.take_succ_eq_append_getElem hb, List.drop_append_of_le_length (by simp; omega), List.sum_append]
  simp [List.getD_eq_getElem?_getD, hb]
/-- keys in their order -/
def srt (K : List Int64) : Prop := ∀ i j, i < j → j < K.length → K.getD i 0 < K.getD j 0
theorem ngt_in {K : List Int64} {key : Int64} : ∀ {j : Nat}, j < ngt K key → K.getD j 0 ≤ key := by
  induction K with
  | nil => intro j h; simp [ngt] at h
  | cons x l ih =>
    intro j h
    simp only [ngt] at h
    split at h
    · cases j with
      | zero => simpa using ‹x ≤ key›
      | succ j => rw [List.getD_cons_succ]; exact ih (by omega)
    · omega
theorem ngt_out {K : List Int64} {key : Int64} : ngt K key < K.length → key < K.getD (ngt K key) 0 := by
  induction K with
  | nil => intro h; simp at h
  | cons x l ih =>
    intro h
    simp only [ngt] at h ⊢
    by_cases hx : x ≤ key
    · rw [if_pos hx] at h ⊢
      rw [List.getD_cons_succ]
      exact ih (by simpa using h)
    · rw [if_neg hx]
      simpa using Int64.not_le.mp hx
theorem ngt_iff {K : List Int64} {key : Int64} (hs : srt K) {j : Nat} (hj : j < K.length) : K.getD j 0 ≤ key ↔ j < ngt K key := by
  constructor
  · intro h
    rcases Nat.lt_or_ge j (ngt K key) with q | q
    · exact q
    · exfalso
      have h1 := ngt_out (K := K) (key := key) (by omega)
      rcases Nat.eq_or_lt_of_le q with e | e
      · rw [e] at h1; exact absurd h (Int64.not_le.mpr h1)
      · exact absurd h (Int64.not_le.mpr (Int64.lt_trans h1 (hs _ _ e hj)))
  · exact ngt_in
/-- how many keys are less: t -/
def lsT (K : List Int64) (key : Int64) (t : Nat) : Prop := t ≤ K.length ∧ ∀ j, j < K.length → (K.getD j 0 < key ↔ j < t)
theorem lsT_n {K : List Int64} {key : Int64} (hs : srt K) (hh : ¬ hask K key) : lsT K key (ngt K key) := by
  refine ⟨ngt_le K key, fun j hj => ?_⟩
  rw [← ngt_iff hs hj]
  constructor
  · exact fun h => Int64.le_of_lt h
  · intro h
    rcases Int64.lt_or_eq_of_le h with q | q
    · exact q
    · exfalso
      have h1 : j < ngt K key := (ngt_iff hs hj).mp h
      apply hh
      refine ⟨by omega, ?_⟩
      rcases Nat.lt_or_ge j (ngt K key - 1) with e | e
      · have h2 := hs j (ngt K key - 1) e (by have := ngt_le K key; omega)
        have h3 := ngt_in (K := K) (key := key) (j := ngt K key - 1) (by omega)
        rw [q] at h2
        exact absurd h3 (Int64.not_le.mpr h2)
      · have e2 : ngt K key - 1 = j := by omega
        rw [e2]; exact q
theorem lsT_y {K : List Int64} {key : Int64} (hs : srt K) (hh : hask K key) : lsT K key (ngt K key - 1) := by
  have hl := ngt_le K key
  have h0 := hh.1
  refine ⟨by omega, fun j hj => ?_⟩
  constructor
  · intro h
    have h1 := (ngt_iff hs hj).mp (Int64.le_of_lt h)
    rcases Nat.lt_or_ge j (ngt K key - 1) with e | e
    · exact e
    · have e2 : j = ngt K key - 1 := by omega
      rw [e2, hh.2] at h
      exact (Int64.lt_irrefl h).elim
  · intro h
    have := hs j (ngt K key - 1) h (by omega)
    rw [hh.2] at this
    exact this
end
section
def Ct0 (v : Nat → Int32) (fk : Nat → Int64) (K : List Int64) : Prop := K.length ≤ 600 ∧ v 8 = nI K.length ∧ ∀ j, j < K.length → fk j = K.getD j 0
/-- what the reference's readers stand on -/
def Ctx3 (v : Nat → Int32) (fk : Nat → Int64) (gl go gi ga : Nat → Nat) (K : List Int64) (L N S P A : List Nat) : Prop :=
  Rel3 K L N S P A fk gl go gi ga ∧ J2 K L N S P ∧ K.length ≤ 600 ∧ v 8 = nI K.length ∧ v 11 = nI S.length ∧ (∀ k, gl k < 2 ^ 31) ∧ (∀ k, go k < 2 ^ 31) ∧ (∀ k, gi k < 2 ^ 31) ∧ (∀ k, ga k < 2 ^ 31) ∧ srt K
theorem Ctx3.ct0 {v : Nat → Int32} {fk : Nat → Int64} {gl go gi ga : Nat → Nat} {K : List Int64} {L N S P A : List Nat} (h : Ctx3 v fk gl go gi ga K L N S P A) : Ct0 v fk K := ⟨h.2.2.1, h.2.2.2.1, h.1.1⟩
theorem sm_take (L : List Nat) (a b : Nat) : sm L a b + (L.take (min a b)).sum = (L.take b).sum := by
  have h := sum_split (L.take b) a
  rw [List.take_take] at h
  unfold sm
  omega
theorem sm_mono (L : List Nat) {a b c : Nat} (h : b ≤ c) : sm L a b ≤ sm L a c := by
  have h1 := sm_take L a b
  have h2 := sm_take L a c
  have h3 := sum_split (L.take c) b
  rw [List.take_take, Nat.min_eq_left h] at h3
  rcases Nat.le_total b a with q | q
  · rw [Nat.min_eq_right q] at h1
    omega
  · rw [Nat.min_eq_left q] at h1
    rw [Nat.min_eq_left (by omega)] at h2
    omega
theorem gIx_step {P : List Nat} (h : ∀ x ∈ P, 1 ≤ x) {k : Nat} (hk : k + 1 < P.sum) : gIx P (k + 1) = gIx P k ∨ gIx P (k + 1) = gIx P k + 1 := by
  have h1 := gIx_spec (L := P) (m := k) (by omega)
  have hl := gIx_lt (L := P) (m := k) (by omega)
  by_cases q : k + 1 < sm P 0 (gIx P k) + P.getD (gIx P k) 0
  · exact Or.inl ((gIx_iff hk hl).mpr ⟨by omega, q⟩)
  · have e := sm0_s hl
    have hl2 : gIx P k + 1 < P.length := by
      rcases Nat.lt_or_ge (gIx P k + 1) P.length with z | z
      · exact z
      · exfalso
        have := sm0 P (gIx P k + 1)
        rw [List.take_of_length_le z] at this
        omega
    have h2 := h _ (getD_mem hl2)
    exact Or.inr ((gIx_iff hk hl2).mpr ⟨by omega, by omega⟩)
theorem kbl_char (L : List Nat) (start most half : Nat) (hl : start + most < L.length) : ∀ (n kept tog : Nat), most ≤ kept + n → 1 ≤ kept → kept ≤ most → tog = sm L start (start + kept) → (kept = 1 ∨ tog ≤ half) → ((kbl L start most half n kept tog = 1 ∨ sm L start (start + kbl L start most half n kept tog) ≤ half) ∧ (kbl L start most half n kept tog = most ∨ half < sm L start (start + kbl L start most half n kept tog + 1))) := by
  intro n
  induction n with
  | zero =>
    intro kept tog h1 h2 h3 h4 h5
    simp only [kbl]
    exact ⟨by omega, Or.inl (by omega)⟩
  | succ n ih =>
    intro kept tog h1 h2 h3 h4 h5
    simp only [kbl]
    have e := sm_snoc (L := L) (a := start) (b := start + kept) (by omega) (by omega)
    split
    · rename_i hc
      exact ih (kept + 1) (tog + L.getD (start + kept) 0) (by omega) (by omega) (by omega) (by rw [h4]; exact e.symm) (Or.inr hc.2)
    · rename_i hc
      refine ⟨by omega, ?_⟩
      by_cases hk : kept < most
      · right
        rw [e]
        have : ¬ tog + L.getD (start + kept) 0 ≤ half := fun z => hc ⟨hk, z⟩
        omega
      · left; omega
/-- what is kept, told by the sums: q of c records -/
theorem kbh_is {L S : List Nat} {i q : Nat} (h2 : 2 ≤ S.getD i 0) (hl : sm S 0 i + S.getD i 0 ≤ L.length) (hq1 : 1 ≤ q) (hq2 : q + 1 ≤ S.getD i 0) (ha : q = 1 ∨ 2 * sm L (sm S 0 i) (sm S 0 i + q) ≤ lin L S i) (hb : lin L S i < 2 * sm L (sm S 0 i) (sm S 0 i + q + 1)) : kbh L S i = q := by
  have hc := kbl_char L (sm S 0 i) (S.getD i 0 - 1) (lin L S i / 2) (by omega) (S.getD i 0) 1 (L.getD (sm S 0 i) 0) (by omega) (Nat.le_refl _) (by omega) (by rw [sm_snoc (Nat.le_refl _) (by omega), sm_end (Or.inl (Nat.le_refl _)), Nat.zero_add]) (Or.inl rfl)
  have hk := kbh_b (L := L) h2
  change (kbh L S i = 1 ∨ _) ∧ (kbh L S i = _ ∨ _) at hc
  change (_ ∨ sm L (sm S 0 i) (sm S 0 i + kbh L S i) ≤ _) ∧ (_ ∨ _ < sm L (sm S 0 i) (sm S 0 i + kbh L S i + 1)) at hc
  rcases Nat.lt_trichotomy (kbh L S i) q with z | z | z
  · exfalso
    have m1 := sm_mono L (a := sm S 0 i) (b := sm S 0 i + kbh L S i + 1) (c := sm S 0 i + q) (by omega)
    rcases hc.2 with y | y
    · omega
    · rcases ha with x | x <;> omega
  · exact z
  · exfalso
    have m1 := sm_mono L (a := sm S 0 i) (b := sm S 0 i + q + 1) (c := sm S 0 i + kbh L S i) (by omega)
    rcases hc.1 with y | y <;> omega
set_option maxHeartbeats 4000000 in
set_option maxRecDepth 100000 in
theorem l3_less {p : Program} {l : Launch} {e : Env} {s : State} {m : MethodId} {args : Array Value} {below : List Frame} {meth : Method} {c : Code} {E : Gq} {A : Nat → Prop} {z : Nat → Nat} {v : Nat → Int32} {fk : Nat → Int64} {gl go gi ga : Nat → Nat} {gs : Nat → Int32} (C : Cx E p s m args meth c cX3_less 5 (some .int) RX3 A) (X : X3w E A z v fk gl go gi ga gs s s.heap []) {K : List Int64} (h0 : Ct0 v fk K) {key : Int64} {t : Nat} (hT : lsT K key t) : ∀ (n j : Nat), K.length - j = n → j ≤ K.length → ∀ ls : Array Slot, lv_has ls 5 [(4, .int (nI (j))), (3, .int (nI (min j t))), (0, .ref (z 0)), (1, .long (key))] → W p l e (Rm 0 0 0) s m args below meth c s.heap [] 0 0 (MQ below (Qr (fun r => r = some (.int (nI t)))) args s 0 0 (fun _ => False)) (F0 m 5 ls []) := by
  obtain ⟨hk, hs8, r1⟩ := id h0
  obtain ⟨t1, t2⟩ := hT
  intro n
  induction n with
  | zero =>
    intro j hn hj ls hl
    refine lv_iload C.hx C.hb dX3_less_5 (lv_at hl 0 rfl) ?_
    refine lv_aload_n C.hx C.hb dX3_less_7 rfl (lv_at hl 2 rfl) ?_
    refine x3g_8 C X (x := nI (K.length)) hs8 dX3_less_8 ?_
    refine n_icmp_ge (tgt := 40) C dX3_less_11 (by decide) (by omega) (by omega) (fun c11 => ?_) (fun c11 => ?_)
    · refine lv_iload_n C.hx C.hb dX3_less_40 rfl (lv_at hl 1 rfl) ?_
      exact ret_ir C (by rw [show min j t = t by omega]) dX3_less_41
    · omega
  | succ n ih =>
    intro j hn hj ls hl
    have hq := t2 j (by omega)
    rw [← r1 j (by omega)] at hq
    refine lv_iload C.hx C.hb dX3_less_5 (lv_at hl 0 rfl) ?_
    refine lv_aload_n C.hx C.hb dX3_less_7 rfl (lv_at hl 2 rfl) ?_
    refine x3g_8 C X (x := nI (K.length)) hs8 dX3_less_8 ?_
    refine n_icmp_ge (tgt := 40) C dX3_less_11 (by decide) (by omega) (by omega) (fun c11 => ?_) (fun c11 => ?_)
    · omega
    · refine lv_iload_n C.hx C.hb dX3_less_14 rfl (lv_at hl 1 rfl) ?_
      refine lv_aload_n C.hx C.hb dX3_less_15 rfl (lv_at hl 2 rfl) ?_
      refine x3g_5 C X dX3_less_16 ?_
      refine lv_iload C.hx C.hb dX3_less_19 (lv_at hl 0 rfl) ?_
      refine x3l_1 C X (by omega) dX3_less_21 ?_
      refine lv_lload_n C.hx C.hb dX3_less_22 rfl (lv_at hl 3 rfl) ?_
      refine n_lcmp_ge (tgt := 31) C dX3_less_23 dX3_less_24 (by decide) (fun c23 => ?_) (fun c23 => ?_)
      · have hq2 : ¬ j < t := fun h => absurd (hq.mpr h) (Int64.not_lt.mpr c23)
        refine lv_iconst (v := nI (0)) C.hx C.hb dX3_less_31 (by decide) ?_
        refine n_add C dX3_less_32 ?_
        refine lv_istore_n (lv' := [(3, .int (nI ((min j t) + 0))), (4, .int (nI (j))), (0, .ref (z 0)), (1, .long (key))]) C.hx C.hb dX3_less_33 rfl hl (by decide) rfl (fun ls hl => ?_)
        refine lv_iinc (v := nI (j + 1)) (lv' := [(4, .int (nI (j + 1))), (3, .int (nI ((min j t) + 0))), (0, .ref (z 0)), (1, .long (key))]) C.hx C.hb dX3_less_34 hl (k := 1) rfl (nI_1 _) (by decide) rfl (fun ls hl => ?_)
        refine lv_goto (tgt := 5) C.hx C.hb dX3_less_37 (by decide) ?_
        exact ih (j + 1) (by omega) (by omega) ls (by rw [show min (j + 1) t = (min j t) + 0 by omega]; exact lv_sub hl [0, 1, 2, 3] rfl)
      · have hq2 : j < t := hq.mp c23
        refine lv_iconst (v := nI (1)) C.hx C.hb dX3_less_27 (by decide) ?_
        refine lv_goto (tgt := 32) C.hx C.hb dX3_less_28 (by decide) ?_
        refine n_add C dX3_less_32 ?_
        refine lv_istore_n (lv' := [(3, .int (nI ((min j t) + 1))), (4, .int (nI (j))), (0, .ref (z 0)), (1, .long (key))]) C.hx C.hb dX3_less_33 rfl hl (by decide) rfl (fun ls hl => ?_)
        refine lv_iinc (v := nI (j + 1)) (lv' := [(4, .int (nI (j + 1))), (3, .int (nI ((min j t) + 1))), (0, .ref (z 0)), (1, .long (key))]) C.hx C.hb dX3_less_34 hl (k := 1) rfl (nI_1 _) (by decide) rfl (fun ls hl => ?_)
        refine lv_goto (tgt := 5) C.hx C.hb dX3_less_37 (by decide) ?_
        exact ih (j + 1) (by omega) (by omega) ls (by rw [show min (j + 1) t = (min j t) + 1 by omega]; exact lv_sub hl [0, 1, 2, 3] rfl)
set_option maxHeartbeats 4000000 in
set_option maxRecDepth 100000 in
/-- the reference: how many keys are less -/
theorem c3_less {l : Launch} {E : Gq} {z : Nat → Nat} {v : Nat → Int32} {fk : Nat → Int64} {gl go gi ga : Nat → Nat} {gs : Nat → Int32} {K : List Int64} (h0 : Ct0 v fk K) {key : Int64} {t : Nat} (hT : lsT K key t) : M3r l E yX3_less cX3_less 5 (some .int) 0 [.ref (z 0), .long (key)] z v fk gl go gi ga gs (fun r => r = some (.int (nI t))) := by
  refine mk_r (by decide) (Nat.le_of_ble_eq_true rfl) ?_
  intro p e s m below meth c ls C Wd hl
  have X : X3w E _ z v fk gl go gi ga gs s s.heap [] := Wd
  have hl : lv_has ls 5 [(0, .ref (z 0)), (1, .long (key))] := hl
  refine lv_iconst (v := nI (0)) C.hx C.hb dX3_less_0 (by decide) ?_
  refine lv_istore_n (lv' := [(3, .int (nI (0))), (0, .ref (z 0)), (1, .long (key))]) C.hx C.hb dX3_less_1 rfl hl (by decide) rfl (fun ls hl => ?_)
  refine lv_iconst (v := nI (0)) C.hx C.hb dX3_less_2 (by decide) ?_
  refine lv_istore (lv' := [(4, .int (nI (0))), (3, .int (nI (0))), (0, .ref (z 0)), (1, .long (key))]) C.hx C.hb dX3_less_3 hl (by decide) rfl (fun ls hl => ?_)
  exact l3_less C X h0 hT _ 0 rfl (Nat.zero_le _) ls (by rw [Nat.zero_min]; exact lv_sub hl [0, 1, 2, 3] rfl)
set_option maxHeartbeats 4000000 in
set_option maxRecDepth 100000 in
/-- the reference: whether a key is there -/
theorem c3_has_y {l : Launch} {E : Gq} {z : Nat → Nat} {v : Nat → Int32} {fk : Nat → Int64} {gl go gi ga : Nat → Nat} {gs : Nat → Int32} {K : List Int64} {L N S P A : List Nat} (h3 : Ctx3 v fk gl go gi ga K L N S P A) {key : Int64} (hh : hask K key) : M3r l E yX3_has cX3_has 4 (some .boolean) 1 [.ref (z 0), .long (key)] z v fk gl go gi ga gs (fun r => r = some (.int (nI 1))) := by
  refine mk_r (by decide) (Nat.le_of_ble_eq_true rfl) ?_
  intro p e s m below meth c ls C Wd hl
  have X : X3w E _ z v fk gl go gi ga gs s s.heap [] := Wd
  have hl : lv_has ls 4 [(0, .ref (z 0)), (1, .long (key))] := hl
  obtain ⟨hR, hJ, hk, hs8, hm, hbl, hbo, hbi, hba, hso⟩ := id h3
  obtain ⟨r1, r2, r3, r4, r5, r6, r7, r8⟩ := id hR
  obtain ⟨j1, j2, j3, j4, j5, j6, j7, j8⟩ := id hJ
  obtain ⟨k1, k2, k3, k4⟩ := hJ.b
  have hng := ngt_le K key
  have hh1 := hh.1
  refine lv_aload_n C.hx C.hb dX3_has_0 rfl (lv_at hl 0 rfl) ?_
  refine lv_lload_n C.hx C.hb dX3_has_1 rfl (lv_at hl 1 rfl) ?_
  refine x3_cr (As := [.long (key)]) (rest := []) C X (c3_less h3.ct0 (t := ngt K key - 1) (lsT_y hso hh)) wy_X3_less ts_30 tw_439 rfl ⟨by decide, by decide⟩ rfl hl.1 rfl (Nat.le_of_ble_eq_true rfl) ⟨Nat.le_refl _, Nat.le_refl _⟩ dX3_has_2 (fun r hp => ?_)
  subst hp
  refine W.eq (g2 := F0 m 5 ls [.int (nI (ngt K key - 1))]) rfl ?_
  refine lv_istore_n (lv' := [(3, .int (nI (ngt K key - 1))), (0, .ref (z 0)), (1, .long (key))]) C.hx C.hb dX3_has_5 rfl hl (by decide) rfl (fun ls hl => ?_)
  refine lv_iload_n C.hx C.hb dX3_has_6 rfl (lv_at hl 0 rfl) ?_
  refine lv_aload_n C.hx C.hb dX3_has_7 rfl (lv_at hl 1 rfl) ?_
  refine x3g_8 C X (x := nI (K.length)) hs8 dX3_has_8 ?_
  refine n_icmp_ge (tgt := 29) C dX3_has_11 (by decide) (by first | omega | exact hbo _ | exact hbi _ | exact hba _ | exact hbl _) (by first | omega | exact hbo _ | exact hbi _ | exact hba _ | exact hbl _) (fun c11 => ?_) (fun c11 => ?_)
  · omega
  · refine lv_aload_n C.hx C.hb dX3_has_14 rfl (lv_at hl 1 rfl) ?_
    refine x3g_5 C X dX3_has_15 ?_
    refine lv_iload_n C.hx C.hb dX3_has_18 rfl (lv_at hl 0 rfl) ?_
    refine x3l_1 C X (by first | omega | exact hbo _ | exact hbi _ | exact hba _ | exact hbl _) dX3_has_19 ?_
    refine lv_lload_n C.hx C.hb dX3_has_20 rfl (lv_at hl 2 rfl) ?_
    refine n_lcmp_ne (tgt := 29) C dX3_has_21 dX3_has_22 (by decide) (fun c21 => ?_) (fun c21 => ?_)
    · exact absurd (by rw [r1 _ (by omega)]; exact hh.2) c21
    · refine lv_iconst (v := nI (1)) C.hx C.hb dX3_has_25 (by decide) ?_
      refine lv_goto (tgt := 30) C.hx C.hb dX3_has_26 (by decide) ?_
      exact ret_zr C (rfl) (by decide) dX3_has_30
set_option maxHeartbeats 4000000 in
set_option maxRecDepth 100000 in
/-- the reference: whether a key is there -/
theorem c3_has_n {l : Launch} {E : Gq} {z : Nat → Nat} {v : Nat → Int32} {fk : Nat → Int64} {gl go gi ga : Nat → Nat} {gs : Nat → Int32} {K : List Int64} {L N S P A : List Nat} (h3 : Ctx3 v fk gl go gi ga K L N S P A) {key : Int64} (hh : ¬ hask K key) : M3r l E yX3_has cX3_has 4 (some .boolean) 1 [.ref (z 0), .long (key)] z v fk gl go gi ga gs (fun r => r = some (.int (nI 0))) := by
  refine mk_r (by decide) (Nat.le_of_ble_eq_true rfl) ?_
  intro p e s m below meth c ls C Wd hl
  have X : X3w E _ z v fk gl go gi ga gs s s.heap [] := Wd
  have hl : lv_has ls 4 [(0, .ref (z 0)), (1, .long (key))] := hl
  obtain ⟨hR, hJ, hk, hs8, hm, hbl, hbo, hbi, hba, hso⟩ := id h3
  obtain ⟨r1, r2, r3, r4, r5, r6, r7, r8⟩ := id hR
  obtain ⟨j1, j2, j3, j4, j5, j6, j7, j8⟩ := id hJ
  obtain ⟨k1, k2, k3, k4⟩ := hJ.b
  have hng := ngt_le K key
  refine lv_aload_n C.hx C.hb dX3_has_0 rfl (lv_at hl 0 rfl) ?_
  refine lv_lload_n C.hx C.hb dX3_has_1 rfl (lv_at hl 1 rfl) ?_
  refine x3_cr (As := [.long (key)]) (rest := []) C X (c3_less h3.ct0 (t := ngt K key) (lsT_n hso hh)) wy_X3_less ts_30 tw_439 rfl ⟨by decide, by decide⟩ rfl hl.1 rfl (Nat.le_of_ble_eq_true rfl) ⟨Nat.le_refl _, Nat.le_refl _⟩ dX3_has_2 (fun r hp => ?_)
  subst hp
  refine W.eq (g2 := F0 m 5 ls [.int (nI (ngt K key))]) rfl ?_
  refine lv_istore_n (lv' := [(3, .int (nI (ngt K key))), (0, .ref (z 0)), (1, .long (key))]) C.hx C.hb dX3_has_5 rfl hl (by decide) rfl (fun ls hl => ?_)
  refine lv_iload_n C.hx C.hb dX3_has_6 rfl (lv_at hl 0 rfl) ?_
  refine lv_aload_n C.hx C.hb dX3_has_7 rfl (lv_at hl 1 rfl) ?_
  refine x3g_8 C X (x := nI (K.length)) hs8 dX3_has_8 ?_
  refine n_icmp_ge (tgt := 29) C dX3_has_11 (by decide) (by first | omega | exact hbo _ | exact hbi _ | exact hba _ | exact hbl _) (by first | omega | exact hbo _ | exact hbi _ | exact hba _ | exact hbl _) (fun c11 => ?_) (fun c11 => ?_)
  · refine lv_iconst (v := nI (0)) C.hx C.hb dX3_has_29 (by decide) ?_
    exact ret_zr C (rfl) (by decide) dX3_has_30
  · refine lv_aload_n C.hx C.hb dX3_has_14 rfl (lv_at hl 1 rfl) ?_
    refine x3g_5 C X dX3_has_15 ?_
    refine lv_iload_n C.hx C.hb dX3_has_18 rfl (lv_at hl 0 rfl) ?_
    refine x3l_1 C X (by first | omega | exact hbo _ | exact hbi _ | exact hba _ | exact hbl _) dX3_has_19 ?_
    refine lv_lload_n C.hx C.hb dX3_has_20 rfl (lv_at hl 2 rfl) ?_
    refine n_lcmp_ne (tgt := 29) C dX3_has_21 dX3_has_22 (by decide) (fun c21 => ?_) (fun c21 => ?_)
    · refine lv_iconst (v := nI (0)) C.hx C.hb dX3_has_29 (by decide) ?_
      exact ret_zr C (rfl) (by decide) dX3_has_30
    · exact absurd (ngt_out c11) (by rw [← r1 _ c11, c21]; exact fun h => Int64.lt_irrefl h)
set_option maxHeartbeats 4000000 in
set_option maxRecDepth 100000 in
theorem l3_first {p : Program} {l : Launch} {e : Env} {s : State} {m : MethodId} {args : Array Value} {below : List Frame} {meth : Method} {c : Code} {E : Gq} {A : Nat → Prop} {z : Nat → Nat} {v : Nat → Int32} {fk : Nat → Int64} {gl go gi ga : Nat → Nat} {gs : Nat → Int32} (C : Cx E p s m args meth c cX3_first 3 (some .int) RX3 A) (X : X3w E A z v fk gl go gi ga gs s s.heap []) {K : List Int64} {L N S P Ar : List Nat} (h3 : Ctx3 v fk gl go gi ga K L N S P Ar) {i : Nat} (hi : i < S.length) (h1 : 1 ≤ S.getD i 0) : ∀ (n j : Nat), sm S 0 i - j = n → j ≤ sm S 0 i → ∀ ls : Array Slot, lv_has ls 3 [(2, .int (nI (j))), (0, .ref (z 0)), (1, .int (nI (i)))] → W p l e (Rm 0 0 0) s m args below meth c s.heap [] 0 0 (MQ below (Qr (fun r => r = some (.int (nI (sm S 0 i))))) args s 0 0 (fun _ => False)) (F0 m 2 ls []) := by
  obtain ⟨hR, hJ, hk, hs8, hm, hbl, hbo, hbi, hba, hso⟩ := id h3
  obtain ⟨r1, r2, r3, r4, r5, r6, r7, r8⟩ := id hR
  obtain ⟨j1, j2, j3, j4, j5, j6, j7, j8⟩ := id hJ
  obtain ⟨k1, k2, k3, k4⟩ := hJ.b
  have q1 := sm0_get S i
  intro n
  induction n with
  | zero =>
    intro j hn hj ls hl
    have e : j = sm S 0 i := by omega
    subst e
    refine lv_iload_n C.hx C.hb dX3_first_2 rfl (lv_at hl 0 rfl) ?_
    refine lv_aload_n C.hx C.hb dX3_first_3 rfl (lv_at hl 1 rfl) ?_
    refine x3g_8 C X (x := nI (K.length)) hs8 dX3_first_4 ?_
    refine n_icmp_ge (tgt := 33) C dX3_first_7 (by decide) (by first | omega | exact hbo _ | exact hbi _ | exact hba _ | exact hbl _) (by first | omega | exact hbo _ | exact hbi _ | exact hba _ | exact hbl _) (fun c7 => ?_) (fun c7 => ?_)
    · omega
    · refine lv_aload_n C.hx C.hb dX3_first_10 rfl (lv_at hl 1 rfl) ?_
      refine x3g_7 C X dX3_first_11 ?_
      refine lv_iload_n C.hx C.hb dX3_first_14 rfl (lv_at hl 0 rfl) ?_
      refine x3l_3 C X (by first | omega | exact hbo _ | exact hbi _ | exact hba _ | exact hbl _) dX3_first_15 ?_
      refine lv_aload_n C.hx C.hb dX3_first_16 rfl (lv_at hl 1 rfl) ?_
      refine x3g_9 C X dX3_first_17 ?_
      refine lv_iload_n C.hx C.hb dX3_first_20 rfl (lv_at hl 2 rfl) ?_
      refine x3l_4 C X (by first | omega | exact hbo _ | exact hbi _ | exact hba _ | exact hbl _) dX3_first_21 ?_
      refine n_icmp_ne (tgt := 27) C dX3_first_22 (by decide) (by first | omega | exact hbo _ | exact hbi _ | exact hba _ | exact hbl _) (by first | omega | exact hbo _ | exact hbi _ | exact hba _ | exact hbl _) (fun c22 => ?_) (fun c22 => ?_)
      · exact absurd ((hR.of hJ hi (by omega)).mpr ⟨Nat.le_refl _, by omega⟩) c22
      · refine lv_iload_n C.hx C.hb dX3_first_25 rfl (lv_at hl 0 rfl) ?_
        exact ret_ir C (rfl) dX3_first_26
  | succ n ih =>
    intro j hn hj ls hl
    refine lv_iload_n C.hx C.hb dX3_first_2 rfl (lv_at hl 0 rfl) ?_
    refine lv_aload_n C.hx C.hb dX3_first_3 rfl (lv_at hl 1 rfl) ?_
    refine x3g_8 C X (x := nI (K.length)) hs8 dX3_first_4 ?_
    refine n_icmp_ge (tgt := 33) C dX3_first_7 (by decide) (by first | omega | exact hbo _ | exact hbi _ | exact hba _ | exact hbl _) (by first | omega | exact hbo _ | exact hbi _ | exact hba _ | exact hbl _) (fun c7 => ?_) (fun c7 => ?_)
    · omega
    · refine lv_aload_n C.hx C.hb dX3_first_10 rfl (lv_at hl 1 rfl) ?_
      refine x3g_7 C X dX3_first_11 ?_
      refine lv_iload_n C.hx C.hb dX3_first_14 rfl (lv_at hl 0 rfl) ?_
      refine x3l_3 C X (by first | omega | exact hbo _ | exact hbi _ | exact hba _ | exact hbl _) dX3_first_15 ?_
      refine lv_aload_n C.hx C.hb dX3_first_16 rfl (lv_at hl 1 rfl) ?_
      refine x3g_9 C X dX3_first_17 ?_
      refine lv_iload_n C.hx C.hb dX3_first_20 rfl (lv_at hl 2 rfl) ?_
      refine x3l_4 C X (by first | omega | exact hbo _ | exact hbi _ | exact hba _ | exact hbl _) dX3_first_21 ?_
      refine n_icmp_ne (tgt := 27) C dX3_first_22 (by decide) (by first | omega | exact hbo _ | exact hbi _ | exact hba _ | exact hbl _) (by first | omega | exact hbo _ | exact hbi _ | exact hba _ | exact hbl _) (fun c22 => ?_) (fun c22 => ?_)
      · refine lv_iinc (v := nI (j + 1)) (lv' := [(2, .int (nI (j + 1))), (0, .ref (z 0)), (1, .int (nI (i)))]) C.hx C.hb dX3_first_27 hl (k := 0) rfl (nI_1 _) (by decide) rfl (fun ls hl => ?_)
        refine lv_goto (tgt := 2) C.hx C.hb dX3_first_30 (by decide) ?_
        exact ih (j + 1) (by omega) (by omega) ls (lv_sub hl [0, 1, 2] rfl)
      · exact absurd ((hR.of hJ hi (by omega)).mp c22) (fun h => by omega)
set_option maxHeartbeats 4000000 in
set_option maxRecDepth 100000 in
/-- the reference: the first record of an interval -/
theorem c3_first {l : Launch} {E : Gq} {z : Nat → Nat} {v : Nat → Int32} {fk : Nat → Int64} {gl go gi ga : Nat → Nat} {gs : Nat → Int32} {K : List Int64} {L N S P A : List Nat} (h3 : Ctx3 v fk gl go gi ga K L N S P A) {i : Nat} (hi : i < S.length) (h1 : 1 ≤ S.getD i 0) : M3r l E yX3_first cX3_first 3 (some .int) 0 [.ref (z 0), .int (nI (i))] z v fk gl go gi ga gs (fun r => r = some (.int (nI (sm S 0 i)))) := by
  refine mk_r (by decide) (Nat.le_of_ble_eq_true rfl) ?_
  intro p e s m below meth c ls C Wd hl
  have X : X3w E _ z v fk gl go gi ga gs s s.heap [] := Wd
  have hl : lv_has ls 3 [(0, .ref (z 0)), (1, .int (nI (i)))] := hl
  refine lv_iconst (v := nI (0)) C.hx C.hb dX3_first_0 (by decide) ?_
  refine lv_istore_n (lv' := [(2, .int (nI (0))), (0, .ref (z 0)), (1, .int (nI (i)))]) C.hx C.hb dX3_first_1 rfl hl (by decide) rfl (fun ls hl => ?_)
  exact l3_first C X h3 hi h1 _ 0 rfl (Nat.zero_le _) ls (lv_sub hl [0, 1, 2] rfl)
set_option maxHeartbeats 4000000 in
set_option maxRecDepth 100000 in
/-- the reference: the first record of an empty interval -/
theorem c3_first_n {l : Launch} {E : Gq} {z : Nat → Nat} {v : Nat → Int32} {fk : Nat → Int64} {gl go gi ga : Nat → Nat} {gs : Nat → Int32} {K : List Int64} {L N S P A : List Nat} (h3 : Ctx3 v fk gl go gi ga K L N S P A) {i : Nat} (hi : i < S.length) (h0 : K.length = 0) : M3r l E yX3_first cX3_first 3 (some .int) 0 [.ref (z 0), .int (nI (i))] z v fk gl go gi ga gs (fun r => r = some (.int (-1))) := by
  refine mk_r (by decide) (Nat.le_of_ble_eq_true rfl) ?_
  intro p e s m below meth c ls C Wd hl
  have X : X3w E _ z v fk gl go gi ga gs s s.heap [] := Wd
  have hl : lv_has ls 3 [(0, .ref (z 0)), (1, .int (nI (i)))] := hl
  obtain ⟨hR, hJ, hk, hs8, hm, hbl, hbo, hbi, hba, hso⟩ := id h3
  obtain ⟨r1, r2, r3, r4, r5, r6, r7, r8⟩ := id hR
  obtain ⟨j1, j2, j3, j4, j5, j6, j7, j8⟩ := id hJ
  obtain ⟨k1, k2, k3, k4⟩ := hJ.b
  refine lv_iconst (v := nI (0)) C.hx C.hb dX3_first_0 (by decide) ?_
  refine lv_istore_n (lv' := [(2, .int (nI (0))), (0, .ref (z 0)), (1, .int (nI (i)))]) C.hx C.hb dX3_first_1 rfl hl (by decide) rfl (fun ls hl => ?_)
  refine lv_iload_n C.hx C.hb dX3_first_2 rfl (lv_at hl 0 rfl) ?_
  refine lv_aload_n C.hx C.hb dX3_first_3 rfl (lv_at hl 1 rfl) ?_
  refine x3g_8 C X (x := nI (K.length)) hs8 dX3_first_4 ?_
  refine n_icmp_ge (tgt := 33) C dX3_first_7 (by decide) (by first | omega | exact hbo _ | exact hbi _ | exact hba _ | exact hbl _) (by first | omega | exact hbo _ | exact hbi _ | exact hba _ | exact hbl _) (fun c7 => ?_) (fun c7 => ?_)
  · refine lv_iconst (v := (-1)) C.hx C.hb dX3_first_33 (by decide) ?_
    exact ret_ir C (rfl) dX3_first_34
  · omega
set_option maxHeartbeats 4000000 in
set_option maxRecDepth 100000 in
theorem l3_recordsOf {p : Program} {l : Launch} {e : Env} {s : State} {m : MethodId} {args : Array Value} {below : List Frame} {meth : Method} {c : Code} {E : Gq} {A : Nat → Prop} {z : Nat → Nat} {v : Nat → Int32} {fk : Nat → Int64} {gl go gi ga : Nat → Nat} {gs : Nat → Int32} (C : Cx E p s m args meth c cX3_recordsOf 4 (some .int) RX3 A) (X : X3w E A z v fk gl go gi ga gs s s.heap []) {K : List Int64} {L N S P Ar : List Nat} (h3 : Ctx3 v fk gl go gi ga K L N S P Ar) {i : Nat} (hi : i < S.length) : ∀ (n j : Nat), K.length - j = n → j ≤ K.length → ∀ ls : Array Slot, lv_has ls 4 [(3, .int (nI (j))), (2, .int (nI (min (j - sm S 0 i) (S.getD i 0)))), (0, .ref (z 0)), (1, .int (nI (i)))] → W p l e (Rm 0 0 0) s m args below meth c s.heap [] 0 0 (MQ below (Qr (fun r => r = some (.int (nI (S.getD i 0))))) args s 0 0 (fun _ => False)) (F0 m 4 ls []) := by
  obtain ⟨hR, hJ, hk, hs8, hm, hbl, hbo, hbi, hba, hso⟩ := id h3
  obtain ⟨r1, r2, r3, r4, r5, r6, r7, r8⟩ := id hR
  obtain ⟨j1, j2, j3, j4, j5, j6, j7, j8⟩ := id hJ
  obtain ⟨k1, k2, k3, k4⟩ := hJ.b
  have q1 := sm0_get S i
  intro n
  induction n with
  | zero =>
    intro j hn hj ls hl
    refine lv_iload_n C.hx C.hb dX3_recordsOf_4 rfl (lv_at hl 0 rfl) ?_
    refine lv_aload_n C.hx C.hb dX3_recordsOf_5 rfl (lv_at hl 2 rfl) ?_
    refine x3g_8 C X (x := nI (K.length)) hs8 dX3_recordsOf_6 ?_
    refine n_icmp_ge (tgt := 41) C dX3_recordsOf_9 (by decide) (by first | omega | exact hbo _ | exact hbi _ | exact hba _ | exact hbl _) (by first | omega | exact hbo _ | exact hbi _ | exact hba _ | exact hbl _) (fun c9 => ?_) (fun c9 => ?_)
    · refine lv_iload_n C.hx C.hb dX3_recordsOf_41 rfl (lv_at hl 1 rfl) ?_
      exact ret_ir C (by rw [show min (j - sm S 0 i) (S.getD i 0) = S.getD i 0 by omega]) dX3_recordsOf_42
    · omega
  | succ n ih =>
    intro j hn hj ls hl
    have hq := hR.of hJ hi (show j < K.length by omega)
    refine lv_iload_n C.hx C.hb dX3_recordsOf_4 rfl (lv_at hl 0 rfl) ?_
    refine lv_aload_n C.hx C.hb dX3_recordsOf_5 rfl (lv_at hl 2 rfl) ?_
    refine x3g_8 C X (x := nI (K.length)) hs8 dX3_recordsOf_6 ?_
    refine n_icmp_ge (tgt := 41) C dX3_recordsOf_9 (by decide) (by first | omega | exact hbo _ | exact hbi _ | exact hba _ | exact hbl _) (by first | omega | exact hbo _ | exact hbi _ | exact hba _ | exact hbl _) (fun c9 => ?_) (fun c9 => ?_)
    · omega
    · refine lv_iload_n C.hx C.hb dX3_recordsOf_12 rfl (lv_at hl 1 rfl) ?_
      refine lv_aload_n C.hx C.hb dX3_recordsOf_13 rfl (lv_at hl 2 rfl) ?_
      refine x3g_7 C X dX3_recordsOf_14 ?_
      refine lv_iload_n C.hx C.hb dX3_recordsOf_17 rfl (lv_at hl 0 rfl) ?_
      refine x3l_3 C X (by first | omega | exact hbo _ | exact hbi _ | exact hba _ | exact hbl _) dX3_recordsOf_18 ?_
      refine lv_aload_n C.hx C.hb dX3_recordsOf_19 rfl (lv_at hl 2 rfl) ?_
      refine x3g_9 C X dX3_recordsOf_20 ?_
      refine lv_iload_n C.hx C.hb dX3_recordsOf_23 rfl (lv_at hl 3 rfl) ?_
      refine x3l_4 C X (by first | omega | exact hbo _ | exact hbi _ | exact hba _ | exact hbl _) dX3_recordsOf_24 ?_
      refine n_icmp_ne (tgt := 32) C dX3_recordsOf_25 (by decide) (by first | omega | exact hbo _ | exact hbi _ | exact hba _ | exact hbl _) (by first | omega | exact hbo _ | exact hbi _ | exact hba _ | exact hbl _) (fun c25 => ?_) (fun c25 => ?_)
      · have hq2 : ¬ (sm S 0 i ≤ j ∧ j < sm S 0 i + S.getD i 0) := fun h => c25 (hq.mpr h)
        refine lv_iconst (v := nI (0)) C.hx C.hb dX3_recordsOf_32 (by decide) ?_
        refine n_add C dX3_recordsOf_33 ?_
        refine lv_istore_n (lv' := [(2, .int (nI ((min (j - sm S 0 i) (S.getD i 0)) + 0))), (3, .int (nI (j))), (0, .ref (z 0)), (1, .int (nI (i)))]) C.hx C.hb dX3_recordsOf_34 rfl hl (by decide) rfl (fun ls hl => ?_)
        refine lv_iinc (v := nI (j + 1)) (lv' := [(3, .int (nI (j + 1))), (2, .int (nI ((min (j - sm S 0 i) (S.getD i 0)) + 0))), (0, .ref (z 0)), (1, .int (nI (i)))]) C.hx C.hb dX3_recordsOf_35 hl (k := 1) rfl (nI_1 _) (by decide) rfl (fun ls hl => ?_)
        refine lv_goto (tgt := 4) C.hx C.hb dX3_recordsOf_38 (by decide) ?_
        exact ih (j + 1) (by omega) (by omega) ls (by rw [show min (j + 1 - sm S 0 i) (S.getD i 0) = (min (j - sm S 0 i) (S.getD i 0)) + 0 by omega]; exact lv_sub hl [0, 1, 2, 3] rfl)
      · have hq2 := hq.mp c25
        refine lv_iconst (v := nI (1)) C.hx C.hb dX3_recordsOf_28 (by decide) ?_
        refine lv_goto (tgt := 33) C.hx C.hb dX3_recordsOf_29 (by decide) ?_
        refine n_add C dX3_recordsOf_33 ?_
        refine lv_istore_n (lv' := [(2, .int (nI ((min (j - sm S 0 i) (S.getD i 0)) + 1))), (3, .int (nI (j))), (0, .ref (z 0)), (1, .int (nI (i)))]) C.hx C.hb dX3_recordsOf_34 rfl hl (by decide) rfl (fun ls hl => ?_)
        refine lv_iinc (v := nI (j + 1)) (lv' := [(3, .int (nI (j + 1))), (2, .int (nI ((min (j - sm S 0 i) (S.getD i 0)) + 1))), (0, .ref (z 0)), (1, .int (nI (i)))]) C.hx C.hb dX3_recordsOf_35 hl (k := 1) rfl (nI_1 _) (by decide) rfl (fun ls hl => ?_)
        refine lv_goto (tgt := 4) C.hx C.hb dX3_recordsOf_38 (by decide) ?_
        exact ih (j + 1) (by omega) (by omega) ls (by rw [show min (j + 1 - sm S 0 i) (S.getD i 0) = (min (j - sm S 0 i) (S.getD i 0)) + 1 by omega]; exact lv_sub hl [0, 1, 2, 3] rfl)
set_option maxHeartbeats 4000000 in
set_option maxRecDepth 100000 in
/-- the reference: recordsOf -/
theorem c3_recordsOf {l : Launch} {E : Gq} {z : Nat → Nat} {v : Nat → Int32} {fk : Nat → Int64} {gl go gi ga : Nat → Nat} {gs : Nat → Int32} {K : List Int64} {L N S P A : List Nat} (h3 : Ctx3 v fk gl go gi ga K L N S P A) {i : Nat} (hi : i < S.length) : M3r l E yX3_recordsOf cX3_recordsOf 4 (some .int) 0 [.ref (z 0), .int (nI (i))] z v fk gl go gi ga gs (fun r => r = some (.int (nI (S.getD i 0)))) := by
  refine mk_r (by decide) (Nat.le_of_ble_eq_true rfl) ?_
  intro p e s m below meth c ls C Wd hl
  have X : X3w E _ z v fk gl go gi ga gs s s.heap [] := Wd
  have hl : lv_has ls 4 [(0, .ref (z 0)), (1, .int (nI (i)))] := hl
  refine lv_iconst (v := nI (0)) C.hx C.hb dX3_recordsOf_0 (by decide) ?_
  refine lv_istore_n (lv' := [(2, .int (nI (0))), (0, .ref (z 0)), (1, .int (nI (i)))]) C.hx C.hb dX3_recordsOf_1 rfl hl (by decide) rfl (fun ls hl => ?_)
  refine lv_iconst (v := nI (0)) C.hx C.hb dX3_recordsOf_2 (by decide) ?_
  refine lv_istore_n (lv' := [(3, .int (nI (0))), (2, .int (nI (0))), (0, .ref (z 0)), (1, .int (nI (i)))]) C.hx C.hb dX3_recordsOf_3 rfl hl (by decide) rfl (fun ls hl => ?_)
  exact l3_recordsOf C X h3 hi _ 0 rfl (Nat.zero_le _) ls (by rw [Nat.zero_sub, Nat.zero_min]; exact lv_sub hl [0, 1, 2, 3] rfl)
set_option maxHeartbeats 4000000 in
set_option maxRecDepth 100000 in
theorem l3_lengthsOf {p : Program} {l : Launch} {e : Env} {s : State} {m : MethodId} {args : Array Value} {below : List Frame} {meth : Method} {c : Code} {E : Gq} {A : Nat → Prop} {z : Nat → Nat} {v : Nat → Int32} {fk : Nat → Int64} {gl go gi ga : Nat → Nat} {gs : Nat → Int32} (C : Cx E p s m args meth c cX3_lengthsOf 4 (some .int) RX3 A) (X : X3w E A z v fk gl go gi ga gs s s.heap []) {K : List Int64} {L N S P Ar : List Nat} (h3 : Ctx3 v fk gl go gi ga K L N S P Ar) {i : Nat} (hi : i < S.length) : ∀ (n j : Nat), K.length - j = n → j ≤ K.length → ∀ ls : Array Slot, lv_has ls 4 [(3, .int (nI (j))), (2, .int (nI (sm L (sm S 0 i) (min j (sm S 0 i + S.getD i 0))))), (0, .ref (z 0)), (1, .int (nI (i)))] → W p l e (Rm 0 0 0) s m args below meth c s.heap [] 0 0 (MQ below (Qr (fun r => r = some (.int (nI (lin L S i))))) args s 0 0 (fun _ => False)) (F0 m 4 ls []) := by
  obtain ⟨hR, hJ, hk, hs8, hm, hbl, hbo, hbi, hba, hso⟩ := id h3
  obtain ⟨r1, r2, r3, r4, r5, r6, r7, r8⟩ := id hR
  obtain ⟨j1, j2, j3, j4, j5, j6, j7, j8⟩ := id hJ
  obtain ⟨k1, k2, k3, k4⟩ := hJ.b
  have q1 := sm0_get S i
  intro n
  induction n with
  | zero =>
    intro j hn hj ls hl
    refine lv_iload_n C.hx C.hb dX3_lengthsOf_4 rfl (lv_at hl 0 rfl) ?_
    refine lv_aload_n C.hx C.hb dX3_lengthsOf_5 rfl (lv_at hl 2 rfl) ?_
    refine x3g_8 C X (x := nI (K.length)) hs8 dX3_lengthsOf_6 ?_
    refine n_icmp_ge (tgt := 46) C dX3_lengthsOf_9 (by decide) (by first | omega | exact hbo _ | exact hbi _ | exact hba _ | exact hbl _) (by first | omega | exact hbo _ | exact hbi _ | exact hba _ | exact hbl _) (fun c9 => ?_) (fun c9 => ?_)
    · refine lv_iload_n C.hx C.hb dX3_lengthsOf_46 rfl (lv_at hl 1 rfl) ?_
      exact ret_ir C (by unfold lin; rw [show min j (sm S 0 i + S.getD i 0) = sm S 0 i + S.getD i 0 by omega]) dX3_lengthsOf_47
    · omega
  | succ n ih =>
    intro j hn hj ls hl
    have hq := hR.of hJ hi (show j < K.length by omega)
    refine lv_iload_n C.hx C.hb dX3_lengthsOf_4 rfl (lv_at hl 0 rfl) ?_
    refine lv_aload_n C.hx C.hb dX3_lengthsOf_5 rfl (lv_at hl 2 rfl) ?_
    refine x3g_8 C X (x := nI (K.length)) hs8 dX3_lengthsOf_6 ?_
    refine n_icmp_ge (tgt := 46) C dX3_lengthsOf_9 (by decide) (by first | omega | exact hbo _ | exact hbi _ | exact hba _ | exact hbl _) (by first | omega | exact hbo _ | exact hbi _ | exact hba _ | exact hbl _) (fun c9 => ?_) (fun c9 => ?_)
    · omega
    · refine lv_iload_n C.hx C.hb dX3_lengthsOf_12 rfl (lv_at hl 1 rfl) ?_
      refine lv_aload_n C.hx C.hb dX3_lengthsOf_13 rfl (lv_at hl 2 rfl) ?_
      refine x3g_7 C X dX3_lengthsOf_14 ?_
      refine lv_iload_n C.hx C.hb dX3_lengthsOf_17 rfl (lv_at hl 0 rfl) ?_
      refine x3l_3 C X (by first | omega | exact hbo _ | exact hbi _ | exact hba _ | exact hbl _) dX3_lengthsOf_18 ?_
      refine lv_aload_n C.hx C.hb dX3_lengthsOf_19 rfl (lv_at hl 2 rfl) ?_
      refine x3g_9 C X dX3_lengthsOf_20 ?_
      refine lv_iload_n C.hx C.hb dX3_lengthsOf_23 rfl (lv_at hl 3 rfl) ?_
      refine x3l_4 C X (by first | omega | exact hbo _ | exact hbi _ | exact hba _ | exact hbl _) dX3_lengthsOf_24 ?_
      refine n_icmp_ne (tgt := 37) C dX3_lengthsOf_25 (by decide) (by first | omega | exact hbo _ | exact hbi _ | exact hba _ | exact hbl _) (by first | omega | exact hbo _ | exact hbi _ | exact hba _ | exact hbl _) (fun c25 => ?_) (fun c25 => ?_)
      · have hq2 : ¬ (sm S 0 i ≤ j ∧ j < sm S 0 i + S.getD i 0) := fun h => c25 (hq.mpr h)
        refine lv_iconst (v := nI (0)) C.hx C.hb dX3_lengthsOf_37 (by decide) ?_
        refine n_add C dX3_lengthsOf_38 ?_
        refine lv_istore_n (lv' := [(2, .int (nI ((sm L (sm S 0 i) (min j (sm S 0 i + S.getD i 0))) + 0))), (3, .int (nI (j))), (0, .ref (z 0)), (1, .int (nI (i)))]) C.hx C.hb dX3_lengthsOf_39 rfl hl (by decide) rfl (fun ls hl => ?_)
        refine lv_iinc (v := nI (j + 1)) (lv' := [(3, .int (nI (j + 1))), (2, .int (nI ((sm L (sm S 0 i) (min j (sm S 0 i + S.getD i 0))) + 0))), (0, .ref (z 0)), (1, .int (nI (i)))]) C.hx C.hb dX3_lengthsOf_40 hl (k := 1) rfl (nI_1 _) (by decide) rfl (fun ls hl => ?_)
        refine lv_goto (tgt := 4) C.hx C.hb dX3_lengthsOf_43 (by decide) ?_
        have e : sm L (sm S 0 i) (min (j + 1) (sm S 0 i + S.getD i 0)) = sm L (sm S 0 i) (min j (sm S 0 i + S.getD i 0)) + 0 := by
          by_cases z : j < sm S 0 i
          · rw [sm_end (Or.inl (by omega)), sm_end (Or.inl (by omega))]
          · exact congrArg (sm L (sm S 0 i)) (show min (j + 1) (sm S 0 i + S.getD i 0) = min j (sm S 0 i + S.getD i 0) by omega)
        exact ih (j + 1) (by omega) (by omega) ls (by rw [e]; exact lv_sub hl [0, 1, 2, 3] rfl)
      · have hq2 := hq.mp c25
        refine lv_aload_n C.hx C.hb dX3_lengthsOf_28 rfl (lv_at hl 2 rfl) ?_
        refine x3g_6 C X dX3_lengthsOf_29 ?_
        refine lv_iload_n C.hx C.hb dX3_lengthsOf_32 rfl (lv_at hl 0 rfl) ?_
        refine x3l_2 C X (by first | omega | exact hbo _ | exact hbi _ | exact hba _ | exact hbl _) dX3_lengthsOf_33 ?_
        refine lv_goto (tgt := 38) C.hx C.hb dX3_lengthsOf_34 (by decide) ?_
        refine n_add C dX3_lengthsOf_38 ?_
        refine lv_istore_n (lv' := [(2, .int (nI ((sm L (sm S 0 i) (min j (sm S 0 i + S.getD i 0))) + (gl j)))), (3, .int (nI (j))), (0, .ref (z 0)), (1, .int (nI (i)))]) C.hx C.hb dX3_lengthsOf_39 rfl hl (by decide) rfl (fun ls hl => ?_)
        refine lv_iinc (v := nI (j + 1)) (lv' := [(3, .int (nI (j + 1))), (2, .int (nI ((sm L (sm S 0 i) (min j (sm S 0 i + S.getD i 0))) + (gl j)))), (0, .ref (z 0)), (1, .int (nI (i)))]) C.hx C.hb dX3_lengthsOf_40 hl (k := 1) rfl (nI_1 _) (by decide) rfl (fun ls hl => ?_)
        refine lv_goto (tgt := 4) C.hx C.hb dX3_lengthsOf_43 (by decide) ?_
        have e : sm L (sm S 0 i) (min (j + 1) (sm S 0 i + S.getD i 0)) = sm L (sm S 0 i) (min j (sm S 0 i + S.getD i 0)) + gl j := by
          rw [r2 j (by omega), show min (j + 1) (sm S 0 i + S.getD i 0) = j + 1 by omega, show min j (sm S 0 i + S.getD i 0) = j by omega, sm_snoc (by omega) (by omega)]
        exact ih (j + 1) (by omega) (by omega) ls (by rw [e]; exact lv_sub hl [0, 1, 2, 3] rfl)
set_option maxHeartbeats 4000000 in
set_option maxRecDepth 100000 in
/-- the reference: lengthsOf -/
theorem c3_lengthsOf {l : Launch} {E : Gq} {z : Nat → Nat} {v : Nat → Int32} {fk : Nat → Int64} {gl go gi ga : Nat → Nat} {gs : Nat → Int32} {K : List Int64} {L N S P A : List Nat} (h3 : Ctx3 v fk gl go gi ga K L N S P A) {i : Nat} (hi : i < S.length) : M3r l E yX3_lengthsOf cX3_lengthsOf 4 (some .int) 0 [.ref (z 0), .int (nI (i))] z v fk gl go gi ga gs (fun r => r = some (.int (nI (lin L S i)))) := by
  refine mk_r (by decide) (Nat.le_of_ble_eq_true rfl) ?_
  intro p e s m below meth c ls C Wd hl
  have X : X3w E _ z v fk gl go gi ga gs s s.heap [] := Wd
  have hl : lv_has ls 4 [(0, .ref (z 0)), (1, .int (nI (i)))] := hl
  refine lv_iconst (v := nI (0)) C.hx C.hb dX3_lengthsOf_0 (by decide) ?_
  refine lv_istore_n (lv' := [(2, .int (nI (0))), (0, .ref (z 0)), (1, .int (nI (i)))]) C.hx C.hb dX3_lengthsOf_1 rfl hl (by decide) rfl (fun ls hl => ?_)
  refine lv_iconst (v := nI (0)) C.hx C.hb dX3_lengthsOf_2 (by decide) ?_
  refine lv_istore_n (lv' := [(3, .int (nI (0))), (2, .int (nI (0))), (0, .ref (z 0)), (1, .int (nI (i)))]) C.hx C.hb dX3_lengthsOf_3 rfl hl (by decide) rfl (fun ls hl => ?_)
  exact l3_lengthsOf C X h3 hi _ 0 rfl (Nat.zero_le _) ls (by rw [Nat.zero_min, sm_end (Or.inl (Nat.zero_le _))]; exact lv_sub hl [0, 1, 2, 3] rfl)
set_option maxHeartbeats 4000000 in
set_option maxRecDepth 100000 in
theorem l3_widthOf {p : Program} {l : Launch} {e : Env} {s : State} {m : MethodId} {args : Array Value} {below : List Frame} {meth : Method} {c : Code} {E : Gq} {A : Nat → Prop} {z : Nat → Nat} {v : Nat → Int32} {fk : Nat → Int64} {gl go gi ga : Nat → Nat} {gs : Nat → Int32} (C : Cx E p s m args meth c cX3_widthOf 4 (some .int) RX3 A) (X : X3w E A z v fk gl go gi ga gs s s.heap []) {K : List Int64} {L N S P Ar : List Nat} (h3 : Ctx3 v fk gl go gi ga K L N S P Ar) {i : Nat} (hi : i < S.length) : ∀ (n j : Nat), S.length - j = n → j ≤ S.length → ∀ ls : Array Slot, lv_has ls 4 [(3, .int (nI (j))), (2, .int (nI (min (j - sm P 0 (gIx P i)) (P.getD (gIx P i) 0)))), (0, .ref (z 0)), (1, .int (nI (i)))] → W p l e (Rm 0 0 0) s m args below meth c s.heap [] 0 0 (MQ below (Qr (fun r => r = some (.int (nI (P.getD (gIx P i) 0))))) args s 0 0 (fun _ => False)) (F0 m 4 ls []) := by
  obtain ⟨hR, hJ, hk, hs8, hm, hbl, hbo, hbi, hba, hso⟩ := id h3
  obtain ⟨r1, r2, r3, r4, r5, r6, r7, r8⟩ := id hR
  obtain ⟨j1, j2, j3, j4, j5, j6, j7, j8⟩ := id hJ
  obtain ⟨k1, k2, k3, k4⟩ := hJ.b
  have q1 := sm0_get P (gIx P i)
  have q2 := gIx_lt (L := P) (m := i) (by omega)
  intro n
  induction n with
  | zero =>
    intro j hn hj ls hl
    refine lv_iload_n C.hx C.hb dX3_widthOf_4 rfl (lv_at hl 0 rfl) ?_
    refine lv_aload_n C.hx C.hb dX3_widthOf_5 rfl (lv_at hl 2 rfl) ?_
    refine x3g_11 C X (x := nI (S.length)) hm dX3_widthOf_6 ?_
    refine n_icmp_ge (tgt := 41) C dX3_widthOf_9 (by decide) (by first | omega | exact hbo _ | exact hbi _ | exact hba _ | exact hbl _) (by first | omega | exact hbo _ | exact hbi _ | exact hba _ | exact hbl _) (fun c9 => ?_) (fun c9 => ?_)
    · refine lv_iload_n C.hx C.hb dX3_widthOf_41 rfl (lv_at hl 1 rfl) ?_
      exact ret_ir C (by rw [show min (j - sm P 0 (gIx P i)) (P.getD (gIx P i) 0) = P.getD (gIx P i) 0 by omega]) dX3_widthOf_42
    · omega
  | succ n ih =>
    intro j hn hj ls hl
    have hq := (hR.ar hJ hi (show j < S.length by omega)).trans (gIx_iff (by omega) q2)
    refine lv_iload_n C.hx C.hb dX3_widthOf_4 rfl (lv_at hl 0 rfl) ?_
    refine lv_aload_n C.hx C.hb dX3_widthOf_5 rfl (lv_at hl 2 rfl) ?_
    refine x3g_11 C X (x := nI (S.length)) hm dX3_widthOf_6 ?_
    refine n_icmp_ge (tgt := 41) C dX3_widthOf_9 (by decide) (by first | omega | exact hbo _ | exact hbi _ | exact hba _ | exact hbl _) (by first | omega | exact hbo _ | exact hbi _ | exact hba _ | exact hbl _) (fun c9 => ?_) (fun c9 => ?_)
    · omega
    · refine lv_iload_n C.hx C.hb dX3_widthOf_12 rfl (lv_at hl 1 rfl) ?_
      refine lv_aload_n C.hx C.hb dX3_widthOf_13 rfl (lv_at hl 2 rfl) ?_
      refine x3g_10 C X dX3_widthOf_14 ?_
      refine lv_iload_n C.hx C.hb dX3_widthOf_17 rfl (lv_at hl 0 rfl) ?_
      refine x3l_5 C X (by first | omega | exact hbo _ | exact hbi _ | exact hba _ | exact hbl _) dX3_widthOf_18 ?_
      refine lv_aload_n C.hx C.hb dX3_widthOf_19 rfl (lv_at hl 2 rfl) ?_
      refine x3g_10 C X dX3_widthOf_20 ?_
      refine lv_iload_n C.hx C.hb dX3_widthOf_23 rfl (lv_at hl 3 rfl) ?_
      refine x3l_5 C X (by first | omega | exact hbo _ | exact hbi _ | exact hba _ | exact hbl _) dX3_widthOf_24 ?_
      refine n_icmp_ne (tgt := 32) C dX3_widthOf_25 (by decide) (by first | omega | exact hbo _ | exact hbi _ | exact hba _ | exact hbl _) (by first | omega | exact hbo _ | exact hbi _ | exact hba _ | exact hbl _) (fun c25 => ?_) (fun c25 => ?_)
      · have hq2 := fun h => c25 (hq.mpr h)
        refine lv_iconst (v := nI (0)) C.hx C.hb dX3_widthOf_32 (by decide) ?_
        refine n_add C dX3_widthOf_33 ?_
        refine lv_istore_n (lv' := [(2, .int (nI ((min (j - sm P 0 (gIx P i)) (P.getD (gIx P i) 0)) + 0))), (3, .int (nI (j))), (0, .ref (z 0)), (1, .int (nI (i)))]) C.hx C.hb dX3_widthOf_34 rfl hl (by decide) rfl (fun ls hl => ?_)
        refine lv_iinc (v := nI (j + 1)) (lv' := [(3, .int (nI (j + 1))), (2, .int (nI ((min (j - sm P 0 (gIx P i)) (P.getD (gIx P i) 0)) + 0))), (0, .ref (z 0)), (1, .int (nI (i)))]) C.hx C.hb dX3_widthOf_35 hl (k := 1) rfl (nI_1 _) (by decide) rfl (fun ls hl => ?_)
        refine lv_goto (tgt := 4) C.hx C.hb dX3_widthOf_38 (by decide) ?_
        exact ih (j + 1) (by omega) (by omega) ls (by rw [show min (j + 1 - sm P 0 (gIx P i)) (P.getD (gIx P i) 0) = (min (j - sm P 0 (gIx P i)) (P.getD (gIx P i) 0)) + 0 by omega]; exact lv_sub hl [0, 1, 2, 3] rfl)
      · have hq2 := hq.mp c25
        refine lv_iconst (v := nI (1)) C.hx C.hb dX3_widthOf_28 (by decide) ?_
        refine lv_goto (tgt := 33) C.hx C.hb dX3_widthOf_29 (by decide) ?_
        refine n_add C dX3_widthOf_33 ?_
        refine lv_istore_n (lv' := [(2, .int (nI ((min (j - sm P 0 (gIx P i)) (P.getD (gIx P i) 0)) + 1))), (3, .int (nI (j))), (0, .ref (z 0)), (1, .int (nI (i)))]) C.hx C.hb dX3_widthOf_34 rfl hl (by decide) rfl (fun ls hl => ?_)
        refine lv_iinc (v := nI (j + 1)) (lv' := [(3, .int (nI (j + 1))), (2, .int (nI ((min (j - sm P 0 (gIx P i)) (P.getD (gIx P i) 0)) + 1))), (0, .ref (z 0)), (1, .int (nI (i)))]) C.hx C.hb dX3_widthOf_35 hl (k := 1) rfl (nI_1 _) (by decide) rfl (fun ls hl => ?_)
        refine lv_goto (tgt := 4) C.hx C.hb dX3_widthOf_38 (by decide) ?_
        exact ih (j + 1) (by omega) (by omega) ls (by rw [show min (j + 1 - sm P 0 (gIx P i)) (P.getD (gIx P i) 0) = (min (j - sm P 0 (gIx P i)) (P.getD (gIx P i) 0)) + 1 by omega]; exact lv_sub hl [0, 1, 2, 3] rfl)
set_option maxHeartbeats 4000000 in
set_option maxRecDepth 100000 in
/-- the reference: widthOf -/
theorem c3_widthOf {l : Launch} {E : Gq} {z : Nat → Nat} {v : Nat → Int32} {fk : Nat → Int64} {gl go gi ga : Nat → Nat} {gs : Nat → Int32} {K : List Int64} {L N S P A : List Nat} (h3 : Ctx3 v fk gl go gi ga K L N S P A) {i : Nat} (hi : i < S.length) : M3r l E yX3_widthOf cX3_widthOf 4 (some .int) 0 [.ref (z 0), .int (nI (i))] z v fk gl go gi ga gs (fun r => r = some (.int (nI (P.getD (gIx P i) 0)))) := by
  refine mk_r (by decide) (Nat.le_of_ble_eq_true rfl) ?_
  intro p e s m below meth c ls C Wd hl
  have X : X3w E _ z v fk gl go gi ga gs s s.heap [] := Wd
  have hl : lv_has ls 4 [(0, .ref (z 0)), (1, .int (nI (i)))] := hl
  refine lv_iconst (v := nI (0)) C.hx C.hb dX3_widthOf_0 (by decide) ?_
  refine lv_istore_n (lv' := [(2, .int (nI (0))), (0, .ref (z 0)), (1, .int (nI (i)))]) C.hx C.hb dX3_widthOf_1 rfl hl (by decide) rfl (fun ls hl => ?_)
  refine lv_iconst (v := nI (0)) C.hx C.hb dX3_widthOf_2 (by decide) ?_
  refine lv_istore_n (lv' := [(3, .int (nI (0))), (2, .int (nI (0))), (0, .ref (z 0)), (1, .int (nI (i)))]) C.hx C.hb dX3_widthOf_3 rfl hl (by decide) rfl (fun ls hl => ?_)
  exact l3_widthOf C X h3 hi _ 0 rfl (Nat.zero_le _) ls (by rw [Nat.zero_sub, Nat.zero_min]; exact lv_sub hl [0, 1, 2, 3] rfl)
set_option maxHeartbeats 4000000 in
set_option maxRecDepth 100000 in
theorem l3_areaOf {p : Program} {l : Launch} {e : Env} {s : State} {m : MethodId} {args : Array Value} {below : List Frame} {meth : Method} {c : Code} {E : Gq} {A : Nat → Prop} {z : Nat → Nat} {v : Nat → Int32} {fk : Nat → Int64} {gl go gi ga : Nat → Nat} {gs : Nat → Int32} (C : Cx E p s m args meth c cX3_areaOf 4 (some .int) RX3 A) (X : X3w E A z v fk gl go gi ga gs s s.heap []) {K : List Int64} {L N S P Ar : List Nat} (h3 : Ctx3 v fk gl go gi ga K L N S P Ar) {i : Nat} (hi : i < S.length) : ∀ (n j : Nat), i - j = n → j ≤ i → ∀ ls : Array Slot, lv_has ls 4 [(3, .int (nI (j + 1))), (2, .int (nI (gIx P j))), (0, .ref (z 0)), (1, .int (nI (i)))] → W p l e (Rm 0 0 0) s m args below meth c s.heap [] 0 0 (MQ below (Qr (fun r => r = some (.int (nI (gIx P i))))) args s 0 0 (fun _ => False)) (F0 m 4 ls []) := by
  obtain ⟨hR, hJ, hk, hs8, hm, hbl, hbo, hbi, hba, hso⟩ := id h3
  obtain ⟨r1, r2, r3, r4, r5, r6, r7, r8⟩ := id hR
  obtain ⟨j1, j2, j3, j4, j5, j6, j7, j8⟩ := id hJ
  obtain ⟨k1, k2, k3, k4⟩ := hJ.b
  intro n
  induction n with
  | zero =>
    intro j hn hj ls hl
    refine lv_iload_n C.hx C.hb dX3_areaOf_4 rfl (lv_at hl 0 rfl) ?_
    refine lv_iload_n C.hx C.hb dX3_areaOf_5 rfl (lv_at hl 3 rfl) ?_
    refine n_icmp_gt (tgt := 40) C dX3_areaOf_6 (by decide) (by first | omega | exact hbo _ | exact hbi _ | exact hba _ | exact hbl _) (by first | omega | exact hbo _ | exact hbi _ | exact hba _ | exact hbl _) (fun c6 => ?_) (fun c6 => ?_)
    · refine lv_iload_n C.hx C.hb dX3_areaOf_40 rfl (lv_at hl 1 rfl) ?_
      exact ret_ir C (by rw [show j = i by omega]) dX3_areaOf_41
    · omega
  | succ n ih =>
    intro j hn hj ls hl
    have hq := hR.ar hJ (show j < S.length by omega) (show j + 1 < S.length by omega)
    have hst := gIx_step j6 (show j + 1 < P.sum by omega)
    refine lv_iload_n C.hx C.hb dX3_areaOf_4 rfl (lv_at hl 0 rfl) ?_
    refine lv_iload_n C.hx C.hb dX3_areaOf_5 rfl (lv_at hl 3 rfl) ?_
    refine n_icmp_gt (tgt := 40) C dX3_areaOf_6 (by decide) (by first | omega | exact hbo _ | exact hbi _ | exact hba _ | exact hbl _) (by first | omega | exact hbo _ | exact hbi _ | exact hba _ | exact hbl _) (fun c6 => ?_) (fun c6 => ?_)
    · omega
    · refine lv_iload_n C.hx C.hb dX3_areaOf_9 rfl (lv_at hl 1 rfl) ?_
      refine lv_aload_n C.hx C.hb dX3_areaOf_10 rfl (lv_at hl 2 rfl) ?_
      refine x3g_10 C X dX3_areaOf_11 ?_
      refine lv_iload_n C.hx C.hb dX3_areaOf_14 rfl (lv_at hl 0 rfl) ?_
      refine x3l_5 C X (by first | omega | exact hbo _ | exact hbi _ | exact hba _ | exact hbl _) dX3_areaOf_15 ?_
      refine lv_aload_n C.hx C.hb dX3_areaOf_16 rfl (lv_at hl 2 rfl) ?_
      refine x3g_10 C X dX3_areaOf_17 ?_
      refine lv_iload_n C.hx C.hb dX3_areaOf_20 rfl (lv_at hl 0 rfl) ?_
      refine lv_iconst (v := nI (1)) C.hx C.hb dX3_areaOf_21 (by decide) ?_
      refine n_sub C dX3_areaOf_22 (by first | omega | exact hbo _ | exact hbi _ | exact hba _ | exact hbl _) ?_
      refine x3l_5 C X (by first | omega | exact hbo _ | exact hbi _ | exact hba _ | exact hbl _) dX3_areaOf_23 ?_
      refine n_icmp_eq (tgt := 31) C dX3_areaOf_24 (by decide) (by first | omega | exact hbo _ | exact hbi _ | exact hba _ | exact hbl _) (by first | omega | exact hbo _ | exact hbi _ | exact hba _ | exact hbl _) (fun c24 => ?_) (fun c24 => ?_)
      · have hq2 := hq.mp c24
        refine lv_iconst (v := nI (0)) C.hx C.hb dX3_areaOf_31 (by decide) ?_
        refine n_add C dX3_areaOf_32 ?_
        refine lv_istore_n (lv' := [(2, .int (nI ((gIx P j) + 0))), (3, .int (nI (j + 1))), (0, .ref (z 0)), (1, .int (nI (i)))]) C.hx C.hb dX3_areaOf_33 rfl hl (by decide) rfl (fun ls hl => ?_)
        refine lv_iinc (v := nI ((j + 1) + 1)) (lv' := [(3, .int (nI ((j + 1) + 1))), (2, .int (nI ((gIx P j) + 0))), (0, .ref (z 0)), (1, .int (nI (i)))]) C.hx C.hb dX3_areaOf_34 hl (k := 1) rfl (nI_1 _) (by decide) rfl (fun ls hl => ?_)
        refine lv_goto (tgt := 4) C.hx C.hb dX3_areaOf_37 (by decide) ?_
        exact ih (j + 1) (by omega) (by omega) ls (by rw [show gIx P (j + 1) = (gIx P j) + 0 by omega]; exact lv_sub hl [0, 1, 2, 3] rfl)
      · have hq2 : gIx P (j + 1) ≠ gIx P j := fun h => c24 (hq.mpr h)
        refine lv_iconst (v := nI (1)) C.hx C.hb dX3_areaOf_27 (by decide) ?_
        refine lv_goto (tgt := 32) C.hx C.hb dX3_areaOf_28 (by decide) ?_
        refine n_add C dX3_areaOf_32 ?_
        refine lv_istore_n (lv' := [(2, .int (nI ((gIx P j) + 1))), (3, .int (nI (j + 1))), (0, .ref (z 0)), (1, .int (nI (i)))]) C.hx C.hb dX3_areaOf_33 rfl hl (by decide) rfl (fun ls hl => ?_)
        refine lv_iinc (v := nI ((j + 1) + 1)) (lv' := [(3, .int (nI ((j + 1) + 1))), (2, .int (nI ((gIx P j) + 1))), (0, .ref (z 0)), (1, .int (nI (i)))]) C.hx C.hb dX3_areaOf_34 hl (k := 1) rfl (nI_1 _) (by decide) rfl (fun ls hl => ?_)
        refine lv_goto (tgt := 4) C.hx C.hb dX3_areaOf_37 (by decide) ?_
        exact ih (j + 1) (by omega) (by omega) ls (by rw [show gIx P (j + 1) = (gIx P j) + 1 by omega]; exact lv_sub hl [0, 1, 2, 3] rfl)
set_option maxHeartbeats 4000000 in
set_option maxRecDepth 100000 in
/-- the reference: areaOf -/
theorem c3_areaOf {l : Launch} {E : Gq} {z : Nat → Nat} {v : Nat → Int32} {fk : Nat → Int64} {gl go gi ga : Nat → Nat} {gs : Nat → Int32} {K : List Int64} {L N S P A : List Nat} (h3 : Ctx3 v fk gl go gi ga K L N S P A) {i : Nat} (hi : i < S.length) : M3r l E yX3_areaOf cX3_areaOf 4 (some .int) 0 [.ref (z 0), .int (nI (i))] z v fk gl go gi ga gs (fun r => r = some (.int (nI (gIx P i)))) := by
  refine mk_r (by decide) (Nat.le_of_ble_eq_true rfl) ?_
  intro p e s m below meth c ls C Wd hl
  have X : X3w E _ z v fk gl go gi ga gs s s.heap [] := Wd
  have hl : lv_has ls 4 [(0, .ref (z 0)), (1, .int (nI (i)))] := hl
  have e0 : gIx P 0 = 0 := by
    obtain ⟨-, hJ, -⟩ := h3
    cases P with
    | nil => rfl
    | cons x l =>
      have := hJ.2.2.2.2.2.1 x List.mem_cons_self
      simp only [gIx]
      rw [if_pos (by omega)]
  refine lv_iconst (v := nI (0)) C.hx C.hb dX3_areaOf_0 (by decide) ?_
  refine lv_istore_n (lv' := [(2, .int (nI (0))), (0, .ref (z 0)), (1, .int (nI (i)))]) C.hx C.hb dX3_areaOf_1 rfl hl (by decide) rfl (fun ls hl => ?_)
  refine lv_iconst (v := nI (1)) C.hx C.hb dX3_areaOf_2 (by decide) ?_
  refine lv_istore_n (lv' := [(3, .int (nI (1))), (2, .int (nI (0))), (0, .ref (z 0)), (1, .int (nI (i)))]) C.hx C.hb dX3_areaOf_3 rfl hl (by decide) rfl (fun ls hl => ?_)
  exact l3_areaOf C X h3 hi _ 0 rfl (Nat.zero_le _) ls (by rw [e0]; exact lv_sub hl [0, 1, 2, 3] rfl)
def blT (K : List Int64) (S : List Nat) (key : Int64) (b : Nat) : Prop := b < S.length ∧ ∀ i, 1 ≤ i → i < S.length → (K.getD (sm S 0 i) 0 ≤ key ↔ i ≤ b)
set_option maxHeartbeats 4000000 in
set_option maxRecDepth 100000 in
theorem l3_belongs {p : Program} {l : Launch} {e : Env} {s : State} {m : MethodId} {args : Array Value} {below : List Frame} {meth : Method} {c : Code} {E : Gq} {A : Nat → Prop} {z : Nat → Nat} {v : Nat → Int32} {fk : Nat → Int64} {gl go gi ga : Nat → Nat} {gs : Nat → Int32} (C : Cx E p s m args meth c cX3_belongs 5 (some .int) RX3 A) (X : X3w E A z v fk gl go gi ga gs s s.heap []) {K : List Int64} {L N S P Ar : List Nat} (h3 : Ctx3 v fk gl go gi ga K L N S P Ar) {key : Int64} {b : Nat} (hb : blT K S key b) : ∀ (n j : Nat), S.length - (j + 1) = n → j + 1 ≤ S.length → ∀ ls : Array Slot, lv_has ls 5 [(4, .int (nI (j + 1))), (3, .int (nI (min j b))), (0, .ref (z 0)), (1, .long (key))] → W p l e (Rm 1 0 0) s m args below meth c s.heap [] 0 0 (MQ below (Qr (fun r => r = some (.int (nI b)))) args s 0 0 (fun _ => False)) (F0 m 5 ls []) := by
  obtain ⟨hR, hJ, hk, hs8, hm, hbl, hbo, hbi, hba, hso⟩ := id h3
  obtain ⟨r1, r2, r3, r4, r5, r6, r7, r8⟩ := id hR
  obtain ⟨j1, j2, j3, j4, j5, j6, j7, j8⟩ := id hJ
  obtain ⟨k1, k2, k3, k4⟩ := hJ.b
  obtain ⟨b1, b2⟩ := hb
  intro n
  induction n with
  | zero =>
    intro j hn hj ls hl
    refine lv_iload C.hx C.hb dX3_belongs_5 (lv_at hl 0 rfl) ?_
    refine lv_aload_n C.hx C.hb dX3_belongs_7 rfl (lv_at hl 2 rfl) ?_
    refine x3g_11 C X (x := nI (S.length)) hm dX3_belongs_8 ?_
    refine n_icmp_ge (tgt := 43) C dX3_belongs_11 (by decide) (by first | omega | exact hbo _ | exact hbi _ | exact hba _ | exact hbl _) (by first | omega | exact hbo _ | exact hbi _ | exact hba _ | exact hbl _) (fun c11 => ?_) (fun c11 => ?_)
    · refine lv_iload_n C.hx C.hb dX3_belongs_43 rfl (lv_at hl 1 rfl) ?_
      exact ret_ir C (by rw [show min j b = b by omega]) dX3_belongs_44
    · omega
  | succ n ih =>
    intro j hn hj ls hl
    have hq := b2 (j + 1) (by omega) (by omega)
    have hs1 : 1 ≤ S.getD (j + 1) 0 := by
      rcases j7 with z | z
      · omega
      · exact z _ (getD_mem (by omega))
    have q1 := sm0_get S (j + 1)
    rw [← r1 _ (by omega)] at hq
    refine lv_iload C.hx C.hb dX3_belongs_5 (lv_at hl 0 rfl) ?_
    refine lv_aload_n C.hx C.hb dX3_belongs_7 rfl (lv_at hl 2 rfl) ?_
    refine x3g_11 C X (x := nI (S.length)) hm dX3_belongs_8 ?_
    refine n_icmp_ge (tgt := 43) C dX3_belongs_11 (by decide) (by first | omega | exact hbo _ | exact hbi _ | exact hba _ | exact hbl _) (by first | omega | exact hbo _ | exact hbi _ | exact hba _ | exact hbl _) (fun c11 => ?_) (fun c11 => ?_)
    · omega
    · refine lv_aload_n C.hx C.hb dX3_belongs_14 rfl (lv_at hl 2 rfl) ?_
      refine x3g_5 C X dX3_belongs_15 ?_
      refine lv_aload_n C.hx C.hb dX3_belongs_18 rfl (lv_at hl 2 rfl) ?_
      refine lv_iload C.hx C.hb dX3_belongs_19 (lv_at hl 0 rfl) ?_
      refine x3_cr (As := [.int (nI (j + 1))]) (rest := [.ref (z 1)]) C X (c3_first (i := j + 1) h3 (by omega) (by omega)) wy_X3_first ts_32 tw_447 rfl ⟨by decide, by decide⟩ rfl hl.1 rfl (Nat.le_of_ble_eq_true rfl) ⟨Nat.le_refl _, Nat.le_refl _⟩ dX3_belongs_21 (fun r hp => ?_)
      subst hp
      refine W.eq (g2 := F0 m 24 ls [.int (nI (sm S 0 (j + 1))), .ref (z 1)]) rfl ?_
      refine x3l_1 C X (by first | omega | exact hbo _ | exact hbi _ | exact hba _ | exact hbl _) dX3_belongs_24 ?_
      refine lv_lload_n C.hx C.hb dX3_belongs_25 rfl (lv_at hl 3 rfl) ?_
      refine n_lcmp_gt (tgt := 35) C dX3_belongs_26 dX3_belongs_27 (by decide) (fun c26 => ?_) (fun c26 => ?_)
      · have hq2 : ¬ (j + 1 ≤ b) := fun h => absurd (hq.mpr h) (Int64.not_le.mpr c26)
        refine lv_iload_n C.hx C.hb dX3_belongs_35 rfl (lv_at hl 1 rfl) ?_
        refine lv_istore_n (lv' := [(3, .int (nI (min j b))), (4, .int (nI (j + 1))), (0, .ref (z 0)), (1, .long (key))]) C.hx C.hb dX3_belongs_36 rfl hl (by decide) rfl (fun ls hl => ?_)
        refine lv_iinc (v := nI ((j + 1) + 1)) (lv' := [(4, .int (nI ((j + 1) + 1))), (3, .int (nI (min j b))), (0, .ref (z 0)), (1, .long (key))]) C.hx C.hb dX3_belongs_37 hl (k := 1) rfl (nI_1 _) (by decide) rfl (fun ls hl => ?_)
        refine lv_goto (tgt := 5) C.hx C.hb dX3_belongs_40 (by decide) ?_
        exact ih (j + 1) (by omega) (by omega) ls (by rw [show min (j + 1) b = min j b by omega]; exact lv_sub hl [0, 1, 2, 3] rfl)
      · have hq2 := hq.mp c26
        refine lv_iload C.hx C.hb dX3_belongs_30 (lv_at hl 0 rfl) ?_
        refine lv_goto (tgt := 36) C.hx C.hb dX3_belongs_32 (by decide) ?_
        refine lv_istore_n (lv' := [(3, .int (nI (j + 1))), (4, .int (nI (j + 1))), (0, .ref (z 0)), (1, .long (key))]) C.hx C.hb dX3_belongs_36 rfl hl (by decide) rfl (fun ls hl => ?_)
        refine lv_iinc (v := nI ((j + 1) + 1)) (lv' := [(4, .int (nI ((j + 1) + 1))), (3, .int (nI (j + 1))), (0, .ref (z 0)), (1, .long (key))]) C.hx C.hb dX3_belongs_37 hl (k := 1) rfl (nI_1 _) (by decide) rfl (fun ls hl => ?_)
        refine lv_goto (tgt := 5) C.hx C.hb dX3_belongs_40 (by decide) ?_
        exact ih (j + 1) (by omega) (by omega) ls (by rw [show min (j + 1) b = j + 1 by omega]; exact lv_sub hl [0, 1, 2, 3] rfl)
set_option maxHeartbeats 4000000 in
set_option maxRecDepth 100000 in
/-- the reference: where a key belongs -/
theorem c3_belongs {l : Launch} {E : Gq} {z : Nat → Nat} {v : Nat → Int32} {fk : Nat → Int64} {gl go gi ga : Nat → Nat} {gs : Nat → Int32} {K : List Int64} {L N S P A : List Nat} (h3 : Ctx3 v fk gl go gi ga K L N S P A) {key : Int64} {b : Nat} (hb : blT K S key b) : M3r l E yX3_belongs cX3_belongs 5 (some .int) 1 [.ref (z 0), .long (key)] z v fk gl go gi ga gs (fun r => r = some (.int (nI b))) := by
  refine mk_r (by decide) (Nat.le_of_ble_eq_true rfl) ?_
  intro p e s m below meth c ls C Wd hl
  have X : X3w E _ z v fk gl go gi ga gs s s.heap [] := Wd
  have hl : lv_has ls 5 [(0, .ref (z 0)), (1, .long (key))] := hl
  have hj5 := h3.2.1.2.2.2.2.1
  refine lv_iconst (v := nI (0)) C.hx C.hb dX3_belongs_0 (by decide) ?_
  refine lv_istore_n (lv' := [(3, .int (nI (0))), (0, .ref (z 0)), (1, .long (key))]) C.hx C.hb dX3_belongs_1 rfl hl (by decide) rfl (fun ls hl => ?_)
  refine lv_iconst (v := nI (1)) C.hx C.hb dX3_belongs_2 (by decide) ?_
  refine lv_istore (lv' := [(4, .int (nI (1))), (3, .int (nI (0))), (0, .ref (z 0)), (1, .long (key))]) C.hx C.hb dX3_belongs_3 hl (by decide) rfl (fun ls hl => ?_)
  exact l3_belongs C X h3 hb _ 0 rfl (by omega) ls (by rw [Nat.zero_min]; exact lv_sub hl [0, 1, 2, 3] rfl)
set_option maxHeartbeats 4000000 in
set_option maxRecDepth 100000 in
theorem l3_kept {p : Program} {l : Launch} {e : Env} {s : State} {m : MethodId} {args : Array Value} {below : List Frame} {meth : Method} {c : Code} {E : Gq} {A : Nat → Prop} {z : Nat → Nat} {v : Nat → Int32} {fk : Nat → Int64} {gl go gi ga : Nat → Nat} {gs : Nat → Int32} (C : Cx E p s m args meth c cX3_kept 9 (some .int) RX3 A) (X : X3w E A z v fk gl go gi ga gs s s.heap []) {K : List Int64} {L N S P Ar : List Nat} (h3 : Ctx3 v fk gl go gi ga K L N S P Ar) {i : Nat} (hi : i < S.length) (h2 : 2 ≤ S.getD i 0) (hall : 1 ≤ lin L S i) : ∀ (n j : Nat), S.getD i 0 - j = n → j ≤ S.getD i 0 → 2 * sm L (sm S 0 i) ((sm S 0 i) + j) ≤ lin L S i → ∀ ls : Array Slot, lv_has ls 9 [(8, .int (nI (j))), (7, .int (nI (1))), (6, .int (nI (S.getD i 0))), (5, .int (nI (sm S 0 i))), (4, .int (nI (sm L (sm S 0 i) ((sm S 0 i) + j)))), (3, .int (nI (j))), (2, .int (nI (lin L S i))), (0, .ref (z 0))] → W p l e (Rm 1 0 0) s m args below meth c s.heap [] 0 0 (MQ below (Qr (fun r => r = some (.int (nI (kbh L S i))))) args s 0 0 (fun _ => False)) (F0 m 31 ls []) := by
  obtain ⟨hR, hJ, hk, hs8, hm, hbl, hbo, hbi, hba, hso⟩ := id h3
  obtain ⟨r1, r2, r3, r4, r5, r6, r7, r8⟩ := id hR
  obtain ⟨j1, j2, j3, j4, j5, j6, j7, j8⟩ := id hJ
  obtain ⟨k1, k2, k3, k4⟩ := hJ.b
  have q1 := sm0_get S i
  have q3 : lin L S i ≤ L.sum := sm_le _ _ _
  intro n
  induction n with
  | zero =>
    intro j hn hj hs ls hl
    exfalso
    have e : j = S.getD i 0 := by omega
    subst e
    unfold lin at hs hall
    omega
  | succ n ih =>
    intro j hn hj hs ls hl
    have e := sm_snoc (L := L) (a := (sm S 0 i)) (b := (sm S 0 i) + j) (by omega) (by omega)
    have q2 := getD_le L ((sm S 0 i) + j)
    have r2j := r2 ((sm S 0 i) + j) (by omega)
    refine lv_iload C.hx C.hb dX3_kept_31 (lv_at hl 0 rfl) ?_
    refine lv_iload C.hx C.hb dX3_kept_33 (lv_at hl 2 rfl) ?_
    refine n_icmp_ge (tgt := 103) C dX3_kept_35 (by decide) (by first | omega | exact hbo _ | exact hbi _ | exact hba _ | exact hbl _) (by first | omega | exact hbo _ | exact hbi _ | exact hba _ | exact hbl _) (fun c35 => ?_) (fun c35 => ?_)
    · omega
    · refine lv_iload C.hx C.hb dX3_kept_38 (lv_at hl 1 rfl) ?_
      refine n_if_eq (tgt := 103) C dX3_kept_40 (by decide) (by decide) (fun h => absurd h (by decide)) (fun _ => ?_)
      refine lv_iconst (v := nI (2)) C.hx C.hb dX3_kept_43 (by decide) ?_
      refine lv_iload C.hx C.hb dX3_kept_44 (lv_at hl 4 rfl) ?_
      refine lv_aload_n C.hx C.hb dX3_kept_46 rfl (lv_at hl 7 rfl) ?_
      refine x3g_6 C X dX3_kept_47 ?_
      refine lv_iload C.hx C.hb dX3_kept_50 (lv_at hl 3 rfl) ?_
      refine lv_iload C.hx C.hb dX3_kept_52 (lv_at hl 0 rfl) ?_
      refine n_add C dX3_kept_54 ?_
      refine x3l_2 C X (by first | omega | exact hbo _ | exact hbi _ | exact hba _ | exact hbl _) dX3_kept_55 ?_
      refine n_add C dX3_kept_56 ?_
      refine n_mul C dX3_kept_57 ?_
      refine lv_iload_n C.hx C.hb dX3_kept_58 rfl (lv_at hl 6 rfl) ?_
      refine n_icmp_gt (tgt := 66) C dX3_kept_59 (by decide) (by first | omega | exact hbo _ | exact hbi _ | exact hba _ | exact hbl _) (by first | omega | exact hbo _ | exact hbi _ | exact hba _ | exact hbl _) (fun c59 => ?_) (fun c59 => ?_)
      · refine lv_iconst (v := nI (0)) C.hx C.hb dX3_kept_66 (by decide) ?_
        refine lv_istore (lv' := [(7, .int (nI (0))), (8, .int (nI (j))), (6, .int (nI (S.getD i 0))), (5, .int (nI (sm S 0 i))), (4, .int (nI (sm L (sm S 0 i) ((sm S 0 i) + j)))), (3, .int (nI (j))), (2, .int (nI (lin L S i))), (0, .ref (z 0))]) C.hx C.hb dX3_kept_67 hl (by decide) rfl (fun ls hl => ?_)
        refine lv_iload C.hx C.hb dX3_kept_69 (lv_at hl 4 rfl) ?_
        refine lv_aload_n C.hx C.hb dX3_kept_71 rfl (lv_at hl 7 rfl) ?_
        refine x3g_6 C X dX3_kept_72 ?_
        refine lv_iload C.hx C.hb dX3_kept_75 (lv_at hl 3 rfl) ?_
        refine lv_iload C.hx C.hb dX3_kept_77 (lv_at hl 1 rfl) ?_
        refine n_add C dX3_kept_79 ?_
        refine x3l_2 C X (by first | omega | exact hbo _ | exact hbi _ | exact hba _ | exact hbl _) dX3_kept_80 ?_
        refine n_add C dX3_kept_81 ?_
        refine lv_istore (lv' := [(4, .int (nI ((sm L (sm S 0 i) ((sm S 0 i) + j)) + (gl ((sm S 0 i) + j))))), (7, .int (nI (0))), (8, .int (nI (j))), (6, .int (nI (S.getD i 0))), (5, .int (nI (sm S 0 i))), (3, .int (nI (j))), (2, .int (nI (lin L S i))), (0, .ref (z 0))]) C.hx C.hb dX3_kept_82 hl (by decide) rfl (fun ls hl => ?_)
        refine lv_iload_n C.hx C.hb dX3_kept_84 rfl (lv_at hl 5 rfl) ?_
        refine lv_iload C.hx C.hb dX3_kept_85 (lv_at hl 1 rfl) ?_
        refine n_if_eq (tgt := 94) C dX3_kept_87 (by decide) (by decide) (fun _ => ?_) (fun h => absurd h (by decide))
        refine lv_iconst (v := nI (0)) C.hx C.hb dX3_kept_94 (by decide) ?_
        refine n_add C dX3_kept_95 ?_
        refine lv_istore_n (lv' := [(3, .int (nI (j + 0))), (4, .int (nI ((sm L (sm S 0 i) ((sm S 0 i) + j)) + (gl ((sm S 0 i) + j))))), (7, .int (nI (0))), (8, .int (nI (j))), (6, .int (nI (S.getD i 0))), (5, .int (nI (sm S 0 i))), (2, .int (nI (lin L S i))), (0, .ref (z 0))]) C.hx C.hb dX3_kept_96 rfl hl (by decide) rfl (fun ls hl => ?_)
        refine lv_iinc (v := nI (j + 1)) (lv' := [(8, .int (nI (j + 1))), (3, .int (nI (j + 0))), (4, .int (nI ((sm L (sm S 0 i) ((sm S 0 i) + j)) + (gl ((sm S 0 i) + j))))), (7, .int (nI (0))), (6, .int (nI (S.getD i 0))), (5, .int (nI (sm S 0 i))), (2, .int (nI (lin L S i))), (0, .ref (z 0))]) C.hx C.hb dX3_kept_97 hl (k := 3) rfl (nI_1 _) (by decide) rfl (fun ls hl => ?_)
        refine lv_goto (tgt := 31) C.hx C.hb dX3_kept_100 (by decide) ?_
        refine lv_iload C.hx C.hb dX3_kept_31 (lv_at hl 0 rfl) ?_
        refine lv_iload C.hx C.hb dX3_kept_33 (lv_at hl 4 rfl) ?_
        refine n_icmp_ge (tgt := 103) C dX3_kept_35 (by decide) (by first | omega | exact hbo _ | exact hbi _ | exact hba _ | exact hbl _) (by first | omega | exact hbo _ | exact hbi _ | exact hba _ | exact hbl _) (fun c35 => ?_) (fun c35 => ?_)
        · refine lv_iload_n C.hx C.hb dX3_kept_103 rfl (lv_at hl 1 rfl) ?_
          refine lv_iconst (v := nI (1)) C.hx C.hb dX3_kept_104 (by decide) ?_
          refine n_icmp_ge (tgt := 112) C dX3_kept_105 (by decide) (by first | omega | exact hbo _ | exact hbi _ | exact hba _ | exact hbl _) (by first | omega | exact hbo _ | exact hbi _ | exact hba _ | exact hbl _) (fun c105 => ?_) (fun c105 => ?_)
          · refine lv_iload_n C.hx C.hb dX3_kept_112 rfl (lv_at hl 1 rfl) ?_
            refine lv_iload C.hx C.hb dX3_kept_113 (lv_at hl 4 rfl) ?_
            refine n_icmp_ne (tgt := 125) C dX3_kept_115 (by decide) (by first | omega | exact hbo _ | exact hbi _ | exact hba _ | exact hbl _) (by first | omega | exact hbo _ | exact hbi _ | exact hba _ | exact hbl _) (fun c115 => ?_) (fun c115 => ?_)
            · refine lv_iload_n C.hx C.hb dX3_kept_125 rfl (lv_at hl 1 rfl) ?_
              exact ret_ir C (by rw [kbh_is (L := L) (S := S) (i := i) (q := j) h2 (by omega) (by omega) (by omega) (Or.inr hs) (by rw [e]; omega)]; rfl) dX3_kept_126
            · omega
          · refine lv_iconst (v := nI (1)) C.hx C.hb dX3_kept_108 (by decide) ?_
            refine lv_goto (tgt := 126) C.hx C.hb dX3_kept_109 (by decide) ?_
            exact ret_ir C (by rw [kbh_is (L := L) (S := S) (i := i) (q := 1) h2 (by omega) (by omega) (by omega) (Or.inl rfl) (by have hm := sm_mono L (a := (sm S 0 i)) (b := (sm S 0 i) + j + 1) (c := (sm S 0 i) + 1 + 1) (by omega); rw [e] at hm; omega)]) dX3_kept_126
        · refine lv_iload C.hx C.hb dX3_kept_38 (lv_at hl 3 rfl) ?_
          refine n_if_eq (tgt := 103) C dX3_kept_40 (by decide) (by decide) (fun _ => ?_) (fun h => absurd h (by decide))
          refine lv_iload_n C.hx C.hb dX3_kept_103 rfl (lv_at hl 1 rfl) ?_
          refine lv_iconst (v := nI (1)) C.hx C.hb dX3_kept_104 (by decide) ?_
          refine n_icmp_ge (tgt := 112) C dX3_kept_105 (by decide) (by first | omega | exact hbo _ | exact hbi _ | exact hba _ | exact hbl _) (by first | omega | exact hbo _ | exact hbi _ | exact hba _ | exact hbl _) (fun c105 => ?_) (fun c105 => ?_)
          · refine lv_iload_n C.hx C.hb dX3_kept_112 rfl (lv_at hl 1 rfl) ?_
            refine lv_iload C.hx C.hb dX3_kept_113 (lv_at hl 4 rfl) ?_
            refine n_icmp_ne (tgt := 125) C dX3_kept_115 (by decide) (by first | omega | exact hbo _ | exact hbi _ | exact hba _ | exact hbl _) (by first | omega | exact hbo _ | exact hbi _ | exact hba _ | exact hbl _) (fun c115 => ?_) (fun c115 => ?_)
            · refine lv_iload_n C.hx C.hb dX3_kept_125 rfl (lv_at hl 1 rfl) ?_
              exact ret_ir C (by rw [kbh_is (L := L) (S := S) (i := i) (q := j) h2 (by omega) (by omega) (by omega) (Or.inr hs) (by rw [e]; omega)]; rfl) dX3_kept_126
            · omega
          · refine lv_iconst (v := nI (1)) C.hx C.hb dX3_kept_108 (by decide) ?_
            refine lv_goto (tgt := 126) C.hx C.hb dX3_kept_109 (by decide) ?_
            exact ret_ir C (by rw [kbh_is (L := L) (S := S) (i := i) (q := 1) h2 (by omega) (by omega) (by omega) (Or.inl rfl) (by have hm := sm_mono L (a := (sm S 0 i)) (b := (sm S 0 i) + j + 1) (c := (sm S 0 i) + 1 + 1) (by omega); rw [e] at hm; omega)]) dX3_kept_126
      · refine lv_iconst (v := nI (1)) C.hx C.hb dX3_kept_62 (by decide) ?_
        refine lv_goto (tgt := 67) C.hx C.hb dX3_kept_63 (by decide) ?_
        refine lv_istore (lv' := [(7, .int (nI (1))), (8, .int (nI (j))), (6, .int (nI (S.getD i 0))), (5, .int (nI (sm S 0 i))), (4, .int (nI (sm L (sm S 0 i) ((sm S 0 i) + j)))), (3, .int (nI (j))), (2, .int (nI (lin L S i))), (0, .ref (z 0))]) C.hx C.hb dX3_kept_67 hl (by decide) rfl (fun ls hl => ?_)
        refine lv_iload C.hx C.hb dX3_kept_69 (lv_at hl 4 rfl) ?_
        refine lv_aload_n C.hx C.hb dX3_kept_71 rfl (lv_at hl 7 rfl) ?_
        refine x3g_6 C X dX3_kept_72 ?_
        refine lv_iload C.hx C.hb dX3_kept_75 (lv_at hl 3 rfl) ?_
        refine lv_iload C.hx C.hb dX3_kept_77 (lv_at hl 1 rfl) ?_
        refine n_add C dX3_kept_79 ?_
        refine x3l_2 C X (by first | omega | exact hbo _ | exact hbi _ | exact hba _ | exact hbl _) dX3_kept_80 ?_
        refine n_add C dX3_kept_81 ?_
        refine lv_istore (lv' := [(4, .int (nI ((sm L (sm S 0 i) ((sm S 0 i) + j)) + (gl ((sm S 0 i) + j))))), (7, .int (nI (1))), (8, .int (nI (j))), (6, .int (nI (S.getD i 0))), (5, .int (nI (sm S 0 i))), (3, .int (nI (j))), (2, .int (nI (lin L S i))), (0, .ref (z 0))]) C.hx C.hb dX3_kept_82 hl (by decide) rfl (fun ls hl => ?_)
        refine lv_iload_n C.hx C.hb dX3_kept_84 rfl (lv_at hl 5 rfl) ?_
        refine lv_iload C.hx C.hb dX3_kept_85 (lv_at hl 1 rfl) ?_
        refine n_if_eq (tgt := 94) C dX3_kept_87 (by decide) (by decide) (fun h => absurd h (by decide)) (fun _ => ?_)
        refine lv_iconst (v := nI (1)) C.hx C.hb dX3_kept_90 (by decide) ?_
        refine lv_goto (tgt := 95) C.hx C.hb dX3_kept_91 (by decide) ?_
        refine n_add C dX3_kept_95 ?_
        refine lv_istore_n (lv' := [(3, .int (nI (j + 1))), (4, .int (nI ((sm L (sm S 0 i) ((sm S 0 i) + j)) + (gl ((sm S 0 i) + j))))), (7, .int (nI (1))), (8, .int (nI (j))), (6, .int (nI (S.getD i 0))), (5, .int (nI (sm S 0 i))), (2, .int (nI (lin L S i))), (0, .ref (z 0))]) C.hx C.hb dX3_kept_96 rfl hl (by decide) rfl (fun ls hl => ?_)
        refine lv_iinc (v := nI (j + 1)) (lv' := [(8, .int (nI (j + 1))), (3, .int (nI (j + 1))), (4, .int (nI ((sm L (sm S 0 i) ((sm S 0 i) + j)) + (gl ((sm S 0 i) + j))))), (7, .int (nI (1))), (6, .int (nI (S.getD i 0))), (5, .int (nI (sm S 0 i))), (2, .int (nI (lin L S i))), (0, .ref (z 0))]) C.hx C.hb dX3_kept_97 hl (k := 3) rfl (nI_1 _) (by decide) rfl (fun ls hl => ?_)
        refine lv_goto (tgt := 31) C.hx C.hb dX3_kept_100 (by decide) ?_
        exact ih (j + 1) (by omega) (by omega) (by rw [← Nat.add_assoc, e]; omega) ls (by rw [← Nat.add_assoc, e, ← r2j]; exact lv_sub hl [0, 3, 4, 5, 2, 1, 6, 7] rfl)
set_option maxHeartbeats 4000000 in
set_option maxRecDepth 100000 in
/-- the reference: how many an interval keeps -/
theorem c3_kept {l : Launch} {E : Gq} {z : Nat → Nat} {v : Nat → Int32} {fk : Nat → Int64} {gl go gi ga : Nat → Nat} {gs : Nat → Int32} {K : List Int64} {L N S P A : List Nat} (h3 : Ctx3 v fk gl go gi ga K L N S P A) {i : Nat} (hi : i < S.length) (h2 : 2 ≤ S.getD i 0) (hall : 1 ≤ lin L S i) : M3r l E yX3_kept cX3_kept 9 (some .int) 1 [.ref (z 0), .int (nI (i))] z v fk gl go gi ga gs (fun r => r = some (.int (nI (kbh L S i)))) := by
  refine mk_r (by decide) (Nat.le_of_ble_eq_true rfl) ?_
  intro p e s m below meth c ls C Wd hl
  have X : X3w E _ z v fk gl go gi ga gs s s.heap [] := Wd
  have hl : lv_has ls 9 [(0, .ref (z 0)), (1, .int (nI (i)))] := hl
  refine lv_aload_n C.hx C.hb dX3_kept_0 rfl (lv_at hl 0 rfl) ?_
  refine lv_iload_n C.hx C.hb dX3_kept_1 rfl (lv_at hl 1 rfl) ?_
  refine x3_cr (As := [.int (nI (i))]) (rest := []) C X (c3_lengthsOf (i := i) h3 (by omega)) wy_X3_lengthsOf ts_33 tw_451 rfl ⟨by decide, by decide⟩ rfl hl.1 rfl (Nat.le_of_ble_eq_true rfl) ⟨Nat.le_refl _, Nat.le_refl _⟩ dX3_kept_2 (fun r hp => ?_)
  subst hp
  refine W.eq (g2 := F0 m 5 ls [.int (nI (lin L S i))]) rfl ?_
  refine lv_istore_n (lv' := [(2, .int (nI (lin L S i))), (0, .ref (z 0)), (1, .int (nI (i)))]) C.hx C.hb dX3_kept_5 rfl hl (by decide) rfl (fun ls hl => ?_)
  refine lv_iconst (v := nI (0)) C.hx C.hb dX3_kept_6 (by decide) ?_
  refine lv_istore_n (lv' := [(3, .int (nI (0))), (2, .int (nI (lin L S i))), (0, .ref (z 0)), (1, .int (nI (i)))]) C.hx C.hb dX3_kept_7 rfl hl (by decide) rfl (fun ls hl => ?_)
  refine lv_iconst (v := nI (0)) C.hx C.hb dX3_kept_8 (by decide) ?_
  refine lv_istore (lv' := [(4, .int (nI (0))), (3, .int (nI (0))), (2, .int (nI (lin L S i))), (0, .ref (z 0)), (1, .int (nI (i)))]) C.hx C.hb dX3_kept_9 hl (by decide) rfl (fun ls hl => ?_)
  refine lv_aload_n C.hx C.hb dX3_kept_11 rfl (lv_at hl 3 rfl) ?_
  refine lv_iload_n C.hx C.hb dX3_kept_12 rfl (lv_at hl 4 rfl) ?_
  refine x3_cr (As := [.int (nI (i))]) (rest := []) C X (c3_first (i := i) h3 (by omega) (by omega)) wy_X3_first ts_32 tw_447 rfl ⟨by decide, by decide⟩ rfl hl.1 rfl (Nat.le_of_ble_eq_true rfl) ⟨Nat.le_refl _, Nat.le_refl _⟩ dX3_kept_13 (fun r hp => ?_)
  subst hp
  refine W.eq (g2 := F0 m 16 ls [.int (nI (sm S 0 i))]) rfl ?_
  refine lv_istore (lv' := [(5, .int (nI (sm S 0 i))), (4, .int (nI (0))), (3, .int (nI (0))), (2, .int (nI (lin L S i))), (0, .ref (z 0)), (1, .int (nI (i)))]) C.hx C.hb dX3_kept_16 hl (by decide) rfl (fun ls hl => ?_)
  refine lv_aload_n C.hx C.hb dX3_kept_18 rfl (lv_at hl 4 rfl) ?_
  refine lv_iload_n C.hx C.hb dX3_kept_19 rfl (lv_at hl 5 rfl) ?_
  refine x3_cr (As := [.int (nI (i))]) (rest := []) C X (c3_recordsOf (i := i) h3 (by omega)) wy_X3_recordsOf ts_35 tw_459 rfl ⟨by decide, by decide⟩ rfl hl.1 rfl (Nat.le_of_ble_eq_true rfl) ⟨Nat.le_refl _, Nat.le_refl _⟩ dX3_kept_20 (fun r hp => ?_)
  subst hp
  refine W.eq (g2 := F0 m 23 ls [.int (nI (S.getD i 0))]) rfl ?_
  refine lv_istore (lv' := [(6, .int (nI (S.getD i 0))), (5, .int (nI (sm S 0 i))), (4, .int (nI (0))), (3, .int (nI (0))), (2, .int (nI (lin L S i))), (0, .ref (z 0)), (1, .int (nI (i)))]) C.hx C.hb dX3_kept_23 hl (by decide) rfl (fun ls hl => ?_)
  refine lv_iconst (v := nI (1)) C.hx C.hb dX3_kept_25 (by decide) ?_
  refine lv_istore (lv' := [(7, .int (nI (1))), (6, .int (nI (S.getD i 0))), (5, .int (nI (sm S 0 i))), (4, .int (nI (0))), (3, .int (nI (0))), (2, .int (nI (lin L S i))), (0, .ref (z 0)), (1, .int (nI (i)))]) C.hx C.hb dX3_kept_26 hl (by decide) rfl (fun ls hl => ?_)
  refine lv_iconst (v := nI (0)) C.hx C.hb dX3_kept_28 (by decide) ?_
  refine lv_istore (lv' := [(8, .int (nI (0))), (7, .int (nI (1))), (6, .int (nI (S.getD i 0))), (5, .int (nI (sm S 0 i))), (4, .int (nI (0))), (3, .int (nI (0))), (2, .int (nI (lin L S i))), (0, .ref (z 0)), (1, .int (nI (i)))]) C.hx C.hb dX3_kept_29 hl (by decide) rfl (fun ls hl => ?_)
  exact l3_kept C X h3 hi h2 hall _ 0 rfl (Nat.zero_le _) (by rw [sm_end (L := L) (j := sm S 0 i) (b := sm S 0 i + 0) (Or.inl (Nat.le_refl _))]; exact Nat.zero_le _) ls (by rw [sm_end (L := L) (j := sm S 0 i) (b := sm S 0 i + 0) (Or.inl (Nat.le_refl _))]; exact lv_sub hl [0, 1, 2, 3, 4, 5, 6, 7] rfl)
end
section
theorem m1_i {p : Nat} (h : 0 < p) : nI p + Int32.ofInt (-1) = nI (p - 1) := by
  rw [show Int32.ofInt (-1) = (-1 : Int32) by decide]
  exact sb_m1 h
/-- an array whose places a + 1 .. n hold what stood one ahead -/
def shf {α : Type} (f : Nat → α) (a n : Nat) : Nat → α := fun j => if a < j ∧ j ≤ n then f (j - 1) else f j
theorem shf_0 {α : Type} (f : Nat → α) (n : Nat) : shf f n n = f := by
  funext j
  unfold shf
  rw [if_neg (by omega)]
theorem shf_lo {α : Type} {f : Nat → α} {a n j : Nat} (h : j ≤ a) : shf f a n j = f j := by
  unfold shf
  rw [if_neg (by omega)]
theorem shf_sL {f : Nat → Int64} {k n : Nat} (h0 : 0 < k) (hk : k ≤ n) : vp_updL (shf f k n) k (shf f k n (k - 1)) = shf f (k - 1) n := by
  rw [shf_lo (by omega)]
  funext j
  unfold vp_updL shf
  by_cases e : j = k
  · subst e; rw [if_pos rfl, if_pos ⟨by omega, hk⟩]
  · rw [if_neg e]
    by_cases q : k < j ∧ j ≤ n
    · rw [if_pos q, if_pos ⟨by omega, q.2⟩]
    · rw [if_neg q, if_neg (fun h => q ⟨by omega, h.2⟩)]
theorem shf_sN {f : Nat → Nat} {k n : Nat} (h0 : 0 < k) (hk : k ≤ n) : va_up (shf f k n) k (shf f k n (k - 1)) = shf f (k - 1) n := by
  rw [shf_lo (by omega)]
  funext j
  unfold va_up shf
  by_cases e : j = k
  · subst e; rw [if_pos rfl, if_pos ⟨by omega, hk⟩]
  · rw [if_neg e]
    by_cases q : k < j ∧ j ≤ n
    · rw [if_pos q, if_pos ⟨by omega, q.2⟩]
    · rw [if_neg q, if_neg (fun h => q ⟨by omega, h.2⟩)]
/-- an array whose places a .. k - 1 hold what stood one behind -/
def shd {α : Type} (f : Nat → α) (a k : Nat) : Nat → α := fun j => if a ≤ j ∧ j < k then f (j + 1) else f j
theorem shd_0 {α : Type} (f : Nat → α) (a : Nat) : shd f a a = f := by
  funext j
  unfold shd
  rw [if_neg (by omega)]
theorem shd_hi {α : Type} {f : Nat → α} {a k j : Nat} (h : k ≤ j) : shd f a k j = f j := by
  unfold shd
  rw [if_neg (by omega)]
theorem shd_sL {f : Nat → Int64} {a k : Nat} (h : a ≤ k) : vp_updL (shd f a k) k (shd f a k (k + 1)) = shd f a (k + 1) := by
  rw [shd_hi (by omega)]
  funext j
  unfold vp_updL shd
  by_cases e : j = k
  · subst e; rw [if_pos rfl, if_pos ⟨h, by omega⟩]
  · rw [if_neg e]
    by_cases q : a ≤ j ∧ j < k
    · rw [if_pos q, if_pos ⟨q.1, by omega⟩]
    · rw [if_neg q, if_neg (fun h => q ⟨h.1, by omega⟩)]
theorem shd_sN {f : Nat → Nat} {a k : Nat} (h : a ≤ k) : va_up (shd f a k) k (shd f a k (k + 1)) = shd f a (k + 1) := by
  rw [shd_hi (by omega)]
  funext j
  unfold va_up shd
  by_cases e : j = k
  · subst e; rw [if_pos rfl, if_pos ⟨h, by omega⟩]
  · rw [if_neg e]
    by_cases q : a ≤ j ∧ j < k
    · rw [if_pos q, if_pos ⟨q.1, by omega⟩]
    · rw [if_neg q, if_neg (fun h => q ⟨h.1, by omega⟩)]
set_option maxHeartbeats 4000000 in
set_option maxRecDepth 100000 in
theorem l3_insert {p : Program} {l : Launch} {e : Env} {s : State} {m : MethodId} {args : Array Value} {below : List Frame} {meth : Method} {c : Code} {E : Gq} {ws0 : va_W} {z : Nat → Nat} {v : Nat → Int32} {fk : Nat → Int64} {gl go gi ga : Nat → Nat} {gs : Nat → Int32} (C : Cx E p s m args meth c cX3_insert 7 none RX3 (va_A ws0 s.heap.size)) {key : Int64} {len itv t n0 : Nat} (hn0 : n0 ≤ 600) (hv8 : v 8 = nI n0) (ht : t ≤ n0) : ∀ (n k : Nat) (H : Heap) (locs : List Loc), k - t = n → t ≤ k → k ≤ n0 → X3w E (va_A ws0 s.heap.size) z v (shf fk k n0) (shf gl k n0) (shf go k n0) gi ga gs s H locs → ∀ ls : Array Slot, lv_has ls 7 [(6, .int (nI (k))), (5, .int (nI (t))), (0, .ref (z 0)), (1, .long (key)), (3, .int (nI (len))), (4, .int (nI (itv)))] → W p l e (Rm 1 0 0) s m args below meth c H locs 0 0 (MQ below (Qw E ws0 s.heap.size (P3 E z (fun r v' fk' gl' go' gi' ga' gs' => none = r ∧ upd v 8 (nI (n0 + 1)) = v' ∧ vp_updL (shf fk t n0) t key = fk' ∧ va_up (shf gl t n0) t len = gl' ∧ va_up (shf go t n0) t itv = go' ∧ gi = gi' ∧ ga = ga' ∧ gs = gs'))) args s 0 0 (va_A ws0 s.heap.size)) (F0 m 13 ls []) := by
  intro n
  induction n with
  | zero =>
    intro k H locs hn hk hk2 X ls hl
    have e : k = t := by omega
    subst e
    refine lv_iload C.hx C.hb dX3_insert_13 (lv_at hl 0 rfl) ?_
    refine lv_iload C.hx C.hb dX3_insert_15 (lv_at hl 1 rfl) ?_
    refine n_icmp_le (tgt := 74) C dX3_insert_17 (by decide) (by omega) (by omega) (fun c17 => ?_) (fun c17 => ?_)
    · refine lv_aload_n C.hx C.hb dX3_insert_74 rfl (lv_at hl 2 rfl) ?_
      refine x3g_5 C X dX3_insert_75 ?_
      refine lv_iload C.hx C.hb dX3_insert_78 (lv_at hl 1 rfl) ?_
      refine lv_lload_n C.hx C.hb dX3_insert_80 rfl (lv_at hl 3 rfl) ?_
      refine x3t_1 C X (by omega) dX3_insert_81 (fun H locs X => ?_)
      refine lv_aload_n C.hx C.hb dX3_insert_82 rfl (lv_at hl 2 rfl) ?_
      refine x3g_6 C X dX3_insert_83 ?_
      refine lv_iload C.hx C.hb dX3_insert_86 (lv_at hl 1 rfl) ?_
      refine lv_iload_n C.hx C.hb dX3_insert_88 rfl (lv_at hl 4 rfl) ?_
      refine x3t_2 C X (by omega) dX3_insert_89 (fun H locs X => ?_)
      refine lv_aload_n C.hx C.hb dX3_insert_90 rfl (lv_at hl 2 rfl) ?_
      refine x3g_7 C X dX3_insert_91 ?_
      refine lv_iload C.hx C.hb dX3_insert_94 (lv_at hl 1 rfl) ?_
      refine lv_iload C.hx C.hb dX3_insert_96 (lv_at hl 5 rfl) ?_
      refine x3t_3 C X (by omega) dX3_insert_98 (fun H locs X => ?_)
      refine lv_aload_n C.hx C.hb dX3_insert_99 rfl (lv_at hl 2 rfl) ?_
      refine lv_dup C.hx C.hb dX3_insert_100 rfl ?_
      refine x3g_8 C X (x := nI (n0)) hv8 dX3_insert_101 ?_
      refine lv_iconst (v := nI (1)) C.hx C.hb dX3_insert_104 (by decide) ?_
      refine n_add C dX3_insert_105 ?_
      refine x3p_8 C X dX3_insert_106 (fun H locs X => ?_)
      exact ret3_v C X (⟨rfl, rfl, rfl, rfl, rfl, rfl, rfl, rfl⟩) dX3_insert_109
    · omega
  | succ n ih =>
    intro k H locs hn hk hk2 X ls hl
    refine lv_iload C.hx C.hb dX3_insert_13 (lv_at hl 0 rfl) ?_
    refine lv_iload C.hx C.hb dX3_insert_15 (lv_at hl 1 rfl) ?_
    refine n_icmp_le (tgt := 74) C dX3_insert_17 (by decide) (by omega) (by omega) (fun c17 => ?_) (fun c17 => ?_)
    · omega
    · refine lv_aload_n C.hx C.hb dX3_insert_20 rfl (lv_at hl 2 rfl) ?_
      refine x3g_5 C X dX3_insert_21 ?_
      refine lv_iload C.hx C.hb dX3_insert_24 (lv_at hl 0 rfl) ?_
      refine lv_aload_n C.hx C.hb dX3_insert_26 rfl (lv_at hl 2 rfl) ?_
      refine x3g_5 C X dX3_insert_27 ?_
      refine lv_iload C.hx C.hb dX3_insert_30 (lv_at hl 0 rfl) ?_
      refine lv_iconst (v := nI (1)) C.hx C.hb dX3_insert_32 (by decide) ?_
      refine n_sub C dX3_insert_33 (by omega) ?_
      refine x3l_1 C X (by omega) dX3_insert_34 ?_
      refine x3t_1 C X (by omega) dX3_insert_35 (fun H locs X => ?_)
      refine lv_aload_n C.hx C.hb dX3_insert_36 rfl (lv_at hl 2 rfl) ?_
      refine x3g_6 C X dX3_insert_37 ?_
      refine lv_iload C.hx C.hb dX3_insert_40 (lv_at hl 0 rfl) ?_
      refine lv_aload_n C.hx C.hb dX3_insert_42 rfl (lv_at hl 2 rfl) ?_
      refine x3g_6 C X dX3_insert_43 ?_
      refine lv_iload C.hx C.hb dX3_insert_46 (lv_at hl 0 rfl) ?_
      refine lv_iconst (v := nI (1)) C.hx C.hb dX3_insert_48 (by decide) ?_
      refine n_sub C dX3_insert_49 (by omega) ?_
      refine x3l_2 C X (by omega) dX3_insert_50 ?_
      refine x3t_2 C X (by omega) dX3_insert_51 (fun H locs X => ?_)
      refine lv_aload_n C.hx C.hb dX3_insert_52 rfl (lv_at hl 2 rfl) ?_
      refine x3g_7 C X dX3_insert_53 ?_
      refine lv_iload C.hx C.hb dX3_insert_56 (lv_at hl 0 rfl) ?_
      refine lv_aload_n C.hx C.hb dX3_insert_58 rfl (lv_at hl 2 rfl) ?_
      refine x3g_7 C X dX3_insert_59 ?_
      refine lv_iload C.hx C.hb dX3_insert_62 (lv_at hl 0 rfl) ?_
      refine lv_iconst (v := nI (1)) C.hx C.hb dX3_insert_64 (by decide) ?_
      refine n_sub C dX3_insert_65 (by omega) ?_
      refine x3l_3 C X (by omega) dX3_insert_66 ?_
      refine x3t_3 C X (by omega) dX3_insert_67 (fun H locs X => ?_)
      refine lv_iinc (v := nI (k - 1)) (lv' := [(6, .int (nI (k - 1))), (5, .int (nI (t))), (0, .ref (z 0)), (1, .long (key)), (3, .int (nI (len))), (4, .int (nI (itv)))]) C.hx C.hb dX3_insert_68 hl (k := 0) rfl (m1_i (by omega)) (by decide) rfl (fun ls hl => ?_)
      refine lv_goto (tgt := 13) C.hx C.hb dX3_insert_71 (by decide) ?_
      rw [shf_sL (by omega) hk2, shf_sN (by omega) hk2, shf_sN (by omega) hk2] at X
      exact ih (k - 1) H locs (by omega) (by omega) (by omega) X ls (lv_sub hl [0, 1, 2, 3, 4, 5] rfl)
set_option maxHeartbeats 4000000 in
set_option maxRecDepth 100000 in
/-- the reference: a record comes -/
theorem c3_insert {l : Launch} {E : Gq} {z : Nat → Nat} {v : Nat → Int32} {fk : Nat → Int64} {gl go gi ga : Nat → Nat} {gs : Nat → Int32} {K : List Int64} (h0 : Ct0 v fk K) {key : Int64} {len itv t : Nat} (hT : lsT K key t) : M3w l E yX3_insert cX3_insert 7 none 1 [.ref (z 0), .long (key), .int (nI (len)), .int (nI (itv))] z v fk gl go gi ga gs (fun r v' fk' gl' go' gi' ga' gs' => none = r ∧ upd v 8 (nI (K.length + 1)) = v' ∧ vp_updL (shf fk t K.length) t key = fk' ∧ va_up (shf gl t K.length) t len = gl' ∧ va_up (shf go t K.length) t itv = go' ∧ gi = gi' ∧ ga = ga' ∧ gs = gs') := by
  refine mk_w (by decide) (Nat.le_of_ble_eq_true rfl) ?_
  intro p e s m below meth c ls C Wd hl
  have X : X3w E _ z v fk gl go gi ga gs s s.heap [] := Wd
  have hl : lv_has ls 7 [(0, .ref (z 0)), (1, .long (key)), (3, .int (nI (len))), (4, .int (nI (itv)))] := hl
  obtain ⟨hk, hs8, r1⟩ := id h0
  refine lv_aload_n C.hx C.hb dX3_insert_0 rfl (lv_at hl 0 rfl) ?_
  refine lv_lload_n C.hx C.hb dX3_insert_1 rfl (lv_at hl 1 rfl) ?_
  refine x3_cr (As := [.long (key)]) (rest := []) C X (c3_less h0 (t := t) hT) wy_X3_less ts_30 tw_439 rfl ⟨by decide, by decide⟩ rfl hl.1 rfl (Nat.le_of_ble_eq_true rfl) ⟨Nat.le_refl _, Nat.le_refl _⟩ dX3_insert_2 (fun r hp => ?_)
  subst hp
  refine W.eq (g2 := F0 m 5 ls [.int (nI (t))]) rfl ?_
  refine lv_istore (lv' := [(5, .int (nI (t))), (0, .ref (z 0)), (1, .long (key)), (3, .int (nI (len))), (4, .int (nI (itv)))]) C.hx C.hb dX3_insert_5 hl (by decide) rfl (fun ls hl => ?_)
  refine lv_aload_n C.hx C.hb dX3_insert_7 rfl (lv_at hl 1 rfl) ?_
  refine x3g_8 C X (x := nI (K.length)) hs8 dX3_insert_8 ?_
  refine lv_istore (lv' := [(6, .int (nI (K.length))), (5, .int (nI (t))), (0, .ref (z 0)), (1, .long (key)), (3, .int (nI (len))), (4, .int (nI (itv)))]) C.hx C.hb dX3_insert_11 hl (by decide) rfl (fun ls hl => ?_)
  exact l3_insert C hk hs8 hT.1 _ K.length _ _ rfl hT.1 (Nat.le_refl _) (by rw [shf_0, shf_0, shf_0]; exact X) ls (lv_sub hl [0, 1, 2, 3, 4, 5] rfl)
set_option maxHeartbeats 4000000 in
set_option maxRecDepth 100000 in
theorem l3_open {p : Program} {l : Launch} {e : Env} {s : State} {m : MethodId} {args : Array Value} {below : List Frame} {meth : Method} {c : Code} {E : Gq} {ws0 : va_W} {z : Nat → Nat} {v : Nat → Int32} {fk : Nat → Int64} {gl go gi ga : Nat → Nat} {gs : Nat → Int32} (C : Cx E p s m args meth c cX3_open 5 none RX3 (va_A ws0 s.heap.size)) {at_ num ar m0 : Nat} (hm0 : m0 ≤ 1200) (hv11 : v 11 = nI m0) (ht : at_ ≤ m0) : ∀ (n k : Nat) (H : Heap) (locs : List Loc), k - at_ = n → at_ ≤ k → k ≤ m0 → X3w E (va_A ws0 s.heap.size) z v fk gl go (shf gi k m0) (shf ga k m0) gs s H locs → ∀ ls : Array Slot, lv_has ls 5 [(4, .int (nI (k))), (0, .ref (z 0)), (1, .int (nI (at_))), (2, .int (nI (num))), (3, .int (nI (ar)))] → W p l e (Rm 0 0 0) s m args below meth c H locs 0 0 (MQ below (Qw E ws0 s.heap.size (P3 E z (fun r v' fk' gl' go' gi' ga' gs' => none = r ∧ upd v 11 (nI (m0 + 1)) = v' ∧ fk = fk' ∧ gl = gl' ∧ go = go' ∧ va_up (shf gi at_ m0) at_ num = gi' ∧ va_up (shf ga at_ m0) at_ ar = ga' ∧ gs = gs'))) args s 0 0 (va_A ws0 s.heap.size)) (F0 m 6 ls []) := by
  intro n
  induction n with
  | zero =>
    intro k H locs hn hk hk2 X ls hl
    have e : k = at_ := by omega
    subst e
    refine lv_iload C.hx C.hb dX3_open_6 (lv_at hl 0 rfl) ?_
    refine lv_iload_n C.hx C.hb dX3_open_8 rfl (lv_at hl 2 rfl) ?_
    refine n_icmp_le (tgt := 50) C dX3_open_9 (by decide) (by omega) (by omega) (fun c9 => ?_) (fun c9 => ?_)
    · refine lv_aload_n C.hx C.hb dX3_open_50 rfl (lv_at hl 1 rfl) ?_
      refine x3g_9 C X dX3_open_51 ?_
      refine lv_iload_n C.hx C.hb dX3_open_54 rfl (lv_at hl 2 rfl) ?_
      refine lv_iload_n C.hx C.hb dX3_open_55 rfl (lv_at hl 3 rfl) ?_
      refine x3t_4 C X (by omega) dX3_open_56 (fun H locs X => ?_)
      refine lv_aload_n C.hx C.hb dX3_open_57 rfl (lv_at hl 1 rfl) ?_
      refine x3g_10 C X dX3_open_58 ?_
      refine lv_iload_n C.hx C.hb dX3_open_61 rfl (lv_at hl 2 rfl) ?_
      refine lv_iload_n C.hx C.hb dX3_open_62 rfl (lv_at hl 4 rfl) ?_
      refine x3t_5 C X (by omega) dX3_open_63 (fun H locs X => ?_)
      refine lv_aload_n C.hx C.hb dX3_open_64 rfl (lv_at hl 1 rfl) ?_
      refine lv_dup C.hx C.hb dX3_open_65 rfl ?_
      refine x3g_11 C X (x := nI (m0)) hv11 dX3_open_66 ?_
      refine lv_iconst (v := nI (1)) C.hx C.hb dX3_open_69 (by decide) ?_
      refine n_add C dX3_open_70 ?_
      refine x3p_11 C X dX3_open_71 (fun H locs X => ?_)
      exact ret3_v C X (⟨rfl, rfl, rfl, rfl, rfl, rfl, rfl, rfl⟩) dX3_open_74
    · omega
  | succ n ih =>
    intro k H locs hn hk hk2 X ls hl
    refine lv_iload C.hx C.hb dX3_open_6 (lv_at hl 0 rfl) ?_
    refine lv_iload_n C.hx C.hb dX3_open_8 rfl (lv_at hl 2 rfl) ?_
    refine n_icmp_le (tgt := 50) C dX3_open_9 (by decide) (by omega) (by omega) (fun c9 => ?_) (fun c9 => ?_)
    · omega
    · refine lv_aload_n C.hx C.hb dX3_open_12 rfl (lv_at hl 1 rfl) ?_
      refine x3g_9 C X dX3_open_13 ?_
      refine lv_iload C.hx C.hb dX3_open_16 (lv_at hl 0 rfl) ?_
      refine lv_aload_n C.hx C.hb dX3_open_18 rfl (lv_at hl 1 rfl) ?_
      refine x3g_9 C X dX3_open_19 ?_
      refine lv_iload C.hx C.hb dX3_open_22 (lv_at hl 0 rfl) ?_
      refine lv_iconst (v := nI (1)) C.hx C.hb dX3_open_24 (by decide) ?_
      refine n_sub C dX3_open_25 (by omega) ?_
      refine x3l_4 C X (by omega) dX3_open_26 ?_
      refine x3t_4 C X (by omega) dX3_open_27 (fun H locs X => ?_)
      refine lv_aload_n C.hx C.hb dX3_open_28 rfl (lv_at hl 1 rfl) ?_
      refine x3g_10 C X dX3_open_29 ?_
      refine lv_iload C.hx C.hb dX3_open_32 (lv_at hl 0 rfl) ?_
      refine lv_aload_n C.hx C.hb dX3_open_34 rfl (lv_at hl 1 rfl) ?_
      refine x3g_10 C X dX3_open_35 ?_
      refine lv_iload C.hx C.hb dX3_open_38 (lv_at hl 0 rfl) ?_
      refine lv_iconst (v := nI (1)) C.hx C.hb dX3_open_40 (by decide) ?_
      refine n_sub C dX3_open_41 (by omega) ?_
      refine x3l_5 C X (by omega) dX3_open_42 ?_
      refine x3t_5 C X (by omega) dX3_open_43 (fun H locs X => ?_)
      refine lv_iinc (v := nI (k - 1)) (lv' := [(4, .int (nI (k - 1))), (0, .ref (z 0)), (1, .int (nI (at_))), (2, .int (nI (num))), (3, .int (nI (ar)))]) C.hx C.hb dX3_open_44 hl (k := 0) rfl (m1_i (by omega)) (by decide) rfl (fun ls hl => ?_)
      refine lv_goto (tgt := 6) C.hx C.hb dX3_open_47 (by decide) ?_
      rw [shf_sN (by omega) hk2, shf_sN (by omega) hk2] at X
      exact ih (k - 1) H locs (by omega) (by omega) (by omega) X ls (lv_sub hl [0, 1, 2, 3, 4] rfl)
set_option maxHeartbeats 4000000 in
set_option maxRecDepth 100000 in
/-- the reference: an interval comes -/
theorem c3_open {l : Launch} {E : Gq} {z : Nat → Nat} {v : Nat → Int32} {fk : Nat → Int64} {gl go gi ga : Nat → Nat} {gs : Nat → Int32} {at_ num ar m0 : Nat} (hm0 : m0 ≤ 1200) (hv11 : v 11 = nI m0) (ht : at_ ≤ m0) : M3w l E yX3_open cX3_open 5 none 0 [.ref (z 0), .int (nI (at_)), .int (nI (num)), .int (nI (ar))] z v fk gl go gi ga gs (fun r v' fk' gl' go' gi' ga' gs' => none = r ∧ upd v 11 (nI (m0 + 1)) = v' ∧ fk = fk' ∧ gl = gl' ∧ go = go' ∧ va_up (shf gi at_ m0) at_ num = gi' ∧ va_up (shf ga at_ m0) at_ ar = ga' ∧ gs = gs') := by
  refine mk_w (by decide) (Nat.le_of_ble_eq_true rfl) ?_
  intro p e s m below meth c ls C Wd hl
  have X : X3w E _ z v fk gl go gi ga gs s s.heap [] := Wd
  have hl : lv_has ls 5 [(0, .ref (z 0)), (1, .int (nI (at_))), (2, .int (nI (num))), (3, .int (nI (ar)))] := hl
  refine lv_aload_n C.hx C.hb dX3_open_0 rfl (lv_at hl 0 rfl) ?_
  refine x3g_11 C X (x := nI (m0)) hv11 dX3_open_1 ?_
  refine lv_istore (lv' := [(4, .int (nI (m0))), (0, .ref (z 0)), (1, .int (nI (at_))), (2, .int (nI (num))), (3, .int (nI (ar)))]) C.hx C.hb dX3_open_4 hl (by decide) rfl (fun ls hl => ?_)
  exact l3_open C hm0 hv11 ht _ m0 _ _ rfl ht (Nat.le_refl _) (by rw [shf_0, shf_0]; exact X) ls (lv_sub hl [0, 1, 2, 3, 4] rfl)
/-- an array whose places a .. k - 1 that held x hold y -/
def rpl (f : Nat → Nat) (a k x y : Nat) : Nat → Nat := fun j => if a ≤ j ∧ j < k ∧ f j = x then y else f j
theorem rpl_0 (f : Nat → Nat) (a x y : Nat) : rpl f a a x y = f := by
  funext j
  unfold rpl
  rw [if_neg (by omega)]
theorem rpl_hi {f : Nat → Nat} {a k x y j : Nat} (h : k ≤ j) : rpl f a k x y j = f j := by
  unfold rpl
  rw [if_neg (by omega)]
theorem rpl_y {f : Nat → Nat} {a k x y : Nat} (h : a ≤ k) (e : f k = x) : va_up (rpl f a k x y) k y = rpl f a (k + 1) x y := by
  funext j
  unfold va_up rpl
  by_cases q : j = k
  · subst q; rw [if_pos rfl, if_pos ⟨h, by omega, e⟩]
  · rw [if_neg q]
    by_cases r : a ≤ j ∧ j < k ∧ f j = x
    · rw [if_pos r, if_pos ⟨r.1, by omega, r.2.2⟩]
    · rw [if_neg r, if_neg (fun h => r ⟨h.1, by omega, h.2.2⟩)]
theorem rpl_n {f : Nat → Nat} {a k x y : Nat} (e : f k ≠ x) : va_up (rpl f a k x y) k (rpl f a k x y k) = rpl f a (k + 1) x y := by
  rw [rpl_hi (Nat.le_refl k)]
  funext j
  unfold va_up rpl
  by_cases q : j = k
  · subst q; rw [if_pos rfl, if_neg (fun h => e h.2.2)]
  · rw [if_neg q]
    by_cases r : a ≤ j ∧ j < k ∧ f j = x
    · rw [if_pos r, if_pos ⟨r.1, by omega, r.2.2⟩]
    · rw [if_neg r, if_neg (fun h => r ⟨h.1, by omega, h.2.2⟩)]
theorem rpl_b {f : Nat → Nat} {a k x y : Nat} (hf : ∀ j, f j < 2 ^ 31) (hy : y < 2 ^ 31) : ∀ j, rpl f a k x y j < 2 ^ 31 := by
  intro j
  unfold rpl
  split
  · exact hy
  · exact hf j
set_option maxHeartbeats 4000000 in
set_option maxRecDepth 100000 in
theorem l3_si {p : Program} {l : Launch} {e : Env} {s : State} {m : MethodId} {args : Array Value} {below : List Frame} {meth : Method} {c : Code} {E : Gq} {ws0 : va_W} {z : Nat → Nat} {v : Nat → Int32} {fk : Nat → Int64} {gl go gi ga : Nat → Nat} {gs : Nat → Int32} (C : Cx E p s m args meth c cX3_splitInterval 6 none RX3 (va_A ws0 s.heap.size)) {num a x n0 : Nat} (hn0 : n0 ≤ 600) (hv8 : v 8 = nI n0) (hx : x < 2 ^ 31) (hnum : num < 2 ^ 31) (hbo : ∀ j, go j < 2 ^ 31) (ha : a ≤ n0) : ∀ (n k : Nat) (H : Heap) (locs : List Loc), n0 - k = n → a ≤ k → k ≤ n0 → X3w E (va_A ws0 s.heap.size) z v fk gl (rpl go a k x num) gi ga gs s H locs → ∀ ls : Array Slot, lv_has ls 6 [(5, .int (nI (k))), (4, .int (nI (x))), (0, .ref (z 0)), (2, .int (nI (num)))] → W p l e (Rm 2 0 0) s m args below meth c H locs 0 0 (MQ below (Qw E ws0 s.heap.size (P3 E z (fun r v' fk' gl' go' gi' ga' gs' => none = r ∧ v = v' ∧ fk = fk' ∧ gl = gl' ∧ rpl go a n0 x num = go' ∧ gi = gi' ∧ ga = ga' ∧ upd gs 0 (gs 0 + nI 1) = gs'))) args s 0 0 (va_A ws0 s.heap.size)) (F0 m 37 ls []) := by
  intro n
  induction n with
  | zero =>
    intro k H locs hn hk hk2 X ls hl
    have e : k = n0 := by omega
    subst e
    refine lv_iload C.hx C.hb dX3_splitInterval_37 (lv_at hl 0 rfl) ?_
    refine lv_aload_n C.hx C.hb dX3_splitInterval_39 rfl (lv_at hl 2 rfl) ?_
    refine x3g_8 C X (x := nI (k)) hv8 dX3_splitInterval_40 ?_
    refine n_icmp_ge (tgt := 82) C dX3_splitInterval_43 (by decide) (by omega) (by omega) (fun c43 => ?_) (fun c43 => ?_)
    · refine lv_aload_n C.hx C.hb dX3_splitInterval_82 rfl (lv_at hl 2 rfl) ?_
      refine x3g_19 C X dX3_splitInterval_83 ?_
      refine lv_iconst (v := nI (0)) C.hx C.hb dX3_splitInterval_86 (by decide) ?_
      refine lv_dup2_11 C.hx C.hb dX3_splitInterval_87 rfl rfl ?_
      refine x3l_6 C X (by omega) dX3_splitInterval_88 ?_
      refine lv_iconst (v := nI (1)) C.hx C.hb dX3_splitInterval_89 (by decide) ?_
      refine lv_iadd C.hx C.hb dX3_splitInterval_90 ?_
      refine x3t_6 C X (by omega) dX3_splitInterval_91 (fun H locs X => ?_)
      exact ret3_v C X (⟨rfl, rfl, rfl, rfl, rfl, rfl, rfl, rfl⟩) dX3_splitInterval_92
    · omega
  | succ n ih =>
    intro k H locs hn hk hk2 X ls hl
    have hrb := rpl_b (a := a) (k := k) (x := x) (y := num) hbo hnum
    refine lv_iload C.hx C.hb dX3_splitInterval_37 (lv_at hl 0 rfl) ?_
    refine lv_aload_n C.hx C.hb dX3_splitInterval_39 rfl (lv_at hl 2 rfl) ?_
    refine x3g_8 C X (x := nI (n0)) hv8 dX3_splitInterval_40 ?_
    refine n_icmp_ge (tgt := 82) C dX3_splitInterval_43 (by decide) (by first | omega | exact hrb _) (by first | omega | exact hrb _) (fun c43 => ?_) (fun c43 => ?_)
    · omega
    · refine lv_aload_n C.hx C.hb dX3_splitInterval_46 rfl (lv_at hl 2 rfl) ?_
      refine x3g_7 C X dX3_splitInterval_47 ?_
      refine lv_iload C.hx C.hb dX3_splitInterval_50 (lv_at hl 0 rfl) ?_
      refine lv_aload_n C.hx C.hb dX3_splitInterval_52 rfl (lv_at hl 2 rfl) ?_
      refine x3g_7 C X dX3_splitInterval_53 ?_
      refine lv_iload C.hx C.hb dX3_splitInterval_56 (lv_at hl 0 rfl) ?_
      refine x3l_3 C X (by first | omega | exact hrb _) dX3_splitInterval_58 ?_
      refine lv_iload C.hx C.hb dX3_splitInterval_59 (lv_at hl 1 rfl) ?_
      refine n_icmp_ne (tgt := 68) C dX3_splitInterval_61 (by decide) (by first | omega | exact hrb _) (by first | omega | exact hrb _) (fun c61 => ?_) (fun c61 => ?_)
      · refine lv_aload_n C.hx C.hb dX3_splitInterval_68 rfl (lv_at hl 2 rfl) ?_
        refine x3g_7 C X dX3_splitInterval_69 ?_
        refine lv_iload C.hx C.hb dX3_splitInterval_72 (lv_at hl 0 rfl) ?_
        refine x3l_3 C X (by first | omega | exact hrb _) dX3_splitInterval_74 ?_
        refine x3t_3 C X (by first | omega | exact hrb _) dX3_splitInterval_75 (fun H locs X => ?_)
        refine lv_iinc (v := nI (k + 1)) (lv' := [(5, .int (nI (k + 1))), (4, .int (nI (x))), (0, .ref (z 0)), (2, .int (nI (num)))]) C.hx C.hb dX3_splitInterval_76 hl (k := 0) rfl (nI_1 _) (by decide) rfl (fun ls hl => ?_)
        refine lv_goto (tgt := 37) C.hx C.hb dX3_splitInterval_79 (by decide) ?_
        rw [rpl_n (by rw [rpl_hi (Nat.le_refl k)] at c61; exact c61)] at X
        exact ih (k + 1) H locs (by omega) (by omega) (by omega) X ls (lv_sub hl [0, 1, 2, 3] rfl)
      · refine lv_iload_n C.hx C.hb dX3_splitInterval_64 rfl (lv_at hl 3 rfl) ?_
        refine lv_goto (tgt := 75) C.hx C.hb dX3_splitInterval_65 (by decide) ?_
        refine x3t_3 C X (by first | omega | exact hrb _) dX3_splitInterval_75 (fun H locs X => ?_)
        refine lv_iinc (v := nI (k + 1)) (lv' := [(5, .int (nI (k + 1))), (4, .int (nI (x))), (0, .ref (z 0)), (2, .int (nI (num)))]) C.hx C.hb dX3_splitInterval_76 hl (k := 0) rfl (nI_1 _) (by decide) rfl (fun ls hl => ?_)
        refine lv_goto (tgt := 37) C.hx C.hb dX3_splitInterval_79 (by decide) ?_
        rw [rpl_y hk (by rw [rpl_hi (Nat.le_refl k)] at c61; exact c61)] at X
        exact ih (k + 1) H locs (by omega) (by omega) (by omega) X ls (lv_sub hl [0, 1, 2, 3] rfl)
set_option maxHeartbeats 4000000 in
set_option maxRecDepth 100000 in
/-- the reference: an interval splits -/
theorem c3_splitInterval {l : Launch} {E : Gq} {z : Nat → Nat} {v : Nat → Int32} {fk : Nat → Int64} {gl go gi ga : Nat → Nat} {gs : Nat → Int32} {K : List Int64} {L N S P A : List Nat} (h3 : Ctx3 v fk gl go gi ga K L N S P A) {i num : Nat} (hi : i < S.length) (h2 : 2 ≤ S.getD i 0) (hall : 1 ≤ lin L S i) (hnum : num < 2 ^ 31) : M3w l E yX3_splitInterval cX3_splitInterval 6 none 2 [.ref (z 0), .int (nI (i)), .int (nI (num))] z v fk gl go gi ga gs (fun r v' fk' gl' go' gi' ga' gs' => none = r ∧ upd v 11 (nI (S.length + 1)) = v' ∧ fk = fk' ∧ gl = gl' ∧ rpl go (sm S 0 i + kbh L S i) K.length (gi i) num = go' ∧ va_up (shf gi (i + 1) S.length) (i + 1) num = gi' ∧ va_up (shf ga (i + 1) S.length) (i + 1) (ga i) = ga' ∧ upd gs 0 (gs 0 + nI 1) = gs') := by
  refine mk_w (by decide) (Nat.le_of_ble_eq_true rfl) ?_
  intro p e s m below meth c ls C Wd hl
  have X : X3w E _ z v fk gl go gi ga gs s s.heap [] := Wd
  have hl : lv_has ls 6 [(0, .ref (z 0)), (1, .int (nI (i))), (2, .int (nI (num)))] := hl
  obtain ⟨hR, hJ, hk, hs8, hm, hbl, hbo, hbi, hba, hso⟩ := id h3
  obtain ⟨r1, r2, r3, r4, r5, r6, r7, r8⟩ := id hR
  obtain ⟨j1, j2, j3, j4, j5, j6, j7, j8⟩ := id hJ
  obtain ⟨k1, k2, k3, k4⟩ := hJ.b
  have q1 := sm0_get S i
  have q2 := kbh_b (L := L) h2
  refine lv_aload_n C.hx C.hb dX3_splitInterval_0 rfl (lv_at hl 0 rfl) ?_
  refine lv_iload_n C.hx C.hb dX3_splitInterval_1 rfl (lv_at hl 1 rfl) ?_
  refine x3_cr (As := [.int (nI (i))]) (rest := []) C X (c3_first (i := i) h3 (by omega) (by omega)) wy_X3_first ts_32 tw_447 rfl ⟨by decide, by decide⟩ rfl hl.1 rfl (Nat.le_of_ble_eq_true rfl) ⟨Nat.le_refl _, Nat.le_refl _⟩ dX3_splitInterval_2 (fun r hp => ?_)
  subst hp
  refine W.eq (g2 := F0 m 5 ls [.int (nI (sm S 0 i))]) rfl ?_
  refine lv_aload_n C.hx C.hb dX3_splitInterval_5 rfl (lv_at hl 0 rfl) ?_
  refine lv_iload_n C.hx C.hb dX3_splitInterval_6 rfl (lv_at hl 1 rfl) ?_
  refine x3_cr (As := [.int (nI (i))]) (rest := [.int (nI (sm S 0 i))]) C X (c3_kept (i := i) h3 (by omega) (by omega) (by omega)) wy_X3_kept ts_41 tw_483 rfl ⟨by decide, by decide⟩ rfl hl.1 rfl (Nat.le_of_ble_eq_true rfl) ⟨Nat.le_refl _, Nat.le_refl _⟩ dX3_splitInterval_7 (fun r hp => ?_)
  subst hp
  refine W.eq (g2 := F0 m 10 ls [.int (nI (kbh L S i)), .int (nI (sm S 0 i))]) rfl ?_
  refine n_add C dX3_splitInterval_10 ?_
  refine lv_istore_n (lv' := [(3, .int (nI ((sm S 0 i) + (kbh L S i)))), (0, .ref (z 0)), (1, .int (nI (i))), (2, .int (nI (num)))]) C.hx C.hb dX3_splitInterval_11 rfl hl (by decide) rfl (fun ls hl => ?_)
  refine lv_aload_n C.hx C.hb dX3_splitInterval_12 rfl (lv_at hl 1 rfl) ?_
  refine x3g_9 C X dX3_splitInterval_13 ?_
  refine lv_iload_n C.hx C.hb dX3_splitInterval_16 rfl (lv_at hl 2 rfl) ?_
  refine x3l_4 C X (by first | omega | exact hbo _ | exact hbi _ | exact hba _ | exact hbl _) dX3_splitInterval_17 ?_
  refine lv_istore (lv' := [(4, .int (nI (gi i))), (3, .int (nI ((sm S 0 i) + (kbh L S i)))), (0, .ref (z 0)), (1, .int (nI (i))), (2, .int (nI (num)))]) C.hx C.hb dX3_splitInterval_18 hl (by decide) rfl (fun ls hl => ?_)
  refine lv_aload_n C.hx C.hb dX3_splitInterval_20 rfl (lv_at hl 2 rfl) ?_
  refine lv_iload_n C.hx C.hb dX3_splitInterval_21 rfl (lv_at hl 3 rfl) ?_
  refine lv_iconst (v := nI (1)) C.hx C.hb dX3_splitInterval_22 (by decide) ?_
  refine n_add C dX3_splitInterval_23 ?_
  refine lv_iload_n C.hx C.hb dX3_splitInterval_24 rfl (lv_at hl 4 rfl) ?_
  refine lv_aload_n C.hx C.hb dX3_splitInterval_25 rfl (lv_at hl 2 rfl) ?_
  refine x3g_10 C X dX3_splitInterval_26 ?_
  refine lv_iload_n C.hx C.hb dX3_splitInterval_29 rfl (lv_at hl 3 rfl) ?_
  refine x3l_5 C X (by first | omega | exact hbo _ | exact hbi _ | exact hba _ | exact hbl _) dX3_splitInterval_30 ?_
  refine x3_cw (As := [.int (nI (i + 1)), .int (nI (num)), .int (nI (ga i))]) (rest := []) C X (c3_open (at_ := (i + 1)) (num := num) (ar := (ga i)) (m0 := S.length) (by omega) hm (by omega)) wy_X3_open ts_39 tw_475 rfl ⟨by decide, by decide⟩ rfl hl.1 rfl (Nat.le_of_ble_eq_true rfl) ⟨Nat.le_refl _, Nat.le_refl _⟩ dX3_splitInterval_31 (fun r v' fk' gl' go' gi' ga' gs' H locs hp X => ?_)
  obtain ⟨rfl, rfl, rfl, rfl, rfl, rfl, rfl, rfl⟩ := hp
  refine W.eq (g2 := F0 m 34 ls []) rfl ?_
  refine lv_iload_n C.hx C.hb dX3_splitInterval_34 rfl (lv_at hl 1 rfl) ?_
  refine lv_istore (lv' := [(5, .int (nI ((sm S 0 i) + (kbh L S i)))), (4, .int (nI (gi i))), (3, .int (nI ((sm S 0 i) + (kbh L S i)))), (0, .ref (z 0)), (1, .int (nI (i))), (2, .int (nI (num)))]) C.hx C.hb dX3_splitInterval_35 hl (by decide) rfl (fun ls hl => ?_)
  exact l3_si (v := upd v 11 (nI (S.length + 1))) C hk hs8 (hbi i) hnum hbo (by omega) _ (sm S 0 i + kbh L S i) H locs rfl (Nat.le_refl _) (by omega) (by rw [rpl_0]; exact X) ls (lv_sub hl [0, 1, 3, 5] rfl)
/-- an array whose places a .. b - 1, as far as ahead of k, hold x -/
def saf (f : Nat → Nat) (a b k x : Nat) : Nat → Nat := fun j => if a ≤ j ∧ j < b ∧ j < k then x else f j
theorem saf_0 (f : Nat → Nat) (a b x : Nat) : saf f a b 0 x = f := by
  funext j
  unfold saf
  rw [if_neg (by omega)]
theorem saf_hi {f : Nat → Nat} {a b k x j : Nat} (h : k ≤ j) : saf f a b k x j = f j := by
  unfold saf
  rw [if_neg (by omega)]
theorem saf_y {f : Nat → Nat} {a b k x : Nat} (h : a ≤ k) (h2 : k < b) : va_up (saf f a b k x) k x = saf f a b (k + 1) x := by
  funext j
  unfold va_up saf
  by_cases q : j = k
  · subst q; rw [if_pos rfl, if_pos ⟨h, h2, by omega⟩]
  · rw [if_neg q]
    by_cases r : a ≤ j ∧ j < b ∧ j < k
    · rw [if_pos r, if_pos ⟨r.1, r.2.1, by omega⟩]
    · rw [if_neg r, if_neg (fun h => r ⟨h.1, h.2.1, by omega⟩)]
theorem saf_o {f : Nat → Nat} {a b k x : Nat} (h : ¬ (a ≤ k ∧ k < b)) : saf f a b (k + 1) x = saf f a b k x := by
  funext j
  unfold saf
  by_cases r : a ≤ j ∧ j < b ∧ j < k
  · rw [if_pos r, if_pos ⟨r.1, r.2.1, by omega⟩]
  · rw [if_neg r, if_neg (fun q => r ⟨q.1, q.2.1, by
      rcases Nat.lt_or_ge j k with z | z
      · exact z
      · exfalso
        have e : j = k := by omega
        subst e
        exact h ⟨q.1, q.2.1⟩⟩)]
theorem saf_n {f : Nat → Nat} {a b k x : Nat} (h : ¬ (a ≤ k ∧ k < b)) {y : Nat} (e : f k = y) : va_up (saf f a b k x) k y = saf f a b (k + 1) x := by
  rw [saf_o h]
  funext j
  unfold va_up
  by_cases q : j = k
  · subst q; rw [if_pos rfl, saf_hi (Nat.le_refl _)]; exact e.symm
  · rw [if_neg q]
theorem saf_b {f : Nat → Nat} {a b k x : Nat} (hf : ∀ j, f j < 2 ^ 31) (hy : x < 2 ^ 31) : ∀ j, saf f a b k x j < 2 ^ 31 := by
  intro j
  unfold saf
  split
  · exact hy
  · exact hf j
set_option maxHeartbeats 4000000 in
set_option maxRecDepth 100000 in
theorem l3_sa {p : Program} {l : Launch} {e : Env} {s : State} {m : MethodId} {args : Array Value} {below : List Frame} {meth : Method} {c : Code} {E : Gq} {ws0 : va_W} {z : Nat → Nat} {v : Nat → Int32} {fk : Nat → Int64} {gl go gi ga : Nat → Nat} {gs : Nat → Int32} (C : Cx E p s m args meth c cX3_splitArea 6 none RX3 (va_A ws0 s.heap.size)) {K : List Int64} {L N S P Ar : List Nat} {v1 : Nat → Int32} (h3 : Ctx3 v1 fk gl go gi ga K L N S P Ar) {i wd ac : Nat} (hi : i < S.length) (hv11 : v 11 = nI S.length) (hw : v 2 = nI wd) (hwd : wd ≤ 20) (hac : ac + 1 < 2 ^ 31) (hv13 : v 13 = nI (ac + 1)) (hpw : wd / 2 ≤ P.getD (gIx P i) 0) : ∀ (n k : Nat) (H : Heap) (locs : List Loc), S.length - k = n → k ≤ S.length → X3w E (va_A ws0 s.heap.size) z v fk gl go gi (saf ga ((sm P 0 (gIx P i)) + ((P.getD (gIx P i) 0) - wd / 2)) ((sm P 0 (gIx P i)) + (P.getD (gIx P i) 0)) k (ac + 1)) gs s H locs → ∀ ls : Array Slot, lv_has ls 6 [(5, .int (nI (k))), (4, .int (nI (min (k - (sm P 0 (gIx P i))) (P.getD (gIx P i) 0)))), (3, .int (nI (ga i))), (2, .int (nI (P.getD (gIx P i) 0))), (0, .ref (z 0))] → W p l e (Rm 1 0 0) s m args below meth c H locs 0 0 (MQ below (Qw E ws0 s.heap.size (P3 E z (fun r v' fk' gl' go' gi' ga' gs' => none = r ∧ v = v' ∧ fk = fk' ∧ gl = gl' ∧ go = go' ∧ gi = gi' ∧ saf ga ((sm P 0 (gIx P i)) + ((P.getD (gIx P i) 0) - wd / 2)) ((sm P 0 (gIx P i)) + (P.getD (gIx P i) 0)) S.length (ac + 1) = ga' ∧ upd gs 1 (gs 1 + nI 1) = gs'))) args s 0 0 (va_A ws0 s.heap.size)) (F0 m 29 ls []) := by
  obtain ⟨hR, hJ, hk, hs8, hm, hbl, hbo, hbi, hba, hso⟩ := id h3
  obtain ⟨r1, r2, r3, r4, r5, r6, r7, r8⟩ := id hR
  obtain ⟨j1, j2, j3, j4, j5, j6, j7, j8⟩ := id hJ
  obtain ⟨k1, k2, k3, k4⟩ := hJ.b
  have q1 := sm0_get P (gIx P i)
  have q2 := gIx_lt (L := P) (m := i) (by omega)
  intro n
  induction n with
  | zero =>
    intro k H locs hn hk X ls hl
    have e : k = S.length := by omega
    subst e
    refine lv_iload C.hx C.hb dX3_splitArea_29 (lv_at hl 0 rfl) ?_
    refine lv_aload_n C.hx C.hb dX3_splitArea_31 rfl (lv_at hl 4 rfl) ?_
    refine x3g_11 C X (x := nI (S.length)) hv11 dX3_splitArea_32 ?_
    refine n_icmp_ge (tgt := 89) C dX3_splitArea_35 (by decide) (by first | omega) (by first | omega) (fun c35 => ?_) (fun c35 => ?_)
    · refine lv_aload_n C.hx C.hb dX3_splitArea_89 rfl (lv_at hl 4 rfl) ?_
      refine x3g_19 C X dX3_splitArea_90 ?_
      refine lv_iconst (v := nI (1)) C.hx C.hb dX3_splitArea_93 (by decide) ?_
      refine lv_dup2_11 C.hx C.hb dX3_splitArea_94 rfl rfl ?_
      refine x3l_6 C X (by first | omega) dX3_splitArea_95 ?_
      refine lv_iconst (v := nI (1)) C.hx C.hb dX3_splitArea_96 (by decide) ?_
      refine lv_iadd C.hx C.hb dX3_splitArea_97 ?_
      refine x3t_6 C X (by first | omega) dX3_splitArea_98 (fun H locs X => ?_)
      exact ret3_v C X (⟨rfl, rfl, rfl, rfl, rfl, rfl, rfl, rfl⟩) dX3_splitArea_99
    · omega
  | succ n ih =>
    intro k H locs hn hk X ls hl
    have hsb := saf_b (a := (sm P 0 (gIx P i)) + ((P.getD (gIx P i) 0) - wd / 2)) (b := (sm P 0 (gIx P i)) + (P.getD (gIx P i) 0)) (k := k) (x := ac + 1) hba hac
    have hq := (hR.ar hJ hi (show k < S.length by omega)).trans (gIx_iff (by omega) q2)
    have e0 : saf ga ((sm P 0 (gIx P i)) + ((P.getD (gIx P i) 0) - wd / 2)) ((sm P 0 (gIx P i)) + (P.getD (gIx P i) 0)) k (ac + 1) k = ga k := saf_hi (Nat.le_refl k)
    refine lv_iload C.hx C.hb dX3_splitArea_29 (lv_at hl 0 rfl) ?_
    refine lv_aload_n C.hx C.hb dX3_splitArea_31 rfl (lv_at hl 4 rfl) ?_
    refine x3g_11 C X (x := nI (S.length)) hv11 dX3_splitArea_32 ?_
    refine n_icmp_ge (tgt := 89) C dX3_splitArea_35 (by decide) (by first | omega | exact hsb _ | exact hba _) (by first | omega | exact hsb _ | exact hba _) (fun c35 => ?_) (fun c35 => ?_)
    · omega
    · refine lv_aload_n C.hx C.hb dX3_splitArea_38 rfl (lv_at hl 4 rfl) ?_
      refine x3g_10 C X dX3_splitArea_39 ?_
      refine lv_iload C.hx C.hb dX3_splitArea_42 (lv_at hl 0 rfl) ?_
      refine x3l_5 C X (by first | omega | exact hsb _ | exact hba _) dX3_splitArea_44 ?_
      refine lv_iload_n C.hx C.hb dX3_splitArea_45 rfl (lv_at hl 2 rfl) ?_
      refine n_icmp_eq (tgt := 52) C dX3_splitArea_46 (by decide) (by first | omega | exact hsb _ | exact hba _) (by first | omega | exact hsb _ | exact hba _) (fun c46 => ?_) (fun c46 => ?_)
      · have hqe : ga k = ga i := by rw [← e0]; exact c46
        have hq2 := hq.mp hqe
        refine lv_iinc (v := nI ((min (k - (sm P 0 (gIx P i))) (P.getD (gIx P i) 0)) + 1)) (lv' := [(4, .int (nI ((min (k - (sm P 0 (gIx P i))) (P.getD (gIx P i) 0)) + 1))), (5, .int (nI (k))), (3, .int (nI (ga i))), (2, .int (nI (P.getD (gIx P i) 0))), (0, .ref (z 0))]) C.hx C.hb dX3_splitArea_52 hl (k := 1) rfl (nI_1 _) (by decide) rfl (fun ls hl => ?_)
        refine lv_aload_n C.hx C.hb dX3_splitArea_55 rfl (lv_at hl 4 rfl) ?_
        refine x3g_10 C X dX3_splitArea_56 ?_
        refine lv_iload C.hx C.hb dX3_splitArea_59 (lv_at hl 1 rfl) ?_
        refine lv_iload C.hx C.hb dX3_splitArea_61 (lv_at hl 0 rfl) ?_
        refine lv_iload_n C.hx C.hb dX3_splitArea_63 rfl (lv_at hl 3 rfl) ?_
        refine lv_aload_n C.hx C.hb dX3_splitArea_64 rfl (lv_at hl 4 rfl) ?_
        refine x3g_2 C X (x := nI (wd)) hw dX3_splitArea_65 ?_
        refine lv_iconst (v := nI (2)) C.hx C.hb dX3_splitArea_68 (by decide) ?_
        refine n_div C dX3_splitArea_69 (by first | omega | exact hsb _ | exact hba _) (by first | omega | exact hsb _ | exact hba _) (by first | omega | exact hsb _ | exact hba _) ?_
        refine n_sub C dX3_splitArea_70 (by first | omega | exact hsb _ | exact hba _) ?_
        refine n_icmp_le (tgt := 81) C dX3_splitArea_71 (by decide) (by first | omega | exact hsb _ | exact hba _) (by first | omega | exact hsb _ | exact hba _) (fun c71 => ?_) (fun c71 => ?_)
        · refine lv_iload_n C.hx C.hb dX3_splitArea_81 rfl (lv_at hl 2 rfl) ?_
          refine x3t_5 C X (by first | omega | exact hsb _ | exact hba _) dX3_splitArea_82 (fun H locs X => ?_)
          refine lv_iinc (v := nI (k + 1)) (lv' := [(5, .int (nI (k + 1))), (4, .int (nI ((min (k - (sm P 0 (gIx P i))) (P.getD (gIx P i) 0)) + 1))), (3, .int (nI (ga i))), (2, .int (nI (P.getD (gIx P i) 0))), (0, .ref (z 0))]) C.hx C.hb dX3_splitArea_83 hl (k := 1) rfl (nI_1 _) (by decide) rfl (fun ls hl => ?_)
          refine lv_goto (tgt := 29) C.hx C.hb dX3_splitArea_86 (by decide) ?_
          rw [saf_n (fun h => by omega) hqe] at X
          exact ih (k + 1) H locs (by omega) (by omega) X ls (by rw [show min (k + 1 - (sm P 0 (gIx P i))) (P.getD (gIx P i) 0) = (min (k - (sm P 0 (gIx P i))) (P.getD (gIx P i) 0)) + 1 by omega]; exact lv_sub hl [0, 1, 2, 3, 4] rfl)
        · refine lv_aload_n C.hx C.hb dX3_splitArea_74 rfl (lv_at hl 4 rfl) ?_
          refine x3g_13 C X (x := nI (ac + 1)) hv13 dX3_splitArea_75 ?_
          refine lv_goto (tgt := 82) C.hx C.hb dX3_splitArea_78 (by decide) ?_
          refine x3t_5 C X (by first | omega | exact hsb _ | exact hba _) dX3_splitArea_82 (fun H locs X => ?_)
          refine lv_iinc (v := nI (k + 1)) (lv' := [(5, .int (nI (k + 1))), (4, .int (nI ((min (k - (sm P 0 (gIx P i))) (P.getD (gIx P i) 0)) + 1))), (3, .int (nI (ga i))), (2, .int (nI (P.getD (gIx P i) 0))), (0, .ref (z 0))]) C.hx C.hb dX3_splitArea_83 hl (k := 1) rfl (nI_1 _) (by decide) rfl (fun ls hl => ?_)
          refine lv_goto (tgt := 29) C.hx C.hb dX3_splitArea_86 (by decide) ?_
          rw [saf_y (by omega) (by omega)] at X
          exact ih (k + 1) H locs (by omega) (by omega) X ls (by rw [show min (k + 1 - (sm P 0 (gIx P i))) (P.getD (gIx P i) 0) = (min (k - (sm P 0 (gIx P i))) (P.getD (gIx P i) 0)) + 1 by omega]; exact lv_sub hl [0, 1, 2, 3, 4] rfl)
      · have hq2 := fun h => c46 (e0.trans (hq.mpr h))
        refine lv_goto (tgt := 83) C.hx C.hb dX3_splitArea_49 (by decide) ?_
        refine lv_iinc (v := nI (k + 1)) (lv' := [(5, .int (nI (k + 1))), (4, .int (nI (min (k - (sm P 0 (gIx P i))) (P.getD (gIx P i) 0)))), (3, .int (nI (ga i))), (2, .int (nI (P.getD (gIx P i) 0))), (0, .ref (z 0))]) C.hx C.hb dX3_splitArea_83 hl (k := 0) rfl (nI_1 _) (by decide) rfl (fun ls hl => ?_)
        refine lv_goto (tgt := 29) C.hx C.hb dX3_splitArea_86 (by decide) ?_
        rw [← saf_o (fun h => by omega)] at X
        exact ih (k + 1) H locs (by omega) (by omega) X ls (by rw [show min (k + 1 - (sm P 0 (gIx P i))) (P.getD (gIx P i) 0) = min (k - (sm P 0 (gIx P i))) (P.getD (gIx P i) 0) by omega]; exact lv_sub hl [0, 1, 2, 3, 4] rfl)
set_option maxHeartbeats 4000000 in
set_option maxRecDepth 100000 in
/-- the reference: an area splits -/
theorem c3_splitArea {l : Launch} {E : Gq} {z : Nat → Nat} {v : Nat → Int32} {fk : Nat → Int64} {gl go gi ga : Nat → Nat} {gs : Nat → Int32} {K : List Int64} {L N S P A : List Nat} (h3 : Ctx3 v fk gl go gi ga K L N S P A) {i wd ac : Nat} (hi : i < S.length) (hw : v 2 = nI wd) (hwd : wd ≤ 20) (hac : ac + 1 < 2 ^ 31) (hv13 : v 13 = nI ac) (hpw : wd / 2 ≤ P.getD (gIx P i) 0) : M3w l E yX3_splitArea cX3_splitArea 6 none 1 [.ref (z 0), .int (nI (i))] z v fk gl go gi ga gs (fun r v' fk' gl' go' gi' ga' gs' => none = r ∧ upd v 13 (nI (ac + 1)) = v' ∧ fk = fk' ∧ gl = gl' ∧ go = go' ∧ gi = gi' ∧ saf ga ((sm P 0 (gIx P i)) + ((P.getD (gIx P i) 0) - wd / 2)) ((sm P 0 (gIx P i)) + (P.getD (gIx P i) 0)) S.length (ac + 1) = ga' ∧ upd gs 1 (gs 1 + nI 1) = gs') := by
  refine mk_w (by decide) (Nat.le_of_ble_eq_true rfl) ?_
  intro p e s m below meth c ls C Wd hl
  have X : X3w E _ z v fk gl go gi ga gs s s.heap [] := Wd
  have hl : lv_has ls 6 [(0, .ref (z 0)), (1, .int (nI (i)))] := hl
  obtain ⟨hR, hJ, hk, hs8, hm, hbl, hbo, hbi, hba, hso⟩ := id h3
  obtain ⟨r1, r2, r3, r4, r5, r6, r7, r8⟩ := id hR
  obtain ⟨j1, j2, j3, j4, j5, j6, j7, j8⟩ := id hJ
  obtain ⟨k1, k2, k3, k4⟩ := hJ.b
  refine lv_aload_n C.hx C.hb dX3_splitArea_0 rfl (lv_at hl 0 rfl) ?_
  refine lv_iload_n C.hx C.hb dX3_splitArea_1 rfl (lv_at hl 1 rfl) ?_
  refine x3_cr (As := [.int (nI (i))]) (rest := []) C X (c3_widthOf (i := i) h3 (by omega)) wy_X3_widthOf ts_36 tw_463 rfl ⟨by decide, by decide⟩ rfl hl.1 rfl (Nat.le_of_ble_eq_true rfl) ⟨Nat.le_refl _, Nat.le_refl _⟩ dX3_splitArea_2 (fun r hp => ?_)
  subst hp
  refine W.eq (g2 := F0 m 5 ls [.int (nI (P.getD (gIx P i) 0))]) rfl ?_
  refine lv_istore_n (lv' := [(2, .int (nI (P.getD (gIx P i) 0))), (0, .ref (z 0)), (1, .int (nI (i)))]) C.hx C.hb dX3_splitArea_5 rfl hl (by decide) rfl (fun ls hl => ?_)
  refine lv_aload_n C.hx C.hb dX3_splitArea_6 rfl (lv_at hl 1 rfl) ?_
  refine x3g_10 C X dX3_splitArea_7 ?_
  refine lv_iload_n C.hx C.hb dX3_splitArea_10 rfl (lv_at hl 2 rfl) ?_
  refine x3l_5 C X (by first | omega | exact hbo _ | exact hbi _ | exact hba _ | exact hbl _) dX3_splitArea_11 ?_
  refine lv_istore_n (lv' := [(3, .int (nI (ga i))), (2, .int (nI (P.getD (gIx P i) 0))), (0, .ref (z 0)), (1, .int (nI (i)))]) C.hx C.hb dX3_splitArea_12 rfl hl (by decide) rfl (fun ls hl => ?_)
  refine lv_iconst (v := nI (0)) C.hx C.hb dX3_splitArea_13 (by decide) ?_
  refine lv_istore (lv' := [(4, .int (nI (0))), (3, .int (nI (ga i))), (2, .int (nI (P.getD (gIx P i) 0))), (0, .ref (z 0)), (1, .int (nI (i)))]) C.hx C.hb dX3_splitArea_14 hl (by decide) rfl (fun ls hl => ?_)
  refine lv_aload_n C.hx C.hb dX3_splitArea_16 rfl (lv_at hl 3 rfl) ?_
  refine lv_dup C.hx C.hb dX3_splitArea_17 rfl ?_
  refine x3g_13 C X (x := nI (ac)) hv13 dX3_splitArea_18 ?_
  refine lv_iconst (v := nI (1)) C.hx C.hb dX3_splitArea_21 (by decide) ?_
  refine n_add C dX3_splitArea_22 ?_
  refine x3p_13 C X dX3_splitArea_23 (fun H locs X => ?_)
  refine lv_iconst (v := nI (0)) C.hx C.hb dX3_splitArea_26 (by decide) ?_
  refine lv_istore (lv' := [(5, .int (nI (0))), (4, .int (nI (0))), (3, .int (nI (ga i))), (2, .int (nI (P.getD (gIx P i) 0))), (0, .ref (z 0)), (1, .int (nI (i)))]) C.hx C.hb dX3_splitArea_27 hl (by decide) rfl (fun ls hl => ?_)
  exact l3_sa (v := upd v 13 (nI (ac + 1))) C h3 hi hm hw hwd hac rfl hpw _ 0 H locs rfl (Nat.zero_le _) (by rw [saf_0]; exact X) ls (by rw [Nat.zero_sub, Nat.zero_min]; exact lv_sub hl [0, 1, 2, 3, 4] rfl)
set_option maxHeartbeats 4000000 in
set_option maxRecDepth 100000 in
/-- the reference: no cut is told -/
theorem c3_isCut_n {l : Launch} {E : Gq} {z : Nat → Nat} {v : Nat → Int32} {fk : Nat → Int64} {gl go gi ga : Nat → Nat} {gs : Nat → Int32} {kk i : Nat} (hv14 : v 14 = nI 0) : M3w l E yX3_isCut cX3_isCut 3 (some .boolean) 0 [.ref (z 0), .int (nI (kk)), .int (nI (i))] z v fk gl go gi ga gs (fun r v' fk' gl' go' gi' ga' gs' => some (.int (nI 0)) = r ∧ v = v' ∧ fk = fk' ∧ gl = gl' ∧ go = go' ∧ gi = gi' ∧ ga = ga' ∧ gs = gs') := by
  refine mk_w (by decide) (Nat.le_of_ble_eq_true rfl) ?_
  intro p e s m below meth c ls C Wd hl
  have X : X3w E _ z v fk gl go gi ga gs s s.heap [] := Wd
  have hl : lv_has ls 3 [(0, .ref (z 0)), (1, .int (nI (kk))), (2, .int (nI (i)))] := hl
  refine lv_aload_n C.hx C.hb dX3_isCut_0 rfl (lv_at hl 0 rfl) ?_
  refine x3g_14 C X (x := nI (0)) hv14 dX3_isCut_1 ?_
  refine n_if_ne (tgt := 9) C dX3_isCut_4 (by decide) (by decide) (fun h => absurd h (by decide)) (fun _ => ?_)
  refine lv_iconst (v := nI (0)) C.hx C.hb dX3_isCut_7 (by decide) ?_
  exact ret3_z C X (⟨rfl, rfl, rfl, rfl, rfl, rfl, rfl, rfl⟩) (by decide) dX3_isCut_8
def vCut (v : Nat → Int32) (nx tc kk i : Nat) : Nat → Int32 := upd (upd (upd (upd (upd (upd v 17 (nI 1)) 15 (nI kk)) 16 (nI i)) 18 (nI (if tc = 4 then 1 else 0))) 12 (nI (nx + if 2 < tc ∧ kk < 3 then 1 else 0))) 14 (nI 0)
set_option maxHeartbeats 4000000 in
set_option maxRecDepth 100000 in
/-- the reference: a split is cut -/
theorem c3_isCut_y {l : Launch} {E : Gq} {z : Nat → Nat} {v : Nat → Int32} {fk : Nat → Int64} {gl go gi ga : Nat → Nat} {gs : Nat → Int32} {kk i tc nx : Nat} (hv14 : v 14 = nI tc) (hv12 : v 12 = nI nx) (h0 : tc ≠ 0) (htc : tc ≤ 4) (hkk : kk ≤ 3) : M3w l E yX3_isCut cX3_isCut 3 (some .boolean) 0 [.ref (z 0), .int (nI (kk)), .int (nI (i))] z v fk gl go gi ga gs (fun r v' fk' gl' go' gi' ga' gs' => some (.int (nI 1)) = r ∧ vCut v nx tc kk i = v' ∧ fk = fk' ∧ gl = gl' ∧ go = go' ∧ gi = gi' ∧ ga = ga' ∧ gs = gs') := by
  refine mk_w (by decide) (Nat.le_of_ble_eq_true rfl) ?_
  intro p e s m below meth c ls C Wd hl
  have X : X3w E _ z v fk gl go gi ga gs s s.heap [] := Wd
  have hl : lv_has ls 3 [(0, .ref (z 0)), (1, .int (nI (kk))), (2, .int (nI (i)))] := hl
  refine lv_aload_n C.hx C.hb dX3_isCut_0 rfl (lv_at hl 0 rfl) ?_
  refine x3g_14 C X (x := nI (tc)) hv14 dX3_isCut_1 ?_
  refine n_if_ne (tgt := 9) C dX3_isCut_4 (by decide) (by omega) (fun c4 => ?_) (fun c4 => ?_)
  · refine lv_aload_n C.hx C.hb dX3_isCut_9 rfl (lv_at hl 0 rfl) ?_
    refine lv_iconst (v := nI (1)) C.hx C.hb dX3_isCut_10 (by decide) ?_
    refine x3p_17 C X (by decide) (by decide) dX3_isCut_11 (fun H locs X => ?_)
    refine lv_aload_n C.hx C.hb dX3_isCut_14 rfl (lv_at hl 0 rfl) ?_
    refine lv_iload_n C.hx C.hb dX3_isCut_15 rfl (lv_at hl 1 rfl) ?_
    refine x3p_15 C X dX3_isCut_16 (fun H locs X => ?_)
    refine lv_aload_n C.hx C.hb dX3_isCut_19 rfl (lv_at hl 0 rfl) ?_
    refine lv_iload_n C.hx C.hb dX3_isCut_20 rfl (lv_at hl 2 rfl) ?_
    refine x3p_16 C X dX3_isCut_21 (fun H locs X => ?_)
    refine lv_aload_n C.hx C.hb dX3_isCut_24 rfl (lv_at hl 0 rfl) ?_
    refine lv_aload_n C.hx C.hb dX3_isCut_25 rfl (lv_at hl 0 rfl) ?_
    refine x3g_14 C X (x := nI (tc)) hv14 dX3_isCut_26 ?_
    refine lv_iconst (v := nI (4)) C.hx C.hb dX3_isCut_29 (by decide) ?_
    refine n_icmp_ne (tgt := 37) C dX3_isCut_30 (by decide) (by omega) (by omega) (fun c30 => ?_) (fun c30 => ?_)
    · refine lv_iconst (v := nI (0)) C.hx C.hb dX3_isCut_37 (by decide) ?_
      refine x3p_18 C X (by decide) (by decide) dX3_isCut_38 (fun H locs X => ?_)
      refine lv_aload_n C.hx C.hb dX3_isCut_41 rfl (lv_at hl 0 rfl) ?_
      refine lv_dup C.hx C.hb dX3_isCut_42 rfl ?_
      refine x3g_12 C X (x := nI (nx)) hv12 dX3_isCut_43 ?_
      refine lv_aload_n C.hx C.hb dX3_isCut_46 rfl (lv_at hl 0 rfl) ?_
      refine x3g_14 C X (x := nI (tc)) hv14 dX3_isCut_47 ?_
      refine lv_iconst (v := nI (2)) C.hx C.hb dX3_isCut_50 (by decide) ?_
      refine n_icmp_le (tgt := 63) C dX3_isCut_51 (by decide) (by omega) (by omega) (fun c51 => ?_) (fun c51 => ?_)
      · refine lv_iconst (v := nI (0)) C.hx C.hb dX3_isCut_63 (by decide) ?_
        refine n_add C dX3_isCut_64 ?_
        refine x3p_12 C X dX3_isCut_65 (fun H locs X => ?_)
        refine lv_aload_n C.hx C.hb dX3_isCut_68 rfl (lv_at hl 0 rfl) ?_
        refine lv_iconst (v := nI (0)) C.hx C.hb dX3_isCut_69 (by decide) ?_
        refine x3p_14 C X dX3_isCut_70 (fun H locs X => ?_)
        refine lv_iconst (v := nI (1)) C.hx C.hb dX3_isCut_73 (by decide) ?_
        exact ret3_z C X (⟨rfl, by unfold vCut; rw [if_neg (by omega), if_neg (fun h => by omega)], rfl, rfl, rfl, rfl, rfl, rfl⟩) (by decide) dX3_isCut_74
      · refine lv_iload_n C.hx C.hb dX3_isCut_54 rfl (lv_at hl 1 rfl) ?_
        refine lv_iconst (v := nI (3)) C.hx C.hb dX3_isCut_55 (by decide) ?_
        refine n_icmp_ge (tgt := 63) C dX3_isCut_56 (by decide) (by omega) (by omega) (fun c56 => ?_) (fun c56 => ?_)
        · refine lv_iconst (v := nI (0)) C.hx C.hb dX3_isCut_63 (by decide) ?_
          refine n_add C dX3_isCut_64 ?_
          refine x3p_12 C X dX3_isCut_65 (fun H locs X => ?_)
          refine lv_aload_n C.hx C.hb dX3_isCut_68 rfl (lv_at hl 0 rfl) ?_
          refine lv_iconst (v := nI (0)) C.hx C.hb dX3_isCut_69 (by decide) ?_
          refine x3p_14 C X dX3_isCut_70 (fun H locs X => ?_)
          refine lv_iconst (v := nI (1)) C.hx C.hb dX3_isCut_73 (by decide) ?_
          exact ret3_z C X (⟨rfl, by unfold vCut; rw [if_neg (by omega), if_neg (fun h => by omega)], rfl, rfl, rfl, rfl, rfl, rfl⟩) (by decide) dX3_isCut_74
        · refine lv_iconst (v := nI (1)) C.hx C.hb dX3_isCut_59 (by decide) ?_
          refine lv_goto (tgt := 64) C.hx C.hb dX3_isCut_60 (by decide) ?_
          refine n_add C dX3_isCut_64 ?_
          refine x3p_12 C X dX3_isCut_65 (fun H locs X => ?_)
          refine lv_aload_n C.hx C.hb dX3_isCut_68 rfl (lv_at hl 0 rfl) ?_
          refine lv_iconst (v := nI (0)) C.hx C.hb dX3_isCut_69 (by decide) ?_
          refine x3p_14 C X dX3_isCut_70 (fun H locs X => ?_)
          refine lv_iconst (v := nI (1)) C.hx C.hb dX3_isCut_73 (by decide) ?_
          exact ret3_z C X (⟨rfl, by unfold vCut; rw [if_neg (by omega), if_pos ⟨by omega, by omega⟩], rfl, rfl, rfl, rfl, rfl, rfl⟩) (by decide) dX3_isCut_74
    · refine lv_iconst (v := nI (1)) C.hx C.hb dX3_isCut_33 (by decide) ?_
      refine lv_goto (tgt := 38) C.hx C.hb dX3_isCut_34 (by decide) ?_
      refine x3p_18 C X (by decide) (by decide) dX3_isCut_38 (fun H locs X => ?_)
      refine lv_aload_n C.hx C.hb dX3_isCut_41 rfl (lv_at hl 0 rfl) ?_
      refine lv_dup C.hx C.hb dX3_isCut_42 rfl ?_
      refine x3g_12 C X (x := nI (nx)) hv12 dX3_isCut_43 ?_
      refine lv_aload_n C.hx C.hb dX3_isCut_46 rfl (lv_at hl 0 rfl) ?_
      refine x3g_14 C X (x := nI (tc)) hv14 dX3_isCut_47 ?_
      refine lv_iconst (v := nI (2)) C.hx C.hb dX3_isCut_50 (by decide) ?_
      refine n_icmp_le (tgt := 63) C dX3_isCut_51 (by decide) (by omega) (by omega) (fun c51 => ?_) (fun c51 => ?_)
      · refine lv_iconst (v := nI (0)) C.hx C.hb dX3_isCut_63 (by decide) ?_
        refine n_add C dX3_isCut_64 ?_
        refine x3p_12 C X dX3_isCut_65 (fun H locs X => ?_)
        refine lv_aload_n C.hx C.hb dX3_isCut_68 rfl (lv_at hl 0 rfl) ?_
        refine lv_iconst (v := nI (0)) C.hx C.hb dX3_isCut_69 (by decide) ?_
        refine x3p_14 C X dX3_isCut_70 (fun H locs X => ?_)
        refine lv_iconst (v := nI (1)) C.hx C.hb dX3_isCut_73 (by decide) ?_
        exact ret3_z C X (⟨rfl, by unfold vCut; rw [if_pos (by omega), if_neg (fun h => by omega)], rfl, rfl, rfl, rfl, rfl, rfl⟩) (by decide) dX3_isCut_74
      · refine lv_iload_n C.hx C.hb dX3_isCut_54 rfl (lv_at hl 1 rfl) ?_
        refine lv_iconst (v := nI (3)) C.hx C.hb dX3_isCut_55 (by decide) ?_
        refine n_icmp_ge (tgt := 63) C dX3_isCut_56 (by decide) (by omega) (by omega) (fun c56 => ?_) (fun c56 => ?_)
        · refine lv_iconst (v := nI (0)) C.hx C.hb dX3_isCut_63 (by decide) ?_
          refine n_add C dX3_isCut_64 ?_
          refine x3p_12 C X dX3_isCut_65 (fun H locs X => ?_)
          refine lv_aload_n C.hx C.hb dX3_isCut_68 rfl (lv_at hl 0 rfl) ?_
          refine lv_iconst (v := nI (0)) C.hx C.hb dX3_isCut_69 (by decide) ?_
          refine x3p_14 C X dX3_isCut_70 (fun H locs X => ?_)
          refine lv_iconst (v := nI (1)) C.hx C.hb dX3_isCut_73 (by decide) ?_
          exact ret3_z C X (⟨rfl, by unfold vCut; rw [if_pos (by omega), if_neg (fun h => by omega)], rfl, rfl, rfl, rfl, rfl, rfl⟩) (by decide) dX3_isCut_74
        · refine lv_iconst (v := nI (1)) C.hx C.hb dX3_isCut_59 (by decide) ?_
          refine lv_goto (tgt := 64) C.hx C.hb dX3_isCut_60 (by decide) ?_
          refine n_add C dX3_isCut_64 ?_
          refine x3p_12 C X dX3_isCut_65 (fun H locs X => ?_)
          refine lv_aload_n C.hx C.hb dX3_isCut_68 rfl (lv_at hl 0 rfl) ?_
          refine lv_iconst (v := nI (0)) C.hx C.hb dX3_isCut_69 (by decide) ?_
          refine x3p_14 C X dX3_isCut_70 (fun H locs X => ?_)
          refine lv_iconst (v := nI (1)) C.hx C.hb dX3_isCut_73 (by decide) ?_
          exact ret3_z C X (⟨rfl, by unfold vCut; rw [if_pos (by omega), if_pos ⟨by omega, by omega⟩], rfl, rfl, rfl, rfl, rfl, rfl⟩) (by decide) dX3_isCut_74
  · exact absurd c4 h0
end
section
/-! THE CORE: how the lists and the reference's arrays change together -/
theorem sm0_ins {L : List Nat} {t x : Nat} (ht : t ≤ L.length) (q : Nat) : sm (ins L t x) 0 q = if q ≤ t then sm L 0 q else sm L 0 (q - 1) + x := by
  rw [sm0, sm0, sm0]
  unfold ins
  have hl : (L.take t).length = t := by simp; omega
  by_cases h : q ≤ t
  · rw [if_pos h, List.take_append_of_le_length (by omega), List.take_take, Nat.min_eq_left h]
  · rw [if_neg h, List.take_append, hl, List.take_of_length_le (by omega)]
    obtain ⟨d, hd⟩ : ∃ d, q - t = d + 1 := ⟨q - t - 1, by omega⟩
    rw [hd, List.take_succ_cons, List.sum_append, List.sum_cons]
    have e : q - 1 = t + d := by omega
    rw [e, List.take_add, List.sum_append]
    omega
theorem sm0_set {L : List Nat} {i x : Nat} (hi : i < L.length) (q : Nat) : sm (L.set i x) 0 q + (if q ≤ i then 0 else L.getD i 0) = sm L 0 q + (if q ≤ i then 0 else x) := by
  rw [sm0, sm0, List.take_set]
  by_cases h : q ≤ i
  · rw [if_pos h, if_pos h, List.set_eq_of_length_le (by simp; omega)]
  · rw [if_neg h, if_neg h]
    have hl : i < (L.take q).length := by simp; omega
    have := set_sum (x := x) hl
    have e : (L.take q).getD i 0 = L.getD i 0 := by
      simp only [List.getD_eq_getElem?_getD]
      rw [List.getElem?_take_of_lt (by omega)]
    rw [e] at this
    exact this
theorem sm0_del {L : List Nat} {j : Nat} (hj : j < L.length) (q : Nat) : sm (del L j) 0 q + (if q ≤ j then 0 else L.getD j 0) = if q ≤ j then sm L 0 q else sm L 0 (q + 1) := by
  rw [sm0, sm0, sm0]
  unfold del
  have hl : (L.take j).length = j := by simp; omega
  by_cases h : q ≤ j
  · rw [if_pos h, if_pos h, List.take_append_of_le_length (by omega), List.take_take, Nat.min_eq_left h]; rfl
  · rw [if_neg h, if_neg h, List.take_append, hl, List.take_of_length_le (by omega), List.sum_append]
    have h1 := take_s hj
    have e : q + 1 = (j + 1) + (q - j) := by omega
    rw [e, List.take_add, List.sum_append]
    omega
theorem gIx_eq {S : List Nat} {m q : Nat} (hq : q < S.length) (h1 : sm S 0 q ≤ m) (h2 : m < sm S 0 q + S.getD q 0) : gIx S m = q := gIx_at hq h1 (by rw [take_s hq]; exact h2)
theorem sm0_mono (S : List Nat) {a b : Nat} (h : a ≤ b) : sm S 0 a ≤ sm S 0 b := sm_mono S h
theorem gI_cmp {S : List Nat} {m i : Nat} (hm : m < S.sum) : gIx S m < i ↔ m < sm S 0 i := by
  have h1 := gIx_spec hm
  have h2 := gIx_lt hm
  have h3 := sm0_s h2
  constructor
  · intro h
    have := sm0_mono S (show gIx S m + 1 ≤ i by omega)
    omega
  · intro h
    rcases Nat.lt_or_ge (gIx S m) i with q | q
    · exact q
    · have := sm0_mono S q; omega
theorem getD_set {P : List Nat} {a b x : Nat} (h : a < P.length) : (P.set a x).getD b 0 = if b = a then x else P.getD b 0 := by
  by_cases e : b = a
  · rw [if_pos e, e]; exact getD_set_self h
  · rw [if_neg e]; exact getD_set_ne (Ne.symm e)
theorem gI_key {S : List Nat} {m : Nat} (hm : m < S.sum) {i : Nat} (hi : i < S.length) : gIx S m < S.length ∧ sm S 0 (gIx S m) ≤ m ∧ m < sm S 0 (gIx S m) + S.getD (gIx S m) 0 ∧ (gIx S m < i → sm S 0 (gIx S m) + S.getD (gIx S m) 0 ≤ sm S 0 i) ∧ (gIx S m = i → sm S 0 (gIx S m) = sm S 0 i ∧ S.getD (gIx S m) 0 = S.getD i 0) ∧ (i < gIx S m → sm S 0 i + S.getD i 0 ≤ sm S 0 (gIx S m)) := by
  have a1 := gIx_spec hm
  have a2 := gIx_lt hm
  have a3 := sm0_s a2
  have a4 := sm0_s hi
  refine ⟨a2, a1.1, a1.2, fun h => ?_, fun h => by rw [h]; exact ⟨rfl, rfl⟩, fun h => ?_⟩
  · have := sm0_mono S (show gIx S m + 1 ≤ i by omega); omega
  · have := sm0_mono S (show i + 1 ≤ gIx S m by omega); omega
/-- a member comes into group i at place t -/
theorem gIx_grow {S : List Nat} {i t : Nat} (hi : i < S.length) (h1 : sm S 0 i ≤ t) (h2 : t ≤ sm S 0 i + S.getD i 0) {j : Nat} (hj : j < S.sum + 1) : gIx (S.set i (S.getD i 0 + 1)) j = if j < t then gIx S j else if j = t then i else gIx S (j - 1) := by
  have hl : (S.set i (S.getD i 0 + 1)).length = S.length := List.length_set ..
  by_cases c1 : j < t
  · rw [if_pos c1]
    have hjs : j < S.sum := by have := sm0_get S i; omega
    obtain ⟨a2, k0, k0', k1, k2, k3⟩ := gI_key hjs hi
    have s1 := sm0_set (x := S.getD i 0 + 1) hi (gIx S j)
    refine gIx_eq (by omega) ?_ ?_
    · split at s1 <;> omega
    · rw [getD_set hi]
      split at s1 <;> split <;> omega
  · rw [if_neg c1]
    by_cases c2 : j = t
    · rw [if_pos c2]
      have s1 := sm0_set (x := S.getD i 0 + 1) hi i
      rw [if_pos (Nat.le_refl _), if_pos (Nat.le_refl _)] at s1
      refine gIx_eq (by omega) (by omega) ?_
      rw [getD_set hi, if_pos rfl]
      omega
    · rw [if_neg c2]
      have hjs : j - 1 < S.sum := by omega
      obtain ⟨a2, k0, k0', k1, k2, k3⟩ := gI_key hjs hi
      have s1 := sm0_set (x := S.getD i 0 + 1) hi (gIx S (j - 1))
      refine gIx_eq (by omega) ?_ ?_
      · split at s1 <;> omega
      · rw [getD_set hi]
        split at s1 <;> split <;> omega
/-- group i falls in two: k of it, and the rest -/
theorem gIx_split {S : List Nat} {i k : Nat} (hi : i < S.length) (hk : k ≤ S.getD i 0) {j : Nat} (hj : j < S.sum) : gIx (ins (S.set i (S.getD i 0 - (S.getD i 0 - k))) (i + 1) (S.getD i 0 - k)) j = if gIx S j < i then gIx S j else if gIx S j = i then (if j < sm S 0 i + k then i else i + 1) else gIx S j + 1 := by
  have hl : (S.set i (S.getD i 0 - (S.getD i 0 - k))).length = S.length := List.length_set ..
  have hl2 := ins_len (L := S.set i (S.getD i 0 - (S.getD i 0 - k))) (j := i + 1) (x := S.getD i 0 - k) (by omega)
  obtain ⟨a2, k0, k0', k1, k2, k3⟩ := gI_key hj hi
  have P1 := fun q => sm0_ins (L := S.set i (S.getD i 0 - (S.getD i 0 - k))) (t := i + 1) (x := S.getD i 0 - k) (by omega) q
  have P2 := fun q => sm0_set (x := S.getD i 0 - (S.getD i 0 - k)) hi q
  have P3 := fun q => ins_get (L := S.set i (S.getD i 0 - (S.getD i 0 - k))) (j := i + 1) (x := S.getD i 0 - k) (d := 0) (by omega) q
  have s4 := sm0_s hi
  split
  · have p1 := P1 (gIx S j); have p2 := P2 (gIx S j)
    rw [if_pos (by omega)] at p1; rw [if_pos (by omega), if_pos (by omega)] at p2
    refine gIx_eq (by omega) (by omega) ?_
    rw [P3, if_pos (by omega), getD_set hi, if_neg (by omega)]
    omega
  · split
    · split
      · have p1 := P1 i; have p2 := P2 i
        rw [if_pos (by omega)] at p1; rw [if_pos (by omega), if_pos (by omega)] at p2
        refine gIx_eq (by omega) (by omega) ?_
        rw [P3, if_pos (by omega), getD_set hi, if_pos rfl]
        omega
      · have p1 := P1 (i + 1); have p2 := P2 (i + 1)
        rw [if_pos (by omega)] at p1; rw [if_neg (by omega), if_neg (by omega)] at p2
        refine gIx_eq (by omega) (by omega) ?_
        rw [P3, if_neg (by omega), if_pos rfl]
        omega
    · have p1 := P1 (gIx S j + 1); have p2 := P2 (gIx S j)
      rw [if_neg (by omega), Nat.add_sub_cancel] at p1; rw [if_neg (by omega), if_neg (by omega)] at p2
      refine gIx_eq (by omega) (by omega) ?_
      rw [P3, if_neg (by omega), if_neg (by omega), Nat.add_sub_cancel, getD_set hi, if_neg (by omega)]
      omega
/-- a group of one comes at place o -/
theorem gIx_new {S : List Nat} {o : Nat} (ho : o ≤ S.length) {j : Nat} (hj : j < S.sum + 1) : gIx (ins S o 1) j = if j < sm S 0 o then gIx S j else if j = sm S 0 o then o else gIx S (j - 1) + 1 := by
  have hl := ins_len (L := S) (j := o) (x := 1) ho
  have P1 := fun q => sm0_ins (L := S) (t := o) (x := 1) ho q
  have P3 := fun q => ins_get (L := S) (j := o) (x := 1) (d := 0) ho q
  by_cases c1 : j < sm S 0 o
  · rw [if_pos c1]
    have hjs : j < S.sum := by have := sm_le S 0 o; omega
    have c := (gI_cmp (i := o) hjs).mpr c1
    have a1 := gIx_spec hjs
    have p1 := P1 (gIx S j)
    rw [if_pos (by omega)] at p1
    refine gIx_eq (by omega) (by omega) ?_
    rw [P3, if_pos c]
    omega
  · rw [if_neg c1]
    by_cases c2 : j = sm S 0 o
    · rw [if_pos c2]
      have p1 := P1 o
      rw [if_pos (Nat.le_refl _)] at p1
      refine gIx_eq (by omega) (by omega) ?_
      rw [P3, if_neg (Nat.lt_irrefl _), if_pos rfl]
      omega
    · rw [if_neg c2]
      have hjs : j - 1 < S.sum := by omega
      have c : ¬ gIx S (j - 1) < o := fun h => by have := (gI_cmp (i := o) hjs).mp h; omega
      have a1 := gIx_spec hjs
      have a2 := gIx_lt hjs
      have p1 := P1 (gIx S (j - 1) + 1)
      rw [if_neg (by omega), Nat.add_sub_cancel] at p1
      refine gIx_eq (by omega) (by omega) ?_
      rw [P3, if_neg (by omega), if_neg (by omega), Nat.add_sub_cancel]
      omega
/-- a member goes from group i, at place t -/
theorem gIx_less {S : List Nat} {i t : Nat} (hi : i < S.length) (h1 : sm S 0 i ≤ t) (h2 : t < sm S 0 i + S.getD i 0) {j : Nat} (hj : j + 1 < S.sum) : gIx (S.set i (S.getD i 0 - 1)) j = if j < t then gIx S j else gIx S (j + 1) := by
  have hl : (S.set i (S.getD i 0 - 1)).length = S.length := List.length_set ..
  by_cases c1 : j < t
  · rw [if_pos c1]
    obtain ⟨a2, k0, k0', k1, k2, k3⟩ := gI_key (show j < S.sum by omega) hi
    have s1 := sm0_set (x := S.getD i 0 - 1) hi (gIx S j)
    refine gIx_eq (by omega) ?_ ?_
    · split at s1 <;> omega
    · rw [getD_set hi]
      split at s1 <;> split <;> omega
  · rw [if_neg c1]
    obtain ⟨a2, k0, k0', k1, k2, k3⟩ := gI_key hj hi
    have s1 := sm0_set (x := S.getD i 0 - 1) hi (gIx S (j + 1))
    refine gIx_eq (by omega) ?_ ?_
    · split at s1 <;> omega
    · rw [getD_set hi]
      split at s1 <;> split <;> omega
/-- an empty group goes -/
theorem gIx_gone {S : List Nat} {o : Nat} (ho : o < S.length) (h0 : S.getD o 0 = 0) {j : Nat} (hj : j < S.sum) : gIx (del S o) j = if gIx S j < o then gIx S j else gIx S j - 1 := by
  have hl := del_len (L := S) ho
  obtain ⟨a2, k0, k0', k1, k2, k3⟩ := gI_key hj ho
  have ne : gIx S j ≠ o := fun h => by have := k2 h; omega
  split
  · have p1 := sm0_del ho (gIx S j)
    rw [if_pos (by omega), if_pos (by omega)] at p1
    refine gIx_eq (by omega) (by omega) ?_
    rw [del_get ho, if_pos (by omega)]
    omega
  · have p1 := sm0_del ho (gIx S j - 1)
    have e : gIx S j - 1 + 1 = gIx S j := by omega
    have hq : sm (del S o) 0 (gIx S j - 1) = sm S 0 (gIx S j) := by
      by_cases z : gIx S j - 1 ≤ o
      · have e2 : gIx S j - 1 = o := by omega
        rw [if_pos z, if_pos z, e2] at p1
        have s4 := sm0_s ho
        have e3 : gIx S j = o + 1 := by omega
        rw [e2, e3]; omega
      · rw [if_neg z, if_neg z, e] at p1; omega
    refine gIx_eq (by omega) (by omega) ?_
    rw [del_get ho, if_neg (by omega), e]
    omega
end
section
/-- the class's lists and the reference's arrays together -/
def Core (rm wd nx ac : Nat) (K : List Int64) (L N S P A : List Nat) (fk : Nat → Int64) (gl go gi ga : Nat → Nat) : Prop :=
  Rel3 K L N S P A fk gl go gi ga ∧ J2 K L N S P ∧ srt K ∧ (∀ x ∈ P, x ≤ wd) ∧ (∀ x ∈ L, 1 ≤ x ∧ x ≤ rm) ∧ (∀ i, i < S.length → lin L S i ≤ rm) ∧ (∀ x ∈ N, x < nx) ∧ (∀ x ∈ A, x ≤ ac) ∧ (∀ k, gl k < 2 ^ 31) ∧ (∀ k, go k < 2 ^ 31) ∧ (∀ k, gi k < 2 ^ 31) ∧ (∀ k, ga k < 2 ^ 31)
theorem lin_pr (L S : List Nat) (i : Nat) : lin L S i + sm L 0 (sm S 0 i) = sm L 0 (sm S 0 i + S.getD i 0) := by
  have h := sm_take L (sm S 0 i) (sm S 0 i + S.getD i 0)
  rw [Nat.min_eq_left (by omega)] at h
  exact h
theorem sum_le_mul {L : List Nat} {c : Nat} (h : ∀ x ∈ L, x ≤ c) : L.sum ≤ c * L.length := by
  induction L with
  | nil => exact Nat.zero_le _
  | cons x l ih =>
    have h1 := h x List.mem_cons_self
    have h2 := ih (fun y hy => h y (List.mem_cons_of_mem _ hy))
    simp only [List.sum_cons, List.length_cons, Nat.mul_add, Nat.mul_one]
    omega
theorem lsum_b {L : List Nat} {rm : Nat} (h : ∀ x ∈ L, 1 ≤ x ∧ x ≤ rm) (hrm : rm ≤ 1000) (hl : L.length ≤ 600) : L.sum ≤ 2 ^ 20 := by
  have h1 := sum_le_mul (c := 1000) (fun x hx => by have := h x hx; omega)
  omega
theorem arr_insL {fk : Nat → Int64} {K : List Int64} {t : Nat} {key : Int64} (h : ∀ j, j < K.length → fk j = K.getD j 0) (ht : t ≤ K.length) : ∀ j, j < (ins K t key).length → vp_updL (shf fk t K.length) t key j = (ins K t key).getD j 0 := by
  intro j hj
  rw [ins_len ht] at hj
  rw [ins_get ht]
  by_cases e : j = t
  · subst e; rw [pk_uLs, if_neg (Nat.lt_irrefl _), if_pos rfl]
  · rw [pk_uLn e]
    by_cases q : j < t
    · rw [if_pos q, shf_lo (by omega), h j (by omega)]
    · rw [if_neg q, if_neg e]
      unfold shf
      rw [if_pos ⟨by omega, by omega⟩, h _ (by omega)]
theorem arr_insN {g : Nat → Nat} {L : List Nat} {n t x : Nat} (hn : n = L.length) (h : ∀ j, j < n → g j = L.getD j 0) (ht : t ≤ n) : ∀ j, j < n + 1 → va_up (shf g t n) t x j = (ins L t x).getD j 0 := by
  intro j hj
  rw [ins_get (by omega)]
  by_cases e : j = t
  · subst e; rw [if_neg (Nat.lt_irrefl _), if_pos rfl]; unfold va_up; rw [if_pos rfl]
  · unfold va_up
    rw [if_neg e]
    by_cases q : j < t
    · rw [if_pos q, shf_lo (by omega), h j (by omega)]
    · rw [if_neg q, if_neg e]
      unfold shf
      rw [if_pos ⟨by omega, by omega⟩, h _ (by omega)]
theorem vup_b {g : Nat → Nat} {t n x : Nat} (h : ∀ k, g k < 2 ^ 31) (hx : x < 2 ^ 31) : ∀ k, va_up (shf g t n) t x k < 2 ^ 31 := by
  intro k
  unfold va_up shf
  split
  · exact hx
  · split
    · exact h _
    · exact h _
theorem srt_ins {K : List Int64} {key : Int64} (hs : srt K) (hh : ¬ hask K key) : srt (ins K (ngt K key) key) := by
  have ht := ngt_le K key
  have hT := lsT_n hs hh
  intro i j hij hj
  rw [ins_len ht] at hj
  rw [ins_get ht, ins_get ht]
  by_cases c1 : j < ngt K key
  · rw [if_pos c1, if_pos (by omega)]; exact hs i j hij (by omega)
  · rw [if_neg c1]
    by_cases c2 : j = ngt K key
    · rw [if_pos c2, if_pos (by omega)]
      exact (hT.2 i (by omega)).mpr (by omega)
    · rw [if_neg c2]
      by_cases c3 : i < ngt K key
      · rw [if_pos c3]; exact hs i (j - 1) (by omega) (by omega)
      · rw [if_neg c3]
        by_cases c4 : i = ngt K key
        · rw [if_pos c4]
          refine Int64.not_le.mp (fun h => ?_)
          have := (ngt_iff hs (show j - 1 < K.length by omega)).mp h
          omega
        · rw [if_neg c4]; exact hs (i - 1) (j - 1) (by omega) (by omega)
theorem nodup_ins {N : List Nat} {j x : Nat} (h : N.Nodup) (hx : x ∉ N) : (ins N j x).Nodup := by
  unfold ins
  have h1 : (N.take j ++ N.drop j).Nodup := by rw [List.take_append_drop]; exact h
  rw [List.nodup_append] at h1 ⊢
  refine ⟨h1.1, ?_, ?_⟩
  · rw [List.nodup_cons]; exact ⟨fun z => hx (List.mem_of_mem_drop z), h1.2.1⟩
  · intro a ha b hb e
    subst e
    rcases List.mem_cons.mp hb with z | z
    · subst z; exact hx (List.mem_of_mem_take ha)
    · exact h1.2.2 a ha a z rfl
/-- a record comes into interval i, at place t -/
theorem Core.ins1 {rm wd nx ac : Nat} {K : List Int64} {L N S P A : List Nat} {fk : Nat → Int64} {gl go gi ga : Nat → Nat} (h : Core rm wd nx ac K L N S P A fk gl go gi ga) (hk : K.length < 600) (hrm : rm ≤ 1000) {key : Int64} {i t len : Nat} (hi : i < S.length) (ht1 : sm S 0 i ≤ t) (ht2 : t ≤ sm S 0 i + S.getD i 0) (hs : srt (ins K t key)) (hl1 : 1 ≤ len) (hroom : lin L S i + len ≤ rm) :
    Core rm wd nx ac (ins K t key) (ins L t len) N (S.set i (S.getD i 0 + 1)) P A (vp_updL (shf fk t K.length) t key) (va_up (shf gl t K.length) t len) (va_up (shf go t K.length) t (gi i)) gi ga := by
  obtain ⟨⟨r1, r2, r3, r4, r5, r6, r7, r8⟩, ⟨j1, j2, j3, j4, j5, j6, j7, j8⟩, c1, c2, c3, c4, c5, c6, b1, b2, b3, b4⟩ := h
  have hg := sm0_get S i
  have eK := ins_len (L := K) (j := t) (x := key) (by omega)
  have eL := ins_len (L := L) (j := t) (x := len) (by omega)
  have eS : (S.set i (S.getD i 0 + 1)).length = S.length := List.length_set ..
  have eSs := set_sum (x := S.getD i 0 + 1) hi
  have hL : ∀ x ∈ ins L t len, 1 ≤ x ∧ x ≤ rm := fun x hx => by
    rcases mem_ins hx with z | z
    · subst z; exact ⟨hl1, by omega⟩
    · exact c3 x z
  refine ⟨⟨arr_insL r1 (by omega), ?_, ?_, ?_, ?_, r6, r7, r8⟩, ⟨by omega, by omega, by omega, by omega, by omega, j6, ?_, lsum_b hL hrm (by omega)⟩, hs, c2, hL, ?_, c5, c6, vup_b b1 (by omega), vup_b b2 (b3 i), b3, b4⟩
  · intro j hj
    exact arr_insN (n := K.length) (by omega) (fun j hj => r2 j hj) (by omega) j (by omega)
  · intro j hj
    rw [gIx_grow hi ht1 ht2 (by omega)]
    unfold va_up
    by_cases q : j = t
    · rw [if_pos q, if_neg (by omega), if_pos q, r4 i hi]
    · rw [if_neg q]
      by_cases q2 : j < t
      · rw [if_pos q2, shf_lo (by omega), r3 j (by omega)]
      · rw [if_neg q2, if_neg q]
        unfold shf
        rw [if_pos ⟨by omega, by omega⟩, r3 _ (by omega)]
  · intro q hq; exact r4 q (by omega)
  · intro q hq; exact r5 q (by omega)
  · rcases j7 with z | z
    · left; omega
    · right
      intro x hx
      rcases List.mem_or_eq_of_mem_set hx with y | y
      · exact z x y
      · omega
  · intro q hq
    have l0 := lin_pr L S q
    have l1 := lin_pr (ins L t len) (S.set i (S.getD i 0 + 1)) q
    have s1 := sm0_set (x := S.getD i 0 + 1) hi q
    have hc := c4 q (by omega)
    have F := fun x => sm0_ins (L := L) (t := t) (x := len) (by omega) x
    rw [getD_set hi] at l1
    rcases Nat.lt_trichotomy q i with z | z | z
    · rw [if_pos (by omega), if_pos (by omega)] at s1
      have m := sm0_mono S (show q + 1 ≤ i by omega)
      have s4 := sm0_s (show q < S.length by omega)
      rw [if_neg (by omega), F, F, if_pos (by omega), if_pos (by omega), show sm (S.set i (S.getD i 0 + 1)) 0 q = sm S 0 q by omega] at l1
      omega
    · subst z
      rw [if_pos (by omega), if_pos (by omega)] at s1
      rw [if_pos rfl, F, F, if_pos (by omega), if_neg (by omega), show sm (S.set q (S.getD q 0 + 1)) 0 q = sm S 0 q by omega, show sm S 0 q + (S.getD q 0 + 1) - 1 = sm S 0 q + S.getD q 0 by omega] at l1
      omega
    · rw [if_neg (by omega), if_neg (by omega)] at s1
      have m := sm0_mono S (show i + 1 ≤ q by omega)
      have s4 := sm0_s hi
      rw [if_neg (by omega), F, F, if_neg (by omega), if_neg (by omega), show sm (S.set i (S.getD i 0 + 1)) 0 q = sm S 0 q + 1 by omega, show sm S 0 q + 1 - 1 = sm S 0 q by omega, show sm S 0 q + 1 + S.getD q 0 - 1 = sm S 0 q + S.getD q 0 by omega] at l1
      omega
end
section
theorem rpl_no {f : Nat → Nat} {a k x y j : Nat} (h : ¬ (a ≤ j ∧ j < k ∧ f j = x)) : rpl f a k x y j = f j := by unfold rpl; rw [if_neg h]
theorem rpl_yes {f : Nat → Nat} {a k x y j : Nat} (h : a ≤ j ∧ j < k ∧ f j = x) : rpl f a k x y j = y := by unfold rpl; rw [if_pos h]
theorem saf_no {f : Nat → Nat} {a b k x j : Nat} (h : ¬ (a ≤ j ∧ j < b ∧ j < k)) : saf f a b k x j = f j := by unfold saf; rw [if_neg h]
theorem saf_yes {f : Nat → Nat} {a b k x j : Nat} (h : a ≤ j ∧ j < b ∧ j < k) : saf f a b k x j = x := by unfold saf; rw [if_pos h]
theorem gIx_own {P : List Nat} {i : Nat} (hP : i < P.sum) : sm P 0 (gIx P i) ≤ i ∧ i < sm P 0 (gIx P i) + P.getD (gIx P i) 0 := gIx_spec hP
/-- the areas' rows, when an interval comes at place o beside interval i -/
theorem ga_grow {P A : List Nat} {ga : Nat → Nat} {i o m : Nat} (hm : P.sum = m) (hi : i < m) (ho : o = i ∨ o = i + 1) (r5 : ∀ q, q < m → ga q = A.getD (gIx P q) 0) : ∀ q, q < m + 1 → va_up (shf ga o m) o (ga i) q = A.getD (gIx (P.set (gIx P i) (P.getD (gIx P i) 0 + 1)) q) 0 := by
  intro q hq
  have hg := gIx_lt (L := P) (m := i) (by omega)
  have h1 := gIx_own (P := P) (i := i) (by omega)
  rw [gIx_grow hg (t := o) (by omega) (by omega) (by omega)]
  unfold va_up
  by_cases e : q = o
  · rw [if_pos e, if_neg (by omega), if_pos e, r5 i hi]
  · rw [if_neg e]
    by_cases z : q < o
    · rw [if_pos z, shf_lo (by omega), r5 q (by omega)]
    · rw [if_neg z, if_neg e]
      unfold shf
      rw [if_pos ⟨by omega, by omega⟩, r5 _ (by omega)]
/-- an interval splits -/
theorem Core.halve {rm wd nx ac nx2 : Nat} {K : List Int64} {L N S P A : List Nat} {fk : Nat → Int64} {gl go gi ga : Nat → Nat} (h : Core rm wd nx ac K L N S P A fk gl go gi ga) (hk : K.length ≤ 600) {i num k : Nat} (hi : i < S.length) (hk1 : 1 ≤ k) (hk2 : k + 1 ≤ S.getD i 0) (hw : P.getD (gIx P i) 0 < wd) (hN : ∀ x ∈ N, x < num) (hnum : num < nx2) (hnum2 : num < 2 ^ 31) :
    Core rm wd nx2 ac K L (ins N (i + 1) num) (ins (S.set i (S.getD i 0 - (S.getD i 0 - k))) (i + 1) (S.getD i 0 - k)) (P.set (gIx P i) (P.getD (gIx P i) 0 + 1)) A fk gl (rpl go (sm S 0 i + k) K.length (gi i) num) (va_up (shf gi (i + 1) S.length) (i + 1) num) (va_up (shf ga (i + 1) S.length) (i + 1) (ga i)) := by
  obtain ⟨hR, hJ, c1, c2, c3, c4, c5, c6, b1, b2, b3, b4⟩ := h
  have hgl := gIx_lt (L := P) (m := i) (by have := hJ.2.2.2.1; omega)
  have hJ' := hJ.halve (num := num) hi hgl hk1 hk2
  have hof := fun {j : Nat} (hj : j < K.length) => hR.of hJ hi hj
  obtain ⟨r1, r2, r3, r4, r5, r6, r7, r8⟩ := hR
  obtain ⟨j1, j2, j3, j4, j5, j6, j7, j8⟩ := hJ
  have eS : (S.set i (S.getD i 0 - (S.getD i 0 - k))).length = S.length := List.length_set ..
  have eS2 := ins_len (L := S.set i (S.getD i 0 - (S.getD i 0 - k))) (j := i + 1) (x := S.getD i 0 - k) (by omega)
  have hg := sm0_get S i
  refine ⟨⟨r1, r2, ?_, ?_, ?_, nodup_ins r6 (fun z => by have := hN _ z; omega), r7, by rw [List.length_set]; exact r8⟩, hJ', c1, ?_, c3, ?_, ?_, c6, b1, rpl_b b2 hnum2, vup_b b3 hnum2, vup_b b4 (b4 i)⟩
  · intro j hj
    have hi2 := hof hj
    have hgi : gIx S j = i ↔ (sm S 0 i ≤ j ∧ j < sm S 0 i + S.getD i 0) := gIx_iff (by omega) hi
    have hgl2 := gIx_lt (L := S) (m := j) (by omega)
    have G := fun q => ins_get (L := N) (j := i + 1) (x := num) (d := 0) (by omega) q
    rw [gIx_split hi (by omega) (by omega)]
    by_cases z1 : gIx S j < i
    · rw [if_pos z1, G, if_pos (by omega), rpl_no (fun q => by have := (hi2.mp q.2.2); have := hgi.mpr this; omega), r3 j hj]
    · rw [if_neg z1]
      by_cases z2 : gIx S j = i
      · rw [if_pos z2]
        have z3 := hgi.mp z2
        by_cases z4 : j < sm S 0 i + k
        · rw [if_pos z4, G, if_pos (by omega), rpl_no (fun q => by omega), r3 j hj, z2]
        · rw [if_neg z4, G, if_neg (by omega), if_pos rfl, rpl_yes ⟨by omega, hj, hi2.mpr z3⟩]
      · rw [if_neg z2, G, if_neg (by omega), if_neg (by omega), Nat.add_sub_cancel, rpl_no (fun q => z2 (hgi.mpr (hi2.mp q.2.2))), r3 j hj]
  · intro q hq
    exact arr_insN (n := S.length) (by omega) (fun q hq => r4 q hq) (by omega) q (by omega)
  · intro q hq
    exact ga_grow (m := S.length) (by omega) hi (Or.inr rfl) r5 q (by omega)
  · intro x hx
    rcases List.mem_or_eq_of_mem_set hx with y | y
    · exact c2 x y
    · omega
  · intro q hq
    have P1 := fun q => sm0_ins (L := S.set i (S.getD i 0 - (S.getD i 0 - k))) (t := i + 1) (x := S.getD i 0 - k) (by omega) q
    have P2 := fun q => sm0_set (x := S.getD i 0 - (S.getD i 0 - k)) hi q
    have l1 := lin_pr L (ins (S.set i (S.getD i 0 - (S.getD i 0 - k))) (i + 1) (S.getD i 0 - k)) q
    rw [ins_get (by omega), P1] at l1
    have s4 := sm0_s hi
    rcases Nat.lt_trichotomy q i with z | z | z
    · have p2 := P2 q
      rw [if_pos (by omega), if_pos (by omega)] at p2
      rw [if_pos (by omega), if_pos (by omega), getD_set hi, if_neg (by omega), show sm (S.set i (S.getD i 0 - (S.getD i 0 - k))) 0 q = sm S 0 q by omega] at l1
      have l0 := lin_pr L S q
      have := c4 q (by omega)
      omega
    · subst z
      have p2 := P2 q
      rw [if_pos (by omega), if_pos (by omega)] at p2
      rw [if_pos (by omega), if_pos (by omega), getD_set hi, if_pos rfl, show sm (S.set q (S.getD q 0 - (S.getD q 0 - k))) 0 q = sm S 0 q by omega] at l1
      have l0 := lin_pr L S q
      have := c4 q (by omega)
      have := sm0_mono L (show sm S 0 q + (S.getD q 0 - (S.getD q 0 - k)) ≤ sm S 0 q + S.getD q 0 by omega)
      omega
    · by_cases z2 : q = i + 1
      · subst z2
        have p2 := P2 (i + 1)
        rw [if_neg (by omega), if_neg (by omega)] at p2
        rw [if_pos (by omega), if_neg (by omega), if_pos rfl, show sm (S.set i (S.getD i 0 - (S.getD i 0 - k))) 0 (i + 1) = sm S 0 i + k by omega, show sm S 0 i + k + (S.getD i 0 - k) = sm S 0 i + S.getD i 0 by omega] at l1
        have l0 := lin_pr L S i
        have := c4 i hi
        have := sm0_mono L (show sm S 0 i ≤ sm S 0 i + k by omega)
        omega
      · have p2 := P2 (q - 1)
        rw [if_neg (by omega), if_neg (by omega)] at p2
        rw [if_neg (by omega), if_neg (by omega), if_neg z2, getD_set hi, if_neg (by omega), show sm (S.set i (S.getD i 0 - (S.getD i 0 - k))) 0 (q - 1) + (S.getD i 0 - k) = sm S 0 (q - 1) by omega] at l1
        have l0 := lin_pr L S (q - 1)
        have := c4 (q - 1) (by omega)
        omega
  · intro x hx
    rcases mem_ins hx with z | z
    · omega
    · have := hN x z; omega
/-- an area splits -/
theorem Core.area {rm wd nx ac : Nat} {K : List Int64} {L N S P A : List Nat} {fk : Nat → Int64} {gl go gi ga : Nat → Nat} (h : Core rm wd nx ac K L N S P A fk gl go gi ga) {i w : Nat} (hi : i < S.length) (hw1 : 1 ≤ w) (hw2 : w + 1 ≤ P.getD (gIx P i) 0) (hac : ac + 1 < 2 ^ 31) :
    Core rm wd nx (ac + 1) K L N S (ins (P.set (gIx P i) (P.getD (gIx P i) 0 - w)) (gIx P i + 1) w) (ins A (gIx P i + 1) (ac + 1)) fk gl go gi (saf ga (sm P 0 (gIx P i) + (P.getD (gIx P i) 0 - w)) (sm P 0 (gIx P i) + P.getD (gIx P i) 0) S.length (ac + 1)) := by
  obtain ⟨hR, hJ, c1, c2, c3, c4, c5, c6, b1, b2, b3, b4⟩ := h
  have hgl := gIx_lt (L := P) (m := i) (by have := hJ.2.2.2.1; omega)
  have hJ' := hJ.area hgl hw1 hw2
  obtain ⟨r1, r2, r3, r4, r5, r6, r7, r8⟩ := hR
  obtain ⟨j1, j2, j3, j4, j5, j6, j7, j8⟩ := hJ
  generalize hgd : gIx P i = g at *
  have eP : (P.set g (P.getD g 0 - w)).length = P.length := List.length_set ..
  have eA := ins_len (L := A) (j := g + 1) (x := ac + 1) (by omega)
  have eP2 := ins_len (L := P.set g (P.getD g 0 - w)) (j := g + 1) (x := w) (by omega)
  refine ⟨⟨r1, r2, r3, r4, ?_, r6, nodup_ins r7 (fun z => by have := c6 _ z; omega), by omega⟩, hJ', c1, ?_, c3, c4, c5, ?_, b1, b2, b3, saf_b b4 hac⟩
  · intro q hq
    have e : ins (P.set g (P.getD g 0 - w)) (g + 1) w = ins (P.set g (P.getD g 0 - (P.getD g 0 - (P.getD g 0 - w)))) (g + 1) (P.getD g 0 - (P.getD g 0 - w)) := by
      rw [show P.getD g 0 - (P.getD g 0 - w) = w by omega]
    have hgq : gIx P q = g ↔ (sm P 0 g ≤ q ∧ q < sm P 0 g + P.getD g 0) := gIx_iff (by omega) hgl
    have hgl2 := gIx_lt (L := P) (m := q) (by omega)
    have G := fun q => ins_get (L := A) (j := g + 1) (x := ac + 1) (d := 0) (by omega) q
    rw [e, gIx_split hgl (by omega) (by omega)]
    by_cases z1 : gIx P q < g
    · rw [if_pos z1, G, if_pos (by omega), saf_no (fun z => by have := hgq.mpr ⟨by omega, z.2.1⟩; omega), r5 q hq]
    · rw [if_neg z1]
      by_cases z2 : gIx P q = g
      · rw [if_pos z2]
        have z3 := hgq.mp z2
        by_cases z4 : q < sm P 0 g + (P.getD g 0 - w)
        · rw [if_pos z4, G, if_pos (by omega), saf_no (fun z => by omega), r5 q hq, z2]
        · rw [if_neg z4, G, if_neg (by omega), if_pos rfl, saf_yes ⟨by omega, by omega, hq⟩]
      · rw [if_neg z2, G, if_neg (by omega), if_neg (by omega), Nat.add_sub_cancel, saf_no (fun z => z2 (hgq.mpr ⟨by omega, z.2.1⟩)), r5 q hq]
  · intro x hx
    rcases mem_ins hx with z | z
    · have := c2 _ (getD_mem hgl); omega
    · rcases List.mem_or_eq_of_mem_set z with y | y
      · exact c2 x y
      · have := c2 _ (getD_mem hgl); omega
  · intro x hx
    rcases mem_ins hx with z | z
    · omega
    · have := c6 x z; omega
end
section
theorem own_S {S : List Nat} {o : Nat} (ho : o ≤ S.length) : (ins S o 0).set o ((ins S o 0).getD o 0 + 1) = ins S o 1 := by
  rw [ins_get ho, if_neg (Nat.lt_irrefl _), if_pos rfl]
  unfold ins
  have hl : (S.take o).length = o := by simp; omega
  rw [List.set_append_right _ _ (by omega), hl, Nat.sub_self]
  rfl
/-- where a key belongs, and where its record comes -/
theorem pIx_b {K : List Int64} {L N S P : List Nat} (hJ : J2 K L N S P) (key : Int64) : pIx K S key < S.length ∧ sm S 0 (pIx K S key) ≤ ngt K key ∧ ngt K key ≤ sm S 0 (pIx K S key) + S.getD (pIx K S key) 0 := by
  obtain ⟨j1, j2, j3, j4, j5, j6, j7, j8⟩ := hJ
  have hl := ngt_le K key
  have h0 : pIx K S key < S.length := gOf_lt j5
  refine ⟨h0, ?_⟩
  unfold pIx at *
  by_cases c : ngt K key - 1 < S.sum
  · rw [gOf_gIx c]
    have := gIx_spec c
    omega
  · have e : gOf S (ngt K key - 1) = 0 := by unfold gOf; rw [if_neg c]
    rw [e]
    have e2 : sm S 0 0 = 0 := rfl
    omega
theorem pIx_blT {K : List Int64} {L N S P : List Nat} (hJ : J2 K L N S P) (hs : srt K) (key : Int64) : blT K S key (pIx K S key) := by
  have hb := pIx_b hJ key
  obtain ⟨j1, j2, j3, j4, j5, j6, j7, j8⟩ := hJ
  have hl := ngt_le K key
  refine ⟨hb.1, fun i hi1 hi2 => ?_⟩
  have hS : ∀ q, q < S.length → 1 ≤ S.getD q 0 := by
    rcases j7 with z | z
    · intro q hq; omega
    · exact fun q hq => z _ (getD_mem hq)
  have g1 := sm0_get S i
  have g2 := hS i hi2
  rw [ngt_iff hs (by omega)]
  constructor
  · intro h
    rcases Nat.lt_or_ge (pIx K S key) i with q | q
    · exfalso
      have m := sm0_mono S (show pIx K S key + 1 ≤ i by omega)
      have s4 := sm0_s hb.1
      by_cases c : ngt K key = 0
      · omega
      · have c2 : ngt K key - 1 < S.sum := by omega
        have e : pIx K S key = gIx S (ngt K key - 1) := gOf_gIx c2
        have := gIx_spec c2
        rw [← e] at this
        omega
    · exact q
  · intro h
    have m := sm0_mono S h
    by_cases c : ngt K key = 0
    · exfalso
      have c2 : 0 < S.sum := by omega
      have e : pIx K S key = gIx S 0 := by unfold pIx; rw [c]; exact gOf_gIx c2
      have := gIx_spec c2
      have e3 : gIx S 0 = 0 := gIx_eq j5 (Nat.zero_le _) (by have := hS 0 j5; have e2 : sm S 0 0 = 0 := rfl; omega)
      omega
    · have c2 : ngt K key - 1 < S.sum := by omega
      have e : pIx K S key = gIx S (ngt K key - 1) := gOf_gIx c2
      have := gIx_spec c2
      rw [← e] at this
      omega
theorem own_t {K : List Int64} {S : List Nat} {key : Int64} {i : Nat} (hs : srt K) (hh : ¬ hask K key) (hi : i < S.length) (h1 : S.getD i 0 = 1) (hlt : sm S 0 i < K.length) (ht1 : sm S 0 i ≤ ngt K key) (ht2 : ngt K key ≤ sm S 0 i + S.getD i 0) : sm S 0 (ownAt K S key i) = ngt K key := by
  have hT := (lsT_n hs hh).2 _ hlt
  have s4 := sm0_s hi
  unfold ownAt
  by_cases c : K.getD (sm S 0 i) 0 < key
  · rw [if_pos c]
    have := hT.mp c
    omega
  · rw [if_neg c]
    have : ¬ sm S 0 i < ngt K key := fun z => c (hT.mpr z)
    omega
theorem ownAt_c (K : List Int64) (S : List Nat) (key : Int64) (i : Nat) : ownAt K S key i = i ∨ ownAt K S key i = i + 1 := by
  unfold ownAt
  split
  · exact Or.inr rfl
  · exact Or.inl rfl
/-- a record gets an interval of its own, at place o -/
theorem Core.own {rm wd nx ac : Nat} {K : List Int64} {L N S P A : List Nat} {fk : Nat → Int64} {gl go gi ga : Nat → Nat} (h : Core rm wd nx ac K L N S P A fk gl go gi ga) (hk : K.length < 600) (hrm : rm ≤ 1000) {key : Int64} {i o t len : Nat} (hi : i < S.length) (ho : o = i ∨ o = i + 1) (h1 : S.getD i 0 = 1) (ht : sm S 0 o = t) (hs : srt (ins K t key)) (hl1 : 1 ≤ len) (hl2 : len ≤ rm) (hw : P.getD (gIx P i) 0 < wd) (hnx : nx < 2 ^ 31) :
    Core rm wd (nx + 1) ac (ins K t key) (ins L t len) (ins N o nx) (ins S o 1) (P.set (gIx P i) (P.getD (gIx P i) 0 + 1)) A (vp_updL (shf fk t K.length) t key) (va_up (shf gl t K.length) t len) (va_up (shf go t K.length) t nx) (va_up (shf gi o S.length) o nx) (va_up (shf ga o S.length) o (ga i)) := by
  obtain ⟨⟨r1, r2, r3, r4, r5, r6, r7, r8⟩, ⟨j1, j2, j3, j4, j5, j6, j7, j8⟩, c1, c2, c3, c4, c5, c6, b1, b2, b3, b4⟩ := h
  have hgl := gIx_lt (L := P) (m := i) (by omega)
  have ho2 : o ≤ S.length := by omega
  have htl : t ≤ K.length := by have := sm_le S 0 o; omega
  have eK := ins_len (L := K) (j := t) (x := key) htl
  have eL := ins_len (L := L) (j := t) (x := len) (by omega)
  have eN := ins_len (L := N) (j := o) (x := nx) (by omega)
  have eS := ins_len (L := S) (j := o) (x := 1) ho2
  have eSs := ins_sum S o 1
  have ePs := set_sum (x := P.getD (gIx P i) 0 + 1) hgl
  have hL : ∀ x ∈ ins L t len, 1 ≤ x ∧ x ≤ rm := fun x hx => by
    rcases mem_ins hx with z | z
    · subst z; exact ⟨hl1, hl2⟩
    · exact c3 x z
  refine ⟨⟨arr_insL r1 htl, ?_, ?_, ?_, ?_, nodup_ins r6 (fun z => by have := c5 _ z; omega), r7, by rw [List.length_set]; exact r8⟩, ⟨by omega, by omega, by omega, by omega, by omega, ?_, Or.inr ?_, lsum_b hL hrm (by omega)⟩, hs, ?_, hL, ?_, ?_, c6, vup_b b1 (by omega), vup_b b2 hnx, vup_b b3 hnx, vup_b b4 (b4 i)⟩
  · intro j hj
    exact arr_insN (n := K.length) (by omega) (fun j hj => r2 j hj) htl j (by omega)
  · intro j hj
    have G := fun q => ins_get (L := N) (j := o) (x := nx) (d := 0) (by omega) q
    rw [gIx_new ho2 (by omega), ht]
    by_cases q : j < t
    · have c := (gI_cmp (S := S) (m := j) (i := o) (by omega)).mpr (by omega)
      rw [if_pos q, G, if_pos c]
      unfold va_up
      rw [if_neg (by omega), shf_lo (by omega), r3 j (by omega)]
    · rw [if_neg q]
      by_cases q2 : j = t
      · rw [if_pos q2, G, if_neg (Nat.lt_irrefl _), if_pos rfl]
        unfold va_up
        rw [if_pos q2]
      · have c : ¬ gIx S (j - 1) < o := fun z => by have := (gI_cmp (S := S) (m := j - 1) (i := o) (by omega)).mp z; omega
        rw [if_neg q2, G, if_neg (by omega), if_neg (by omega), Nat.add_sub_cancel]
        unfold va_up shf
        rw [if_neg q2, if_pos ⟨by omega, by omega⟩, r3 _ (by omega)]
  · intro q hq
    exact arr_insN (n := S.length) (by omega) (fun q hq => r4 q hq) ho2 q (by omega)
  · intro q hq
    exact ga_grow (m := S.length) (by omega) hi ho r5 q (by omega)
  · intro x hx
    rcases List.mem_or_eq_of_mem_set hx with y | y
    · exact j6 x y
    · omega
  · intro x hx
    rcases mem_ins hx with z | z
    · omega
    · rcases j7 with y | y
      · obtain ⟨w, rfl⟩ := List.length_eq_one_iff.mp y
        have e : i = 0 := by simp at hi; omega
        subst e
        simp at z h1
        omega
      · exact y x z
  · intro x hx
    rcases List.mem_or_eq_of_mem_set hx with y | y
    · exact c2 x y
    · omega
  · intro q hq
    have l1 := lin_pr (ins L t len) (ins S o 1) q
    have P1 := sm0_ins (L := S) (t := o) (x := 1) ho2 q
    have F := fun x => sm0_ins (L := L) (t := t) (x := len) (by omega) x
    rw [ins_get ho2] at l1
    rcases Nat.lt_trichotomy q o with z | z | z
    · rw [if_pos (by omega)] at P1
      have s4 := sm0_s (show q < S.length by omega)
      have m := sm0_mono S (show q + 1 ≤ o by omega)
      rw [P1, if_pos z, F, F, if_pos (by omega), if_pos (by omega)] at l1
      have l0 := lin_pr L S q
      have := c4 q (by omega)
      omega
    · subst z
      rw [if_pos (Nat.le_refl _)] at P1
      rw [P1, if_neg (Nat.lt_irrefl _), if_pos rfl, F, F, ht, if_pos (Nat.le_refl _), if_neg (by omega), Nat.add_sub_cancel] at l1
      omega
    · rw [if_neg (by omega)] at P1
      have m := sm0_mono S (show o ≤ q - 1 by omega)
      rw [P1, if_neg (by omega), if_neg (by omega), F, F, if_neg (by omega), if_neg (by omega), Nat.add_sub_cancel, show sm S 0 (q - 1) + 1 + S.getD (q - 1) 0 - 1 = sm S 0 (q - 1) + S.getD (q - 1) 0 by omega] at l1
      have l0 := lin_pr L S (q - 1)
      have := c4 (q - 1) (by omega)
      omega
  · intro x hx
    rcases mem_ins hx with z | z
    · omega
    · have := c5 x z; omega
end
section
def pend (kd : Nat) : Nat := if kd = 2 then 3 else if kd = 1 then 2 else 1
/-- the numbers of the class (v2) and of the reference (v3) -/
def Sc (rm wd lr lw lq nx ac tc cl hr cp kd : Nat) (v2 v3 gs : Nat → Int32) (nK nS : Nat) : Prop :=
  v2 0 = nI rm ∧ v2 1 = nI wd ∧ v2 2 = nI lr ∧ v2 3 = nI lw ∧ v2 9 = nI nx ∧ v2 10 = nI tc ∧ v2 11 = nI cl ∧ v2 15 = gs 0 ∧ v2 16 = gs 1 ∧ v2 17 = gs 2 ∧ v2 18 = gs 3 ∧ v3 1 = nI rm ∧ v3 2 = nI wd ∧ v3 3 = nI lr ∧ v3 4 = nI lq ∧ v3 8 = nI nK ∧ v3 11 = nI nS ∧ v3 12 = nI nx ∧ v3 13 = nI ac ∧ v3 14 = nI tc ∧ v3 17 = nI cl ∧ (cl = 1 → v2 12 = nI hr ∧ v2 14 = nI cp ∧ v3 15 = nI (pend kd) ∧ v3 16 = nI cp ∧ v3 18 = nI hr)
/-- what is kept while it is closed -/
def Cl (wd nx tc cl hr cp kd : Nat) (N S P : List Nat) : Prop := tc ≤ 4 ∧ cl ≤ 1 ∧ (cl = 1 → hr ≤ 1 ∧ cp < S.length ∧ kd = kos P S wd cp ∧ 1 ≤ S.getD cp 0 ∧ (hr = 1 → kd = 0 → 1 ≤ nx ∧ ∀ x ∈ N, x < nx - 1))
/-- class and reference together: B bounds the counters -/
def Cpl (rm wd lr lw lq B : Nat) (v2 : Nat → Int32) (kd : Nat) (K : List Int64) (L N S P : List Nat) (v : Nat → Int32) (fk : Nat → Int64) (gl go gi ga : Nat → Nat) (gs : Nat → Int32) : Prop :=
  ∃ (nx ac tc cl hr cp : Nat) (A : List Nat), Core rm wd nx ac K L N S P A fk gl go gi ga ∧ Sc rm wd lr lw lq nx ac tc cl hr cp kd v2 v gs K.length S.length ∧ Cl wd nx tc cl hr cp kd N S P ∧ nx ≤ B ∧ ac ≤ B
theorem kos_c {P S : List Nat} {wd i : Nat} (hi : i < P.sum) : (kos P S wd i = 2 ↔ wd ≤ P.getD (gIx P i) 0) ∧ (kos P S wd i = 1 ↔ ¬ wd ≤ P.getD (gIx P i) 0 ∧ S.getD i 0 ≤ 1) ∧ (kos P S wd i = 0 ↔ ¬ wd ≤ P.getD (gIx P i) 0 ∧ ¬ S.getD i 0 ≤ 1) := by
  unfold kos
  rw [gOf_gIx hi]
  split
  · exact ⟨by omega, by omega, by omega⟩
  · split
    · exact ⟨by omega, by omega, by omega⟩
    · exact ⟨by omega, by omega, by omega⟩
/-- the target of a put, behind the split of its interval -/
theorem fuel_h {K : List Int64} {L N S P : List Nat} (hJ : J2 K L N S P) {key : Int64} {i k : Nat} (hid : pIx K S key = i) (hk1 : 1 ≤ k) (hk2 : k + 1 ≤ S.getD i 0) : (ins (S.set i (S.getD i 0 - (S.getD i 0 - k))) (i + 1) (S.getD i 0 - k)).getD (pIx K (ins (S.set i (S.getD i 0 - (S.getD i 0 - k))) (i + 1) (S.getD i 0 - k)) key) 0 + 1 ≤ S.getD i 0 := by
  have hb := pIx_b hJ key
  rw [hid] at hb
  obtain ⟨j1, j2, j3, j4, j5, j6, j7, j8⟩ := hJ
  have hl := ngt_le K key
  have hg := sm0_get S i
  have eS : (S.set i (S.getD i 0 - (S.getD i 0 - k))).length = S.length := List.length_set ..
  have q := set_sum (x := S.getD i 0 - (S.getD i 0 - k)) hb.1
  have qs : (ins (S.set i (S.getD i 0 - (S.getD i 0 - k))) (i + 1) (S.getD i 0 - k)).sum = S.sum := by rw [ins_sum]; omega
  have c : ngt K key - 1 < S.sum := by
    have := getD_le S i
    omega
  have e : gIx S (ngt K key - 1) = i := by rw [← hid]; exact (gOf_gIx c).symm
  have e2 : pIx K (ins (S.set i (S.getD i 0 - (S.getD i 0 - k))) (i + 1) (S.getD i 0 - k)) key = i ∨ pIx K (ins (S.set i (S.getD i 0 - (S.getD i 0 - k))) (i + 1) (S.getD i 0 - k)) key = i + 1 := by
    unfold pIx
    rw [gOf_gIx (by omega), gIx_split hb.1 (by omega) c, e, if_neg (Nat.lt_irrefl _), if_pos rfl]
    split
    · exact Or.inl rfl
    · exact Or.inr rfl
  rcases e2 with z | z
  · rw [z, ins_get (by omega), if_pos (by omega), getD_set hb.1, if_pos rfl]; omega
  · rw [z, ins_get (by omega), if_neg (by omega), if_pos rfl]; omega
theorem fuel_a {P : List Nat} {i w wd : Nat} (hP : i < P.sum) (hw : w ≤ P.getD (gIx P i) 0) (h1 : w < wd) (h2 : P.getD (gIx P i) 0 - w < wd) : ¬ wd ≤ (ins (P.set (gIx P i) (P.getD (gIx P i) 0 - w)) (gIx P i + 1) w).getD (gIx (ins (P.set (gIx P i) (P.getD (gIx P i) 0 - w)) (gIx P i + 1) w) i) 0 := by
  have hgl := gIx_lt hP
  generalize hg : gIx P i = g at *
  have eP : (P.set g (P.getD g 0 - w)).length = P.length := List.length_set ..
  have e : ins (P.set g (P.getD g 0 - w)) (g + 1) w = ins (P.set g (P.getD g 0 - (P.getD g 0 - (P.getD g 0 - w)))) (g + 1) (P.getD g 0 - (P.getD g 0 - w)) := by
    rw [show P.getD g 0 - (P.getD g 0 - w) = w by omega]
  have e2 : gIx (ins (P.set g (P.getD g 0 - w)) (g + 1) w) i = g ∨ gIx (ins (P.set g (P.getD g 0 - w)) (g + 1) w) i = g + 1 := by
    rw [e, gIx_split hgl (by omega) hP, hg, if_neg (Nat.lt_irrefl _), if_pos rfl]
    split
    · exact Or.inl rfl
    · exact Or.inr rfl
  rcases e2 with z | z
  · rw [z, ins_get (by omega), if_pos (by omega), getD_set hgl, if_pos rfl]; omega
  · rw [z, ins_get (by omega), if_neg (by omega), if_pos rfl]; omega
end
section
set_option maxHeartbeats 8000000 in
set_option maxRecDepth 100000 in
theorem l3_put {p : Program} {l : Launch} {e : Env} {s : State} {m : MethodId} {args : Array Value} {below : List Frame} {meth : Method} {c : Code} {E : Gq} {ws0 : va_W} {z : Nat → Nat} {rm wd lr lw lq len tc B : Nat} {key : Int64} {T0 : Nat × (Nat → Int32) × Nat × List Int64 × List Nat × List Nat × List Nat × List Nat} (C : Cx E p s m args meth c cX3_put 8 (some .int) RX3 (va_A ws0 s.heap.size)) (hrm : rm ≤ 1000) (hwd : wd ≤ 20) (hw2 : 2 ≤ wd) (hl1 : 1 ≤ len) (hl2 : len ≤ rm) (htc : tc ≤ 4) (hB : B < 2 ^ 30) :
    ∀ (n nx ac : Nat) (v2 : Nat → Int32) (kd : Nat) (K : List Int64) (L N S P A : List Nat) (v : Nat → Int32) (fk : Nat → Int64) (gl go gi ga : Nat → Nat) (gs : Nat → Int32) (H : Heap) (locs : List Loc), Core rm wd nx ac K L N S P A fk gl go gi ga → Sc rm wd lr lw lq nx ac tc 0 0 0 kd v2 v gs K.length S.length → K.length < 600 → ¬ hask K key → nx + n ≤ B → ac + n ≤ B → plc rm wd key len tc n nx v2 kd K L N S P = T0 → 2 * S.getD (pIx K S key) 0 + (if wd ≤ P.getD (gIx P (pIx K S key)) 0 then 1 else 0) < n → X3w E (va_A ws0 s.heap.size) z v fk gl go gi ga gs s H locs →
      ∀ ls : Array Slot, lv_has ls 8 [(0, .ref (z 0)), (1, .long key), (3, .int (nI len))] → W p l e (Rm 3 0 0) s m args below meth c H locs 0 0 (MQ below (Qw E ws0 s.heap.size (P3 E z (fun r v' fk' gl' go' gi' ga' gs' => ∃ (q : Nat) (v2' : Nat → Int32) (kd' : Nat) (K' : List Int64) (L' N' S' P' : List Nat), T0 = (q, v2', kd', K', L', N', S', P') ∧ some (.int (if q = 0 then -5 else nI 1)) = r ∧ Cpl rm wd lr lw lq B v2' kd' K' L' N' S' P' v' fk' gl' go' gi' ga' gs'))) args s 0 0 (va_A ws0 s.heap.size)) (F0 m 50 ls []) := by
  intro n
  induction n with
  | zero =>
    intro nx ac v2 kd K L N S P A v fk gl go gi ga gs H locs hC hS hk hh hnx hac hT hF
    exact absurd hF (Nat.not_lt_zero _)
  | succ n ih =>
    intro nx ac v2 kd K L N S P A v fk gl go gi ga gs H locs hC hS hk hh hnx hac hT hF X ls hl
    obtain ⟨hR, hJ, c1, c2, c3, c4, c5, c6, b1, b2, b3, b4⟩ := id hC
    obtain ⟨a0, a1, a2, a3, a9, a10, a11, a15, a16, a17, a18, d1, d2, d3, d4, d8, d11, d12, d13, d14, d17, ec⟩ := id hS
    obtain ⟨r1, r2, r3, r4, r5, r6, r7, r8⟩ := id hR
    obtain ⟨j1, j2, j3, j4, j5, j6, j7, j8⟩ := id hJ
    obtain ⟨k1, k2, k3, k4⟩ := hJ.b
    have h3 : Ctx3 v fk gl go gi ga K L N S P A := ⟨hR, hJ, by omega, d8, d11, b1, b2, b3, b4, c1⟩
    have hb := pIx_blT hJ c1 key
    have hpb := pIx_b hJ key
    have hng := ngt_le K key
    have hfh := fun (k : Nat) (hk1 : 1 ≤ k) (hk2 : k + 1 ≤ S.getD (pIx K S key) 0) => fuel_h hJ (key := key) rfl hk1 hk2
    simp only [plc] at hT
    generalize hid : pIx K S key = i at hT hb hpb hF hfh
    have hiP : i < P.sum := by omega
    have hgl := gIx_lt hiP
    have hko := kos_c (S := S) (wd := wd) hiP
    rw [gOf_gIx hiP] at hT
    have hll : lin L S i ≤ L.sum := sm_le _ _ _
    have hs0 := sm0_get S i
    have hP1 := j6 _ (getD_mem hgl)
    have hP2 := c2 _ (getD_mem hgl)
    have hbl := b1; have hbo := b2; have hbi := b3; have hba := b4
    rcases Nat.eq_zero_or_pos tc with ht0 | ht0
    · subst ht0
      refine lv_aload_n C.hx C.hb dX3_put_50 rfl (lv_at hl 0 rfl) ?_
      refine lv_lload_n C.hx C.hb dX3_put_51 rfl (lv_at hl 1 rfl) ?_
      refine x3_cr (As := [.long (key)]) (rest := []) C X (c3_belongs h3 hb) wy_X3_belongs ts_31 tw_443 rfl ⟨by decide, by decide⟩ rfl hl.1 rfl (Nat.le_of_ble_eq_true rfl) ⟨Nat.le_refl _, Nat.le_refl _⟩ dX3_put_52 (fun r hp => ?_)
      subst hp
      refine W.eq (g2 := F0 m 55 ls [.int (nI (i))]) rfl ?_
      refine lv_istore (lv' := [(4, .int (nI (i))), (0, .ref (z 0)), (1, .long (key)), (3, .int (nI (len)))]) C.hx C.hb dX3_put_55 hl (by decide) rfl (fun ls hl => ?_)
      refine lv_aload_n C.hx C.hb dX3_put_57 rfl (lv_at hl 1 rfl) ?_
      refine lv_iload C.hx C.hb dX3_put_58 (lv_at hl 0 rfl) ?_
      refine x3_cr (As := [.int (nI (i))]) (rest := []) C X (c3_lengthsOf (i := i) h3 (by omega)) wy_X3_lengthsOf ts_33 tw_451 rfl ⟨by decide, by decide⟩ rfl hl.1 rfl (Nat.le_of_ble_eq_true rfl) ⟨Nat.le_refl _, Nat.le_refl _⟩ dX3_put_60 (fun r hp => ?_)
      subst hp
      refine W.eq (g2 := F0 m 63 ls [.int (nI (lin L S i))]) rfl ?_
      refine lv_iload_n C.hx C.hb dX3_put_63 rfl (lv_at hl 3 rfl) ?_
      refine n_add C dX3_put_64 ?_
      refine lv_aload_n C.hx C.hb dX3_put_65 rfl (lv_at hl 1 rfl) ?_
      refine x3g_1 C X (x := nI (rm)) d1 dX3_put_66 ?_
      refine n_icmp_gt (tgt := 87) C dX3_put_69 (by decide) (by first | omega | exact hbo _ | exact hbi _ | exact hba _ | exact hbl _) (by first | omega | exact hbo _ | exact hbi _ | exact hba _ | exact hbl _) (fun c69 => ?_) (fun c69 => ?_)
      · have hs1 : 1 ≤ S.getD i 0 := by
          rcases Nat.eq_zero_or_pos (S.getD i 0) with q | q
          · exfalso
            have : lin L S i = 0 := by unfold lin; rw [q]; exact sm_end (Or.inl (Nat.le_refl _))
            omega
          · exact q
        rw [if_neg (by omega)] at hT
        refine lv_aload_n C.hx C.hb dX3_put_87 rfl (lv_at hl 1 rfl) ?_
        refine lv_iload C.hx C.hb dX3_put_88 (lv_at hl 0 rfl) ?_
        refine x3_cr (As := [.int (nI (i))]) (rest := []) C X (c3_recordsOf (i := i) h3 (by omega)) wy_X3_recordsOf ts_35 tw_459 rfl ⟨by decide, by decide⟩ rfl hl.1 rfl (Nat.le_of_ble_eq_true rfl) ⟨Nat.le_refl _, Nat.le_refl _⟩ dX3_put_90 (fun r hp => ?_)
        subst hp
        refine W.eq (g2 := F0 m 93 ls [.int (nI (S.getD i 0))]) rfl ?_
        refine lv_iconst (v := nI (1)) C.hx C.hb dX3_put_93 (by decide) ?_
        refine n_icmp_ne (tgt := 101) C dX3_put_94 (by decide) (by first | omega | exact hbo _ | exact hbi _ | exact hba _ | exact hbl _) (by first | omega | exact hbo _ | exact hbi _ | exact hba _ | exact hbl _) (fun c94 => ?_) (fun c94 => ?_)
        · refine lv_iconst (v := nI (0)) C.hx C.hb dX3_put_101 (by decide) ?_
          refine lv_istore (lv' := [(5, .int (nI (0))), (4, .int (nI (i))), (0, .ref (z 0)), (1, .long (key)), (3, .int (nI (len)))]) C.hx C.hb dX3_put_102 hl (by decide) rfl (fun ls hl => ?_)
          refine lv_aload_n C.hx C.hb dX3_put_104 rfl (lv_at hl 2 rfl) ?_
          refine lv_iload C.hx C.hb dX3_put_105 (lv_at hl 1 rfl) ?_
          refine x3_cr (As := [.int (nI (i))]) (rest := []) C X (c3_widthOf (i := i) h3 (by omega)) wy_X3_widthOf ts_36 tw_463 rfl ⟨by decide, by decide⟩ rfl hl.1 rfl (Nat.le_of_ble_eq_true rfl) ⟨Nat.le_refl _, Nat.le_refl _⟩ dX3_put_107 (fun r hp => ?_)
          subst hp
          refine W.eq (g2 := F0 m 110 ls [.int (nI (P.getD (gIx P i) 0))]) rfl ?_
          refine lv_aload_n C.hx C.hb dX3_put_110 rfl (lv_at hl 2 rfl) ?_
          refine x3g_2 C X (x := nI (wd)) d2 dX3_put_111 ?_
          refine n_icmp_ge (tgt := 121) C dX3_put_114 (by decide) (by first | omega | exact hbo _ | exact hbi _ | exact hba _ | exact hbl _) (by first | omega | exact hbo _ | exact hbi _ | exact hba _ | exact hbl _) (fun c114 => ?_) (fun c114 => ?_)
          · refine lv_iconst (v := nI (0)) C.hx C.hb dX3_put_121 (by decide) ?_
            refine lv_istore (lv' := [(6, .int (nI (0))), (5, .int (nI (0))), (4, .int (nI (i))), (0, .ref (z 0)), (1, .long (key)), (3, .int (nI (len)))]) C.hx C.hb dX3_put_122 hl (by decide) rfl (fun ls hl => ?_)
            refine lv_aload_n C.hx C.hb dX3_put_124 rfl (lv_at hl 3 rfl) ?_
            refine lv_iload C.hx C.hb dX3_put_125 (lv_at hl 0 rfl) ?_
            refine n_if_ne (tgt := 134) C dX3_put_127 (by decide) (by decide) (fun h => absurd h (by decide)) (fun _ => ?_)
            refine lv_iconst (v := nI (3)) C.hx C.hb dX3_put_130 (by decide) ?_
            refine lv_goto (tgt := 144) C.hx C.hb dX3_put_131 (by decide) ?_
            refine lv_iload C.hx C.hb dX3_put_144 (lv_at hl 2 rfl) ?_
            refine x3_cw (As := [.int (nI (3)), .int (nI (i))]) (rest := []) C X (c3_isCut_n (kk := 3) (i := i) d14) wy_X3_isCut ts_37 tw_467 rfl ⟨by decide, by decide⟩ rfl hl.1 rfl (Nat.le_of_ble_eq_true rfl) ⟨Nat.le_refl _, Nat.le_refl _⟩ dX3_put_146 (fun r v' fk' gl' go' gi' ga' gs' H locs hp X => ?_)
            obtain ⟨rfl, rfl, rfl, rfl, rfl, rfl, rfl, rfl⟩ := hp
            refine W.eq (g2 := F0 m 149 ls [.int (nI (0))]) rfl ?_
            refine n_if_eq (tgt := 155) C dX3_put_149 (by decide) (by decide) (fun _ => ?_) (fun h => absurd h (by decide))
            refine lv_iload C.hx C.hb dX3_put_155 (lv_at hl 0 rfl) ?_
            refine n_if_ne (tgt := 169) C dX3_put_157 (by decide) (by decide) (fun h => absurd h (by decide)) (fun _ => ?_)
            refine lv_aload_n C.hx C.hb dX3_put_160 rfl (lv_at hl 3 rfl) ?_
            refine lv_iload C.hx C.hb dX3_put_161 (lv_at hl 2 rfl) ?_
            refine x3_cw (As := [.int (nI (i))]) (rest := []) C X (c3_splitArea (i := i) (wd := wd) (ac := ac) h3 (by omega) d2 hwd (by omega) d13 (by omega)) wy_X3_splitArea ts_38 tw_471 rfl ⟨by decide, by decide⟩ rfl hl.1 rfl (Nat.le_of_ble_eq_true rfl) ⟨Nat.le_refl _, Nat.le_refl _⟩ dX3_put_163 (fun r v' fk' gl' go' gi' ga' gs' H locs hp X => ?_)
            obtain ⟨rfl, rfl, rfl, rfl, rfl, rfl, rfl, rfl⟩ := hp
            refine W.eq (g2 := F0 m 166 ls []) rfl ?_
            refine lv_goto (tgt := 278) C.hx C.hb dX3_put_166 (by decide) ?_
            refine lv_goto (tgt := 50) C.hx C.hb dX3_put_278 (by decide) ?_
            have hkk : kos P S wd i = 2 := hko.1.mpr (by omega)
            rw [if_neg (by decide), if_neg (by omega), if_pos hkk] at hT
            have hcore := hC.area (i := i) (w := wd / 2) (by omega) (by omega) (by omega) (by omega)
            refine ih nx (ac + 1) (upd v2 16 (v2 16 + nI 1)) kd K L N S _ _ (upd v 13 (nI (ac + 1))) fk gl go gi _ (upd gs 1 (gs 1 + nI 1)) H locs hcore ⟨a0, a1, a2, a3, a9, a10, a11, a15, (congrArg (· + nI 1) a16), a17, a18, d1, d2, d3, d4, d8, d11, d12, rfl, d14, d17, fun h => absurd h (by decide)⟩ hk hh (by omega) (by omega) hT ?_ X ls (lv_sub hl [3, 4, 5] rfl)
            rw [hid, if_neg (fuel_a hiP (by omega) (by omega) (by omega))]
            rw [if_pos (by omega)] at hF
            omega
          · refine lv_iconst (v := nI (1)) C.hx C.hb dX3_put_117 (by decide) ?_
            refine lv_goto (tgt := 122) C.hx C.hb dX3_put_118 (by decide) ?_
            refine lv_istore (lv' := [(6, .int (nI (1))), (5, .int (nI (0))), (4, .int (nI (i))), (0, .ref (z 0)), (1, .long (key)), (3, .int (nI (len)))]) C.hx C.hb dX3_put_122 hl (by decide) rfl (fun ls hl => ?_)
            refine lv_aload_n C.hx C.hb dX3_put_124 rfl (lv_at hl 3 rfl) ?_
            refine lv_iload C.hx C.hb dX3_put_125 (lv_at hl 0 rfl) ?_
            refine n_if_ne (tgt := 134) C dX3_put_127 (by decide) (by decide) (fun _ => ?_) (fun h => absurd h (by decide))
            refine lv_iload C.hx C.hb dX3_put_134 (lv_at hl 1 rfl) ?_
            refine n_if_eq (tgt := 143) C dX3_put_136 (by decide) (by decide) (fun _ => ?_) (fun h => absurd h (by decide))
            refine lv_iconst (v := nI (1)) C.hx C.hb dX3_put_143 (by decide) ?_
            refine lv_iload C.hx C.hb dX3_put_144 (lv_at hl 2 rfl) ?_
            refine x3_cw (As := [.int (nI (1)), .int (nI (i))]) (rest := []) C X (c3_isCut_n (kk := 1) (i := i) d14) wy_X3_isCut ts_37 tw_467 rfl ⟨by decide, by decide⟩ rfl hl.1 rfl (Nat.le_of_ble_eq_true rfl) ⟨Nat.le_refl _, Nat.le_refl _⟩ dX3_put_146 (fun r v' fk' gl' go' gi' ga' gs' H locs hp X => ?_)
            obtain ⟨rfl, rfl, rfl, rfl, rfl, rfl, rfl, rfl⟩ := hp
            refine W.eq (g2 := F0 m 149 ls [.int (nI (0))]) rfl ?_
            refine n_if_eq (tgt := 155) C dX3_put_149 (by decide) (by decide) (fun _ => ?_) (fun h => absurd h (by decide))
            refine lv_iload C.hx C.hb dX3_put_155 (lv_at hl 0 rfl) ?_
            refine n_if_ne (tgt := 169) C dX3_put_157 (by decide) (by decide) (fun _ => ?_) (fun h => absurd h (by decide))
            refine lv_iload C.hx C.hb dX3_put_169 (lv_at hl 1 rfl) ?_
            refine n_if_eq (tgt := 258) C dX3_put_171 (by decide) (by decide) (fun _ => ?_) (fun h => absurd h (by decide))
            refine lv_aload_n C.hx C.hb dX3_put_258 rfl (lv_at hl 3 rfl) ?_
            refine lv_iload C.hx C.hb dX3_put_259 (lv_at hl 2 rfl) ?_
            refine lv_aload_n C.hx C.hb dX3_put_261 rfl (lv_at hl 3 rfl) ?_
            refine x3g_12 C X (x := nI (nx)) d12 dX3_put_262 ?_
            refine x3_cw (As := [.int (nI (i)), .int (nI (nx))]) (rest := []) C X (c3_splitInterval (i := i) (num := nx) h3 (by omega) (by omega) (by omega) (by omega)) wy_X3_splitInterval ts_40 tw_479 rfl ⟨by decide, by decide⟩ rfl hl.1 rfl (Nat.le_of_ble_eq_true rfl) ⟨Nat.le_refl _, Nat.le_refl _⟩ dX3_put_265 (fun r v' fk' gl' go' gi' ga' gs' H locs hp X => ?_)
            obtain ⟨rfl, rfl, rfl, rfl, rfl, rfl, rfl, rfl⟩ := hp
            refine W.eq (g2 := F0 m 268 ls []) rfl ?_
            refine lv_aload_n C.hx C.hb dX3_put_268 rfl (lv_at hl 3 rfl) ?_
            refine lv_dup C.hx C.hb dX3_put_269 rfl ?_
            refine x3g_12 C X (x := nI (nx)) d12 dX3_put_270 ?_
            refine lv_iconst (v := nI (1)) C.hx C.hb dX3_put_273 (by decide) ?_
            refine n_add C dX3_put_274 ?_
            refine x3p_12 C X dX3_put_275 (fun H locs X => ?_)
            refine lv_goto (tgt := 50) C.hx C.hb dX3_put_278 (by decide) ?_
            have hkk : kos P S wd i = 0 := hko.2.2.mpr (by omega)
            rw [if_neg (by decide), if_neg (by omega), if_neg (by omega)] at hT
            have hkb := kbh_b (L := L) (S := S) (i := i) (by omega)
            have hcore := hC.halve (nx2 := nx + 1) (by omega) (i := i) (num := nx) (k := kbh L S i) (by omega) hkb.1 hkb.2 (by omega) c5 (by omega) (by omega)
            have eS1 : (S.set i (S.getD i 0 - (S.getD i 0 - kbh L S i))).length = S.length := List.length_set ..
            refine ih (nx + 1) ac (upd (upd v2 9 (nI (nx + 1))) 15 ((upd v2 9 (nI (nx + 1))) 15 + nI 1)) kd K L _ _ _ A (upd (upd v 11 (nI (S.length + 1))) 12 (nI (nx + 1))) fk gl _ _ _ (upd gs 0 (gs 0 + nI 1)) H locs hcore ⟨a0, a1, a2, a3, rfl, a10, a11, (congrArg (· + nI 1) a15), a16, a17, a18, d1, d2, d3, d4, d8, by rw [ins_len (by omega), eS1]; rfl, rfl, d13, d14, d17, fun h => absurd h (by decide)⟩ hk hh (by omega) (by omega) hT ?_ X ls (lv_sub hl [3, 4, 5] rfl)
            have hfx := hfh _ hkb.1 hkb.2
            rw [if_neg (by omega)] at hF
            split <;> omega
        · refine lv_iconst (v := nI (1)) C.hx C.hb dX3_put_97 (by decide) ?_
          refine lv_goto (tgt := 102) C.hx C.hb dX3_put_98 (by decide) ?_
          refine lv_istore (lv' := [(5, .int (nI (1))), (4, .int (nI (i))), (0, .ref (z 0)), (1, .long (key)), (3, .int (nI (len)))]) C.hx C.hb dX3_put_102 hl (by decide) rfl (fun ls hl => ?_)
          refine lv_aload_n C.hx C.hb dX3_put_104 rfl (lv_at hl 2 rfl) ?_
          refine lv_iload C.hx C.hb dX3_put_105 (lv_at hl 1 rfl) ?_
          refine x3_cr (As := [.int (nI (i))]) (rest := []) C X (c3_widthOf (i := i) h3 (by omega)) wy_X3_widthOf ts_36 tw_463 rfl ⟨by decide, by decide⟩ rfl hl.1 rfl (Nat.le_of_ble_eq_true rfl) ⟨Nat.le_refl _, Nat.le_refl _⟩ dX3_put_107 (fun r hp => ?_)
          subst hp
          refine W.eq (g2 := F0 m 110 ls [.int (nI (P.getD (gIx P i) 0))]) rfl ?_
          refine lv_aload_n C.hx C.hb dX3_put_110 rfl (lv_at hl 2 rfl) ?_
          refine x3g_2 C X (x := nI (wd)) d2 dX3_put_111 ?_
          refine n_icmp_ge (tgt := 121) C dX3_put_114 (by decide) (by first | omega | exact hbo _ | exact hbi _ | exact hba _ | exact hbl _) (by first | omega | exact hbo _ | exact hbi _ | exact hba _ | exact hbl _) (fun c114 => ?_) (fun c114 => ?_)
          · refine lv_iconst (v := nI (0)) C.hx C.hb dX3_put_121 (by decide) ?_
            refine lv_istore (lv' := [(6, .int (nI (0))), (5, .int (nI (1))), (4, .int (nI (i))), (0, .ref (z 0)), (1, .long (key)), (3, .int (nI (len)))]) C.hx C.hb dX3_put_122 hl (by decide) rfl (fun ls hl => ?_)
            refine lv_aload_n C.hx C.hb dX3_put_124 rfl (lv_at hl 3 rfl) ?_
            refine lv_iload C.hx C.hb dX3_put_125 (lv_at hl 0 rfl) ?_
            refine n_if_ne (tgt := 134) C dX3_put_127 (by decide) (by decide) (fun h => absurd h (by decide)) (fun _ => ?_)
            refine lv_iconst (v := nI (3)) C.hx C.hb dX3_put_130 (by decide) ?_
            refine lv_goto (tgt := 144) C.hx C.hb dX3_put_131 (by decide) ?_
            refine lv_iload C.hx C.hb dX3_put_144 (lv_at hl 2 rfl) ?_
            refine x3_cw (As := [.int (nI (3)), .int (nI (i))]) (rest := []) C X (c3_isCut_n (kk := 3) (i := i) d14) wy_X3_isCut ts_37 tw_467 rfl ⟨by decide, by decide⟩ rfl hl.1 rfl (Nat.le_of_ble_eq_true rfl) ⟨Nat.le_refl _, Nat.le_refl _⟩ dX3_put_146 (fun r v' fk' gl' go' gi' ga' gs' H locs hp X => ?_)
            obtain ⟨rfl, rfl, rfl, rfl, rfl, rfl, rfl, rfl⟩ := hp
            refine W.eq (g2 := F0 m 149 ls [.int (nI (0))]) rfl ?_
            refine n_if_eq (tgt := 155) C dX3_put_149 (by decide) (by decide) (fun _ => ?_) (fun h => absurd h (by decide))
            refine lv_iload C.hx C.hb dX3_put_155 (lv_at hl 0 rfl) ?_
            refine n_if_ne (tgt := 169) C dX3_put_157 (by decide) (by decide) (fun h => absurd h (by decide)) (fun _ => ?_)
            refine lv_aload_n C.hx C.hb dX3_put_160 rfl (lv_at hl 3 rfl) ?_
            refine lv_iload C.hx C.hb dX3_put_161 (lv_at hl 2 rfl) ?_
            refine x3_cw (As := [.int (nI (i))]) (rest := []) C X (c3_splitArea (i := i) (wd := wd) (ac := ac) h3 (by omega) d2 hwd (by omega) d13 (by omega)) wy_X3_splitArea ts_38 tw_471 rfl ⟨by decide, by decide⟩ rfl hl.1 rfl (Nat.le_of_ble_eq_true rfl) ⟨Nat.le_refl _, Nat.le_refl _⟩ dX3_put_163 (fun r v' fk' gl' go' gi' ga' gs' H locs hp X => ?_)
            obtain ⟨rfl, rfl, rfl, rfl, rfl, rfl, rfl, rfl⟩ := hp
            refine W.eq (g2 := F0 m 166 ls []) rfl ?_
            refine lv_goto (tgt := 278) C.hx C.hb dX3_put_166 (by decide) ?_
            refine lv_goto (tgt := 50) C.hx C.hb dX3_put_278 (by decide) ?_
            have hkk : kos P S wd i = 2 := hko.1.mpr (by omega)
            rw [if_neg (by decide), if_neg (by omega), if_pos hkk] at hT
            have hcore := hC.area (i := i) (w := wd / 2) (by omega) (by omega) (by omega) (by omega)
            refine ih nx (ac + 1) (upd v2 16 (v2 16 + nI 1)) kd K L N S _ _ (upd v 13 (nI (ac + 1))) fk gl go gi _ (upd gs 1 (gs 1 + nI 1)) H locs hcore ⟨a0, a1, a2, a3, a9, a10, a11, a15, (congrArg (· + nI 1) a16), a17, a18, d1, d2, d3, d4, d8, d11, d12, rfl, d14, d17, fun h => absurd h (by decide)⟩ hk hh (by omega) (by omega) hT ?_ X ls (lv_sub hl [3, 4, 5] rfl)
            rw [hid, if_neg (fuel_a hiP (by omega) (by omega) (by omega))]
            rw [if_pos (by omega)] at hF
            omega
          · refine lv_iconst (v := nI (1)) C.hx C.hb dX3_put_117 (by decide) ?_
            refine lv_goto (tgt := 122) C.hx C.hb dX3_put_118 (by decide) ?_
            refine lv_istore (lv' := [(6, .int (nI (1))), (5, .int (nI (1))), (4, .int (nI (i))), (0, .ref (z 0)), (1, .long (key)), (3, .int (nI (len)))]) C.hx C.hb dX3_put_122 hl (by decide) rfl (fun ls hl => ?_)
            refine lv_aload_n C.hx C.hb dX3_put_124 rfl (lv_at hl 3 rfl) ?_
            refine lv_iload C.hx C.hb dX3_put_125 (lv_at hl 0 rfl) ?_
            refine n_if_ne (tgt := 134) C dX3_put_127 (by decide) (by decide) (fun _ => ?_) (fun h => absurd h (by decide))
            refine lv_iload C.hx C.hb dX3_put_134 (lv_at hl 1 rfl) ?_
            refine n_if_eq (tgt := 143) C dX3_put_136 (by decide) (by decide) (fun h => absurd h (by decide)) (fun _ => ?_)
            refine lv_iconst (v := nI (2)) C.hx C.hb dX3_put_139 (by decide) ?_
            refine lv_goto (tgt := 144) C.hx C.hb dX3_put_140 (by decide) ?_
            refine lv_iload C.hx C.hb dX3_put_144 (lv_at hl 2 rfl) ?_
            refine x3_cw (As := [.int (nI (2)), .int (nI (i))]) (rest := []) C X (c3_isCut_n (kk := 2) (i := i) d14) wy_X3_isCut ts_37 tw_467 rfl ⟨by decide, by decide⟩ rfl hl.1 rfl (Nat.le_of_ble_eq_true rfl) ⟨Nat.le_refl _, Nat.le_refl _⟩ dX3_put_146 (fun r v' fk' gl' go' gi' ga' gs' H locs hp X => ?_)
            obtain ⟨rfl, rfl, rfl, rfl, rfl, rfl, rfl, rfl⟩ := hp
            refine W.eq (g2 := F0 m 149 ls [.int (nI (0))]) rfl ?_
            refine n_if_eq (tgt := 155) C dX3_put_149 (by decide) (by decide) (fun _ => ?_) (fun h => absurd h (by decide))
            refine lv_iload C.hx C.hb dX3_put_155 (lv_at hl 0 rfl) ?_
            refine n_if_ne (tgt := 169) C dX3_put_157 (by decide) (by decide) (fun _ => ?_) (fun h => absurd h (by decide))
            refine lv_iload C.hx C.hb dX3_put_169 (lv_at hl 1 rfl) ?_
            refine n_if_eq (tgt := 258) C dX3_put_171 (by decide) (by decide) (fun h => absurd h (by decide)) (fun _ => ?_)
            refine lv_lload_n C.hx C.hb dX3_put_174 rfl (lv_at hl 4 rfl) ?_
            refine lv_aload_n C.hx C.hb dX3_put_175 rfl (lv_at hl 3 rfl) ?_
            refine x3g_5 C X dX3_put_176 ?_
            refine lv_aload_n C.hx C.hb dX3_put_179 rfl (lv_at hl 3 rfl) ?_
            refine lv_iload C.hx C.hb dX3_put_180 (lv_at hl 2 rfl) ?_
            refine x3_cr (As := [.int (nI (i))]) (rest := [.ref (z 1), .long (key)]) C X (c3_first (i := i) h3 (by omega) (by omega)) wy_X3_first ts_32 tw_447 rfl ⟨by decide, by decide⟩ rfl hl.1 rfl (Nat.le_of_ble_eq_true rfl) ⟨Nat.le_refl _, Nat.le_refl _⟩ dX3_put_182 (fun r hp => ?_)
            subst hp
            refine W.eq (g2 := F0 m 185 ls [.int (nI (sm S 0 i)), .ref (z 1), .long (key)]) rfl ?_
            refine x3l_1 C X (by first | omega | exact hbo _ | exact hbi _ | exact hba _ | exact hbl _) dX3_put_185 ?_
            refine n_lcmp_le (tgt := 194) C dX3_put_186 dX3_put_187 (by decide) (fun c186 => ?_) (fun c186 => ?_)
            · refine lv_iconst (v := nI (0)) C.hx C.hb dX3_put_194 (by decide) ?_
              refine lv_istore (lv' := [(7, .int (nI (0))), (6, .int (nI (1))), (5, .int (nI (1))), (4, .int (nI (i))), (0, .ref (z 0)), (1, .long (key)), (3, .int (nI (len)))]) C.hx C.hb dX3_put_195 hl (by decide) rfl (fun ls hl => ?_)
              refine lv_aload_n C.hx C.hb dX3_put_197 rfl (lv_at hl 4 rfl) ?_
              refine lv_iload C.hx C.hb dX3_put_198 (lv_at hl 0 rfl) ?_
              refine n_if_eq (tgt := 210) C dX3_put_200 (by decide) (by decide) (fun _ => ?_) (fun h => absurd h (by decide))
              refine lv_iload C.hx C.hb dX3_put_210 (lv_at hl 3 rfl) ?_
              refine lv_aload_n C.hx C.hb dX3_put_212 rfl (lv_at hl 4 rfl) ?_
              refine x3g_12 C X (x := nI (nx)) d12 dX3_put_213 ?_
              refine lv_aload_n C.hx C.hb dX3_put_216 rfl (lv_at hl 4 rfl) ?_
              refine x3g_10 C X dX3_put_217 ?_
              refine lv_iload C.hx C.hb dX3_put_220 (lv_at hl 3 rfl) ?_
              refine x3l_5 C X (by first | omega | exact hbo _ | exact hbi _ | exact hba _ | exact hbl _) dX3_put_222 ?_
              refine x3_cw (As := [.int (nI (i)), .int (nI (nx)), .int (nI (ga i))]) (rest := []) C X (c3_open (at_ := i) (num := nx) (ar := (ga i)) (m0 := S.length) (by omega) d11 (by omega)) wy_X3_open ts_39 tw_475 rfl ⟨by decide, by decide⟩ rfl hl.1 rfl (Nat.le_of_ble_eq_true rfl) ⟨Nat.le_refl _, Nat.le_refl _⟩ dX3_put_223 (fun r v' fk' gl' go' gi' ga' gs' H locs hp X => ?_)
              obtain ⟨rfl, rfl, rfl, rfl, rfl, rfl, rfl, rfl⟩ := hp
              refine W.eq (g2 := F0 m 226 ls []) rfl ?_
              refine lv_aload_n C.hx C.hb dX3_put_226 rfl (lv_at hl 4 rfl) ?_
              refine lv_lload_n C.hx C.hb dX3_put_227 rfl (lv_at hl 5 rfl) ?_
              refine lv_iload_n C.hx C.hb dX3_put_228 rfl (lv_at hl 6 rfl) ?_
              refine lv_aload_n C.hx C.hb dX3_put_229 rfl (lv_at hl 4 rfl) ?_
              refine x3g_12 C X (x := nI (nx)) d12 dX3_put_230 ?_
              refine x3_cw (As := [.long (key), .int (nI (len)), .int (nI (nx))]) (rest := []) C X (c3_insert ((⟨by omega, d8, r1⟩ : Ct0 (upd v 11 (nI (S.length + 1))) fk K)) (key := key) (len := len) (itv := nx) (t := (ngt K key)) (lsT_n c1 hh)) wy_X3_insert ts_34 tw_455 rfl ⟨by decide, by decide⟩ rfl hl.1 rfl (Nat.le_of_ble_eq_true rfl) ⟨Nat.le_refl _, Nat.le_refl _⟩ dX3_put_233 (fun r v' fk' gl' go' gi' ga' gs' H locs hp X => ?_)
              obtain ⟨rfl, rfl, rfl, rfl, rfl, rfl, rfl, rfl⟩ := hp
              refine W.eq (g2 := F0 m 236 ls []) rfl ?_
              refine lv_aload_n C.hx C.hb dX3_put_236 rfl (lv_at hl 4 rfl) ?_
              refine lv_dup C.hx C.hb dX3_put_237 rfl ?_
              refine x3g_12 C X (x := nI (nx)) d12 dX3_put_238 ?_
              refine lv_iconst (v := nI (1)) C.hx C.hb dX3_put_241 (by decide) ?_
              refine n_add C dX3_put_242 ?_
              refine x3p_12 C X dX3_put_243 (fun H locs X => ?_)
              refine lv_aload_n C.hx C.hb dX3_put_246 rfl (lv_at hl 4 rfl) ?_
              refine x3g_19 C X dX3_put_247 ?_
              refine lv_iconst (v := nI (0)) C.hx C.hb dX3_put_250 (by decide) ?_
              refine lv_dup2_11 C.hx C.hb dX3_put_251 rfl rfl ?_
              refine x3l_6 C X (by first | omega | exact hbo _ | exact hbi _ | exact hba _ | exact hbl _) dX3_put_252 ?_
              refine lv_iconst (v := nI (1)) C.hx C.hb dX3_put_253 (by decide) ?_
              refine lv_iadd C.hx C.hb dX3_put_254 ?_
              refine x3t_6 C X (by first | omega | exact hbo _ | exact hbi _ | exact hba _ | exact hbl _) dX3_put_255 (fun H locs X => ?_)
              refine lv_iconst (v := nI (1)) C.hx C.hb dX3_put_256 (by decide) ?_
              have hkk : kos P S wd i = 1 := hko.2.1.mpr (by omega)
              rw [if_neg (by decide), if_pos hkk, own_S (by have := ownAt_c K S key i; omega)] at hT
              have hot := own_t (key := key) c1 hh hpb.1 c94 (by omega) hpb.2.1 hpb.2.2
              have eow : ownAt K S key i = i := by
                unfold ownAt
                rw [if_neg (by rw [← r1 _ (by omega)]; exact Int64.not_lt.mpr c186)]
              rw [eow] at hT hot
              have hcore := hC.own hk hrm (key := key) (i := i) (o := i) (t := ngt K key) (len := len) hpb.1 (by omega) c94 hot (srt_ins c1 hh) hl1 hl2 (by omega) (by omega)
              exact ret3_i C X ⟨1, _, _, _, _, _, _, _, hT.symm, rfl, nx + 1, ac, 0, 0, 0, 0, A, hcore, ⟨a0, a1, a2, a3, rfl, a10, a11, (congrArg (· + nI 1) a15), a16, a17, a18, d1, d2, d3, d4, by rw [ins_len hng]; rfl, by rw [ins_len (by omega)]; rfl, rfl, d13, d14, d17, fun h => absurd h (by decide)⟩, ⟨by decide, by decide, fun h => absurd h (by decide)⟩, by omega, by omega⟩ dX3_put_257
            · refine lv_iconst (v := nI (1)) C.hx C.hb dX3_put_190 (by decide) ?_
              refine lv_goto (tgt := 195) C.hx C.hb dX3_put_191 (by decide) ?_
              refine lv_istore (lv' := [(7, .int (nI (1))), (6, .int (nI (1))), (5, .int (nI (1))), (4, .int (nI (i))), (0, .ref (z 0)), (1, .long (key)), (3, .int (nI (len)))]) C.hx C.hb dX3_put_195 hl (by decide) rfl (fun ls hl => ?_)
              refine lv_aload_n C.hx C.hb dX3_put_197 rfl (lv_at hl 4 rfl) ?_
              refine lv_iload C.hx C.hb dX3_put_198 (lv_at hl 0 rfl) ?_
              refine n_if_eq (tgt := 210) C dX3_put_200 (by decide) (by decide) (fun h => absurd h (by decide)) (fun _ => ?_)
              refine lv_iload C.hx C.hb dX3_put_203 (lv_at hl 3 rfl) ?_
              refine lv_iconst (v := nI (1)) C.hx C.hb dX3_put_205 (by decide) ?_
              refine n_add C dX3_put_206 ?_
              refine lv_goto (tgt := 212) C.hx C.hb dX3_put_207 (by decide) ?_
              refine lv_aload_n C.hx C.hb dX3_put_212 rfl (lv_at hl 4 rfl) ?_
              refine x3g_12 C X (x := nI (nx)) d12 dX3_put_213 ?_
              refine lv_aload_n C.hx C.hb dX3_put_216 rfl (lv_at hl 4 rfl) ?_
              refine x3g_10 C X dX3_put_217 ?_
              refine lv_iload C.hx C.hb dX3_put_220 (lv_at hl 3 rfl) ?_
              refine x3l_5 C X (by first | omega | exact hbo _ | exact hbi _ | exact hba _ | exact hbl _) dX3_put_222 ?_
              refine x3_cw (As := [.int (nI (i + 1)), .int (nI (nx)), .int (nI (ga i))]) (rest := []) C X (c3_open (at_ := (i + 1)) (num := nx) (ar := (ga i)) (m0 := S.length) (by omega) d11 (by omega)) wy_X3_open ts_39 tw_475 rfl ⟨by decide, by decide⟩ rfl hl.1 rfl (Nat.le_of_ble_eq_true rfl) ⟨Nat.le_refl _, Nat.le_refl _⟩ dX3_put_223 (fun r v' fk' gl' go' gi' ga' gs' H locs hp X => ?_)
              obtain ⟨rfl, rfl, rfl, rfl, rfl, rfl, rfl, rfl⟩ := hp
              refine W.eq (g2 := F0 m 226 ls []) rfl ?_
              refine lv_aload_n C.hx C.hb dX3_put_226 rfl (lv_at hl 4 rfl) ?_
              refine lv_lload_n C.hx C.hb dX3_put_227 rfl (lv_at hl 5 rfl) ?_
              refine lv_iload_n C.hx C.hb dX3_put_228 rfl (lv_at hl 6 rfl) ?_
              refine lv_aload_n C.hx C.hb dX3_put_229 rfl (lv_at hl 4 rfl) ?_
              refine x3g_12 C X (x := nI (nx)) d12 dX3_put_230 ?_
              refine x3_cw (As := [.long (key), .int (nI (len)), .int (nI (nx))]) (rest := []) C X (c3_insert ((⟨by omega, d8, r1⟩ : Ct0 (upd v 11 (nI (S.length + 1))) fk K)) (key := key) (len := len) (itv := nx) (t := (ngt K key)) (lsT_n c1 hh)) wy_X3_insert ts_34 tw_455 rfl ⟨by decide, by decide⟩ rfl hl.1 rfl (Nat.le_of_ble_eq_true rfl) ⟨Nat.le_refl _, Nat.le_refl _⟩ dX3_put_233 (fun r v' fk' gl' go' gi' ga' gs' H locs hp X => ?_)
              obtain ⟨rfl, rfl, rfl, rfl, rfl, rfl, rfl, rfl⟩ := hp
              refine W.eq (g2 := F0 m 236 ls []) rfl ?_
              refine lv_aload_n C.hx C.hb dX3_put_236 rfl (lv_at hl 4 rfl) ?_
              refine lv_dup C.hx C.hb dX3_put_237 rfl ?_
              refine x3g_12 C X (x := nI (nx)) d12 dX3_put_238 ?_
              refine lv_iconst (v := nI (1)) C.hx C.hb dX3_put_241 (by decide) ?_
              refine n_add C dX3_put_242 ?_
              refine x3p_12 C X dX3_put_243 (fun H locs X => ?_)
              refine lv_aload_n C.hx C.hb dX3_put_246 rfl (lv_at hl 4 rfl) ?_
              refine x3g_19 C X dX3_put_247 ?_
              refine lv_iconst (v := nI (0)) C.hx C.hb dX3_put_250 (by decide) ?_
              refine lv_dup2_11 C.hx C.hb dX3_put_251 rfl rfl ?_
              refine x3l_6 C X (by first | omega | exact hbo _ | exact hbi _ | exact hba _ | exact hbl _) dX3_put_252 ?_
              refine lv_iconst (v := nI (1)) C.hx C.hb dX3_put_253 (by decide) ?_
              refine lv_iadd C.hx C.hb dX3_put_254 ?_
              refine x3t_6 C X (by first | omega | exact hbo _ | exact hbi _ | exact hba _ | exact hbl _) dX3_put_255 (fun H locs X => ?_)
              refine lv_iconst (v := nI (1)) C.hx C.hb dX3_put_256 (by decide) ?_
              have hkk : kos P S wd i = 1 := hko.2.1.mpr (by omega)
              rw [if_neg (by decide), if_pos hkk, own_S (by have := ownAt_c K S key i; omega)] at hT
              have hot := own_t (key := key) c1 hh hpb.1 c94 (by omega) hpb.2.1 hpb.2.2
              have eow : ownAt K S key i = i + 1 := by
                unfold ownAt
                rw [if_pos (by rw [← r1 _ (by omega)]; exact c186)]
              rw [eow] at hT hot
              have hcore := hC.own hk hrm (key := key) (i := i) (o := i + 1) (t := ngt K key) (len := len) hpb.1 (by omega) c94 hot (srt_ins c1 hh) hl1 hl2 (by omega) (by omega)
              exact ret3_i C X ⟨1, _, _, _, _, _, _, _, hT.symm, rfl, nx + 1, ac, 0, 0, 0, 0, A, hcore, ⟨a0, a1, a2, a3, rfl, a10, a11, (congrArg (· + nI 1) a15), a16, a17, a18, d1, d2, d3, d4, by rw [ins_len hng]; rfl, by rw [ins_len (by omega)]; rfl, rfl, d13, d14, d17, fun h => absurd h (by decide)⟩, ⟨by decide, by decide, fun h => absurd h (by decide)⟩, by omega, by omega⟩ dX3_put_257
      · refine lv_aload_n C.hx C.hb dX3_put_72 rfl (lv_at hl 1 rfl) ?_
        refine lv_lload_n C.hx C.hb dX3_put_73 rfl (lv_at hl 2 rfl) ?_
        refine lv_iload_n C.hx C.hb dX3_put_74 rfl (lv_at hl 3 rfl) ?_
        refine lv_aload_n C.hx C.hb dX3_put_75 rfl (lv_at hl 1 rfl) ?_
        refine x3g_9 C X dX3_put_76 ?_
        refine lv_iload C.hx C.hb dX3_put_79 (lv_at hl 0 rfl) ?_
        refine x3l_4 C X (by first | omega | exact hbo _ | exact hbi _ | exact hba _ | exact hbl _) dX3_put_81 ?_
        refine x3_cw (As := [.long (key), .int (nI (len)), .int (nI (gi i))]) (rest := []) C X (c3_insert ((⟨by omega, d8, r1⟩ : Ct0 (v) fk K)) (key := key) (len := len) (itv := (gi i)) (t := (ngt K key)) (lsT_n c1 hh)) wy_X3_insert ts_34 tw_455 rfl ⟨by decide, by decide⟩ rfl hl.1 rfl (Nat.le_of_ble_eq_true rfl) ⟨Nat.le_refl _, Nat.le_refl _⟩ dX3_put_82 (fun r v' fk' gl' go' gi' ga' gs' H locs hp X => ?_)
        obtain ⟨rfl, rfl, rfl, rfl, rfl, rfl, rfl, rfl⟩ := hp
        refine W.eq (g2 := F0 m 85 ls []) rfl ?_
        refine lv_iconst (v := nI (1)) C.hx C.hb dX3_put_85 (by decide) ?_
        rw [if_pos (by omega)] at hT
        have hcore := hC.ins1 hk hrm (key := key) (i := i) (t := ngt K key) (len := len) hpb.1 hpb.2.1 hpb.2.2 (srt_ins c1 hh) hl1 (by omega)
        exact ret3_i C X ⟨1, _, _, _, _, _, _, _, hT.symm, rfl, nx, ac, 0, 0, 0, 0, A, hcore, ⟨a0, a1, a2, a3, a9, a10, a11, a15, a16, a17, a18, d1, d2, d3, d4, by rw [ins_len hng]; rfl, by rw [List.length_set]; exact d11, d12, d13, d14, d17, fun h => absurd h (by decide)⟩, ⟨by decide, by decide, fun h => absurd h (by decide)⟩, by omega, by omega⟩ dX3_put_86
    · refine lv_aload_n C.hx C.hb dX3_put_50 rfl (lv_at hl 0 rfl) ?_
      refine lv_lload_n C.hx C.hb dX3_put_51 rfl (lv_at hl 1 rfl) ?_
      refine x3_cr (As := [.long (key)]) (rest := []) C X (c3_belongs h3 hb) wy_X3_belongs ts_31 tw_443 rfl ⟨by decide, by decide⟩ rfl hl.1 rfl (Nat.le_of_ble_eq_true rfl) ⟨Nat.le_refl _, Nat.le_refl _⟩ dX3_put_52 (fun r hp => ?_)
      subst hp
      refine W.eq (g2 := F0 m 55 ls [.int (nI (i))]) rfl ?_
      refine lv_istore (lv' := [(4, .int (nI (i))), (0, .ref (z 0)), (1, .long (key)), (3, .int (nI (len)))]) C.hx C.hb dX3_put_55 hl (by decide) rfl (fun ls hl => ?_)
      refine lv_aload_n C.hx C.hb dX3_put_57 rfl (lv_at hl 1 rfl) ?_
      refine lv_iload C.hx C.hb dX3_put_58 (lv_at hl 0 rfl) ?_
      refine x3_cr (As := [.int (nI (i))]) (rest := []) C X (c3_lengthsOf (i := i) h3 (by omega)) wy_X3_lengthsOf ts_33 tw_451 rfl ⟨by decide, by decide⟩ rfl hl.1 rfl (Nat.le_of_ble_eq_true rfl) ⟨Nat.le_refl _, Nat.le_refl _⟩ dX3_put_60 (fun r hp => ?_)
      subst hp
      refine W.eq (g2 := F0 m 63 ls [.int (nI (lin L S i))]) rfl ?_
      refine lv_iload_n C.hx C.hb dX3_put_63 rfl (lv_at hl 3 rfl) ?_
      refine n_add C dX3_put_64 ?_
      refine lv_aload_n C.hx C.hb dX3_put_65 rfl (lv_at hl 1 rfl) ?_
      refine x3g_1 C X (x := nI (rm)) d1 dX3_put_66 ?_
      refine n_icmp_gt (tgt := 87) C dX3_put_69 (by decide) (by first | omega | exact hbo _ | exact hbi _ | exact hba _ | exact hbl _) (by first | omega | exact hbo _ | exact hbi _ | exact hba _ | exact hbl _) (fun c69 => ?_) (fun c69 => ?_)
      · have hs1 : 1 ≤ S.getD i 0 := by
          rcases Nat.eq_zero_or_pos (S.getD i 0) with q | q
          · exfalso
            have : lin L S i = 0 := by unfold lin; rw [q]; exact sm_end (Or.inl (Nat.le_refl _))
            omega
          · exact q
        rw [if_neg (by omega)] at hT
        refine lv_aload_n C.hx C.hb dX3_put_87 rfl (lv_at hl 1 rfl) ?_
        refine lv_iload C.hx C.hb dX3_put_88 (lv_at hl 0 rfl) ?_
        refine x3_cr (As := [.int (nI (i))]) (rest := []) C X (c3_recordsOf (i := i) h3 (by omega)) wy_X3_recordsOf ts_35 tw_459 rfl ⟨by decide, by decide⟩ rfl hl.1 rfl (Nat.le_of_ble_eq_true rfl) ⟨Nat.le_refl _, Nat.le_refl _⟩ dX3_put_90 (fun r hp => ?_)
        subst hp
        refine W.eq (g2 := F0 m 93 ls [.int (nI (S.getD i 0))]) rfl ?_
        refine lv_iconst (v := nI (1)) C.hx C.hb dX3_put_93 (by decide) ?_
        refine n_icmp_ne (tgt := 101) C dX3_put_94 (by decide) (by first | omega | exact hbo _ | exact hbi _ | exact hba _ | exact hbl _) (by first | omega | exact hbo _ | exact hbi _ | exact hba _ | exact hbl _) (fun c94 => ?_) (fun c94 => ?_)
        · refine lv_iconst (v := nI (0)) C.hx C.hb dX3_put_101 (by decide) ?_
          refine lv_istore (lv' := [(5, .int (nI (0))), (4, .int (nI (i))), (0, .ref (z 0)), (1, .long (key)), (3, .int (nI (len)))]) C.hx C.hb dX3_put_102 hl (by decide) rfl (fun ls hl => ?_)
          refine lv_aload_n C.hx C.hb dX3_put_104 rfl (lv_at hl 2 rfl) ?_
          refine lv_iload C.hx C.hb dX3_put_105 (lv_at hl 1 rfl) ?_
          refine x3_cr (As := [.int (nI (i))]) (rest := []) C X (c3_widthOf (i := i) h3 (by omega)) wy_X3_widthOf ts_36 tw_463 rfl ⟨by decide, by decide⟩ rfl hl.1 rfl (Nat.le_of_ble_eq_true rfl) ⟨Nat.le_refl _, Nat.le_refl _⟩ dX3_put_107 (fun r hp => ?_)
          subst hp
          refine W.eq (g2 := F0 m 110 ls [.int (nI (P.getD (gIx P i) 0))]) rfl ?_
          refine lv_aload_n C.hx C.hb dX3_put_110 rfl (lv_at hl 2 rfl) ?_
          refine x3g_2 C X (x := nI (wd)) d2 dX3_put_111 ?_
          refine n_icmp_ge (tgt := 121) C dX3_put_114 (by decide) (by first | omega | exact hbo _ | exact hbi _ | exact hba _ | exact hbl _) (by first | omega | exact hbo _ | exact hbi _ | exact hba _ | exact hbl _) (fun c114 => ?_) (fun c114 => ?_)
          · refine lv_iconst (v := nI (0)) C.hx C.hb dX3_put_121 (by decide) ?_
            refine lv_istore (lv' := [(6, .int (nI (0))), (5, .int (nI (0))), (4, .int (nI (i))), (0, .ref (z 0)), (1, .long (key)), (3, .int (nI (len)))]) C.hx C.hb dX3_put_122 hl (by decide) rfl (fun ls hl => ?_)
            refine lv_aload_n C.hx C.hb dX3_put_124 rfl (lv_at hl 3 rfl) ?_
            refine lv_iload C.hx C.hb dX3_put_125 (lv_at hl 0 rfl) ?_
            refine n_if_ne (tgt := 134) C dX3_put_127 (by decide) (by decide) (fun h => absurd h (by decide)) (fun _ => ?_)
            refine lv_iconst (v := nI (3)) C.hx C.hb dX3_put_130 (by decide) ?_
            refine lv_goto (tgt := 144) C.hx C.hb dX3_put_131 (by decide) ?_
            refine lv_iload C.hx C.hb dX3_put_144 (lv_at hl 2 rfl) ?_
            refine x3_cw (As := [.int (nI (3)), .int (nI (i))]) (rest := []) C X (c3_isCut_y (kk := 3) (i := i) (tc := tc) (nx := nx) d14 d12 (by omega) htc (by decide)) wy_X3_isCut ts_37 tw_467 rfl ⟨by decide, by decide⟩ rfl hl.1 rfl (Nat.le_of_ble_eq_true rfl) ⟨Nat.le_refl _, Nat.le_refl _⟩ dX3_put_146 (fun r v' fk' gl' go' gi' ga' gs' H locs hp X => ?_)
            obtain ⟨rfl, rfl, rfl, rfl, rfl, rfl, rfl, rfl⟩ := hp
            refine W.eq (g2 := F0 m 149 ls [.int (nI (1))]) rfl ?_
            refine n_if_eq (tgt := 155) C dX3_put_149 (by decide) (by decide) (fun h => absurd h (by decide)) (fun _ => ?_)
            refine lv_bipush (v := (-5)) C.hx C.hb dX3_put_152 (by decide) ?_
            have hkk : kos P S wd i = 2 := hko.1.mpr (by omega)
            rw [if_pos (by omega), hkk] at hT
            have ebp : cbump tc 2 = (if 2 < tc ∧ (3 : Nat) < 3 then 1 else 0) := by
              unfold cbump
              first | rfl | (split <;> split <;> omega)
            have erw : crow tc = (if tc = 4 then 1 else 0) := by
              unfold crow
              split <;> split <;> omega
            have ebb : cbump tc 2 ≤ 1 ∧ (3 < tc → 2 ≠ 2 → cbump tc 2 = 1) := by
              unfold cbump
              split <;> omega
            refine ret3_i C X ⟨0, _, _, _, _, _, _, _, hT.symm, rfl, nx + cbump tc 2, ac, 0, 1, crow tc, i, A, ⟨hR, hJ, c1, c2, c3, c4, fun x hx => Nat.lt_of_lt_of_le (c5 x hx) (Nat.le_add_right _ _), c6, b1, b2, b3, b4⟩, ⟨a0, a1, a2, a3, rfl, rfl, rfl, a15, a16, a17, a18, d1, d2, d3, d4, d8, d11, by rw [ebp]; rfl, d13, rfl, rfl, fun _ => ⟨rfl, rfl, rfl, rfl, by rw [erw]; rfl⟩⟩, ⟨by decide, by decide, fun _ => ⟨by unfold crow; split <;> decide, by omega, hkk.symm, hs1, fun hr0 hk0 => by have e4 : 3 < tc := (by unfold crow at hr0; split at hr0; assumption; exact absurd hr0 (by decide)); have eb1 := ebb.2 e4 (by omega); exact ⟨by omega, fun x hx => by have := c5 x hx; omega⟩⟩⟩, by omega, by omega⟩ dX3_put_154
          · refine lv_iconst (v := nI (1)) C.hx C.hb dX3_put_117 (by decide) ?_
            refine lv_goto (tgt := 122) C.hx C.hb dX3_put_118 (by decide) ?_
            refine lv_istore (lv' := [(6, .int (nI (1))), (5, .int (nI (0))), (4, .int (nI (i))), (0, .ref (z 0)), (1, .long (key)), (3, .int (nI (len)))]) C.hx C.hb dX3_put_122 hl (by decide) rfl (fun ls hl => ?_)
            refine lv_aload_n C.hx C.hb dX3_put_124 rfl (lv_at hl 3 rfl) ?_
            refine lv_iload C.hx C.hb dX3_put_125 (lv_at hl 0 rfl) ?_
            refine n_if_ne (tgt := 134) C dX3_put_127 (by decide) (by decide) (fun _ => ?_) (fun h => absurd h (by decide))
            refine lv_iload C.hx C.hb dX3_put_134 (lv_at hl 1 rfl) ?_
            refine n_if_eq (tgt := 143) C dX3_put_136 (by decide) (by decide) (fun _ => ?_) (fun h => absurd h (by decide))
            refine lv_iconst (v := nI (1)) C.hx C.hb dX3_put_143 (by decide) ?_
            refine lv_iload C.hx C.hb dX3_put_144 (lv_at hl 2 rfl) ?_
            refine x3_cw (As := [.int (nI (1)), .int (nI (i))]) (rest := []) C X (c3_isCut_y (kk := 1) (i := i) (tc := tc) (nx := nx) d14 d12 (by omega) htc (by decide)) wy_X3_isCut ts_37 tw_467 rfl ⟨by decide, by decide⟩ rfl hl.1 rfl (Nat.le_of_ble_eq_true rfl) ⟨Nat.le_refl _, Nat.le_refl _⟩ dX3_put_146 (fun r v' fk' gl' go' gi' ga' gs' H locs hp X => ?_)
            obtain ⟨rfl, rfl, rfl, rfl, rfl, rfl, rfl, rfl⟩ := hp
            refine W.eq (g2 := F0 m 149 ls [.int (nI (1))]) rfl ?_
            refine n_if_eq (tgt := 155) C dX3_put_149 (by decide) (by decide) (fun h => absurd h (by decide)) (fun _ => ?_)
            refine lv_bipush (v := (-5)) C.hx C.hb dX3_put_152 (by decide) ?_
            have hkk : kos P S wd i = 0 := hko.2.2.mpr (by omega)
            rw [if_pos (by omega), hkk] at hT
            have ebp : cbump tc 0 = (if 2 < tc ∧ (1 : Nat) < 3 then 1 else 0) := by
              unfold cbump
              first | rfl | (split <;> split <;> omega)
            have erw : crow tc = (if tc = 4 then 1 else 0) := by
              unfold crow
              split <;> split <;> omega
            have ebb : cbump tc 0 ≤ 1 ∧ (3 < tc → 0 ≠ 2 → cbump tc 0 = 1) := by
              unfold cbump
              split <;> omega
            refine ret3_i C X ⟨0, _, _, _, _, _, _, _, hT.symm, rfl, nx + cbump tc 0, ac, 0, 1, crow tc, i, A, ⟨hR, hJ, c1, c2, c3, c4, fun x hx => Nat.lt_of_lt_of_le (c5 x hx) (Nat.le_add_right _ _), c6, b1, b2, b3, b4⟩, ⟨a0, a1, a2, a3, rfl, rfl, rfl, a15, a16, a17, a18, d1, d2, d3, d4, d8, d11, by rw [ebp]; rfl, d13, rfl, rfl, fun _ => ⟨rfl, rfl, rfl, rfl, by rw [erw]; rfl⟩⟩, ⟨by decide, by decide, fun _ => ⟨by unfold crow; split <;> decide, by omega, hkk.symm, hs1, fun hr0 hk0 => by have e4 : 3 < tc := (by unfold crow at hr0; split at hr0; assumption; exact absurd hr0 (by decide)); have eb1 := ebb.2 e4 (by omega); exact ⟨by omega, fun x hx => by have := c5 x hx; omega⟩⟩⟩, by omega, by omega⟩ dX3_put_154
        · refine lv_iconst (v := nI (1)) C.hx C.hb dX3_put_97 (by decide) ?_
          refine lv_goto (tgt := 102) C.hx C.hb dX3_put_98 (by decide) ?_
          refine lv_istore (lv' := [(5, .int (nI (1))), (4, .int (nI (i))), (0, .ref (z 0)), (1, .long (key)), (3, .int (nI (len)))]) C.hx C.hb dX3_put_102 hl (by decide) rfl (fun ls hl => ?_)
          refine lv_aload_n C.hx C.hb dX3_put_104 rfl (lv_at hl 2 rfl) ?_
          refine lv_iload C.hx C.hb dX3_put_105 (lv_at hl 1 rfl) ?_
          refine x3_cr (As := [.int (nI (i))]) (rest := []) C X (c3_widthOf (i := i) h3 (by omega)) wy_X3_widthOf ts_36 tw_463 rfl ⟨by decide, by decide⟩ rfl hl.1 rfl (Nat.le_of_ble_eq_true rfl) ⟨Nat.le_refl _, Nat.le_refl _⟩ dX3_put_107 (fun r hp => ?_)
          subst hp
          refine W.eq (g2 := F0 m 110 ls [.int (nI (P.getD (gIx P i) 0))]) rfl ?_
          refine lv_aload_n C.hx C.hb dX3_put_110 rfl (lv_at hl 2 rfl) ?_
          refine x3g_2 C X (x := nI (wd)) d2 dX3_put_111 ?_
          refine n_icmp_ge (tgt := 121) C dX3_put_114 (by decide) (by first | omega | exact hbo _ | exact hbi _ | exact hba _ | exact hbl _) (by first | omega | exact hbo _ | exact hbi _ | exact hba _ | exact hbl _) (fun c114 => ?_) (fun c114 => ?_)
          · refine lv_iconst (v := nI (0)) C.hx C.hb dX3_put_121 (by decide) ?_
            refine lv_istore (lv' := [(6, .int (nI (0))), (5, .int (nI (1))), (4, .int (nI (i))), (0, .ref (z 0)), (1, .long (key)), (3, .int (nI (len)))]) C.hx C.hb dX3_put_122 hl (by decide) rfl (fun ls hl => ?_)
            refine lv_aload_n C.hx C.hb dX3_put_124 rfl (lv_at hl 3 rfl) ?_
            refine lv_iload C.hx C.hb dX3_put_125 (lv_at hl 0 rfl) ?_
            refine n_if_ne (tgt := 134) C dX3_put_127 (by decide) (by decide) (fun h => absurd h (by decide)) (fun _ => ?_)
            refine lv_iconst (v := nI (3)) C.hx C.hb dX3_put_130 (by decide) ?_
            refine lv_goto (tgt := 144) C.hx C.hb dX3_put_131 (by decide) ?_
            refine lv_iload C.hx C.hb dX3_put_144 (lv_at hl 2 rfl) ?_
            refine x3_cw (As := [.int (nI (3)), .int (nI (i))]) (rest := []) C X (c3_isCut_y (kk := 3) (i := i) (tc := tc) (nx := nx) d14 d12 (by omega) htc (by decide)) wy_X3_isCut ts_37 tw_467 rfl ⟨by decide, by decide⟩ rfl hl.1 rfl (Nat.le_of_ble_eq_true rfl) ⟨Nat.le_refl _, Nat.le_refl _⟩ dX3_put_146 (fun r v' fk' gl' go' gi' ga' gs' H locs hp X => ?_)
            obtain ⟨rfl, rfl, rfl, rfl, rfl, rfl, rfl, rfl⟩ := hp
            refine W.eq (g2 := F0 m 149 ls [.int (nI (1))]) rfl ?_
            refine n_if_eq (tgt := 155) C dX3_put_149 (by decide) (by decide) (fun h => absurd h (by decide)) (fun _ => ?_)
            refine lv_bipush (v := (-5)) C.hx C.hb dX3_put_152 (by decide) ?_
            have hkk : kos P S wd i = 2 := hko.1.mpr (by omega)
            rw [if_pos (by omega), hkk] at hT
            have ebp : cbump tc 2 = (if 2 < tc ∧ (3 : Nat) < 3 then 1 else 0) := by
              unfold cbump
              first | rfl | (split <;> split <;> omega)
            have erw : crow tc = (if tc = 4 then 1 else 0) := by
              unfold crow
              split <;> split <;> omega
            have ebb : cbump tc 2 ≤ 1 ∧ (3 < tc → 2 ≠ 2 → cbump tc 2 = 1) := by
              unfold cbump
              split <;> omega
            refine ret3_i C X ⟨0, _, _, _, _, _, _, _, hT.symm, rfl, nx + cbump tc 2, ac, 0, 1, crow tc, i, A, ⟨hR, hJ, c1, c2, c3, c4, fun x hx => Nat.lt_of_lt_of_le (c5 x hx) (Nat.le_add_right _ _), c6, b1, b2, b3, b4⟩, ⟨a0, a1, a2, a3, rfl, rfl, rfl, a15, a16, a17, a18, d1, d2, d3, d4, d8, d11, by rw [ebp]; rfl, d13, rfl, rfl, fun _ => ⟨rfl, rfl, rfl, rfl, by rw [erw]; rfl⟩⟩, ⟨by decide, by decide, fun _ => ⟨by unfold crow; split <;> decide, by omega, hkk.symm, hs1, fun hr0 hk0 => by have e4 : 3 < tc := (by unfold crow at hr0; split at hr0; assumption; exact absurd hr0 (by decide)); have eb1 := ebb.2 e4 (by omega); exact ⟨by omega, fun x hx => by have := c5 x hx; omega⟩⟩⟩, by omega, by omega⟩ dX3_put_154
          · refine lv_iconst (v := nI (1)) C.hx C.hb dX3_put_117 (by decide) ?_
            refine lv_goto (tgt := 122) C.hx C.hb dX3_put_118 (by decide) ?_
            refine lv_istore (lv' := [(6, .int (nI (1))), (5, .int (nI (1))), (4, .int (nI (i))), (0, .ref (z 0)), (1, .long (key)), (3, .int (nI (len)))]) C.hx C.hb dX3_put_122 hl (by decide) rfl (fun ls hl => ?_)
            refine lv_aload_n C.hx C.hb dX3_put_124 rfl (lv_at hl 3 rfl) ?_
            refine lv_iload C.hx C.hb dX3_put_125 (lv_at hl 0 rfl) ?_
            refine n_if_ne (tgt := 134) C dX3_put_127 (by decide) (by decide) (fun _ => ?_) (fun h => absurd h (by decide))
            refine lv_iload C.hx C.hb dX3_put_134 (lv_at hl 1 rfl) ?_
            refine n_if_eq (tgt := 143) C dX3_put_136 (by decide) (by decide) (fun h => absurd h (by decide)) (fun _ => ?_)
            refine lv_iconst (v := nI (2)) C.hx C.hb dX3_put_139 (by decide) ?_
            refine lv_goto (tgt := 144) C.hx C.hb dX3_put_140 (by decide) ?_
            refine lv_iload C.hx C.hb dX3_put_144 (lv_at hl 2 rfl) ?_
            refine x3_cw (As := [.int (nI (2)), .int (nI (i))]) (rest := []) C X (c3_isCut_y (kk := 2) (i := i) (tc := tc) (nx := nx) d14 d12 (by omega) htc (by decide)) wy_X3_isCut ts_37 tw_467 rfl ⟨by decide, by decide⟩ rfl hl.1 rfl (Nat.le_of_ble_eq_true rfl) ⟨Nat.le_refl _, Nat.le_refl _⟩ dX3_put_146 (fun r v' fk' gl' go' gi' ga' gs' H locs hp X => ?_)
            obtain ⟨rfl, rfl, rfl, rfl, rfl, rfl, rfl, rfl⟩ := hp
            refine W.eq (g2 := F0 m 149 ls [.int (nI (1))]) rfl ?_
            refine n_if_eq (tgt := 155) C dX3_put_149 (by decide) (by decide) (fun h => absurd h (by decide)) (fun _ => ?_)
            refine lv_bipush (v := (-5)) C.hx C.hb dX3_put_152 (by decide) ?_
            have hkk : kos P S wd i = 1 := hko.2.1.mpr (by omega)
            rw [if_pos (by omega), hkk] at hT
            have ebp : cbump tc 1 = (if 2 < tc ∧ (2 : Nat) < 3 then 1 else 0) := by
              unfold cbump
              first | rfl | (split <;> split <;> omega)
            have erw : crow tc = (if tc = 4 then 1 else 0) := by
              unfold crow
              split <;> split <;> omega
            have ebb : cbump tc 1 ≤ 1 ∧ (3 < tc → 1 ≠ 2 → cbump tc 1 = 1) := by
              unfold cbump
              split <;> omega
            refine ret3_i C X ⟨0, _, _, _, _, _, _, _, hT.symm, rfl, nx + cbump tc 1, ac, 0, 1, crow tc, i, A, ⟨hR, hJ, c1, c2, c3, c4, fun x hx => Nat.lt_of_lt_of_le (c5 x hx) (Nat.le_add_right _ _), c6, b1, b2, b3, b4⟩, ⟨a0, a1, a2, a3, rfl, rfl, rfl, a15, a16, a17, a18, d1, d2, d3, d4, d8, d11, by rw [ebp]; rfl, d13, rfl, rfl, fun _ => ⟨rfl, rfl, rfl, rfl, by rw [erw]; rfl⟩⟩, ⟨by decide, by decide, fun _ => ⟨by unfold crow; split <;> decide, by omega, hkk.symm, hs1, fun hr0 hk0 => by have e4 : 3 < tc := (by unfold crow at hr0; split at hr0; assumption; exact absurd hr0 (by decide)); have eb1 := ebb.2 e4 (by omega); exact ⟨by omega, fun x hx => by have := c5 x hx; omega⟩⟩⟩, by omega, by omega⟩ dX3_put_154
      · refine lv_aload_n C.hx C.hb dX3_put_72 rfl (lv_at hl 1 rfl) ?_
        refine lv_lload_n C.hx C.hb dX3_put_73 rfl (lv_at hl 2 rfl) ?_
        refine lv_iload_n C.hx C.hb dX3_put_74 rfl (lv_at hl 3 rfl) ?_
        refine lv_aload_n C.hx C.hb dX3_put_75 rfl (lv_at hl 1 rfl) ?_
        refine x3g_9 C X dX3_put_76 ?_
        refine lv_iload C.hx C.hb dX3_put_79 (lv_at hl 0 rfl) ?_
        refine x3l_4 C X (by first | omega | exact hbo _ | exact hbi _ | exact hba _ | exact hbl _) dX3_put_81 ?_
        refine x3_cw (As := [.long (key), .int (nI (len)), .int (nI (gi i))]) (rest := []) C X (c3_insert ((⟨by omega, d8, r1⟩ : Ct0 (v) fk K)) (key := key) (len := len) (itv := (gi i)) (t := (ngt K key)) (lsT_n c1 hh)) wy_X3_insert ts_34 tw_455 rfl ⟨by decide, by decide⟩ rfl hl.1 rfl (Nat.le_of_ble_eq_true rfl) ⟨Nat.le_refl _, Nat.le_refl _⟩ dX3_put_82 (fun r v' fk' gl' go' gi' ga' gs' H locs hp X => ?_)
        obtain ⟨rfl, rfl, rfl, rfl, rfl, rfl, rfl, rfl⟩ := hp
        refine W.eq (g2 := F0 m 85 ls []) rfl ?_
        refine lv_iconst (v := nI (1)) C.hx C.hb dX3_put_85 (by decide) ?_
        rw [if_pos (by omega)] at hT
        have hcore := hC.ins1 hk hrm (key := key) (i := i) (t := ngt K key) (len := len) hpb.1 hpb.2.1 hpb.2.2 (srt_ins c1 hh) hl1 (by omega)
        exact ret3_i C X ⟨1, _, _, _, _, _, _, _, hT.symm, rfl, nx, ac, tc, 0, 0, 0, A, hcore, ⟨a0, a1, a2, a3, a9, a10, a11, a15, a16, a17, a18, d1, d2, d3, d4, by rw [ins_len hng]; rfl, by rw [List.length_set]; exact d11, d12, d13, d14, d17, fun h => absurd h (by decide)⟩, ⟨htc, by decide, fun h => absurd h (by decide)⟩, by omega, by omega⟩ dX3_put_86
end
