section
-- ===== PART A: goes FIRST, ahead of the names: the tables' words, and 'selects' of the private methods out of them =====
/-- a private method of a class that the tables say can be made, by its rows of tables_1 -/
def lw_okq (q : MethodName × Nat) : Prop := (q.1.cls ≠ "java/lang/invoke/MethodHandle" ∧ q.1.cls ≠ "java/lang/invoke/VarHandle") ∧ Cond.instantiable q.1.cls q.2 ∈ tables_1 ∧ Cond.privateMethod q.1 ∈ tables_1 ∧ Cond.instanceMethod q.1 ∈ tables_1
theorem lw_p0 : lw_okq (⟨"IntervalSplits", "layInterval", "(I)V"⟩, 19) := ⟨⟨by decide +kernel, by decide +kernel⟩, List.mem_of_getElem? (i := 14) (by decide +kernel), List.mem_of_getElem? (i := 49) (by decide +kernel), List.mem_of_getElem? (i := 50) (by decide +kernel)⟩
theorem lw_p1 : lw_okq (⟨"IntervalSplits", "takeNumber", "()I"⟩, 19) := ⟨⟨by decide +kernel, by decide +kernel⟩, List.mem_of_getElem? (i := 14) (by decide +kernel), List.mem_of_getElem? (i := 53) (by decide +kernel), List.mem_of_getElem? (i := 54) (by decide +kernel)⟩
theorem lw_p2 : lw_okq (⟨"IntervalSplits$Row", "insertAt", "(IJ)V"⟩, 2) := ⟨⟨by decide +kernel, by decide +kernel⟩, List.mem_of_getElem? (i := 22) (by decide +kernel), List.mem_of_getElem? (i := 57) (by decide +kernel), List.mem_of_getElem? (i := 58) (by decide +kernel)⟩
theorem lw_p3 : lw_okq (⟨"IntervalSplits$Row", "intAt", "(I)I"⟩, 2) := ⟨⟨by decide +kernel, by decide +kernel⟩, List.mem_of_getElem? (i := 22) (by decide +kernel), List.mem_of_getElem? (i := 64) (by decide +kernel), List.mem_of_getElem? (i := 65) (by decide +kernel)⟩
theorem lw_p4 : lw_okq (⟨"IntervalSplits$Row", "at", "(I)J"⟩, 2) := ⟨⟨by decide +kernel, by decide +kernel⟩, List.mem_of_getElem? (i := 22) (by decide +kernel), List.mem_of_getElem? (i := 68) (by decide +kernel), List.mem_of_getElem? (i := 69) (by decide +kernel)⟩
theorem lw_p5 : lw_okq (⟨"IntervalSplits$Row", "raise", "(II)V"⟩, 2) := ⟨⟨by decide +kernel, by decide +kernel⟩, List.mem_of_getElem? (i := 22) (by decide +kernel), List.mem_of_getElem? (i := 72) (by decide +kernel), List.mem_of_getElem? (i := 73) (by decide +kernel)⟩
theorem lw_p6 : lw_okq (⟨"IntervalSplits", "positionOf", "(J)I"⟩, 19) := ⟨⟨by decide +kernel, by decide +kernel⟩, List.mem_of_getElem? (i := 14) (by decide +kernel), List.mem_of_getElem? (i := 138) (by decide +kernel), List.mem_of_getElem? (i := 139) (by decide +kernel)⟩
theorem lw_p7 : lw_okq (⟨"IntervalSplits", "notGreaterThan", "(J)I"⟩, 19) := ⟨⟨by decide +kernel, by decide +kernel⟩, List.mem_of_getElem? (i := 14) (by decide +kernel), List.mem_of_getElem? (i := 142) (by decide +kernel), List.mem_of_getElem? (i := 143) (by decide +kernel)⟩
theorem lw_p8 : lw_okq (⟨"IntervalSplits", "place", "(JI)Z"⟩, 19) := ⟨⟨by decide +kernel, by decide +kernel⟩, List.mem_of_getElem? (i := 14) (by decide +kernel), List.mem_of_getElem? (i := 147) (by decide +kernel), List.mem_of_getElem? (i := 148) (by decide +kernel)⟩
theorem lw_p9 : lw_okq (⟨"IntervalSplits$Row", "groupOf", "(I)I"⟩, 2) := ⟨⟨by decide +kernel, by decide +kernel⟩, List.mem_of_getElem? (i := 22) (by decide +kernel), List.mem_of_getElem? (i := 151) (by decide +kernel), List.mem_of_getElem? (i := 152) (by decide +kernel)⟩
theorem lw_p10 : lw_okq (⟨"IntervalSplits", "lengthsIn", "(I)I"⟩, 19) := ⟨⟨by decide +kernel, by decide +kernel⟩, List.mem_of_getElem? (i := 14) (by decide +kernel), List.mem_of_getElem? (i := 155) (by decide +kernel), List.mem_of_getElem? (i := 156) (by decide +kernel)⟩
theorem lw_p11 : lw_okq (⟨"IntervalSplits$Row", "sum", "(II)I"⟩, 2) := ⟨⟨by decide +kernel, by decide +kernel⟩, List.mem_of_getElem? (i := 22) (by decide +kernel), List.mem_of_getElem? (i := 159) (by decide +kernel), List.mem_of_getElem? (i := 160) (by decide +kernel)⟩
theorem lw_p12 : lw_okq (⟨"IntervalSplits", "insertRecord", "(IJI)V"⟩, 19) := ⟨⟨by decide +kernel, by decide +kernel⟩, List.mem_of_getElem? (i := 14) (by decide +kernel), List.mem_of_getElem? (i := 163) (by decide +kernel), List.mem_of_getElem? (i := 164) (by decide +kernel)⟩
theorem lw_p13 : lw_okq (⟨"IntervalSplits", "kindOfSplit", "(I)LIntervalSplits$Kind;"⟩, 19) := ⟨⟨by decide +kernel, by decide +kernel⟩, List.mem_of_getElem? (i := 14) (by decide +kernel), List.mem_of_getElem? (i := 167) (by decide +kernel), List.mem_of_getElem? (i := 168) (by decide +kernel)⟩
theorem lw_p14 : lw_okq (⟨"IntervalSplits", "closeAhead", "(LIntervalSplits$Kind;I)V"⟩, 19) := ⟨⟨by decide +kernel, by decide +kernel⟩, List.mem_of_getElem? (i := 14) (by decide +kernel), List.mem_of_getElem? (i := 175) (by decide +kernel), List.mem_of_getElem? (i := 176) (by decide +kernel)⟩
theorem lw_p15 : lw_okq (⟨"IntervalSplits", "giveOwnInterval", "(IJI)V"⟩, 19) := ⟨⟨by decide +kernel, by decide +kernel⟩, List.mem_of_getElem? (i := 14) (by decide +kernel), List.mem_of_getElem? (i := 179) (by decide +kernel), List.mem_of_getElem? (i := 180) (by decide +kernel)⟩
def lw_privs_1 : List (MethodName × Nat) := [(⟨"IntervalSplits", "layInterval", "(I)V"⟩, 19), (⟨"IntervalSplits", "takeNumber", "()I"⟩, 19), (⟨"IntervalSplits$Row", "insertAt", "(IJ)V"⟩, 2), (⟨"IntervalSplits$Row", "intAt", "(I)I"⟩, 2), (⟨"IntervalSplits$Row", "at", "(I)J"⟩, 2), (⟨"IntervalSplits$Row", "raise", "(II)V"⟩, 2), (⟨"IntervalSplits", "positionOf", "(J)I"⟩, 19), (⟨"IntervalSplits", "notGreaterThan", "(J)I"⟩, 19), (⟨"IntervalSplits", "place", "(JI)Z"⟩, 19), (⟨"IntervalSplits$Row", "groupOf", "(I)I"⟩, 2), (⟨"IntervalSplits", "lengthsIn", "(I)I"⟩, 19), (⟨"IntervalSplits$Row", "sum", "(II)I"⟩, 2), (⟨"IntervalSplits", "insertRecord", "(IJI)V"⟩, 19), (⟨"IntervalSplits", "kindOfSplit", "(I)LIntervalSplits$Kind;"⟩, 19), (⟨"IntervalSplits", "closeAhead", "(LIntervalSplits$Kind;I)V"⟩, 19), (⟨"IntervalSplits", "giveOwnInterval", "(IJI)V"⟩, 19)]
theorem lw_r1 : ∀ q ∈ lw_privs_1, lw_okq q := List.forall_mem_cons.mpr ⟨lw_p0, List.forall_mem_cons.mpr ⟨lw_p1, List.forall_mem_cons.mpr ⟨lw_p2, List.forall_mem_cons.mpr ⟨lw_p3, List.forall_mem_cons.mpr ⟨lw_p4, List.forall_mem_cons.mpr ⟨lw_p5, List.forall_mem_cons.mpr ⟨lw_p6, List.forall_mem_cons.mpr ⟨lw_p7, List.forall_mem_cons.mpr ⟨lw_p8, List.forall_mem_cons.mpr ⟨lw_p9, List.forall_mem_cons.mpr ⟨lw_p10, List.forall_mem_cons.mpr ⟨lw_p11, List.forall_mem_cons.mpr ⟨lw_p12, List.forall_mem_cons.mpr ⟨lw_p13, List.forall_mem_cons.mpr ⟨lw_p14, List.forall_mem_cons.mpr ⟨lw_p15, fun _ h => absurd h List.not_mem_nil⟩⟩⟩⟩⟩⟩⟩⟩⟩⟩⟩⟩⟩⟩⟩⟩
theorem lw_p16 : lw_okq (⟨"IntervalSplits", "insertInterval", "(IIII)V"⟩, 19) := ⟨⟨by decide +kernel, by decide +kernel⟩, List.mem_of_getElem? (i := 14) (by decide +kernel), List.mem_of_getElem? (i := 183) (by decide +kernel), List.mem_of_getElem? (i := 184) (by decide +kernel)⟩
theorem lw_p17 : lw_okq (⟨"IntervalSplits", "splitArea", "(I)V"⟩, 19) := ⟨⟨by decide +kernel, by decide +kernel⟩, List.mem_of_getElem? (i := 14) (by decide +kernel), List.mem_of_getElem? (i := 187) (by decide +kernel), List.mem_of_getElem? (i := 188) (by decide +kernel)⟩
theorem lw_p18 : lw_okq (⟨"IntervalSplits", "halveInterval", "(II)V"⟩, 19) := ⟨⟨by decide +kernel, by decide +kernel⟩, List.mem_of_getElem? (i := 14) (by decide +kernel), List.mem_of_getElem? (i := 191) (by decide +kernel), List.mem_of_getElem? (i := 192) (by decide +kernel)⟩
theorem lw_p19 : lw_okq (⟨"IntervalSplits", "keptByHalving", "(I)I"⟩, 19) := ⟨⟨by decide +kernel, by decide +kernel⟩, List.mem_of_getElem? (i := 14) (by decide +kernel), List.mem_of_getElem? (i := 195) (by decide +kernel), List.mem_of_getElem? (i := 196) (by decide +kernel)⟩
theorem lw_p20 : lw_okq (⟨"IntervalSplits$Row", "deleteAt", "(I)V"⟩, 2) := ⟨⟨by decide +kernel, by decide +kernel⟩, List.mem_of_getElem? (i := 22) (by decide +kernel), List.mem_of_getElem? (i := 211) (by decide +kernel), List.mem_of_getElem? (i := 212) (by decide +kernel)⟩
theorem lw_p21 : lw_okq (⟨"IntervalSplits", "dropInterval", "(I)V"⟩, 19) := ⟨⟨by decide +kernel, by decide +kernel⟩, List.mem_of_getElem? (i := 14) (by decide +kernel), List.mem_of_getElem? (i := 215) (by decide +kernel), List.mem_of_getElem? (i := 216) (by decide +kernel)⟩
theorem lw_p22 : lw_okq (⟨"IntervalSplits$Row", "holds", "(I)Z"⟩, 2) := ⟨⟨by decide +kernel, by decide +kernel⟩, List.mem_of_getElem? (i := 22) (by decide +kernel), List.mem_of_getElem? (i := 223) (by decide +kernel), List.mem_of_getElem? (i := 224) (by decide +kernel)⟩
theorem lw_p23 : lw_okq (⟨"IntervalSplits", "finishCutSplit", "()V"⟩, 19) := ⟨⟨by decide +kernel, by decide +kernel⟩, List.mem_of_getElem? (i := 14) (by decide +kernel), List.mem_of_getElem? (i := 235) (by decide +kernel), List.mem_of_getElem? (i := 236) (by decide +kernel)⟩
theorem lw_p24 : lw_okq (⟨"IntervalSplits", "brokenOrders", "()I"⟩, 19) := ⟨⟨by decide +kernel, by decide +kernel⟩, List.mem_of_getElem? (i := 14) (by decide +kernel), List.mem_of_getElem? (i := 247) (by decide +kernel), List.mem_of_getElem? (i := 248) (by decide +kernel)⟩
theorem lw_p25 : lw_okq (⟨"IntervalSplits", "brokenRooms", "()I"⟩, 19) := ⟨⟨by decide +kernel, by decide +kernel⟩, List.mem_of_getElem? (i := 14) (by decide +kernel), List.mem_of_getElem? (i := 251) (by decide +kernel), List.mem_of_getElem? (i := 252) (by decide +kernel)⟩
theorem lw_p26 : lw_okq (⟨"IntervalSplits", "brokenWidths", "()I"⟩, 19) := ⟨⟨by decide +kernel, by decide +kernel⟩, List.mem_of_getElem? (i := 14) (by decide +kernel), List.mem_of_getElem? (i := 255) (by decide +kernel), List.mem_of_getElem? (i := 256) (by decide +kernel)⟩
theorem lw_p27 : lw_okq (⟨"IntervalSplits", "lowBitsOfFirstKey", "(I)I"⟩, 19) := ⟨⟨by decide +kernel, by decide +kernel⟩, List.mem_of_getElem? (i := 14) (by decide +kernel), List.mem_of_getElem? (i := 282) (by decide +kernel), List.mem_of_getElem? (i := 283) (by decide +kernel)⟩
theorem lw_p28 : lw_okq (⟨"java/lang/Throwable", "fillInStackTrace", "(I)Ljava/lang/Throwable;"⟩, 6) := ⟨⟨by decide +kernel, by decide +kernel⟩, List.mem_of_getElem? (i := 324) (by decide +kernel), List.mem_of_getElem? (i := 322) (by decide +kernel), List.mem_of_getElem? (i := 323) (by decide +kernel)⟩
theorem lw_p29 : lw_okq (⟨"IntervalSplitsModel", "has", "(J)Z"⟩, 20) := ⟨⟨by decide +kernel, by decide +kernel⟩, List.mem_of_getElem? (i := 357) (by decide +kernel), List.mem_of_getElem? (i := 436) (by decide +kernel), List.mem_of_getElem? (i := 437) (by decide +kernel)⟩
theorem lw_p30 : lw_okq (⟨"IntervalSplitsModel", "less", "(J)I"⟩, 20) := ⟨⟨by decide +kernel, by decide +kernel⟩, List.mem_of_getElem? (i := 357) (by decide +kernel), List.mem_of_getElem? (i := 440) (by decide +kernel), List.mem_of_getElem? (i := 441) (by decide +kernel)⟩
theorem lw_p31 : lw_okq (⟨"IntervalSplitsModel", "belongs", "(J)I"⟩, 20) := ⟨⟨by decide +kernel, by decide +kernel⟩, List.mem_of_getElem? (i := 357) (by decide +kernel), List.mem_of_getElem? (i := 444) (by decide +kernel), List.mem_of_getElem? (i := 445) (by decide +kernel)⟩
def lw_privs_2 : List (MethodName × Nat) := [(⟨"IntervalSplits", "insertInterval", "(IIII)V"⟩, 19), (⟨"IntervalSplits", "splitArea", "(I)V"⟩, 19), (⟨"IntervalSplits", "halveInterval", "(II)V"⟩, 19), (⟨"IntervalSplits", "keptByHalving", "(I)I"⟩, 19), (⟨"IntervalSplits$Row", "deleteAt", "(I)V"⟩, 2), (⟨"IntervalSplits", "dropInterval", "(I)V"⟩, 19), (⟨"IntervalSplits$Row", "holds", "(I)Z"⟩, 2), (⟨"IntervalSplits", "finishCutSplit", "()V"⟩, 19), (⟨"IntervalSplits", "brokenOrders", "()I"⟩, 19), (⟨"IntervalSplits", "brokenRooms", "()I"⟩, 19), (⟨"IntervalSplits", "brokenWidths", "()I"⟩, 19), (⟨"IntervalSplits", "lowBitsOfFirstKey", "(I)I"⟩, 19), (⟨"java/lang/Throwable", "fillInStackTrace", "(I)Ljava/lang/Throwable;"⟩, 6), (⟨"IntervalSplitsModel", "has", "(J)Z"⟩, 20), (⟨"IntervalSplitsModel", "less", "(J)I"⟩, 20), (⟨"IntervalSplitsModel", "belongs", "(J)I"⟩, 20)]
theorem lw_r2 : ∀ q ∈ lw_privs_2, lw_okq q := List.forall_mem_cons.mpr ⟨lw_p16, List.forall_mem_cons.mpr ⟨lw_p17, List.forall_mem_cons.mpr ⟨lw_p18, List.forall_mem_cons.mpr ⟨lw_p19, List.forall_mem_cons.mpr ⟨lw_p20, List.forall_mem_cons.mpr ⟨lw_p21, List.forall_mem_cons.mpr ⟨lw_p22, List.forall_mem_cons.mpr ⟨lw_p23, List.forall_mem_cons.mpr ⟨lw_p24, List.forall_mem_cons.mpr ⟨lw_p25, List.forall_mem_cons.mpr ⟨lw_p26, List.forall_mem_cons.mpr ⟨lw_p27, List.forall_mem_cons.mpr ⟨lw_p28, List.forall_mem_cons.mpr ⟨lw_p29, List.forall_mem_cons.mpr ⟨lw_p30, List.forall_mem_cons.mpr ⟨lw_p31, fun _ h => absurd h List.not_mem_nil⟩⟩⟩⟩⟩⟩⟩⟩⟩⟩⟩⟩⟩⟩⟩⟩
theorem lw_p32 : lw_okq (⟨"IntervalSplitsModel", "first", "(I)I"⟩, 20) := ⟨⟨by decide +kernel, by decide +kernel⟩, List.mem_of_getElem? (i := 357) (by decide +kernel), List.mem_of_getElem? (i := 448) (by decide +kernel), List.mem_of_getElem? (i := 449) (by decide +kernel)⟩
theorem lw_p33 : lw_okq (⟨"IntervalSplitsModel", "lengthsOf", "(I)I"⟩, 20) := ⟨⟨by decide +kernel, by decide +kernel⟩, List.mem_of_getElem? (i := 357) (by decide +kernel), List.mem_of_getElem? (i := 452) (by decide +kernel), List.mem_of_getElem? (i := 453) (by decide +kernel)⟩
theorem lw_p34 : lw_okq (⟨"IntervalSplitsModel", "insert", "(JII)V"⟩, 20) := ⟨⟨by decide +kernel, by decide +kernel⟩, List.mem_of_getElem? (i := 357) (by decide +kernel), List.mem_of_getElem? (i := 456) (by decide +kernel), List.mem_of_getElem? (i := 457) (by decide +kernel)⟩
theorem lw_p35 : lw_okq (⟨"IntervalSplitsModel", "recordsOf", "(I)I"⟩, 20) := ⟨⟨by decide +kernel, by decide +kernel⟩, List.mem_of_getElem? (i := 357) (by decide +kernel), List.mem_of_getElem? (i := 460) (by decide +kernel), List.mem_of_getElem? (i := 461) (by decide +kernel)⟩
theorem lw_p36 : lw_okq (⟨"IntervalSplitsModel", "widthOf", "(I)I"⟩, 20) := ⟨⟨by decide +kernel, by decide +kernel⟩, List.mem_of_getElem? (i := 357) (by decide +kernel), List.mem_of_getElem? (i := 464) (by decide +kernel), List.mem_of_getElem? (i := 465) (by decide +kernel)⟩
theorem lw_p37 : lw_okq (⟨"IntervalSplitsModel", "isCut", "(II)Z"⟩, 20) := ⟨⟨by decide +kernel, by decide +kernel⟩, List.mem_of_getElem? (i := 357) (by decide +kernel), List.mem_of_getElem? (i := 468) (by decide +kernel), List.mem_of_getElem? (i := 469) (by decide +kernel)⟩
theorem lw_p38 : lw_okq (⟨"IntervalSplitsModel", "splitArea", "(I)V"⟩, 20) := ⟨⟨by decide +kernel, by decide +kernel⟩, List.mem_of_getElem? (i := 357) (by decide +kernel), List.mem_of_getElem? (i := 472) (by decide +kernel), List.mem_of_getElem? (i := 473) (by decide +kernel)⟩
theorem lw_p39 : lw_okq (⟨"IntervalSplitsModel", "open", "(III)V"⟩, 20) := ⟨⟨by decide +kernel, by decide +kernel⟩, List.mem_of_getElem? (i := 357) (by decide +kernel), List.mem_of_getElem? (i := 476) (by decide +kernel), List.mem_of_getElem? (i := 477) (by decide +kernel)⟩
theorem lw_p40 : lw_okq (⟨"IntervalSplitsModel", "splitInterval", "(II)V"⟩, 20) := ⟨⟨by decide +kernel, by decide +kernel⟩, List.mem_of_getElem? (i := 357) (by decide +kernel), List.mem_of_getElem? (i := 480) (by decide +kernel), List.mem_of_getElem? (i := 481) (by decide +kernel)⟩
theorem lw_p41 : lw_okq (⟨"IntervalSplitsModel", "kept", "(I)I"⟩, 20) := ⟨⟨by decide +kernel, by decide +kernel⟩, List.mem_of_getElem? (i := 357) (by decide +kernel), List.mem_of_getElem? (i := 484) (by decide +kernel), List.mem_of_getElem? (i := 485) (by decide +kernel)⟩
theorem lw_p42 : lw_okq (⟨"IntervalSplitsModel", "areaOf", "(I)I"⟩, 20) := ⟨⟨by decide +kernel, by decide +kernel⟩, List.mem_of_getElem? (i := 357) (by decide +kernel), List.mem_of_getElem? (i := 516) (by decide +kernel), List.mem_of_getElem? (i := 517) (by decide +kernel)⟩
def lw_privs_3 : List (MethodName × Nat) := [(⟨"IntervalSplitsModel", "first", "(I)I"⟩, 20), (⟨"IntervalSplitsModel", "lengthsOf", "(I)I"⟩, 20), (⟨"IntervalSplitsModel", "insert", "(JII)V"⟩, 20), (⟨"IntervalSplitsModel", "recordsOf", "(I)I"⟩, 20), (⟨"IntervalSplitsModel", "widthOf", "(I)I"⟩, 20), (⟨"IntervalSplitsModel", "isCut", "(II)Z"⟩, 20), (⟨"IntervalSplitsModel", "splitArea", "(I)V"⟩, 20), (⟨"IntervalSplitsModel", "open", "(III)V"⟩, 20), (⟨"IntervalSplitsModel", "splitInterval", "(II)V"⟩, 20), (⟨"IntervalSplitsModel", "kept", "(I)I"⟩, 20), (⟨"IntervalSplitsModel", "areaOf", "(I)I"⟩, 20)]
theorem lw_r3 : ∀ q ∈ lw_privs_3, lw_okq q := List.forall_mem_cons.mpr ⟨lw_p32, List.forall_mem_cons.mpr ⟨lw_p33, List.forall_mem_cons.mpr ⟨lw_p34, List.forall_mem_cons.mpr ⟨lw_p35, List.forall_mem_cons.mpr ⟨lw_p36, List.forall_mem_cons.mpr ⟨lw_p37, List.forall_mem_cons.mpr ⟨lw_p38, List.forall_mem_cons.mpr ⟨lw_p39, List.forall_mem_cons.mpr ⟨lw_p40, List.forall_mem_cons.mpr ⟨lw_p41, List.forall_mem_cons.mpr ⟨lw_p42, fun _ h => absurd h List.not_mem_nil⟩⟩⟩⟩⟩⟩⟩⟩⟩⟩⟩
def lw_privs : List (MethodName × Nat) := lw_privs_1 ++ (lw_privs_2 ++ (lw_privs_3))
def lw_tbl : List Cond := k2_sels lw_privs ++ tables_1
theorem lw_privs_ok : ∀ q ∈ lw_privs, lw_okq q := by
  show ∀ q ∈ lw_privs_1 ++ (lw_privs_2 ++ (lw_privs_3)), lw_okq q
  exact List.forall_mem_append.mpr ⟨lw_r1, List.forall_mem_append.mpr ⟨lw_r2, lw_r3⟩⟩
end
section
/-! ===== BEGIN words of one list among another's, by their places ===== -/
theorem goodIn_r {big : List Cond} (ws : List Cond) (ps : List Nat) (hp : ws = ps.filterMap (fun i => big[i]?)) (h : ws.all goodWord = true) : GoodIn big ws := by
  intro w hw
  have h1 := List.all_eq_true.mp h w hw
  rw [hp] at hw
  obtain ⟨i, -, hi⟩ := List.mem_filterMap.mp hw
  have hm : w ∈ big := by first | exact List.mem_of_getElem? hi | exact List.getElem?_mem hi
  exact ⟨hm, good_of_word h1⟩
theorem goodIn_app {big a b : List Cond} (ha : GoodIn big a) (hb : GoodIn big b) : GoodIn big (a ++ b) := fun w h => (List.mem_append.mp h).elim (ha w) (hb w)
theorem goodIn_ca {big a b : List Cond} {c : Cond} (ha : GoodIn big (c :: a)) (hb : GoodIn big b) : GoodIn big (c :: (a ++ b)) := fun w h => (List.mem_cons.mp h).elim (fun e => ha w (List.mem_cons.mpr (Or.inl e))) (fun h => (List.mem_append.mp h).elim (fun h => ha w (List.mem_cons.mpr (Or.inr h))) (hb w))
theorem goodIn_sub {big ws : List Cond} (hm : ∀ w ∈ ws, w ∈ big) (h : ws.all goodWord = true) : GoodIn big ws := fun w hw => ⟨hm w hw, good_of_word (List.all_eq_true.mp h w hw)⟩
/-! ===== END ===== -/

/-! ===== BEGIN printed: names, fields, word lists, decode rows ===== -/
def RX0 : String := "IntervalSplits$Kind"
def TX0 : u_T := fun k => match k with
  | _ => ("", "", "", false)
def tyX0 : Nat → FieldType := fun k => match k with
  | _ => .int
abbrev wsX00 : List Cond := u_ws RX0 TX0 0
theorem nmX0 : ∀ a, a < 0 → ∀ b, b < 0 → a ≠ b → (TX0 a).2.1 ≠ (TX0 b).2.1 := by decide +kernel
theorem tyX0_ok : ∀ k, k < 0 → parseFieldDescriptor (TX0 k).2.2.1 = some (tyX0 k) := by decide +kernel
def RX1 : String := "IntervalSplits$Row"
def TX1 : u_T := fun k => match k with
  | 0 => ("IntervalSplits$Row", "cells", "[J", true)
  | _ => ("IntervalSplits$Row", "size", "I", false)
def tyX1 : Nat → FieldType := fun k => match k with
  | 0 => .array .long
  | _ => .int
abbrev wsX10 : List Cond := u_ws RX1 TX1 2
theorem nmX1 : ∀ a, a < 2 → ∀ b, b < 2 → a ≠ b → (TX1 a).2.1 ≠ (TX1 b).2.1 := by decide +kernel
theorem tyX1_ok : ∀ k, k < 2 → parseFieldDescriptor (TX1 k).2.2.1 = some (tyX1 k) := by decide +kernel
abbrev cX1_init : ByteArray := prog_3_method_1_code
def yX1_init : MethodName := ⟨RX1, "<init>", "(I)V"⟩
abbrev cX1_holds : ByteArray := prog_3_method_2_code
def yX1_holds : MethodName := ⟨RX1, "holds", "(I)Z"⟩
abbrev cX1_at : ByteArray := prog_3_method_3_code
def yX1_at : MethodName := ⟨RX1, "at", "(I)J"⟩
abbrev cX1_intAt : ByteArray := prog_3_method_4_code
def yX1_intAt : MethodName := ⟨RX1, "intAt", "(I)I"⟩
abbrev cX1_raise : ByteArray := prog_3_method_5_code
def yX1_raise : MethodName := ⟨RX1, "raise", "(II)V"⟩
abbrev cX1_insertAt : ByteArray := prog_3_method_6_code
def yX1_insertAt : MethodName := ⟨RX1, "insertAt", "(IJ)V"⟩
abbrev cX1_deleteAt : ByteArray := prog_3_method_7_code
def yX1_deleteAt : MethodName := ⟨RX1, "deleteAt", "(I)V"⟩
abbrev cX1_sum : ByteArray := prog_3_method_8_code
def yX1_sum : MethodName := ⟨RX1, "sum", "(II)I"⟩
abbrev cX1_groupOf : ByteArray := prog_3_method_9_code
def yX1_groupOf : MethodName := ⟨RX1, "groupOf", "(I)I"⟩
def RX2 : String := "IntervalSplits"
def TX2 : u_T := fun k => match k with
  | 0 => ("IntervalSplits", "room", "I", true)
  | 1 => ("IntervalSplits", "width", "I", true)
  | 2 => ("IntervalSplits", "laidRoom", "I", true)
  | 3 => ("IntervalSplits", "laidWidth", "I", true)
  | 4 => ("IntervalSplits", "keys", "LIntervalSplits$Row;", true)
  | 5 => ("IntervalSplits", "lengths", "LIntervalSplits$Row;", true)
  | 6 => ("IntervalSplits", "numbers", "LIntervalSplits$Row;", true)
  | 7 => ("IntervalSplits", "sizes", "LIntervalSplits$Row;", true)
  | 8 => ("IntervalSplits", "spans", "LIntervalSplits$Row;", true)
  | 9 => ("IntervalSplits", "nextNumber", "I", false)
  | 10 => ("IntervalSplits", "toldCut", "I", false)
  | 11 => ("IntervalSplits", "closed", "Z", false)
  | 12 => ("IntervalSplits", "cutHasRow", "Z", false)
  | 13 => ("IntervalSplits", "cutKind", "LIntervalSplits$Kind;", false)
  | 14 => ("IntervalSplits", "cutPlace", "I", false)
  | 15 => ("IntervalSplits", "intervalSplits", "I", false)
  | 16 => ("IntervalSplits", "areaSplits", "I", false)
  | 17 => ("IntervalSplits", "undoneSplits", "I", false)
  | _ => ("IntervalSplits", "finishedSplits", "I", false)
def tyX2 : Nat → FieldType := fun k => match k with
  | 0 => .int
  | 1 => .int
  | 2 => .int
  | 3 => .int
  | 4 => .object "IntervalSplits$Row"
  | 5 => .object "IntervalSplits$Row"
  | 6 => .object "IntervalSplits$Row"
  | 7 => .object "IntervalSplits$Row"
  | 8 => .object "IntervalSplits$Row"
  | 9 => .int
  | 10 => .int
  | 11 => .boolean
  | 12 => .boolean
  | 13 => .object "IntervalSplits$Kind"
  | 14 => .int
  | 15 => .int
  | 16 => .int
  | 17 => .int
  | _ => .int
abbrev wsX20 : List Cond := u_ws RX2 TX2 19
theorem nmX2 : ∀ a, a < 19 → ∀ b, b < 19 → a ≠ b → (TX2 a).2.1 ≠ (TX2 b).2.1 := by decide +kernel
theorem tyX2_ok : ∀ k, k < 19 → parseFieldDescriptor (TX2 k).2.2.1 = some (tyX2 k) := by decide +kernel
abbrev cX2_init : ByteArray := prog_1_method_1_code
def yX2_init : MethodName := ⟨RX2, "<init>", "(IIII)V"⟩
abbrev cX2_put : ByteArray := prog_1_method_2_code
def yX2_put : MethodName := ⟨RX2, "put", "(JI)I"⟩
abbrev cX2_find : ByteArray := prog_1_method_3_code
def yX2_find : MethodName := ⟨RX2, "find", "(J)I"⟩
abbrev cX2_next : ByteArray := prog_1_method_4_code
def yX2_next : MethodName := ⟨RX2, "next", "(J)I"⟩
abbrev cX2_remove : ByteArray := prog_1_method_5_code
def yX2_remove : MethodName := ⟨RX2, "remove", "(J)I"⟩
abbrev cX2_interval : ByteArray := prog_1_method_6_code
def yX2_interval : MethodName := ⟨RX2, "interval", "(II)I"⟩
abbrev cX2_cut : ByteArray := prog_1_method_7_code
def yX2_cut : MethodName := ⟨RX2, "cut", "(I)I"⟩
abbrev cX2_open : ByteArray := prog_1_method_8_code
def yX2_open : MethodName := ⟨RX2, "open", "()I"⟩
abbrev cX2_split : ByteArray := prog_1_method_9_code
def yX2_split : MethodName := ⟨RX2, "split", "(I)I"⟩
abbrev cX2_index : ByteArray := prog_1_method_10_code
def yX2_index : MethodName := ⟨RX2, "index", "(II)I"⟩
abbrev cX2_verify : ByteArray := prog_1_method_11_code
def yX2_verify : MethodName := ⟨RX2, "verify", "()I"⟩
abbrev cX2_reorganise : ByteArray := prog_1_method_12_code
def yX2_reorganise : MethodName := ⟨RX2, "reorganise", "()I"⟩
abbrev cX2_order : ByteArray := prog_1_method_13_code
def yX2_order : MethodName := ⟨RX2, "order", "(I)J"⟩
abbrev cX2_count : ByteArray := prog_1_method_14_code
def yX2_count : MethodName := ⟨RX2, "count", "(I)I"⟩
abbrev cX2_heldTo : ByteArray := prog_1_method_15_code
def yX2_heldTo : MethodName := ⟨RX2, "heldTo", "(III)I"⟩
abbrev cX2_notGreaterThan : ByteArray := prog_1_method_16_code
def yX2_notGreaterThan : MethodName := ⟨RX2, "notGreaterThan", "(J)I"⟩
abbrev cX2_positionOf : ByteArray := prog_1_method_17_code
def yX2_positionOf : MethodName := ⟨RX2, "positionOf", "(J)I"⟩
abbrev cX2_lengthsIn : ByteArray := prog_1_method_18_code
def yX2_lengthsIn : MethodName := ⟨RX2, "lengthsIn", "(I)I"⟩
abbrev cX2_lowBitsOfFirstKey : ByteArray := prog_1_method_19_code
def yX2_lowBitsOfFirstKey : MethodName := ⟨RX2, "lowBitsOfFirstKey", "(I)I"⟩
abbrev cX2_place : ByteArray := prog_1_method_20_code
def yX2_place : MethodName := ⟨RX2, "place", "(JI)Z"⟩
abbrev cX2_insertRecord : ByteArray := prog_1_method_21_code
def yX2_insertRecord : MethodName := ⟨RX2, "insertRecord", "(IJI)V"⟩
abbrev cX2_kindOfSplit : ByteArray := prog_1_method_22_code
def yX2_kindOfSplit : MethodName := ⟨RX2, "kindOfSplit", "(I)LIntervalSplits$Kind;"⟩
abbrev cX2_takeNumber : ByteArray := prog_1_method_23_code
def yX2_takeNumber : MethodName := ⟨RX2, "takeNumber", "()I"⟩
abbrev cX2_splitArea : ByteArray := prog_1_method_24_code
def yX2_splitArea : MethodName := ⟨RX2, "splitArea", "(I)V"⟩
abbrev cX2_halveInterval : ByteArray := prog_1_method_25_code
def yX2_halveInterval : MethodName := ⟨RX2, "halveInterval", "(II)V"⟩
abbrev cX2_keptByHalving : ByteArray := prog_1_method_26_code
def yX2_keptByHalving : MethodName := ⟨RX2, "keptByHalving", "(I)I"⟩
abbrev cX2_giveOwnInterval : ByteArray := prog_1_method_27_code
def yX2_giveOwnInterval : MethodName := ⟨RX2, "giveOwnInterval", "(IJI)V"⟩
abbrev cX2_insertInterval : ByteArray := prog_1_method_28_code
def yX2_insertInterval : MethodName := ⟨RX2, "insertInterval", "(IIII)V"⟩
abbrev cX2_dropInterval : ByteArray := prog_1_method_29_code
def yX2_dropInterval : MethodName := ⟨RX2, "dropInterval", "(I)V"⟩
abbrev cX2_closeAhead : ByteArray := prog_1_method_30_code
def yX2_closeAhead : MethodName := ⟨RX2, "closeAhead", "(LIntervalSplits$Kind;I)V"⟩
abbrev cX2_finishCutSplit : ByteArray := prog_1_method_31_code
def yX2_finishCutSplit : MethodName := ⟨RX2, "finishCutSplit", "()V"⟩
abbrev cX2_layInterval : ByteArray := prog_1_method_32_code
def yX2_layInterval : MethodName := ⟨RX2, "layInterval", "(I)V"⟩
abbrev cX2_brokenOrders : ByteArray := prog_1_method_33_code
def yX2_brokenOrders : MethodName := ⟨RX2, "brokenOrders", "()I"⟩
abbrev cX2_brokenRooms : ByteArray := prog_1_method_34_code
def yX2_brokenRooms : MethodName := ⟨RX2, "brokenRooms", "()I"⟩
abbrev cX2_brokenWidths : ByteArray := prog_1_method_35_code
def yX2_brokenWidths : MethodName := ⟨RX2, "brokenWidths", "()I"⟩
def RX3 : String := "IntervalSplitsModel"
def TX3 : u_T := fun k => match k with
  | 0 => ("IntervalSplitsModel", "code", "I", false)
  | 1 => ("IntervalSplitsModel", "room", "I", true)
  | 2 => ("IntervalSplitsModel", "width", "I", true)
  | 3 => ("IntervalSplitsModel", "load", "I", true)
  | 4 => ("IntervalSplitsModel", "loadWidth", "I", true)
  | 5 => ("IntervalSplitsModel", "keys", "[J", true)
  | 6 => ("IntervalSplitsModel", "lengths", "[I", true)
  | 7 => ("IntervalSplitsModel", "of", "[I", true)
  | 8 => ("IntervalSplitsModel", "size", "I", false)
  | 9 => ("IntervalSplitsModel", "intervals", "[I", true)
  | 10 => ("IntervalSplitsModel", "areas", "[I", true)
  | 11 => ("IntervalSplitsModel", "many", "I", false)
  | 12 => ("IntervalSplitsModel", "number", "I", false)
  | 13 => ("IntervalSplitsModel", "area", "I", false)
  | 14 => ("IntervalSplitsModel", "cutAt", "I", false)
  | 15 => ("IntervalSplitsModel", "pending", "I", false)
  | 16 => ("IntervalSplitsModel", "pendingAt", "I", false)
  | 17 => ("IntervalSplitsModel", "closed", "Z", false)
  | 18 => ("IntervalSplitsModel", "finishes", "Z", false)
  | _ => ("IntervalSplitsModel", "splits", "[I", true)
def tyX3 : Nat → FieldType := fun k => match k with
  | 0 => .int
  | 1 => .int
  | 2 => .int
  | 3 => .int
  | 4 => .int
  | 5 => .array .long
  | 6 => .array .int
  | 7 => .array .int
  | 8 => .int
  | 9 => .array .int
  | 10 => .array .int
  | 11 => .int
  | 12 => .int
  | 13 => .int
  | 14 => .int
  | 15 => .int
  | 16 => .int
  | 17 => .boolean
  | 18 => .boolean
  | _ => .array .int
abbrev wsX30 : List Cond := u_ws RX3 TX3 20
theorem nmX3 : ∀ a, a < 20 → ∀ b, b < 20 → a ≠ b → (TX3 a).2.1 ≠ (TX3 b).2.1 := by decide +kernel
theorem tyX3_ok : ∀ k, k < 20 → parseFieldDescriptor (TX3 k).2.2.1 = some (tyX3 k) := by decide +kernel
abbrev cX3_init : ByteArray := prog_5_method_1_code
def yX3_init : MethodName := ⟨RX3, "<init>", "(IIII)V"⟩
abbrev cX3_held : ByteArray := prog_5_method_2_code
def yX3_held : MethodName := ⟨RX3, "held", "(III)I"⟩
abbrev cX3_thrown : ByteArray := prog_5_method_3_code
def yX3_thrown : MethodName := ⟨RX3, "thrown", "()I"⟩
abbrev cX3_less : ByteArray := prog_5_method_4_code
def yX3_less : MethodName := ⟨RX3, "less", "(J)I"⟩
abbrev cX3_has : ByteArray := prog_5_method_5_code
def yX3_has : MethodName := ⟨RX3, "has", "(J)Z"⟩
abbrev cX3_first : ByteArray := prog_5_method_6_code
def yX3_first : MethodName := ⟨RX3, "first", "(I)I"⟩
abbrev cX3_recordsOf : ByteArray := prog_5_method_7_code
def yX3_recordsOf : MethodName := ⟨RX3, "recordsOf", "(I)I"⟩
abbrev cX3_lengthsOf : ByteArray := prog_5_method_8_code
def yX3_lengthsOf : MethodName := ⟨RX3, "lengthsOf", "(I)I"⟩
abbrev cX3_belongs : ByteArray := prog_5_method_9_code
def yX3_belongs : MethodName := ⟨RX3, "belongs", "(J)I"⟩
abbrev cX3_widthOf : ByteArray := prog_5_method_10_code
def yX3_widthOf : MethodName := ⟨RX3, "widthOf", "(I)I"⟩
abbrev cX3_insert : ByteArray := prog_5_method_11_code
def yX3_insert : MethodName := ⟨RX3, "insert", "(JII)V"⟩
abbrev cX3_open : ByteArray := prog_5_method_12_code
def yX3_open : MethodName := ⟨RX3, "open", "(III)V"⟩
abbrev cX3_kept : ByteArray := prog_5_method_13_code
def yX3_kept : MethodName := ⟨RX3, "kept", "(I)I"⟩
abbrev cX3_splitInterval : ByteArray := prog_5_method_14_code
def yX3_splitInterval : MethodName := ⟨RX3, "splitInterval", "(II)V"⟩
abbrev cX3_splitArea : ByteArray := prog_5_method_15_code
def yX3_splitArea : MethodName := ⟨RX3, "splitArea", "(I)V"⟩
abbrev cX3_isCut : ByteArray := prog_5_method_16_code
def yX3_isCut : MethodName := ⟨RX3, "isCut", "(II)Z"⟩
abbrev cX3_put : ByteArray := prog_5_method_17_code
def yX3_put : MethodName := ⟨RX3, "put", "(JI)I"⟩
abbrev cX3_cut : ByteArray := prog_5_method_18_code
def yX3_cut : MethodName := ⟨RX3, "cut", "(I)I"⟩
abbrev cX3_open_ : ByteArray := prog_5_method_19_code
def yX3_open_ : MethodName := ⟨RX3, "open", "()I"⟩
abbrev cX3_remove : ByteArray := prog_5_method_20_code
def yX3_remove : MethodName := ⟨RX3, "remove", "(J)I"⟩
abbrev cX3_reorganise : ByteArray := prog_5_method_21_code
def yX3_reorganise : MethodName := ⟨RX3, "reorganise", "()I"⟩
abbrev cX3_find : ByteArray := prog_5_method_22_code
def yX3_find : MethodName := ⟨RX3, "find", "(J)I"⟩
abbrev cX3_next : ByteArray := prog_5_method_23_code
def yX3_next : MethodName := ⟨RX3, "next", "(J)I"⟩
abbrev cX3_areaOf : ByteArray := prog_5_method_24_code
def yX3_areaOf : MethodName := ⟨RX3, "areaOf", "(I)I"⟩
abbrev cX3_interval : ByteArray := prog_5_method_25_code
def yX3_interval : MethodName := ⟨RX3, "interval", "(II)I"⟩
abbrev cX3_split : ByteArray := prog_5_method_26_code
def yX3_split : MethodName := ⟨RX3, "split", "(I)I"⟩
abbrev cX3_index : ByteArray := prog_5_method_27_code
def yX3_index : MethodName := ⟨RX3, "index", "(II)I"⟩
abbrev cX3_verify : ByteArray := prog_5_method_28_code
def yX3_verify : MethodName := ⟨RX3, "verify", "()I"⟩
abbrev cX3_order : ByteArray := prog_5_method_29_code
def yX3_order : MethodName := ⟨RX3, "order", "(I)J"⟩
abbrev cX3_count : ByteArray := prog_5_method_30_code
def yX3_count : MethodName := ⟨RX3, "count", "(I)I"⟩
def RJx00060 : String := "java/lang/ArrayIndexOutOfBoundsException"
def TJx00060 : u_T := fun k => match k with
  | 0 => ("java/lang/Throwable", "cause", "Ljava/lang/Throwable;", false)
  | 1 => ("java/lang/Throwable", "stackTrace", "[Ljava/lang/StackTraceElement;", false)
  | 2 => ("java/lang/Throwable", "suppressedExceptions", "Ljava/util/List;", false)
  | 3 => ("java/lang/Throwable", "detailMessage", "Ljava/lang/String;", false)
  | 4 => ("java/lang/Throwable", "backtrace", "Ljava/lang/Object;", false)
  | _ => ("java/lang/Throwable", "depth", "I", false)
def tyJx00060 : Nat → FieldType := fun k => match k with
  | 0 => .object "java/lang/Throwable"
  | 1 => .array (.object "java/lang/StackTraceElement")
  | 2 => .object "java/util/List"
  | 3 => .object "java/lang/String"
  | 4 => .object "java/lang/Object"
  | _ => .int
abbrev wsJx000600 : List Cond := u_ws RJx00060 TJx00060 6
theorem nmJx00060 : ∀ a, a < 6 → ∀ b, b < 6 → a ≠ b → (TJx00060 a).2.1 ≠ (TJx00060 b).2.1 := by decide +kernel
theorem tyJx00060_ok : ∀ k, k < 6 → parseFieldDescriptor (TJx00060 k).2.2.1 = some (tyJx00060 k) := by decide +kernel
abbrev cJx00060_init_a7421 : ByteArray := prog_6_method_2_code
def yJx00060_init_a7421 : MethodName := ⟨RJx00060, "<init>", "(Ljava/lang/String;)V"⟩
def RJx29ce0 : String := "java/lang/Enum"
def TJx29ce0 : u_T := fun k => match k with
  | _ => ("", "", "", false)
def tyJx29ce0 : Nat → FieldType := fun k => match k with
  | _ => .int
abbrev wsJx29ce00 : List Cond := u_ws RJx29ce0 TJx29ce0 0
theorem nmJx29ce0 : ∀ a, a < 0 → ∀ b, b < 0 → a ≠ b → (TJx29ce0 a).2.1 ≠ (TJx29ce0 b).2.1 := by decide +kernel
theorem tyJx29ce0_ok : ∀ k, k < 0 → parseFieldDescriptor (TJx29ce0 k).2.2.1 = some (tyJx29ce0 k) := by decide +kernel
def RJ9 : String := "java/lang/Math"
def TJ9 : u_T := fun k => match k with
  | _ => ("", "", "", false)
def tyJ9 : Nat → FieldType := fun k => match k with
  | _ => .int
abbrev wsJ90 : List Cond := u_ws RJ9 TJ9 0
theorem nmJ9 : ∀ a, a < 0 → ∀ b, b < 0 → a ≠ b → (TJ9 a).2.1 ≠ (TJ9 b).2.1 := by decide +kernel
theorem tyJ9_ok : ∀ k, k < 0 → parseFieldDescriptor (TJ9 k).2.2.1 = some (tyJ9 k) := by decide +kernel
abbrev cJ9_max_7cf53 : ByteArray := prog_10_method_65_code
def yJ9_max_7cf53 : MethodName := ⟨RJ9, "max", "(II)I"⟩
abbrev cJ9_min_7cf53 : ByteArray := prog_10_method_69_code
def yJ9_min_7cf53 : MethodName := ⟨RJ9, "min", "(II)I"⟩
def RJ0 : String := "java/lang/String"
def TJ0 : u_T := fun k => match k with
  | _ => ("", "", "", false)
def tyJ0 : Nat → FieldType := fun k => match k with
  | _ => .int
abbrev wsJ00 : List Cond := u_ws RJ0 TJ0 0
theorem nmJ0 : ∀ a, a < 0 → ∀ b, b < 0 → a ≠ b → (TJ0 a).2.1 ≠ (TJ0 b).2.1 := by decide +kernel
theorem tyJ0_ok : ∀ k, k < 0 → parseFieldDescriptor (TJ0 k).2.2.1 = some (tyJ0 k) := by decide +kernel
def RJ10 : String := "java/lang/System"
def TJ10 : u_T := fun k => match k with
  | _ => ("", "", "", false)
def tyJ10 : Nat → FieldType := fun k => match k with
  | _ => .int
abbrev wsJ100 : List Cond := u_ws RJ10 TJ10 0
theorem nmJ10 : ∀ a, a < 0 → ∀ b, b < 0 → a ≠ b → (TJ10 a).2.1 ≠ (TJ10 b).2.1 := by decide +kernel
theorem tyJ10_ok : ∀ k, k < 0 → parseFieldDescriptor (TJ10 k).2.2.1 = some (tyJ10 k) := by decide +kernel
def RL : String := "IntervalSplitsLaw"
abbrev cL_cell : ByteArray := method_2_code
def yL_cell : MethodName := ⟨RL, "cell", "([II)I"⟩
abbrev cL_index : ByteArray := method_3_code
def yL_index : MethodName := ⟨RL, "index", "(LIntervalSplits;II[J)I"⟩
abbrev cL_law : ByteArray := code
def yL_law : MethodName := ⟨RL, "law", "([I)Z"⟩
abbrev vwCl : List vw_C := [(RJx00060, TJx00060, 6), (RX1, TX1, 2), (RX2, TX2, 19), (RX3, TX3, 20)]
end
section
/-! the words that every method stands on: the good ones of the tables, by their places -/
def LT : List Cond := lw_tbl.filter goodWord
theorem LT_in : ∀ w ∈ LT, w ∈ lw_tbl := fun _ h => (List.mem_filter.mp h).1
theorem LT_good : ∀ w ∈ LT, (w.onTables && w.keeps) = true ∨ ∃ ty, w = .arrayClass ty := fun _ h => good_of_word (List.mem_filter.mp h).2
theorem gLT {w : Cond} (h : w ∈ LT) : GoodIn LT (w :: LT) := fun u hu => (List.mem_cons.mp hu).elim (fun e => by subst e; exact ⟨h, LT_good _ h⟩) (fun hu => ⟨hu, LT_good _ hu⟩)
theorem mT {w : Cond} (i : Nat) (h : tables_1[i]? = some w) (hg : goodWord w = true) : w ∈ LT := List.mem_filter.mpr ⟨List.mem_append_right _ (List.mem_of_getElem? h), hg⟩
theorem mS {q : MethodName × Nat} (i : Nat) (h : lw_privs[i]? = some q) (hg : goodWord (Cond.selects q.1.cls q.1 q.1) = true) : Cond.selects q.1.cls q.1 q.1 ∈ LT := List.mem_filter.mpr ⟨List.mem_append_left _ (List.mem_map.mpr ⟨q, List.mem_of_getElem? h, rfl⟩), hg⟩
theorem tw_0 : Cond.initialized "IntervalSplitsLaw" ∈ LT := mT 0 (by rfl) (by rfl)
theorem tw_1 : Cond.initialized "IntervalSplits" ∈ LT := mT 1 (by rfl) (by rfl)
theorem tw_2 : Cond.initialized "IntervalSplits$Row" ∈ LT := mT 2 (by rfl) (by rfl)
theorem tw_3 : Cond.initialized "java/lang/Math" ∈ LT := mT 3 (by rfl) (by rfl)
theorem tw_4 : Cond.initialized "java/lang/Enum" ∈ LT := mT 4 (by rfl) (by rfl)
theorem tw_5 : Cond.initialized "IntervalSplits$Kind" ∈ LT := mT 5 (by rfl) (by rfl)
theorem tw_6 : Cond.initialized "java/lang/System" ∈ LT := mT 6 (by rfl) (by rfl)
theorem tw_7 : Cond.initialized "IntervalSplitsModel" ∈ LT := mT 7 (by rfl) (by rfl)
theorem tw_8 : Cond.initialized "java/lang/Throwable" ∈ LT := mT 8 (by rfl) (by rfl)
theorem tw_9 : Cond.initialized "java/lang/Exception" ∈ LT := mT 9 (by rfl) (by rfl)
theorem tw_10 : Cond.initialized "java/lang/RuntimeException" ∈ LT := mT 10 (by rfl) (by rfl)
theorem tw_11 : Cond.initialized "java/lang/IndexOutOfBoundsException" ∈ LT := mT 11 (by rfl) (by rfl)
theorem tw_12 : Cond.initialized "java/lang/ArrayIndexOutOfBoundsException" ∈ LT := mT 12 (by rfl) (by rfl)
theorem tw_13 : Cond.classLink "IntervalSplitsLaw" 8 "IntervalSplits" ∈ LT := mT 13 (by rfl) (by rfl)
theorem tw_14 : Cond.instantiable "IntervalSplits" 19 ∈ LT := mT 14 (by rfl) (by rfl)
theorem tw_15 : Cond.methodLink "IntervalSplitsLaw" 21 ⟨"IntervalSplits", "<init>", "(IIII)V"⟩ ∈ LT := mT 15 (by rfl) (by rfl)
theorem tw_16 : Cond.instanceMethod ⟨"IntervalSplits", "<init>", "(IIII)V"⟩ ∈ LT := mT 16 (by rfl) (by rfl)
theorem tw_17 : Cond.code ⟨"IntervalSplits", "<init>", "(IIII)V"⟩ prog_1_method_1_code 7 none ∈ LT := mT 17 (by rfl) (by rfl)
theorem tw_18 : Cond.methodLink "IntervalSplits" 3 ⟨"java/lang/Object", "<init>", "()V"⟩ ∈ LT := mT 18 (by rfl) (by rfl)
theorem tw_19 : Cond.instanceMethod ⟨"java/lang/Object", "<init>", "()V"⟩ ∈ LT := mT 19 (by rfl) (by rfl)
theorem tw_20 : Cond.code ⟨"java/lang/Object", "<init>", "()V"⟩ object_method_1_code 1 none ∈ LT := mT 20 (by rfl) (by rfl)
theorem tw_21 : Cond.classLink "IntervalSplits" 9 "IntervalSplits$Row" ∈ LT := mT 21 (by rfl) (by rfl)
theorem tw_22 : Cond.instantiable "IntervalSplits$Row" 2 ∈ LT := mT 22 (by rfl) (by rfl)
theorem tw_24 : Cond.instanceMethod ⟨"IntervalSplits$Row", "<init>", "(I)V"⟩ ∈ LT := mT 24 (by rfl) (by rfl)
theorem tw_25 : Cond.code ⟨"IntervalSplits$Row", "<init>", "(I)V"⟩ prog_3_method_1_code 2 none ∈ LT := mT 25 (by rfl) (by rfl)
theorem tw_26 : Cond.methodLink "IntervalSplits$Row" 1 ⟨"java/lang/Object", "<init>", "()V"⟩ ∈ LT := mT 26 (by rfl) (by rfl)
theorem tw_27 : Cond.methodLink "IntervalSplits$Row" 13 ⟨"java/lang/Math", "max", "(II)I"⟩ ∈ LT := mT 27 (by rfl) (by rfl)
theorem tw_28 : Cond.static ⟨"java/lang/Math", "max", "(II)I"⟩ ∈ LT := mT 28 (by rfl) (by rfl)
theorem tw_29 : Cond.code ⟨"java/lang/Math", "max", "(II)I"⟩ prog_10_method_65_code 2 (some FieldType.int) ∈ LT := mT 29 (by rfl) (by rfl)
theorem tw_30 : Cond.fieldLink "IntervalSplits$Row" 19 "IntervalSplits$Row" "cells" "[J" ∈ LT := mT 30 (by rfl) (by rfl)
theorem tw_31 : Cond.fieldLink "IntervalSplits$Row" 7 "IntervalSplits$Row" "size" "I" ∈ LT := mT 31 (by rfl) (by rfl)
theorem tw_33 : Cond.laysFinal "IntervalSplits$Row" "IntervalSplits$Row" "cells" "[J" ∈ LT := mT 33 (by rfl) (by rfl)
theorem tw_35 : Cond.lays "IntervalSplits$Row" "IntervalSplits$Row" "size" "I" ∈ LT := mT 35 (by rfl) (by rfl)
theorem tw_37 : Cond.superclass "IntervalSplits$Row" "java/lang/Object" ∈ LT := mT 37 (by rfl) (by rfl)
theorem tw_38 : Cond.arrayClass FieldType.long ∈ LT := mT 38 (by rfl) (by rfl)
theorem tw_39 : Cond.fieldLink "IntervalSplits" 44 "IntervalSplits$Kind" "HALVES" "LIntervalSplits$Kind;" ∈ LT := mT 39 (by rfl) (by rfl)
theorem tw_41 : Cond.methodLink "IntervalSplits" 68 ⟨"IntervalSplits", "heldTo", "(III)I"⟩ ∈ LT := mT 41 (by rfl) (by rfl)
theorem tw_42 : Cond.static ⟨"IntervalSplits", "heldTo", "(III)I"⟩ ∈ LT := mT 42 (by rfl) (by rfl)
theorem tw_43 : Cond.code ⟨"IntervalSplits", "heldTo", "(III)I"⟩ prog_1_method_15_code 3 (some FieldType.int) ∈ LT := mT 43 (by rfl) (by rfl)
theorem tw_44 : Cond.methodLink "IntervalSplits" 161 ⟨"java/lang/Math", "min", "(II)I"⟩ ∈ LT := mT 44 (by rfl) (by rfl)
theorem tw_45 : Cond.static ⟨"java/lang/Math", "min", "(II)I"⟩ ∈ LT := mT 45 (by rfl) (by rfl)
theorem tw_46 : Cond.code ⟨"java/lang/Math", "min", "(II)I"⟩ prog_10_method_69_code 2 (some FieldType.int) ∈ LT := mT 46 (by rfl) (by rfl)
theorem tw_47 : Cond.methodLink "IntervalSplits" 81 ⟨"java/lang/Math", "max", "(II)I"⟩ ∈ LT := mT 47 (by rfl) (by rfl)
theorem tw_48 : Cond.methodLink "IntervalSplits" 90 ⟨"IntervalSplits", "layInterval", "(I)V"⟩ ∈ LT := mT 48 (by rfl) (by rfl)
theorem tw_50 : Cond.instanceMethod ⟨"IntervalSplits", "layInterval", "(I)V"⟩ ∈ LT := mT 50 (by rfl) (by rfl)
theorem tw_51 : Cond.code ⟨"IntervalSplits", "layInterval", "(I)V"⟩ prog_1_method_32_code 3 none ∈ LT := mT 51 (by rfl) (by rfl)
theorem tw_52 : Cond.methodLink "IntervalSplits" 188 ⟨"IntervalSplits", "takeNumber", "()I"⟩ ∈ LT := mT 52 (by rfl) (by rfl)
theorem tw_54 : Cond.instanceMethod ⟨"IntervalSplits", "takeNumber", "()I"⟩ ∈ LT := mT 54 (by rfl) (by rfl)
theorem tw_55 : Cond.code ⟨"IntervalSplits", "takeNumber", "()I"⟩ prog_1_method_23_code 2 (some FieldType.int) ∈ LT := mT 55 (by rfl) (by rfl)
theorem tw_58 : Cond.instanceMethod ⟨"IntervalSplits$Row", "insertAt", "(IJ)V"⟩ ∈ LT := mT 58 (by rfl) (by rfl)
theorem tw_59 : Cond.code ⟨"IntervalSplits$Row", "insertAt", "(IJ)V"⟩ prog_3_method_6_code 4 none ∈ LT := mT 59 (by rfl) (by rfl)
theorem tw_60 : Cond.methodLink "IntervalSplits$Row" 27 ⟨"java/lang/System", "arraycopy", "(Ljava/lang/Object;ILjava/lang/Object;II)V"⟩ ∈ LT := mT 60 (by rfl) (by rfl)
theorem tw_61 : Cond.static ⟨"java/lang/System", "arraycopy", "(Ljava/lang/Object;ILjava/lang/Object;II)V"⟩ ∈ LT := mT 61 (by rfl) (by rfl)
theorem tw_62 : Cond.native ⟨"java/lang/System", "arraycopy", "(Ljava/lang/Object;ILjava/lang/Object;II)V"⟩ ∈ LT := mT 62 (by rfl) (by rfl)
theorem tw_65 : Cond.instanceMethod ⟨"IntervalSplits$Row", "intAt", "(I)I"⟩ ∈ LT := mT 65 (by rfl) (by rfl)
theorem tw_66 : Cond.code ⟨"IntervalSplits$Row", "intAt", "(I)I"⟩ prog_3_method_4_code 2 (some FieldType.int) ∈ LT := mT 66 (by rfl) (by rfl)
theorem tw_67 : Cond.methodLink "IntervalSplits$Row" 23 ⟨"IntervalSplits$Row", "at", "(I)J"⟩ ∈ LT := mT 67 (by rfl) (by rfl)
theorem tw_69 : Cond.instanceMethod ⟨"IntervalSplits$Row", "at", "(I)J"⟩ ∈ LT := mT 69 (by rfl) (by rfl)
theorem tw_70 : Cond.code ⟨"IntervalSplits$Row", "at", "(I)J"⟩ prog_3_method_3_code 2 (some FieldType.long) ∈ LT := mT 70 (by rfl) (by rfl)
theorem tw_73 : Cond.instanceMethod ⟨"IntervalSplits$Row", "raise", "(II)V"⟩ ∈ LT := mT 73 (by rfl) (by rfl)
theorem tw_74 : Cond.code ⟨"IntervalSplits$Row", "raise", "(II)V"⟩ prog_3_method_5_code 3 none ∈ LT := mT 74 (by rfl) (by rfl)
theorem tw_75 : Cond.fieldLink "IntervalSplits" 72 "IntervalSplits" "room" "I" ∈ LT := mT 75 (by rfl) (by rfl)
theorem tw_76 : Cond.fieldLink "IntervalSplits" 75 "IntervalSplits" "width" "I" ∈ LT := mT 76 (by rfl) (by rfl)
theorem tw_77 : Cond.fieldLink "IntervalSplits" 78 "IntervalSplits" "laidRoom" "I" ∈ LT := mT 77 (by rfl) (by rfl)
theorem tw_78 : Cond.fieldLink "IntervalSplits" 87 "IntervalSplits" "laidWidth" "I" ∈ LT := mT 78 (by rfl) (by rfl)
theorem tw_79 : Cond.fieldLink "IntervalSplits" 14 "IntervalSplits" "keys" "LIntervalSplits$Row;" ∈ LT := mT 79 (by rfl) (by rfl)
theorem tw_80 : Cond.fieldLink "IntervalSplits" 18 "IntervalSplits" "lengths" "LIntervalSplits$Row;" ∈ LT := mT 80 (by rfl) (by rfl)
theorem tw_81 : Cond.fieldLink "IntervalSplits" 21 "IntervalSplits" "numbers" "LIntervalSplits$Row;" ∈ LT := mT 81 (by rfl) (by rfl)
theorem tw_82 : Cond.fieldLink "IntervalSplits" 24 "IntervalSplits" "sizes" "LIntervalSplits$Row;" ∈ LT := mT 82 (by rfl) (by rfl)
theorem tw_83 : Cond.fieldLink "IntervalSplits" 27 "IntervalSplits" "spans" "LIntervalSplits$Row;" ∈ LT := mT 83 (by rfl) (by rfl)
theorem tw_84 : Cond.fieldLink "IntervalSplits" 30 "IntervalSplits" "nextNumber" "I" ∈ LT := mT 84 (by rfl) (by rfl)
theorem tw_85 : Cond.fieldLink "IntervalSplits" 34 "IntervalSplits" "toldCut" "I" ∈ LT := mT 85 (by rfl) (by rfl)
theorem tw_86 : Cond.fieldLink "IntervalSplits" 37 "IntervalSplits" "closed" "Z" ∈ LT := mT 86 (by rfl) (by rfl)
theorem tw_87 : Cond.fieldLink "IntervalSplits" 41 "IntervalSplits" "cutHasRow" "Z" ∈ LT := mT 87 (by rfl) (by rfl)
theorem tw_88 : Cond.fieldLink "IntervalSplits" 50 "IntervalSplits" "cutKind" "LIntervalSplits$Kind;" ∈ LT := mT 88 (by rfl) (by rfl)
theorem tw_89 : Cond.fieldLink "IntervalSplits" 53 "IntervalSplits" "cutPlace" "I" ∈ LT := mT 89 (by rfl) (by rfl)
theorem tw_90 : Cond.fieldLink "IntervalSplits" 56 "IntervalSplits" "intervalSplits" "I" ∈ LT := mT 90 (by rfl) (by rfl)
theorem tw_91 : Cond.fieldLink "IntervalSplits" 59 "IntervalSplits" "areaSplits" "I" ∈ LT := mT 91 (by rfl) (by rfl)
theorem tw_92 : Cond.fieldLink "IntervalSplits" 62 "IntervalSplits" "undoneSplits" "I" ∈ LT := mT 92 (by rfl) (by rfl)
theorem tw_93 : Cond.fieldLink "IntervalSplits" 65 "IntervalSplits" "finishedSplits" "I" ∈ LT := mT 93 (by rfl) (by rfl)
theorem tw_94 : Cond.laysFinal "IntervalSplits" "IntervalSplits" "room" "I" ∈ LT := mT 94 (by rfl) (by rfl)
theorem tw_96 : Cond.laysFinal "IntervalSplits" "IntervalSplits" "width" "I" ∈ LT := mT 96 (by rfl) (by rfl)
theorem tw_98 : Cond.laysFinal "IntervalSplits" "IntervalSplits" "laidRoom" "I" ∈ LT := mT 98 (by rfl) (by rfl)
theorem tw_100 : Cond.laysFinal "IntervalSplits" "IntervalSplits" "laidWidth" "I" ∈ LT := mT 100 (by rfl) (by rfl)
theorem tw_102 : Cond.laysFinal "IntervalSplits" "IntervalSplits" "keys" "LIntervalSplits$Row;" ∈ LT := mT 102 (by rfl) (by rfl)
theorem tw_104 : Cond.laysFinal "IntervalSplits" "IntervalSplits" "lengths" "LIntervalSplits$Row;" ∈ LT := mT 104 (by rfl) (by rfl)
theorem tw_106 : Cond.laysFinal "IntervalSplits" "IntervalSplits" "numbers" "LIntervalSplits$Row;" ∈ LT := mT 106 (by rfl) (by rfl)
theorem tw_108 : Cond.laysFinal "IntervalSplits" "IntervalSplits" "sizes" "LIntervalSplits$Row;" ∈ LT := mT 108 (by rfl) (by rfl)
theorem tw_110 : Cond.laysFinal "IntervalSplits" "IntervalSplits" "spans" "LIntervalSplits$Row;" ∈ LT := mT 110 (by rfl) (by rfl)
theorem tw_112 : Cond.lays "IntervalSplits" "IntervalSplits" "nextNumber" "I" ∈ LT := mT 112 (by rfl) (by rfl)
theorem tw_114 : Cond.lays "IntervalSplits" "IntervalSplits" "toldCut" "I" ∈ LT := mT 114 (by rfl) (by rfl)
theorem tw_116 : Cond.lays "IntervalSplits" "IntervalSplits" "closed" "Z" ∈ LT := mT 116 (by rfl) (by rfl)
theorem tw_118 : Cond.lays "IntervalSplits" "IntervalSplits" "cutHasRow" "Z" ∈ LT := mT 118 (by rfl) (by rfl)
theorem tw_120 : Cond.lays "IntervalSplits" "IntervalSplits" "cutKind" "LIntervalSplits$Kind;" ∈ LT := mT 120 (by rfl) (by rfl)
theorem tw_122 : Cond.lays "IntervalSplits" "IntervalSplits" "cutPlace" "I" ∈ LT := mT 122 (by rfl) (by rfl)
theorem tw_124 : Cond.lays "IntervalSplits" "IntervalSplits" "intervalSplits" "I" ∈ LT := mT 124 (by rfl) (by rfl)
theorem tw_126 : Cond.lays "IntervalSplits" "IntervalSplits" "areaSplits" "I" ∈ LT := mT 126 (by rfl) (by rfl)
theorem tw_128 : Cond.lays "IntervalSplits" "IntervalSplits" "undoneSplits" "I" ∈ LT := mT 128 (by rfl) (by rfl)
theorem tw_130 : Cond.lays "IntervalSplits" "IntervalSplits" "finishedSplits" "I" ∈ LT := mT 130 (by rfl) (by rfl)
theorem tw_132 : Cond.superclass "IntervalSplits" "java/lang/Object" ∈ LT := mT 132 (by rfl) (by rfl)
theorem tw_133 : Cond.methodLink "IntervalSplitsLaw" 29 ⟨"IntervalSplits", "put", "(JI)I"⟩ ∈ LT := mT 133 (by rfl) (by rfl)
theorem tw_134 : Cond.instanceMethod ⟨"IntervalSplits", "put", "(JI)I"⟩ ∈ LT := mT 134 (by rfl) (by rfl)
theorem tw_135 : Cond.selects "IntervalSplits" ⟨"IntervalSplits", "put", "(JI)I"⟩ ⟨"IntervalSplits", "put", "(JI)I"⟩ ∈ LT := mT 135 (by rfl) (by rfl)
theorem tw_136 : Cond.code ⟨"IntervalSplits", "put", "(JI)I"⟩ prog_1_method_2_code 4 (some FieldType.int) ∈ LT := mT 136 (by rfl) (by rfl)
theorem tw_137 : Cond.methodLink "IntervalSplits" 93 ⟨"IntervalSplits", "positionOf", "(J)I"⟩ ∈ LT := mT 137 (by rfl) (by rfl)
theorem tw_139 : Cond.instanceMethod ⟨"IntervalSplits", "positionOf", "(J)I"⟩ ∈ LT := mT 139 (by rfl) (by rfl)
theorem tw_140 : Cond.code ⟨"IntervalSplits", "positionOf", "(J)I"⟩ prog_1_method_17_code 4 (some FieldType.int) ∈ LT := mT 140 (by rfl) (by rfl)
theorem tw_141 : Cond.methodLink "IntervalSplits" 111 ⟨"IntervalSplits", "notGreaterThan", "(J)I"⟩ ∈ LT := mT 141 (by rfl) (by rfl)
theorem tw_143 : Cond.instanceMethod ⟨"IntervalSplits", "notGreaterThan", "(J)I"⟩ ∈ LT := mT 143 (by rfl) (by rfl)
theorem tw_144 : Cond.code ⟨"IntervalSplits", "notGreaterThan", "(J)I"⟩ prog_1_method_16_code 4 (some FieldType.int) ∈ LT := mT 144 (by rfl) (by rfl)
theorem tw_146 : Cond.methodLink "IntervalSplits" 100 ⟨"IntervalSplits", "place", "(JI)Z"⟩ ∈ LT := mT 146 (by rfl) (by rfl)
theorem tw_148 : Cond.instanceMethod ⟨"IntervalSplits", "place", "(JI)Z"⟩ ∈ LT := mT 148 (by rfl) (by rfl)
theorem tw_149 : Cond.code ⟨"IntervalSplits", "place", "(JI)Z"⟩ prog_1_method_20_code 7 (some FieldType.boolean) ∈ LT := mT 149 (by rfl) (by rfl)
theorem tw_152 : Cond.instanceMethod ⟨"IntervalSplits$Row", "groupOf", "(I)I"⟩ ∈ LT := mT 152 (by rfl) (by rfl)
theorem tw_153 : Cond.code ⟨"IntervalSplits$Row", "groupOf", "(I)I"⟩ prog_3_method_9_code 4 (some FieldType.int) ∈ LT := mT 153 (by rfl) (by rfl)
theorem tw_154 : Cond.methodLink "IntervalSplits" 128 ⟨"IntervalSplits", "lengthsIn", "(I)I"⟩ ∈ LT := mT 154 (by rfl) (by rfl)
theorem tw_156 : Cond.instanceMethod ⟨"IntervalSplits", "lengthsIn", "(I)I"⟩ ∈ LT := mT 156 (by rfl) (by rfl)
theorem tw_157 : Cond.code ⟨"IntervalSplits", "lengthsIn", "(I)I"⟩ prog_1_method_18_code 3 (some FieldType.int) ∈ LT := mT 157 (by rfl) (by rfl)
theorem tw_160 : Cond.instanceMethod ⟨"IntervalSplits$Row", "sum", "(II)I"⟩ ∈ LT := mT 160 (by rfl) (by rfl)
theorem tw_161 : Cond.code ⟨"IntervalSplits$Row", "sum", "(II)I"⟩ prog_3_method_8_code 6 (some FieldType.int) ∈ LT := mT 161 (by rfl) (by rfl)
theorem tw_162 : Cond.methodLink "IntervalSplits" 164 ⟨"IntervalSplits", "insertRecord", "(IJI)V"⟩ ∈ LT := mT 162 (by rfl) (by rfl)
theorem tw_164 : Cond.instanceMethod ⟨"IntervalSplits", "insertRecord", "(IJI)V"⟩ ∈ LT := mT 164 (by rfl) (by rfl)
theorem tw_165 : Cond.code ⟨"IntervalSplits", "insertRecord", "(IJI)V"⟩ prog_1_method_21_code 6 none ∈ LT := mT 165 (by rfl) (by rfl)
theorem tw_166 : Cond.methodLink "IntervalSplits" 168 ⟨"IntervalSplits", "kindOfSplit", "(I)LIntervalSplits$Kind;"⟩ ∈ LT := mT 166 (by rfl) (by rfl)
theorem tw_168 : Cond.instanceMethod ⟨"IntervalSplits", "kindOfSplit", "(I)LIntervalSplits$Kind;"⟩ ∈ LT := mT 168 (by rfl) (by rfl)
theorem tw_169 : Cond.code ⟨"IntervalSplits", "kindOfSplit", "(I)LIntervalSplits$Kind;"⟩ prog_1_method_22_code 2 (some (FieldType.object "IntervalSplits$Kind")) ∈ LT := mT 169 (by rfl) (by rfl)
theorem tw_170 : Cond.fieldLink "IntervalSplits" 182 "IntervalSplits$Kind" "AREA" "LIntervalSplits$Kind;" ∈ LT := mT 170 (by rfl) (by rfl)
theorem tw_172 : Cond.fieldLink "IntervalSplits" 176 "IntervalSplits$Kind" "OWN" "LIntervalSplits$Kind;" ∈ LT := mT 172 (by rfl) (by rfl)
theorem tw_174 : Cond.methodLink "IntervalSplits" 172 ⟨"IntervalSplits", "closeAhead", "(LIntervalSplits$Kind;I)V"⟩ ∈ LT := mT 174 (by rfl) (by rfl)
theorem tw_176 : Cond.instanceMethod ⟨"IntervalSplits", "closeAhead", "(LIntervalSplits$Kind;I)V"⟩ ∈ LT := mT 176 (by rfl) (by rfl)
theorem tw_177 : Cond.code ⟨"IntervalSplits", "closeAhead", "(LIntervalSplits$Kind;I)V"⟩ prog_1_method_30_code 3 none ∈ LT := mT 177 (by rfl) (by rfl)
theorem tw_178 : Cond.methodLink "IntervalSplits" 179 ⟨"IntervalSplits", "giveOwnInterval", "(IJI)V"⟩ ∈ LT := mT 178 (by rfl) (by rfl)
theorem tw_180 : Cond.instanceMethod ⟨"IntervalSplits", "giveOwnInterval", "(IJI)V"⟩ ∈ LT := mT 180 (by rfl) (by rfl)
theorem tw_181 : Cond.code ⟨"IntervalSplits", "giveOwnInterval", "(IJI)V"⟩ prog_1_method_27_code 7 none ∈ LT := mT 181 (by rfl) (by rfl)
theorem tw_182 : Cond.methodLink "IntervalSplits" 201 ⟨"IntervalSplits", "insertInterval", "(IIII)V"⟩ ∈ LT := mT 182 (by rfl) (by rfl)
theorem tw_184 : Cond.instanceMethod ⟨"IntervalSplits", "insertInterval", "(IIII)V"⟩ ∈ LT := mT 184 (by rfl) (by rfl)
theorem tw_185 : Cond.code ⟨"IntervalSplits", "insertInterval", "(IIII)V"⟩ prog_1_method_28_code 5 none ∈ LT := mT 185 (by rfl) (by rfl)
theorem tw_186 : Cond.methodLink "IntervalSplits" 185 ⟨"IntervalSplits", "splitArea", "(I)V"⟩ ∈ LT := mT 186 (by rfl) (by rfl)
theorem tw_188 : Cond.instanceMethod ⟨"IntervalSplits", "splitArea", "(I)V"⟩ ∈ LT := mT 188 (by rfl) (by rfl)
theorem tw_189 : Cond.code ⟨"IntervalSplits", "splitArea", "(I)V"⟩ prog_1_method_24_code 3 none ∈ LT := mT 189 (by rfl) (by rfl)
theorem tw_190 : Cond.methodLink "IntervalSplits" 191 ⟨"IntervalSplits", "halveInterval", "(II)V"⟩ ∈ LT := mT 190 (by rfl) (by rfl)
theorem tw_192 : Cond.instanceMethod ⟨"IntervalSplits", "halveInterval", "(II)V"⟩ ∈ LT := mT 192 (by rfl) (by rfl)
theorem tw_193 : Cond.code ⟨"IntervalSplits", "halveInterval", "(II)V"⟩ prog_1_method_25_code 5 none ∈ LT := mT 193 (by rfl) (by rfl)
theorem tw_194 : Cond.methodLink "IntervalSplits" 198 ⟨"IntervalSplits", "keptByHalving", "(I)I"⟩ ∈ LT := mT 194 (by rfl) (by rfl)
theorem tw_196 : Cond.instanceMethod ⟨"IntervalSplits", "keptByHalving", "(I)I"⟩ ∈ LT := mT 196 (by rfl) (by rfl)
theorem tw_197 : Cond.code ⟨"IntervalSplits", "keptByHalving", "(I)I"⟩ prog_1_method_26_code 7 (some FieldType.int) ∈ LT := mT 197 (by rfl) (by rfl)
theorem tw_198 : Cond.methodLink "IntervalSplitsLaw" 34 ⟨"IntervalSplits", "find", "(J)I"⟩ ∈ LT := mT 198 (by rfl) (by rfl)
theorem tw_199 : Cond.instanceMethod ⟨"IntervalSplits", "find", "(J)I"⟩ ∈ LT := mT 199 (by rfl) (by rfl)
theorem tw_200 : Cond.selects "IntervalSplits" ⟨"IntervalSplits", "find", "(J)I"⟩ ⟨"IntervalSplits", "find", "(J)I"⟩ ∈ LT := mT 200 (by rfl) (by rfl)
theorem tw_201 : Cond.code ⟨"IntervalSplits", "find", "(J)I"⟩ prog_1_method_3_code 4 (some FieldType.int) ∈ LT := mT 201 (by rfl) (by rfl)
theorem tw_202 : Cond.methodLink "IntervalSplitsLaw" 39 ⟨"IntervalSplits", "next", "(J)I"⟩ ∈ LT := mT 202 (by rfl) (by rfl)
theorem tw_203 : Cond.instanceMethod ⟨"IntervalSplits", "next", "(J)I"⟩ ∈ LT := mT 203 (by rfl) (by rfl)
theorem tw_204 : Cond.selects "IntervalSplits" ⟨"IntervalSplits", "next", "(J)I"⟩ ⟨"IntervalSplits", "next", "(J)I"⟩ ∈ LT := mT 204 (by rfl) (by rfl)
theorem tw_205 : Cond.code ⟨"IntervalSplits", "next", "(J)I"⟩ prog_1_method_4_code 4 (some FieldType.int) ∈ LT := mT 205 (by rfl) (by rfl)
theorem tw_206 : Cond.methodLink "IntervalSplitsLaw" 43 ⟨"IntervalSplits", "remove", "(J)I"⟩ ∈ LT := mT 206 (by rfl) (by rfl)
theorem tw_207 : Cond.instanceMethod ⟨"IntervalSplits", "remove", "(J)I"⟩ ∈ LT := mT 207 (by rfl) (by rfl)
theorem tw_208 : Cond.selects "IntervalSplits" ⟨"IntervalSplits", "remove", "(J)I"⟩ ⟨"IntervalSplits", "remove", "(J)I"⟩ ∈ LT := mT 208 (by rfl) (by rfl)
theorem tw_209 : Cond.code ⟨"IntervalSplits", "remove", "(J)I"⟩ prog_1_method_5_code 5 (some FieldType.int) ∈ LT := mT 209 (by rfl) (by rfl)
theorem tw_212 : Cond.instanceMethod ⟨"IntervalSplits$Row", "deleteAt", "(I)V"⟩ ∈ LT := mT 212 (by rfl) (by rfl)
theorem tw_213 : Cond.code ⟨"IntervalSplits$Row", "deleteAt", "(I)V"⟩ prog_3_method_7_code 2 none ∈ LT := mT 213 (by rfl) (by rfl)
theorem tw_214 : Cond.methodLink "IntervalSplits" 121 ⟨"IntervalSplits", "dropInterval", "(I)V"⟩ ∈ LT := mT 214 (by rfl) (by rfl)
theorem tw_216 : Cond.instanceMethod ⟨"IntervalSplits", "dropInterval", "(I)V"⟩ ∈ LT := mT 216 (by rfl) (by rfl)
theorem tw_217 : Cond.code ⟨"IntervalSplits", "dropInterval", "(I)V"⟩ prog_1_method_29_code 3 none ∈ LT := mT 217 (by rfl) (by rfl)
theorem tw_218 : Cond.methodLink "IntervalSplitsLaw" 47 ⟨"IntervalSplits", "interval", "(II)I"⟩ ∈ LT := mT 218 (by rfl) (by rfl)
theorem tw_219 : Cond.instanceMethod ⟨"IntervalSplits", "interval", "(II)I"⟩ ∈ LT := mT 219 (by rfl) (by rfl)
theorem tw_220 : Cond.selects "IntervalSplits" ⟨"IntervalSplits", "interval", "(II)I"⟩ ⟨"IntervalSplits", "interval", "(II)I"⟩ ∈ LT := mT 220 (by rfl) (by rfl)
theorem tw_221 : Cond.code ⟨"IntervalSplits", "interval", "(II)I"⟩ prog_1_method_6_code 3 (some FieldType.int) ∈ LT := mT 221 (by rfl) (by rfl)
theorem tw_224 : Cond.instanceMethod ⟨"IntervalSplits$Row", "holds", "(I)Z"⟩ ∈ LT := mT 224 (by rfl) (by rfl)
theorem tw_225 : Cond.code ⟨"IntervalSplits$Row", "holds", "(I)Z"⟩ prog_3_method_2_code 2 (some FieldType.boolean) ∈ LT := mT 225 (by rfl) (by rfl)
theorem tw_226 : Cond.methodLink "IntervalSplitsLaw" 51 ⟨"IntervalSplits", "cut", "(I)I"⟩ ∈ LT := mT 226 (by rfl) (by rfl)
theorem tw_227 : Cond.instanceMethod ⟨"IntervalSplits", "cut", "(I)I"⟩ ∈ LT := mT 227 (by rfl) (by rfl)
theorem tw_228 : Cond.selects "IntervalSplits" ⟨"IntervalSplits", "cut", "(I)I"⟩ ⟨"IntervalSplits", "cut", "(I)I"⟩ ∈ LT := mT 228 (by rfl) (by rfl)
theorem tw_229 : Cond.code ⟨"IntervalSplits", "cut", "(I)I"⟩ prog_1_method_7_code 3 (some FieldType.int) ∈ LT := mT 229 (by rfl) (by rfl)
theorem tw_230 : Cond.methodLink "IntervalSplitsLaw" 56 ⟨"IntervalSplits", "open", "()I"⟩ ∈ LT := mT 230 (by rfl) (by rfl)
theorem tw_231 : Cond.instanceMethod ⟨"IntervalSplits", "open", "()I"⟩ ∈ LT := mT 231 (by rfl) (by rfl)
theorem tw_232 : Cond.selects "IntervalSplits" ⟨"IntervalSplits", "open", "()I"⟩ ⟨"IntervalSplits", "open", "()I"⟩ ∈ LT := mT 232 (by rfl) (by rfl)
theorem tw_233 : Cond.code ⟨"IntervalSplits", "open", "()I"⟩ prog_1_method_8_code 1 (some FieldType.int) ∈ LT := mT 233 (by rfl) (by rfl)
theorem tw_234 : Cond.methodLink "IntervalSplits" 131 ⟨"IntervalSplits", "finishCutSplit", "()V"⟩ ∈ LT := mT 234 (by rfl) (by rfl)
theorem tw_236 : Cond.instanceMethod ⟨"IntervalSplits", "finishCutSplit", "()V"⟩ ∈ LT := mT 236 (by rfl) (by rfl)
theorem tw_237 : Cond.code ⟨"IntervalSplits", "finishCutSplit", "()V"⟩ prog_1_method_31_code 1 none ∈ LT := mT 237 (by rfl) (by rfl)
theorem tw_238 : Cond.methodLink "IntervalSplitsLaw" 61 ⟨"IntervalSplits", "split", "(I)I"⟩ ∈ LT := mT 238 (by rfl) (by rfl)
theorem tw_239 : Cond.instanceMethod ⟨"IntervalSplits", "split", "(I)I"⟩ ∈ LT := mT 239 (by rfl) (by rfl)
theorem tw_240 : Cond.selects "IntervalSplits" ⟨"IntervalSplits", "split", "(I)I"⟩ ⟨"IntervalSplits", "split", "(I)I"⟩ ∈ LT := mT 240 (by rfl) (by rfl)
theorem tw_241 : Cond.code ⟨"IntervalSplits", "split", "(I)I"⟩ prog_1_method_9_code 2 (some FieldType.int) ∈ LT := mT 241 (by rfl) (by rfl)
theorem tw_242 : Cond.methodLink "IntervalSplitsLaw" 72 ⟨"IntervalSplits", "verify", "()I"⟩ ∈ LT := mT 242 (by rfl) (by rfl)
theorem tw_243 : Cond.instanceMethod ⟨"IntervalSplits", "verify", "()I"⟩ ∈ LT := mT 243 (by rfl) (by rfl)
theorem tw_244 : Cond.selects "IntervalSplits" ⟨"IntervalSplits", "verify", "()I"⟩ ⟨"IntervalSplits", "verify", "()I"⟩ ∈ LT := mT 244 (by rfl) (by rfl)
theorem tw_245 : Cond.code ⟨"IntervalSplits", "verify", "()I"⟩ prog_1_method_11_code 1 (some FieldType.int) ∈ LT := mT 245 (by rfl) (by rfl)
theorem tw_246 : Cond.methodLink "IntervalSplits" 147 ⟨"IntervalSplits", "brokenOrders", "()I"⟩ ∈ LT := mT 246 (by rfl) (by rfl)
theorem tw_248 : Cond.instanceMethod ⟨"IntervalSplits", "brokenOrders", "()I"⟩ ∈ LT := mT 248 (by rfl) (by rfl)
theorem tw_249 : Cond.code ⟨"IntervalSplits", "brokenOrders", "()I"⟩ prog_1_method_33_code 3 (some FieldType.int) ∈ LT := mT 249 (by rfl) (by rfl)
theorem tw_250 : Cond.methodLink "IntervalSplits" 151 ⟨"IntervalSplits", "brokenRooms", "()I"⟩ ∈ LT := mT 250 (by rfl) (by rfl)
theorem tw_252 : Cond.instanceMethod ⟨"IntervalSplits", "brokenRooms", "()I"⟩ ∈ LT := mT 252 (by rfl) (by rfl)
theorem tw_253 : Cond.code ⟨"IntervalSplits", "brokenRooms", "()I"⟩ prog_1_method_34_code 5 (some FieldType.int) ∈ LT := mT 253 (by rfl) (by rfl)
theorem tw_254 : Cond.methodLink "IntervalSplits" 154 ⟨"IntervalSplits", "brokenWidths", "()I"⟩ ∈ LT := mT 254 (by rfl) (by rfl)
theorem tw_256 : Cond.instanceMethod ⟨"IntervalSplits", "brokenWidths", "()I"⟩ ∈ LT := mT 256 (by rfl) (by rfl)
theorem tw_257 : Cond.code ⟨"IntervalSplits", "brokenWidths", "()I"⟩ prog_1_method_35_code 3 (some FieldType.int) ∈ LT := mT 257 (by rfl) (by rfl)
theorem tw_258 : Cond.methodLink "IntervalSplitsLaw" 76 ⟨"IntervalSplits", "reorganise", "()I"⟩ ∈ LT := mT 258 (by rfl) (by rfl)
theorem tw_259 : Cond.instanceMethod ⟨"IntervalSplits", "reorganise", "()I"⟩ ∈ LT := mT 259 (by rfl) (by rfl)
theorem tw_260 : Cond.selects "IntervalSplits" ⟨"IntervalSplits", "reorganise", "()I"⟩ ⟨"IntervalSplits", "reorganise", "()I"⟩ ∈ LT := mT 260 (by rfl) (by rfl)
theorem tw_261 : Cond.code ⟨"IntervalSplits", "reorganise", "()I"⟩ prog_1_method_12_code 5 (some FieldType.int) ∈ LT := mT 261 (by rfl) (by rfl)
theorem tw_262 : Cond.methodLink "IntervalSplitsLaw" 80 ⟨"IntervalSplits", "order", "(I)J"⟩ ∈ LT := mT 262 (by rfl) (by rfl)
theorem tw_263 : Cond.instanceMethod ⟨"IntervalSplits", "order", "(I)J"⟩ ∈ LT := mT 263 (by rfl) (by rfl)
theorem tw_264 : Cond.selects "IntervalSplits" ⟨"IntervalSplits", "order", "(I)J"⟩ ⟨"IntervalSplits", "order", "(I)J"⟩ ∈ LT := mT 264 (by rfl) (by rfl)
theorem tw_265 : Cond.code ⟨"IntervalSplits", "order", "(I)J"⟩ prog_1_method_13_code 2 (some FieldType.long) ∈ LT := mT 265 (by rfl) (by rfl)
theorem tw_266 : Cond.methodLink "IntervalSplitsLaw" 85 ⟨"IntervalSplits", "count", "(I)I"⟩ ∈ LT := mT 266 (by rfl) (by rfl)
theorem tw_267 : Cond.instanceMethod ⟨"IntervalSplits", "count", "(I)I"⟩ ∈ LT := mT 267 (by rfl) (by rfl)
theorem tw_268 : Cond.selects "IntervalSplits" ⟨"IntervalSplits", "count", "(I)I"⟩ ⟨"IntervalSplits", "count", "(I)I"⟩ ∈ LT := mT 268 (by rfl) (by rfl)
theorem tw_269 : Cond.code ⟨"IntervalSplits", "count", "(I)I"⟩ prog_1_method_14_code 2 (some FieldType.int) ∈ LT := mT 269 (by rfl) (by rfl)
theorem tw_270 : Cond.methodLink "IntervalSplitsLaw" 15 ⟨"IntervalSplitsLaw", "cell", "([II)I"⟩ ∈ LT := mT 270 (by rfl) (by rfl)
theorem tw_271 : Cond.static ⟨"IntervalSplitsLaw", "cell", "([II)I"⟩ ∈ LT := mT 271 (by rfl) (by rfl)
theorem tw_272 : Cond.code ⟨"IntervalSplitsLaw", "cell", "([II)I"⟩ method_2_code 2 (some FieldType.int) ∈ LT := mT 272 (by rfl) (by rfl)
theorem tw_273 : Cond.methodLink "IntervalSplitsLaw" 65 ⟨"IntervalSplitsLaw", "index", "(LIntervalSplits;II[J)I"⟩ ∈ LT := mT 273 (by rfl) (by rfl)
theorem tw_274 : Cond.static ⟨"IntervalSplitsLaw", "index", "(LIntervalSplits;II[J)I"⟩ ∈ LT := mT 274 (by rfl) (by rfl)
theorem tw_276 : Cond.classLink "IntervalSplitsLaw" 13 "java/lang/ArrayIndexOutOfBoundsException" ∈ LT := mT 276 (by rfl) (by rfl)
theorem tw_277 : Cond.methodLink "IntervalSplitsLaw" 7 ⟨"IntervalSplits", "index", "(II)I"⟩ ∈ LT := mT 277 (by rfl) (by rfl)
theorem tw_278 : Cond.instanceMethod ⟨"IntervalSplits", "index", "(II)I"⟩ ∈ LT := mT 278 (by rfl) (by rfl)
theorem tw_279 : Cond.selects "IntervalSplits" ⟨"IntervalSplits", "index", "(II)I"⟩ ⟨"IntervalSplits", "index", "(II)I"⟩ ∈ LT := mT 279 (by rfl) (by rfl)
theorem tw_280 : Cond.code ⟨"IntervalSplits", "index", "(II)I"⟩ prog_1_method_10_code 3 (some FieldType.int) ∈ LT := mT 280 (by rfl) (by rfl)
theorem tw_281 : Cond.methodLink "IntervalSplits" 134 ⟨"IntervalSplits", "lowBitsOfFirstKey", "(I)I"⟩ ∈ LT := mT 281 (by rfl) (by rfl)
theorem tw_283 : Cond.instanceMethod ⟨"IntervalSplits", "lowBitsOfFirstKey", "(I)I"⟩ ∈ LT := mT 283 (by rfl) (by rfl)
theorem tw_284 : Cond.code ⟨"IntervalSplits", "lowBitsOfFirstKey", "(I)I"⟩ prog_1_method_19_code 2 (some FieldType.int) ∈ LT := mT 284 (by rfl) (by rfl)
theorem tw_285 : Cond.classLink "IntervalSplits" 140 "java/lang/ArrayIndexOutOfBoundsException" ∈ LT := mT 285 (by rfl) (by rfl)
theorem tw_286 : Cond.instantiable "java/lang/ArrayIndexOutOfBoundsException" 6 ∈ LT := mT 286 (by rfl) (by rfl)
theorem tw_296 : Cond.selects "java/lang/ArrayIndexOutOfBoundsException" ⟨"java/lang/Throwable", "fillInStackTrace", "(I)Ljava/lang/Throwable;"⟩ ⟨"java/lang/Throwable", "fillInStackTrace", "(I)Ljava/lang/Throwable;"⟩ ∈ LT := mT 296 (by rfl) (by rfl)
theorem tw_297 : Cond.selects "java/lang/ArrayIndexOutOfBoundsException" ⟨"java/lang/Throwable", "fillInStackTrace", "()Ljava/lang/Throwable;"⟩ ⟨"java/lang/Throwable", "fillInStackTrace", "()Ljava/lang/Throwable;"⟩ ∈ LT := mT 297 (by rfl) (by rfl)
theorem tw_298 : Cond.lays "java/lang/ArrayIndexOutOfBoundsException" "java/lang/Throwable" "cause" "Ljava/lang/Throwable;" ∈ LT := mT 298 (by rfl) (by rfl)
theorem tw_299 : Cond.lays "java/lang/Throwable" "java/lang/Throwable" "cause" "Ljava/lang/Throwable;" ∈ LT := mT 299 (by rfl) (by rfl)
theorem tw_300 : Cond.lays "java/lang/ArrayIndexOutOfBoundsException" "java/lang/Throwable" "stackTrace" "[Ljava/lang/StackTraceElement;" ∈ LT := mT 300 (by rfl) (by rfl)
set_option maxRecDepth 20000 in
theorem tw_301 : Cond.lays "java/lang/Throwable" "java/lang/Throwable" "stackTrace" "[Ljava/lang/StackTraceElement;" ∈ LT := mT 301 (by rfl) (by rfl)
set_option maxRecDepth 20000 in
theorem tw_302 : Cond.lays "java/lang/ArrayIndexOutOfBoundsException" "java/lang/Throwable" "suppressedExceptions" "Ljava/util/List;" ∈ LT := mT 302 (by rfl) (by rfl)
set_option maxRecDepth 20000 in
theorem tw_303 : Cond.lays "java/lang/Throwable" "java/lang/Throwable" "suppressedExceptions" "Ljava/util/List;" ∈ LT := mT 303 (by rfl) (by rfl)
set_option maxRecDepth 20000 in
theorem tw_304 : Cond.lays "java/lang/ArrayIndexOutOfBoundsException" "java/lang/Throwable" "detailMessage" "Ljava/lang/String;" ∈ LT := mT 304 (by rfl) (by rfl)
set_option maxRecDepth 20000 in
theorem tw_305 : Cond.lays "java/lang/Throwable" "java/lang/Throwable" "detailMessage" "Ljava/lang/String;" ∈ LT := mT 305 (by rfl) (by rfl)
set_option maxRecDepth 20000 in
theorem tw_306 : Cond.lays "java/lang/ArrayIndexOutOfBoundsException" "java/lang/Throwable" "backtrace" "Ljava/lang/Object;" ∈ LT := mT 306 (by rfl) (by rfl)
set_option maxRecDepth 20000 in
theorem tw_307 : Cond.lays "java/lang/Throwable" "java/lang/Throwable" "backtrace" "Ljava/lang/Object;" ∈ LT := mT 307 (by rfl) (by rfl)
set_option maxRecDepth 20000 in
theorem tw_308 : Cond.fieldLink "java/lang/Throwable" 198 "java/lang/Throwable" "backtrace" "Ljava/lang/Object;" ∈ LT := mT 308 (by rfl) (by rfl)
set_option maxRecDepth 20000 in
theorem tw_309 : Cond.superclass "java/lang/Throwable" "java/lang/Object" ∈ LT := mT 309 (by rfl) (by rfl)
set_option maxRecDepth 20000 in
theorem tw_310 : Cond.instanceMethod ⟨"java/lang/Throwable", "<init>", "()V"⟩ ∈ LT := mT 310 (by rfl) (by rfl)
set_option maxRecDepth 20000 in
theorem tw_311 : Cond.code ⟨"java/lang/Throwable", "<init>", "()V"⟩ prog_14_method_1_code 1 none ∈ LT := mT 311 (by rfl) (by rfl)
set_option maxRecDepth 20000 in
theorem tw_312 : Cond.methodLink "java/lang/Throwable" 1 ⟨"java/lang/Object", "<init>", "()V"⟩ ∈ LT := mT 312 (by rfl) (by rfl)
set_option maxRecDepth 20000 in
theorem tw_313 : Cond.fieldLink "java/lang/Throwable" 13 "java/lang/Throwable" "UNASSIGNED_STACK" "[Ljava/lang/StackTraceElement;" ∈ LT := mT 313 (by rfl) (by rfl)
set_option maxRecDepth 20000 in
theorem tw_315 : Cond.fieldLink "java/lang/Throwable" 20 "java/lang/Throwable" "SUPPRESSED_SENTINEL" "Ljava/util/List;" ∈ LT := mT 315 (by rfl) (by rfl)
set_option maxRecDepth 20000 in
theorem tw_317 : Cond.methodLink "java/lang/Throwable" 27 ⟨"java/lang/Throwable", "fillInStackTrace", "()Ljava/lang/Throwable;"⟩ ∈ LT := mT 317 (by rfl) (by rfl)
set_option maxRecDepth 20000 in
theorem tw_318 : Cond.instanceMethod ⟨"java/lang/Throwable", "fillInStackTrace", "()Ljava/lang/Throwable;"⟩ ∈ LT := mT 318 (by rfl) (by rfl)
set_option maxRecDepth 20000 in
theorem tw_321 : Cond.methodLink "java/lang/Throwable" 202 ⟨"java/lang/Throwable", "fillInStackTrace", "(I)Ljava/lang/Throwable;"⟩ ∈ LT := mT 321 (by rfl) (by rfl)
set_option maxRecDepth 20000 in
theorem tw_323 : Cond.instanceMethod ⟨"java/lang/Throwable", "fillInStackTrace", "(I)Ljava/lang/Throwable;"⟩ ∈ LT := mT 323 (by rfl) (by rfl)
set_option maxRecDepth 20000 in
theorem tw_324 : Cond.instantiable "java/lang/Throwable" 6 ∈ LT := mT 324 (by rfl) (by rfl)
set_option maxRecDepth 20000 in
theorem tw_325 : Cond.native ⟨"java/lang/Throwable", "fillInStackTrace", "(I)Ljava/lang/Throwable;"⟩ ∈ LT := mT 325 (by rfl) (by rfl)
set_option maxRecDepth 20000 in
theorem tw_327 : Cond.methodLink "IntervalSplits" 144 ⟨"java/lang/ArrayIndexOutOfBoundsException", "<init>", "(Ljava/lang/String;)V"⟩ ∈ LT := mT 327 (by rfl) (by rfl)
set_option maxRecDepth 20000 in
theorem tw_328 : Cond.instanceMethod ⟨"java/lang/ArrayIndexOutOfBoundsException", "<init>", "(Ljava/lang/String;)V"⟩ ∈ LT := mT 328 (by rfl) (by rfl)
set_option maxRecDepth 20000 in
theorem tw_329 : Cond.code ⟨"java/lang/ArrayIndexOutOfBoundsException", "<init>", "(Ljava/lang/String;)V"⟩ prog_6_method_2_code 2 none ∈ LT := mT 329 (by rfl) (by rfl)
set_option maxRecDepth 20000 in
theorem tw_330 : Cond.methodLink "java/lang/ArrayIndexOutOfBoundsException" 7 ⟨"java/lang/IndexOutOfBoundsException", "<init>", "(Ljava/lang/String;)V"⟩ ∈ LT := mT 330 (by rfl) (by rfl)
set_option maxRecDepth 20000 in
theorem tw_331 : Cond.instanceMethod ⟨"java/lang/IndexOutOfBoundsException", "<init>", "(Ljava/lang/String;)V"⟩ ∈ LT := mT 331 (by rfl) (by rfl)
set_option maxRecDepth 20000 in
theorem tw_332 : Cond.code ⟨"java/lang/IndexOutOfBoundsException", "<init>", "(Ljava/lang/String;)V"⟩ prog_9_method_2_code 2 none ∈ LT := mT 332 (by rfl) (by rfl)
set_option maxRecDepth 20000 in
theorem tw_333 : Cond.methodLink "java/lang/IndexOutOfBoundsException" 7 ⟨"java/lang/RuntimeException", "<init>", "(Ljava/lang/String;)V"⟩ ∈ LT := mT 333 (by rfl) (by rfl)
set_option maxRecDepth 20000 in
theorem tw_334 : Cond.instanceMethod ⟨"java/lang/RuntimeException", "<init>", "(Ljava/lang/String;)V"⟩ ∈ LT := mT 334 (by rfl) (by rfl)
set_option maxRecDepth 20000 in
theorem tw_335 : Cond.code ⟨"java/lang/RuntimeException", "<init>", "(Ljava/lang/String;)V"⟩ prog_11_method_2_code 2 none ∈ LT := mT 335 (by rfl) (by rfl)
set_option maxRecDepth 20000 in
theorem tw_336 : Cond.methodLink "java/lang/RuntimeException" 7 ⟨"java/lang/Exception", "<init>", "(Ljava/lang/String;)V"⟩ ∈ LT := mT 336 (by rfl) (by rfl)
set_option maxRecDepth 20000 in
theorem tw_337 : Cond.instanceMethod ⟨"java/lang/Exception", "<init>", "(Ljava/lang/String;)V"⟩ ∈ LT := mT 337 (by rfl) (by rfl)
set_option maxRecDepth 20000 in
theorem tw_338 : Cond.code ⟨"java/lang/Exception", "<init>", "(Ljava/lang/String;)V"⟩ prog_8_method_2_code 2 none ∈ LT := mT 338 (by rfl) (by rfl)
set_option maxRecDepth 20000 in
theorem tw_339 : Cond.methodLink "java/lang/Exception" 7 ⟨"java/lang/Throwable", "<init>", "(Ljava/lang/String;)V"⟩ ∈ LT := mT 339 (by rfl) (by rfl)
set_option maxRecDepth 20000 in
theorem tw_340 : Cond.instanceMethod ⟨"java/lang/Throwable", "<init>", "(Ljava/lang/String;)V"⟩ ∈ LT := mT 340 (by rfl) (by rfl)
set_option maxRecDepth 20000 in
theorem tw_341 : Cond.code ⟨"java/lang/Throwable", "<init>", "(Ljava/lang/String;)V"⟩ prog_14_method_2_code 2 none ∈ LT := mT 341 (by rfl) (by rfl)
set_option maxRecDepth 20000 in
theorem tw_343 : Cond.fieldLink "java/lang/Throwable" 31 "java/lang/Throwable" "detailMessage" "Ljava/lang/String;" ∈ LT := mT 343 (by rfl) (by rfl)
set_option maxRecDepth 20000 in
theorem tw_344 : Cond.fieldLink "java/lang/Throwable" 7 "java/lang/Throwable" "cause" "Ljava/lang/Throwable;" ∈ LT := mT 344 (by rfl) (by rfl)
set_option maxRecDepth 20000 in
theorem tw_345 : Cond.fieldLink "java/lang/Throwable" 17 "java/lang/Throwable" "stackTrace" "[Ljava/lang/StackTraceElement;" ∈ LT := mT 345 (by rfl) (by rfl)
set_option maxRecDepth 20000 in
theorem tw_346 : Cond.fieldLink "java/lang/Throwable" 24 "java/lang/Throwable" "suppressedExceptions" "Ljava/util/List;" ∈ LT := mT 346 (by rfl) (by rfl)
set_option maxRecDepth 20000 in
theorem tw_351 : Cond.lays "java/lang/ArrayIndexOutOfBoundsException" "java/lang/Throwable" "depth" "I" ∈ LT := mT 351 (by rfl) (by rfl)
set_option maxRecDepth 20000 in
theorem tw_354 : Cond.superclass "java/lang/ArrayIndexOutOfBoundsException" "java/lang/IndexOutOfBoundsException" ∈ LT := mT 354 (by rfl) (by rfl)
set_option maxRecDepth 20000 in
theorem tw_355 : Cond.arrayClass FieldType.byte ∈ LT := mT 355 (by rfl) (by rfl)
set_option maxRecDepth 20000 in
theorem tw_356 : Cond.classLink "IntervalSplitsLaw" 24 "IntervalSplitsModel" ∈ LT := mT 356 (by rfl) (by rfl)
set_option maxRecDepth 20000 in
theorem tw_357 : Cond.instantiable "IntervalSplitsModel" 20 ∈ LT := mT 357 (by rfl) (by rfl)
set_option maxRecDepth 20000 in
theorem tw_358 : Cond.methodLink "IntervalSplitsLaw" 26 ⟨"IntervalSplitsModel", "<init>", "(IIII)V"⟩ ∈ LT := mT 358 (by rfl) (by rfl)
set_option maxRecDepth 20000 in
theorem tw_359 : Cond.instanceMethod ⟨"IntervalSplitsModel", "<init>", "(IIII)V"⟩ ∈ LT := mT 359 (by rfl) (by rfl)
set_option maxRecDepth 20000 in
theorem tw_360 : Cond.code ⟨"IntervalSplitsModel", "<init>", "(IIII)V"⟩ prog_5_method_1_code 7 none ∈ LT := mT 360 (by rfl) (by rfl)
set_option maxRecDepth 20000 in
theorem tw_361 : Cond.methodLink "IntervalSplitsModel" 1 ⟨"java/lang/Object", "<init>", "()V"⟩ ∈ LT := mT 361 (by rfl) (by rfl)
set_option maxRecDepth 20000 in
theorem tw_362 : Cond.methodLink "IntervalSplitsModel" 39 ⟨"IntervalSplitsModel", "held", "(III)I"⟩ ∈ LT := mT 362 (by rfl) (by rfl)
set_option maxRecDepth 20000 in
theorem tw_363 : Cond.static ⟨"IntervalSplitsModel", "held", "(III)I"⟩ ∈ LT := mT 363 (by rfl) (by rfl)
set_option maxRecDepth 20000 in
theorem tw_364 : Cond.code ⟨"IntervalSplitsModel", "held", "(III)I"⟩ prog_5_method_2_code 3 (some FieldType.int) ∈ LT := mT 364 (by rfl) (by rfl)
set_option maxRecDepth 20000 in
theorem tw_365 : Cond.fieldLink "IntervalSplitsModel" 55 "IntervalSplitsModel" "code" "I" ∈ LT := mT 365 (by rfl) (by rfl)
set_option maxRecDepth 20000 in
theorem tw_366 : Cond.fieldLink "IntervalSplitsModel" 43 "IntervalSplitsModel" "room" "I" ∈ LT := mT 366 (by rfl) (by rfl)
set_option maxRecDepth 20000 in
theorem tw_367 : Cond.fieldLink "IntervalSplitsModel" 46 "IntervalSplitsModel" "width" "I" ∈ LT := mT 367 (by rfl) (by rfl)
set_option maxRecDepth 20000 in
theorem tw_368 : Cond.fieldLink "IntervalSplitsModel" 49 "IntervalSplitsModel" "load" "I" ∈ LT := mT 368 (by rfl) (by rfl)
set_option maxRecDepth 20000 in
theorem tw_369 : Cond.fieldLink "IntervalSplitsModel" 52 "IntervalSplitsModel" "loadWidth" "I" ∈ LT := mT 369 (by rfl) (by rfl)
set_option maxRecDepth 20000 in
theorem tw_370 : Cond.fieldLink "IntervalSplitsModel" 7 "IntervalSplitsModel" "keys" "[J" ∈ LT := mT 370 (by rfl) (by rfl)
set_option maxRecDepth 20000 in
theorem tw_371 : Cond.fieldLink "IntervalSplitsModel" 13 "IntervalSplitsModel" "lengths" "[I" ∈ LT := mT 371 (by rfl) (by rfl)
set_option maxRecDepth 20000 in
theorem tw_372 : Cond.fieldLink "IntervalSplitsModel" 17 "IntervalSplitsModel" "of" "[I" ∈ LT := mT 372 (by rfl) (by rfl)
set_option maxRecDepth 20000 in
theorem tw_373 : Cond.fieldLink "IntervalSplitsModel" 58 "IntervalSplitsModel" "size" "I" ∈ LT := mT 373 (by rfl) (by rfl)
set_option maxRecDepth 20000 in
theorem tw_374 : Cond.fieldLink "IntervalSplitsModel" 20 "IntervalSplitsModel" "intervals" "[I" ∈ LT := mT 374 (by rfl) (by rfl)
set_option maxRecDepth 20000 in
theorem tw_375 : Cond.fieldLink "IntervalSplitsModel" 23 "IntervalSplitsModel" "areas" "[I" ∈ LT := mT 375 (by rfl) (by rfl)
set_option maxRecDepth 20000 in
theorem tw_376 : Cond.fieldLink "IntervalSplitsModel" 26 "IntervalSplitsModel" "many" "I" ∈ LT := mT 376 (by rfl) (by rfl)
set_option maxRecDepth 20000 in
theorem tw_377 : Cond.fieldLink "IntervalSplitsModel" 30 "IntervalSplitsModel" "number" "I" ∈ LT := mT 377 (by rfl) (by rfl)
set_option maxRecDepth 20000 in
theorem tw_378 : Cond.fieldLink "IntervalSplitsModel" 33 "IntervalSplitsModel" "area" "I" ∈ LT := mT 378 (by rfl) (by rfl)
set_option maxRecDepth 20000 in
theorem tw_379 : Cond.fieldLink "IntervalSplitsModel" 85 "IntervalSplitsModel" "cutAt" "I" ∈ LT := mT 379 (by rfl) (by rfl)
set_option maxRecDepth 20000 in
theorem tw_380 : Cond.fieldLink "IntervalSplitsModel" 92 "IntervalSplitsModel" "pending" "I" ∈ LT := mT 380 (by rfl) (by rfl)
set_option maxRecDepth 20000 in
theorem tw_381 : Cond.fieldLink "IntervalSplitsModel" 95 "IntervalSplitsModel" "pendingAt" "I" ∈ LT := mT 381 (by rfl) (by rfl)
set_option maxRecDepth 20000 in
theorem tw_382 : Cond.fieldLink "IntervalSplitsModel" 88 "IntervalSplitsModel" "closed" "Z" ∈ LT := mT 382 (by rfl) (by rfl)
set_option maxRecDepth 20000 in
theorem tw_383 : Cond.fieldLink "IntervalSplitsModel" 98 "IntervalSplitsModel" "finishes" "Z" ∈ LT := mT 383 (by rfl) (by rfl)
set_option maxRecDepth 20000 in
theorem tw_384 : Cond.fieldLink "IntervalSplitsModel" 36 "IntervalSplitsModel" "splits" "[I" ∈ LT := mT 384 (by rfl) (by rfl)
set_option maxRecDepth 20000 in
theorem tw_385 : Cond.lays "IntervalSplitsModel" "IntervalSplitsModel" "code" "I" ∈ LT := mT 385 (by rfl) (by rfl)
set_option maxRecDepth 20000 in
theorem tw_387 : Cond.laysFinal "IntervalSplitsModel" "IntervalSplitsModel" "room" "I" ∈ LT := mT 387 (by rfl) (by rfl)
set_option maxRecDepth 20000 in
theorem tw_389 : Cond.laysFinal "IntervalSplitsModel" "IntervalSplitsModel" "width" "I" ∈ LT := mT 389 (by rfl) (by rfl)
set_option maxRecDepth 20000 in
theorem tw_391 : Cond.laysFinal "IntervalSplitsModel" "IntervalSplitsModel" "load" "I" ∈ LT := mT 391 (by rfl) (by rfl)
set_option maxRecDepth 20000 in
theorem tw_393 : Cond.laysFinal "IntervalSplitsModel" "IntervalSplitsModel" "loadWidth" "I" ∈ LT := mT 393 (by rfl) (by rfl)
set_option maxRecDepth 20000 in
theorem tw_395 : Cond.laysFinal "IntervalSplitsModel" "IntervalSplitsModel" "keys" "[J" ∈ LT := mT 395 (by rfl) (by rfl)
set_option maxRecDepth 20000 in
theorem tw_397 : Cond.laysFinal "IntervalSplitsModel" "IntervalSplitsModel" "lengths" "[I" ∈ LT := mT 397 (by rfl) (by rfl)
set_option maxRecDepth 20000 in
theorem tw_399 : Cond.laysFinal "IntervalSplitsModel" "IntervalSplitsModel" "of" "[I" ∈ LT := mT 399 (by rfl) (by rfl)
set_option maxRecDepth 20000 in
theorem tw_401 : Cond.lays "IntervalSplitsModel" "IntervalSplitsModel" "size" "I" ∈ LT := mT 401 (by rfl) (by rfl)
set_option maxRecDepth 20000 in
theorem tw_403 : Cond.laysFinal "IntervalSplitsModel" "IntervalSplitsModel" "intervals" "[I" ∈ LT := mT 403 (by rfl) (by rfl)
set_option maxRecDepth 20000 in
theorem tw_405 : Cond.laysFinal "IntervalSplitsModel" "IntervalSplitsModel" "areas" "[I" ∈ LT := mT 405 (by rfl) (by rfl)
set_option maxRecDepth 20000 in
theorem tw_407 : Cond.lays "IntervalSplitsModel" "IntervalSplitsModel" "many" "I" ∈ LT := mT 407 (by rfl) (by rfl)
set_option maxRecDepth 20000 in
theorem tw_409 : Cond.lays "IntervalSplitsModel" "IntervalSplitsModel" "number" "I" ∈ LT := mT 409 (by rfl) (by rfl)
set_option maxRecDepth 20000 in
theorem tw_411 : Cond.lays "IntervalSplitsModel" "IntervalSplitsModel" "area" "I" ∈ LT := mT 411 (by rfl) (by rfl)
set_option maxRecDepth 20000 in
theorem tw_413 : Cond.lays "IntervalSplitsModel" "IntervalSplitsModel" "cutAt" "I" ∈ LT := mT 413 (by rfl) (by rfl)
set_option maxRecDepth 20000 in
theorem tw_415 : Cond.lays "IntervalSplitsModel" "IntervalSplitsModel" "pending" "I" ∈ LT := mT 415 (by rfl) (by rfl)
set_option maxRecDepth 20000 in
theorem tw_417 : Cond.lays "IntervalSplitsModel" "IntervalSplitsModel" "pendingAt" "I" ∈ LT := mT 417 (by rfl) (by rfl)
set_option maxRecDepth 20000 in
theorem tw_419 : Cond.lays "IntervalSplitsModel" "IntervalSplitsModel" "closed" "Z" ∈ LT := mT 419 (by rfl) (by rfl)
set_option maxRecDepth 20000 in
theorem tw_421 : Cond.lays "IntervalSplitsModel" "IntervalSplitsModel" "finishes" "Z" ∈ LT := mT 421 (by rfl) (by rfl)
set_option maxRecDepth 20000 in
theorem tw_423 : Cond.laysFinal "IntervalSplitsModel" "IntervalSplitsModel" "splits" "[I" ∈ LT := mT 423 (by rfl) (by rfl)
set_option maxRecDepth 20000 in
theorem tw_425 : Cond.superclass "IntervalSplitsModel" "java/lang/Object" ∈ LT := mT 425 (by rfl) (by rfl)
set_option maxRecDepth 20000 in
theorem tw_426 : Cond.arrayClass FieldType.int ∈ LT := mT 426 (by rfl) (by rfl)
set_option maxRecDepth 20000 in
theorem tw_427 : Cond.methodLink "IntervalSplitsLaw" 69 ⟨"IntervalSplitsModel", "thrown", "()I"⟩ ∈ LT := mT 427 (by rfl) (by rfl)
set_option maxRecDepth 20000 in
theorem tw_428 : Cond.instanceMethod ⟨"IntervalSplitsModel", "thrown", "()I"⟩ ∈ LT := mT 428 (by rfl) (by rfl)
set_option maxRecDepth 20000 in
theorem tw_429 : Cond.selects "IntervalSplitsModel" ⟨"IntervalSplitsModel", "thrown", "()I"⟩ ⟨"IntervalSplitsModel", "thrown", "()I"⟩ ∈ LT := mT 429 (by rfl) (by rfl)
set_option maxRecDepth 20000 in
theorem tw_430 : Cond.code ⟨"IntervalSplitsModel", "thrown", "()I"⟩ prog_5_method_3_code 1 (some FieldType.int) ∈ LT := mT 430 (by rfl) (by rfl)
set_option maxRecDepth 20000 in
theorem tw_431 : Cond.methodLink "IntervalSplitsLaw" 33 ⟨"IntervalSplitsModel", "put", "(JI)I"⟩ ∈ LT := mT 431 (by rfl) (by rfl)
set_option maxRecDepth 20000 in
theorem tw_432 : Cond.instanceMethod ⟨"IntervalSplitsModel", "put", "(JI)I"⟩ ∈ LT := mT 432 (by rfl) (by rfl)
set_option maxRecDepth 20000 in
theorem tw_433 : Cond.selects "IntervalSplitsModel" ⟨"IntervalSplitsModel", "put", "(JI)I"⟩ ⟨"IntervalSplitsModel", "put", "(JI)I"⟩ ∈ LT := mT 433 (by rfl) (by rfl)
set_option maxRecDepth 20000 in
theorem tw_434 : Cond.code ⟨"IntervalSplitsModel", "put", "(JI)I"⟩ prog_5_method_17_code 8 (some FieldType.int) ∈ LT := mT 434 (by rfl) (by rfl)
set_option maxRecDepth 20000 in
theorem tw_435 : Cond.methodLink "IntervalSplitsModel" 101 ⟨"IntervalSplitsModel", "has", "(J)Z"⟩ ∈ LT := mT 435 (by rfl) (by rfl)
set_option maxRecDepth 20000 in
theorem tw_437 : Cond.instanceMethod ⟨"IntervalSplitsModel", "has", "(J)Z"⟩ ∈ LT := mT 437 (by rfl) (by rfl)
set_option maxRecDepth 20000 in
theorem tw_438 : Cond.code ⟨"IntervalSplitsModel", "has", "(J)Z"⟩ prog_5_method_5_code 4 (some FieldType.boolean) ∈ LT := mT 438 (by rfl) (by rfl)
set_option maxRecDepth 20000 in
theorem tw_439 : Cond.methodLink "IntervalSplitsModel" 61 ⟨"IntervalSplitsModel", "less", "(J)I"⟩ ∈ LT := mT 439 (by rfl) (by rfl)
set_option maxRecDepth 20000 in
theorem tw_441 : Cond.instanceMethod ⟨"IntervalSplitsModel", "less", "(J)I"⟩ ∈ LT := mT 441 (by rfl) (by rfl)
set_option maxRecDepth 20000 in
theorem tw_442 : Cond.code ⟨"IntervalSplitsModel", "less", "(J)I"⟩ prog_5_method_4_code 5 (some FieldType.int) ∈ LT := mT 442 (by rfl) (by rfl)
set_option maxRecDepth 20000 in
theorem tw_443 : Cond.methodLink "IntervalSplitsModel" 105 ⟨"IntervalSplitsModel", "belongs", "(J)I"⟩ ∈ LT := mT 443 (by rfl) (by rfl)
set_option maxRecDepth 20000 in
theorem tw_445 : Cond.instanceMethod ⟨"IntervalSplitsModel", "belongs", "(J)I"⟩ ∈ LT := mT 445 (by rfl) (by rfl)
set_option maxRecDepth 20000 in
theorem tw_446 : Cond.code ⟨"IntervalSplitsModel", "belongs", "(J)I"⟩ prog_5_method_9_code 5 (some FieldType.int) ∈ LT := mT 446 (by rfl) (by rfl)
set_option maxRecDepth 20000 in
theorem tw_447 : Cond.methodLink "IntervalSplitsModel" 65 ⟨"IntervalSplitsModel", "first", "(I)I"⟩ ∈ LT := mT 447 (by rfl) (by rfl)
set_option maxRecDepth 20000 in
theorem tw_449 : Cond.instanceMethod ⟨"IntervalSplitsModel", "first", "(I)I"⟩ ∈ LT := mT 449 (by rfl) (by rfl)
set_option maxRecDepth 20000 in
theorem tw_450 : Cond.code ⟨"IntervalSplitsModel", "first", "(I)I"⟩ prog_5_method_6_code 3 (some FieldType.int) ∈ LT := mT 450 (by rfl) (by rfl)
set_option maxRecDepth 20000 in
theorem tw_451 : Cond.methodLink "IntervalSplitsModel" 69 ⟨"IntervalSplitsModel", "lengthsOf", "(I)I"⟩ ∈ LT := mT 451 (by rfl) (by rfl)
set_option maxRecDepth 20000 in
theorem tw_453 : Cond.instanceMethod ⟨"IntervalSplitsModel", "lengthsOf", "(I)I"⟩ ∈ LT := mT 453 (by rfl) (by rfl)
set_option maxRecDepth 20000 in
theorem tw_454 : Cond.code ⟨"IntervalSplitsModel", "lengthsOf", "(I)I"⟩ prog_5_method_8_code 4 (some FieldType.int) ∈ LT := mT 454 (by rfl) (by rfl)
set_option maxRecDepth 20000 in
theorem tw_455 : Cond.methodLink "IntervalSplitsModel" 108 ⟨"IntervalSplitsModel", "insert", "(JII)V"⟩ ∈ LT := mT 455 (by rfl) (by rfl)
set_option maxRecDepth 20000 in
theorem tw_457 : Cond.instanceMethod ⟨"IntervalSplitsModel", "insert", "(JII)V"⟩ ∈ LT := mT 457 (by rfl) (by rfl)
set_option maxRecDepth 20000 in
theorem tw_458 : Cond.code ⟨"IntervalSplitsModel", "insert", "(JII)V"⟩ prog_5_method_11_code 7 none ∈ LT := mT 458 (by rfl) (by rfl)
set_option maxRecDepth 20000 in
theorem tw_459 : Cond.methodLink "IntervalSplitsModel" 72 ⟨"IntervalSplitsModel", "recordsOf", "(I)I"⟩ ∈ LT := mT 459 (by rfl) (by rfl)
set_option maxRecDepth 20000 in
theorem tw_461 : Cond.instanceMethod ⟨"IntervalSplitsModel", "recordsOf", "(I)I"⟩ ∈ LT := mT 461 (by rfl) (by rfl)
set_option maxRecDepth 20000 in
theorem tw_462 : Cond.code ⟨"IntervalSplitsModel", "recordsOf", "(I)I"⟩ prog_5_method_7_code 4 (some FieldType.int) ∈ LT := mT 462 (by rfl) (by rfl)
set_option maxRecDepth 20000 in
theorem tw_463 : Cond.methodLink "IntervalSplitsModel" 82 ⟨"IntervalSplitsModel", "widthOf", "(I)I"⟩ ∈ LT := mT 463 (by rfl) (by rfl)
set_option maxRecDepth 20000 in
theorem tw_465 : Cond.instanceMethod ⟨"IntervalSplitsModel", "widthOf", "(I)I"⟩ ∈ LT := mT 465 (by rfl) (by rfl)
set_option maxRecDepth 20000 in
theorem tw_466 : Cond.code ⟨"IntervalSplitsModel", "widthOf", "(I)I"⟩ prog_5_method_10_code 4 (some FieldType.int) ∈ LT := mT 466 (by rfl) (by rfl)
set_option maxRecDepth 20000 in
theorem tw_467 : Cond.methodLink "IntervalSplitsModel" 112 ⟨"IntervalSplitsModel", "isCut", "(II)Z"⟩ ∈ LT := mT 467 (by rfl) (by rfl)
set_option maxRecDepth 20000 in
theorem tw_469 : Cond.instanceMethod ⟨"IntervalSplitsModel", "isCut", "(II)Z"⟩ ∈ LT := mT 469 (by rfl) (by rfl)
set_option maxRecDepth 20000 in
theorem tw_470 : Cond.code ⟨"IntervalSplitsModel", "isCut", "(II)Z"⟩ prog_5_method_16_code 3 (some FieldType.boolean) ∈ LT := mT 470 (by rfl) (by rfl)
set_option maxRecDepth 20000 in
theorem tw_471 : Cond.methodLink "IntervalSplitsModel" 116 ⟨"IntervalSplitsModel", "splitArea", "(I)V"⟩ ∈ LT := mT 471 (by rfl) (by rfl)
set_option maxRecDepth 20000 in
theorem tw_473 : Cond.instanceMethod ⟨"IntervalSplitsModel", "splitArea", "(I)V"⟩ ∈ LT := mT 473 (by rfl) (by rfl)
set_option maxRecDepth 20000 in
theorem tw_474 : Cond.code ⟨"IntervalSplitsModel", "splitArea", "(I)V"⟩ prog_5_method_15_code 6 none ∈ LT := mT 474 (by rfl) (by rfl)
set_option maxRecDepth 20000 in
theorem tw_475 : Cond.methodLink "IntervalSplitsModel" 78 ⟨"IntervalSplitsModel", "open", "(III)V"⟩ ∈ LT := mT 475 (by rfl) (by rfl)
set_option maxRecDepth 20000 in
theorem tw_477 : Cond.instanceMethod ⟨"IntervalSplitsModel", "open", "(III)V"⟩ ∈ LT := mT 477 (by rfl) (by rfl)
set_option maxRecDepth 20000 in
theorem tw_478 : Cond.code ⟨"IntervalSplitsModel", "open", "(III)V"⟩ prog_5_method_12_code 5 none ∈ LT := mT 478 (by rfl) (by rfl)
set_option maxRecDepth 20000 in
theorem tw_479 : Cond.methodLink "IntervalSplitsModel" 120 ⟨"IntervalSplitsModel", "splitInterval", "(II)V"⟩ ∈ LT := mT 479 (by rfl) (by rfl)
set_option maxRecDepth 20000 in
theorem tw_481 : Cond.instanceMethod ⟨"IntervalSplitsModel", "splitInterval", "(II)V"⟩ ∈ LT := mT 481 (by rfl) (by rfl)
set_option maxRecDepth 20000 in
theorem tw_482 : Cond.code ⟨"IntervalSplitsModel", "splitInterval", "(II)V"⟩ prog_5_method_14_code 6 none ∈ LT := mT 482 (by rfl) (by rfl)
set_option maxRecDepth 20000 in
theorem tw_483 : Cond.methodLink "IntervalSplitsModel" 75 ⟨"IntervalSplitsModel", "kept", "(I)I"⟩ ∈ LT := mT 483 (by rfl) (by rfl)
set_option maxRecDepth 20000 in
theorem tw_485 : Cond.instanceMethod ⟨"IntervalSplitsModel", "kept", "(I)I"⟩ ∈ LT := mT 485 (by rfl) (by rfl)
set_option maxRecDepth 20000 in
theorem tw_486 : Cond.code ⟨"IntervalSplitsModel", "kept", "(I)I"⟩ prog_5_method_13_code 9 (some FieldType.int) ∈ LT := mT 486 (by rfl) (by rfl)
set_option maxRecDepth 20000 in
theorem tw_487 : Cond.methodLink "IntervalSplitsLaw" 55 ⟨"IntervalSplitsModel", "cut", "(I)I"⟩ ∈ LT := mT 487 (by rfl) (by rfl)
set_option maxRecDepth 20000 in
theorem tw_488 : Cond.instanceMethod ⟨"IntervalSplitsModel", "cut", "(I)I"⟩ ∈ LT := mT 488 (by rfl) (by rfl)
set_option maxRecDepth 20000 in
theorem tw_489 : Cond.selects "IntervalSplitsModel" ⟨"IntervalSplitsModel", "cut", "(I)I"⟩ ⟨"IntervalSplitsModel", "cut", "(I)I"⟩ ∈ LT := mT 489 (by rfl) (by rfl)
set_option maxRecDepth 20000 in
theorem tw_490 : Cond.code ⟨"IntervalSplitsModel", "cut", "(I)I"⟩ prog_5_method_18_code 3 (some FieldType.int) ∈ LT := mT 490 (by rfl) (by rfl)
set_option maxRecDepth 20000 in
theorem tw_491 : Cond.methodLink "IntervalSplitsLaw" 60 ⟨"IntervalSplitsModel", "open", "()I"⟩ ∈ LT := mT 491 (by rfl) (by rfl)
set_option maxRecDepth 20000 in
theorem tw_492 : Cond.instanceMethod ⟨"IntervalSplitsModel", "open", "()I"⟩ ∈ LT := mT 492 (by rfl) (by rfl)
set_option maxRecDepth 20000 in
theorem tw_493 : Cond.selects "IntervalSplitsModel" ⟨"IntervalSplitsModel", "open", "()I"⟩ ⟨"IntervalSplitsModel", "open", "()I"⟩ ∈ LT := mT 493 (by rfl) (by rfl)
set_option maxRecDepth 20000 in
theorem tw_494 : Cond.code ⟨"IntervalSplitsModel", "open", "()I"⟩ prog_5_method_19_code 1 (some FieldType.int) ∈ LT := mT 494 (by rfl) (by rfl)
set_option maxRecDepth 20000 in
theorem tw_495 : Cond.methodLink "IntervalSplitsLaw" 46 ⟨"IntervalSplitsModel", "remove", "(J)I"⟩ ∈ LT := mT 495 (by rfl) (by rfl)
set_option maxRecDepth 20000 in
theorem tw_496 : Cond.instanceMethod ⟨"IntervalSplitsModel", "remove", "(J)I"⟩ ∈ LT := mT 496 (by rfl) (by rfl)
set_option maxRecDepth 20000 in
theorem tw_497 : Cond.selects "IntervalSplitsModel" ⟨"IntervalSplitsModel", "remove", "(J)I"⟩ ⟨"IntervalSplitsModel", "remove", "(J)I"⟩ ∈ LT := mT 497 (by rfl) (by rfl)
set_option maxRecDepth 20000 in
theorem tw_498 : Cond.code ⟨"IntervalSplitsModel", "remove", "(J)I"⟩ prog_5_method_20_code 7 (some FieldType.int) ∈ LT := mT 498 (by rfl) (by rfl)
set_option maxRecDepth 20000 in
theorem tw_499 : Cond.methodLink "IntervalSplitsLaw" 79 ⟨"IntervalSplitsModel", "reorganise", "()I"⟩ ∈ LT := mT 499 (by rfl) (by rfl)
set_option maxRecDepth 20000 in
theorem tw_500 : Cond.instanceMethod ⟨"IntervalSplitsModel", "reorganise", "()I"⟩ ∈ LT := mT 500 (by rfl) (by rfl)
set_option maxRecDepth 20000 in
theorem tw_501 : Cond.selects "IntervalSplitsModel" ⟨"IntervalSplitsModel", "reorganise", "()I"⟩ ⟨"IntervalSplitsModel", "reorganise", "()I"⟩ ∈ LT := mT 501 (by rfl) (by rfl)
set_option maxRecDepth 20000 in
theorem tw_502 : Cond.code ⟨"IntervalSplitsModel", "reorganise", "()I"⟩ prog_5_method_21_code 6 (some FieldType.int) ∈ LT := mT 502 (by rfl) (by rfl)
set_option maxRecDepth 20000 in
theorem tw_503 : Cond.methodLink "IntervalSplitsLaw" 38 ⟨"IntervalSplitsModel", "find", "(J)I"⟩ ∈ LT := mT 503 (by rfl) (by rfl)
set_option maxRecDepth 20000 in
theorem tw_504 : Cond.instanceMethod ⟨"IntervalSplitsModel", "find", "(J)I"⟩ ∈ LT := mT 504 (by rfl) (by rfl)
set_option maxRecDepth 20000 in
theorem tw_505 : Cond.selects "IntervalSplitsModel" ⟨"IntervalSplitsModel", "find", "(J)I"⟩ ⟨"IntervalSplitsModel", "find", "(J)I"⟩ ∈ LT := mT 505 (by rfl) (by rfl)
set_option maxRecDepth 20000 in
theorem tw_506 : Cond.code ⟨"IntervalSplitsModel", "find", "(J)I"⟩ prog_5_method_22_code 3 (some FieldType.int) ∈ LT := mT 506 (by rfl) (by rfl)
set_option maxRecDepth 20000 in
theorem tw_507 : Cond.methodLink "IntervalSplitsLaw" 42 ⟨"IntervalSplitsModel", "next", "(J)I"⟩ ∈ LT := mT 507 (by rfl) (by rfl)
set_option maxRecDepth 20000 in
theorem tw_508 : Cond.instanceMethod ⟨"IntervalSplitsModel", "next", "(J)I"⟩ ∈ LT := mT 508 (by rfl) (by rfl)
set_option maxRecDepth 20000 in
theorem tw_509 : Cond.selects "IntervalSplitsModel" ⟨"IntervalSplitsModel", "next", "(J)I"⟩ ⟨"IntervalSplitsModel", "next", "(J)I"⟩ ∈ LT := mT 509 (by rfl) (by rfl)
set_option maxRecDepth 20000 in
theorem tw_510 : Cond.code ⟨"IntervalSplitsModel", "next", "(J)I"⟩ prog_5_method_23_code 4 (some FieldType.int) ∈ LT := mT 510 (by rfl) (by rfl)
set_option maxRecDepth 20000 in
theorem tw_511 : Cond.methodLink "IntervalSplitsLaw" 50 ⟨"IntervalSplitsModel", "interval", "(II)I"⟩ ∈ LT := mT 511 (by rfl) (by rfl)
set_option maxRecDepth 20000 in
theorem tw_512 : Cond.instanceMethod ⟨"IntervalSplitsModel", "interval", "(II)I"⟩ ∈ LT := mT 512 (by rfl) (by rfl)
set_option maxRecDepth 20000 in
theorem tw_513 : Cond.selects "IntervalSplitsModel" ⟨"IntervalSplitsModel", "interval", "(II)I"⟩ ⟨"IntervalSplitsModel", "interval", "(II)I"⟩ ∈ LT := mT 513 (by rfl) (by rfl)
set_option maxRecDepth 20000 in
theorem tw_514 : Cond.code ⟨"IntervalSplitsModel", "interval", "(II)I"⟩ prog_5_method_25_code 3 (some FieldType.int) ∈ LT := mT 514 (by rfl) (by rfl)
set_option maxRecDepth 20000 in
theorem tw_515 : Cond.methodLink "IntervalSplitsModel" 124 ⟨"IntervalSplitsModel", "areaOf", "(I)I"⟩ ∈ LT := mT 515 (by rfl) (by rfl)
set_option maxRecDepth 20000 in
theorem tw_517 : Cond.instanceMethod ⟨"IntervalSplitsModel", "areaOf", "(I)I"⟩ ∈ LT := mT 517 (by rfl) (by rfl)
set_option maxRecDepth 20000 in
theorem tw_518 : Cond.code ⟨"IntervalSplitsModel", "areaOf", "(I)I"⟩ prog_5_method_24_code 4 (some FieldType.int) ∈ LT := mT 518 (by rfl) (by rfl)
set_option maxRecDepth 20000 in
theorem tw_519 : Cond.methodLink "IntervalSplitsLaw" 64 ⟨"IntervalSplitsModel", "split", "(I)I"⟩ ∈ LT := mT 519 (by rfl) (by rfl)
set_option maxRecDepth 20000 in
theorem tw_520 : Cond.instanceMethod ⟨"IntervalSplitsModel", "split", "(I)I"⟩ ∈ LT := mT 520 (by rfl) (by rfl)
set_option maxRecDepth 20000 in
theorem tw_521 : Cond.selects "IntervalSplitsModel" ⟨"IntervalSplitsModel", "split", "(I)I"⟩ ⟨"IntervalSplitsModel", "split", "(I)I"⟩ ∈ LT := mT 521 (by rfl) (by rfl)
set_option maxRecDepth 20000 in
theorem tw_522 : Cond.code ⟨"IntervalSplitsModel", "split", "(I)I"⟩ prog_5_method_26_code 2 (some FieldType.int) ∈ LT := mT 522 (by rfl) (by rfl)
set_option maxRecDepth 20000 in
theorem tw_523 : Cond.methodLink "IntervalSplitsLaw" 68 ⟨"IntervalSplitsModel", "index", "(II)I"⟩ ∈ LT := mT 523 (by rfl) (by rfl)
set_option maxRecDepth 20000 in
theorem tw_524 : Cond.instanceMethod ⟨"IntervalSplitsModel", "index", "(II)I"⟩ ∈ LT := mT 524 (by rfl) (by rfl)
set_option maxRecDepth 20000 in
theorem tw_525 : Cond.selects "IntervalSplitsModel" ⟨"IntervalSplitsModel", "index", "(II)I"⟩ ⟨"IntervalSplitsModel", "index", "(II)I"⟩ ∈ LT := mT 525 (by rfl) (by rfl)
set_option maxRecDepth 20000 in
theorem tw_526 : Cond.code ⟨"IntervalSplitsModel", "index", "(II)I"⟩ prog_5_method_27_code 6 (some FieldType.int) ∈ LT := mT 526 (by rfl) (by rfl)
set_option maxRecDepth 20000 in
theorem tw_527 : Cond.methodLink "IntervalSplitsLaw" 75 ⟨"IntervalSplitsModel", "verify", "()I"⟩ ∈ LT := mT 527 (by rfl) (by rfl)
set_option maxRecDepth 20000 in
theorem tw_528 : Cond.instanceMethod ⟨"IntervalSplitsModel", "verify", "()I"⟩ ∈ LT := mT 528 (by rfl) (by rfl)
set_option maxRecDepth 20000 in
theorem tw_529 : Cond.selects "IntervalSplitsModel" ⟨"IntervalSplitsModel", "verify", "()I"⟩ ⟨"IntervalSplitsModel", "verify", "()I"⟩ ∈ LT := mT 529 (by rfl) (by rfl)
set_option maxRecDepth 20000 in
theorem tw_530 : Cond.code ⟨"IntervalSplitsModel", "verify", "()I"⟩ prog_5_method_28_code 1 (some FieldType.int) ∈ LT := mT 530 (by rfl) (by rfl)
set_option maxRecDepth 20000 in
theorem tw_531 : Cond.methodLink "IntervalSplitsLaw" 84 ⟨"IntervalSplitsModel", "order", "(I)J"⟩ ∈ LT := mT 531 (by rfl) (by rfl)
set_option maxRecDepth 20000 in
theorem tw_532 : Cond.instanceMethod ⟨"IntervalSplitsModel", "order", "(I)J"⟩ ∈ LT := mT 532 (by rfl) (by rfl)
set_option maxRecDepth 20000 in
theorem tw_533 : Cond.selects "IntervalSplitsModel" ⟨"IntervalSplitsModel", "order", "(I)J"⟩ ⟨"IntervalSplitsModel", "order", "(I)J"⟩ ∈ LT := mT 533 (by rfl) (by rfl)
set_option maxRecDepth 20000 in
theorem tw_534 : Cond.code ⟨"IntervalSplitsModel", "order", "(I)J"⟩ prog_5_method_29_code 2 (some FieldType.long) ∈ LT := mT 534 (by rfl) (by rfl)
set_option maxRecDepth 20000 in
theorem tw_535 : Cond.methodLink "IntervalSplitsLaw" 88 ⟨"IntervalSplitsModel", "count", "(I)I"⟩ ∈ LT := mT 535 (by rfl) (by rfl)
set_option maxRecDepth 20000 in
theorem tw_536 : Cond.instanceMethod ⟨"IntervalSplitsModel", "count", "(I)I"⟩ ∈ LT := mT 536 (by rfl) (by rfl)
set_option maxRecDepth 20000 in
theorem tw_537 : Cond.selects "IntervalSplitsModel" ⟨"IntervalSplitsModel", "count", "(I)I"⟩ ⟨"IntervalSplitsModel", "count", "(I)I"⟩ ∈ LT := mT 537 (by rfl) (by rfl)
set_option maxRecDepth 20000 in
theorem tw_538 : Cond.code ⟨"IntervalSplitsModel", "count", "(I)I"⟩ prog_5_method_30_code 4 (some FieldType.int) ∈ LT := mT 538 (by rfl) (by rfl)
set_option maxRecDepth 20000 in
theorem tw_539 : Cond.constantLong "IntervalSplitsLaw" 27 (4294967295 : Int64) ∈ LT := mT 539 (by rfl) (by rfl)
theorem ts_0 : Cond.selects "IntervalSplits" ⟨"IntervalSplits", "layInterval", "(I)V"⟩ ⟨"IntervalSplits", "layInterval", "(I)V"⟩ ∈ LT := mS (q := (⟨"IntervalSplits", "layInterval", "(I)V"⟩, 19)) 0 (by rfl) (by rfl)
theorem ts_1 : Cond.selects "IntervalSplits" ⟨"IntervalSplits", "takeNumber", "()I"⟩ ⟨"IntervalSplits", "takeNumber", "()I"⟩ ∈ LT := mS (q := (⟨"IntervalSplits", "takeNumber", "()I"⟩, 19)) 1 (by rfl) (by rfl)
theorem ts_2 : Cond.selects "IntervalSplits$Row" ⟨"IntervalSplits$Row", "insertAt", "(IJ)V"⟩ ⟨"IntervalSplits$Row", "insertAt", "(IJ)V"⟩ ∈ LT := mS (q := (⟨"IntervalSplits$Row", "insertAt", "(IJ)V"⟩, 2)) 2 (by rfl) (by rfl)
theorem ts_3 : Cond.selects "IntervalSplits$Row" ⟨"IntervalSplits$Row", "intAt", "(I)I"⟩ ⟨"IntervalSplits$Row", "intAt", "(I)I"⟩ ∈ LT := mS (q := (⟨"IntervalSplits$Row", "intAt", "(I)I"⟩, 2)) 3 (by rfl) (by rfl)
theorem ts_4 : Cond.selects "IntervalSplits$Row" ⟨"IntervalSplits$Row", "at", "(I)J"⟩ ⟨"IntervalSplits$Row", "at", "(I)J"⟩ ∈ LT := mS (q := (⟨"IntervalSplits$Row", "at", "(I)J"⟩, 2)) 4 (by rfl) (by rfl)
theorem ts_5 : Cond.selects "IntervalSplits$Row" ⟨"IntervalSplits$Row", "raise", "(II)V"⟩ ⟨"IntervalSplits$Row", "raise", "(II)V"⟩ ∈ LT := mS (q := (⟨"IntervalSplits$Row", "raise", "(II)V"⟩, 2)) 5 (by rfl) (by rfl)
theorem ts_6 : Cond.selects "IntervalSplits" ⟨"IntervalSplits", "positionOf", "(J)I"⟩ ⟨"IntervalSplits", "positionOf", "(J)I"⟩ ∈ LT := mS (q := (⟨"IntervalSplits", "positionOf", "(J)I"⟩, 19)) 6 (by rfl) (by rfl)
theorem ts_7 : Cond.selects "IntervalSplits" ⟨"IntervalSplits", "notGreaterThan", "(J)I"⟩ ⟨"IntervalSplits", "notGreaterThan", "(J)I"⟩ ∈ LT := mS (q := (⟨"IntervalSplits", "notGreaterThan", "(J)I"⟩, 19)) 7 (by rfl) (by rfl)
theorem ts_8 : Cond.selects "IntervalSplits" ⟨"IntervalSplits", "place", "(JI)Z"⟩ ⟨"IntervalSplits", "place", "(JI)Z"⟩ ∈ LT := mS (q := (⟨"IntervalSplits", "place", "(JI)Z"⟩, 19)) 8 (by rfl) (by rfl)
theorem ts_9 : Cond.selects "IntervalSplits$Row" ⟨"IntervalSplits$Row", "groupOf", "(I)I"⟩ ⟨"IntervalSplits$Row", "groupOf", "(I)I"⟩ ∈ LT := mS (q := (⟨"IntervalSplits$Row", "groupOf", "(I)I"⟩, 2)) 9 (by rfl) (by rfl)
theorem ts_10 : Cond.selects "IntervalSplits" ⟨"IntervalSplits", "lengthsIn", "(I)I"⟩ ⟨"IntervalSplits", "lengthsIn", "(I)I"⟩ ∈ LT := mS (q := (⟨"IntervalSplits", "lengthsIn", "(I)I"⟩, 19)) 10 (by rfl) (by rfl)
theorem ts_11 : Cond.selects "IntervalSplits$Row" ⟨"IntervalSplits$Row", "sum", "(II)I"⟩ ⟨"IntervalSplits$Row", "sum", "(II)I"⟩ ∈ LT := mS (q := (⟨"IntervalSplits$Row", "sum", "(II)I"⟩, 2)) 11 (by rfl) (by rfl)
theorem ts_12 : Cond.selects "IntervalSplits" ⟨"IntervalSplits", "insertRecord", "(IJI)V"⟩ ⟨"IntervalSplits", "insertRecord", "(IJI)V"⟩ ∈ LT := mS (q := (⟨"IntervalSplits", "insertRecord", "(IJI)V"⟩, 19)) 12 (by rfl) (by rfl)
theorem ts_13 : Cond.selects "IntervalSplits" ⟨"IntervalSplits", "kindOfSplit", "(I)LIntervalSplits$Kind;"⟩ ⟨"IntervalSplits", "kindOfSplit", "(I)LIntervalSplits$Kind;"⟩ ∈ LT := mS (q := (⟨"IntervalSplits", "kindOfSplit", "(I)LIntervalSplits$Kind;"⟩, 19)) 13 (by rfl) (by rfl)
theorem ts_14 : Cond.selects "IntervalSplits" ⟨"IntervalSplits", "closeAhead", "(LIntervalSplits$Kind;I)V"⟩ ⟨"IntervalSplits", "closeAhead", "(LIntervalSplits$Kind;I)V"⟩ ∈ LT := mS (q := (⟨"IntervalSplits", "closeAhead", "(LIntervalSplits$Kind;I)V"⟩, 19)) 14 (by rfl) (by rfl)
theorem ts_15 : Cond.selects "IntervalSplits" ⟨"IntervalSplits", "giveOwnInterval", "(IJI)V"⟩ ⟨"IntervalSplits", "giveOwnInterval", "(IJI)V"⟩ ∈ LT := mS (q := (⟨"IntervalSplits", "giveOwnInterval", "(IJI)V"⟩, 19)) 15 (by rfl) (by rfl)
theorem ts_16 : Cond.selects "IntervalSplits" ⟨"IntervalSplits", "insertInterval", "(IIII)V"⟩ ⟨"IntervalSplits", "insertInterval", "(IIII)V"⟩ ∈ LT := mS (q := (⟨"IntervalSplits", "insertInterval", "(IIII)V"⟩, 19)) 16 (by rfl) (by rfl)
theorem ts_17 : Cond.selects "IntervalSplits" ⟨"IntervalSplits", "splitArea", "(I)V"⟩ ⟨"IntervalSplits", "splitArea", "(I)V"⟩ ∈ LT := mS (q := (⟨"IntervalSplits", "splitArea", "(I)V"⟩, 19)) 17 (by rfl) (by rfl)
theorem ts_18 : Cond.selects "IntervalSplits" ⟨"IntervalSplits", "halveInterval", "(II)V"⟩ ⟨"IntervalSplits", "halveInterval", "(II)V"⟩ ∈ LT := mS (q := (⟨"IntervalSplits", "halveInterval", "(II)V"⟩, 19)) 18 (by rfl) (by rfl)
theorem ts_19 : Cond.selects "IntervalSplits" ⟨"IntervalSplits", "keptByHalving", "(I)I"⟩ ⟨"IntervalSplits", "keptByHalving", "(I)I"⟩ ∈ LT := mS (q := (⟨"IntervalSplits", "keptByHalving", "(I)I"⟩, 19)) 19 (by rfl) (by rfl)
theorem ts_20 : Cond.selects "IntervalSplits$Row" ⟨"IntervalSplits$Row", "deleteAt", "(I)V"⟩ ⟨"IntervalSplits$Row", "deleteAt", "(I)V"⟩ ∈ LT := mS (q := (⟨"IntervalSplits$Row", "deleteAt", "(I)V"⟩, 2)) 20 (by rfl) (by rfl)
theorem ts_21 : Cond.selects "IntervalSplits" ⟨"IntervalSplits", "dropInterval", "(I)V"⟩ ⟨"IntervalSplits", "dropInterval", "(I)V"⟩ ∈ LT := mS (q := (⟨"IntervalSplits", "dropInterval", "(I)V"⟩, 19)) 21 (by rfl) (by rfl)
theorem ts_22 : Cond.selects "IntervalSplits$Row" ⟨"IntervalSplits$Row", "holds", "(I)Z"⟩ ⟨"IntervalSplits$Row", "holds", "(I)Z"⟩ ∈ LT := mS (q := (⟨"IntervalSplits$Row", "holds", "(I)Z"⟩, 2)) 22 (by rfl) (by rfl)
theorem ts_23 : Cond.selects "IntervalSplits" ⟨"IntervalSplits", "finishCutSplit", "()V"⟩ ⟨"IntervalSplits", "finishCutSplit", "()V"⟩ ∈ LT := mS (q := (⟨"IntervalSplits", "finishCutSplit", "()V"⟩, 19)) 23 (by rfl) (by rfl)
theorem ts_24 : Cond.selects "IntervalSplits" ⟨"IntervalSplits", "brokenOrders", "()I"⟩ ⟨"IntervalSplits", "brokenOrders", "()I"⟩ ∈ LT := mS (q := (⟨"IntervalSplits", "brokenOrders", "()I"⟩, 19)) 24 (by rfl) (by rfl)
theorem ts_25 : Cond.selects "IntervalSplits" ⟨"IntervalSplits", "brokenRooms", "()I"⟩ ⟨"IntervalSplits", "brokenRooms", "()I"⟩ ∈ LT := mS (q := (⟨"IntervalSplits", "brokenRooms", "()I"⟩, 19)) 25 (by rfl) (by rfl)
theorem ts_26 : Cond.selects "IntervalSplits" ⟨"IntervalSplits", "brokenWidths", "()I"⟩ ⟨"IntervalSplits", "brokenWidths", "()I"⟩ ∈ LT := mS (q := (⟨"IntervalSplits", "brokenWidths", "()I"⟩, 19)) 26 (by rfl) (by rfl)
theorem ts_27 : Cond.selects "IntervalSplits" ⟨"IntervalSplits", "lowBitsOfFirstKey", "(I)I"⟩ ⟨"IntervalSplits", "lowBitsOfFirstKey", "(I)I"⟩ ∈ LT := mS (q := (⟨"IntervalSplits", "lowBitsOfFirstKey", "(I)I"⟩, 19)) 27 (by rfl) (by rfl)
theorem ts_28 : Cond.selects "java/lang/Throwable" ⟨"java/lang/Throwable", "fillInStackTrace", "(I)Ljava/lang/Throwable;"⟩ ⟨"java/lang/Throwable", "fillInStackTrace", "(I)Ljava/lang/Throwable;"⟩ ∈ LT := mS (q := (⟨"java/lang/Throwable", "fillInStackTrace", "(I)Ljava/lang/Throwable;"⟩, 6)) 28 (by rfl) (by rfl)
theorem ts_29 : Cond.selects "IntervalSplitsModel" ⟨"IntervalSplitsModel", "has", "(J)Z"⟩ ⟨"IntervalSplitsModel", "has", "(J)Z"⟩ ∈ LT := mS (q := (⟨"IntervalSplitsModel", "has", "(J)Z"⟩, 20)) 29 (by rfl) (by rfl)
theorem ts_30 : Cond.selects "IntervalSplitsModel" ⟨"IntervalSplitsModel", "less", "(J)I"⟩ ⟨"IntervalSplitsModel", "less", "(J)I"⟩ ∈ LT := mS (q := (⟨"IntervalSplitsModel", "less", "(J)I"⟩, 20)) 30 (by rfl) (by rfl)
theorem ts_31 : Cond.selects "IntervalSplitsModel" ⟨"IntervalSplitsModel", "belongs", "(J)I"⟩ ⟨"IntervalSplitsModel", "belongs", "(J)I"⟩ ∈ LT := mS (q := (⟨"IntervalSplitsModel", "belongs", "(J)I"⟩, 20)) 31 (by rfl) (by rfl)
theorem ts_32 : Cond.selects "IntervalSplitsModel" ⟨"IntervalSplitsModel", "first", "(I)I"⟩ ⟨"IntervalSplitsModel", "first", "(I)I"⟩ ∈ LT := mS (q := (⟨"IntervalSplitsModel", "first", "(I)I"⟩, 20)) 32 (by rfl) (by rfl)
theorem ts_33 : Cond.selects "IntervalSplitsModel" ⟨"IntervalSplitsModel", "lengthsOf", "(I)I"⟩ ⟨"IntervalSplitsModel", "lengthsOf", "(I)I"⟩ ∈ LT := mS (q := (⟨"IntervalSplitsModel", "lengthsOf", "(I)I"⟩, 20)) 33 (by rfl) (by rfl)
theorem ts_34 : Cond.selects "IntervalSplitsModel" ⟨"IntervalSplitsModel", "insert", "(JII)V"⟩ ⟨"IntervalSplitsModel", "insert", "(JII)V"⟩ ∈ LT := mS (q := (⟨"IntervalSplitsModel", "insert", "(JII)V"⟩, 20)) 34 (by rfl) (by rfl)
theorem ts_35 : Cond.selects "IntervalSplitsModel" ⟨"IntervalSplitsModel", "recordsOf", "(I)I"⟩ ⟨"IntervalSplitsModel", "recordsOf", "(I)I"⟩ ∈ LT := mS (q := (⟨"IntervalSplitsModel", "recordsOf", "(I)I"⟩, 20)) 35 (by rfl) (by rfl)
theorem ts_36 : Cond.selects "IntervalSplitsModel" ⟨"IntervalSplitsModel", "widthOf", "(I)I"⟩ ⟨"IntervalSplitsModel", "widthOf", "(I)I"⟩ ∈ LT := mS (q := (⟨"IntervalSplitsModel", "widthOf", "(I)I"⟩, 20)) 36 (by rfl) (by rfl)
theorem ts_37 : Cond.selects "IntervalSplitsModel" ⟨"IntervalSplitsModel", "isCut", "(II)Z"⟩ ⟨"IntervalSplitsModel", "isCut", "(II)Z"⟩ ∈ LT := mS (q := (⟨"IntervalSplitsModel", "isCut", "(II)Z"⟩, 20)) 37 (by rfl) (by rfl)
theorem ts_38 : Cond.selects "IntervalSplitsModel" ⟨"IntervalSplitsModel", "splitArea", "(I)V"⟩ ⟨"IntervalSplitsModel", "splitArea", "(I)V"⟩ ∈ LT := mS (q := (⟨"IntervalSplitsModel", "splitArea", "(I)V"⟩, 20)) 38 (by rfl) (by rfl)
theorem ts_39 : Cond.selects "IntervalSplitsModel" ⟨"IntervalSplitsModel", "open", "(III)V"⟩ ⟨"IntervalSplitsModel", "open", "(III)V"⟩ ∈ LT := mS (q := (⟨"IntervalSplitsModel", "open", "(III)V"⟩, 20)) 39 (by rfl) (by rfl)
theorem ts_40 : Cond.selects "IntervalSplitsModel" ⟨"IntervalSplitsModel", "splitInterval", "(II)V"⟩ ⟨"IntervalSplitsModel", "splitInterval", "(II)V"⟩ ∈ LT := mS (q := (⟨"IntervalSplitsModel", "splitInterval", "(II)V"⟩, 20)) 40 (by rfl) (by rfl)
theorem ts_41 : Cond.selects "IntervalSplitsModel" ⟨"IntervalSplitsModel", "kept", "(I)I"⟩ ⟨"IntervalSplitsModel", "kept", "(I)I"⟩ ∈ LT := mS (q := (⟨"IntervalSplitsModel", "kept", "(I)I"⟩, 20)) 41 (by rfl) (by rfl)
theorem ts_42 : Cond.selects "IntervalSplitsModel" ⟨"IntervalSplitsModel", "areaOf", "(I)I"⟩ ⟨"IntervalSplitsModel", "areaOf", "(I)I"⟩ ∈ LT := mS (q := (⟨"IntervalSplitsModel", "areaOf", "(I)I"⟩, 20)) 42 (by rfl) (by rfl)
theorem in_X1 : ∀ w ∈ u_ws RX1 TX1 2, w ∈ LT := by
  intro w hw
  obtain ⟨k, hk, rfl⟩ := List.mem_map.mp hw
  have h := List.mem_range.mp hk
  match k, h with
  | 0, _ => exact tw_33
  | 1, _ => exact tw_35
  | k + 2, h => exact absurd h (by omega)
theorem in_X2 : ∀ w ∈ u_ws RX2 TX2 19, w ∈ LT := by
  intro w hw
  obtain ⟨k, hk, rfl⟩ := List.mem_map.mp hw
  have h := List.mem_range.mp hk
  match k, h with
  | 0, _ => exact tw_94
  | 1, _ => exact tw_96
  | 2, _ => exact tw_98
  | 3, _ => exact tw_100
  | 4, _ => exact tw_102
  | 5, _ => exact tw_104
  | 6, _ => exact tw_106
  | 7, _ => exact tw_108
  | 8, _ => exact tw_110
  | 9, _ => exact tw_112
  | 10, _ => exact tw_114
  | 11, _ => exact tw_116
  | 12, _ => exact tw_118
  | 13, _ => exact tw_120
  | 14, _ => exact tw_122
  | 15, _ => exact tw_124
  | 16, _ => exact tw_126
  | 17, _ => exact tw_128
  | 18, _ => exact tw_130
  | k + 19, h => exact absurd h (by omega)
theorem in_X3 : ∀ w ∈ u_ws RX3 TX3 20, w ∈ LT := by
  intro w hw
  obtain ⟨k, hk, rfl⟩ := List.mem_map.mp hw
  have h := List.mem_range.mp hk
  match k, h with
  | 0, _ => exact tw_385
  | 1, _ => exact tw_387
  | 2, _ => exact tw_389
  | 3, _ => exact tw_391
  | 4, _ => exact tw_393
  | 5, _ => exact tw_395
  | 6, _ => exact tw_397
  | 7, _ => exact tw_399
  | 8, _ => exact tw_401
  | 9, _ => exact tw_403
  | 10, _ => exact tw_405
  | 11, _ => exact tw_407
  | 12, _ => exact tw_409
  | 13, _ => exact tw_411
  | 14, _ => exact tw_413
  | 15, _ => exact tw_415
  | 16, _ => exact tw_417
  | 17, _ => exact tw_419
  | 18, _ => exact tw_421
  | 19, _ => exact tw_423
  | k + 20, h => exact absurd h (by omega)
theorem in_Jx00060 : ∀ w ∈ u_ws RJx00060 TJx00060 6, w ∈ LT := by
  intro w hw
  obtain ⟨k, hk, rfl⟩ := List.mem_map.mp hw
  have h := List.mem_range.mp hk
  match k, h with
  | 0, _ => exact tw_298
  | 1, _ => exact tw_300
  | 2, _ => exact tw_302
  | 3, _ => exact tw_304
  | 4, _ => exact tw_306
  | 5, _ => exact tw_351
  | k + 6, h => exact absurd h (by omega)
end
section
/-! THE COMMON GROUND: what a method knows at its entry (Cx), a world (Wl), contracts that read (Qr) and that write (Qw), calls -/
abbrev Gq : Type := va_G × ClassId × ClassId × (Nat → Nat)
def NWM : List (Nat × MethodName) := [(11, yX1_init), (194, yX1_insertAt), (108, yX1_intAt), (117, yX1_raise), (157, yX1_at), (104, yX1_groupOf), (137, yX1_sum), (114, yX1_deleteAt), (124, yX1_holds)]
def NwAll (U : State) : Prop := (∀ q ∈ NWM, va_Nw (.methodLinkNest RX2 q.1 q.2 RX2) U) ∧ va_Nw (.fieldLinkNest RX2 97 RX1 "size" "I" RX2) U
theorem NwAll.warm {s U : State} (hW : s.WarmedH U.vm) (h : NwAll s) : NwAll U := ⟨fun q hq => va_Nw.warmM hW (h.1 q hq), va_Nw.warmF hW h.2⟩
theorem NwAll.same {u U : State} (h : u.vm = U.vm) (hZ : NwAll u) : NwAll U := ⟨fun q hq => va_Nw.same rfl h (hZ.1 q hq), va_Nw.same rfl h hZ.2⟩
abbrev KE (ad : Nat → Nat) (A : Nat → Prop) (U : State) (H : Heap) : Prop := va_En "IntervalSplits$Kind" "LIntervalSplits$Kind;" ["HALVES", "OWN", "AREA"] [] ad A U H
def KK (E : Gq) (U : State) : Prop := va_K E.1 vwCl [(E.2.1, .int), (E.2.2.1, .long)] U ∧ NwAll U
theorem KK.warm {E : Gq} {s U : State} (hW : s.WarmedH U.vm) (h : KK E s) : KK E U := ⟨va_K.moved hW.alike h.1, h.2.warm hW⟩
def Rm (k mc ms : Nat) : Room := { frames := k, cells := mc, slots := ms, locals := 26 * k }
def Pw (E : Gq) (av : List Value) (ws : va_W) (sz : Nat) : Array Value → State → Prop := va_Pc av (fun U => U.heap.size = sz ∧ va_P E.1 vwCl ws U.heap ∧ va_D (fun _ => True) ws ∧ KK E U ∧ KE E.2.2.2 (va_A ws sz) U U.heap)
theorem Pw.blind (E : Gq) (av : List Value) (ws : va_W) (sz : Nat) : FrameBlind (Pw E av ws sz) := fun a U g mk q => by
  obtain ⟨q0, q1, qP, qD, qK, qE⟩ := q
  exact ⟨q0, q1, qP, qD, ⟨va_K.moved (u := U) (U := U.calling g mk a) (Vm.Alike.refl U.vm) qK.1, NwAll.same rfl qK.2⟩, va_En.moved (u := U) (U := U.calling g mk a) (Vm.Alike.refl U.vm) qE⟩
def Qw (E : Gq) (ws : va_W) (sz : Nat) (post : Option Value → va_W → Prop) : Array Value → State → Outcome → State → Prop := fun _ st oc t => (∃ (r : Option Value) (ws' : va_W), oc = .returned r ∧ post r ws' ∧ va_P E.1 vwCl ws' t.heap ∧ va_D (va_A ws sz) ws') ∧ va_F (va_A ws sz) st t
def Qr (post : Option Value → Prop) : Array Value → State → Outcome → State → Prop := fun _ st oc t => ∃ r : Option Value, oc = .returned r ∧ post r ∧ t.heap = st.heap
/-- what a method knows at its entry, and keeps -/
def Cx (E : Gq) (p : Program) (s : State) (m : MethodId) (args : Array Value) (meth : Method) (c : Code) (cc : ByteArray) (nL : Nat) (ret : Option FieldType) (own : String) (A : Nat → Prop) : Prop :=
  p.tables.exec = Jvm.exec ∧ c.code = cc ∧ c.maxLocals = nL ∧ meth.sig.returnType = ret ∧ meth.locks = false ∧ s.vm.findClass own = some m.cls ∧ (∀ w ∈ LT, w.before args s = true) ∧ KK E s ∧ KE E.2.2.2 A s s.heap ∧ (∀ q : Nat, s.heap.size ≤ q → A q)
def Wl (E : Gq) (A : Nat → Prop) (ws : va_W) (s : State) (H : Heap) (locs : List Loc) : Prop := va_P E.1 vwCl ws H ∧ va_D A ws ∧ va_S A s.heap H locs
section BS
variable {p : Program} {l : Launch} {e : Env} {R : Room} {s : State} {m : MethodId} {args : Array Value} {below : List Frame} {meth : Method} {c : Code} {H : Heap} {locs : List Loc} {cells slots : Nat} {Q : State → Prop}
variable {E : Gq} {cc : ByteArray} {nL : Nat} {ret : Option FieldType} {own : String} {A : Nat → Prop} {ws : va_W} {pc : Nat} {ls : Array Slot} {rest : List Value}
theorem Cx.hx (C : Cx E p s m args meth c cc nL ret own A) : p.tables.exec = Jvm.exec := C.1
theorem Cx.hb (C : Cx E p s m args meth c cc nL ret own A) : c.code = cc := C.2.1
theorem Cx.hml (C : Cx E p s m args meth c cc nL ret own A) : c.maxLocals = nL := C.2.2.1
theorem Cx.hr (C : Cx E p s m args meth c cc nL ret own A) : meth.sig.returnType = ret := C.2.2.2.1
theorem Cx.hlk (C : Cx E p s m args meth c cc nL ret own A) : meth.locks = false := C.2.2.2.2.1
theorem Cx.hown (C : Cx E p s m args meth c cc nL ret own A) : s.vm.findClass own = some m.cls := C.2.2.2.2.2.1
theorem Cx.hts (C : Cx E p s m args meth c cc nL ret own A) : ∀ w ∈ LT, w.before args s = true := C.2.2.2.2.2.2.1
theorem Cx.hK (C : Cx E p s m args meth c cc nL ret own A) : KK E s := C.2.2.2.2.2.2.2.1
theorem Cx.hE (C : Cx E p s m args meth c cc nL ret own A) : KE E.2.2.2 A s s.heap := C.2.2.2.2.2.2.2.2.1
theorem Cx.hA (C : Cx E p s m args meth c cc nL ret own A) : ∀ q : Nat, s.heap.size ≤ q → A q := C.2.2.2.2.2.2.2.2.2
theorem Wl.inA (C : Cx E p s m args meth c cc nL ret own A) (Wd : Wl E A ws s H locs) : ∀ q : Nat, va_A ws H.size q → A q := fun q h => by
  rcases h with ⟨k, e, h⟩ | h
  · exact Wd.2.1.2 k _ h
  · exact C.hA q (Nat.le_trans Wd.2.2.1 h)
theorem Cx.pre (C : Cx E p s m args meth c cc nL ret own A) (Wd : Wl E A ws s H locs) (av : List Value) : ∀ U : State, U.heap = H → s.WarmedH U.vm → Pw E av ws H.size av.toArray U := fun U hU hW =>
  ⟨rfl, by rw [hU], by rw [hU]; exact Wd.1, Wd.2.1.weaken (fun _ _ _ _ => trivial), KK.warm hW C.hK, by rw [hU]; exact va_En.moved hW.alike ((C.hE.kept Wd.2.2.2.1).narrow (Wd.inA C))⟩
/-- a contract that writes, out of its body's walk -/
theorem mk_w {y : MethodName} {maxL k mc ms : Nat} {av : List Value} {post : Option Value → va_W → Prop} (hy : plainName y.cls = true) (hlen : (lg_sl av).length ≤ maxL)
    (body : ∀ (p : Program) (e : Env) (s : State) (m : MethodId) (below : List Frame) (meth : Method) (c : Code) (ls : Array Slot), Cx E p s m av.toArray meth c cc maxL ret y.cls (va_A ws s.heap.size) → Wl E (va_A ws s.heap.size) ws s s.heap [] → lv_has ls maxL (lv_args 0 av) →
      W p l e (Rm k mc ms) s m av.toArray below meth c s.heap [] 0 0 (MQ below (Qw E ws s.heap.size post) av.toArray s mc ms (va_A ws s.heap.size)) (F0 m 0 ls [])) :
    ∀ sz : Nat, Met l y (.code y cc maxL ret :: LT) (Rm k mc ms) (Pw E av ws sz) (Qw E ws sz post) mc ms (va_A ws sz) := by
  intro sz
  refine Met.ofW (cc := cc) (maxL := maxL) (ret := ret) hy rfl ?_
  intro p e s m args below meth c s₁ B hml hv
  obtain ⟨rfl, hsz, hP, hD0, hK, hE⟩ := hv
  have hts := atoms_spec (ws := .code y cc maxL ret :: LT) B.pre
  subst hsz
  have hl := lv_entry av (n := maxL) hlen
  rw [lg_entry_eq]
  exact body p e s m below meth c _ ⟨B.exec, B.bytes, hml, B.returns, B.notSynchronized, findClass_of_methodNamed B.named, fun w h => hts w (List.mem_cons_of_mem _ h), hK, hE, fun q h => Or.inr h⟩ ⟨hP, hD0.self, va_S.rf⟩ hl
/-- a contract that reads -/
theorem mk_r {y : MethodName} {maxL k : Nat} {av : List Value} {post : Option Value → Prop} (hy : plainName y.cls = true) (hlen : (lg_sl av).length ≤ maxL)
    (body : ∀ (p : Program) (e : Env) (s : State) (m : MethodId) (below : List Frame) (meth : Method) (c : Code) (ls : Array Slot), Cx E p s m av.toArray meth c cc maxL ret y.cls (va_A ws s.heap.size) → Wl E (va_A ws s.heap.size) ws s s.heap [] → lv_has ls maxL (lv_args 0 av) →
      W p l e (Rm k 0 0) s m av.toArray below meth c s.heap [] 0 0 (MQ below (Qr post) av.toArray s 0 0 (fun _ => False)) (F0 m 0 ls [])) :
    ∀ sz : Nat, Met l y (.code y cc maxL ret :: LT) (Rm k 0 0) (Pw E av ws sz) (Qr post) 0 0 (fun _ => False) := by
  intro sz
  refine Met.ofW (cc := cc) (maxL := maxL) (ret := ret) hy rfl ?_
  intro p e s m args below meth c s₁ B hml hv
  obtain ⟨rfl, hsz, hP, hD0, hK, hE⟩ := hv
  have hts := atoms_spec (ws := .code y cc maxL ret :: LT) B.pre
  subst hsz
  have hl := lv_entry av (n := maxL) hlen
  rw [lg_entry_eq]
  exact body p e s m below meth c _ ⟨B.exec, B.bytes, hml, B.returns, B.notSynchronized, findClass_of_methodNamed B.named, fun w h => hts w (List.mem_cons_of_mem _ h), hK, hE, fun q h => Or.inr h⟩ ⟨hP, hD0.self, va_S.rf⟩ hl
/-! ends -/
theorem ret_ir {post : Option Value → Prop} {v : Int32} (C : Cx E p s m args meth c cc nL (some .int) own A) (hp : post (some (.int v))) (hdg : decode cc pc = .ok (.ireturn, 1)) : W p l e R s m args below meth c s.heap [] 0 0 (MQ below (Qr post) args s 0 0 (fun _ => False)) (F0 m pc ls [.int v]) :=
  W.iret C.hx C.hb C.hr (fun _ ht _ => ⟨_, rfl, hp, ht⟩) (fun _ h => absurd h List.not_mem_nil) hdg C.hlk
theorem ret_zr {post : Option Value → Prop} {v : Int32} (C : Cx E p s m args meth c cc nL (some .boolean) own A) (hp : post (some (.int v))) (hn : narrow .boolean (.int v) = .int v) (hdg : decode cc pc = .ok (.ireturn, 1)) : W p l e R s m args below meth c s.heap [] 0 0 (MQ below (Qr post) args s 0 0 (fun _ => False)) (F0 m pc ls [.int v]) :=
  W.zret C.hx C.hb C.hr hn (fun _ ht _ => ⟨_, rfl, hp, ht⟩) (fun _ h => absurd h List.not_mem_nil) hdg C.hlk
theorem ret_lr {post : Option Value → Prop} {v : Int64} (C : Cx E p s m args meth c cc nL (some .long) own A) (hp : post (some (.long v))) (hdg : decode cc pc = .ok (.lreturn, 1)) : W p l e R s m args below meth c s.heap [] 0 0 (MQ below (Qr post) args s 0 0 (fun _ => False)) (F0 m pc ls [.long v]) :=
  W.lret C.hx C.hb C.hr (fun _ ht _ => ⟨_, rfl, hp, ht⟩) (fun _ h => absurd h List.not_mem_nil) hdg C.hlk
theorem ret_ar {post : Option Value → Prop} {a : Nat} {cn : String} (C : Cx E p s m args meth c cc nL (some (.object cn)) own A) (hp : post (some (.ref a))) (hdg : decode cc pc = .ok (.areturn, 1)) : W p l e R s m args below meth c s.heap [] 0 0 (MQ below (Qr post) args s 0 0 (fun _ => False)) (F0 m pc ls [.ref a]) :=
  W.aret C.hx C.hb C.hr (Or.inl ⟨_, rfl⟩) (Or.inr ⟨_, rfl⟩) (fun _ ht _ => ⟨_, rfl, hp, ht⟩) (fun _ h => absurd h List.not_mem_nil) hdg C.hlk
theorem ret_iw {post : Option Value → va_W → Prop} {ws0 : va_W} {v : Int32} {mc ms : Nat} (C : Cx E p s m args meth c cc nL (some .int) own (va_A ws0 s.heap.size)) (Wd : Wl E (va_A ws0 s.heap.size) ws s H locs) (hp : post (some (.int v)) ws) (hdg : decode cc pc = .ok (.ireturn, 1)) : W p l e R s m args below meth c H locs mc ms (MQ below (Qw E ws0 s.heap.size post) args s mc ms (va_A ws0 s.heap.size)) (F0 m pc ls [.int v]) :=
  W.iret C.hx C.hb C.hr (fun _ ht _ => ⟨⟨_, ws, rfl, hp, by rw [ht]; exact Wd.1, Wd.2.1⟩, Wd.2.2.F ht⟩) Wd.2.2.2.2 hdg C.hlk
theorem ret_zw {post : Option Value → va_W → Prop} {ws0 : va_W} {v : Int32} {mc ms : Nat} (C : Cx E p s m args meth c cc nL (some .boolean) own (va_A ws0 s.heap.size)) (Wd : Wl E (va_A ws0 s.heap.size) ws s H locs) (hp : post (some (.int v)) ws) (hn : narrow .boolean (.int v) = .int v) (hdg : decode cc pc = .ok (.ireturn, 1)) : W p l e R s m args below meth c H locs mc ms (MQ below (Qw E ws0 s.heap.size post) args s mc ms (va_A ws0 s.heap.size)) (F0 m pc ls [.int v]) :=
  W.zret C.hx C.hb C.hr hn (fun _ ht _ => ⟨⟨_, ws, rfl, hp, by rw [ht]; exact Wd.1, Wd.2.1⟩, Wd.2.2.F ht⟩) Wd.2.2.2.2 hdg C.hlk
theorem ret_vw {post : Option Value → va_W → Prop} {ws0 : va_W} {mc ms : Nat} (C : Cx E p s m args meth c cc nL none own (va_A ws0 s.heap.size)) (Wd : Wl E (va_A ws0 s.heap.size) ws s H locs) (hp : post none ws) (hdg : decode cc pc = .ok (.return_, 1)) : W p l e R s m args below meth c H locs mc ms (MQ below (Qw E ws0 s.heap.size post) args s mc ms (va_A ws0 s.heap.size)) (F0 m pc ls []) :=
  W.vret C.hx C.hb C.hr (fun _ ht _ => ⟨⟨_, ws, rfl, hp, by rw [ht]; exact Wd.1, Wd.2.1⟩, Wd.2.2.F ht⟩) Wd.2.2.2.2 hdg C.hlk
/-! calls -/
theorem call_r {st0 : List Value} {a : Array Value} {post : Option Value → Prop} (hr : va_Run p l e R s m args below meth c H locs cells slots 0 0 (F0 m pc ls st0) rest (Qr post a) (fun _ => False))
    (kk : ∀ v : Option Value, post v → W p l e R s m args below meth c H locs cells slots Q (F0 m (pc + 3) ls (v.toList ++ rest))) : W p l e R s m args below meth c H locs cells slots Q (F0 m pc ls st0) := by
  intro T hT X
  obtain ⟨v, st₀, t, T', L, h0, X', hL, e1, e2, ⟨r, hv, hp, hh⟩, st⟩ := hr T hT X
  cases hv
  obtain ⟨t2, a1, b1⟩ := kk v hp T' (by rw [e1, hh, h0]) (Stand.forget X' (fun q h => (hL q h).elim))
  exact ⟨t2, st t2 a1, b1⟩
theorem call_w {st0 : List Value} {a : Array Value} {mc ms : Nat} {post : Option Value → va_W → Prop} (C : Cx E p s m args meth c cc nL ret own A) (Wd : Wl E A ws s H locs) (hr : va_Run p l e R s m args below meth c H locs cells slots mc ms (F0 m pc ls st0) rest (Qw E ws H.size post a) (va_A ws H.size))
    (kk : ∀ (v : Option Value) (ws' : va_W) (H1 : Heap) (locs1 : List Loc), post v ws' → Wl E A ws' s H1 locs1 → W p l e R s m args below meth c H1 locs1 (cells + mc) (slots + ms) Q (F0 m (pc + 3) ls (v.toList ++ rest))) : W p l e R s m args below meth c H locs cells slots Q (F0 m pc ls st0) := by
  intro T hT X
  obtain ⟨v, st₀, t, T', L, h0, X', hL, e1, e2, ⟨⟨r, ws', hv, hp, hP, hD⟩, hz, hk⟩, st⟩ := hr T hT X
  cases hv
  rw [h0] at hz hk
  have hin := Wd.inA C
  have hS := Wd.2.2
  obtain ⟨t2, a1, b1⟩ := kk v ws' T'.heap (locs ++ L) hp ⟨by rw [e1]; exact hP, hD.weaken (fun _ q _ h => hin q.1 h), Nat.le_trans hS.1 (by rw [e1]; exact hz), fun q h1 h2 => by
      rw [e1, hk q (Nat.lt_of_lt_of_le h1 hS.1) (fun z => h2 (hin q z))]; exact hS.2.1 q h1 h2, fun q hq => by
      rcases List.mem_append.mp hq with h | h
      · exact hS.2.2 q h
      · exact hin _ (hL q h)⟩ T' rfl X'
  exact ⟨t2, st t2 a1, b1⟩
/-- the words of a method that is called on an object; of a static one -/
def Wy (y : MethodName) (bytes : ByteArray) (maxL : Nat) (rt : Option FieldType) (n : Nat) : Prop := Cond.code y bytes maxL rt ∈ LT ∧ Cond.initialized y.cls ∈ LT ∧ Cond.instanceMethod y ∈ LT ∧ maxL ≤ 7 ∧ (y.cls ≠ "java/lang/invoke/MethodHandle" ∧ y.cls ≠ "java/lang/invoke/VarHandle" ∧ (parseMethodDescriptor y.desc).map (fun d => d.parameters.length) = some n)
def Wz (y : MethodName) (bytes : ByteArray) (maxL : Nat) (rt : Option FieldType) (n : Nat) : Prop := Cond.code y bytes maxL rt ∈ LT ∧ Cond.initialized y.cls ∈ LT ∧ Cond.static y ∈ LT ∧ maxL ≤ 7 ∧ (y.cls ≠ "java/lang/invoke/MethodHandle" ∧ y.cls ≠ "java/lang/invoke/VarHandle" ∧ (parseMethodDescriptor y.desc).map (fun d => d.parameters.length) = some n)
section RN
variable {y : MethodName} {bytes : ByteArray} {maxL n k mc ms idx b : Nat} {rt : Option FieldType} {As : List Value} {st0 : List Value} {Qc : Nat → Array Value → State → Outcome → State → Prop} {free : Nat → Addr → Prop}
/-- a call on an object, by a link of its own class -/
theorem runV (C : Cx E p s m args meth c cc nL ret own A) (Wd : Wl E A ws s H locs) (hM : ∀ sz : Nat, Met l y (.code y bytes maxL rt :: LT) (Rm k mc ms) (Pw E (.ref b :: As) ws sz) (Qc sz) mc ms (free sz)) (hy : Wy y bytes maxL rt n) (hse : Cond.selects y.cls y y ∈ LT) (hl : Cond.methodLink own idx y ∈ LT)
    {ci N q0 : Nat} {T : u_T} {fs : List Value} (hc : vwCl[ci]? = some (y.cls, T, N)) (he : ws[q0]? = some (b, .inr (ci, fs))) (hR : k + 1 ≤ R.frames ∧ 26 * (k + 1) ≤ R.locals) (hn : As.length = n) (hsz : ls.size = nL) (hst : st0 = As.reverse ++ .ref b :: rest) (hW : (rest.map fun v => v.category).sum ≤ 8) (hdg : decode cc pc = .ok (.invokevirtual idx, 3)) (hf : cells + mc ≤ R.cells ∧ slots + ms ≤ R.slots) :
    va_Run p l e R s m args below meth c H locs cells slots mc ms (F0 m pc ls st0) rest (Qc H.size (Value.ref b :: As).toArray) (free H.size) := by
  obtain ⟨w1, w2, w3, w4, w5⟩ := hy
  refine va_runV (C := y.cls) (b := b) (As := As) (index := idx) ⟨C.hx, C.hb, C.hml, C.hown, C.hts⟩ (hM H.size) ⟨callB_of n C.hts (gLT w1) rfl rfl rfl (C.hts _ w2) (C.hts _ hl) w5 ⟨hR.1, ?_⟩, C.hts _ w3, C.hts _ hse⟩ ⟨Pw.blind _ _ _ _, va_recv C.hK.1 Wd.1 hc he, C.pre Wd (.ref b :: As)⟩ rfl hn hsz hst (lv_room hW) hdg hf
  have := hR.2
  show 8 + (maxL + 11) + 26 * k ≤ R.locals
  omega
/-- a nest mate's private method on an object -/
theorem runVN (C : Cx E p s m args meth c cc nL ret RX2 A) (Wd : Wl E A ws s H locs) (hM : ∀ sz : Nat, Met l y (.code y bytes maxL rt :: LT) (Rm k mc ms) (Pw E (.ref b :: As) ws sz) (Qc sz) mc ms (free sz)) (hy : Wy y bytes maxL rt n) (hse : Cond.selects y.cls y y ∈ LT) (hl : (idx, y) ∈ NWM)
    {ci N q0 : Nat} {T : u_T} {fs : List Value} (hc : vwCl[ci]? = some (y.cls, T, N)) (he : ws[q0]? = some (b, .inr (ci, fs))) (hR : k + 1 ≤ R.frames ∧ 26 * (k + 1) ≤ R.locals) (hn : As.length = n) (hsz : ls.size = nL) (hst : st0 = As.reverse ++ .ref b :: rest) (hW : (rest.map fun v => v.category).sum ≤ 8) (hdg : decode cc pc = .ok (.invokevirtual idx, 3)) (hf : cells + mc ≤ R.cells ∧ slots + ms ≤ R.slots) :
    va_Run p l e R s m args below meth c H locs cells slots mc ms (F0 m pc ls st0) rest (Qc H.size (Value.ref b :: As).toArray) (free H.size) := by
  obtain ⟨w1, w2, w3, w4, w5⟩ := hy
  refine va_runVN (C := y.cls) (b := b) (As := As) (index := idx) (host := RX2) ⟨C.hx, C.hb, C.hml, C.hown, C.hts⟩ (hM H.size) ⟨va_cnB n C.hts (gLT w1) rfl rfl rfl (C.hK.2.1 _ hl) (C.hts _ w2) w5 ⟨hR.1, ?_⟩, C.hts _ w3, C.hts _ hse⟩ ⟨Pw.blind _ _ _ _, va_recv C.hK.1 Wd.1 hc he, C.pre Wd (.ref b :: As)⟩ rfl hn hsz hst (lv_room hW) hdg hf
  have := hR.2
  show 8 + (maxL + 11) + 26 * k ≤ R.locals
  omega
/-- a static method of the own class -/
theorem runS (C : Cx E p s m args meth c cc nL ret own A) (Wd : Wl E A ws s H locs) (hM : ∀ sz : Nat, Met l y (.code y bytes maxL rt :: LT) (Rm k mc ms) (Pw E As ws sz) (Qc sz) mc ms (free sz)) (hy : Wz y bytes maxL rt n) (hl : Cond.methodLink own idx y ∈ LT)
    (hR : k + 1 ≤ R.frames ∧ 26 * (k + 1) ≤ R.locals) (hn : As.length = n) (hsz : ls.size = nL) (hst : st0 = As.reverse ++ rest) (hW : (rest.map fun v => v.category).sum ≤ 8) (hdg : decode cc pc = .ok (.invokestatic idx, 3)) (hf : cells + mc ≤ R.cells ∧ slots + ms ≤ R.slots) :
    va_Run p l e R s m args below meth c H locs cells slots mc ms (F0 m pc ls st0) rest (Qc H.size As.toArray) (free H.size) := by
  obtain ⟨w1, w2, w3, w4, w5⟩ := hy
  refine va_runS (As := As) (index := idx) ⟨C.hx, C.hb, C.hml, C.hown, C.hts⟩ (hM H.size) ⟨callB_of n C.hts (gLT w1) rfl rfl rfl (C.hts _ w2) (C.hts _ hl) w5 ⟨hR.1, ?_⟩, C.hts _ w3⟩ ⟨Pw.blind _ _ _ _, C.pre Wd As⟩ rfl hn hsz hst (lv_room hW) hdg hf
  have := hR.2
  show 8 + (maxL + 11) + 26 * k ≤ R.locals
  omega
/-- a constructor, by a link of the own class; by a nest mate's link -/
theorem runI (C : Cx E p s m args meth c cc nL ret own A) (Wd : Wl E A ws s H locs) (hM : ∀ sz : Nat, Met l y (.code y bytes maxL none :: LT) (Rm k mc ms) (Pw E (.ref b :: As) ws sz) (Qc sz) mc ms (free sz)) (hy : Wy y bytes maxL none n) (hnm : y.name = "<init>") (hl : Cond.methodLink own idx y ∈ LT)
    (hR : k + 1 ≤ R.frames ∧ 26 * (k + 1) ≤ R.locals) (hn : As.length = n) (hsz : ls.size = nL) (hst : st0 = As.reverse ++ .ref b :: rest) (hW : (rest.map fun v => v.category).sum ≤ 8) (hdg : decode cc pc = .ok (.invokespecial idx, 3)) (hf : cells + mc ≤ R.cells ∧ slots + ms ≤ R.slots) :
    va_Run p l e R s m args below meth c H locs cells slots mc ms (F0 m pc ls st0) rest (Qc H.size (Value.ref b :: As).toArray) (free H.size) := by
  obtain ⟨w1, w2, w3, w4, w5⟩ := hy
  refine va_runI (b := b) (As := As) (index := idx) ⟨C.hx, C.hb, C.hml, C.hown, C.hts⟩ (hM H.size) ⟨callB_of n C.hts (gLT w1) rfl rfl rfl (C.hts _ w2) (C.hts _ hl) w5 ⟨hR.1, ?_⟩, hnm, C.hts _ w3⟩ ⟨Pw.blind _ _ _ _, C.pre Wd (.ref b :: As)⟩ rfl hn hsz hst (lv_room hW) hdg hf
  have := hR.2
  show 8 + (maxL + 11) + 26 * k ≤ R.locals
  omega
end RN
/-! fields and arrays of a world -/
section FD
variable {ci N q0 idx a n : Nat} {T : u_T} {fs : List Value} {Cn : String} {v : Value}
theorem getf (C : Cx E p s m args meth c cc nL ret own A) (Wd : Wl E A ws s H locs) (q0 : Nat) (he : ws[q0]? = some (a, .inr (ci, fs))) (hc : vwCl[ci]? = some (Cn, T, N)) (hin : ∀ w ∈ u_ws Cn T N, w ∈ LT) (k : Nat) (hk : k < N) (hl : Cond.fieldLink own idx (T k).1 (T k).2.1 (T k).2.2.1 ∈ LT) (hv : fs[k]? = some v) (hdg : decode cc pc = .ok (.getfield idx, 3))
    (kk : W p l e R s m args below meth c H locs cells slots Q (F0 m (pc + 3) ls (v :: rest))) : W p l e R s m args below meth c H locs cells slots Q (F0 m pc ls (.ref a :: rest)) :=
  va_get C.hx C.hb C.hts hin C.hown C.hK.1 Wd.1 q0 he hc k hk (C.hts _ hl) (fun _ h => h) hv hdg kk
theorem putf (C : Cx E p s m args meth c cc nL ret own A) (Wd : Wl E A ws s H locs) (q0 : Nat) (he : ws[q0]? = some (a, .inr (ci, fs))) (hc : vwCl[ci]? = some (Cn, T, N)) (hin : ∀ w ∈ u_ws Cn T N, w ∈ LT) (ty0 : Nat → FieldType) (hty : ∀ k, k < N → parseFieldDescriptor (T k).2.2.1 = some (ty0 k)) (hnm : ∀ a, a < N → ∀ b, b < N → a ≠ b → (T a).2.1 ≠ (T b).2.1) (k : Nat) (hk : k < N) (hl : Cond.fieldLink own idx (T k).1 (T k).2.1 (T k).2.2.1 ∈ LT) (hfin : (T k).2.2.2 = false) {ty : FieldType} (hd : parseFieldDescriptor (T k).2.2.1 = some ty) (hn : narrow ty v = v) (hfit : fits ty v = true) (hlt : k < fs.length) (hdg : decode cc pc = .ok (.putfield idx, 3))
    (kk : ∀ (H1 : Heap) (locs1 : List Loc), Wl E A (ws.set q0 (a, .inr (ci, fs.set k v))) s H1 locs1 → W p l e R s m args below meth c H1 locs1 cells slots Q (F0 m (pc + 3) ls rest)) : W p l e R s m args below meth c H locs cells slots Q (F0 m pc ls (v :: .ref a :: rest)) :=
  va_put C.hx C.hb C.hts hin ty0 hty hnm C.hown C.hK.1 Wd.1 Wd.2.1 Wd.2.2 q0 he hc k hk (C.hts _ hl) (fun _ h => h) hfin hd hn hfit hlt hdg (fun H1 locs1 a1 a2 a3 => kk H1 locs1 ⟨a1, a2, a3⟩)
theorem lald (C : Cx E p s m args meth c cc nL ret own A) (Wd : Wl E A ws s H locs) (q0 : Nat) {f : Nat → Int64} (ha : ws[q0]? = some (a, .inl (E.2.2.1, n, .inr (.inl f)))) {i : Int32} (hin : vp_in i n) (hdg : decode cc pc = .ok (.laload, 1))
    (kk : W p l e R s m args below meth c H locs cells slots Q (F0 m (pc + 1) ls (.long (f i.toNatClampNeg) :: rest))) : W p l e R s m args below meth c H locs cells slots Q (F0 m pc ls (.int i :: .ref a :: rest)) :=
  va_lald C.hx C.hb C.hK.1 Wd.1 q0 1 ha rfl hin hdg kk
theorem iald (C : Cx E p s m args meth c cc nL ret own A) (Wd : Wl E A ws s H locs) (q0 : Nat) {f : Nat → Int32} (ha : ws[q0]? = some (a, .inl (E.2.1, n, .inl f))) {i : Int32} (hin : vp_in i n) (hdg : decode cc pc = .ok (.iaload, 1))
    (kk : W p l e R s m args below meth c H locs cells slots Q (F0 m (pc + 1) ls (.int (f i.toNatClampNeg) :: rest))) : W p l e R s m args below meth c H locs cells slots Q (F0 m pc ls (.int i :: .ref a :: rest)) :=
  va_iald C.hx C.hb C.hK.1 Wd.1 q0 0 ha rfl hin hdg kk
theorem alenJ (C : Cx E p s m args meth c cc nL ret own A) (Wd : Wl E A ws s H locs) (q0 : Nat) {f : Nat → Int64} (ha : ws[q0]? = some (a, .inl (E.2.2.1, n, .inr (.inl f)))) (hdg : decode cc pc = .ok (.arraylength, 1))
    (kk : W p l e R s m args below meth c H locs cells slots Q (F0 m (pc + 1) ls (.int (nI n) :: rest))) : W p l e R s m args below meth c H locs cells slots Q (F0 m pc ls (.ref a :: rest)) :=
  va_alen C.hx C.hb C.hK.1 Wd.1 q0 1 ha rfl rfl hdg kk
theorem last (C : Cx E p s m args meth c cc nL ret own A) (Wd : Wl E A ws s H locs) (q0 : Nat) {f : Nat → Int64} (ha : ws[q0]? = some (a, .inl (E.2.2.1, n, .inr (.inl f)))) {i : Int32} {x : Int64} (hin : vp_in i n) (hdg : decode cc pc = .ok (.lastore, 1))
    (kk : ∀ (H1 : Heap) (locs1 : List Loc), Wl E A (ws.set q0 (a, .inl (E.2.2.1, n, .inr (.inl (vp_updL f i.toNatClampNeg x))))) s H1 locs1 → W p l e R s m args below meth c H1 locs1 cells slots Q (F0 m (pc + 1) ls rest)) : W p l e R s m args below meth c H locs cells slots Q (F0 m pc ls (.long x :: .int i :: .ref a :: rest)) :=
  va_last C.hx C.hb C.hK.1 Wd.1 Wd.2.1 Wd.2.2 q0 1 ha rfl hin hdg (fun H1 locs1 a1 a2 a3 => kk H1 locs1 ⟨a1, a2, a3⟩)
theorem iast (C : Cx E p s m args meth c cc nL ret own A) (Wd : Wl E A ws s H locs) (q0 : Nat) {f : Nat → Int32} (ha : ws[q0]? = some (a, .inl (E.2.1, n, .inl f))) {i : Int32} {x : Int32} (hin : vp_in i n) (hdg : decode cc pc = .ok (.iastore, 1))
    (kk : ∀ (H1 : Heap) (locs1 : List Loc), Wl E A (ws.set q0 (a, .inl (E.2.1, n, .inl (upd f i.toNatClampNeg x)))) s H1 locs1 → W p l e R s m args below meth c H1 locs1 cells slots Q (F0 m (pc + 1) ls rest)) : W p l e R s m args below meth c H locs cells slots Q (F0 m pc ls (.int x :: .int i :: .ref a :: rest)) :=
  va_iast C.hx C.hb C.hK.1 Wd.1 Wd.2.1 Wd.2.2 q0 0 ha rfl hin hdg (fun H1 locs1 a1 a2 a3 => kk H1 locs1 ⟨a1, a2, a3⟩)
end FD
end BS
end
