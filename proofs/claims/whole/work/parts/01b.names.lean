/-! ===== BEGIN words of one list among another's, by their places ===== -/
theorem goodIn_r {big : List Cond} (ws : List Cond) (ps : List Nat) (hp : ws = ps.filterMap (fun i => big[i]?)) (h : ws.all goodWord = true) : GoodIn big ws := by
  intro w hw
  have h1 := List.all_eq_true.mp h w hw
  rw [hp] at hw
  obtain ⟨i, -, hi⟩ := List.mem_filterMap.mp hw
  have hm : w ∈ big := by first | exact List.mem_of_getElem? hi | exact List.getElem?_mem hi
  exact ⟨hm, good_of_word h1⟩
theorem goodIn_app {big a b : List Cond} (ha : GoodIn big a) (hb : GoodIn big b) : GoodIn big (a ++ b) := fun w h => (List.mem_append.mp h).elim (ha w) (hb w)
theorem goodIn_ca {big a b : List Cond} {c : Cond} (ha : GoodIn big (c :: a)) (hb : GoodIn big b) : GoodIn big (c :: (a ++ b)) := fun w h => (List.mem_cons.mp h).elim (fun e => ha w (List.mem_cons.mpr (Or.inl e))) (fun h => (List.mem_append.mp h).elim (fun h => ha w (List.mem_cons.mpr (Or.inr h))) (hb w))
theorem goodIn_sub {big ws : List Cond} (hm : ∀ w ∈ ws, w ∈ big) (h : ws.all goodWord = true) : GoodIn big ws := fun w hw => ⟨hm w hw, good_of_word (List.all_eq_true.mp h w hw)⟩
/-! ===== END ===== -/

/-! ===== BEGIN printed: names, fields, word lists, decode rows ===== -/
def RX0 : String := "IntervalSplits$Kind"
def TX0 : u_T := fun k => match k with
  | _ => ("", "", "", false)
def tyX0 : Nat → FieldType := fun k => match k with
  | _ => .int
abbrev wsX00 : List Cond := u_ws RX0 TX0 0
theorem nmX0 : ∀ a, a < 0 → ∀ b, b < 0 → a ≠ b → (TX0 a).2.1 ≠ (TX0 b).2.1 := by decide +kernel
theorem tyX0_ok : ∀ k, k < 0 → parseFieldDescriptor (TX0 k).2.2.1 = some (tyX0 k) := by decide +kernel
def RX1 : String := "IntervalSplits$Row"
def TX1 : u_T := fun k => match k with
  | 0 => ("IntervalSplits$Row", "cells", "[J", true)
  | _ => ("IntervalSplits$Row", "size", "I", false)
def tyX1 : Nat → FieldType := fun k => match k with
  | 0 => .array .long
  | _ => .int
abbrev wsX10 : List Cond := u_ws RX1 TX1 2
theorem nmX1 : ∀ a, a < 2 → ∀ b, b < 2 → a ≠ b → (TX1 a).2.1 ≠ (TX1 b).2.1 := by decide +kernel
theorem tyX1_ok : ∀ k, k < 2 → parseFieldDescriptor (TX1 k).2.2.1 = some (tyX1 k) := by decide +kernel
abbrev cX1_init : ByteArray := prog_3_method_1_code
def yX1_init : MethodName := ⟨RX1, "<init>", "(I)V"⟩
abbrev cX1_holds : ByteArray := prog_3_method_2_code
def yX1_holds : MethodName := ⟨RX1, "holds", "(I)Z"⟩
abbrev cX1_at : ByteArray := prog_3_method_3_code
def yX1_at : MethodName := ⟨RX1, "at", "(I)J"⟩
abbrev cX1_intAt : ByteArray := prog_3_method_4_code
def yX1_intAt : MethodName := ⟨RX1, "intAt", "(I)I"⟩
abbrev cX1_raise : ByteArray := prog_3_method_5_code
def yX1_raise : MethodName := ⟨RX1, "raise", "(II)V"⟩
abbrev cX1_insertAt : ByteArray := prog_3_method_6_code
def yX1_insertAt : MethodName := ⟨RX1, "insertAt", "(IJ)V"⟩
abbrev cX1_deleteAt : ByteArray := prog_3_method_7_code
def yX1_deleteAt : MethodName := ⟨RX1, "deleteAt", "(I)V"⟩
abbrev cX1_sum : ByteArray := prog_3_method_8_code
def yX1_sum : MethodName := ⟨RX1, "sum", "(II)I"⟩
abbrev cX1_groupOf : ByteArray := prog_3_method_9_code
def yX1_groupOf : MethodName := ⟨RX1, "groupOf", "(I)I"⟩
def RX2 : String := "IntervalSplits"
def TX2 : u_T := fun k => match k with
  | 0 => ("IntervalSplits", "room", "I", true)
  | 1 => ("IntervalSplits", "width", "I", true)
  | 2 => ("IntervalSplits", "laidRoom", "I", true)
  | 3 => ("IntervalSplits", "laidWidth", "I", true)
  | 4 => ("IntervalSplits", "keys", "LIntervalSplits$Row;", true)
  | 5 => ("IntervalSplits", "lengths", "LIntervalSplits$Row;", true)
  | 6 => ("IntervalSplits", "numbers", "LIntervalSplits$Row;", true)
  | 7 => ("IntervalSplits", "sizes", "LIntervalSplits$Row;", true)
  | 8 => ("IntervalSplits", "spans", "LIntervalSplits$Row;", true)
  | 9 => ("IntervalSplits", "nextNumber", "I", false)
  | 10 => ("IntervalSplits", "toldCut", "I", false)
  | 11 => ("IntervalSplits", "closed", "Z", false)
  | 12 => ("IntervalSplits", "cutHasRow", "Z", false)
  | 13 => ("IntervalSplits", "cutKind", "LIntervalSplits$Kind;", false)
  | 14 => ("IntervalSplits", "cutPlace", "I", false)
  | 15 => ("IntervalSplits", "intervalSplits", "I", false)
  | 16 => ("IntervalSplits", "areaSplits", "I", false)
  | 17 => ("IntervalSplits", "undoneSplits", "I", false)
  | _ => ("IntervalSplits", "finishedSplits", "I", false)
def tyX2 : Nat → FieldType := fun k => match k with
  | 0 => .int
  | 1 => .int
  | 2 => .int
  | 3 => .int
  | 4 => .object "IntervalSplits$Row"
  | 5 => .object "IntervalSplits$Row"
  | 6 => .object "IntervalSplits$Row"
  | 7 => .object "IntervalSplits$Row"
  | 8 => .object "IntervalSplits$Row"
  | 9 => .int
  | 10 => .int
  | 11 => .boolean
  | 12 => .boolean
  | 13 => .object "IntervalSplits$Kind"
  | 14 => .int
  | 15 => .int
  | 16 => .int
  | 17 => .int
  | _ => .int
abbrev wsX20 : List Cond := u_ws RX2 TX2 19
theorem nmX2 : ∀ a, a < 19 → ∀ b, b < 19 → a ≠ b → (TX2 a).2.1 ≠ (TX2 b).2.1 := by decide +kernel
theorem tyX2_ok : ∀ k, k < 19 → parseFieldDescriptor (TX2 k).2.2.1 = some (tyX2 k) := by decide +kernel
abbrev cX2_init : ByteArray := prog_1_method_1_code
def yX2_init : MethodName := ⟨RX2, "<init>", "(IIII)V"⟩
abbrev cX2_put : ByteArray := prog_1_method_2_code
def yX2_put : MethodName := ⟨RX2, "put", "(JI)I"⟩
abbrev cX2_find : ByteArray := prog_1_method_3_code
def yX2_find : MethodName := ⟨RX2, "find", "(J)I"⟩
abbrev cX2_next : ByteArray := prog_1_method_4_code
def yX2_next : MethodName := ⟨RX2, "next", "(J)I"⟩
abbrev cX2_remove : ByteArray := prog_1_method_5_code
def yX2_remove : MethodName := ⟨RX2, "remove", "(J)I"⟩
abbrev cX2_interval : ByteArray := prog_1_method_6_code
def yX2_interval : MethodName := ⟨RX2, "interval", "(II)I"⟩
abbrev cX2_cut : ByteArray := prog_1_method_7_code
def yX2_cut : MethodName := ⟨RX2, "cut", "(I)I"⟩
abbrev cX2_open : ByteArray := prog_1_method_8_code
def yX2_open : MethodName := ⟨RX2, "open", "()I"⟩
abbrev cX2_split : ByteArray := prog_1_method_9_code
def yX2_split : MethodName := ⟨RX2, "split", "(I)I"⟩
abbrev cX2_index : ByteArray := prog_1_method_10_code
def yX2_index : MethodName := ⟨RX2, "index", "(II)I"⟩
abbrev cX2_verify : ByteArray := prog_1_method_11_code
def yX2_verify : MethodName := ⟨RX2, "verify", "()I"⟩
abbrev cX2_reorganise : ByteArray := prog_1_method_12_code
def yX2_reorganise : MethodName := ⟨RX2, "reorganise", "()I"⟩
abbrev cX2_order : ByteArray := prog_1_method_13_code
def yX2_order : MethodName := ⟨RX2, "order", "(I)J"⟩
abbrev cX2_count : ByteArray := prog_1_method_14_code
def yX2_count : MethodName := ⟨RX2, "count", "(I)I"⟩
abbrev cX2_heldTo : ByteArray := prog_1_method_15_code
def yX2_heldTo : MethodName := ⟨RX2, "heldTo", "(III)I"⟩
abbrev cX2_notGreaterThan : ByteArray := prog_1_method_16_code
def yX2_notGreaterThan : MethodName := ⟨RX2, "notGreaterThan", "(J)I"⟩
abbrev cX2_positionOf : ByteArray := prog_1_method_17_code
def yX2_positionOf : MethodName := ⟨RX2, "positionOf", "(J)I"⟩
abbrev cX2_lengthsIn : ByteArray := prog_1_method_18_code
def yX2_lengthsIn : MethodName := ⟨RX2, "lengthsIn", "(I)I"⟩
abbrev cX2_lowBitsOfFirstKey : ByteArray := prog_1_method_19_code
def yX2_lowBitsOfFirstKey : MethodName := ⟨RX2, "lowBitsOfFirstKey", "(I)I"⟩
abbrev cX2_place : ByteArray := prog_1_method_20_code
def yX2_place : MethodName := ⟨RX2, "place", "(JI)Z"⟩
abbrev cX2_insertRecord : ByteArray := prog_1_method_21_code
def yX2_insertRecord : MethodName := ⟨RX2, "insertRecord", "(IJI)V"⟩
abbrev cX2_kindOfSplit : ByteArray := prog_1_method_22_code
def yX2_kindOfSplit : MethodName := ⟨RX2, "kindOfSplit", "(I)LIntervalSplits$Kind;"⟩
abbrev cX2_takeNumber : ByteArray := prog_1_method_23_code
def yX2_takeNumber : MethodName := ⟨RX2, "takeNumber", "()I"⟩
abbrev cX2_splitArea : ByteArray := prog_1_method_24_code
def yX2_splitArea : MethodName := ⟨RX2, "splitArea", "(I)V"⟩
abbrev cX2_halveInterval : ByteArray := prog_1_method_25_code
def yX2_halveInterval : MethodName := ⟨RX2, "halveInterval", "(II)V"⟩
abbrev cX2_keptByHalving : ByteArray := prog_1_method_26_code
def yX2_keptByHalving : MethodName := ⟨RX2, "keptByHalving", "(I)I"⟩
abbrev cX2_giveOwnInterval : ByteArray := prog_1_method_27_code
def yX2_giveOwnInterval : MethodName := ⟨RX2, "giveOwnInterval", "(IJI)V"⟩
abbrev cX2_insertInterval : ByteArray := prog_1_method_28_code
def yX2_insertInterval : MethodName := ⟨RX2, "insertInterval", "(IIII)V"⟩
abbrev cX2_dropInterval : ByteArray := prog_1_method_29_code
def yX2_dropInterval : MethodName := ⟨RX2, "dropInterval", "(I)V"⟩
abbrev cX2_closeAhead : ByteArray := prog_1_method_30_code
def yX2_closeAhead : MethodName := ⟨RX2, "closeAhead", "(LIntervalSplits$Kind;I)V"⟩
abbrev cX2_finishCutSplit : ByteArray := prog_1_method_31_code
def yX2_finishCutSplit : MethodName := ⟨RX2, "finishCutSplit", "()V"⟩
abbrev cX2_layInterval : ByteArray := prog_1_method_32_code
def yX2_layInterval : MethodName := ⟨RX2, "layInterval", "(I)V"⟩
abbrev cX2_brokenOrders : ByteArray := prog_1_method_33_code
def yX2_brokenOrders : MethodName := ⟨RX2, "brokenOrders", "()I"⟩
abbrev cX2_brokenRooms : ByteArray := prog_1_method_34_code
def yX2_brokenRooms : MethodName := ⟨RX2, "brokenRooms", "()I"⟩
abbrev cX2_brokenWidths : ByteArray := prog_1_method_35_code
def yX2_brokenWidths : MethodName := ⟨RX2, "brokenWidths", "()I"⟩
def RX3 : String := "IntervalSplitsModel"
def TX3 : u_T := fun k => match k with
  | 0 => ("IntervalSplitsModel", "code", "I", false)
  | 1 => ("IntervalSplitsModel", "room", "I", true)
  | 2 => ("IntervalSplitsModel", "width", "I", true)
  | 3 => ("IntervalSplitsModel", "load", "I", true)
  | 4 => ("IntervalSplitsModel", "loadWidth", "I", true)
  | 5 => ("IntervalSplitsModel", "keys", "[J", true)
  | 6 => ("IntervalSplitsModel", "lengths", "[I", true)
  | 7 => ("IntervalSplitsModel", "of", "[I", true)
  | 8 => ("IntervalSplitsModel", "size", "I", false)
  | 9 => ("IntervalSplitsModel", "intervals", "[I", true)
  | 10 => ("IntervalSplitsModel", "areas", "[I", true)
  | 11 => ("IntervalSplitsModel", "many", "I", false)
  | 12 => ("IntervalSplitsModel", "number", "I", false)
  | 13 => ("IntervalSplitsModel", "area", "I", false)
  | 14 => ("IntervalSplitsModel", "cutAt", "I", false)
  | 15 => ("IntervalSplitsModel", "pending", "I", false)
  | 16 => ("IntervalSplitsModel", "pendingAt", "I", false)
  | 17 => ("IntervalSplitsModel", "closed", "Z", false)
  | 18 => ("IntervalSplitsModel", "finishes", "Z", false)
  | _ => ("IntervalSplitsModel", "splits", "[I", true)
def tyX3 : Nat → FieldType := fun k => match k with
  | 0 => .int
  | 1 => .int
  | 2 => .int
  | 3 => .int
  | 4 => .int
  | 5 => .array .long
  | 6 => .array .int
  | 7 => .array .int
  | 8 => .int
  | 9 => .array .int
  | 10 => .array .int
  | 11 => .int
  | 12 => .int
  | 13 => .int
  | 14 => .int
  | 15 => .int
  | 16 => .int
  | 17 => .boolean
  | 18 => .boolean
  | _ => .array .int
abbrev wsX30 : List Cond := u_ws RX3 TX3 20
theorem nmX3 : ∀ a, a < 20 → ∀ b, b < 20 → a ≠ b → (TX3 a).2.1 ≠ (TX3 b).2.1 := by decide +kernel
theorem tyX3_ok : ∀ k, k < 20 → parseFieldDescriptor (TX3 k).2.2.1 = some (tyX3 k) := by decide +kernel
abbrev cX3_init : ByteArray := prog_5_method_1_code
def yX3_init : MethodName := ⟨RX3, "<init>", "(IIII)V"⟩
abbrev cX3_held : ByteArray := prog_5_method_2_code
def yX3_held : MethodName := ⟨RX3, "held", "(III)I"⟩
abbrev cX3_thrown : ByteArray := prog_5_method_3_code
def yX3_thrown : MethodName := ⟨RX3, "thrown", "()I"⟩
abbrev cX3_less : ByteArray := prog_5_method_4_code
def yX3_less : MethodName := ⟨RX3, "less", "(J)I"⟩
abbrev cX3_has : ByteArray := prog_5_method_5_code
def yX3_has : MethodName := ⟨RX3, "has", "(J)Z"⟩
abbrev cX3_first : ByteArray := prog_5_method_6_code
def yX3_first : MethodName := ⟨RX3, "first", "(I)I"⟩
abbrev cX3_recordsOf : ByteArray := prog_5_method_7_code
def yX3_recordsOf : MethodName := ⟨RX3, "recordsOf", "(I)I"⟩
abbrev cX3_lengthsOf : ByteArray := prog_5_method_8_code
def yX3_lengthsOf : MethodName := ⟨RX3, "lengthsOf", "(I)I"⟩
abbrev cX3_belongs : ByteArray := prog_5_method_9_code
def yX3_belongs : MethodName := ⟨RX3, "belongs", "(J)I"⟩
abbrev cX3_widthOf : ByteArray := prog_5_method_10_code
def yX3_widthOf : MethodName := ⟨RX3, "widthOf", "(I)I"⟩
abbrev cX3_insert : ByteArray := prog_5_method_11_code
def yX3_insert : MethodName := ⟨RX3, "insert", "(JII)V"⟩
abbrev cX3_open : ByteArray := prog_5_method_12_code
def yX3_open : MethodName := ⟨RX3, "open", "(III)V"⟩
abbrev cX3_kept : ByteArray := prog_5_method_13_code
def yX3_kept : MethodName := ⟨RX3, "kept", "(I)I"⟩
abbrev cX3_splitInterval : ByteArray := prog_5_method_14_code
def yX3_splitInterval : MethodName := ⟨RX3, "splitInterval", "(II)V"⟩
abbrev cX3_splitArea : ByteArray := prog_5_method_15_code
def yX3_splitArea : MethodName := ⟨RX3, "splitArea", "(I)V"⟩
abbrev cX3_isCut : ByteArray := prog_5_method_16_code
def yX3_isCut : MethodName := ⟨RX3, "isCut", "(II)Z"⟩
abbrev cX3_put : ByteArray := prog_5_method_17_code
def yX3_put : MethodName := ⟨RX3, "put", "(JI)I"⟩
abbrev cX3_cut : ByteArray := prog_5_method_18_code
def yX3_cut : MethodName := ⟨RX3, "cut", "(I)I"⟩
abbrev cX3_open_ : ByteArray := prog_5_method_19_code
def yX3_open_ : MethodName := ⟨RX3, "open", "()I"⟩
abbrev cX3_remove : ByteArray := prog_5_method_20_code
def yX3_remove : MethodName := ⟨RX3, "remove", "(J)I"⟩
abbrev cX3_reorganise : ByteArray := prog_5_method_21_code
def yX3_reorganise : MethodName := ⟨RX3, "reorganise", "()I"⟩
abbrev cX3_find : ByteArray := prog_5_method_22_code
def yX3_find : MethodName := ⟨RX3, "find", "(J)I"⟩
abbrev cX3_next : ByteArray := prog_5_method_23_code
def yX3_next : MethodName := ⟨RX3, "next", "(J)I"⟩
abbrev cX3_areaOf : ByteArray := prog_5_method_24_code
def yX3_areaOf : MethodName := ⟨RX3, "areaOf", "(I)I"⟩
abbrev cX3_interval : ByteArray := prog_5_method_25_code
def yX3_interval : MethodName := ⟨RX3, "interval", "(II)I"⟩
abbrev cX3_split : ByteArray := prog_5_method_26_code
def yX3_split : MethodName := ⟨RX3, "split", "(I)I"⟩
abbrev cX3_index : ByteArray := prog_5_method_27_code
def yX3_index : MethodName := ⟨RX3, "index", "(II)I"⟩
abbrev cX3_verify : ByteArray := prog_5_method_28_code
def yX3_verify : MethodName := ⟨RX3, "verify", "()I"⟩
abbrev cX3_order : ByteArray := prog_5_method_29_code
def yX3_order : MethodName := ⟨RX3, "order", "(I)J"⟩
abbrev cX3_count : ByteArray := prog_5_method_30_code
def yX3_count : MethodName := ⟨RX3, "count", "(I)I"⟩
def RJx00060 : String := "java/lang/ArrayIndexOutOfBoundsException"
def TJx00060 : u_T := fun k => match k with
  | 0 => ("java/lang/Throwable", "cause", "Ljava/lang/Throwable;", false)
  | 1 => ("java/lang/Throwable", "stackTrace", "[Ljava/lang/StackTraceElement;", false)
  | 2 => ("java/lang/Throwable", "suppressedExceptions", "Ljava/util/List;", false)
  | 3 => ("java/lang/Throwable", "detailMessage", "Ljava/lang/String;", false)
  | 4 => ("java/lang/Throwable", "backtrace", "Ljava/lang/Object;", false)
  | _ => ("java/lang/Throwable", "depth", "I", false)
def tyJx00060 : Nat → FieldType := fun k => match k with
  | 0 => .object "java/lang/Throwable"
  | 1 => .array (.object "java/lang/StackTraceElement")
  | 2 => .object "java/util/List"
  | 3 => .object "java/lang/String"
  | 4 => .object "java/lang/Object"
  | _ => .int
abbrev wsJx000600 : List Cond := u_ws RJx00060 TJx00060 6
theorem nmJx00060 : ∀ a, a < 6 → ∀ b, b < 6 → a ≠ b → (TJx00060 a).2.1 ≠ (TJx00060 b).2.1 := by decide +kernel
theorem tyJx00060_ok : ∀ k, k < 6 → parseFieldDescriptor (TJx00060 k).2.2.1 = some (tyJx00060 k) := by decide +kernel
abbrev cJx00060_init_a7421 : ByteArray := prog_6_method_2_code
def yJx00060_init_a7421 : MethodName := ⟨RJx00060, "<init>", "(Ljava/lang/String;)V"⟩
def RJx29ce0 : String := "java/lang/Enum"
def TJx29ce0 : u_T := fun k => match k with
  | _ => ("", "", "", false)
def tyJx29ce0 : Nat → FieldType := fun k => match k with
  | _ => .int
abbrev wsJx29ce00 : List Cond := u_ws RJx29ce0 TJx29ce0 0
theorem nmJx29ce0 : ∀ a, a < 0 → ∀ b, b < 0 → a ≠ b → (TJx29ce0 a).2.1 ≠ (TJx29ce0 b).2.1 := by decide +kernel
theorem tyJx29ce0_ok : ∀ k, k < 0 → parseFieldDescriptor (TJx29ce0 k).2.2.1 = some (tyJx29ce0 k) := by decide +kernel
def RJ9 : String := "java/lang/Math"
def TJ9 : u_T := fun k => match k with
  | _ => ("", "", "", false)
def tyJ9 : Nat → FieldType := fun k => match k with
  | _ => .int
abbrev wsJ90 : List Cond := u_ws RJ9 TJ9 0
theorem nmJ9 : ∀ a, a < 0 → ∀ b, b < 0 → a ≠ b → (TJ9 a).2.1 ≠ (TJ9 b).2.1 := by decide +kernel
theorem tyJ9_ok : ∀ k, k < 0 → parseFieldDescriptor (TJ9 k).2.2.1 = some (tyJ9 k) := by decide +kernel
abbrev cJ9_max_7cf53 : ByteArray := prog_10_method_65_code
def yJ9_max_7cf53 : MethodName := ⟨RJ9, "max", "(II)I"⟩
abbrev cJ9_min_7cf53 : ByteArray := prog_10_method_69_code
def yJ9_min_7cf53 : MethodName := ⟨RJ9, "min", "(II)I"⟩
def RJ0 : String := "java/lang/String"
def TJ0 : u_T := fun k => match k with
  | _ => ("", "", "", false)
def tyJ0 : Nat → FieldType := fun k => match k with
  | _ => .int
abbrev wsJ00 : List Cond := u_ws RJ0 TJ0 0
theorem nmJ0 : ∀ a, a < 0 → ∀ b, b < 0 → a ≠ b → (TJ0 a).2.1 ≠ (TJ0 b).2.1 := by decide +kernel
theorem tyJ0_ok : ∀ k, k < 0 → parseFieldDescriptor (TJ0 k).2.2.1 = some (tyJ0 k) := by decide +kernel
def RJ10 : String := "java/lang/System"
def TJ10 : u_T := fun k => match k with
  | _ => ("", "", "", false)
def tyJ10 : Nat → FieldType := fun k => match k with
  | _ => .int
abbrev wsJ100 : List Cond := u_ws RJ10 TJ10 0
theorem nmJ10 : ∀ a, a < 0 → ∀ b, b < 0 → a ≠ b → (TJ10 a).2.1 ≠ (TJ10 b).2.1 := by decide +kernel
theorem tyJ10_ok : ∀ k, k < 0 → parseFieldDescriptor (TJ10 k).2.2.1 = some (tyJ10 k) := by decide +kernel
def RL : String := "IntervalSplitsLaw"
abbrev cL_cell : ByteArray := method_2_code
def yL_cell : MethodName := ⟨RL, "cell", "([II)I"⟩
abbrev cL_index : ByteArray := method_3_code
def yL_index : MethodName := ⟨RL, "index", "(LIntervalSplits;II[J)I"⟩
abbrev cL_law : ByteArray := code
def yL_law : MethodName := ⟨RL, "law", "([I)Z"⟩
abbrev vwCl : List vw_C := [(RJx00060, TJx00060, 6), (RX1, TX1, 2), (RX2, TX2, 19), (RX3, TX3, 20)]
