-- names of classes, their fields, methods and code (turned from the printed names)
def RX0 : String := "BinderPress$Engine"
def TX0 : u_T := fun k => match k with
  | 0 => ("BinderPress$Engine", "flat", "LBinderPress$Row;", true)
  | 1 => ("BinderPress$Engine", "next", "LBinderPress$Row;", true)
  | _ => ("BinderPress$Engine", "things", "LBinderPress$Things;", true)
def tyX0 : Nat → FieldType := fun k => match k with
  | 0 => .object "BinderPress$Row"
  | 1 => .object "BinderPress$Row"
  | _ => .object "BinderPress$Things"
theorem nmX0 : ∀ a, a < 3 → ∀ b, b < 3 → a ≠ b → (TX0 a).2.1 ≠ (TX0 b).2.1 := by decide +kernel
theorem tyX0_ok : ∀ k, k < 3 → parseFieldDescriptor (TX0 k).2.2.1 = some (tyX0 k) := by decide +kernel
abbrev cX0_init : ByteArray := prog_2_method_1_code
def yX0_init : MethodName := ⟨RX0, "<init>", "()V"⟩
abbrev cX0_run : ByteArray := prog_2_method_2_code
def yX0_run : MethodName := ⟨RX0, "run", "(LBinderPress$Row;ZI)I"⟩
abbrev cX0_result : ByteArray := prog_2_method_3_code
def yX0_result : MethodName := ⟨RX0, "result", "()LBinderPress$Row;"⟩
abbrev cX0_isTooBig : ByteArray := prog_2_method_4_code
def yX0_isTooBig : MethodName := ⟨RX0, "isTooBig", "()Z"⟩
abbrev cX0_hasStep : ByteArray := prog_2_method_5_code
def yX0_hasStep : MethodName := ⟨RX0, "hasStep", "()Z"⟩
abbrev cX0_findStep : ByteArray := prog_2_method_6_code
def yX0_findStep : MethodName := ⟨RX0, "findStep", "()I"⟩
abbrev cX0_takeStep : ByteArray := prog_2_method_7_code
def yX0_takeStep : MethodName := ⟨RX0, "takeStep", "(I)V"⟩
abbrev cX0_endOf : ByteArray := prog_2_method_8_code
def yX0_endOf : MethodName := ⟨RX0, "endOf", "(I)I"⟩
def RX1 : String := "BinderPress$Past"
def TX1 : u_T := fun k => match k with
  | 0 => ("BinderPress$Past", "terms", "[LBinderPress$Row;", true)
  | 1 => ("BinderPress$Past", "changed", "[I", true)
  | _ => ("BinderPress$Past", "count", "I", false)
def tyX1 : Nat → FieldType := fun k => match k with
  | 0 => .array (.object "BinderPress$Row")
  | 1 => .array .int
  | _ => .int
theorem nmX1 : ∀ a, a < 3 → ∀ b, b < 3 → a ≠ b → (TX1 a).2.1 ≠ (TX1 b).2.1 := by decide +kernel
theorem tyX1_ok : ∀ k, k < 3 → parseFieldDescriptor (TX1 k).2.2.1 = some (tyX1 k) := by decide +kernel
abbrev cX1_init : ByteArray := prog_3_method_1_code
def yX1_init : MethodName := ⟨RX1, "<init>", "()V"⟩
abbrev cX1_count : ByteArray := prog_3_method_2_code
def yX1_count : MethodName := ⟨RX1, "count", "()I"⟩
abbrev cX1_forget : ByteArray := prog_3_method_3_code
def yX1_forget : MethodName := ⟨RX1, "forget", "()V"⟩
abbrev cX1_remember : ByteArray := prog_3_method_4_code
def yX1_remember : MethodName := ⟨RX1, "remember", "(ILBinderPress$Row;)V"⟩
abbrev cX1_latestShelf : ByteArray := prog_3_method_5_code
def yX1_latestShelf : MethodName := ⟨RX1, "latestShelf", "()I"⟩
abbrev cX1_giveBack : ByteArray := prog_3_method_6_code
def yX1_giveBack : MethodName := ⟨RX1, "giveBack", "(LBinderPress$Row;)V"⟩
abbrev cX1_loseOldest : ByteArray := prog_3_method_7_code
def yX1_loseOldest : MethodName := ⟨RX1, "loseOldest", "()V"⟩
def RX2 : String := "BinderPress$Reader"
def TX2 : u_T := fun k => match k with
  | 0 => ("BinderPress$Reader", "starts", "LBinderPress$Row;", true)
  | 1 => ("BinderPress$Reader", "brackets", "LBinderPress$Row;", true)
  | 2 => ("BinderPress$Reader", "openBrackets", "I", false)
  | 3 => ("BinderPress$Reader", "next", "I", false)
  | _ => ("BinderPress$Reader", "place", "I", false)
def tyX2 : Nat → FieldType := fun k => match k with
  | 0 => .object "BinderPress$Row"
  | 1 => .object "BinderPress$Row"
  | 2 => .int
  | 3 => .int
  | _ => .int
theorem nmX2 : ∀ a, a < 5 → ∀ b, b < 5 → a ≠ b → (TX2 a).2.1 ≠ (TX2 b).2.1 := by decide +kernel
theorem tyX2_ok : ∀ k, k < 5 → parseFieldDescriptor (TX2 k).2.2.1 = some (tyX2 k) := by decide +kernel
abbrev cX2_init : ByteArray := prog_4_method_1_code
def yX2_init : MethodName := ⟨RX2, "<init>", "()V"⟩
abbrev cX2_place : ByteArray := prog_4_method_2_code
def yX2_place : MethodName := ⟨RX2, "place", "()I"⟩
abbrev cX2_read : ByteArray := prog_4_method_3_code
def yX2_read : MethodName := ⟨RX2, "read", "(LBinderPress$Row;LBinderPress$Row;)I"⟩
abbrev cX2_readLetter : ByteArray := prog_4_method_4_code
def yX2_readLetter : MethodName := ⟨RX2, "readLetter", "(ILBinderPress$Row;)I"⟩
abbrev cX2_readBoundName : ByteArray := prog_4_method_5_code
def yX2_readBoundName : MethodName := ⟨RX2, "readBoundName", "(ILBinderPress$Row;)I"⟩
abbrev cX2_readDot : ByteArray := prog_4_method_6_code
def yX2_readDot : MethodName := ⟨RX2, "readDot", "(ILBinderPress$Row;)I"⟩
abbrev cX2_readOpening : ByteArray := prog_4_method_7_code
def yX2_readOpening : MethodName := ⟨RX2, "readOpening", "(LBinderPress$Row;)I"⟩
abbrev cX2_readClosing : ByteArray := prog_4_method_8_code
def yX2_readClosing : MethodName := ⟨RX2, "readClosing", "(LBinderPress$Row;)I"⟩
abbrev cX2_addCell : ByteArray := prog_4_method_9_code
def yX2_addCell : MethodName := ⟨RX2, "addCell", "(ILBinderPress$Row;)I"⟩
abbrev cX2_joins : ByteArray := prog_4_method_10_code
def yX2_joins : MethodName := ⟨RX2, "joins", "(ILBinderPress$Row;)Z"⟩
abbrev cX2_hasSome : ByteArray := prog_4_method_11_code
def yX2_hasSome : MethodName := ⟨RX2, "hasSome", "(LBinderPress$Row;)Z"⟩
abbrev cX2_open : ByteArray := prog_4_method_12_code
def yX2_open : MethodName := ⟨RX2, "open", "(II)V"⟩
def RX3 : String := "BinderPress$Row"
def TX3 : u_T := fun k => match k with
  | 0 => ("BinderPress$Row", "cells", "[I", true)
  | _ => ("BinderPress$Row", "count", "I", false)
def tyX3 : Nat → FieldType := fun k => match k with
  | 0 => .array .int
  | _ => .int
theorem nmX3 : ∀ a, a < 2 → ∀ b, b < 2 → a ≠ b → (TX3 a).2.1 ≠ (TX3 b).2.1 := by decide +kernel
theorem tyX3_ok : ∀ k, k < 2 → parseFieldDescriptor (TX3 k).2.2.1 = some (tyX3 k) := by decide +kernel
abbrev cX3_init : ByteArray := prog_5_method_1_code
def yX3_init : MethodName := ⟨RX3, "<init>", "(I)V"⟩
abbrev cX3_count : ByteArray := prog_5_method_2_code
def yX3_count : MethodName := ⟨RX3, "count", "()I"⟩
abbrev cX3_clear : ByteArray := prog_5_method_3_code
def yX3_clear : MethodName := ⟨RX3, "clear", "()V"⟩
abbrev cX3_at : ByteArray := prog_5_method_4_code
def yX3_at : MethodName := ⟨RX3, "at", "(I)I"⟩
abbrev cX3_atOr : ByteArray := prog_5_method_5_code
def yX3_atOr : MethodName := ⟨RX3, "atOr", "(II)I"⟩
abbrev cX3_last : ByteArray := prog_5_method_6_code
def yX3_last : MethodName := ⟨RX3, "last", "()I"⟩
abbrev cX3_set : ByteArray := prog_5_method_7_code
def yX3_set : MethodName := ⟨RX3, "set", "(II)V"⟩
abbrev cX3_add : ByteArray := prog_5_method_8_code
def yX3_add : MethodName := ⟨RX3, "add", "(I)V"⟩
abbrev cX3_pop : ByteArray := prog_5_method_9_code
def yX3_pop : MethodName := ⟨RX3, "pop", "()I"⟩
abbrev cX3_insert : ByteArray := prog_5_method_10_code
def yX3_insert : MethodName := ⟨RX3, "insert", "(II)V"⟩
abbrev cX3_fill : ByteArray := prog_5_method_11_code
def yX3_fill : MethodName := ⟨RX3, "fill", "(II)V"⟩
abbrev cX3_addAll : ByteArray := prog_5_method_12_code
def yX3_addAll : MethodName := ⟨RX3, "addAll", "(LBinderPress$Row;)V"⟩
abbrev cX3_addPart : ByteArray := prog_5_method_13_code
def yX3_addPart : MethodName := ⟨RX3, "addPart", "(LBinderPress$Row;II)V"⟩
abbrev cX3_become : ByteArray := prog_5_method_14_code
def yX3_become : MethodName := ⟨RX3, "become", "(LBinderPress$Row;)V"⟩
abbrev cX3_isLike : ByteArray := prog_5_method_15_code
def yX3_isLike : MethodName := ⟨RX3, "isLike", "(LBinderPress$Row;)Z"⟩
abbrev cX3_howOften : ByteArray := prog_5_method_16_code
def yX3_howOften : MethodName := ⟨RX3, "howOften", "(I)I"⟩
def RX4 : String := "BinderPress$Scribe"
def TX4 : u_T := fun k => match k with
  | 0 => ("BinderPress$Scribe", "spans", "LBinderPress$Spans;", true)
  | 1 => ("BinderPress$Scribe", "written", "LBinderPress$Row;", true)
  | _ => ("BinderPress$Scribe", "open", "LBinderPress$Row;", true)
def tyX4 : Nat → FieldType := fun k => match k with
  | 0 => .object "BinderPress$Spans"
  | 1 => .object "BinderPress$Row"
  | _ => .object "BinderPress$Row"
theorem nmX4 : ∀ a, a < 3 → ∀ b, b < 3 → a ≠ b → (TX4 a).2.1 ≠ (TX4 b).2.1 := by decide +kernel
theorem tyX4_ok : ∀ k, k < 3 → parseFieldDescriptor (TX4 k).2.2.1 = some (tyX4 k) := by decide +kernel
abbrev cX4_init : ByteArray := prog_6_method_1_code
def yX4_init : MethodName := ⟨RX4, "<init>", "()V"⟩
abbrev cX4_written : ByteArray := prog_6_method_2_code
def yX4_written : MethodName := ⟨RX4, "written", "()LBinderPress$Row;"⟩
abbrev cX4_write : ByteArray := prog_6_method_3_code
def yX4_write : MethodName := ⟨RX4, "write", "(LBinderPress$Row;)V"⟩
abbrev cX4_writeAt : ByteArray := prog_6_method_4_code
def yX4_writeAt : MethodName := ⟨RX4, "writeAt", "(LBinderPress$Row;I)V"⟩
abbrev cX4_openPart : ByteArray := prog_6_method_5_code
def yX4_openPart : MethodName := ⟨RX4, "openPart", "(IZ)V"⟩
def RX5 : String := "BinderPress$Sorter"
def TX5 : u_T := fun k => match k with
  | 0 => ("BinderPress$Sorter", "from", "LBinderPress$Row;", true)
  | 1 => ("BinderPress$Sorter", "to", "LBinderPress$Row;", true)
  | 2 => ("BinderPress$Sorter", "one", "LBinderPress$Row;", true)
  | 3 => ("BinderPress$Sorter", "cellKinds", "LBinderPress$Row;", true)
  | 4 => ("BinderPress$Sorter", "freeKinds", "LBinderPress$Row;", true)
  | 5 => ("BinderPress$Sorter", "open", "LBinderPress$Row;", true)
  | 6 => ("BinderPress$Sorter", "marks", "LBinderPress$Row;", true)
  | 7 => ("BinderPress$Sorter", "written", "LBinderPress$Row;", true)
  | 8 => ("BinderPress$Sorter", "spans", "LBinderPress$Spans;", true)
  | _ => ("BinderPress$Sorter", "letters", "I", false)
def tyX5 : Nat → FieldType := fun k => match k with
  | 0 => .object "BinderPress$Row"
  | 1 => .object "BinderPress$Row"
  | 2 => .object "BinderPress$Row"
  | 3 => .object "BinderPress$Row"
  | 4 => .object "BinderPress$Row"
  | 5 => .object "BinderPress$Row"
  | 6 => .object "BinderPress$Row"
  | 7 => .object "BinderPress$Row"
  | 8 => .object "BinderPress$Spans"
  | _ => .int
theorem nmX5 : ∀ a, a < 10 → ∀ b, b < 10 → a ≠ b → (TX5 a).2.1 ≠ (TX5 b).2.1 := by decide +kernel
theorem tyX5_ok : ∀ k, k < 10 → parseFieldDescriptor (TX5 k).2.2.1 = some (tyX5 k) := by decide +kernel
abbrev cX5_init : ByteArray := prog_7_method_1_code
def yX5_init : MethodName := ⟨RX5, "<init>", "()V"⟩
abbrev cX5_written : ByteArray := prog_7_method_2_code
def yX5_written : MethodName := ⟨RX5, "written", "()LBinderPress$Row;"⟩
abbrev cX5_find : ByteArray := prog_7_method_3_code
def yX5_find : MethodName := ⟨RX5, "find", "(LBinderPress$Row;)Z"⟩
abbrev cX5_write : ByteArray := prog_7_method_4_code
def yX5_write : MethodName := ⟨RX5, "write", "(LBinderPress$Row;)Z"⟩
abbrev cX5_writeAt : ByteArray := prog_7_method_5_code
def yX5_writeAt : MethodName := ⟨RX5, "writeAt", "(I)V"⟩
abbrev cX5_letterOf : ByteArray := prog_7_method_6_code
def yX5_letterOf : MethodName := ⟨RX5, "letterOf", "(I)I"⟩
abbrev cX5_giveNamesKinds : ByteArray := prog_7_method_7_code
def yX5_giveNamesKinds : MethodName := ⟨RX5, "giveNamesKinds", "(LBinderPress$Row;)V"⟩
abbrev cX5_nameKind : ByteArray := prog_7_method_8_code
def yX5_nameKind : MethodName := ⟨RX5, "nameKind", "(LBinderPress$Row;I)I"⟩
abbrev cX5_giveKind : ByteArray := prog_7_method_9_code
def yX5_giveKind : MethodName := ⟨RX5, "giveKind", "(II)V"⟩
abbrev cX5_signKind : ByteArray := prog_7_method_10_code
def yX5_signKind : MethodName := ⟨RX5, "signKind", "(I)I"⟩
abbrev cX5_unknown : ByteArray := prog_7_method_11_code
def yX5_unknown : MethodName := ⟨RX5, "unknown", "()I"⟩
abbrev cX5_arrow : ByteArray := prog_7_method_12_code
def yX5_arrow : MethodName := ⟨RX5, "arrow", "(II)I"⟩
abbrev cX5_isUnknown : ByteArray := prog_7_method_13_code
def yX5_isUnknown : MethodName := ⟨RX5, "isUnknown", "(I)Z"⟩
abbrev cX5_meant : ByteArray := prog_7_method_14_code
def yX5_meant : MethodName := ⟨RX5, "meant", "(I)I"⟩
abbrev cX5_makeOne : ByteArray := prog_7_method_15_code
def yX5_makeOne : MethodName := ⟨RX5, "makeOne", "(II)V"⟩
abbrev cX5_hasNoneWithinItself : ByteArray := prog_7_method_16_code
def yX5_hasNoneWithinItself : MethodName := ⟨RX5, "hasNoneWithinItself", "()Z"⟩
abbrev cX5_isSoundFrom : ByteArray := prog_7_method_17_code
def yX5_isSoundFrom : MethodName := ⟨RX5, "isSoundFrom", "(I)Z"⟩
abbrev cX5_enters : ByteArray := prog_7_method_18_code
def yX5_enters : MethodName := ⟨RX5, "enters", "(II)Z"⟩
def RX6 : String := "BinderPress$Spans"
def TX6 : u_T := fun k => match k with
  | 0 => ("BinderPress$Spans", "ends", "LBinderPress$Row;", true)
  | _ => ("BinderPress$Spans", "sums", "LBinderPress$Row;", true)
def tyX6 : Nat → FieldType := fun k => match k with
  | 0 => .object "BinderPress$Row"
  | _ => .object "BinderPress$Row"
theorem nmX6 : ∀ a, a < 2 → ∀ b, b < 2 → a ≠ b → (TX6 a).2.1 ≠ (TX6 b).2.1 := by decide +kernel
theorem tyX6_ok : ∀ k, k < 2 → parseFieldDescriptor (TX6 k).2.2.1 = some (tyX6 k) := by decide +kernel
abbrev cX6_init : ByteArray := prog_8_method_1_code
def yX6_init : MethodName := ⟨RX6, "<init>", "(I)V"⟩
abbrev cX6_measure : ByteArray := prog_8_method_2_code
def yX6_measure : MethodName := ⟨RX6, "measure", "(LBinderPress$Row;)V"⟩
abbrev cX6_end : ByteArray := prog_8_method_3_code
def yX6_end : MethodName := ⟨RX6, "end", "(I)I"⟩
abbrev cX6_freeNames : ByteArray := prog_8_method_4_code
def yX6_freeNames : MethodName := ⟨RX6, "freeNames", "(LBinderPress$Row;)I"⟩
abbrev cX6_freeAt : ByteArray := prog_8_method_5_code
def yX6_freeAt : MethodName := ⟨RX6, "freeAt", "(II)I"⟩
abbrev cX6_longestRow : ByteArray := prog_8_method_6_code
def yX6_longestRow : MethodName := ⟨RX6, "longestRow", "(LBinderPress$Row;)I"⟩
def RX7 : String := "BinderPress$Taker"
def TX7 : u_T := fun k => match k with
  | 0 => ("BinderPress$Taker", "spans", "LBinderPress$Spans;", true)
  | 1 => ("BinderPress$Taker", "holds", "LBinderPress$Row;", true)
  | 2 => ("BinderPress$Taker", "open", "LBinderPress$Row;", true)
  | _ => ("BinderPress$Taker", "fresh", "LBinderPress$Row;", true)
def tyX7 : Nat → FieldType := fun k => match k with
  | 0 => .object "BinderPress$Spans"
  | 1 => .object "BinderPress$Row"
  | 2 => .object "BinderPress$Row"
  | _ => .object "BinderPress$Row"
theorem nmX7 : ∀ a, a < 4 → ∀ b, b < 4 → a ≠ b → (TX7 a).2.1 ≠ (TX7 b).2.1 := by decide +kernel
theorem tyX7_ok : ∀ k, k < 4 → parseFieldDescriptor (TX7 k).2.2.1 = some (tyX7 k) := by decide +kernel
abbrev cX7_init : ByteArray := prog_9_method_1_code
def yX7_init : MethodName := ⟨RX7, "<init>", "()V"⟩
abbrev cX7_press : ByteArray := prog_9_method_2_code
def yX7_press : MethodName := ⟨RX7, "press", "(LBinderPress$Row;LBinderPress$Row;)V"⟩
abbrev cX7_takeFrom : ByteArray := prog_9_method_3_code
def yX7_takeFrom : MethodName := ⟨RX7, "takeFrom", "(LBinderPress$Row;I)V"⟩
abbrev cX7_takeBinder : ByteArray := prog_9_method_4_code
def yX7_takeBinder : MethodName := ⟨RX7, "takeBinder", "(LBinderPress$Row;I)V"⟩
abbrev cX7_takePart : ByteArray := prog_9_method_5_code
def yX7_takePart : MethodName := ⟨RX7, "takePart", "(LBinderPress$Row;II)V"⟩
abbrev cX7_takeAt : ByteArray := prog_9_method_6_code
def yX7_takeAt : MethodName := ⟨RX7, "takeAt", "(LBinderPress$Row;II)V"⟩
abbrev cX7_markHolders : ByteArray := prog_9_method_7_code
def yX7_markHolders : MethodName := ⟨RX7, "markHolders", "(LBinderPress$Row;I)V"⟩
def RX8 : String := "BinderPress$Things"
def TX8 : u_T := fun k => match k with
  | 0 => ("BinderPress$Things", "cell", "LBinderPress$Row;", true)
  | 1 => ("BinderPress$Things", "left", "LBinderPress$Row;", true)
  | 2 => ("BinderPress$Things", "right", "LBinderPress$Row;", true)
  | 3 => ("BinderPress$Things", "order", "LBinderPress$Row;", true)
  | 4 => ("BinderPress$Things", "open", "LBinderPress$Row;", true)
  | _ => ("BinderPress$Things", "spans", "LBinderPress$Spans;", true)
def tyX8 : Nat → FieldType := fun k => match k with
  | 0 => .object "BinderPress$Row"
  | 1 => .object "BinderPress$Row"
  | 2 => .object "BinderPress$Row"
  | 3 => .object "BinderPress$Row"
  | 4 => .object "BinderPress$Row"
  | _ => .object "BinderPress$Spans"
theorem nmX8 : ∀ a, a < 6 → ∀ b, b < 6 → a ≠ b → (TX8 a).2.1 ≠ (TX8 b).2.1 := by decide +kernel
theorem tyX8_ok : ∀ k, k < 6 → parseFieldDescriptor (TX8 k).2.2.1 = some (tyX8 k) := by decide +kernel
abbrev cX8_init : ByteArray := prog_10_method_1_code
def yX8_init : MethodName := ⟨RX8, "<init>", "()V"⟩
abbrev cX8_load : ByteArray := prog_10_method_2_code
def yX8_load : MethodName := ⟨RX8, "load", "(LBinderPress$Row;)V"⟩
abbrev cX8_takeStep : ByteArray := prog_10_method_3_code
def yX8_takeStep : MethodName := ⟨RX8, "takeStep", "(ILBinderPress$Row;)V"⟩
abbrev cX8_add : ByteArray := prog_10_method_4_code
def yX8_add : MethodName := ⟨RX8, "add", "(III)I"⟩
abbrev cX8_replace : ByteArray := prog_10_method_5_code
def yX8_replace : MethodName := ⟨RX8, "replace", "(III)V"⟩
abbrev cX8_writeOut : ByteArray := prog_10_method_6_code
def yX8_writeOut : MethodName := ⟨RX8, "writeOut", "(LBinderPress$Row;)V"⟩
abbrev cX8_follow : ByteArray := prog_10_method_7_code
def yX8_follow : MethodName := ⟨RX8, "follow", "(I)I"⟩
def RX9 : String := "BinderPress"
def TX9 : u_T := fun k => match k with
  | 0 => ("BinderPress", "text", "LBinderPress$Row;", true)
  | 1 => ("BinderPress", "shelves", "[LBinderPress$Row;", true)
  | 2 => ("BinderPress", "images", "[LBinderPress$Row;", true)
  | 3 => ("BinderPress", "kept", "[Z", true)
  | 4 => ("BinderPress", "past", "LBinderPress$Past;", true)
  | 5 => ("BinderPress", "made", "LBinderPress$Row;", true)
  | 6 => ("BinderPress", "reader", "LBinderPress$Reader;", true)
  | 7 => ("BinderPress", "spans", "LBinderPress$Spans;", true)
  | 8 => ("BinderPress", "taker", "LBinderPress$Taker;", true)
  | 9 => ("BinderPress", "engine", "LBinderPress$Engine;", true)
  | 10 => ("BinderPress", "scribe", "LBinderPress$Scribe;", true)
  | 11 => ("BinderPress", "sorter", "LBinderPress$Sorter;", true)
  | _ => ("BinderPress", "faultAt", "I", false)
def tyX9 : Nat → FieldType := fun k => match k with
  | 0 => .object "BinderPress$Row"
  | 1 => .array (.object "BinderPress$Row")
  | 2 => .array (.object "BinderPress$Row")
  | 3 => .array .boolean
  | 4 => .object "BinderPress$Past"
  | 5 => .object "BinderPress$Row"
  | 6 => .object "BinderPress$Reader"
  | 7 => .object "BinderPress$Spans"
  | 8 => .object "BinderPress$Taker"
  | 9 => .object "BinderPress$Engine"
  | 10 => .object "BinderPress$Scribe"
  | 11 => .object "BinderPress$Sorter"
  | _ => .int
theorem nmX9 : ∀ a, a < 13 → ∀ b, b < 13 → a ≠ b → (TX9 a).2.1 ≠ (TX9 b).2.1 := by decide +kernel
theorem tyX9_ok : ∀ k, k < 13 → parseFieldDescriptor (TX9 k).2.2.1 = some (tyX9 k) := by decide +kernel
abbrev cX9_init : ByteArray := prog_1_method_1_code
def yX9_init : MethodName := ⟨RX9, "<init>", "()V"⟩
abbrev cX9_feed : ByteArray := prog_1_method_2_code
def yX9_feed : MethodName := ⟨RX9, "feed", "(I)I"⟩
abbrev cX9_term : ByteArray := prog_1_method_3_code
def yX9_term : MethodName := ⟨RX9, "term", "(I)I"⟩
abbrev cX9_fault : ByteArray := prog_1_method_4_code
def yX9_fault : MethodName := ⟨RX9, "fault", "()I"⟩
abbrev cX9_compile : ByteArray := prog_1_method_5_code
def yX9_compile : MethodName := ⟨RX9, "compile", "(I)I"⟩
abbrev cX9_takeOut : ByteArray := prog_1_method_6_code
def yX9_takeOut : MethodName := ⟨RX9, "takeOut", "(II)I"⟩
abbrev cX9_put : ByteArray := prog_1_method_7_code
def yX9_put : MethodName := ⟨RX9, "put", "(III)I"⟩
abbrev cX9_putIn : ByteArray := prog_1_method_8_code
def yX9_putIn : MethodName := ⟨RX9, "putIn", "(III)I"⟩
abbrev cX9_work : ByteArray := prog_1_method_9_code
def yX9_work : MethodName := ⟨RX9, "work", "(III)I"⟩
abbrev cX9_drop : ByteArray := prog_1_method_10_code
def yX9_drop : MethodName := ⟨RX9, "drop", "(I)I"⟩
abbrev cX9_drift : ByteArray := prog_1_method_11_code
def yX9_drift : MethodName := ⟨RX9, "drift", "(III)I"⟩
abbrev cX9_undo : ByteArray := prog_1_method_12_code
def yX9_undo : MethodName := ⟨RX9, "undo", "()I"⟩
abbrev cX9_told : ByteArray := prog_1_method_13_code
def yX9_told : MethodName := ⟨RX9, "told", "(I)I"⟩
abbrev cX9_of : ByteArray := prog_1_method_14_code
def yX9_of : MethodName := ⟨RX9, "of", "(II)I"⟩
abbrev cX9_sign : ByteArray := prog_1_method_15_code
def yX9_sign : MethodName := ⟨RX9, "sign", "(II)I"⟩
abbrev cX9_kind : ByteArray := prog_1_method_16_code
def yX9_kind : MethodName := ⟨RX9, "kind", "(II)I"⟩
abbrev cX9_steps : ByteArray := prog_1_method_17_code
def yX9_steps : MethodName := ⟨RX9, "steps", "(II)I"⟩
abbrev cX9_same : ByteArray := prog_1_method_18_code
def yX9_same : MethodName := ⟨RX9, "same", "(II)I"⟩
abbrev cX9_sameKind : ByteArray := prog_1_method_19_code
def yX9_sameKind : MethodName := ⟨RX9, "sameKind", "(II)I"⟩
abbrev cX9_keep : ByteArray := prog_1_method_20_code
def yX9_keep : MethodName := ⟨RX9, "keep", "(I)I"⟩
abbrev cX9_goBack : ByteArray := prog_1_method_21_code
def yX9_goBack : MethodName := ⟨RX9, "goBack", "(I)I"⟩
abbrev cX9_change : ByteArray := prog_1_method_22_code
def yX9_change : MethodName := ⟨RX9, "change", "(I)I"⟩
abbrev cX9_makePutIn : ByteArray := prog_1_method_23_code
def yX9_makePutIn : MethodName := ⟨RX9, "makePutIn", "(LBinderPress$Row;ILBinderPress$Row;)V"⟩
abbrev cX9_makeByLots : ByteArray := prog_1_method_24_code
def yX9_makeByLots : MethodName := ⟨RX9, "makeByLots", "(II)V"⟩
abbrev cX9_fullShelves : ByteArray := prog_1_method_25_code
def yX9_fullShelves : MethodName := ⟨RX9, "fullShelves", "()I"⟩
abbrev cX9_isEmpty : ByteArray := prog_1_method_26_code
def yX9_isEmpty : MethodName := ⟨RX9, "isEmpty", "(I)Z"⟩
abbrev cX9_hasBinders : ByteArray := prog_1_method_27_code
def yX9_hasBinders : MethodName := ⟨RX9, "hasBinders", "(I)Z"⟩
abbrev cX9_isShelf : ByteArray := prog_1_method_28_code
def yX9_isShelf : MethodName := ⟨RX9, "isShelf", "(I)Z"⟩
abbrev cX9_isImage : ByteArray := prog_1_method_29_code
def yX9_isImage : MethodName := ⟨RX9, "isImage", "(I)Z"⟩
abbrev cX9_isHow : ByteArray := prog_1_method_30_code
def yX9_isHow : MethodName := ⟨RX9, "isHow", "(I)Z"⟩
abbrev cX9_isName : ByteArray := prog_1_method_31_code
def yX9_isName : MethodName := ⟨RX9, "isName", "(I)Z"⟩
abbrev cX9_isBinder : ByteArray := prog_1_method_32_code
def yX9_isBinder : MethodName := ⟨RX9, "isBinder", "(I)Z"⟩
abbrev cX9_nameOf : ByteArray := prog_1_method_33_code
def yX9_nameOf : MethodName := ⟨RX9, "nameOf", "(I)I"⟩
abbrev cX9_wants : ByteArray := prog_1_method_34_code
def yX9_wants : MethodName := ⟨RX9, "wants", "(I)I"⟩
abbrev cX9_countOrNone : ByteArray := prog_1_method_35_code
def yX9_countOrNone : MethodName := ⟨RX9, "countOrNone", "(LBinderPress$Row;)I"⟩
abbrev cX9_binders : ByteArray := prog_1_method_36_code
def yX9_binders : MethodName := ⟨RX9, "binders", "(LBinderPress$Row;)I"⟩
abbrev cX9_nextLot : ByteArray := prog_1_method_37_code
def yX9_nextLot : MethodName := ⟨RX9, "nextLot", "(J)J"⟩
abbrev cX9_signOfLot : ByteArray := prog_1_method_38_code
def yX9_signOfLot : MethodName := ⟨RX9, "signOfLot", "(J)I"⟩
abbrev cX9_signAt : ByteArray := prog_1_method_39_code
def yX9_signAt : MethodName := ⟨RX9, "signAt", "(I)I"⟩
abbrev cX9_newRows : ByteArray := prog_1_method_40_code
def yX9_newRows : MethodName := ⟨RX9, "newRows", "(I)[LBinderPress$Row;"⟩
def RX10 : String := "BinderPressModel"
def TX10 : u_T := fun k => match k with
  | 0 => ("BinderPressModel", "row", "[I", true)
  | 1 => ("BinderPressModel", "undos", "I", false)
  | 2 => ("BinderPressModel", "isKept", "[Z", true)
  | 3 => ("BinderPressModel", "text", "[I", true)
  | 4 => ("BinderPressModel", "length", "I", false)
  | 5 => ("BinderPressModel", "fault", "I", false)
  | 6 => ("BinderPressModel", "term", "[I", true)
  | 7 => ("BinderPressModel", "size", "I", false)
  | 8 => ("BinderPressModel", "made", "[I", true)
  | 9 => ("BinderPressModel", "many", "I", false)
  | 10 => ("BinderPressModel", "stack", "[I", true)
  | 11 => ("BinderPressModel", "depth", "I", false)
  | 12 => ("BinderPressModel", "begins", "[I", true)
  | 13 => ("BinderPressModel", "isBody", "[Z", true)
  | 14 => ("BinderPressModel", "around", "I", false)
  | 15 => ("BinderPressModel", "wanted", "I", false)
  | 16 => ("BinderPressModel", "place", "I", false)
  | 17 => ("BinderPressModel", "args", "[I", true)
  | 18 => ("BinderPressModel", "isBig", "Z", false)
  | 19 => ("BinderPressModel", "isMore", "Z", false)
  | 20 => ("BinderPressModel", "things", "[I", true)
  | 21 => ("BinderPressModel", "lefts", "[I", true)
  | 22 => ("BinderPressModel", "rights", "[I", true)
  | 23 => ("BinderPressModel", "thingMany", "I", false)
  | 24 => ("BinderPressModel", "spine", "[I", true)
  | 25 => ("BinderPressModel", "from", "[I", true)
  | 26 => ("BinderPressModel", "to", "[I", true)
  | 27 => ("BinderPressModel", "alike", "[I", true)
  | 28 => ("BinderPressModel", "isSound", "[Z", true)
  | 29 => ("BinderPressModel", "kindMany", "I", false)
  | 30 => ("BinderPressModel", "names", "[I", true)
  | 31 => ("BinderPressModel", "bound", "[I", true)
  | 32 => ("BinderPressModel", "pairs", "[I", true)
  | 33 => ("BinderPressModel", "written", "[I", true)
  | 34 => ("BinderPressModel", "writtenMany", "I", false)
  | 35 => ("BinderPressModel", "letterOf", "[I", true)
  | _ => ("BinderPressModel", "written2", "[I", true)
def tyX10 : Nat → FieldType := fun k => match k with
  | 0 => .array .int
  | 1 => .int
  | 2 => .array .boolean
  | 3 => .array .int
  | 4 => .int
  | 5 => .int
  | 6 => .array .int
  | 7 => .int
  | 8 => .array .int
  | 9 => .int
  | 10 => .array .int
  | 11 => .int
  | 12 => .array .int
  | 13 => .array .boolean
  | 14 => .int
  | 15 => .int
  | 16 => .int
  | 17 => .array .int
  | 18 => .boolean
  | 19 => .boolean
  | 20 => .array .int
  | 21 => .array .int
  | 22 => .array .int
  | 23 => .int
  | 24 => .array .int
  | 25 => .array .int
  | 26 => .array .int
  | 27 => .array .int
  | 28 => .array .boolean
  | 29 => .int
  | 30 => .array .int
  | 31 => .array .int
  | 32 => .array .int
  | 33 => .array .int
  | 34 => .int
  | 35 => .array .int
  | _ => .array .int
theorem nmX10 : ∀ a, a < 37 → ∀ b, b < 37 → a ≠ b → (TX10 a).2.1 ≠ (TX10 b).2.1 := by decide +kernel
theorem tyX10_ok : ∀ k, k < 37 → parseFieldDescriptor (TX10 k).2.2.1 = some (tyX10 k) := by decide +kernel
abbrev cX10_init : ByteArray := prog_12_method_1_code
def yX10_init : MethodName := ⟨RX10, "<init>", "()V"⟩
abbrev cX10_in : ByteArray := prog_12_method_2_code
def yX10_in : MethodName := ⟨RX10, "in", "(JJJ)Z"⟩
abbrev cX10_isName : ByteArray := prog_12_method_3_code
def yX10_isName : MethodName := ⟨RX10, "isName", "(I)Z"⟩
abbrev cX10_isBinder : ByteArray := prog_12_method_4_code
def yX10_isBinder : MethodName := ⟨RX10, "isBinder", "(I)Z"⟩
abbrev cX10_isShelf : ByteArray := prog_12_method_5_code
def yX10_isShelf : MethodName := ⟨RX10, "isShelf", "(I)Z"⟩
abbrev cX10_sizeOf : ByteArray := prog_12_method_6_code
def yX10_sizeOf : MethodName := ⟨RX10, "sizeOf", "(I)I"⟩
abbrev cX10_push : ByteArray := prog_12_method_7_code
def yX10_push : MethodName := ⟨RX10, "push", "(I)V"⟩
abbrev cX10_pop : ByteArray := prog_12_method_8_code
def yX10_pop : MethodName := ⟨RX10, "pop", "()I"⟩
abbrev cX10_make : ByteArray := prog_12_method_9_code
def yX10_make : MethodName := ⟨RX10, "make", "(I)V"⟩
abbrev cX10_copyRow : ByteArray := prog_12_method_10_code
def yX10_copyRow : MethodName := ⟨RX10, "copyRow", "(II)V"⟩
abbrev cX10_take : ByteArray := prog_12_method_11_code
def yX10_take : MethodName := ⟨RX10, "take", "(I)V"⟩
abbrev cX10_keepPast : ByteArray := prog_12_method_12_code
def yX10_keepPast : MethodName := ⟨RX10, "keepPast", "()V"⟩
abbrev cX10_lay : ByteArray := prog_12_method_13_code
def yX10_lay : MethodName := ⟨RX10, "lay", "(I)I"⟩
abbrev cX10_takeMade : ByteArray := prog_12_method_14_code
def yX10_takeMade : MethodName := ⟨RX10, "takeMade", "()V"⟩
abbrev cX10_feed : ByteArray := prog_12_method_15_code
def yX10_feed : MethodName := ⟨RX10, "feed", "(I)I"⟩
abbrev cX10_open : ByteArray := prog_12_method_16_code
def yX10_open : MethodName := ⟨RX10, "open", "(Z)V"⟩
abbrev cX10_hasTerm : ByteArray := prog_12_method_17_code
def yX10_hasTerm : MethodName := ⟨RX10, "hasTerm", "()Z"⟩
abbrev cX10_putAhead : ByteArray := prog_12_method_18_code
def yX10_putAhead : MethodName := ⟨RX10, "putAhead", "()V"⟩
abbrev cX10_signOf : ByteArray := prog_12_method_19_code
def yX10_signOf : MethodName := ⟨RX10, "signOf", "(I)I"⟩
abbrev cX10_ends : ByteArray := prog_12_method_20_code
def yX10_ends : MethodName := ⟨RX10, "ends", "(Z)Z"⟩
abbrev cX10_reads : ByteArray := prog_12_method_21_code
def yX10_reads : MethodName := ⟨RX10, "reads", "(I)I"⟩
abbrev cX10_term : ByteArray := prog_12_method_22_code
def yX10_term : MethodName := ⟨RX10, "term", "(I)I"⟩
abbrev cX10_fault : ByteArray := prog_12_method_23_code
def yX10_fault : MethodName := ⟨RX10, "fault", "()I"⟩
abbrev cX10_behind : ByteArray := prog_12_method_24_code
def yX10_behind : MethodName := ⟨RX10, "behind", "(I)I"⟩
abbrev cX10_isFree : ByteArray := prog_12_method_25_code
def yX10_isFree : MethodName := ⟨RX10, "isFree", "(II)Z"⟩
abbrev cX10_copyTerm : ByteArray := prog_12_method_26_code
def yX10_copyTerm : MethodName := ⟨RX10, "copyTerm", "(I)V"⟩
abbrev cX10_takesOut : ByteArray := prog_12_method_27_code
def yX10_takesOut : MethodName := ⟨RX10, "takesOut", "(II)V"⟩
abbrev cX10_lastBinder : ByteArray := prog_12_method_28_code
def yX10_lastBinder : MethodName := ⟨RX10, "lastBinder", "()I"⟩
abbrev cX10_compiles : ByteArray := prog_12_method_29_code
def yX10_compiles : MethodName := ⟨RX10, "compiles", "()V"⟩
abbrev cX10_compile : ByteArray := prog_12_method_30_code
def yX10_compile : MethodName := ⟨RX10, "compile", "(I)I"⟩
abbrev cX10_takeOut : ByteArray := prog_12_method_31_code
def yX10_takeOut : MethodName := ⟨RX10, "takeOut", "(II)I"⟩
abbrev cX10_copyShelf : ByteArray := prog_12_method_32_code
def yX10_copyShelf : MethodName := ⟨RX10, "copyShelf", "(I)V"⟩
abbrev cX10_put : ByteArray := prog_12_method_33_code
def yX10_put : MethodName := ⟨RX10, "put", "(III)I"⟩
abbrev cX10_hasBinders : ByteArray := prog_12_method_34_code
def yX10_hasBinders : MethodName := ⟨RX10, "hasBinders", "(I)Z"⟩
abbrev cX10_isPlain : ByteArray := prog_12_method_35_code
def yX10_isPlain : MethodName := ⟨RX10, "isPlain", "(I)Z"⟩
abbrev cX10_putIn : ByteArray := prog_12_method_36_code
def yX10_putIn : MethodName := ⟨RX10, "putIn", "(III)I"⟩
abbrev cX10_drop : ByteArray := prog_12_method_37_code
def yX10_drop : MethodName := ⟨RX10, "drop", "(I)I"⟩
abbrev cX10_drift : ByteArray := prog_12_method_38_code
def yX10_drift : MethodName := ⟨RX10, "drift", "(III)I"⟩
abbrev cX10_undo : ByteArray := prog_12_method_39_code
def yX10_undo : MethodName := ⟨RX10, "undo", "()I"⟩
abbrev cX10_wants : ByteArray := prog_12_method_40_code
def yX10_wants : MethodName := ⟨RX10, "wants", "(I)I"⟩
abbrev cX10_finds : ByteArray := prog_12_method_41_code
def yX10_finds : MethodName := ⟨RX10, "finds", "()Z"⟩
abbrev cX10_does : ByteArray := prog_12_method_42_code
def yX10_does : MethodName := ⟨RX10, "does", "()V"⟩
abbrev cX10_worksPlainly : ByteArray := prog_12_method_43_code
def yX10_worksPlainly : MethodName := ⟨RX10, "worksPlainly", "(I)I"⟩
abbrev cX10_thing : ByteArray := prog_12_method_44_code
def yX10_thing : MethodName := ⟨RX10, "thing", "(III)I"⟩
abbrev cX10_real : ByteArray := prog_12_method_45_code
def yX10_real : MethodName := ⟨RX10, "real", "(I)I"⟩
abbrev cX10_layThings : ByteArray := prog_12_method_46_code
def yX10_layThings : MethodName := ⟨RX10, "layThings", "()I"⟩
abbrev cX10_writeOut : ByteArray := prog_12_method_47_code
def yX10_writeOut : MethodName := ⟨RX10, "writeOut", "(I)V"⟩
abbrev cX10_doesShared : ByteArray := prog_12_method_48_code
def yX10_doesShared : MethodName := ⟨RX10, "doesShared", "(I)Z"⟩
abbrev cX10_changes : ByteArray := prog_12_method_49_code
def yX10_changes : MethodName := ⟨RX10, "changes", "(III)V"⟩
abbrev cX10_hasStep : ByteArray := prog_12_method_50_code
def yX10_hasStep : MethodName := ⟨RX10, "hasStep", "(I)Z"⟩
abbrev cX10_worksShared : ByteArray := prog_12_method_51_code
def yX10_worksShared : MethodName := ⟨RX10, "worksShared", "(I)I"⟩
abbrev cX10_works : ByteArray := prog_12_method_52_code
def yX10_works : MethodName := ⟨RX10, "works", "(II)I"⟩
abbrev cX10_work : ByteArray := prog_12_method_53_code
def yX10_work : MethodName := ⟨RX10, "work", "(III)I"⟩
abbrev cX10_steps : ByteArray := prog_12_method_54_code
def yX10_steps : MethodName := ⟨RX10, "steps", "(II)I"⟩
abbrev cX10_kind2 : ByteArray := prog_12_method_55_code
def yX10_kind2 : MethodName := ⟨RX10, "kind2", "(II)I"⟩
abbrev cX10_unknown : ByteArray := prog_12_method_56_code
def yX10_unknown : MethodName := ⟨RX10, "unknown", "()I"⟩
abbrev cX10_realKind : ByteArray := prog_12_method_57_code
def yX10_realKind : MethodName := ⟨RX10, "realKind", "(I)I"⟩
abbrev cX10_kindOfSign : ByteArray := prog_12_method_58_code
def yX10_kindOfSign : MethodName := ⟨RX10, "kindOfSign", "(I)I"⟩
abbrev cX10_kindOfName : ByteArray := prog_12_method_59_code
def yX10_kindOfName : MethodName := ⟨RX10, "kindOfName", "(I)I"⟩
abbrev cX10_meet : ByteArray := prog_12_method_60_code
def yX10_meet : MethodName := ⟨RX10, "meet", "(II)V"⟩
abbrev cX10_areSound : ByteArray := prog_12_method_61_code
def yX10_areSound : MethodName := ⟨RX10, "areSound", "()Z"⟩
abbrev cX10_kindOf : ByteArray := prog_12_method_62_code
def yX10_kindOf : MethodName := ⟨RX10, "kindOf", "(I)I"⟩
abbrev cX10_write : ByteArray := prog_12_method_63_code
def yX10_write : MethodName := ⟨RX10, "write", "(I)V"⟩
abbrev cX10_writeKind : ByteArray := prog_12_method_64_code
def yX10_writeKind : MethodName := ⟨RX10, "writeKind", "(I)I"⟩
abbrev cX10_writeTerm : ByteArray := prog_12_method_65_code
def yX10_writeTerm : MethodName := ⟨RX10, "writeTerm", "(I)V"⟩
abbrev cX10_letterOfSign : ByteArray := prog_12_method_66_code
def yX10_letterOfSign : MethodName := ⟨RX10, "letterOfSign", "(I)I"⟩
abbrev cX10_pushIn : ByteArray := prog_12_method_67_code
def yX10_pushIn : MethodName := ⟨RX10, "pushIn", "(IZ)V"⟩
abbrev cX10_writePut : ByteArray := prog_12_method_68_code
def yX10_writePut : MethodName := ⟨RX10, "writePut", "(I)V"⟩
abbrev cX10_told : ByteArray := prog_12_method_69_code
def yX10_told : MethodName := ⟨RX10, "told", "(I)I"⟩
abbrev cX10_freeNames : ByteArray := prog_12_method_70_code
def yX10_freeNames : MethodName := ⟨RX10, "freeNames", "()I"⟩
abbrev cX10_howMany : ByteArray := prog_12_method_71_code
def yX10_howMany : MethodName := ⟨RX10, "howMany", "(II)I"⟩
abbrev cX10_deepest : ByteArray := prog_12_method_72_code
def yX10_deepest : MethodName := ⟨RX10, "deepest", "()I"⟩
abbrev cX10_of : ByteArray := prog_12_method_73_code
def yX10_of : MethodName := ⟨RX10, "of", "(II)I"⟩
abbrev cX10_sign : ByteArray := prog_12_method_74_code
def yX10_sign : MethodName := ⟨RX10, "sign", "(II)I"⟩
abbrev cX10_kind : ByteArray := prog_12_method_75_code
def yX10_kind : MethodName := ⟨RX10, "kind", "(II)I"⟩
abbrev cX10_same : ByteArray := prog_12_method_76_code
def yX10_same : MethodName := ⟨RX10, "same", "(II)I"⟩
abbrev cX10_sameKind : ByteArray := prog_12_method_77_code
def yX10_sameKind : MethodName := ⟨RX10, "sameKind", "(II)I"⟩
abbrev cX10_keep : ByteArray := prog_12_method_78_code
def yX10_keep : MethodName := ⟨RX10, "keep", "(I)I"⟩
abbrev cX10_goBack : ByteArray := prog_12_method_79_code
def yX10_goBack : MethodName := ⟨RX10, "goBack", "(I)I"⟩
abbrev acls : List vw_C := [(RX0, TX0, 3), (RX1, TX1, 3), (RX2, TX2, 5), (RX3, TX3, 2), (RX4, TX4, 3), (RX5, TX5, 10), (RX6, TX6, 2), (RX7, TX7, 4), (RX8, TX8, 6), (RX9, TX9, 13), (RX10, TX10, 37)]
def aTy (ci : Nat) : Nat → FieldType := match ci with
  | 0 => tyX0
  | 1 => tyX1
  | 2 => tyX2
  | 3 => tyX3
  | 4 => tyX4
  | 5 => tyX5
  | 6 => tyX6
  | 7 => tyX7
  | 8 => tyX8
  | 9 => tyX9
  | _ => tyX10
/-- kinds of fields: 0 int, 1 boolean, 2 a reference -/
def fK : List (List Nat) := [[2, 2, 2], [2, 2, 0], [2, 2, 0, 0, 0], [2, 0], [2, 2, 2], [2, 2, 2, 2, 2, 2, 2, 2, 2, 0], [2, 2], [2, 2, 2, 2], [2, 2, 2, 2, 2, 2], [2, 2, 2, 2, 2, 2, 2, 2, 2, 2, 2, 2, 0], [2, 0, 2, 2, 0, 0, 2, 0, 2, 0, 2, 0, 2, 2, 0, 0, 0, 2, 1, 1, 2, 2, 2, 0, 2, 2, 2, 2, 2, 0, 2, 2, 2, 2, 0, 2, 2]]
abbrev aMe : Type := Nat × MethodName × ByteArray × Nat × Option FieldType × Nat × Nat × Bool
/-- class, name, bytes, locals, what it returns, level, how many arguments (without the receiver), static -/
def mtab : List aMe := [(0, yX0_init, cX0_init, 1, none, 4, 0, false),
  (0, yX0_run, cX0_run, 6, (some .int), 5, 3, false),
  (0, yX0_result, cX0_result, 1, (some (.object "BinderPress$Row")), 0, 0, false),
  (0, yX0_isTooBig, cX0_isTooBig, 1, (some .boolean), 1, 0, false),
  (0, yX0_hasStep, cX0_hasStep, 1, (some .boolean), 2, 0, false),
  (0, yX0_findStep, cX0_findStep, 4, (some .int), 1, 0, false),
  (0, yX0_takeStep, cX0_takeStep, 7, none, 4, 1, false),
  (0, yX0_endOf, cX0_endOf, 4, (some .int), 1, 1, false),
  (1, yX1_init, cX1_init, 1, none, 3, 0, false),
  (1, yX1_count, cX1_count, 1, (some .int), 0, 0, false),
  (1, yX1_forget, cX1_forget, 1, none, 0, 0, false),
  (1, yX1_remember, cX1_remember, 3, none, 4, 2, false),
  (1, yX1_latestShelf, cX1_latestShelf, 1, (some .int), 0, 0, false),
  (1, yX1_giveBack, cX1_giveBack, 2, none, 4, 1, false),
  (1, yX1_loseOldest, cX1_loseOldest, 3, none, 0, 0, false),
  (2, yX2_init, cX2_init, 1, none, 2, 0, false),
  (2, yX2_place, cX2_place, 1, (some .int), 0, 0, false),
  (2, yX2_read, cX2_read, 5, (some .int), 5, 2, false),
  (2, yX2_readLetter, cX2_readLetter, 4, (some .int), 4, 2, false),
  (2, yX2_readBoundName, cX2_readBoundName, 3, (some .int), 1, 2, false),
  (2, yX2_readDot, cX2_readDot, 3, (some .int), 2, 2, false),
  (2, yX2_readOpening, cX2_readOpening, 2, (some .int), 3, 1, false),
  (2, yX2_readClosing, cX2_readClosing, 3, (some .int), 2, 1, false),
  (2, yX2_addCell, cX2_addCell, 3, (some .int), 3, 2, false),
  (2, yX2_joins, cX2_joins, 5, (some .boolean), 2, 2, false),
  (2, yX2_hasSome, cX2_hasSome, 2, (some .boolean), 1, 1, false),
  (2, yX2_open, cX2_open, 3, none, 1, 2, false),
  (3, yX3_init, cX3_init, 2, none, 1, 1, false),
  (3, yX3_count, cX3_count, 1, (some .int), 0, 0, false),
  (3, yX3_clear, cX3_clear, 1, none, 0, 0, false),
  (3, yX3_at, cX3_at, 2, (some .int), 0, 1, false),
  (3, yX3_atOr, cX3_atOr, 3, (some .int), 0, 2, false),
  (3, yX3_last, cX3_last, 1, (some .int), 0, 0, false),
  (3, yX3_set, cX3_set, 3, none, 0, 2, false),
  (3, yX3_add, cX3_add, 2, none, 0, 1, false),
  (3, yX3_pop, cX3_pop, 2, (some .int), 1, 0, false),
  (3, yX3_insert, cX3_insert, 4, none, 0, 2, false),
  (3, yX3_fill, cX3_fill, 4, none, 1, 2, false),
  (3, yX3_addAll, cX3_addAll, 2, none, 2, 1, false),
  (3, yX3_addPart, cX3_addPart, 6, none, 1, 3, false),
  (3, yX3_become, cX3_become, 2, none, 3, 1, false),
  (3, yX3_isLike, cX3_isLike, 3, (some .boolean), 1, 1, false),
  (3, yX3_howOften, cX3_howOften, 4, (some .int), 0, 1, false),
  (4, yX4_init, cX4_init, 1, none, 3, 0, false),
  (4, yX4_written, cX4_written, 1, (some (.object "BinderPress$Row")), 0, 0, false),
  (4, yX4_write, cX4_write, 4, none, 3, 1, false),
  (4, yX4_writeAt, cX4_writeAt, 5, none, 2, 2, false),
  (4, yX4_openPart, cX4_openPart, 3, none, 1, 2, false),
  (5, yX5_init, cX5_init, 1, none, 3, 0, false),
  (5, yX5_written, cX5_written, 1, (some (.object "BinderPress$Row")), 0, 0, false),
  (5, yX5_find, cX5_find, 3, (some .boolean), 5, 1, false),
  (5, yX5_write, cX5_write, 4, (some .boolean), 6, 1, false),
  (5, yX5_writeAt, cX5_writeAt, 3, none, 2, 1, false),
  (5, yX5_letterOf, cX5_letterOf, 2, (some .int), 1, 1, false),
  (5, yX5_giveNamesKinds, cX5_giveNamesKinds, 4, none, 4, 1, false),
  (5, yX5_nameKind, cX5_nameKind, 5, (some .int), 3, 2, false),
  (5, yX5_giveKind, cX5_giveKind, 5, none, 4, 2, false),
  (5, yX5_signKind, cX5_signKind, 6, (some .int), 3, 1, false),
  (5, yX5_unknown, cX5_unknown, 1, (some .int), 2, 0, false),
  (5, yX5_arrow, cX5_arrow, 3, (some .int), 1, 2, false),
  (5, yX5_isUnknown, cX5_isUnknown, 2, (some .boolean), 1, 1, false),
  (5, yX5_meant, cX5_meant, 4, (some .int), 1, 1, false),
  (5, yX5_makeOne, cX5_makeOne, 6, none, 2, 2, false),
  (5, yX5_hasNoneWithinItself, cX5_hasNoneWithinItself, 2, (some .boolean), 3, 0, false),
  (5, yX5_isSoundFrom, cX5_isSoundFrom, 4, (some .boolean), 2, 1, false),
  (5, yX5_enters, cX5_enters, 3, (some .boolean), 1, 2, false),
  (6, yX6_init, cX6_init, 2, none, 2, 1, false),
  (6, yX6_measure, cX6_measure, 4, none, 2, 1, false),
  (6, yX6_end, cX6_end, 2, (some .int), 1, 1, false),
  (6, yX6_freeNames, cX6_freeNames, 3, (some .int), 3, 1, false),
  (6, yX6_freeAt, cX6_freeAt, 3, (some .int), 2, 2, false),
  (6, yX6_longestRow, cX6_longestRow, 4, (some .int), 3, 1, false),
  (7, yX7_init, cX7_init, 1, none, 3, 0, false),
  (7, yX7_press, cX7_press, 4, none, 5, 2, false),
  (7, yX7_takeFrom, cX7_takeFrom, 3, none, 4, 2, false),
  (7, yX7_takeBinder, cX7_takeBinder, 3, none, 4, 2, false),
  (7, yX7_takePart, cX7_takePart, 6, none, 3, 3, false),
  (7, yX7_takeAt, cX7_takeAt, 8, none, 2, 3, false),
  (7, yX7_markHolders, cX7_markHolders, 5, none, 2, 2, false),
  (8, yX8_init, cX8_init, 1, none, 3, 0, false),
  (8, yX8_load, cX8_load, 3, none, 3, 1, false),
  (8, yX8_takeStep, cX8_takeStep, 8, none, 3, 2, false),
  (8, yX8_add, cX8_add, 4, (some .int), 1, 3, false),
  (8, yX8_replace, cX8_replace, 4, none, 1, 3, false),
  (8, yX8_writeOut, cX8_writeOut, 5, none, 2, 1, false),
  (8, yX8_follow, cX8_follow, 4, (some .int), 1, 1, false),
  (9, yX9_init, cX9_init, 1, none, 5, 0, false),
  (9, yX9_feed, cX9_feed, 2, (some .int), 1, 1, false),
  (9, yX9_term, cX9_term, 3, (some .int), 6, 1, false),
  (9, yX9_fault, cX9_fault, 1, (some .int), 0, 0, false),
  (9, yX9_compile, cX9_compile, 2, (some .int), 6, 1, false),
  (9, yX9_takeOut, cX9_takeOut, 3, (some .int), 6, 2, false),
  (9, yX9_put, cX9_put, 4, (some .int), 6, 3, false),
  (9, yX9_putIn, cX9_putIn, 4, (some .int), 6, 3, false),
  (9, yX9_work, cX9_work, 6, (some .int), 6, 3, false),
  (9, yX9_drop, cX9_drop, 3, (some .int), 6, 1, false),
  (9, yX9_drift, cX9_drift, 4, (some .int), 6, 3, false),
  (9, yX9_undo, cX9_undo, 2, (some .int), 5, 0, false),
  (9, yX9_told, cX9_told, 2, (some .int), 3, 1, false),
  (9, yX9_of, cX9_of, 4, (some .int), 7, 2, false),
  (9, yX9_sign, cX9_sign, 3, (some .int), 4, 2, false),
  (9, yX9_kind, cX9_kind, 3, (some .int), 7, 2, false),
  (9, yX9_steps, cX9_steps, 4, (some .int), 6, 2, false),
  (9, yX9_same, cX9_same, 3, (some .int), 2, 2, false),
  (9, yX9_sameKind, cX9_sameKind, 3, (some .int), 7, 2, false),
  (9, yX9_keep, cX9_keep, 3, (some .int), 4, 1, false),
  (9, yX9_goBack, cX9_goBack, 3, (some .int), 4, 1, false),
  (9, yX9_change, cX9_change, 2, (some .int), 5, 1, false),
  (9, yX9_makePutIn, cX9_makePutIn, 5, none, 3, 3, false),
  (9, yX9_makeByLots, cX9_makeByLots, 7, none, 2, 2, false),
  (9, yX9_fullShelves, cX9_fullShelves, 3, (some .int), 2, 0, false),
  (9, yX9_isEmpty, cX9_isEmpty, 2, (some .boolean), 1, 1, false),
  (9, yX9_hasBinders, cX9_hasBinders, 2, (some .boolean), 2, 1, false),
  (9, yX9_isShelf, cX9_isShelf, 1, (some .boolean), 0, 1, true),
  (9, yX9_isImage, cX9_isImage, 1, (some .boolean), 0, 1, true),
  (9, yX9_isHow, cX9_isHow, 1, (some .boolean), 0, 1, true),
  (9, yX9_isName, cX9_isName, 1, (some .boolean), 0, 1, true),
  (9, yX9_isBinder, cX9_isBinder, 1, (some .boolean), 0, 1, true),
  (9, yX9_nameOf, cX9_nameOf, 1, (some .int), 0, 1, true),
  (9, yX9_wants, cX9_wants, 1, (some .int), 0, 1, true),
  (9, yX9_countOrNone, cX9_countOrNone, 1, (some .int), 1, 1, true),
  (9, yX9_binders, cX9_binders, 3, (some .int), 1, 1, true),
  (9, yX9_nextLot, cX9_nextLot, 2, (some .long), 0, 1, true),
  (9, yX9_signOfLot, cX9_signOfLot, 2, (some .int), 1, 1, true),
  (9, yX9_signAt, cX9_signAt, 1, (some .int), 0, 1, true),
  (9, yX9_newRows, cX9_newRows, 3, (some (.array (.object "BinderPress$Row"))), 2, 1, true),
  (10, yX10_init, cX10_init, 1, none, 1, 0, false),
  (10, yX10_in, cX10_in, 6, (some .boolean), 0, 3, true),
  (10, yX10_isName, cX10_isName, 1, (some .boolean), 1, 1, true),
  (10, yX10_isBinder, cX10_isBinder, 1, (some .boolean), 0, 1, true),
  (10, yX10_isShelf, cX10_isShelf, 1, (some .boolean), 1, 1, true),
  (10, yX10_sizeOf, cX10_sizeOf, 2, (some .int), 0, 1, false),
  (10, yX10_push, cX10_push, 2, none, 0, 1, false),
  (10, yX10_pop, cX10_pop, 1, (some .int), 0, 0, false),
  (10, yX10_make, cX10_make, 2, none, 0, 1, false),
  (10, yX10_copyRow, cX10_copyRow, 4, none, 0, 2, false),
  (10, yX10_take, cX10_take, 3, none, 1, 1, false),
  (10, yX10_keepPast, cX10_keepPast, 2, none, 1, 0, false),
  (10, yX10_lay, cX10_lay, 3, (some .int), 2, 1, false),
  (10, yX10_takeMade, cX10_takeMade, 2, none, 0, 0, false),
  (10, yX10_feed, cX10_feed, 2, (some .int), 1, 1, false),
  (10, yX10_open, cX10_open, 2, none, 0, 1, false),
  (10, yX10_hasTerm, cX10_hasTerm, 1, (some .boolean), 0, 0, false),
  (10, yX10_putAhead, cX10_putAhead, 2, none, 1, 0, false),
  (10, yX10_signOf, cX10_signOf, 1, (some .int), 0, 1, true),
  (10, yX10_ends, cX10_ends, 3, (some .boolean), 1, 1, false),
  (10, yX10_reads, cX10_reads, 3, (some .int), 2, 1, false),
  (10, yX10_term, cX10_term, 4, (some .int), 3, 1, false),
  (10, yX10_fault, cX10_fault, 1, (some .int), 0, 0, false),
  (10, yX10_behind, cX10_behind, 4, (some .int), 1, 1, false),
  (10, yX10_isFree, cX10_isFree, 5, (some .boolean), 2, 2, false),
  (10, yX10_copyTerm, cX10_copyTerm, 4, none, 2, 1, false),
  (10, yX10_takesOut, cX10_takesOut, 9, none, 3, 2, false),
  (10, yX10_lastBinder, cX10_lastBinder, 2, (some .int), 1, 0, false),
  (10, yX10_compiles, cX10_compiles, 4, none, 4, 0, false),
  (10, yX10_compile, cX10_compile, 2, (some .int), 5, 1, false),
  (10, yX10_takeOut, cX10_takeOut, 3, (some .int), 5, 2, false),
  (10, yX10_copyShelf, cX10_copyShelf, 3, none, 1, 1, false),
  (10, yX10_put, cX10_put, 4, (some .int), 3, 3, false),
  (10, yX10_hasBinders, cX10_hasBinders, 4, (some .boolean), 1, 1, false),
  (10, yX10_isPlain, cX10_isPlain, 2, (some .boolean), 2, 1, false),
  (10, yX10_putIn, cX10_putIn, 5, (some .int), 3, 3, false),
  (10, yX10_drop, cX10_drop, 3, (some .int), 3, 1, false),
  (10, yX10_drift, cX10_drift, 8, (some .int), 3, 3, false),
  (10, yX10_undo, cX10_undo, 1, (some .int), 1, 0, false),
  (10, yX10_wants, cX10_wants, 1, (some .int), 1, 1, true),
  (10, yX10_finds, cX10_finds, 8, (some .boolean), 2, 0, false),
  (10, yX10_does, cX10_does, 4, none, 3, 0, false),
  (10, yX10_worksPlainly, cX10_worksPlainly, 3, (some .int), 4, 1, false),
  (10, yX10_thing, cX10_thing, 4, (some .int), 0, 3, false),
  (10, yX10_real, cX10_real, 3, (some .int), 0, 1, false),
  (10, yX10_layThings, cX10_layThings, 4, (some .int), 1, 0, false),
  (10, yX10_writeOut, cX10_writeOut, 3, none, 1, 1, false),
  (10, yX10_doesShared, cX10_doesShared, 6, (some .boolean), 2, 1, false),
  (10, yX10_changes, cX10_changes, 7, none, 1, 3, false),
  (10, yX10_hasStep, cX10_hasStep, 5, (some .boolean), 2, 1, false),
  (10, yX10_worksShared, cX10_worksShared, 4, (some .int), 3, 1, false),
  (10, yX10_works, cX10_works, 3, (some .int), 5, 2, false),
  (10, yX10_work, cX10_work, 5, (some .int), 6, 3, false),
  (10, yX10_steps, cX10_steps, 4, (some .int), 6, 2, false),
  (10, yX10_kind2, cX10_kind2, 3, (some .int), 0, 2, false),
  (10, yX10_unknown, cX10_unknown, 1, (some .int), 1, 0, false),
  (10, yX10_realKind, cX10_realKind, 3, (some .int), 0, 1, false),
  (10, yX10_kindOfSign, cX10_kindOfSign, 7, (some .int), 2, 1, false),
  (10, yX10_kindOfName, cX10_kindOfName, 4, (some .int), 2, 1, false),
  (10, yX10_meet, cX10_meet, 7, none, 1, 2, false),
  (10, yX10_areSound, cX10_areSound, 5, (some .boolean), 1, 0, false),
  (10, yX10_kindOf, cX10_kindOf, 6, (some .int), 3, 1, false),
  (10, yX10_write, cX10_write, 2, none, 0, 1, false),
  (10, yX10_writeKind, cX10_writeKind, 6, (some .int), 4, 1, false),
  (10, yX10_writeTerm, cX10_writeTerm, 3, none, 3, 1, false),
  (10, yX10_letterOfSign, cX10_letterOfSign, 1, (some .int), 0, 1, true),
  (10, yX10_pushIn, cX10_pushIn, 3, none, 1, 2, false),
  (10, yX10_writePut, cX10_writePut, 3, none, 2, 1, false),
  (10, yX10_told, cX10_told, 4, (some .int), 1, 1, false),
  (10, yX10_freeNames, cX10_freeNames, 3, (some .int), 3, 0, false),
  (10, yX10_howMany, cX10_howMany, 5, (some .int), 1, 2, false),
  (10, yX10_deepest, cX10_deepest, 4, (some .int), 1, 0, false),
  (10, yX10_of, cX10_of, 3, (some .int), 5, 2, false),
  (10, yX10_sign, cX10_sign, 3, (some .int), 4, 2, false),
  (10, yX10_kind, cX10_kind, 4, (some .int), 5, 2, false),
  (10, yX10_same, cX10_same, 5, (some .int), 2, 2, false),
  (10, yX10_sameKind, cX10_sameKind, 7, (some .int), 5, 2, false),
  (10, yX10_keep, cX10_keep, 2, (some .int), 1, 1, false),
  (10, yX10_goBack, cX10_goBack, 2, (some .int), 1, 1, false)]
def tF : List ((Nat × Nat) × (Nat × Nat)) := [((0, 14), (0, 0)), ((0, 20), (0, 1)), ((0, 26), (0, 2)), ((1, 13), (1, 0)), ((1, 19), (1, 1)), ((1, 23), (1, 2)), ((2, 14), (2, 0)), ((2, 20), (2, 1)), ((2, 23), (2, 4)), ((2, 30), (2, 2)), ((2, 33), (2, 3)), ((3, 13), (3, 0)), ((3, 19), (3, 1)), ((4, 14), (4, 0)), ((4, 23), (4, 1)), ((4, 27), (4, 2)), ((5, 16), (5, 0)), ((5, 20), (5, 1)), ((5, 23), (5, 2)), ((5, 26), (5, 3)), ((5, 29), (5, 4)), ((5, 32), (5, 5)), ((5, 35), (5, 6)), ((5, 38), (5, 7)), ((5, 44), (5, 8)), ((5, 78), (5, 9)), ((6, 14), (6, 0)), ((6, 20), (6, 1)), ((7, 14), (7, 0)), ((7, 23), (7, 1)), ((7, 27), (7, 2)), ((7, 30), (7, 3)), ((8, 16), (8, 0)), ((8, 20), (8, 1)), ((8, 23), (8, 2)), ((8, 26), (8, 3)), ((8, 29), (8, 4)), ((8, 35), (8, 5)), ((9, 14), (9, 0)), ((9, 22), (9, 1)), ((9, 26), (9, 2)), ((9, 29), (9, 3)), ((9, 36), (9, 4)), ((9, 40), (9, 5)), ((9, 46), (9, 6)), ((9, 53), (9, 7)), ((9, 60), (9, 8)), ((9, 67), (9, 9)), ((9, 74), (9, 10)), ((9, 81), (9, 11)), ((9, 85), (9, 12)), ((10, 7), (10, 0)), ((10, 13), (10, 2)), ((10, 17), (10, 3)), ((10, 20), (10, 5)), ((10, 24), (10, 6)), ((10, 27), (10, 8)), ((10, 30), (10, 10)), ((10, 33), (10, 12)), ((10, 36), (10, 13)), ((10, 39), (10, 17)), ((10, 42), (10, 20)), ((10, 45), (10, 21)), ((10, 48), (10, 22)), ((10, 51), (10, 24)), ((10, 54), (10, 25)), ((10, 57), (10, 26)), ((10, 60), (10, 27)), ((10, 63), (10, 28)), ((10, 66), (10, 30)), ((10, 69), (10, 31)), ((10, 72), (10, 32)), ((10, 75), (10, 33)), ((10, 78), (10, 35)), ((10, 81), (10, 36)), ((10, 94), (10, 11)), ((10, 97), (10, 9)), ((10, 104), (10, 7)), ((10, 107), (10, 1)), ((10, 121), (10, 4)), ((10, 124), (10, 14)), ((10, 131), (10, 15)), ((10, 226), (10, 16)), ((10, 229), (10, 18)), ((10, 236), (10, 19)), ((10, 242), (10, 23)), ((10, 280), (10, 29)), ((10, 304), (10, 34))]
def tC : List ((Nat × Nat) × Nat) := [((0, 9), 3), ((0, 23), 8), ((2, 9), 3), ((4, 9), 6), ((4, 20), 3), ((5, 9), 3), ((5, 41), 6), ((6, 9), 3), ((7, 9), 6), ((7, 20), 3), ((8, 9), 3), ((8, 32), 6), ((9, 9), 3), ((9, 33), 1), ((9, 43), 2), ((9, 50), 6), ((9, 57), 7), ((9, 64), 0), ((9, 71), 4), ((9, 78), 5)]
def tV : List ((Nat × Nat) × Nat) := [((0, 30), 40), ((0, 34), 80), ((0, 37), 5), ((0, 41), 3), ((0, 45), 81), ((0, 49), 6), ((0, 51), 28), ((0, 54), 30), ((0, 61), 7), ((0, 64), 29), ((0, 67), 39), ((0, 71), 34), ((1, 27), 14), ((1, 30), 40), ((2, 27), 29), ((2, 36), 26), ((2, 40), 28), ((2, 44), 30), ((2, 48), 18), ((2, 52), 25), ((2, 56), 19), ((2, 59), 20), ((2, 62), 22), ((2, 66), 21), ((2, 69), 23), ((2, 79), 33), ((2, 82), 24), ((2, 86), 35), ((2, 89), 34), ((2, 92), 32), ((2, 95), 36), ((3, 23), 32), ((3, 27), 29), ((3, 30), 34), ((3, 34), 39), ((3, 47), 38), ((3, 51), 30), ((4, 30), 67), ((4, 34), 29), ((4, 37), 34), ((4, 40), 28), ((4, 44), 35), ((4, 47), 46), ((4, 51), 30), ((4, 55), 68), ((4, 62), 47), ((5, 48), 67), ((5, 52), 29), ((5, 55), 54), ((5, 58), 28), ((5, 62), 30), ((5, 66), 56), ((5, 70), 63), ((5, 74), 50), ((5, 82), 37), ((5, 85), 34), ((5, 88), 35), ((5, 91), 61), ((5, 94), 52), ((5, 97), 60), ((5, 101), 53), ((5, 104), 33), ((5, 110), 58), ((5, 116), 55), ((5, 120), 68), ((5, 123), 59), ((5, 127), 62), ((5, 133), 57), ((5, 136), 64), ((5, 139), 32), ((5, 142), 65), ((6, 23), 28), ((6, 27), 37), ((6, 31), 30), ((6, 35), 68), ((6, 38), 33), ((6, 45), 67), ((6, 49), 70), ((7, 33), 40), ((7, 37), 28), ((7, 41), 30), ((7, 49), 75), ((7, 53), 29), ((7, 56), 67), ((7, 59), 76), ((7, 63), 39), ((7, 69), 68), ((7, 72), 78), ((7, 75), 34), ((7, 78), 35), ((7, 81), 77), ((7, 84), 37), ((7, 88), 33), ((8, 39), 67), ((8, 43), 29), ((8, 46), 28), ((8, 50), 30), ((8, 54), 68), ((8, 57), 82), ((8, 61), 34), ((8, 66), 83), ((8, 70), 33), ((8, 74), 84), ((8, 77), 35), ((8, 80), 85), ((9, 90), 28), ((9, 95), 34), ((9, 103), 17), ((9, 107), 29), ((9, 110), 16), ((9, 113), 107), ((9, 117), 111), ((9, 121), 73), ((9, 128), 74), ((9, 132), 38), ((9, 136), 112), ((9, 139), 108), ((9, 146), 1), ((9, 150), 2), ((9, 154), 40), ((9, 158), 109), ((9, 162), 9), ((9, 163), 12), ((9, 166), 13), ((9, 169), 110), ((9, 172), 69), ((9, 179), 45), ((9, 182), 44), ((9, 185), 71), ((9, 188), 50), ((9, 192), 51), ((9, 194), 49), ((9, 201), 42), ((9, 204), 31), ((9, 208), 3), ((9, 212), 4), ((9, 215), 41), ((9, 221), 10), ((9, 224), 11), ((9, 228), 30), ((9, 241), 36), ((10, 100), 131), ((10, 110), 135), ((10, 115), 137), ((10, 127), 142), ((10, 138), 141), ((10, 142), 145), ((10, 149), 143), ((10, 156), 146), ((10, 159), 138), ((10, 165), 149), ((10, 168), 134), ((10, 172), 132), ((10, 175), 133), ((10, 179), 151), ((10, 182), 150), ((10, 186), 153), ((10, 189), 152), ((10, 192), 139), ((10, 196), 136), ((10, 199), 154), ((10, 202), 157), ((10, 205), 159), ((10, 208), 160), ((10, 233), 166), ((10, 239), 167), ((10, 245), 169), ((10, 249), 170), ((10, 252), 174), ((10, 256), 171), ((10, 259), 175), ((10, 262), 173), ((10, 265), 172), ((10, 268), 168), ((10, 271), 176), ((10, 276), 177), ((10, 283), 180), ((10, 286), 181), ((10, 289), 182), ((10, 292), 185), ((10, 295), 184), ((10, 298), 183), ((10, 301), 186), ((10, 307), 187), ((10, 310), 188), ((10, 313), 193), ((10, 319), 192), ((10, 325), 195), ((10, 328), 196), ((10, 331), 190), ((10, 334), 197), ((10, 337), 189)]
def tS : List ((Nat × Nat) × Nat) := [((9, 18), 125), ((9, 98), 113), ((9, 125), 116), ((9, 143), 115), ((9, 176), 121), ((9, 195), 120), ((9, 198), 124), ((9, 218), 114), ((9, 231), 122), ((9, 235), 123), ((9, 244), 117), ((10, 88), 127), ((10, 134), 128), ((10, 146), 144), ((10, 152), 130), ((10, 162), 129), ((10, 223), 165), ((10, 316), 191)]
def tSN : List ((Nat × Nat) × Nat) := [((0, 58), 119), ((1, 9), 125), ((2, 72), 116), ((2, 76), 119), ((4, 58), 117), ((4, 66), 118), ((5, 107), 117), ((5, 113), 116), ((5, 130), 119), ((6, 41), 117), ((6, 53), 118), ((6, 56), 116), ((7, 45), 117), ((7, 66), 118), ((8, 63), 119)]
def tI : List ((Nat × Nat) × Nat) := [((0, 11), 27), ((2, 11), 27), ((4, 11), 66), ((4, 22), 27), ((5, 13), 27), ((5, 43), 66), ((6, 11), 27), ((7, 11), 66), ((7, 22), 27), ((8, 13), 27), ((8, 34), 66), ((9, 11), 27), ((9, 52), 66)]
def tIN : List ((Nat × Nat) × Nat) := [((0, 25), 79), ((9, 35), 8), ((9, 45), 15), ((9, 59), 72), ((9, 66), 0), ((9, 73), 43), ((9, 80), 48)]
def tPr : List ((Nat × Nat) × Nat) := [((3, 7), 1), ((3, 38), 2), ((3, 41), 3), ((6, 59), 1), ((9, 257), 1)]
def tO : List ((Nat × Nat) × Nat) := [((0, 3), 0), ((1, 3), 0), ((2, 3), 0), ((3, 1), 0), ((4, 3), 0), ((5, 3), 0), ((6, 3), 0), ((7, 3), 0), ((8, 3), 0), ((9, 3), 0), ((10, 1), 0)]
def tK : List ((Nat × Nat) × Int) := [((9, 89), (-1000000002)), ((9, 94), (-1000000004)), ((9, 102), (-1000000001)), ((9, 120), (-1000000003)), ((9, 157), (999999)), ((10, 114), (-1000000004)), ((10, 120), (-1000000002)), ((10, 155), (-1000000001)), ((10, 195), (-1000000003))]
def tKL : List ((Nat × Nat) × Int) := [((9, 239), (2)), ((9, 247), (16807)), ((9, 249), (2147483647)), ((9, 251), (5)), ((10, 84), (97)), ((10, 86), (122)), ((10, 92), (3)), ((10, 118), (255)), ((10, 211), (40)), ((10, 213), (999999)), ((10, 215), (16807)), ((10, 217), (2147483647)), ((10, 219), (5)), ((10, 221), (2)), ((10, 274), (200)), ((10, 323), (11))]
def lk {α : Type} (t : List ((Nat × Nat) × α)) (c i : Nat) : Option α := (t.find? (fun q => q.1.1 == c && q.1.2 == i)).map (fun q => q.2)
abbrev kSign : Nat := 124
