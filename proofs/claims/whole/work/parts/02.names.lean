
def RX0 : String := "FrequencySketches$Best"
def TX0 : u_T := fun k => match k with
  | 0 => ("FrequencySketches$Best", "plain", "LFrequencySketches$Grid;", true)
  | 1 => ("FrequencySketches$Best", "careful", "LFrequencySketches$Grid;", true)
  | 2 => ("FrequencySketches$Best", "misra", "LFrequencySketches$Misra;", true)
  | _ => ("FrequencySketches$Best", "saving", "LFrequencySketches$Saving;", true)
def tyX0 : Nat → FieldType := fun k => match k with
  | 0 => .object "FrequencySketches$Grid"
  | 1 => .object "FrequencySketches$Grid"
  | 2 => .object "FrequencySketches$Misra"
  | _ => .object "FrequencySketches$Saving"
theorem nmX0 : ∀ a, a < 4 → ∀ b, b < 4 → a ≠ b → (TX0 a).2.1 ≠ (TX0 b).2.1 := by decide +kernel
theorem tyX0_ok : ∀ k, k < 4 → parseFieldDescriptor (TX0 k).2.2.1 = some (tyX0 k) := by decide +kernel
abbrev cX0_init : ByteArray := prog_2_method_1_code
def yX0_init : MethodName := ⟨RX0, "<init>", "(LFrequencySketches$Grid;LFrequencySketches$Grid;LFrequencySketches$Misra;LFrequencySketches$Saving;)V"⟩
abbrev cX0_guess : ByteArray := prog_2_method_2_code
def yX0_guess : MethodName := ⟨RX0, "guess", "(I)J"⟩
abbrev cX0_low : ByteArray := prog_2_method_3_code
def yX0_low : MethodName := ⟨RX0, "low", "(I)J"⟩
abbrev cX0_high : ByteArray := prog_2_method_4_code
def yX0_high : MethodName := ⟨RX0, "high", "(I)J"⟩
def RX1 : String := "FrequencySketches$Counters"
def TX1 : u_T := fun k => match k with
  | 0 => ("FrequencySketches$Counters", "limit", "I", true)
  | 1 => ("FrequencySketches$Counters", "keys", "[I", true)
  | 2 => ("FrequencySketches$Counters", "numbers", "[J", true)
  | 3 => ("FrequencySketches$Counters", "errors", "[J", true)
  | 4 => ("FrequencySketches$Counters", "known", "LFrequencySketches$KeySet;", true)
  | _ => ("FrequencySketches$Counters", "used", "I", false)
def tyX1 : Nat → FieldType := fun k => match k with
  | 0 => .int
  | 1 => .array .int
  | 2 => .array .long
  | 3 => .array .long
  | 4 => .object "FrequencySketches$KeySet"
  | _ => .int
theorem nmX1 : ∀ a, a < 6 → ∀ b, b < 6 → a ≠ b → (TX1 a).2.1 ≠ (TX1 b).2.1 := by decide +kernel
theorem tyX1_ok : ∀ k, k < 6 → parseFieldDescriptor (TX1 k).2.2.1 = some (tyX1 k) := by decide +kernel
abbrev cX1_init : ByteArray := prog_3_method_1_code
def yX1_init : MethodName := ⟨RX1, "<init>", "(II)V"⟩
abbrev cX1_isFull : ByteArray := prog_3_method_2_code
def yX1_isFull : MethodName := ⟨RX1, "isFull", "()Z"⟩
abbrev cX1_find : ByteArray := prog_3_method_3_code
def yX1_find : MethodName := ⟨RX1, "find", "(I)I"⟩
abbrev cX1_tell : ByteArray := prog_3_method_4_code
def yX1_tell : MethodName := ⟨RX1, "tell", "(II)J"⟩
abbrev cX1_append : ByteArray := prog_3_method_5_code
def yX1_append : MethodName := ⟨RX1, "append", "(IJJ)V"⟩
abbrev cX1_insert : ByteArray := prog_3_method_6_code
def yX1_insert : MethodName := ⟨RX1, "insert", "(IIJJ)V"⟩
abbrev cX1_remove : ByteArray := prog_3_method_7_code
def yX1_remove : MethodName := ⟨RX1, "remove", "(I)V"⟩
abbrev cX1_shift : ByteArray := prog_3_method_8_code
def yX1_shift : MethodName := ⟨RX1, "shift", "(II)V"⟩
abbrev cX1_set : ByteArray := prog_3_method_9_code
def yX1_set : MethodName := ⟨RX1, "set", "(IIJJ)V"⟩
abbrev cX1_sortByNumberThenKey : ByteArray := prog_3_method_10_code
def yX1_sortByNumberThenKey : MethodName := ⟨RX1, "sortByNumberThenKey", "()V"⟩
abbrev cX1_isBehind : ByteArray := prog_3_method_11_code
def yX1_isBehind : MethodName := ⟨RX1, "isBehind", "(IJI)Z"⟩
abbrev cX1_makeEmpty : ByteArray := prog_3_method_12_code
def yX1_makeEmpty : MethodName := ⟨RX1, "makeEmpty", "()V"⟩
abbrev cX1_become : ByteArray := prog_3_method_13_code
def yX1_become : MethodName := ⟨RX1, "become", "(LFrequencySketches$Counters;)V"⟩
def RX2 : String := "FrequencySketches$Counts"
def TX2 : u_T := fun k => match k with
  | 0 => ("FrequencySketches$Counts", "keys", "[I", true)
  | 1 => ("FrequencySketches$Counts", "numbers", "[J", true)
  | 2 => ("FrequencySketches$Counts", "used", "I", false)
  | _ => ("FrequencySketches$Counts", "gone", "Z", false)
def tyX2 : Nat → FieldType := fun k => match k with
  | 0 => .array .int
  | 1 => .array .long
  | 2 => .int
  | _ => .boolean
theorem nmX2 : ∀ a, a < 4 → ∀ b, b < 4 → a ≠ b → (TX2 a).2.1 ≠ (TX2 b).2.1 := by decide +kernel
theorem tyX2_ok : ∀ k, k < 4 → parseFieldDescriptor (TX2 k).2.2.1 = some (tyX2 k) := by decide +kernel
abbrev cX2_init : ByteArray := prog_4_method_1_code
def yX2_init : MethodName := ⟨RX2, "<init>", "(I)V"⟩
abbrev cX2_numberOf : ByteArray := prog_4_method_2_code
def yX2_numberOf : MethodName := ⟨RX2, "numberOf", "(I)J"⟩
abbrev cX2_isAt : ByteArray := prog_4_method_3_code
def yX2_isAt : MethodName := ⟨RX2, "isAt", "(II)Z"⟩
abbrev cX2_placeOf : ByteArray := prog_4_method_4_code
def yX2_placeOf : MethodName := ⟨RX2, "placeOf", "(I)I"⟩
abbrev cX2_take : ByteArray := prog_4_method_5_code
def yX2_take : MethodName := ⟨RX2, "take", "(IJ)V"⟩
abbrev cX2_together : ByteArray := prog_4_method_6_code
def yX2_together : MethodName := ⟨RX2, "together", "()J"⟩
abbrev cX2_makeEmpty : ByteArray := prog_4_method_7_code
def yX2_makeEmpty : MethodName := ⟨RX2, "makeEmpty", "()V"⟩
abbrev cX2_become : ByteArray := prog_4_method_8_code
def yX2_become : MethodName := ⟨RX2, "become", "(LFrequencySketches$Counts;)V"⟩
abbrev cX2_putTogether : ByteArray := prog_4_method_9_code
def yX2_putTogether : MethodName := ⟨RX2, "putTogether", "(LFrequencySketches$Counts;)V"⟩
def RX3 : String := "FrequencySketches$Family"
def TX3 : u_T := fun k => match k with
  | 0 => ("FrequencySketches$Family", "prime", "I", true)
  | 1 => ("FrequencySketches$Family", "width", "I", true)
  | 2 => ("FrequencySketches$Family", "rows", "I", true)
  | 3 => ("FrequencySketches$Family", "as", "[I", true)
  | _ => ("FrequencySketches$Family", "bs", "[I", true)
def tyX3 : Nat → FieldType := fun k => match k with
  | 0 => .int
  | 1 => .int
  | 2 => .int
  | 3 => .array .int
  | _ => .array .int
theorem nmX3 : ∀ a, a < 5 → ∀ b, b < 5 → a ≠ b → (TX3 a).2.1 ≠ (TX3 b).2.1 := by decide +kernel
theorem tyX3_ok : ∀ k, k < 5 → parseFieldDescriptor (TX3 k).2.2.1 = some (tyX3 k) := by decide +kernel
abbrev cX3_init : ByteArray := prog_5_method_1_code
def yX3_init : MethodName := ⟨RX3, "<init>", "(III)V"⟩
abbrev cX3_isRow : ByteArray := prog_5_method_2_code
def yX3_isRow : MethodName := ⟨RX3, "isRow", "(I)Z"⟩
abbrev cX3_isKey : ByteArray := prog_5_method_3_code
def yX3_isKey : MethodName := ⟨RX3, "isKey", "(I)Z"⟩
abbrev cX3_isPair : ByteArray := prog_5_method_4_code
def yX3_isPair : MethodName := ⟨RX3, "isPair", "(II)Z"⟩
abbrev cX3_setPair : ByteArray := prog_5_method_5_code
def yX3_setPair : MethodName := ⟨RX3, "setPair", "(III)V"⟩
abbrev cX3_column : ByteArray := prog_5_method_6_code
def yX3_column : MethodName := ⟨RX3, "column", "(II)I"⟩
abbrev cX3_pairsThatMeet : ByteArray := prog_5_method_7_code
def yX3_pairsThatMeet : MethodName := ⟨RX3, "pairsThatMeet", "()J"⟩
def RX4 : String := "FrequencySketches$Grid"
def TX4 : u_T := fun k => match k with
  | 0 => ("FrequencySketches$Grid", "family", "LFrequencySketches$Family;", true)
  | 1 => ("FrequencySketches$Grid", "careful", "Z", true)
  | _ => ("FrequencySketches$Grid", "cells", "[J", true)
def tyX4 : Nat → FieldType := fun k => match k with
  | 0 => .object "FrequencySketches$Family"
  | 1 => .boolean
  | _ => .array .long
theorem nmX4 : ∀ a, a < 3 → ∀ b, b < 3 → a ≠ b → (TX4 a).2.1 ≠ (TX4 b).2.1 := by decide +kernel
theorem tyX4_ok : ∀ k, k < 3 → parseFieldDescriptor (TX4 k).2.2.1 = some (tyX4 k) := by decide +kernel
abbrev cX4_init : ByteArray := prog_6_method_1_code
def yX4_init : MethodName := ⟨RX4, "<init>", "(LFrequencySketches$Family;Z)V"⟩
abbrev cX4_guess : ByteArray := prog_6_method_2_code
def yX4_guess : MethodName := ⟨RX4, "guess", "(I)J"⟩
abbrev cX4_low : ByteArray := prog_6_method_3_code
def yX4_low : MethodName := ⟨RX4, "low", "(I)J"⟩
abbrev cX4_high : ByteArray := prog_6_method_4_code
def yX4_high : MethodName := ⟨RX4, "high", "(I)J"⟩
abbrev cX4_at : ByteArray := prog_6_method_5_code
def yX4_at : MethodName := ⟨RX4, "at", "(II)J"⟩
abbrev cX4_take : ByteArray := prog_6_method_6_code
def yX4_take : MethodName := ⟨RX4, "take", "(II)V"⟩
abbrev cX4_makeEmpty : ByteArray := prog_6_method_7_code
def yX4_makeEmpty : MethodName := ⟨RX4, "makeEmpty", "()V"⟩
abbrev cX4_become : ByteArray := prog_6_method_8_code
def yX4_become : MethodName := ⟨RX4, "become", "(LFrequencySketches$Grid;)V"⟩
abbrev cX4_putTogether : ByteArray := prog_6_method_9_code
def yX4_putTogether : MethodName := ⟨RX4, "putTogether", "(LFrequencySketches$Grid;)V"⟩
def RX5 : String := "FrequencySketches$KeySet"
def TX5 : u_T := fun k => match k with
  | _ => ("FrequencySketches$KeySet", "bits", "[J", true)
def tyX5 : Nat → FieldType := fun k => match k with
  | _ => .array .long
theorem nmX5 : ∀ a, a < 1 → ∀ b, b < 1 → a ≠ b → (TX5 a).2.1 ≠ (TX5 b).2.1 := by decide +kernel
theorem tyX5_ok : ∀ k, k < 1 → parseFieldDescriptor (TX5 k).2.2.1 = some (tyX5 k) := by decide +kernel
abbrev cX5_init : ByteArray := prog_7_method_1_code
def yX5_init : MethodName := ⟨RX5, "<init>", "(I)V"⟩
abbrev cX5_has : ByteArray := prog_7_method_2_code
def yX5_has : MethodName := ⟨RX5, "has", "(I)Z"⟩
abbrev cX5_put : ByteArray := prog_7_method_3_code
def yX5_put : MethodName := ⟨RX5, "put", "(I)V"⟩
abbrev cX5_drop : ByteArray := prog_7_method_4_code
def yX5_drop : MethodName := ⟨RX5, "drop", "(I)V"⟩
abbrev cX5_makeEmpty : ByteArray := prog_7_method_5_code
def yX5_makeEmpty : MethodName := ⟨RX5, "makeEmpty", "()V"⟩
abbrev cX5_become : ByteArray := prog_7_method_6_code
def yX5_become : MethodName := ⟨RX5, "become", "(LFrequencySketches$KeySet;)V"⟩
def RX6 : String := "FrequencySketches$Misra"
def TX6 : u_T := fun k => match k with
  | 0 => ("FrequencySketches$Misra", "held", "LFrequencySketches$Counters;", true)
  | _ => ("FrequencySketches$Misra", "taken", "J", false)
def tyX6 : Nat → FieldType := fun k => match k with
  | 0 => .object "FrequencySketches$Counters"
  | _ => .long
theorem nmX6 : ∀ a, a < 2 → ∀ b, b < 2 → a ≠ b → (TX6 a).2.1 ≠ (TX6 b).2.1 := by decide +kernel
theorem tyX6_ok : ∀ k, k < 2 → parseFieldDescriptor (TX6 k).2.2.1 = some (tyX6 k) := by decide +kernel
abbrev cX6_init : ByteArray := prog_8_method_1_code
def yX6_init : MethodName := ⟨RX6, "<init>", "(II)V"⟩
abbrev cX6_guess : ByteArray := prog_8_method_2_code
def yX6_guess : MethodName := ⟨RX6, "guess", "(I)J"⟩
abbrev cX6_low : ByteArray := prog_8_method_3_code
def yX6_low : MethodName := ⟨RX6, "low", "(I)J"⟩
abbrev cX6_high : ByteArray := prog_8_method_4_code
def yX6_high : MethodName := ⟨RX6, "high", "(I)J"⟩
abbrev cX6_take : ByteArray := prog_8_method_5_code
def yX6_take : MethodName := ⟨RX6, "take", "(II)V"⟩
abbrev cX6_takeFromAll : ByteArray := prog_8_method_6_code
def yX6_takeFromAll : MethodName := ⟨RX6, "takeFromAll", "(J)V"⟩
abbrev cX6_greatest : ByteArray := prog_8_method_7_code
def yX6_greatest : MethodName := ⟨RX6, "greatest", "(I)J"⟩
abbrev cX6_makeEmpty : ByteArray := prog_8_method_8_code
def yX6_makeEmpty : MethodName := ⟨RX6, "makeEmpty", "()V"⟩
abbrev cX6_become : ByteArray := prog_8_method_9_code
def yX6_become : MethodName := ⟨RX6, "become", "(LFrequencySketches$Misra;)V"⟩
abbrev cX6_putTogether : ByteArray := prog_8_method_10_code
def yX6_putTogether : MethodName := ⟨RX6, "putTogether", "(LFrequencySketches$Misra;)V"⟩
def RX7 : String := "FrequencySketches$Ranking"
def TX7 : u_T := fun k => match k with
  | 0 => ("FrequencySketches$Ranking", "keys", "[I", true)
  | 1 => ("FrequencySketches$Ranking", "numbers", "[J", true)
  | _ => ("FrequencySketches$Ranking", "used", "I", false)
def tyX7 : Nat → FieldType := fun k => match k with
  | 0 => .array .int
  | 1 => .array .long
  | _ => .int
theorem nmX7 : ∀ a, a < 3 → ∀ b, b < 3 → a ≠ b → (TX7 a).2.1 ≠ (TX7 b).2.1 := by decide +kernel
theorem tyX7_ok : ∀ k, k < 3 → parseFieldDescriptor (TX7 k).2.2.1 = some (tyX7 k) := by decide +kernel
abbrev cX7_init : ByteArray := prog_9_method_1_code
def yX7_init : MethodName := ⟨RX7, "<init>", "(I)V"⟩
abbrev cX7_start : ByteArray := prog_9_method_2_code
def yX7_start : MethodName := ⟨RX7, "start", "()V"⟩
abbrev cX7_offer : ByteArray := prog_9_method_3_code
def yX7_offer : MethodName := ⟨RX7, "offer", "(IJ)V"⟩
abbrev cX7_tell : ByteArray := prog_9_method_4_code
def yX7_tell : MethodName := ⟨RX7, "tell", "(II)J"⟩
def RX8 : String := "FrequencySketches$Saving"
def TX8 : u_T := fun k => match k with
  | _ => ("FrequencySketches$Saving", "held", "LFrequencySketches$Counters;", true)
def tyX8 : Nat → FieldType := fun k => match k with
  | _ => .object "FrequencySketches$Counters"
theorem nmX8 : ∀ a, a < 1 → ∀ b, b < 1 → a ≠ b → (TX8 a).2.1 ≠ (TX8 b).2.1 := by decide +kernel
theorem tyX8_ok : ∀ k, k < 1 → parseFieldDescriptor (TX8 k).2.2.1 = some (tyX8 k) := by decide +kernel
abbrev cX8_init : ByteArray := prog_10_method_1_code
def yX8_init : MethodName := ⟨RX8, "<init>", "(II)V"⟩
abbrev cX8_least : ByteArray := prog_10_method_2_code
def yX8_least : MethodName := ⟨RX8, "least", "()J"⟩
abbrev cX8_guess : ByteArray := prog_10_method_3_code
def yX8_guess : MethodName := ⟨RX8, "guess", "(I)J"⟩
abbrev cX8_low : ByteArray := prog_10_method_4_code
def yX8_low : MethodName := ⟨RX8, "low", "(I)J"⟩
abbrev cX8_high : ByteArray := prog_10_method_5_code
def yX8_high : MethodName := ⟨RX8, "high", "(I)J"⟩
abbrev cX8_take : ByteArray := prog_10_method_6_code
def yX8_take : MethodName := ⟨RX8, "take", "(II)V"⟩
abbrev cX8_placeBehind : ByteArray := prog_10_method_7_code
def yX8_placeBehind : MethodName := ⟨RX8, "placeBehind", "(J)I"⟩
abbrev cX8_makeEmpty : ByteArray := prog_10_method_8_code
def yX8_makeEmpty : MethodName := ⟨RX8, "makeEmpty", "()V"⟩
abbrev cX8_become : ByteArray := prog_10_method_9_code
def yX8_become : MethodName := ⟨RX8, "become", "(LFrequencySketches$Saving;)V"⟩
abbrev cX8_putTogether : ByteArray := prog_10_method_10_code
def yX8_putTogether : MethodName := ⟨RX8, "putTogether", "(LFrequencySketches$Saving;)V"⟩
abbrev cX8_weakest : ByteArray := prog_10_method_11_code
def yX8_weakest : MethodName := ⟨RX8, "weakest", "()I"⟩
def RX9 : String := "FrequencySketches$Sketch"
def TX9 : u_T := fun k => match k with
  | _ => ("", "", "", false)
def tyX9 : Nat → FieldType := fun k => match k with
  | _ => .int
theorem nmX9 : ∀ a, a < 0 → ∀ b, b < 0 → a ≠ b → (TX9 a).2.1 ≠ (TX9 b).2.1 := by decide +kernel
theorem tyX9_ok : ∀ k, k < 0 → parseFieldDescriptor (TX9 k).2.2.1 = some (tyX9 k) := by decide +kernel
def RX10 : String := "FrequencySketches$Stream"
def TX10 : u_T := fun k => match k with
  | 0 => ("FrequencySketches$Stream", "plain", "LFrequencySketches$Grid;", true)
  | 1 => ("FrequencySketches$Stream", "careful", "LFrequencySketches$Grid;", true)
  | 2 => ("FrequencySketches$Stream", "misra", "LFrequencySketches$Misra;", true)
  | 3 => ("FrequencySketches$Stream", "saving", "LFrequencySketches$Saving;", true)
  | 4 => ("FrequencySketches$Stream", "counts", "LFrequencySketches$Counts;", true)
  | 5 => ("FrequencySketches$Stream", "sketches", "[LFrequencySketches$Sketch;", true)
  | _ => ("FrequencySketches$Stream", "n", "J", false)
def tyX10 : Nat → FieldType := fun k => match k with
  | 0 => .object "FrequencySketches$Grid"
  | 1 => .object "FrequencySketches$Grid"
  | 2 => .object "FrequencySketches$Misra"
  | 3 => .object "FrequencySketches$Saving"
  | 4 => .object "FrequencySketches$Counts"
  | 5 => .array (.object "FrequencySketches$Sketch")
  | _ => .long
theorem nmX10 : ∀ a, a < 7 → ∀ b, b < 7 → a ≠ b → (TX10 a).2.1 ≠ (TX10 b).2.1 := by decide +kernel
theorem tyX10_ok : ∀ k, k < 7 → parseFieldDescriptor (TX10 k).2.2.1 = some (tyX10 k) := by decide +kernel
abbrev cX10_init : ByteArray := prog_12_method_1_code
def yX10_init : MethodName := ⟨RX10, "<init>", "(LFrequencySketches$Family;I)V"⟩
abbrev cX10_take : ByteArray := prog_12_method_2_code
def yX10_take : MethodName := ⟨RX10, "take", "(II)V"⟩
abbrev cX10_makeEmpty : ByteArray := prog_12_method_3_code
def yX10_makeEmpty : MethodName := ⟨RX10, "makeEmpty", "()V"⟩
abbrev cX10_become : ByteArray := prog_12_method_4_code
def yX10_become : MethodName := ⟨RX10, "become", "(LFrequencySketches$Stream;)V"⟩
abbrev cX10_putTogether : ByteArray := prog_12_method_5_code
def yX10_putTogether : MethodName := ⟨RX10, "putTogether", "(LFrequencySketches$Stream;)V"⟩
abbrev cX10_firstBroken : ByteArray := prog_12_method_6_code
def yX10_firstBroken : MethodName := ⟨RX10, "firstBroken", "()I"⟩
abbrev cX10_holdsCounts : ByteArray := prog_12_method_7_code
def yX10_holdsCounts : MethodName := ⟨RX10, "holdsCounts", "(LFrequencySketches$Sketch;)Z"⟩
abbrev cX10_carefulIsNotAbovePlain : ByteArray := prog_12_method_8_code
def yX10_carefulIsNotAbovePlain : MethodName := ⟨RX10, "carefulIsNotAbovePlain", "()Z"⟩
def RX11 : String := "FrequencySketches"
def TX11 : u_T := fun k => match k with
  | 0 => ("FrequencySketches", "family", "LFrequencySketches$Family;", true)
  | 1 => ("FrequencySketches", "counters", "I", true)
  | 2 => ("FrequencySketches", "streams", "[LFrequencySketches$Stream;", true)
  | _ => ("FrequencySketches", "latest", "LFrequencySketches$Ranking;", true)
def tyX11 : Nat → FieldType := fun k => match k with
  | 0 => .object "FrequencySketches$Family"
  | 1 => .int
  | 2 => .array (.object "FrequencySketches$Stream")
  | _ => .object "FrequencySketches$Ranking"
theorem nmX11 : ∀ a, a < 4 → ∀ b, b < 4 → a ≠ b → (TX11 a).2.1 ≠ (TX11 b).2.1 := by decide +kernel
theorem tyX11_ok : ∀ k, k < 4 → parseFieldDescriptor (TX11 k).2.2.1 = some (tyX11 k) := by decide +kernel
abbrev cX11_init : ByteArray := prog_1_method_1_code
def yX11_init : MethodName := ⟨RX11, "<init>", "(IIII)V"⟩
abbrev cX11_size : ByteArray := prog_1_method_2_code
def yX11_size : MethodName := ⟨RX11, "size", "(I)I"⟩
abbrev cX11_pair : ByteArray := prog_1_method_3_code
def yX11_pair : MethodName := ⟨RX11, "pair", "(III)Z"⟩
abbrev cX11_hash : ByteArray := prog_1_method_4_code
def yX11_hash : MethodName := ⟨RX11, "hash", "(II)I"⟩
abbrev cX11_add : ByteArray := prog_1_method_5_code
def yX11_add : MethodName := ⟨RX11, "add", "(III)J"⟩
abbrev cX11_clear : ByteArray := prog_1_method_6_code
def yX11_clear : MethodName := ⟨RX11, "clear", "(I)Z"⟩
abbrev cX11_copy : ByteArray := prog_1_method_7_code
def yX11_copy : MethodName := ⟨RX11, "copy", "(II)Z"⟩
abbrev cX11_join : ByteArray := prog_1_method_8_code
def yX11_join : MethodName := ⟨RX11, "join", "(II)J"⟩
abbrev cX11_total : ByteArray := prog_1_method_9_code
def yX11_total : MethodName := ⟨RX11, "total", "(I)J"⟩
abbrev cX11_estimate : ByteArray := prog_1_method_10_code
def yX11_estimate : MethodName := ⟨RX11, "estimate", "(IIII)J"⟩
abbrev cX11_count : ByteArray := prog_1_method_11_code
def yX11_count : MethodName := ⟨RX11, "count", "(II)J"⟩
abbrev cX11_cell : ByteArray := prog_1_method_12_code
def yX11_cell : MethodName := ⟨RX11, "cell", "(IIII)J"⟩
abbrev cX11_counter : ByteArray := prog_1_method_13_code
def yX11_counter : MethodName := ⟨RX11, "counter", "(IIII)J"⟩
abbrev cX11_state : ByteArray := prog_1_method_14_code
def yX11_state : MethodName := ⟨RX11, "state", "(II)J"⟩
abbrev cX11_report : ByteArray := prog_1_method_15_code
def yX11_report : MethodName := ⟨RX11, "report", "(IIIZ)I"⟩
abbrev cX11_reported : ByteArray := prog_1_method_16_code
def yX11_reported : MethodName := ⟨RX11, "reported", "(II)J"⟩
abbrev cX11_overcounts : ByteArray := prog_1_method_17_code
def yX11_overcounts : MethodName := ⟨RX11, "overcounts", "(II)J"⟩
abbrev cX11_audit : ByteArray := prog_1_method_18_code
def yX11_audit : MethodName := ⟨RX11, "audit", "(I)I"⟩
abbrev cX11_streamAt : ByteArray := prog_1_method_19_code
def yX11_streamAt : MethodName := ⟨RX11, "streamAt", "(I)LFrequencySketches$Stream;"⟩
abbrev cX11_sketchAt : ByteArray := prog_1_method_20_code
def yX11_sketchAt : MethodName := ⟨RX11, "sketchAt", "(II)LFrequencySketches$Sketch;"⟩
abbrev cX11_allStreamsEmpty : ByteArray := prog_1_method_21_code
def yX11_allStreamsEmpty : MethodName := ⟨RX11, "allStreamsEmpty", "()Z"⟩
abbrev cX11_within : ByteArray := prog_1_method_22_code
def yX11_within : MethodName := ⟨RX11, "within", "(III)I"⟩
abbrev cX11_leastPrimeFrom : ByteArray := prog_1_method_23_code
def yX11_leastPrimeFrom : MethodName := ⟨RX11, "leastPrimeFrom", "(I)I"⟩
abbrev cX11_isPrime : ByteArray := prog_1_method_24_code
def yX11_isPrime : MethodName := ⟨RX11, "isPrime", "(I)Z"⟩
def RX12 : String := "FrequencySketchesModel"
def TX12 : u_T := fun k => match k with
  | 0 => ("FrequencySketchesModel", "prime", "I", true)
  | 1 => ("FrequencySketchesModel", "width", "I", true)
  | 2 => ("FrequencySketchesModel", "rows", "I", true)
  | 3 => ("FrequencySketchesModel", "counters", "I", true)
  | 4 => ("FrequencySketchesModel", "first", "[I", true)
  | 5 => ("FrequencySketchesModel", "second", "[I", true)
  | 6 => ("FrequencySketchesModel", "total", "[J", true)
  | 7 => ("FrequencySketchesModel", "plain", "[J", true)
  | 8 => ("FrequencySketchesModel", "careful", "[J", true)
  | 9 => ("FrequencySketchesModel", "misras", "[I", true)
  | 10 => ("FrequencySketchesModel", "taken", "[J", true)
  | 11 => ("FrequencySketchesModel", "misraKey", "[I", true)
  | 12 => ("FrequencySketchesModel", "misra", "[J", true)
  | 13 => ("FrequencySketchesModel", "savings", "[I", true)
  | 14 => ("FrequencySketchesModel", "savingKey", "[I", true)
  | 15 => ("FrequencySketchesModel", "saving", "[J", true)
  | 16 => ("FrequencySketchesModel", "error", "[J", true)
  | 17 => ("FrequencySketchesModel", "keys", "[I", true)
  | 18 => ("FrequencySketchesModel", "isGone", "[Z", true)
  | 19 => ("FrequencySketchesModel", "key", "[I", true)
  | 20 => ("FrequencySketchesModel", "times", "[J", true)
  | 21 => ("FrequencySketchesModel", "reports", "I", false)
  | 22 => ("FrequencySketchesModel", "reportKey", "[I", true)
  | 23 => ("FrequencySketchesModel", "report", "[J", true)
  | 24 => ("FrequencySketchesModel", "pooled", "I", false)
  | 25 => ("FrequencySketchesModel", "poolKey", "[I", true)
  | 26 => ("FrequencySketchesModel", "pool", "[J", true)
  | _ => ("FrequencySketchesModel", "poolError", "[J", true)
def tyX12 : Nat → FieldType := fun k => match k with
  | 0 => .int
  | 1 => .int
  | 2 => .int
  | 3 => .int
  | 4 => .array .int
  | 5 => .array .int
  | 6 => .array .long
  | 7 => .array .long
  | 8 => .array .long
  | 9 => .array .int
  | 10 => .array .long
  | 11 => .array .int
  | 12 => .array .long
  | 13 => .array .int
  | 14 => .array .int
  | 15 => .array .long
  | 16 => .array .long
  | 17 => .array .int
  | 18 => .array .boolean
  | 19 => .array .int
  | 20 => .array .long
  | 21 => .int
  | 22 => .array .int
  | 23 => .array .long
  | 24 => .int
  | 25 => .array .int
  | 26 => .array .long
  | _ => .array .long
theorem nmX12 : ∀ a, a < 28 → ∀ b, b < 28 → a ≠ b → (TX12 a).2.1 ≠ (TX12 b).2.1 := by decide +kernel
theorem tyX12_ok : ∀ k, k < 28 → parseFieldDescriptor (TX12 k).2.2.1 = some (tyX12 k) := by decide +kernel
abbrev cX12_within : ByteArray := prog_14_method_1_code
def yX12_within : MethodName := ⟨RX12, "within", "(III)I"⟩
abbrev cX12_isPrime : ByteArray := prog_14_method_2_code
def yX12_isPrime : MethodName := ⟨RX12, "isPrime", "(I)Z"⟩
abbrev cX12_init : ByteArray := prog_14_method_3_code
def yX12_init : MethodName := ⟨RX12, "<init>", "(IIII)V"⟩
abbrev cX12_in : ByteArray := prog_14_method_4_code
def yX12_in : MethodName := ⟨RX12, "in", "(III)Z"⟩
abbrev cX12_isStream : ByteArray := prog_14_method_5_code
def yX12_isStream : MethodName := ⟨RX12, "isStream", "(I)Z"⟩
abbrev cX12_isKey : ByteArray := prog_14_method_6_code
def yX12_isKey : MethodName := ⟨RX12, "isKey", "(I)Z"⟩
abbrev cX12_size : ByteArray := prog_14_method_7_code
def yX12_size : MethodName := ⟨RX12, "size", "(I)I"⟩
abbrev cX12_pair : ByteArray := prog_14_method_8_code
def yX12_pair : MethodName := ⟨RX12, "pair", "(III)Z"⟩
abbrev cX12_hashed : ByteArray := prog_14_method_9_code
def yX12_hashed : MethodName := ⟨RX12, "hashed", "(III)I"⟩
abbrev cX12_hash : ByteArray := prog_14_method_10_code
def yX12_hash : MethodName := ⟨RX12, "hash", "(II)I"⟩
abbrev cX12_cellOf : ByteArray := prog_14_method_11_code
def yX12_cellOf : MethodName := ⟨RX12, "cellOf", "(III)I"⟩
abbrev cX12_leastPlain : ByteArray := prog_14_method_12_code
def yX12_leastPlain : MethodName := ⟨RX12, "leastPlain", "(II)J"⟩
abbrev cX12_leastCareful : ByteArray := prog_14_method_13_code
def yX12_leastCareful : MethodName := ⟨RX12, "leastCareful", "(II)J"⟩
abbrev cX12_misraAt : ByteArray := prog_14_method_14_code
def yX12_misraAt : MethodName := ⟨RX12, "misraAt", "(II)I"⟩
abbrev cX12_savingAt : ByteArray := prog_14_method_15_code
def yX12_savingAt : MethodName := ⟨RX12, "savingAt", "(II)I"⟩
abbrev cX12_keyAt : ByteArray := prog_14_method_16_code
def yX12_keyAt : MethodName := ⟨RX12, "keyAt", "(II)I"⟩
abbrev cX12_comes : ByteArray := prog_14_method_17_code
def yX12_comes : MethodName := ⟨RX12, "comes", "(II)V"⟩
abbrev cX12_comesMisra : ByteArray := prog_14_method_18_code
def yX12_comesMisra : MethodName := ⟨RX12, "comesMisra", "(II)V"⟩
abbrev cX12_takes : ByteArray := prog_14_method_19_code
def yX12_takes : MethodName := ⟨RX12, "takes", "(IJ)V"⟩
abbrev cX12_comesSaving : ByteArray := prog_14_method_20_code
def yX12_comesSaving : MethodName := ⟨RX12, "comesSaving", "(II)V"⟩
abbrev cX12_moveSaving : ByteArray := prog_14_method_21_code
def yX12_moveSaving : MethodName := ⟨RX12, "moveSaving", "(II)V"⟩
abbrev cX12_comesCounts : ByteArray := prog_14_method_22_code
def yX12_comesCounts : MethodName := ⟨RX12, "comesCounts", "(IIJ)V"⟩
abbrev cX12_add : ByteArray := prog_14_method_23_code
def yX12_add : MethodName := ⟨RX12, "add", "(III)J"⟩
abbrev cX12_clear : ByteArray := prog_14_method_24_code
def yX12_clear : MethodName := ⟨RX12, "clear", "(I)Z"⟩
abbrev cX12_copy : ByteArray := prog_14_method_25_code
def yX12_copy : MethodName := ⟨RX12, "copy", "(II)Z"⟩
abbrev cX12_pooledAt : ByteArray := prog_14_method_26_code
def yX12_pooledAt : MethodName := ⟨RX12, "pooledAt", "(I)I"⟩
abbrev cX12_pools : ByteArray := prog_14_method_27_code
def yX12_pools : MethodName := ⟨RX12, "pools", "(IJJ)V"⟩
abbrev cX12_join : ByteArray := prog_14_method_28_code
def yX12_join : MethodName := ⟨RX12, "join", "(II)J"⟩
abbrev cX12_joinMisra : ByteArray := prog_14_method_29_code
def yX12_joinMisra : MethodName := ⟨RX12, "joinMisra", "(II)V"⟩
abbrev cX12_greatest : ByteArray := prog_14_method_30_code
def yX12_greatest : MethodName := ⟨RX12, "greatest", "(I)J"⟩
abbrev cX12_least : ByteArray := prog_14_method_31_code
def yX12_least : MethodName := ⟨RX12, "least", "(I)J"⟩
abbrev cX12_joinSaving : ByteArray := prog_14_method_32_code
def yX12_joinSaving : MethodName := ⟨RX12, "joinSaving", "(II)V"⟩
abbrev cX12_sortLike : ByteArray := prog_14_method_33_code
def yX12_sortLike : MethodName := ⟨RX12, "sortLike", "(I)V"⟩
abbrev cX12_joinCounts : ByteArray := prog_14_method_34_code
def yX12_joinCounts : MethodName := ⟨RX12, "joinCounts", "(II)V"⟩
abbrev cX12_total : ByteArray := prog_14_method_35_code
def yX12_total : MethodName := ⟨RX12, "total", "(I)J"⟩
abbrev cX12_one : ByteArray := prog_14_method_36_code
def yX12_one : MethodName := ⟨RX12, "one", "(IIII)J"⟩
abbrev cX12_estimated : ByteArray := prog_14_method_37_code
def yX12_estimated : MethodName := ⟨RX12, "estimated", "(IIII)J"⟩
abbrev cX12_estimate : ByteArray := prog_14_method_38_code
def yX12_estimate : MethodName := ⟨RX12, "estimate", "(IIII)J"⟩
abbrev cX12_count : ByteArray := prog_14_method_39_code
def yX12_count : MethodName := ⟨RX12, "count", "(II)J"⟩
abbrev cX12_cell : ByteArray := prog_14_method_40_code
def yX12_cell : MethodName := ⟨RX12, "cell", "(IIII)J"⟩
abbrev cX12_counter : ByteArray := prog_14_method_41_code
def yX12_counter : MethodName := ⟨RX12, "counter", "(IIII)J"⟩
abbrev cX12_state : ByteArray := prog_14_method_42_code
def yX12_state : MethodName := ⟨RX12, "state", "(II)J"⟩
abbrev cX12_report : ByteArray := prog_14_method_43_code
def yX12_report : MethodName := ⟨RX12, "report", "(IIIZ)I"⟩
abbrev cX12_reports : ByteArray := prog_14_method_44_code
def yX12_reports : MethodName := ⟨RX12, "reports", "(IJ)V"⟩
abbrev cX12_reported : ByteArray := prog_14_method_45_code
def yX12_reported : MethodName := ⟨RX12, "reported", "(II)J"⟩
abbrev cX12_overcounts : ByteArray := prog_14_method_46_code
def yX12_overcounts : MethodName := ⟨RX12, "overcounts", "(II)J"⟩
abbrev cX12_isWithin : ByteArray := prog_14_method_47_code
def yX12_isWithin : MethodName := ⟨RX12, "isWithin", "(II)Z"⟩
abbrev cX12_audit : ByteArray := prog_14_method_48_code
def yX12_audit : MethodName := ⟨RX12, "audit", "(I)I"⟩
def RJ9 : String := "java/lang/Math"
def TJ9 : u_T := fun k => match k with
  | _ => ("", "", "", false)
def tyJ9 : Nat → FieldType := fun k => match k with
  | _ => .int
theorem nmJ9 : ∀ a, a < 0 → ∀ b, b < 0 → a ≠ b → (TJ9 a).2.1 ≠ (TJ9 b).2.1 := by decide +kernel
theorem tyJ9_ok : ∀ k, k < 0 → parseFieldDescriptor (TJ9 k).2.2.1 = some (tyJ9 k) := by decide +kernel
abbrev cJ9_max_7cf53 : ByteArray := prog_15_method_65_code
def yJ9_max_7cf53 : MethodName := ⟨RJ9, "max", "(II)I"⟩
abbrev cJ9_max_f86c9 : ByteArray := prog_15_method_66_code
def yJ9_max_f86c9 : MethodName := ⟨RJ9, "max", "(JJ)J"⟩
abbrev cJ9_min_7cf53 : ByteArray := prog_15_method_69_code
def yJ9_min_7cf53 : MethodName := ⟨RJ9, "min", "(II)I"⟩
abbrev cJ9_min_f86c9 : ByteArray := prog_15_method_70_code
def yJ9_min_f86c9 : MethodName := ⟨RJ9, "min", "(JJ)J"⟩
def RJ10 : String := "java/lang/System"
def TJ10 : u_T := fun k => match k with
  | _ => ("", "", "", false)
def tyJ10 : Nat → FieldType := fun k => match k with
  | _ => .int
theorem nmJ10 : ∀ a, a < 0 → ∀ b, b < 0 → a ≠ b → (TJ10 a).2.1 ≠ (TJ10 b).2.1 := by decide +kernel
theorem tyJ10_ok : ∀ k, k < 0 → parseFieldDescriptor (TJ10 k).2.2.1 = some (tyJ10 k) := by decide +kernel
def RJ7 : String := "java/util/Arrays"
def TJ7 : u_T := fun k => match k with
  | _ => ("", "", "", false)
def tyJ7 : Nat → FieldType := fun k => match k with
  | _ => .int
theorem nmJ7 : ∀ a, a < 0 → ∀ b, b < 0 → a ≠ b → (TJ7 a).2.1 ≠ (TJ7 b).2.1 := by decide +kernel
theorem tyJ7_ok : ∀ k, k < 0 → parseFieldDescriptor (TJ7 k).2.2.1 = some (tyJ7 k) := by decide +kernel
abbrev cJ7_fill_d0a16 : ByteArray := prog_17_method_101_code
def yJ7_fill_d0a16 : MethodName := ⟨RJ7, "fill", "([JJ)V"⟩
def RL : String := "FrequencySketchesLaw"
abbrev cL_cell : ByteArray := method_2_code
def yL_cell : MethodName := ⟨RL, "cell", "([II)I"⟩
abbrev cL_law : ByteArray := code
def yL_law : MethodName := ⟨RL, "law", "([I)Z"⟩
abbrev vwCl : List vw_C := [(RX0, TX0, 4), (RX1, TX1, 6), (RX2, TX2, 4), (RX3, TX3, 5), (RX4, TX4, 3), (RX5, TX5, 1), (RX6, TX6, 2), (RX7, TX7, 3), (RX8, TX8, 1), (RX10, TX10, 7), (RX11, TX11, 4), (RX12, TX12, 28)]
theorem lays_X0 : u_ws RX0 TX0 4 = ([247, 249, 251, 253] : List Nat).filterMap (fun i => lw_tbl[i]?) := by decide +kernel
theorem in_X0 : ∀ w ∈ u_ws RX0 TX0 4, w ∈ lw_tbl := fun w hw => by rw [lays_X0] at hw; obtain ⟨i, -, hi⟩ := List.mem_filterMap.mp hw; exact List.mem_of_getElem? hi
theorem lays_X1 : u_ws RX1 TX1 6 = ([173, 175, 177, 179, 181, 183] : List Nat).filterMap (fun i => lw_tbl[i]?) := by decide +kernel
theorem in_X1 : ∀ w ∈ u_ws RX1 TX1 6, w ∈ lw_tbl := fun w hw => by rw [lays_X1] at hw; obtain ⟨i, -, hi⟩ := List.mem_filterMap.mp hw; exact List.mem_of_getElem? hi
theorem lays_X2 : u_ws RX2 TX2 4 = ([226, 228, 230, 232] : List Nat).filterMap (fun i => lw_tbl[i]?) := by decide +kernel
theorem in_X2 : ∀ w ∈ u_ws RX2 TX2 4, w ∈ lw_tbl := fun w hw => by rw [lays_X2] at hw; obtain ⟨i, -, hi⟩ := List.mem_filterMap.mp hw; exact List.mem_of_getElem? hi
theorem lays_X3 : u_ws RX3 TX3 5 = ([98, 100, 102, 104, 106] : List Nat).filterMap (fun i => lw_tbl[i]?) := by decide +kernel
theorem in_X3 : ∀ w ∈ u_ws RX3 TX3 5, w ∈ lw_tbl := fun w hw => by rw [lays_X3] at hw; obtain ⟨i, -, hi⟩ := List.mem_filterMap.mp hw; exact List.mem_of_getElem? hi
theorem lays_X4 : u_ws RX4 TX4 3 = ([126, 128, 130] : List Nat).filterMap (fun i => lw_tbl[i]?) := by decide +kernel
theorem in_X4 : ∀ w ∈ u_ws RX4 TX4 3, w ∈ lw_tbl := fun w hw => by rw [lays_X4] at hw; obtain ⟨i, -, hi⟩ := List.mem_filterMap.mp hw; exact List.mem_of_getElem? hi
theorem lays_X5 : u_ws RX5 TX5 1 = ([153] : List Nat).filterMap (fun i => lw_tbl[i]?) := by decide +kernel
theorem in_X5 : ∀ w ∈ u_ws RX5 TX5 1, w ∈ lw_tbl := fun w hw => by rw [lays_X5] at hw; obtain ⟨i, -, hi⟩ := List.mem_filterMap.mp hw; exact List.mem_of_getElem? hi
theorem lays_X6 : u_ws RX6 TX6 2 = ([192, 194] : List Nat).filterMap (fun i => lw_tbl[i]?) := by decide +kernel
theorem in_X6 : ∀ w ∈ u_ws RX6 TX6 2, w ∈ lw_tbl := fun w hw => by rw [lays_X6] at hw; obtain ⟨i, -, hi⟩ := List.mem_filterMap.mp hw; exact List.mem_of_getElem? hi
theorem lays_X7 : u_ws RX7 TX7 3 = ([294, 296, 298] : List Nat).filterMap (fun i => lw_tbl[i]?) := by decide +kernel
theorem in_X7 : ∀ w ∈ u_ws RX7 TX7 3, w ∈ lw_tbl := fun w hw => by rw [lays_X7] at hw; obtain ⟨i, -, hi⟩ := List.mem_filterMap.mp hw; exact List.mem_of_getElem? hi
theorem lays_X8 : u_ws RX8 TX8 1 = ([207] : List Nat).filterMap (fun i => lw_tbl[i]?) := by decide +kernel
theorem in_X8 : ∀ w ∈ u_ws RX8 TX8 1, w ∈ lw_tbl := fun w hw => by rw [lays_X8] at hw; obtain ⟨i, -, hi⟩ := List.mem_filterMap.mp hw; exact List.mem_of_getElem? hi
theorem lays_X10 : u_ws RX10 TX10 7 = ([270, 272, 274, 276, 278, 280, 282] : List Nat).filterMap (fun i => lw_tbl[i]?) := by decide +kernel
theorem in_X10 : ∀ w ∈ u_ws RX10 TX10 7, w ∈ lw_tbl := fun w hw => by rw [lays_X10] at hw; obtain ⟨i, -, hi⟩ := List.mem_filterMap.mp hw; exact List.mem_of_getElem? hi
theorem lays_X11 : u_ws RX11 TX11 4 = ([305, 307, 309, 311] : List Nat).filterMap (fun i => lw_tbl[i]?) := by decide +kernel
theorem in_X11 : ∀ w ∈ u_ws RX11 TX11 4, w ∈ lw_tbl := fun w hw => by rw [lays_X11] at hw; obtain ⟨i, -, hi⟩ := List.mem_filterMap.mp hw; exact List.mem_of_getElem? hi
theorem lays_X12 : u_ws RX12 TX12 28 = ([816, 818, 820, 822, 824, 826, 828, 830, 832, 834, 836, 838, 840, 842, 844, 846, 848, 850, 852, 854, 856, 858, 860, 862, 864, 866, 868, 870] : List Nat).filterMap (fun i => lw_tbl[i]?) := by decide +kernel
theorem in_X12 : ∀ w ∈ u_ws RX12 TX12 28, w ∈ lw_tbl := fun w hw => by rw [lays_X12] at hw; obtain ⟨i, -, hi⟩ := List.mem_filterMap.mp hw; exact List.mem_of_getElem? hi
