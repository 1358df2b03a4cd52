def RX0 : String := "BagViews$Bag"
def TX0 : u_T := fun k => match k with
  | 0 => ("BagViews$Bag", "cells", "[I", true)
  | 1 => ("BagViews$Bag", "often", "[I", true)
  | _ => ("BagViews$Bag", "rowCount", "I", false)
def tyX0 : Nat → FieldType := fun k => match k with
  | 0 => .array .int
  | 1 => .array .int
  | _ => .int
abbrev wsX00 : List Cond := u_ws RX0 TX0 3
theorem nmX0 : ∀ a, a < 3 → ∀ b, b < 3 → a ≠ b → (TX0 a).2.1 ≠ (TX0 b).2.1 := by decide +kernel
theorem tyX0_ok : ∀ k, k < 3 → parseFieldDescriptor (TX0 k).2.2.1 = some (tyX0 k) := by decide +kernel
abbrev cX0_init : ByteArray := prog_2_method_1_code
def yX0_init : MethodName := ⟨RX0, "<init>", "()V"⟩
abbrev cX0_clear : ByteArray := prog_2_method_2_code
def yX0_clear : MethodName := ⟨RX0, "clear", "()V"⟩
abbrev cX0_copyFrom : ByteArray := prog_2_method_3_code
def yX0_copyFrom : MethodName := ⟨RX0, "copyFrom", "(LBagViews$Bag;)V"⟩
abbrev cX0_cellAt : ByteArray := prog_2_method_4_code
def yX0_cellAt : MethodName := ⟨RX0, "cellAt", "(II)I"⟩
abbrev cX0_readRow : ByteArray := prog_2_method_5_code
def yX0_readRow : MethodName := ⟨RX0, "readRow", "(I[I)V"⟩
abbrev cX0_allTimes : ByteArray := prog_2_method_6_code
def yX0_allTimes : MethodName := ⟨RX0, "allTimes", "()J"⟩
abbrev cX0_timesOf : ByteArray := prog_2_method_7_code
def yX0_timesOf : MethodName := ⟨RX0, "timesOf", "([I)I"⟩
abbrev cX0_add : ByteArray := prog_2_method_8_code
def yX0_add : MethodName := ⟨RX0, "add", "([IJ)Z"⟩
abbrev cX0_countDifferent : ByteArray := prog_2_method_9_code
def yX0_countDifferent : MethodName := ⟨RX0, "countDifferent", "(LBagViews$Bag;)I"⟩
abbrev cX0_placeBehind : ByteArray := prog_2_method_10_code
def yX0_placeBehind : MethodName := ⟨RX0, "placeBehind", "([I)I"⟩
abbrev cX0_isAt : ByteArray := prog_2_method_11_code
def yX0_isAt : MethodName := ⟨RX0, "isAt", "(I[I)Z"⟩
abbrev cX0_compareRow : ByteArray := prog_2_method_12_code
def yX0_compareRow : MethodName := ⟨RX0, "compareRow", "(I[II)I"⟩
abbrev cX0_setTimes : ByteArray := prog_2_method_13_code
def yX0_setTimes : MethodName := ⟨RX0, "setTimes", "(IJ)Z"⟩
abbrev cX0_insert : ByteArray := prog_2_method_14_code
def yX0_insert : MethodName := ⟨RX0, "insert", "(I[IJ)Z"⟩
abbrev cX0_remove : ByteArray := prog_2_method_15_code
def yX0_remove : MethodName := ⟨RX0, "remove", "(I)V"⟩
def RX1 : String := "BagViews$Choice"
def TX1 : u_T := fun k => match k with
  | 0 => ("BagViews$View", "left", "LBagViews$Relation;", true)
  | 1 => ("BagViews$View", "right", "LBagViews$Relation;", true)
  | 2 => ("BagViews$View", "depth", "I", true)
  | 3 => ("BagViews$View", "row", "[I", true)
  | _ => ("BagViews$Choice", "chosen", "[I", true)
def tyX1 : Nat → FieldType := fun k => match k with
  | 0 => .object "BagViews$Relation"
  | 1 => .object "BagViews$Relation"
  | 2 => .int
  | 3 => .array .int
  | _ => .array .int
abbrev wsX10 : List Cond := u_ws RX1 TX1 5
theorem nmX1 : ∀ a, a < 5 → ∀ b, b < 5 → a ≠ b → (TX1 a).2.1 ≠ (TX1 b).2.1 := by decide +kernel
theorem tyX1_ok : ∀ k, k < 5 → parseFieldDescriptor (TX1 k).2.2.1 = some (tyX1 k) := by decide +kernel
abbrev cX1_init : ByteArray := prog_3_method_1_code
def yX1_init : MethodName := ⟨RX1, "<init>", "(LBagViews$Relation;[I)V"⟩
abbrev cX1_makeInto : ByteArray := prog_3_method_2_code
def yX1_makeInto : MethodName := ⟨RX1, "makeInto", "(LBagViews$Bag;)Z"⟩
def RX2 : String := "BagViews$Difference"
def TX2 : u_T := fun k => match k with
  | 0 => ("BagViews$View", "left", "LBagViews$Relation;", true)
  | 1 => ("BagViews$View", "right", "LBagViews$Relation;", true)
  | 2 => ("BagViews$View", "depth", "I", true)
  | _ => ("BagViews$View", "row", "[I", true)
def tyX2 : Nat → FieldType := fun k => match k with
  | 0 => .object "BagViews$Relation"
  | 1 => .object "BagViews$Relation"
  | 2 => .int
  | _ => .array .int
abbrev wsX20 : List Cond := u_ws RX2 TX2 4
theorem nmX2 : ∀ a, a < 4 → ∀ b, b < 4 → a ≠ b → (TX2 a).2.1 ≠ (TX2 b).2.1 := by decide +kernel
theorem tyX2_ok : ∀ k, k < 4 → parseFieldDescriptor (TX2 k).2.2.1 = some (tyX2 k) := by decide +kernel
abbrev cX2_init : ByteArray := prog_4_method_1_code
def yX2_init : MethodName := ⟨RX2, "<init>", "(LBagViews$Relation;LBagViews$Relation;)V"⟩
abbrev cX2_makeInto : ByteArray := prog_4_method_2_code
def yX2_makeInto : MethodName := ⟨RX2, "makeInto", "(LBagViews$Bag;)Z"⟩
def RX3 : String := "BagViews$Group"
def TX3 : u_T := fun k => match k with
  | 0 => ("BagViews$View", "left", "LBagViews$Relation;", true)
  | 1 => ("BagViews$View", "right", "LBagViews$Relation;", true)
  | 2 => ("BagViews$View", "depth", "I", true)
  | 3 => ("BagViews$View", "row", "[I", true)
  | 4 => ("BagViews$Group", "by", "I", true)
  | 5 => ("BagViews$Group", "sort", "I", true)
  | _ => ("BagViews$Group", "column", "I", true)
def tyX3 : Nat → FieldType := fun k => match k with
  | 0 => .object "BagViews$Relation"
  | 1 => .object "BagViews$Relation"
  | 2 => .int
  | 3 => .array .int
  | 4 => .int
  | 5 => .int
  | _ => .int
abbrev wsX30 : List Cond := u_ws RX3 TX3 7
theorem nmX3 : ∀ a, a < 7 → ∀ b, b < 7 → a ≠ b → (TX3 a).2.1 ≠ (TX3 b).2.1 := by decide +kernel
theorem tyX3_ok : ∀ k, k < 7 → parseFieldDescriptor (TX3 k).2.2.1 = some (tyX3 k) := by decide +kernel
abbrev cX3_init : ByteArray := prog_5_method_1_code
def yX3_init : MethodName := ⟨RX3, "<init>", "(LBagViews$Relation;III)V"⟩
abbrev cX3_makeInto : ByteArray := prog_5_method_2_code
def yX3_makeInto : MethodName := ⟨RX3, "makeInto", "(LBagViews$Bag;)Z"⟩
abbrev cX3_isFirst : ByteArray := prog_5_method_3_code
def yX3_isFirst : MethodName := ⟨RX3, "isFirst", "(LBagViews$Bag;I)Z"⟩
abbrev cX3_isTogether : ByteArray := prog_5_method_4_code
def yX3_isTogether : MethodName := ⟨RX3, "isTogether", "(LBagViews$Bag;II)Z"⟩
abbrev cX3_valueFrom : ByteArray := prog_5_method_5_code
def yX3_valueFrom : MethodName := ⟨RX3, "valueFrom", "(LBagViews$Bag;I)I"⟩
abbrev cX3_withRow : ByteArray := prog_5_method_6_code
def yX3_withRow : MethodName := ⟨RX3, "withRow", "(III)I"⟩
def RX4 : String := "BagViews$Join"
def TX4 : u_T := fun k => match k with
  | 0 => ("BagViews$View", "left", "LBagViews$Relation;", true)
  | 1 => ("BagViews$View", "right", "LBagViews$Relation;", true)
  | 2 => ("BagViews$View", "depth", "I", true)
  | 3 => ("BagViews$View", "row", "[I", true)
  | 4 => ("BagViews$Join", "leftColumn", "I", true)
  | _ => ("BagViews$Join", "rightColumn", "I", true)
def tyX4 : Nat → FieldType := fun k => match k with
  | 0 => .object "BagViews$Relation"
  | 1 => .object "BagViews$Relation"
  | 2 => .int
  | 3 => .array .int
  | 4 => .int
  | _ => .int
abbrev wsX40 : List Cond := u_ws RX4 TX4 6
theorem nmX4 : ∀ a, a < 6 → ∀ b, b < 6 → a ≠ b → (TX4 a).2.1 ≠ (TX4 b).2.1 := by decide +kernel
theorem tyX4_ok : ∀ k, k < 6 → parseFieldDescriptor (TX4 k).2.2.1 = some (tyX4 k) := by decide +kernel
abbrev cX4_init : ByteArray := prog_6_method_1_code
def yX4_init : MethodName := ⟨RX4, "<init>", "(LBagViews$Relation;LBagViews$Relation;II)V"⟩
abbrev cX4_makeInto : ByteArray := prog_6_method_2_code
def yX4_makeInto : MethodName := ⟨RX4, "makeInto", "(LBagViews$Bag;)Z"⟩
abbrev cX4_readPair : ByteArray := prog_6_method_3_code
def yX4_readPair : MethodName := ⟨RX4, "readPair", "(LBagViews$Bag;ILBagViews$Bag;I)V"⟩
def RX5 : String := "BagViews$Once"
def TX5 : u_T := fun k => match k with
  | 0 => ("BagViews$View", "left", "LBagViews$Relation;", true)
  | 1 => ("BagViews$View", "right", "LBagViews$Relation;", true)
  | 2 => ("BagViews$View", "depth", "I", true)
  | _ => ("BagViews$View", "row", "[I", true)
def tyX5 : Nat → FieldType := fun k => match k with
  | 0 => .object "BagViews$Relation"
  | 1 => .object "BagViews$Relation"
  | 2 => .int
  | _ => .array .int
abbrev wsX50 : List Cond := u_ws RX5 TX5 4
theorem nmX5 : ∀ a, a < 4 → ∀ b, b < 4 → a ≠ b → (TX5 a).2.1 ≠ (TX5 b).2.1 := by decide +kernel
theorem tyX5_ok : ∀ k, k < 4 → parseFieldDescriptor (TX5 k).2.2.1 = some (tyX5 k) := by decide +kernel
abbrev cX5_init : ByteArray := prog_7_method_1_code
def yX5_init : MethodName := ⟨RX5, "<init>", "(LBagViews$Relation;)V"⟩
abbrev cX5_makeInto : ByteArray := prog_7_method_2_code
def yX5_makeInto : MethodName := ⟨RX5, "makeInto", "(LBagViews$Bag;)Z"⟩
def RX6 : String := "BagViews$Relation"
def TX6 : u_T := fun k => match k with
  | 0 => ("BagViews$Relation", "now", "LBagViews$Bag;", false)
  | 1 => ("BagViews$Relation", "next", "LBagViews$Bag;", false)
  | 2 => ("BagViews$Relation", "view", "LBagViews$View;", false)
  | 3 => ("BagViews$Relation", "columnCount", "I", false)
  | 4 => ("BagViews$Relation", "pending", "I", false)
  | _ => ("BagViews$Relation", "changedRows", "I", false)
def tyX6 : Nat → FieldType := fun k => match k with
  | 0 => .object "BagViews$Bag"
  | 1 => .object "BagViews$Bag"
  | 2 => .object "BagViews$View"
  | 3 => .int
  | 4 => .int
  | _ => .int
abbrev wsX60 : List Cond := u_ws RX6 TX6 6
theorem nmX6 : ∀ a, a < 6 → ∀ b, b < 6 → a ≠ b → (TX6 a).2.1 ≠ (TX6 b).2.1 := by decide +kernel
theorem tyX6_ok : ∀ k, k < 6 → parseFieldDescriptor (TX6 k).2.2.1 = some (tyX6 k) := by decide +kernel
abbrev cX6_init : ByteArray := prog_8_method_1_code
def yX6_init : MethodName := ⟨RX6, "<init>", "()V"⟩
abbrev cX6_begin : ByteArray := prog_8_method_2_code
def yX6_begin : MethodName := ⟨RX6, "begin", "(ILBagViews$View;)V"⟩
abbrev cX6_end : ByteArray := prog_8_method_3_code
def yX6_end : MethodName := ⟨RX6, "end", "()V"⟩
abbrev cX6_isThere : ByteArray := prog_8_method_4_code
def yX6_isThere : MethodName := ⟨RX6, "isThere", "()Z"⟩
abbrev cX6_isOf : ByteArray := prog_8_method_5_code
def yX6_isOf : MethodName := ⟨RX6, "isOf", "(LBagViews$Relation;)Z"⟩
abbrev cX6_depth : ByteArray := prog_8_method_6_code
def yX6_depth : MethodName := ⟨RX6, "depth", "()I"⟩
abbrev cX6_latest : ByteArray := prog_8_method_7_code
def yX6_latest : MethodName := ⟨RX6, "latest", "()LBagViews$Bag;"⟩
abbrev cX6_remake : ByteArray := prog_8_method_8_code
def yX6_remake : MethodName := ⟨RX6, "remake", "()Z"⟩
abbrev cX6_settle : ByteArray := prog_8_method_9_code
def yX6_settle : MethodName := ⟨RX6, "settle", "(Z)V"⟩
def RX7 : String := "BagViews$Selection"
def TX7 : u_T := fun k => match k with
  | 0 => ("BagViews$View", "left", "LBagViews$Relation;", true)
  | 1 => ("BagViews$View", "right", "LBagViews$Relation;", true)
  | 2 => ("BagViews$View", "depth", "I", true)
  | 3 => ("BagViews$View", "row", "[I", true)
  | 4 => ("BagViews$Selection", "column", "I", true)
  | 5 => ("BagViews$Selection", "compare", "I", true)
  | 6 => ("BagViews$Selection", "than", "I", true)
  | _ => ("BagViews$Selection", "thanColumn", "Z", true)
def tyX7 : Nat → FieldType := fun k => match k with
  | 0 => .object "BagViews$Relation"
  | 1 => .object "BagViews$Relation"
  | 2 => .int
  | 3 => .array .int
  | 4 => .int
  | 5 => .int
  | 6 => .int
  | _ => .boolean
abbrev wsX70 : List Cond := u_ws RX7 TX7 8
theorem nmX7 : ∀ a, a < 8 → ∀ b, b < 8 → a ≠ b → (TX7 a).2.1 ≠ (TX7 b).2.1 := by decide +kernel
theorem tyX7_ok : ∀ k, k < 8 → parseFieldDescriptor (TX7 k).2.2.1 = some (tyX7 k) := by decide +kernel
abbrev cX7_init : ByteArray := prog_9_method_1_code
def yX7_init : MethodName := ⟨RX7, "<init>", "(LBagViews$Relation;IIIZ)V"⟩
abbrev cX7_makeInto : ByteArray := prog_9_method_2_code
def yX7_makeInto : MethodName := ⟨RX7, "makeInto", "(LBagViews$Bag;)Z"⟩
abbrev cX7_holds : ByteArray := prog_9_method_3_code
def yX7_holds : MethodName := ⟨RX7, "holds", "(II)Z"⟩
def RX8 : String := "BagViews$Union"
def TX8 : u_T := fun k => match k with
  | 0 => ("BagViews$View", "left", "LBagViews$Relation;", true)
  | 1 => ("BagViews$View", "right", "LBagViews$Relation;", true)
  | 2 => ("BagViews$View", "depth", "I", true)
  | _ => ("BagViews$View", "row", "[I", true)
def tyX8 : Nat → FieldType := fun k => match k with
  | 0 => .object "BagViews$Relation"
  | 1 => .object "BagViews$Relation"
  | 2 => .int
  | _ => .array .int
abbrev wsX80 : List Cond := u_ws RX8 TX8 4
theorem nmX8 : ∀ a, a < 4 → ∀ b, b < 4 → a ≠ b → (TX8 a).2.1 ≠ (TX8 b).2.1 := by decide +kernel
theorem tyX8_ok : ∀ k, k < 4 → parseFieldDescriptor (TX8 k).2.2.1 = some (tyX8 k) := by decide +kernel
abbrev cX8_init : ByteArray := prog_10_method_1_code
def yX8_init : MethodName := ⟨RX8, "<init>", "(LBagViews$Relation;LBagViews$Relation;)V"⟩
abbrev cX8_makeInto : ByteArray := prog_10_method_2_code
def yX8_makeInto : MethodName := ⟨RX8, "makeInto", "(LBagViews$Bag;)Z"⟩
def RX9 : String := "BagViews$View"
def TX9 : u_T := fun k => match k with
  | _ => ("", "", "", false)
def tyX9 : Nat → FieldType := fun k => match k with
  | _ => .int
abbrev wsX90 : List Cond := u_ws RX9 TX9 0
theorem nmX9 : ∀ a, a < 0 → ∀ b, b < 0 → a ≠ b → (TX9 a).2.1 ≠ (TX9 b).2.1 := by decide +kernel
theorem tyX9_ok : ∀ k, k < 0 → parseFieldDescriptor (TX9 k).2.2.1 = some (tyX9 k) := by decide +kernel
abbrev cX9_init : ByteArray := prog_11_method_1_code
def yX9_init : MethodName := ⟨RX9, "<init>", "(LBagViews$Relation;LBagViews$Relation;)V"⟩
abbrev cX9_isTouched : ByteArray := prog_11_method_2_code
def yX9_isTouched : MethodName := ⟨RX9, "isTouched", "()Z"⟩
def RX10 : String := "BagViews"
def TX10 : u_T := fun k => match k with
  | 0 => ("BagViews", "relations", "[LBagViews$Relation;", true)
  | _ => ("BagViews", "told", "[I", true)
def tyX10 : Nat → FieldType := fun k => match k with
  | 0 => .array (.object "BagViews$Relation")
  | _ => .array .int
abbrev wsX100 : List Cond := u_ws RX10 TX10 2
theorem nmX10 : ∀ a, a < 2 → ∀ b, b < 2 → a ≠ b → (TX10 a).2.1 ≠ (TX10 b).2.1 := by decide +kernel
theorem tyX10_ok : ∀ k, k < 2 → parseFieldDescriptor (TX10 k).2.2.1 = some (tyX10 k) := by decide +kernel
abbrev cX10_init : ByteArray := prog_1_method_1_code
def yX10_init : MethodName := ⟨RX10, "<init>", "()V"⟩
abbrev cX10_table : ByteArray := prog_1_method_2_code
def yX10_table : MethodName := ⟨RX10, "table", "(II)V"⟩
abbrev cX10_select : ByteArray := prog_1_method_3_code
def yX10_select : MethodName := ⟨RX10, "select", "(IIIIIZ)V"⟩
abbrev cX10_columns : ByteArray := prog_1_method_4_code
def yX10_columns : MethodName := ⟨RX10, "columns", "(IIIIII)V"⟩
abbrev cX10_join : ByteArray := prog_1_method_5_code
def yX10_join : MethodName := ⟨RX10, "join", "(IIIII)V"⟩
abbrev cX10_both : ByteArray := prog_1_method_6_code
def yX10_both : MethodName := ⟨RX10, "both", "(IIIZ)V"⟩
abbrev cX10_once : ByteArray := prog_1_method_7_code
def yX10_once : MethodName := ⟨RX10, "once", "(II)V"⟩
abbrev cX10_group : ByteArray := prog_1_method_8_code
def yX10_group : MethodName := ⟨RX10, "group", "(IIIII)V"⟩
abbrev cX10_drop : ByteArray := prog_1_method_9_code
def yX10_drop : MethodName := ⟨RX10, "drop", "(I)V"⟩
abbrev cX10_put : ByteArray := prog_1_method_10_code
def yX10_put : MethodName := ⟨RX10, "put", "(IIIIII)I"⟩
abbrev cX10_fill : ByteArray := prog_1_method_11_code
def yX10_fill : MethodName := ⟨RX10, "fill", "(IIIIII)I"⟩
abbrev cX10_width : ByteArray := prog_1_method_12_code
def yX10_width : MethodName := ⟨RX10, "width", "(I)I"⟩
abbrev cX10_rows : ByteArray := prog_1_method_13_code
def yX10_rows : MethodName := ⟨RX10, "rows", "(I)I"⟩
abbrev cX10_size : ByteArray := prog_1_method_14_code
def yX10_size : MethodName := ⟨RX10, "size", "(I)J"⟩
abbrev cX10_times : ByteArray := prog_1_method_15_code
def yX10_times : MethodName := ⟨RX10, "times", "(IIIII)I"⟩
abbrev cX10_cell : ByteArray := prog_1_method_16_code
def yX10_cell : MethodName := ⟨RX10, "cell", "(III)I"⟩
abbrev cX10_changed : ByteArray := prog_1_method_17_code
def yX10_changed : MethodName := ⟨RX10, "changed", "(I)I"⟩
abbrev cX10_count : ByteArray := prog_1_method_18_code
def yX10_count : MethodName := ⟨RX10, "count", "(I)I"⟩
abbrev cX10_countIn : ByteArray := prog_1_method_19_code
def yX10_countIn : MethodName := ⟨RX10, "countIn", "(LBagViews$Relation;I)I"⟩
abbrev cX10_placeAt : ByteArray := prog_1_method_20_code
def yX10_placeAt : MethodName := ⟨RX10, "placeAt", "(I)LBagViews$Relation;"⟩
abbrev cX10_relationAt : ByteArray := prog_1_method_21_code
def yX10_relationAt : MethodName := ⟨RX10, "relationAt", "(I)LBagViews$Relation;"⟩
abbrev cX10_tableAt : ByteArray := prog_1_method_22_code
def yX10_tableAt : MethodName := ⟨RX10, "tableAt", "(I)LBagViews$Relation;"⟩
abbrev cX10_needFree : ByteArray := prog_1_method_23_code
def yX10_needFree : MethodName := ⟨RX10, "needFree", "(LBagViews$Relation;)V"⟩
abbrev cX10_needColumn : ByteArray := prog_1_method_24_code
def yX10_needColumn : MethodName := ⟨RX10, "needColumn", "(LBagViews$Relation;I)V"⟩
abbrev cX10_needColumnOrNone : ByteArray := prog_1_method_25_code
def yX10_needColumnOrNone : MethodName := ⟨RX10, "needColumnOrNone", "(LBagViews$Relation;I)V"⟩
abbrev cX10_countChosen : ByteArray := prog_1_method_26_code
def yX10_countChosen : MethodName := ⟨RX10, "countChosen", "([I)I"⟩
abbrev cX10_makeView : ByteArray := prog_1_method_27_code
def yX10_makeView : MethodName := ⟨RX10, "makeView", "(LBagViews$Relation;ILBagViews$View;)V"⟩
abbrev cX10_tell : ByteArray := prog_1_method_28_code
def yX10_tell : MethodName := ⟨RX10, "tell", "(LBagViews$Relation;IIII)V"⟩
abbrev cX10_viewsFit : ByteArray := prog_1_method_29_code
def yX10_viewsFit : MethodName := ⟨RX10, "viewsFit", "(LBagViews$Relation;)Z"⟩
abbrev cX10_takeOver : ByteArray := prog_1_method_30_code
def yX10_takeOver : MethodName := ⟨RX10, "takeOver", "(Z)V"⟩
def RX11 : String := "BagViewsModel"
def TX11 : u_T := fun k => match k with
  | 0 => ("BagViewsModel", "thrown", "I", false)
  | 1 => ("BagViewsModel", "kinds", "[I", true)
  | 2 => ("BagViewsModel", "widths", "[I", true)
  | 3 => ("BagViewsModel", "lefts", "[I", true)
  | 4 => ("BagViewsModel", "rights", "[I", true)
  | 5 => ("BagViewsModel", "numbers", "[I", true)
  | 6 => ("BagViewsModel", "others", "[Z", true)
  | 7 => ("BagViewsModel", "order", "[I", true)
  | 8 => ("BagViewsModel", "orderCount", "I", false)
  | 9 => ("BagViewsModel", "changes", "[I", true)
  | 10 => ("BagViewsModel", "cells", "[I", true)
  | 11 => ("BagViewsModel", "times", "[I", true)
  | 12 => ("BagViewsModel", "counts", "[I", true)
  | 13 => ("BagViewsModel", "newCells", "[I", true)
  | 14 => ("BagViewsModel", "newTimes", "[I", true)
  | 15 => ("BagViewsModel", "newCounts", "[I", true)
  | 16 => ("BagViewsModel", "fits", "Z", false)
  | _ => ("BagViewsModel", "row", "[I", true)
def tyX11 : Nat → FieldType := fun k => match k with
  | 0 => .int
  | 1 => .array .int
  | 2 => .array .int
  | 3 => .array .int
  | 4 => .array .int
  | 5 => .array .int
  | 6 => .array .boolean
  | 7 => .array .int
  | 8 => .int
  | 9 => .array .int
  | 10 => .array .int
  | 11 => .array .int
  | 12 => .array .int
  | 13 => .array .int
  | 14 => .array .int
  | 15 => .array .int
  | 16 => .boolean
  | _ => .array .int
abbrev wsX110 : List Cond := u_ws RX11 TX11 18
theorem nmX11 : ∀ a, a < 18 → ∀ b, b < 18 → a ≠ b → (TX11 a).2.1 ≠ (TX11 b).2.1 := by decide +kernel
theorem tyX11_ok : ∀ k, k < 18 → parseFieldDescriptor (TX11 k).2.2.1 = some (tyX11 k) := by decide +kernel
abbrev cX11_init : ByteArray := prog_13_method_1_code
def yX11_init : MethodName := ⟨RX11, "<init>", "()V"⟩
abbrev cX11_thrown : ByteArray := prog_13_method_2_code
def yX11_thrown : MethodName := ⟨RX11, "thrown", "()I"⟩
abbrev cX11_place : ByteArray := prog_13_method_3_code
def yX11_place : MethodName := ⟨RX11, "place", "(I)I"⟩
abbrev cX11_isAt : ByteArray := prog_13_method_4_code
def yX11_isAt : MethodName := ⟨RX11, "isAt", "(II)Z"⟩
abbrev cX11_add : ByteArray := prog_13_method_5_code
def yX11_add : MethodName := ⟨RX11, "add", "(IJ)V"⟩
abbrev cX11_cut : ByteArray := prog_13_method_6_code
def yX11_cut : MethodName := ⟨RX11, "cut", "(II)V"⟩
abbrev cX11_cellOf : ByteArray := prog_13_method_7_code
def yX11_cellOf : MethodName := ⟨RX11, "cellOf", "(III)I"⟩
abbrev cX11_timesOf : ByteArray := prog_13_method_8_code
def yX11_timesOf : MethodName := ⟨RX11, "timesOf", "(II)J"⟩
abbrev cX11_take : ByteArray := prog_13_method_9_code
def yX11_take : MethodName := ⟨RX11, "take", "(II)V"⟩
abbrev cX11_compares : ByteArray := prog_13_method_10_code
def yX11_compares : MethodName := ⟨RX11, "compares", "(III)Z"⟩
abbrev cX11_make : ByteArray := prog_13_method_11_code
def yX11_make : MethodName := ⟨RX11, "make", "(I)V"⟩
abbrev cX11_makeRow : ByteArray := prog_13_method_12_code
def yX11_makeRow : MethodName := ⟨RX11, "makeRow", "(III)V"⟩
abbrev cX11_makeJoin : ByteArray := prog_13_method_13_code
def yX11_makeJoin : MethodName := ⟨RX11, "makeJoin", "(I)V"⟩
abbrev cX11_isSameGroup : ByteArray := prog_13_method_14_code
def yX11_isSameGroup : MethodName := ⟨RX11, "isSameGroup", "(IIII)Z"⟩
abbrev cX11_makeGroups : ByteArray := prog_13_method_15_code
def yX11_makeGroups : MethodName := ⟨RX11, "makeGroups", "(I)V"⟩
abbrev cX11_begin : ByteArray := prog_13_method_16_code
def yX11_begin : MethodName := ⟨RX11, "begin", "()V"⟩
abbrev cX11_become : ByteArray := prog_13_method_17_code
def yX11_become : MethodName := ⟨RX11, "become", "()V"⟩
abbrev cX11_difference : ByteArray := prog_13_method_18_code
def yX11_difference : MethodName := ⟨RX11, "difference", "(I)I"⟩
abbrev cX11_isPlace : ByteArray := prog_13_method_19_code
def yX11_isPlace : MethodName := ⟨RX11, "isPlace", "(I)Z"⟩
abbrev cX11_is : ByteArray := prog_13_method_20_code
def yX11_is : MethodName := ⟨RX11, "is", "(I)Z"⟩
abbrev cX11_isColumn : ByteArray := prog_13_method_21_code
def yX11_isColumn : MethodName := ⟨RX11, "isColumn", "(II)Z"⟩
abbrev cX11_enter : ByteArray := prog_13_method_22_code
def yX11_enter : MethodName := ⟨RX11, "enter", "(IIIII)V"⟩
abbrev cX11_leave : ByteArray := prog_13_method_23_code
def yX11_leave : MethodName := ⟨RX11, "leave", "(I)V"⟩
abbrev cX11_view : ByteArray := prog_13_method_24_code
def yX11_view : MethodName := ⟨RX11, "view", "(IIIII)V"⟩
abbrev cX11_table : ByteArray := prog_13_method_25_code
def yX11_table : MethodName := ⟨RX11, "table", "(II)V"⟩
abbrev cX11_select : ByteArray := prog_13_method_26_code
def yX11_select : MethodName := ⟨RX11, "select", "(IIIIIZ)V"⟩
abbrev cX11_columns : ByteArray := prog_13_method_27_code
def yX11_columns : MethodName := ⟨RX11, "columns", "(IIIIII)V"⟩
abbrev cX11_join : ByteArray := prog_13_method_28_code
def yX11_join : MethodName := ⟨RX11, "join", "(IIIII)V"⟩
abbrev cX11_both : ByteArray := prog_13_method_29_code
def yX11_both : MethodName := ⟨RX11, "both", "(IIIZ)V"⟩
abbrev cX11_once : ByteArray := prog_13_method_30_code
def yX11_once : MethodName := ⟨RX11, "once", "(II)V"⟩
abbrev cX11_group : ByteArray := prog_13_method_31_code
def yX11_group : MethodName := ⟨RX11, "group", "(IIIII)V"⟩
abbrev cX11_drop : ByteArray := prog_13_method_32_code
def yX11_drop : MethodName := ⟨RX11, "drop", "(I)V"⟩
abbrev cX11_change : ByteArray := prog_13_method_33_code
def yX11_change : MethodName := ⟨RX11, "change", "(II)V"⟩
abbrev cX11_settle : ByteArray := prog_13_method_34_code
def yX11_settle : MethodName := ⟨RX11, "settle", "()Z"⟩
abbrev cX11_setRow : ByteArray := prog_13_method_35_code
def yX11_setRow : MethodName := ⟨RX11, "setRow", "(IIII)V"⟩
abbrev cX11_timesHere : ByteArray := prog_13_method_36_code
def yX11_timesHere : MethodName := ⟨RX11, "timesHere", "(I)I"⟩
abbrev cX11_put : ByteArray := prog_13_method_37_code
def yX11_put : MethodName := ⟨RX11, "put", "(IIIIII)I"⟩
abbrev cX11_fill : ByteArray := prog_13_method_38_code
def yX11_fill : MethodName := ⟨RX11, "fill", "(IIIIII)I"⟩
abbrev cX11_width : ByteArray := prog_13_method_39_code
def yX11_width : MethodName := ⟨RX11, "width", "(I)I"⟩
abbrev cX11_rows : ByteArray := prog_13_method_40_code
def yX11_rows : MethodName := ⟨RX11, "rows", "(I)I"⟩
abbrev cX11_size : ByteArray := prog_13_method_41_code
def yX11_size : MethodName := ⟨RX11, "size", "(I)J"⟩
abbrev cX11_times : ByteArray := prog_13_method_42_code
def yX11_times : MethodName := ⟨RX11, "times", "(IIIII)I"⟩
abbrev cX11_cell : ByteArray := prog_13_method_43_code
def yX11_cell : MethodName := ⟨RX11, "cell", "(III)I"⟩
abbrev cX11_changed : ByteArray := prog_13_method_44_code
def yX11_changed : MethodName := ⟨RX11, "changed", "(I)I"⟩
abbrev cX11_count : ByteArray := prog_13_method_45_code
def yX11_count : MethodName := ⟨RX11, "count", "(I)I"⟩
def RJ9 : String := "java/lang/Math"
def TJ9 : u_T := fun k => match k with
  | _ => ("", "", "", false)
def tyJ9 : Nat → FieldType := fun k => match k with
  | _ => .int
abbrev wsJ90 : List Cond := u_ws RJ9 TJ9 0
theorem nmJ9 : ∀ a, a < 0 → ∀ b, b < 0 → a ≠ b → (TJ9 a).2.1 ≠ (TJ9 b).2.1 := by decide +kernel
theorem tyJ9_ok : ∀ k, k < 0 → parseFieldDescriptor (TJ9 k).2.2.1 = some (tyJ9 k) := by decide +kernel
abbrev cJ9_max_7cf53 : ByteArray := prog_18_method_65_code
def yJ9_max_7cf53 : MethodName := ⟨RJ9, "max", "(II)I"⟩
abbrev cJ9_min_7cf53 : ByteArray := prog_18_method_69_code
def yJ9_min_7cf53 : MethodName := ⟨RJ9, "min", "(II)I"⟩
def RJ0 : String := "java/lang/String"
def TJ0 : u_T := fun k => match k with
  | _ => ("", "", "", false)
def tyJ0 : Nat → FieldType := fun k => match k with
  | _ => .int
abbrev wsJ00 : List Cond := u_ws RJ0 TJ0 0
theorem nmJ0 : ∀ a, a < 0 → ∀ b, b < 0 → a ≠ b → (TJ0 a).2.1 ≠ (TJ0 b).2.1 := by decide +kernel
theorem tyJ0_ok : ∀ k, k < 0 → parseFieldDescriptor (TJ0 k).2.2.1 = some (tyJ0 k) := by decide +kernel
def RJ10 : String := "java/lang/System"
def TJ10 : u_T := fun k => match k with
  | _ => ("", "", "", false)
def tyJ10 : Nat → FieldType := fun k => match k with
  | _ => .int
abbrev wsJ100 : List Cond := u_ws RJ10 TJ10 0
theorem nmJ10 : ∀ a, a < 0 → ∀ b, b < 0 → a ≠ b → (TJ10 a).2.1 ≠ (TJ10 b).2.1 := by decide +kernel
theorem tyJ10_ok : ∀ k, k < 0 → parseFieldDescriptor (TJ10 k).2.2.1 = some (tyJ10 k) := by decide +kernel
def RL : String := "BagViewsLaw"
abbrev cL_table : ByteArray := method_3_code
def yL_table : MethodName := ⟨RL, "table", "(LBagViews;II)I"⟩
abbrev cL_select : ByteArray := method_4_code
def yL_select : MethodName := ⟨RL, "select", "(LBagViews;IIIIIZ)I"⟩
abbrev cL_columns : ByteArray := method_5_code
def yL_columns : MethodName := ⟨RL, "columns", "(LBagViews;IIIIII)I"⟩
abbrev cL_join : ByteArray := method_6_code
def yL_join : MethodName := ⟨RL, "join", "(LBagViews;IIIII)I"⟩
abbrev cL_both : ByteArray := method_7_code
def yL_both : MethodName := ⟨RL, "both", "(LBagViews;IIIZ)I"⟩
abbrev cL_once : ByteArray := method_8_code
def yL_once : MethodName := ⟨RL, "once", "(LBagViews;II)I"⟩
abbrev cL_group : ByteArray := method_9_code
def yL_group : MethodName := ⟨RL, "group", "(LBagViews;IIIII)I"⟩
abbrev cL_drop : ByteArray := method_10_code
def yL_drop : MethodName := ⟨RL, "drop", "(LBagViews;I)I"⟩
abbrev cL_put : ByteArray := method_11_code
def yL_put : MethodName := ⟨RL, "put", "(LBagViews;IIIIII[J)I"⟩
abbrev cL_fill : ByteArray := method_12_code
def yL_fill : MethodName := ⟨RL, "fill", "(LBagViews;IIIIII[J)I"⟩
abbrev cL_width : ByteArray := method_13_code
def yL_width : MethodName := ⟨RL, "width", "(LBagViews;I[J)I"⟩
abbrev cL_rows : ByteArray := method_14_code
def yL_rows : MethodName := ⟨RL, "rows", "(LBagViews;I[J)I"⟩
abbrev cL_size : ByteArray := method_15_code
def yL_size : MethodName := ⟨RL, "size", "(LBagViews;I[J)I"⟩
abbrev cL_times : ByteArray := method_16_code
def yL_times : MethodName := ⟨RL, "times", "(LBagViews;IIIII[J)I"⟩
abbrev cL_cell : ByteArray := method_17_code
def yL_cell : MethodName := ⟨RL, "cell", "(LBagViews;III[J)I"⟩
abbrev cL_changed : ByteArray := method_18_code
def yL_changed : MethodName := ⟨RL, "changed", "(LBagViews;I[J)I"⟩
abbrev cL_count : ByteArray := method_19_code
def yL_count : MethodName := ⟨RL, "count", "(LBagViews;I[J)I"⟩
abbrev cL_law : ByteArray := code
def yL_law : MethodName := ⟨RL, "law", "([I)Z"⟩
abbrev vwCl : List vw_C := [(RX0, TX0, 3), (RX1, TX1, 5), (RX2, TX2, 4), (RX3, TX3, 7), (RX4, TX4, 6), (RX5, TX5, 4), (RX6, TX6, 6), (RX7, TX7, 8), (RX8, TX8, 4), (RX10, TX10, 2), (RX11, TX11, 18)]
def wsL_law0_r1 : List Cond := [Cond.classLink RL 8 RX10, Cond.instantiable RX10 2, Cond.initialized RX10, Cond.classLink RL 80 RX11, Cond.instantiable RX11 18, Cond.initialized RX11, Cond.arrayClass .long, Cond.methodLink RL 79 yX10_init, Cond.instanceMethod yX10_init, Cond.code yX10_init cX10_init 2 none, Cond.methodLink RX10 1 objectInit, Cond.instanceMethod objectInit, Cond.code objectInit ⟨#[0xb1]⟩ 1 none, Cond.classLink RX10 9 RX6, Cond.fieldLink RX10 11 "BagViews" "relations" "[LBagViews$Relation;", Cond.arrayClass .int, Cond.fieldLink RX10 15 "BagViews" "told" "[I", Cond.instantiable RX6 6, Cond.initialized RX6, Cond.instanceMethod yX6_init, Cond.code yX6_init cX6_init 1 none, Cond.methodLink RX6 1 objectInit, Cond.classLink RX6 7 RX0, Cond.instantiable RX0 3]
def wsL_law0_r2 : List Cond := [Cond.initialized RX0, Cond.fieldLink RX6 10 "BagViews$Relation" "now" "LBagViews$Bag;", Cond.fieldLink RX6 16 "BagViews$Relation" "next" "LBagViews$Bag;", Cond.fieldLink RX6 19 "BagViews$Relation" "view" "LBagViews$View;", Cond.fieldLink RX6 23 "BagViews$Relation" "columnCount" "I", Cond.fieldLink RX6 27 "BagViews$Relation" "pending" "I", Cond.fieldLink RX6 30 "BagViews$Relation" "changedRows" "I", Cond.instanceMethod yX0_init, Cond.code yX0_init cX0_init 1 none, Cond.methodLink RX0 3 objectInit, Cond.fieldLink RX0 9 "BagViews$Bag" "cells" "[I", Cond.fieldLink RX0 15 "BagViews$Bag" "often" "[I", Cond.methodLink RL 82 yX11_init, Cond.instanceMethod yX11_init, Cond.code yX11_init cX11_init 1 none, Cond.methodLink RX11 1 objectInit, Cond.fieldLink RX11 7 "BagViewsModel" "kinds" "[I", Cond.fieldLink RX11 13 "BagViewsModel" "widths" "[I", Cond.fieldLink RX11 16 "BagViewsModel" "lefts" "[I", Cond.fieldLink RX11 19 "BagViewsModel" "rights" "[I", Cond.fieldLink RX11 22 "BagViewsModel" "numbers" "[I", Cond.arrayClass .boolean, Cond.fieldLink RX11 25 "BagViewsModel" "others" "[Z", Cond.fieldLink RX11 29 "BagViewsModel" "order" "[I"]
def wsL_law0_r3 : List Cond := [Cond.fieldLink RX11 32 "BagViewsModel" "changes" "[I", Cond.fieldLink RX11 35 "BagViewsModel" "cells" "[I", Cond.fieldLink RX11 38 "BagViewsModel" "times" "[I", Cond.fieldLink RX11 41 "BagViewsModel" "counts" "[I", Cond.fieldLink RX11 44 "BagViewsModel" "newCells" "[I", Cond.fieldLink RX11 47 "BagViewsModel" "newTimes" "[I", Cond.fieldLink RX11 50 "BagViewsModel" "newCounts" "[I", Cond.fieldLink RX11 53 "BagViewsModel" "row" "[I", Cond.methodLink RL 83 yL_table, Cond.static yL_table, Cond.initialized RL, Cond.codeWith yL_table cL_table 4 (some .int) [(0, 6, 9, 13), (0, 6, 12, 15), (0, 6, 15, 17)], Cond.classLink RL 13 "java/lang/IndexOutOfBoundsException", Cond.classLink RL 15 "java/lang/IllegalStateException", Cond.classLink RL 17 "java/lang/IllegalArgumentException", Cond.methodLink RL 7 yX10_table, Cond.instanceMethod yX10_table, Cond.selects RX10 yX10_table yX10_table, Cond.code yX10_table cX10_table 4 none, Cond.classLink RX10 28 "java/lang/IllegalArgumentException", Cond.initialized "java/lang/IllegalArgumentException", Cond.methodLink RX10 20 yX10_placeAt, Cond.instanceMethod yX10_placeAt, Cond.selects RX10 yX10_placeAt yX10_placeAt]
def wsL_law0_r4 : List Cond := [Cond.code yX10_placeAt cX10_placeAt 2 (some (.object "BagViews$Relation")), Cond.classLink RX10 165 "java/lang/IndexOutOfBoundsException", Cond.initialized "java/lang/IndexOutOfBoundsException", Cond.methodLink RX10 24 yX10_needFree, Cond.static yX10_needFree, Cond.code yX10_needFree cX10_needFree 1 none, Cond.classLink RX10 114 "java/lang/IllegalStateException", Cond.initialized "java/lang/IllegalStateException", Cond.methodLink RX10 182 yX6_isThere, Cond.instanceMethod yX6_isThere, Cond.selects RX6 yX6_isThere yX6_isThere, Cond.code yX6_isThere cX6_isThere 1 (some .boolean), Cond.methodLink RX10 39 yX0_clear, Cond.instanceMethod yX0_clear, Cond.selects RX0 yX0_clear yX0_clear, Cond.code yX0_clear cX0_clear 1 none, Cond.fieldLink RX0 18 "BagViews$Bag" "rowCount" "I", Cond.methodLink RX10 44 yX6_begin, Cond.instanceMethod yX6_begin, Cond.selects RX6 yX6_begin yX6_begin, Cond.code yX6_begin cX6_begin 3 none, Cond.methodLink RL 88 yX11_table, Cond.instanceMethod yX11_table, Cond.selects RX11 yX11_table yX11_table]
def wsL_law0_r5 : List Cond := [Cond.code yX11_table cX11_table 3 none, Cond.fieldLink RX11 56 "BagViewsModel" "thrown" "I", Cond.methodLink RX11 109 yX11_isPlace, Cond.static yX11_isPlace, Cond.code yX11_isPlace cX11_isPlace 1 (some .boolean), Cond.methodLink RX11 119 yX11_enter, Cond.instanceMethod yX11_enter, Cond.selects RX11 yX11_enter yX11_enter, Cond.code yX11_enter cX11_enter 6 none, Cond.fieldLink RX11 116 "BagViewsModel" "orderCount" "I", Cond.methodLink RL 89 yX11_thrown, Cond.instanceMethod yX11_thrown, Cond.selects RX11 yX11_thrown yX11_thrown, Cond.code yX11_thrown cX11_thrown 1 (some .int), Cond.methodLink RL 93 yL_select, Cond.static yL_select, Cond.codeWith yL_select cL_select 8 (some .int) [(0, 13, 16, 13), (0, 13, 20, 15), (0, 13, 24, 17), (0, 13, 28, 23)], Cond.classLink RL 23 "java/lang/UnsupportedOperationException", Cond.methodLink RL 19 yX10_select, Cond.instanceMethod yX10_select, Cond.selects RX10 yX10_select yX10_select, Cond.code yX10_select cX10_select 9 none, Cond.classLink RX10 61 RX7, Cond.instantiable RX7 8]
def wsL_law0_r6 : List Cond := [Cond.initialized RX7, Cond.methodLink RX10 48 yX10_relationAt, Cond.instanceMethod yX10_relationAt, Cond.selects RX10 yX10_relationAt yX10_relationAt, Cond.code yX10_relationAt cX10_relationAt 3 (some (.object "BagViews$Relation")), Cond.methodLink RX10 51 yX10_needColumn, Cond.static yX10_needColumn, Cond.code yX10_needColumn cX10_needColumn 2 none, Cond.methodLink RX10 63 yX7_init, Cond.instanceMethod yX7_init, Cond.code yX7_init cX7_init 6 none, Cond.fieldLink RX7 9 "BagViews$Selection" "column" "I", Cond.fieldLink RX7 15 "BagViews$Selection" "compare" "I", Cond.fieldLink RX7 18 "BagViews$Selection" "than" "I", Cond.fieldLink RX7 21 "BagViews$Selection" "thanColumn" "Z", Cond.methodLink RX7 3 yX9_init, Cond.instanceMethod yX9_init, Cond.initialized RX9, Cond.code yX9_init cX9_init 3 none, Cond.methodLink RX9 3 objectInit, Cond.fieldLink RX9 9 "BagViews$View" "row" "[I", Cond.fieldLink RX9 15 "BagViews$View" "left" "LBagViews$Relation;", Cond.fieldLink RX9 19 "BagViews$View" "right" "LBagViews$Relation;", Cond.methodLink RX9 28 Lib.Math.max.name]
def wsL_law0_r7 : List Cond := [Cond.static Lib.Math.max.name, Cond.initialized "java/lang/Math", Cond.code Lib.Math.max.name Lib.Math.max.code 2 (some .int), Cond.fieldLink RX9 34 "BagViews$View" "depth" "I", Cond.methodLink RX9 22 yX6_depth, Cond.instanceMethod yX6_depth, Cond.selects RX6 yX6_depth yX6_depth, Cond.code yX6_depth cX6_depth 1 (some .int), Cond.fieldLink RX6 42 "BagViews$View" "depth" "I", Cond.methodLink RX10 66 yX10_makeView, Cond.static yX10_makeView, Cond.code yX10_makeView cX10_makeView 3 none, Cond.classLink RX10 214 "java/lang/UnsupportedOperationException", Cond.initialized "java/lang/UnsupportedOperationException", Cond.methodLink RX10 208 ⟨"BagViews$View", "makeInto", "(LBagViews$Bag;)Z"⟩, Cond.sameMethod "BagViews$View" "BagViews$View" "makeInto" "(LBagViews$Bag;)Z", Cond.selects RX1 ⟨"BagViews$View", "makeInto", "(LBagViews$Bag;)Z"⟩ yX1_makeInto, Cond.instanceMethod yX1_makeInto, Cond.initialized RX1, Cond.code yX1_makeInto cX1_makeInto 6 (some .boolean), Cond.fieldLink RX1 15 "BagViews$Choice" "left" "LBagViews$Relation;", Cond.sameField "BagViews$Choice" "BagViews$View" "left" "LBagViews$Relation;", Cond.fieldLink RX1 31 "BagViews$Choice" "row" "[I", Cond.sameField "BagViews$Choice" "BagViews$View" "row" "[I"]
def wsL_law0_r8 : List Cond := [Cond.fieldLink RX1 9 "BagViews$Choice" "chosen" "[I", Cond.methodLink RX1 19 yX6_latest, Cond.instanceMethod yX6_latest, Cond.selects RX6 yX6_latest yX6_latest, Cond.code yX6_latest cX6_latest 1 (some (.object "BagViews$Bag")), Cond.methodLink RX1 34 yX0_cellAt, Cond.instanceMethod yX0_cellAt, Cond.selects RX0 yX0_cellAt yX0_cellAt, Cond.code yX0_cellAt cX0_cellAt 3 (some .int), Cond.methodLink RX1 41 yX0_add, Cond.instanceMethod yX0_add, Cond.selects RX0 yX0_add yX0_add, Cond.code yX0_add cX0_add 5 (some .boolean), Cond.methodLink RX0 28 yX0_placeBehind, Cond.instanceMethod yX0_placeBehind, Cond.selects RX0 yX0_placeBehind yX0_placeBehind, Cond.code yX0_placeBehind cX0_placeBehind 3 (some .int), Cond.methodLink RX0 44 yX0_compareRow, Cond.instanceMethod yX0_compareRow, Cond.selects RX0 yX0_compareRow yX0_compareRow, Cond.code yX0_compareRow cX0_compareRow 7 (some .int), Cond.methodLink RX0 32 yX0_isAt, Cond.instanceMethod yX0_isAt, Cond.selects RX0 yX0_isAt yX0_isAt]
def wsL_law0_r9 : List Cond := [Cond.code yX0_isAt cX0_isAt 3 (some .boolean), Cond.methodLink RX0 36 yX0_setTimes, Cond.instanceMethod yX0_setTimes, Cond.selects RX0 yX0_setTimes yX0_setTimes, Cond.code yX0_setTimes cX0_setTimes 4 (some .boolean), Cond.constantLong RX0 48 (1000000000), Cond.methodLink RX0 50 yX0_remove, Cond.instanceMethod yX0_remove, Cond.selects RX0 yX0_remove yX0_remove, Cond.code yX0_remove cX0_remove 4 none, Cond.methodLink RX0 22 arraycopyName, Cond.native arraycopyName, Cond.static arraycopyName, Cond.initialized "java/lang/System", Cond.methodLink RX0 40 yX0_insert, Cond.instanceMethod yX0_insert, Cond.selects RX0 yX0_insert yX0_insert, Cond.code yX0_insert cX0_insert 7 (some .boolean), Cond.selects RX2 ⟨"BagViews$View", "makeInto", "(LBagViews$Bag;)Z"⟩ yX2_makeInto, Cond.instanceMethod yX2_makeInto, Cond.initialized RX2, Cond.code yX2_makeInto cX2_makeInto 6 (some .boolean), Cond.fieldLink RX2 7 "BagViews$Difference" "left" "LBagViews$Relation;", Cond.sameField "BagViews$Difference" "BagViews$View" "left" "LBagViews$Relation;"]
def wsL_law0_r10 : List Cond := [Cond.fieldLink RX2 19 "BagViews$Difference" "right" "LBagViews$Relation;", Cond.sameField "BagViews$Difference" "BagViews$View" "right" "LBagViews$Relation;", Cond.fieldLink RX2 28 "BagViews$Difference" "row" "[I", Cond.sameField "BagViews$Difference" "BagViews$View" "row" "[I", Cond.methodLink RX2 13 yX6_latest, Cond.methodLink RX2 32 yX0_readRow, Cond.instanceMethod yX0_readRow, Cond.selects RX0 yX0_readRow yX0_readRow, Cond.code yX0_readRow cX0_readRow 3 none, Cond.methodLink RX2 39 yX0_timesOf, Cond.instanceMethod yX0_timesOf, Cond.selects RX0 yX0_timesOf yX0_timesOf, Cond.code yX0_timesOf cX0_timesOf 3 (some .int), Cond.methodLink RX2 43 yX0_add, Cond.selects RX3 ⟨"BagViews$View", "makeInto", "(LBagViews$Bag;)Z"⟩ yX3_makeInto, Cond.instanceMethod yX3_makeInto, Cond.initialized RX3, Cond.code yX3_makeInto cX3_makeInto 5 (some .boolean), Cond.fieldLink RX3 21 "BagViews$Group" "left" "LBagViews$Relation;", Cond.sameField "BagViews$Group" "BagViews$View" "left" "LBagViews$Relation;", Cond.fieldLink RX3 40 "BagViews$Group" "row" "[I", Cond.sameField "BagViews$Group" "BagViews$View" "row" "[I", Cond.fieldLink RX3 9 "BagViews$Group" "by" "I", Cond.methodLink RX3 25 yX6_latest]
def wsL_law0_r11 : List Cond := [Cond.methodLink RX3 36 yX3_isFirst, Cond.instanceMethod yX3_isFirst, Cond.selects RX3 yX3_isFirst yX3_isFirst, Cond.code yX3_isFirst cX3_isFirst 4 (some .boolean), Cond.methodLink RX3 56 yX3_isTogether, Cond.instanceMethod yX3_isTogether, Cond.selects RX3 yX3_isTogether yX3_isTogether, Cond.code yX3_isTogether cX3_isTogether 4 (some .boolean), Cond.methodLink RX3 44 yX0_cellAt, Cond.methodLink RX3 48 yX3_valueFrom, Cond.instanceMethod yX3_valueFrom, Cond.selects RX3 yX3_valueFrom yX3_valueFrom, Cond.code yX3_valueFrom cX3_valueFrom 5 (some .int), Cond.fieldLink RX3 15 "BagViews$Group" "sort" "I", Cond.fieldLink RX3 18 "BagViews$Group" "column" "I", Cond.methodLink RX3 63 yX3_withRow, Cond.instanceMethod yX3_withRow, Cond.selects RX3 yX3_withRow yX3_withRow, Cond.code yX3_withRow cX3_withRow 4 (some .int), Cond.methodLink RX3 67 Lib.Math.min.name, Cond.static Lib.Math.min.name, Cond.code Lib.Math.min.name Lib.Math.min.code 2 (some .int), Cond.methodLink RX3 72 Lib.Math.max.name, Cond.methodLink RX3 52 yX0_add]
def wsL_law0_r12 : List Cond := [Cond.selects RX4 ⟨"BagViews$View", "makeInto", "(LBagViews$Bag;)Z"⟩ yX4_makeInto, Cond.instanceMethod yX4_makeInto, Cond.initialized RX4, Cond.code yX4_makeInto cX4_makeInto 6 (some .boolean), Cond.fieldLink RX4 18 "BagViews$Join" "left" "LBagViews$Relation;", Cond.sameField "BagViews$Join" "BagViews$View" "left" "LBagViews$Relation;", Cond.fieldLink RX4 28 "BagViews$Join" "right" "LBagViews$Relation;", Cond.sameField "BagViews$Join" "BagViews$View" "right" "LBagViews$Relation;", Cond.fieldLink RX4 9 "BagViews$Join" "leftColumn" "I", Cond.fieldLink RX4 15 "BagViews$Join" "rightColumn" "I", Cond.fieldLink RX4 44 "BagViews$Join" "row" "[I", Cond.sameField "BagViews$Join" "BagViews$View" "row" "[I", Cond.methodLink RX4 22 yX6_latest, Cond.methodLink RX4 36 yX0_cellAt, Cond.methodLink RX4 40 yX4_readPair, Cond.instanceMethod yX4_readPair, Cond.selects RX4 yX4_readPair yX4_readPair, Cond.code yX4_readPair cX4_readPair 6 none, Cond.methodLink RX4 55 yX0_readRow, Cond.methodLink RX4 51 yX0_add, Cond.selects RX5 ⟨"BagViews$View", "makeInto", "(LBagViews$Bag;)Z"⟩ yX5_makeInto, Cond.instanceMethod yX5_makeInto, Cond.initialized RX5, Cond.code yX5_makeInto cX5_makeInto 5 (some .boolean)]
def wsL_law0_r13 : List Cond := [Cond.fieldLink RX5 7 "BagViews$Once" "left" "LBagViews$Relation;", Cond.sameField "BagViews$Once" "BagViews$View" "left" "LBagViews$Relation;", Cond.fieldLink RX5 25 "BagViews$Once" "row" "[I", Cond.sameField "BagViews$Once" "BagViews$View" "row" "[I", Cond.methodLink RX5 13 yX6_latest, Cond.methodLink RX5 29 yX0_readRow, Cond.methodLink RX5 33 yX0_add, Cond.selects RX7 ⟨"BagViews$View", "makeInto", "(LBagViews$Bag;)Z"⟩ yX7_makeInto, Cond.instanceMethod yX7_makeInto, Cond.code yX7_makeInto cX7_makeInto 6 (some .boolean), Cond.fieldLink RX7 25 "BagViews$Selection" "left" "LBagViews$Relation;", Cond.sameField "BagViews$Selection" "BagViews$View" "left" "LBagViews$Relation;", Cond.fieldLink RX7 48 "BagViews$Selection" "row" "[I", Cond.sameField "BagViews$Selection" "BagViews$View" "row" "[I", Cond.methodLink RX7 29 yX6_latest, Cond.methodLink RX7 40 yX0_cellAt, Cond.methodLink RX7 44 yX7_holds, Cond.instanceMethod yX7_holds, Cond.selects RX7 yX7_holds yX7_holds, Cond.code yX7_holds cX7_holds 3 (some .boolean), Cond.methodLink RX7 52 yX0_readRow, Cond.methodLink RX7 59 yX0_add, Cond.selects RX8 ⟨"BagViews$View", "makeInto", "(LBagViews$Bag;)Z"⟩ yX8_makeInto, Cond.instanceMethod yX8_makeInto]
def wsL_law0_r14 : List Cond := [Cond.initialized RX8, Cond.code yX8_makeInto cX8_makeInto 5 (some .boolean), Cond.fieldLink RX8 7 "BagViews$Union" "left" "LBagViews$Relation;", Cond.sameField "BagViews$Union" "BagViews$View" "left" "LBagViews$Relation;", Cond.fieldLink RX8 25 "BagViews$Union" "right" "LBagViews$Relation;", Cond.sameField "BagViews$Union" "BagViews$View" "right" "LBagViews$Relation;", Cond.fieldLink RX8 32 "BagViews$Union" "row" "[I", Cond.sameField "BagViews$Union" "BagViews$View" "row" "[I", Cond.methodLink RX8 13 yX6_latest, Cond.methodLink RX8 19 yX0_copyFrom, Cond.instanceMethod yX0_copyFrom, Cond.selects RX0 yX0_copyFrom yX0_copyFrom, Cond.code yX0_copyFrom cX0_copyFrom 2 none, Cond.methodLink RX8 36 yX0_readRow, Cond.methodLink RX8 43 yX0_add, Cond.methodLink RL 96 yX11_select, Cond.instanceMethod yX11_select, Cond.selects RX11 yX11_select yX11_select, Cond.code yX11_select cX11_select 8 none, Cond.methodLink RX11 135 yX11_isColumn, Cond.instanceMethod yX11_isColumn, Cond.selects RX11 yX11_isColumn yX11_isColumn, Cond.code yX11_isColumn cX11_isColumn 3 (some .boolean), Cond.methodLink RX11 113 yX11_is]
def wsL_law0_r15 : List Cond := [Cond.instanceMethod yX11_is, Cond.selects RX11 yX11_is yX11_is, Cond.code yX11_is cX11_is 2 (some .boolean), Cond.methodLink RX11 138 yX11_view, Cond.instanceMethod yX11_view, Cond.selects RX11 yX11_view yX11_view, Cond.code yX11_view cX11_view 6 none, Cond.fieldLink RX11 68 "BagViewsModel" "fits" "Z", Cond.methodLink RX11 123 yX11_begin, Cond.instanceMethod yX11_begin, Cond.selects RX11 yX11_begin yX11_begin, Cond.code yX11_begin cX11_begin 4 none, Cond.methodLink RX11 126 yX11_make, Cond.instanceMethod yX11_make, Cond.selects RX11 yX11_make yX11_make, Cond.code yX11_make cX11_make 4 none, Cond.methodLink RX11 78 yX11_makeJoin, Cond.instanceMethod yX11_makeJoin, Cond.selects RX11 yX11_makeJoin yX11_makeJoin, Cond.code yX11_makeJoin cX11_makeJoin 7 none, Cond.methodLink RX11 74 yX11_cellOf, Cond.instanceMethod yX11_cellOf, Cond.selects RX11 yX11_cellOf yX11_cellOf, Cond.code yX11_cellOf cX11_cellOf 4 (some .int)]
def wsL_law0_r16 : List Cond := [Cond.methodLink RX11 93 yX11_timesOf, Cond.instanceMethod yX11_timesOf, Cond.selects RX11 yX11_timesOf yX11_timesOf, Cond.code yX11_timesOf cX11_timesOf 3 (some .long), Cond.methodLink RX11 97 yX11_add, Cond.instanceMethod yX11_add, Cond.selects RX11 yX11_add yX11_add, Cond.code yX11_add cX11_add 8 none, Cond.constantLong RX11 72 (1000000000), Cond.methodLink RX11 60 yX11_place, Cond.instanceMethod yX11_place, Cond.selects RX11 yX11_place yX11_place, Cond.code yX11_place cX11_place 8 (some .int), Cond.methodLink RX11 64 yX11_isAt, Cond.instanceMethod yX11_isAt, Cond.selects RX11 yX11_isAt yX11_isAt, Cond.code yX11_isAt cX11_isAt 5 (some .boolean), Cond.methodLink RX11 82 yX11_makeGroups, Cond.instanceMethod yX11_makeGroups, Cond.selects RX11 yX11_makeGroups yX11_makeGroups, Cond.code yX11_makeGroups cX11_makeGroups 12 none, Cond.methodLink RX11 105 yX11_isSameGroup, Cond.instanceMethod yX11_isSameGroup, Cond.selects RX11 yX11_isSameGroup yX11_isSameGroup]
def wsL_law0_r17 : List Cond := [Cond.code yX11_isSameGroup cX11_isSameGroup 5 (some .boolean), Cond.methodLink RX11 85 yX11_makeRow, Cond.instanceMethod yX11_makeRow, Cond.selects RX11 yX11_makeRow yX11_makeRow, Cond.code yX11_makeRow cX11_makeRow 8 none, Cond.methodLink RX11 89 yX11_take, Cond.instanceMethod yX11_take, Cond.selects RX11 yX11_take yX11_take, Cond.code yX11_take cX11_take 4 none, Cond.methodLink RX11 101 yX11_compares, Cond.static yX11_compares, Cond.code yX11_compares cX11_compares 3 (some .boolean), Cond.methodLink RX11 129 yX11_become, Cond.instanceMethod yX11_become, Cond.selects RX11 yX11_become yX11_become, Cond.code yX11_become cX11_become 4 none, Cond.methodLink RX11 132 yX11_leave, Cond.instanceMethod yX11_leave, Cond.selects RX11 yX11_leave yX11_leave, Cond.code yX11_leave cX11_leave 4 none, Cond.methodLink RL 97 yL_columns, Cond.static yL_columns, Cond.codeWith yL_columns cL_columns 8 (some .int) [(0, 13, 16, 13), (0, 13, 20, 15), (0, 13, 24, 17), (0, 13, 28, 23)], Cond.methodLink RL 25 yX10_columns]
def wsL_law0_r18 : List Cond := [Cond.instanceMethod yX10_columns, Cond.selects RX10 yX10_columns yX10_columns, Cond.code yX10_columns cX10_columns 10 none, Cond.classLink RX10 77 RX1, Cond.instantiable RX1 5, Cond.methodLink RX10 70 yX10_needColumnOrNone, Cond.static yX10_needColumnOrNone, Cond.code yX10_needColumnOrNone cX10_needColumnOrNone 2 none, Cond.methodLink RX10 73 yX10_countChosen, Cond.static yX10_countChosen, Cond.code yX10_countChosen cX10_countChosen 3 (some .int), Cond.methodLink RX10 79 yX1_init, Cond.instanceMethod yX1_init, Cond.code yX1_init cX1_init 3 none, Cond.methodLink RX1 3 yX9_init, Cond.methodLink RL 100 yX11_columns, Cond.instanceMethod yX11_columns, Cond.selects RX11 yX11_columns yX11_columns, Cond.code yX11_columns cX11_columns 12 none, Cond.methodLink RL 101 yL_join, Cond.static yL_join, Cond.codeWith yL_join cL_join 7 (some .int) [(0, 11, 14, 13), (0, 11, 18, 15), (0, 11, 22, 17), (0, 11, 26, 23)], Cond.methodLink RL 29 yX10_join, Cond.instanceMethod yX10_join]
def wsL_law0_r19 : List Cond := [Cond.selects RX10 yX10_join yX10_join, Cond.code yX10_join cX10_join 10 none, Cond.classLink RX10 84 RX4, Cond.instantiable RX4 6, Cond.methodLink RX10 86 yX4_init, Cond.instanceMethod yX4_init, Cond.code yX4_init cX4_init 5 none, Cond.methodLink RX4 3 yX9_init, Cond.methodLink RL 104 yX11_join, Cond.instanceMethod yX11_join, Cond.selects RX11 yX11_join yX11_join, Cond.code yX11_join cX11_join 7 none, Cond.methodLink RL 105 yL_both, Cond.static yL_both, Cond.codeWith yL_both cL_both 6 (some .int) [(0, 9, 12, 13), (0, 9, 16, 15), (0, 9, 20, 17), (0, 9, 24, 23)], Cond.methodLink RL 33 yX10_both, Cond.instanceMethod yX10_both, Cond.selects RX10 yX10_both yX10_both, Cond.code yX10_both cX10_both 9 none, Cond.classLink RX10 91 RX2, Cond.instantiable RX2 4, Cond.classLink RX10 96 RX8, Cond.instantiable RX8 4, Cond.methodLink RX10 93 yX2_init]
def wsL_law0_r20 : List Cond := [Cond.instanceMethod yX2_init, Cond.code yX2_init cX2_init 3 none, Cond.methodLink RX2 1 yX9_init, Cond.methodLink RX10 98 yX8_init, Cond.instanceMethod yX8_init, Cond.code yX8_init cX8_init 3 none, Cond.methodLink RX8 1 yX9_init, Cond.methodLink RL 108 yX11_both, Cond.instanceMethod yX11_both, Cond.selects RX11 yX11_both yX11_both, Cond.code yX11_both cX11_both 6 none, Cond.methodLink RL 109 yL_once, Cond.static yL_once, Cond.codeWith yL_once cL_once 4 (some .int) [(0, 6, 9, 13), (0, 6, 12, 15), (0, 6, 15, 23)], Cond.methodLink RL 37 yX10_once, Cond.instanceMethod yX10_once, Cond.selects RX10 yX10_once yX10_once, Cond.code yX10_once cX10_once 5 none, Cond.classLink RX10 99 RX5, Cond.instantiable RX5 4, Cond.methodLink RX10 101 yX5_init, Cond.instanceMethod yX5_init, Cond.code yX5_init cX5_init 2 none, Cond.methodLink RX5 1 yX9_init]
def wsL_law0_r21 : List Cond := [Cond.methodLink RL 111 yX11_once, Cond.instanceMethod yX11_once, Cond.selects RX11 yX11_once yX11_once, Cond.code yX11_once cX11_once 4 none, Cond.methodLink RL 112 yL_group, Cond.static yL_group, Cond.codeWith yL_group cL_group 7 (some .int) [(0, 11, 14, 13), (0, 11, 18, 15), (0, 11, 22, 17), (0, 11, 26, 23)], Cond.methodLink RL 40 yX10_group, Cond.instanceMethod yX10_group, Cond.selects RX10 yX10_group yX10_group, Cond.code yX10_group cX10_group 8 none, Cond.classLink RX10 105 RX3, Cond.instantiable RX3 7, Cond.methodLink RX10 107 yX3_init, Cond.instanceMethod yX3_init, Cond.code yX3_init cX3_init 5 none, Cond.methodLink RX3 3 yX9_init, Cond.methodLink RL 114 yX11_group, Cond.instanceMethod yX11_group, Cond.selects RX11 yX11_group yX11_group, Cond.code yX11_group cX11_group 7 none, Cond.methodLink RL 115 yL_drop, Cond.static yL_drop, Cond.codeWith yL_drop cL_drop 3 (some .int) [(0, 5, 8, 13), (0, 5, 11, 15)]]
def wsL_law0_r22 : List Cond := [Cond.methodLink RL 43 yX10_drop, Cond.instanceMethod yX10_drop, Cond.selects RX10 yX10_drop yX10_drop, Cond.code yX10_drop cX10_drop 7 none, Cond.methodLink RX10 110 yX6_isOf, Cond.instanceMethod yX6_isOf, Cond.selects RX6 yX6_isOf yX6_isOf, Cond.code yX6_isOf cX6_isOf 2 (some .boolean), Cond.fieldLink RX6 33 "BagViews$View" "left" "LBagViews$Relation;", Cond.fieldLink RX6 39 "BagViews$View" "right" "LBagViews$Relation;", Cond.methodLink RX10 119 yX6_end, Cond.instanceMethod yX6_end, Cond.selects RX6 yX6_end yX6_end, Cond.code yX6_end cX6_end 1 none, Cond.methodLink RL 118 yX11_drop, Cond.instanceMethod yX11_drop, Cond.selects RX11 yX11_drop yX11_drop, Cond.code yX11_drop cX11_drop 4 none, Cond.methodLink RL 119 yL_put, Cond.static yL_put, Cond.codeWith yL_put cL_put 9 (some .int) [(0, 18, 21, 13), (0, 18, 25, 15), (0, 18, 29, 17), (0, 18, 33, 23)], Cond.methodLink RL 47 yX10_put, Cond.instanceMethod yX10_put, Cond.selects RX10 yX10_put yX10_put]
def wsL_law0_r23 : List Cond := [Cond.code yX10_put cX10_put 9 (some .int), Cond.constant RX10 125 (-1000000), Cond.constant RX10 126 (1000000), Cond.methodLink RX10 122 yX10_tableAt, Cond.instanceMethod yX10_tableAt, Cond.selects RX10 yX10_tableAt yX10_tableAt, Cond.code yX10_tableAt cX10_tableAt 3 (some (.object "BagViews$Relation")), Cond.methodLink RX10 129 yX10_tell, Cond.instanceMethod yX10_tell, Cond.selects RX10 yX10_tell yX10_tell, Cond.code yX10_tell cX10_tell 6 none, Cond.methodLink RX10 133 yX0_timesOf, Cond.methodLink RX10 141 yX0_copyFrom, Cond.methodLink RX10 145 yX0_add, Cond.methodLink RX10 149 yX10_viewsFit, Cond.instanceMethod yX10_viewsFit, Cond.selects RX10 yX10_viewsFit yX10_viewsFit, Cond.code yX10_viewsFit cX10_viewsFit 7 (some .boolean), Cond.methodLink RX10 219 yX0_countDifferent, Cond.instanceMethod yX0_countDifferent, Cond.selects RX0 yX0_countDifferent yX0_countDifferent, Cond.code yX0_countDifferent cX0_countDifferent 6 (some .int), Cond.methodLink RX10 226 yX6_depth, Cond.methodLink RX10 230 yX6_remake]
def wsL_law0_r24 : List Cond := [Cond.instanceMethod yX6_remake, Cond.selects RX6 yX6_remake yX6_remake, Cond.code yX6_remake cX6_remake 1 (some .boolean), Cond.methodLink RX6 45 ⟨"BagViews$View", "isTouched", "()Z"⟩, Cond.sameMethod "BagViews$View" "BagViews$View" "isTouched" "()Z", Cond.selects RX1 ⟨"BagViews$View", "isTouched", "()Z"⟩ yX9_isTouched, Cond.instanceMethod yX9_isTouched, Cond.code yX9_isTouched cX9_isTouched 1 (some .boolean), Cond.selects RX2 ⟨"BagViews$View", "isTouched", "()Z"⟩ yX9_isTouched, Cond.selects RX3 ⟨"BagViews$View", "isTouched", "()Z"⟩ yX9_isTouched, Cond.selects RX4 ⟨"BagViews$View", "isTouched", "()Z"⟩ yX9_isTouched, Cond.selects RX5 ⟨"BagViews$View", "isTouched", "()Z"⟩ yX9_isTouched, Cond.selects RX7 ⟨"BagViews$View", "isTouched", "()Z"⟩ yX9_isTouched, Cond.selects RX8 ⟨"BagViews$View", "isTouched", "()Z"⟩ yX9_isTouched, Cond.methodLink RX6 49 yX0_clear, Cond.methodLink RX6 52 ⟨"BagViews$View", "makeInto", "(LBagViews$Bag;)Z"⟩, Cond.methodLink RX6 56 yX0_countDifferent, Cond.methodLink RX10 152 yX10_takeOver, Cond.instanceMethod yX10_takeOver, Cond.selects RX10 yX10_takeOver yX10_takeOver, Cond.code yX10_takeOver cX10_takeOver 6 none, Cond.methodLink RX10 233 yX6_settle, Cond.instanceMethod yX6_settle, Cond.selects RX6 yX6_settle yX6_settle]
def wsL_law0_r25 : List Cond := [Cond.code yX6_settle cX6_settle 3 none, Cond.methodLink RL 122 yX11_put, Cond.instanceMethod yX11_put, Cond.selects RX11 yX11_put yX11_put, Cond.code yX11_put cX11_put 8 (some .int), Cond.constant RX11 151 (-1000000), Cond.constant RX11 152 (1000000), Cond.methodLink RX11 147 yX11_setRow, Cond.instanceMethod yX11_setRow, Cond.selects RX11 yX11_setRow yX11_setRow, Cond.code yX11_setRow cX11_setRow 5 none, Cond.methodLink RX11 153 yX11_timesHere, Cond.instanceMethod yX11_timesHere, Cond.selects RX11 yX11_timesHere yX11_timesHere, Cond.code yX11_timesHere cX11_timesHere 5 (some .int), Cond.methodLink RX11 156 yX11_change, Cond.instanceMethod yX11_change, Cond.selects RX11 yX11_change yX11_change, Cond.code yX11_change cX11_change 4 none, Cond.methodLink RX11 141 yX11_cut, Cond.instanceMethod yX11_cut, Cond.selects RX11 yX11_cut yX11_cut, Cond.code yX11_cut cX11_cut 5 none, Cond.methodLink RX11 159 yX11_settle]
def wsL_law0_r26 : List Cond := [Cond.instanceMethod yX11_settle, Cond.selects RX11 yX11_settle yX11_settle, Cond.code yX11_settle cX11_settle 2 (some .boolean), Cond.methodLink RX11 144 yX11_difference, Cond.instanceMethod yX11_difference, Cond.selects RX11 yX11_difference yX11_difference, Cond.code yX11_difference cX11_difference 10 (some .int), Cond.methodLink RL 123 yL_fill, Cond.static yL_fill, Cond.codeWith yL_fill cL_fill 9 (some .int) [(0, 18, 21, 13), (0, 18, 25, 15), (0, 18, 29, 17), (0, 18, 33, 23)], Cond.methodLink RL 51 yX10_fill, Cond.instanceMethod yX10_fill, Cond.selects RX10 yX10_fill yX10_fill, Cond.code yX10_fill cX10_fill 10 (some .int), Cond.methodLink RL 125 yX11_fill, Cond.instanceMethod yX11_fill, Cond.selects RX11 yX11_fill yX11_fill, Cond.code yX11_fill cX11_fill 8 (some .int), Cond.methodLink RL 126 yL_width, Cond.static yL_width, Cond.codeWith yL_width cL_width 4 (some .int) [(0, 9, 12, 13)], Cond.methodLink RL 54 yX10_width, Cond.instanceMethod yX10_width, Cond.selects RX10 yX10_width yX10_width]
def wsL_law0_r27 : List Cond := [Cond.code yX10_width cX10_width 2 (some .int), Cond.methodLink RL 129 yX11_width, Cond.instanceMethod yX11_width, Cond.selects RX11 yX11_width yX11_width, Cond.code yX11_width cX11_width 2 (some .int), Cond.methodLink RL 130 yL_rows, Cond.static yL_rows, Cond.codeWith yL_rows cL_rows 4 (some .int) [(0, 9, 12, 13)], Cond.methodLink RL 58 yX10_rows, Cond.instanceMethod yX10_rows, Cond.selects RX10 yX10_rows yX10_rows, Cond.code yX10_rows cX10_rows 2 (some .int), Cond.methodLink RL 132 yX11_rows, Cond.instanceMethod yX11_rows, Cond.selects RX11 yX11_rows yX11_rows, Cond.code yX11_rows cX11_rows 2 (some .int), Cond.methodLink RL 133 yL_size, Cond.static yL_size, Cond.codeWith yL_size cL_size 4 (some .int) [(0, 8, 11, 13)], Cond.methodLink RL 61 yX10_size, Cond.instanceMethod yX10_size, Cond.selects RX10 yX10_size yX10_size, Cond.code yX10_size cX10_size 2 (some .long), Cond.methodLink RX10 161 yX0_allTimes]
def wsL_law0_r28 : List Cond := [Cond.instanceMethod yX0_allTimes, Cond.selects RX0 yX0_allTimes yX0_allTimes, Cond.code yX0_allTimes cX0_allTimes 4 (some .long), Cond.methodLink RL 135 yX11_size, Cond.instanceMethod yX11_size, Cond.selects RX11 yX11_size yX11_size, Cond.code yX11_size cX11_size 5 (some .long), Cond.methodLink RL 136 yL_times, Cond.static yL_times, Cond.codeWith yL_times cL_times 8 (some .int) [(0, 16, 19, 13)], Cond.methodLink RL 65 yX10_times, Cond.instanceMethod yX10_times, Cond.selects RX10 yX10_times yX10_times, Cond.code yX10_times cX10_times 7 (some .int), Cond.methodLink RL 139 yX11_times, Cond.instanceMethod yX11_times, Cond.selects RX11 yX11_times yX11_times, Cond.code yX11_times cX11_times 6 (some .int), Cond.methodLink RL 140 yL_cell, Cond.static yL_cell, Cond.codeWith yL_cell cL_cell 6 (some .int) [(0, 12, 15, 13)], Cond.methodLink RL 69 yX10_cell, Cond.instanceMethod yX10_cell, Cond.selects RX10 yX10_cell yX10_cell]
def wsL_law0_r29 : List Cond := [Cond.code yX10_cell cX10_cell 5 (some .int), Cond.methodLink RX10 173 yX0_cellAt, Cond.methodLink RL 143 yX11_cell, Cond.instanceMethod yX11_cell, Cond.selects RX11 yX11_cell yX11_cell, Cond.code yX11_cell cX11_cell 4 (some .int), Cond.methodLink RL 144 yL_changed, Cond.static yL_changed, Cond.codeWith yL_changed cL_changed 4 (some .int) [(0, 9, 12, 13)], Cond.methodLink RL 73 yX10_changed, Cond.instanceMethod yX10_changed, Cond.selects RX10 yX10_changed yX10_changed, Cond.code yX10_changed cX10_changed 2 (some .int), Cond.methodLink RL 146 yX11_changed, Cond.instanceMethod yX11_changed, Cond.selects RX11 yX11_changed yX11_changed, Cond.code yX11_changed cX11_changed 2 (some .int), Cond.methodLink RL 147 yL_count, Cond.static yL_count, Cond.codeWith yL_count cL_count 4 (some .int) [(0, 9, 12, 17)], Cond.methodLink RL 76 yX10_count, Cond.instanceMethod yX10_count, Cond.selects RX10 yX10_count yX10_count, Cond.code yX10_count cX10_count 7 (some .int)]
def wsL_law0_r30 : List Cond := [Cond.methodLink RX10 186 yX10_countIn, Cond.static yX10_countIn, Cond.code yX10_countIn cX10_countIn 2 (some .int), Cond.methodLink RL 149 yX11_count, Cond.instanceMethod yX11_count, Cond.selects RX11 yX11_count yX11_count, Cond.code yX11_count cX11_count 6 (some .int)]
def wsL_law0 : List Cond := (wsL_law0_r1 ++ (wsL_law0_r2 ++ (wsL_law0_r3 ++ (wsL_law0_r4 ++ (wsL_law0_r5 ++ (wsL_law0_r6 ++ (wsL_law0_r7 ++ (wsL_law0_r8 ++ (wsL_law0_r9 ++ (wsL_law0_r10 ++ (wsL_law0_r11 ++ (wsL_law0_r12 ++ (wsL_law0_r13 ++ (wsL_law0_r14 ++ (wsL_law0_r15 ++ (wsL_law0_r16 ++ (wsL_law0_r17 ++ (wsL_law0_r18 ++ (wsL_law0_r19 ++ (wsL_law0_r20 ++ (wsL_law0_r21 ++ (wsL_law0_r22 ++ (wsL_law0_r23 ++ (wsL_law0_r24 ++ (wsL_law0_r25 ++ (wsL_law0_r26 ++ (wsL_law0_r27 ++ (wsL_law0_r28 ++ (wsL_law0_r29 ++ wsL_law0_r30))))))))))))))))))))))))))))) ++ wsX100 ++ wsX110 ++ wsX60 ++ wsX00 ++ wsX70 ++ wsX10 ++ wsX20 ++ wsX30 ++ wsX40 ++ wsX50 ++ wsX80 ++ ([] : List Cond)
def wsL_law : List Cond := wsL_law0 ++ (vx_atS RX10 32 "java/lang/IllegalArgumentException" ["java/lang/RuntimeException", "java/lang/Exception"]).filter goodWord ++ (vx_atS RX10 169 "java/lang/IndexOutOfBoundsException" ["java/lang/RuntimeException", "java/lang/Exception"]).filter goodWord ++ (vx_atS RX10 118 "java/lang/IllegalStateException" ["java/lang/RuntimeException", "java/lang/Exception"]).filter goodWord ++ (vx_atS RX10 218 "java/lang/UnsupportedOperationException" ["java/lang/RuntimeException", "java/lang/Exception"]).filter goodWord
theorem wb_0 : ∀ w ∈ wsL_law0, w ∈ wsL_law := fun w h => List.mem_append_left _ (List.mem_append_left _ (List.mem_append_left _ (List.mem_append_left _ (h))))
theorem wb_1 : ∀ w ∈ wsL_law0_r1, w ∈ wsL_law := fun w h => wb_0 w (List.mem_append_left _ (List.mem_append_left _ (List.mem_append_left _ (List.mem_append_left _ (List.mem_append_left _ (List.mem_append_left _ (List.mem_append_left _ (List.mem_append_left _ (List.mem_append_left _ (List.mem_append_left _ (List.mem_append_left _ (List.mem_append_left _ (List.mem_append_left _ h)))))))))))))
theorem wb_2 : ∀ w ∈ wsL_law0_r2, w ∈ wsL_law := fun w h => wb_0 w (List.mem_append_left _ (List.mem_append_left _ (List.mem_append_left _ (List.mem_append_left _ (List.mem_append_left _ (List.mem_append_left _ (List.mem_append_left _ (List.mem_append_left _ (List.mem_append_left _ (List.mem_append_left _ (List.mem_append_left _ (List.mem_append_left _ (List.mem_append_right _ (List.mem_append_left _ h))))))))))))))
theorem wb_3 : ∀ w ∈ wsL_law0_r3, w ∈ wsL_law := fun w h => wb_0 w (List.mem_append_left _ (List.mem_append_left _ (List.mem_append_left _ (List.mem_append_left _ (List.mem_append_left _ (List.mem_append_left _ (List.mem_append_left _ (List.mem_append_left _ (List.mem_append_left _ (List.mem_append_left _ (List.mem_append_left _ (List.mem_append_left _ (List.mem_append_right _ (List.mem_append_right _ (List.mem_append_left _ h)))))))))))))))
theorem wb_4 : ∀ w ∈ wsL_law0_r4, w ∈ wsL_law := fun w h => wb_0 w (List.mem_append_left _ (List.mem_append_left _ (List.mem_append_left _ (List.mem_append_left _ (List.mem_append_left _ (List.mem_append_left _ (List.mem_append_left _ (List.mem_append_left _ (List.mem_append_left _ (List.mem_append_left _ (List.mem_append_left _ (List.mem_append_left _ (List.mem_append_right _ (List.mem_append_right _ (List.mem_append_right _ (List.mem_append_left _ h))))))))))))))))
theorem wb_5 : ∀ w ∈ wsL_law0_r5, w ∈ wsL_law := fun w h => wb_0 w (List.mem_append_left _ (List.mem_append_left _ (List.mem_append_left _ (List.mem_append_left _ (List.mem_append_left _ (List.mem_append_left _ (List.mem_append_left _ (List.mem_append_left _ (List.mem_append_left _ (List.mem_append_left _ (List.mem_append_left _ (List.mem_append_left _ (List.mem_append_right _ (List.mem_append_right _ (List.mem_append_right _ (List.mem_append_right _ (List.mem_append_left _ h)))))))))))))))))
theorem wb_6 : ∀ w ∈ wsL_law0_r6, w ∈ wsL_law := fun w h => wb_0 w (List.mem_append_left _ (List.mem_append_left _ (List.mem_append_left _ (List.mem_append_left _ (List.mem_append_left _ (List.mem_append_left _ (List.mem_append_left _ (List.mem_append_left _ (List.mem_append_left _ (List.mem_append_left _ (List.mem_append_left _ (List.mem_append_left _ (List.mem_append_right _ (List.mem_append_right _ (List.mem_append_right _ (List.mem_append_right _ (List.mem_append_right _ (List.mem_append_left _ h))))))))))))))))))
theorem wb_7 : ∀ w ∈ wsL_law0_r7, w ∈ wsL_law := fun w h => wb_0 w (List.mem_append_left _ (List.mem_append_left _ (List.mem_append_left _ (List.mem_append_left _ (List.mem_append_left _ (List.mem_append_left _ (List.mem_append_left _ (List.mem_append_left _ (List.mem_append_left _ (List.mem_append_left _ (List.mem_append_left _ (List.mem_append_left _ (List.mem_append_right _ (List.mem_append_right _ (List.mem_append_right _ (List.mem_append_right _ (List.mem_append_right _ (List.mem_append_right _ (List.mem_append_left _ h)))))))))))))))))))
theorem wb_8 : ∀ w ∈ wsL_law0_r8, w ∈ wsL_law := fun w h => wb_0 w (List.mem_append_left _ (List.mem_append_left _ (List.mem_append_left _ (List.mem_append_left _ (List.mem_append_left _ (List.mem_append_left _ (List.mem_append_left _ (List.mem_append_left _ (List.mem_append_left _ (List.mem_append_left _ (List.mem_append_left _ (List.mem_append_left _ (List.mem_append_right _ (List.mem_append_right _ (List.mem_append_right _ (List.mem_append_right _ (List.mem_append_right _ (List.mem_append_right _ (List.mem_append_right _ (List.mem_append_left _ h))))))))))))))))))))
theorem wb_9 : ∀ w ∈ wsL_law0_r9, w ∈ wsL_law := fun w h => wb_0 w (List.mem_append_left _ (List.mem_append_left _ (List.mem_append_left _ (List.mem_append_left _ (List.mem_append_left _ (List.mem_append_left _ (List.mem_append_left _ (List.mem_append_left _ (List.mem_append_left _ (List.mem_append_left _ (List.mem_append_left _ (List.mem_append_left _ (List.mem_append_right _ (List.mem_append_right _ (List.mem_append_right _ (List.mem_append_right _ (List.mem_append_right _ (List.mem_append_right _ (List.mem_append_right _ (List.mem_append_right _ (List.mem_append_left _ h)))))))))))))))))))))
theorem wb_10 : ∀ w ∈ wsL_law0_r10, w ∈ wsL_law := fun w h => wb_0 w (List.mem_append_left _ (List.mem_append_left _ (List.mem_append_left _ (List.mem_append_left _ (List.mem_append_left _ (List.mem_append_left _ (List.mem_append_left _ (List.mem_append_left _ (List.mem_append_left _ (List.mem_append_left _ (List.mem_append_left _ (List.mem_append_left _ (List.mem_append_right _ (List.mem_append_right _ (List.mem_append_right _ (List.mem_append_right _ (List.mem_append_right _ (List.mem_append_right _ (List.mem_append_right _ (List.mem_append_right _ (List.mem_append_right _ (List.mem_append_left _ h))))))))))))))))))))))
theorem wb_11 : ∀ w ∈ wsL_law0_r11, w ∈ wsL_law := fun w h => wb_0 w (List.mem_append_left _ (List.mem_append_left _ (List.mem_append_left _ (List.mem_append_left _ (List.mem_append_left _ (List.mem_append_left _ (List.mem_append_left _ (List.mem_append_left _ (List.mem_append_left _ (List.mem_append_left _ (List.mem_append_left _ (List.mem_append_left _ (List.mem_append_right _ (List.mem_append_right _ (List.mem_append_right _ (List.mem_append_right _ (List.mem_append_right _ (List.mem_append_right _ (List.mem_append_right _ (List.mem_append_right _ (List.mem_append_right _ (List.mem_append_right _ (List.mem_append_left _ h)))))))))))))))))))))))
theorem wb_12 : ∀ w ∈ wsL_law0_r12, w ∈ wsL_law := fun w h => wb_0 w (List.mem_append_left _ (List.mem_append_left _ (List.mem_append_left _ (List.mem_append_left _ (List.mem_append_left _ (List.mem_append_left _ (List.mem_append_left _ (List.mem_append_left _ (List.mem_append_left _ (List.mem_append_left _ (List.mem_append_left _ (List.mem_append_left _ (List.mem_append_right _ (List.mem_append_right _ (List.mem_append_right _ (List.mem_append_right _ (List.mem_append_right _ (List.mem_append_right _ (List.mem_append_right _ (List.mem_append_right _ (List.mem_append_right _ (List.mem_append_right _ (List.mem_append_right _ (List.mem_append_left _ h))))))))))))))))))))))))
theorem wb_13 : ∀ w ∈ wsL_law0_r13, w ∈ wsL_law := fun w h => wb_0 w (List.mem_append_left _ (List.mem_append_left _ (List.mem_append_left _ (List.mem_append_left _ (List.mem_append_left _ (List.mem_append_left _ (List.mem_append_left _ (List.mem_append_left _ (List.mem_append_left _ (List.mem_append_left _ (List.mem_append_left _ (List.mem_append_left _ (List.mem_append_right _ (List.mem_append_right _ (List.mem_append_right _ (List.mem_append_right _ (List.mem_append_right _ (List.mem_append_right _ (List.mem_append_right _ (List.mem_append_right _ (List.mem_append_right _ (List.mem_append_right _ (List.mem_append_right _ (List.mem_append_right _ (List.mem_append_left _ h)))))))))))))))))))))))))
theorem wb_14 : ∀ w ∈ wsL_law0_r14, w ∈ wsL_law := fun w h => wb_0 w (List.mem_append_left _ (List.mem_append_left _ (List.mem_append_left _ (List.mem_append_left _ (List.mem_append_left _ (List.mem_append_left _ (List.mem_append_left _ (List.mem_append_left _ (List.mem_append_left _ (List.mem_append_left _ (List.mem_append_left _ (List.mem_append_left _ (List.mem_append_right _ (List.mem_append_right _ (List.mem_append_right _ (List.mem_append_right _ (List.mem_append_right _ (List.mem_append_right _ (List.mem_append_right _ (List.mem_append_right _ (List.mem_append_right _ (List.mem_append_right _ (List.mem_append_right _ (List.mem_append_right _ (List.mem_append_right _ (List.mem_append_left _ h))))))))))))))))))))))))))
theorem wb_15 : ∀ w ∈ wsL_law0_r15, w ∈ wsL_law := fun w h => wb_0 w (List.mem_append_left _ (List.mem_append_left _ (List.mem_append_left _ (List.mem_append_left _ (List.mem_append_left _ (List.mem_append_left _ (List.mem_append_left _ (List.mem_append_left _ (List.mem_append_left _ (List.mem_append_left _ (List.mem_append_left _ (List.mem_append_left _ (List.mem_append_right _ (List.mem_append_right _ (List.mem_append_right _ (List.mem_append_right _ (List.mem_append_right _ (List.mem_append_right _ (List.mem_append_right _ (List.mem_append_right _ (List.mem_append_right _ (List.mem_append_right _ (List.mem_append_right _ (List.mem_append_right _ (List.mem_append_right _ (List.mem_append_right _ (List.mem_append_left _ h)))))))))))))))))))))))))))
theorem wb_16 : ∀ w ∈ wsL_law0_r16, w ∈ wsL_law := fun w h => wb_0 w (List.mem_append_left _ (List.mem_append_left _ (List.mem_append_left _ (List.mem_append_left _ (List.mem_append_left _ (List.mem_append_left _ (List.mem_append_left _ (List.mem_append_left _ (List.mem_append_left _ (List.mem_append_left _ (List.mem_append_left _ (List.mem_append_left _ (List.mem_append_right _ (List.mem_append_right _ (List.mem_append_right _ (List.mem_append_right _ (List.mem_append_right _ (List.mem_append_right _ (List.mem_append_right _ (List.mem_append_right _ (List.mem_append_right _ (List.mem_append_right _ (List.mem_append_right _ (List.mem_append_right _ (List.mem_append_right _ (List.mem_append_right _ (List.mem_append_right _ (List.mem_append_left _ h))))))))))))))))))))))))))))
theorem wb_17 : ∀ w ∈ wsL_law0_r17, w ∈ wsL_law := fun w h => wb_0 w (List.mem_append_left _ (List.mem_append_left _ (List.mem_append_left _ (List.mem_append_left _ (List.mem_append_left _ (List.mem_append_left _ (List.mem_append_left _ (List.mem_append_left _ (List.mem_append_left _ (List.mem_append_left _ (List.mem_append_left _ (List.mem_append_left _ (List.mem_append_right _ (List.mem_append_right _ (List.mem_append_right _ (List.mem_append_right _ (List.mem_append_right _ (List.mem_append_right _ (List.mem_append_right _ (List.mem_append_right _ (List.mem_append_right _ (List.mem_append_right _ (List.mem_append_right _ (List.mem_append_right _ (List.mem_append_right _ (List.mem_append_right _ (List.mem_append_right _ (List.mem_append_right _ (List.mem_append_left _ h)))))))))))))))))))))))))))))
theorem wb_18 : ∀ w ∈ wsL_law0_r18, w ∈ wsL_law := fun w h => wb_0 w (List.mem_append_left _ (List.mem_append_left _ (List.mem_append_left _ (List.mem_append_left _ (List.mem_append_left _ (List.mem_append_left _ (List.mem_append_left _ (List.mem_append_left _ (List.mem_append_left _ (List.mem_append_left _ (List.mem_append_left _ (List.mem_append_left _ (List.mem_append_right _ (List.mem_append_right _ (List.mem_append_right _ (List.mem_append_right _ (List.mem_append_right _ (List.mem_append_right _ (List.mem_append_right _ (List.mem_append_right _ (List.mem_append_right _ (List.mem_append_right _ (List.mem_append_right _ (List.mem_append_right _ (List.mem_append_right _ (List.mem_append_right _ (List.mem_append_right _ (List.mem_append_right _ (List.mem_append_right _ (List.mem_append_left _ h))))))))))))))))))))))))))))))
theorem wb_19 : ∀ w ∈ wsL_law0_r19, w ∈ wsL_law := fun w h => wb_0 w (List.mem_append_left _ (List.mem_append_left _ (List.mem_append_left _ (List.mem_append_left _ (List.mem_append_left _ (List.mem_append_left _ (List.mem_append_left _ (List.mem_append_left _ (List.mem_append_left _ (List.mem_append_left _ (List.mem_append_left _ (List.mem_append_left _ (List.mem_append_right _ (List.mem_append_right _ (List.mem_append_right _ (List.mem_append_right _ (List.mem_append_right _ (List.mem_append_right _ (List.mem_append_right _ (List.mem_append_right _ (List.mem_append_right _ (List.mem_append_right _ (List.mem_append_right _ (List.mem_append_right _ (List.mem_append_right _ (List.mem_append_right _ (List.mem_append_right _ (List.mem_append_right _ (List.mem_append_right _ (List.mem_append_right _ (List.mem_append_left _ h)))))))))))))))))))))))))))))))
theorem wb_20 : ∀ w ∈ wsL_law0_r20, w ∈ wsL_law := fun w h => wb_0 w (List.mem_append_left _ (List.mem_append_left _ (List.mem_append_left _ (List.mem_append_left _ (List.mem_append_left _ (List.mem_append_left _ (List.mem_append_left _ (List.mem_append_left _ (List.mem_append_left _ (List.mem_append_left _ (List.mem_append_left _ (List.mem_append_left _ (List.mem_append_right _ (List.mem_append_right _ (List.mem_append_right _ (List.mem_append_right _ (List.mem_append_right _ (List.mem_append_right _ (List.mem_append_right _ (List.mem_append_right _ (List.mem_append_right _ (List.mem_append_right _ (List.mem_append_right _ (List.mem_append_right _ (List.mem_append_right _ (List.mem_append_right _ (List.mem_append_right _ (List.mem_append_right _ (List.mem_append_right _ (List.mem_append_right _ (List.mem_append_right _ (List.mem_append_left _ h))))))))))))))))))))))))))))))))
theorem wb_21 : ∀ w ∈ wsL_law0_r21, w ∈ wsL_law := fun w h => wb_0 w (List.mem_append_left _ (List.mem_append_left _ (List.mem_append_left _ (List.mem_append_left _ (List.mem_append_left _ (List.mem_append_left _ (List.mem_append_left _ (List.mem_append_left _ (List.mem_append_left _ (List.mem_append_left _ (List.mem_append_left _ (List.mem_append_left _ (List.mem_append_right _ (List.mem_append_right _ (List.mem_append_right _ (List.mem_append_right _ (List.mem_append_right _ (List.mem_append_right _ (List.mem_append_right _ (List.mem_append_right _ (List.mem_append_right _ (List.mem_append_right _ (List.mem_append_right _ (List.mem_append_right _ (List.mem_append_right _ (List.mem_append_right _ (List.mem_append_right _ (List.mem_append_right _ (List.mem_append_right _ (List.mem_append_right _ (List.mem_append_right _ (List.mem_append_right _ (List.mem_append_left _ h)))))))))))))))))))))))))))))))))
theorem wb_22 : ∀ w ∈ wsL_law0_r22, w ∈ wsL_law := fun w h => wb_0 w (List.mem_append_left _ (List.mem_append_left _ (List.mem_append_left _ (List.mem_append_left _ (List.mem_append_left _ (List.mem_append_left _ (List.mem_append_left _ (List.mem_append_left _ (List.mem_append_left _ (List.mem_append_left _ (List.mem_append_left _ (List.mem_append_left _ (List.mem_append_right _ (List.mem_append_right _ (List.mem_append_right _ (List.mem_append_right _ (List.mem_append_right _ (List.mem_append_right _ (List.mem_append_right _ (List.mem_append_right _ (List.mem_append_right _ (List.mem_append_right _ (List.mem_append_right _ (List.mem_append_right _ (List.mem_append_right _ (List.mem_append_right _ (List.mem_append_right _ (List.mem_append_right _ (List.mem_append_right _ (List.mem_append_right _ (List.mem_append_right _ (List.mem_append_right _ (List.mem_append_right _ (List.mem_append_left _ h))))))))))))))))))))))))))))))))))
theorem wb_23 : ∀ w ∈ wsL_law0_r23, w ∈ wsL_law := fun w h => wb_0 w (List.mem_append_left _ (List.mem_append_left _ (List.mem_append_left _ (List.mem_append_left _ (List.mem_append_left _ (List.mem_append_left _ (List.mem_append_left _ (List.mem_append_left _ (List.mem_append_left _ (List.mem_append_left _ (List.mem_append_left _ (List.mem_append_left _ (List.mem_append_right _ (List.mem_append_right _ (List.mem_append_right _ (List.mem_append_right _ (List.mem_append_right _ (List.mem_append_right _ (List.mem_append_right _ (List.mem_append_right _ (List.mem_append_right _ (List.mem_append_right _ (List.mem_append_right _ (List.mem_append_right _ (List.mem_append_right _ (List.mem_append_right _ (List.mem_append_right _ (List.mem_append_right _ (List.mem_append_right _ (List.mem_append_right _ (List.mem_append_right _ (List.mem_append_right _ (List.mem_append_right _ (List.mem_append_right _ (List.mem_append_left _ h)))))))))))))))))))))))))))))))))))
theorem wb_24 : ∀ w ∈ wsL_law0_r24, w ∈ wsL_law := fun w h => wb_0 w (List.mem_append_left _ (List.mem_append_left _ (List.mem_append_left _ (List.mem_append_left _ (List.mem_append_left _ (List.mem_append_left _ (List.mem_append_left _ (List.mem_append_left _ (List.mem_append_left _ (List.mem_append_left _ (List.mem_append_left _ (List.mem_append_left _ (List.mem_append_right _ (List.mem_append_right _ (List.mem_append_right _ (List.mem_append_right _ (List.mem_append_right _ (List.mem_append_right _ (List.mem_append_right _ (List.mem_append_right _ (List.mem_append_right _ (List.mem_append_right _ (List.mem_append_right _ (List.mem_append_right _ (List.mem_append_right _ (List.mem_append_right _ (List.mem_append_right _ (List.mem_append_right _ (List.mem_append_right _ (List.mem_append_right _ (List.mem_append_right _ (List.mem_append_right _ (List.mem_append_right _ (List.mem_append_right _ (List.mem_append_right _ (List.mem_append_left _ h))))))))))))))))))))))))))))))))))))
theorem wb_25 : ∀ w ∈ wsL_law0_r25, w ∈ wsL_law := fun w h => wb_0 w (List.mem_append_left _ (List.mem_append_left _ (List.mem_append_left _ (List.mem_append_left _ (List.mem_append_left _ (List.mem_append_left _ (List.mem_append_left _ (List.mem_append_left _ (List.mem_append_left _ (List.mem_append_left _ (List.mem_append_left _ (List.mem_append_left _ (List.mem_append_right _ (List.mem_append_right _ (List.mem_append_right _ (List.mem_append_right _ (List.mem_append_right _ (List.mem_append_right _ (List.mem_append_right _ (List.mem_append_right _ (List.mem_append_right _ (List.mem_append_right _ (List.mem_append_right _ (List.mem_append_right _ (List.mem_append_right _ (List.mem_append_right _ (List.mem_append_right _ (List.mem_append_right _ (List.mem_append_right _ (List.mem_append_right _ (List.mem_append_right _ (List.mem_append_right _ (List.mem_append_right _ (List.mem_append_right _ (List.mem_append_right _ (List.mem_append_right _ (List.mem_append_left _ h)))))))))))))))))))))))))))))))))))))
theorem wb_26 : ∀ w ∈ wsL_law0_r26, w ∈ wsL_law := fun w h => wb_0 w (List.mem_append_left _ (List.mem_append_left _ (List.mem_append_left _ (List.mem_append_left _ (List.mem_append_left _ (List.mem_append_left _ (List.mem_append_left _ (List.mem_append_left _ (List.mem_append_left _ (List.mem_append_left _ (List.mem_append_left _ (List.mem_append_left _ (List.mem_append_right _ (List.mem_append_right _ (List.mem_append_right _ (List.mem_append_right _ (List.mem_append_right _ (List.mem_append_right _ (List.mem_append_right _ (List.mem_append_right _ (List.mem_append_right _ (List.mem_append_right _ (List.mem_append_right _ (List.mem_append_right _ (List.mem_append_right _ (List.mem_append_right _ (List.mem_append_right _ (List.mem_append_right _ (List.mem_append_right _ (List.mem_append_right _ (List.mem_append_right _ (List.mem_append_right _ (List.mem_append_right _ (List.mem_append_right _ (List.mem_append_right _ (List.mem_append_right _ (List.mem_append_right _ (List.mem_append_left _ h))))))))))))))))))))))))))))))))))))))
theorem wb_27 : ∀ w ∈ wsL_law0_r27, w ∈ wsL_law := fun w h => wb_0 w (List.mem_append_left _ (List.mem_append_left _ (List.mem_append_left _ (List.mem_append_left _ (List.mem_append_left _ (List.mem_append_left _ (List.mem_append_left _ (List.mem_append_left _ (List.mem_append_left _ (List.mem_append_left _ (List.mem_append_left _ (List.mem_append_left _ (List.mem_append_right _ (List.mem_append_right _ (List.mem_append_right _ (List.mem_append_right _ (List.mem_append_right _ (List.mem_append_right _ (List.mem_append_right _ (List.mem_append_right _ (List.mem_append_right _ (List.mem_append_right _ (List.mem_append_right _ (List.mem_append_right _ (List.mem_append_right _ (List.mem_append_right _ (List.mem_append_right _ (List.mem_append_right _ (List.mem_append_right _ (List.mem_append_right _ (List.mem_append_right _ (List.mem_append_right _ (List.mem_append_right _ (List.mem_append_right _ (List.mem_append_right _ (List.mem_append_right _ (List.mem_append_right _ (List.mem_append_right _ (List.mem_append_left _ h)))))))))))))))))))))))))))))))))))))))
theorem wb_28 : ∀ w ∈ wsL_law0_r28, w ∈ wsL_law := fun w h => wb_0 w (List.mem_append_left _ (List.mem_append_left _ (List.mem_append_left _ (List.mem_append_left _ (List.mem_append_left _ (List.mem_append_left _ (List.mem_append_left _ (List.mem_append_left _ (List.mem_append_left _ (List.mem_append_left _ (List.mem_append_left _ (List.mem_append_left _ (List.mem_append_right _ (List.mem_append_right _ (List.mem_append_right _ (List.mem_append_right _ (List.mem_append_right _ (List.mem_append_right _ (List.mem_append_right _ (List.mem_append_right _ (List.mem_append_right _ (List.mem_append_right _ (List.mem_append_right _ (List.mem_append_right _ (List.mem_append_right _ (List.mem_append_right _ (List.mem_append_right _ (List.mem_append_right _ (List.mem_append_right _ (List.mem_append_right _ (List.mem_append_right _ (List.mem_append_right _ (List.mem_append_right _ (List.mem_append_right _ (List.mem_append_right _ (List.mem_append_right _ (List.mem_append_right _ (List.mem_append_right _ (List.mem_append_right _ (List.mem_append_left _ h))))))))))))))))))))))))))))))))))))))))
theorem wb_29 : ∀ w ∈ wsL_law0_r29, w ∈ wsL_law := fun w h => wb_0 w (List.mem_append_left _ (List.mem_append_left _ (List.mem_append_left _ (List.mem_append_left _ (List.mem_append_left _ (List.mem_append_left _ (List.mem_append_left _ (List.mem_append_left _ (List.mem_append_left _ (List.mem_append_left _ (List.mem_append_left _ (List.mem_append_left _ (List.mem_append_right _ (List.mem_append_right _ (List.mem_append_right _ (List.mem_append_right _ (List.mem_append_right _ (List.mem_append_right _ (List.mem_append_right _ (List.mem_append_right _ (List.mem_append_right _ (List.mem_append_right _ (List.mem_append_right _ (List.mem_append_right _ (List.mem_append_right _ (List.mem_append_right _ (List.mem_append_right _ (List.mem_append_right _ (List.mem_append_right _ (List.mem_append_right _ (List.mem_append_right _ (List.mem_append_right _ (List.mem_append_right _ (List.mem_append_right _ (List.mem_append_right _ (List.mem_append_right _ (List.mem_append_right _ (List.mem_append_right _ (List.mem_append_right _ (List.mem_append_right _ (List.mem_append_left _ h)))))))))))))))))))))))))))))))))))))))))
theorem wb_30 : ∀ w ∈ wsL_law0_r30, w ∈ wsL_law := fun w h => wb_0 w (List.mem_append_left _ (List.mem_append_left _ (List.mem_append_left _ (List.mem_append_left _ (List.mem_append_left _ (List.mem_append_left _ (List.mem_append_left _ (List.mem_append_left _ (List.mem_append_left _ (List.mem_append_left _ (List.mem_append_left _ (List.mem_append_left _ (List.mem_append_right _ (List.mem_append_right _ (List.mem_append_right _ (List.mem_append_right _ (List.mem_append_right _ (List.mem_append_right _ (List.mem_append_right _ (List.mem_append_right _ (List.mem_append_right _ (List.mem_append_right _ (List.mem_append_right _ (List.mem_append_right _ (List.mem_append_right _ (List.mem_append_right _ (List.mem_append_right _ (List.mem_append_right _ (List.mem_append_right _ (List.mem_append_right _ (List.mem_append_right _ (List.mem_append_right _ (List.mem_append_right _ (List.mem_append_right _ (List.mem_append_right _ (List.mem_append_right _ (List.mem_append_right _ (List.mem_append_right _ (List.mem_append_right _ (List.mem_append_right _ (List.mem_append_right _ (h))))))))))))))))))))))))))))))))))))))))))
theorem wf_X10 : ∀ w ∈ wsX100, w ∈ wsL_law := fun w h => wb_0 w (List.mem_append_left _ (List.mem_append_left _ (List.mem_append_left _ (List.mem_append_left _ (List.mem_append_left _ (List.mem_append_left _ (List.mem_append_left _ (List.mem_append_left _ (List.mem_append_left _ (List.mem_append_left _ (List.mem_append_left _ (List.mem_append_right _ h))))))))))))
theorem wf_X11 : ∀ w ∈ wsX110, w ∈ wsL_law := fun w h => wb_0 w (List.mem_append_left _ (List.mem_append_left _ (List.mem_append_left _ (List.mem_append_left _ (List.mem_append_left _ (List.mem_append_left _ (List.mem_append_left _ (List.mem_append_left _ (List.mem_append_left _ (List.mem_append_left _ (List.mem_append_right _ h)))))))))))
theorem wf_X6 : ∀ w ∈ wsX60, w ∈ wsL_law := fun w h => wb_0 w (List.mem_append_left _ (List.mem_append_left _ (List.mem_append_left _ (List.mem_append_left _ (List.mem_append_left _ (List.mem_append_left _ (List.mem_append_left _ (List.mem_append_left _ (List.mem_append_left _ (List.mem_append_right _ h))))))))))
theorem wf_X0 : ∀ w ∈ wsX00, w ∈ wsL_law := fun w h => wb_0 w (List.mem_append_left _ (List.mem_append_left _ (List.mem_append_left _ (List.mem_append_left _ (List.mem_append_left _ (List.mem_append_left _ (List.mem_append_left _ (List.mem_append_left _ (List.mem_append_right _ h)))))))))
theorem wf_X7 : ∀ w ∈ wsX70, w ∈ wsL_law := fun w h => wb_0 w (List.mem_append_left _ (List.mem_append_left _ (List.mem_append_left _ (List.mem_append_left _ (List.mem_append_left _ (List.mem_append_left _ (List.mem_append_left _ (List.mem_append_right _ h))))))))
theorem wf_X1 : ∀ w ∈ wsX10, w ∈ wsL_law := fun w h => wb_0 w (List.mem_append_left _ (List.mem_append_left _ (List.mem_append_left _ (List.mem_append_left _ (List.mem_append_left _ (List.mem_append_left _ (List.mem_append_right _ h)))))))
theorem wf_X2 : ∀ w ∈ wsX20, w ∈ wsL_law := fun w h => wb_0 w (List.mem_append_left _ (List.mem_append_left _ (List.mem_append_left _ (List.mem_append_left _ (List.mem_append_left _ (List.mem_append_right _ h))))))
theorem wf_X3 : ∀ w ∈ wsX30, w ∈ wsL_law := fun w h => wb_0 w (List.mem_append_left _ (List.mem_append_left _ (List.mem_append_left _ (List.mem_append_left _ (List.mem_append_right _ h)))))
theorem wf_X4 : ∀ w ∈ wsX40, w ∈ wsL_law := fun w h => wb_0 w (List.mem_append_left _ (List.mem_append_left _ (List.mem_append_left _ (List.mem_append_right _ h))))
theorem wf_X5 : ∀ w ∈ wsX50, w ∈ wsL_law := fun w h => wb_0 w (List.mem_append_left _ (List.mem_append_left _ (List.mem_append_right _ h)))
theorem wf_X8 : ∀ w ∈ wsX80, w ∈ wsL_law := fun w h => wb_0 w (List.mem_append_left _ (List.mem_append_right _ h))
theorem lk_L_8 : Cond.classLink RL 8 RX10 ∈ wsL_law := wb_1 _ (List.mem_of_getElem? (i := 0) rfl)
theorem wA_X10 : Cond.instantiable RX10 2 ∈ wsL_law := wb_1 _ (List.mem_of_getElem? (i := 1) rfl)
theorem wN_X10 : Cond.initialized RX10 ∈ wsL_law := wb_1 _ (List.mem_of_getElem? (i := 2) rfl)
theorem lk_L_80 : Cond.classLink RL 80 RX11 ∈ wsL_law := wb_1 _ (List.mem_of_getElem? (i := 3) rfl)
theorem wA_X11 : Cond.instantiable RX11 18 ∈ wsL_law := wb_1 _ (List.mem_of_getElem? (i := 4) rfl)
theorem wN_X11 : Cond.initialized RX11 ∈ wsL_law := wb_1 _ (List.mem_of_getElem? (i := 5) rfl)
theorem wR_long : Cond.arrayClass .long ∈ wsL_law := wb_1 _ (List.mem_of_getElem? (i := 6) rfl)
theorem lk_L_79 : Cond.methodLink RL 79 yX10_init ∈ wsL_law := wb_1 _ (List.mem_of_getElem? (i := 7) rfl)
theorem wI_X10_init : Cond.instanceMethod yX10_init ∈ wsL_law := wb_1 _ (List.mem_of_getElem? (i := 8) rfl)
theorem wC_X10_init : Cond.code yX10_init cX10_init 2 none ∈ wsL_law := wb_1 _ (List.mem_of_getElem? (i := 9) rfl)
theorem lk_X10_1 : Cond.methodLink RX10 1 objectInit ∈ wsL_law := wb_1 _ (List.mem_of_getElem? (i := 10) rfl)
theorem wz_1 : Cond.instanceMethod objectInit ∈ wsL_law := wb_1 _ (List.mem_of_getElem? (i := 11) rfl)
theorem wz_2 : Cond.code objectInit ⟨#[0xb1]⟩ 1 none ∈ wsL_law := wb_1 _ (List.mem_of_getElem? (i := 12) rfl)
theorem lk_X10_9 : Cond.classLink RX10 9 RX6 ∈ wsL_law := wb_1 _ (List.mem_of_getElem? (i := 13) rfl)
theorem lk_X10_11 : Cond.fieldLink RX10 11 "BagViews" "relations" "[LBagViews$Relation;" ∈ wsL_law := wb_1 _ (List.mem_of_getElem? (i := 14) rfl)
theorem wR_int : Cond.arrayClass .int ∈ wsL_law := wb_1 _ (List.mem_of_getElem? (i := 15) rfl)
theorem lk_X10_15 : Cond.fieldLink RX10 15 "BagViews" "told" "[I" ∈ wsL_law := wb_1 _ (List.mem_of_getElem? (i := 16) rfl)
theorem wA_X6 : Cond.instantiable RX6 6 ∈ wsL_law := wb_1 _ (List.mem_of_getElem? (i := 17) rfl)
theorem wN_X6 : Cond.initialized RX6 ∈ wsL_law := wb_1 _ (List.mem_of_getElem? (i := 18) rfl)
theorem wI_X6_init : Cond.instanceMethod yX6_init ∈ wsL_law := wb_1 _ (List.mem_of_getElem? (i := 19) rfl)
theorem wC_X6_init : Cond.code yX6_init cX6_init 1 none ∈ wsL_law := wb_1 _ (List.mem_of_getElem? (i := 20) rfl)
theorem lk_X6_1 : Cond.methodLink RX6 1 objectInit ∈ wsL_law := wb_1 _ (List.mem_of_getElem? (i := 21) rfl)
theorem lk_X6_7 : Cond.classLink RX6 7 RX0 ∈ wsL_law := wb_1 _ (List.mem_of_getElem? (i := 22) rfl)
theorem wA_X0 : Cond.instantiable RX0 3 ∈ wsL_law := wb_1 _ (List.mem_of_getElem? (i := 23) rfl)
theorem wN_X0 : Cond.initialized RX0 ∈ wsL_law := wb_2 _ (List.mem_of_getElem? (i := 0) rfl)
theorem lk_X6_10 : Cond.fieldLink RX6 10 "BagViews$Relation" "now" "LBagViews$Bag;" ∈ wsL_law := wb_2 _ (List.mem_of_getElem? (i := 1) rfl)
theorem lk_X6_16 : Cond.fieldLink RX6 16 "BagViews$Relation" "next" "LBagViews$Bag;" ∈ wsL_law := wb_2 _ (List.mem_of_getElem? (i := 2) rfl)
theorem lk_X6_19 : Cond.fieldLink RX6 19 "BagViews$Relation" "view" "LBagViews$View;" ∈ wsL_law := wb_2 _ (List.mem_of_getElem? (i := 3) rfl)
theorem lk_X6_23 : Cond.fieldLink RX6 23 "BagViews$Relation" "columnCount" "I" ∈ wsL_law := wb_2 _ (List.mem_of_getElem? (i := 4) rfl)
theorem lk_X6_27 : Cond.fieldLink RX6 27 "BagViews$Relation" "pending" "I" ∈ wsL_law := wb_2 _ (List.mem_of_getElem? (i := 5) rfl)
theorem lk_X6_30 : Cond.fieldLink RX6 30 "BagViews$Relation" "changedRows" "I" ∈ wsL_law := wb_2 _ (List.mem_of_getElem? (i := 6) rfl)
theorem wI_X0_init : Cond.instanceMethod yX0_init ∈ wsL_law := wb_2 _ (List.mem_of_getElem? (i := 7) rfl)
theorem wC_X0_init : Cond.code yX0_init cX0_init 1 none ∈ wsL_law := wb_2 _ (List.mem_of_getElem? (i := 8) rfl)
theorem lk_X0_3 : Cond.methodLink RX0 3 objectInit ∈ wsL_law := wb_2 _ (List.mem_of_getElem? (i := 9) rfl)
theorem lk_X0_9 : Cond.fieldLink RX0 9 "BagViews$Bag" "cells" "[I" ∈ wsL_law := wb_2 _ (List.mem_of_getElem? (i := 10) rfl)
theorem lk_X0_15 : Cond.fieldLink RX0 15 "BagViews$Bag" "often" "[I" ∈ wsL_law := wb_2 _ (List.mem_of_getElem? (i := 11) rfl)
theorem lk_L_82 : Cond.methodLink RL 82 yX11_init ∈ wsL_law := wb_2 _ (List.mem_of_getElem? (i := 12) rfl)
theorem wI_X11_init : Cond.instanceMethod yX11_init ∈ wsL_law := wb_2 _ (List.mem_of_getElem? (i := 13) rfl)
theorem wC_X11_init : Cond.code yX11_init cX11_init 1 none ∈ wsL_law := wb_2 _ (List.mem_of_getElem? (i := 14) rfl)
theorem lk_X11_1 : Cond.methodLink RX11 1 objectInit ∈ wsL_law := wb_2 _ (List.mem_of_getElem? (i := 15) rfl)
theorem lk_X11_7 : Cond.fieldLink RX11 7 "BagViewsModel" "kinds" "[I" ∈ wsL_law := wb_2 _ (List.mem_of_getElem? (i := 16) rfl)
theorem lk_X11_13 : Cond.fieldLink RX11 13 "BagViewsModel" "widths" "[I" ∈ wsL_law := wb_2 _ (List.mem_of_getElem? (i := 17) rfl)
theorem lk_X11_16 : Cond.fieldLink RX11 16 "BagViewsModel" "lefts" "[I" ∈ wsL_law := wb_2 _ (List.mem_of_getElem? (i := 18) rfl)
theorem lk_X11_19 : Cond.fieldLink RX11 19 "BagViewsModel" "rights" "[I" ∈ wsL_law := wb_2 _ (List.mem_of_getElem? (i := 19) rfl)
theorem lk_X11_22 : Cond.fieldLink RX11 22 "BagViewsModel" "numbers" "[I" ∈ wsL_law := wb_2 _ (List.mem_of_getElem? (i := 20) rfl)
theorem wR_boolean : Cond.arrayClass .boolean ∈ wsL_law := wb_2 _ (List.mem_of_getElem? (i := 21) rfl)
theorem lk_X11_25 : Cond.fieldLink RX11 25 "BagViewsModel" "others" "[Z" ∈ wsL_law := wb_2 _ (List.mem_of_getElem? (i := 22) rfl)
theorem lk_X11_29 : Cond.fieldLink RX11 29 "BagViewsModel" "order" "[I" ∈ wsL_law := wb_2 _ (List.mem_of_getElem? (i := 23) rfl)
theorem lk_X11_32 : Cond.fieldLink RX11 32 "BagViewsModel" "changes" "[I" ∈ wsL_law := wb_3 _ (List.mem_of_getElem? (i := 0) rfl)
theorem lk_X11_35 : Cond.fieldLink RX11 35 "BagViewsModel" "cells" "[I" ∈ wsL_law := wb_3 _ (List.mem_of_getElem? (i := 1) rfl)
theorem lk_X11_38 : Cond.fieldLink RX11 38 "BagViewsModel" "times" "[I" ∈ wsL_law := wb_3 _ (List.mem_of_getElem? (i := 2) rfl)
theorem lk_X11_41 : Cond.fieldLink RX11 41 "BagViewsModel" "counts" "[I" ∈ wsL_law := wb_3 _ (List.mem_of_getElem? (i := 3) rfl)
theorem lk_X11_44 : Cond.fieldLink RX11 44 "BagViewsModel" "newCells" "[I" ∈ wsL_law := wb_3 _ (List.mem_of_getElem? (i := 4) rfl)
theorem lk_X11_47 : Cond.fieldLink RX11 47 "BagViewsModel" "newTimes" "[I" ∈ wsL_law := wb_3 _ (List.mem_of_getElem? (i := 5) rfl)
theorem lk_X11_50 : Cond.fieldLink RX11 50 "BagViewsModel" "newCounts" "[I" ∈ wsL_law := wb_3 _ (List.mem_of_getElem? (i := 6) rfl)
theorem lk_X11_53 : Cond.fieldLink RX11 53 "BagViewsModel" "row" "[I" ∈ wsL_law := wb_3 _ (List.mem_of_getElem? (i := 7) rfl)
theorem lk_L_83 : Cond.methodLink RL 83 yL_table ∈ wsL_law := wb_3 _ (List.mem_of_getElem? (i := 8) rfl)
theorem wS_L_table : Cond.static yL_table ∈ wsL_law := wb_3 _ (List.mem_of_getElem? (i := 9) rfl)
theorem wN_L : Cond.initialized RL ∈ wsL_law := wb_3 _ (List.mem_of_getElem? (i := 10) rfl)
theorem wH_L_table : Cond.codeWith yL_table cL_table 4 (some .int) [(0, 6, 9, 13), (0, 6, 12, 15), (0, 6, 15, 17)] ∈ wsL_law := wb_3 _ (List.mem_of_getElem? (i := 11) rfl)
theorem lk_L_13 : Cond.classLink RL 13 "java/lang/IndexOutOfBoundsException" ∈ wsL_law := wb_3 _ (List.mem_of_getElem? (i := 12) rfl)
theorem lk_L_15 : Cond.classLink RL 15 "java/lang/IllegalStateException" ∈ wsL_law := wb_3 _ (List.mem_of_getElem? (i := 13) rfl)
theorem lk_L_17 : Cond.classLink RL 17 "java/lang/IllegalArgumentException" ∈ wsL_law := wb_3 _ (List.mem_of_getElem? (i := 14) rfl)
theorem lk_L_7 : Cond.methodLink RL 7 yX10_table ∈ wsL_law := wb_3 _ (List.mem_of_getElem? (i := 15) rfl)
theorem wI_X10_table : Cond.instanceMethod yX10_table ∈ wsL_law := wb_3 _ (List.mem_of_getElem? (i := 16) rfl)
theorem wV_X10_X10_table : Cond.selects RX10 yX10_table yX10_table ∈ wsL_law := wb_3 _ (List.mem_of_getElem? (i := 17) rfl)
theorem wC_X10_table : Cond.code yX10_table cX10_table 4 none ∈ wsL_law := wb_3 _ (List.mem_of_getElem? (i := 18) rfl)
theorem lk_X10_28 : Cond.classLink RX10 28 "java/lang/IllegalArgumentException" ∈ wsL_law := wb_3 _ (List.mem_of_getElem? (i := 19) rfl)
theorem wN_IllegalArgumentException : Cond.initialized "java/lang/IllegalArgumentException" ∈ wsL_law := wb_3 _ (List.mem_of_getElem? (i := 20) rfl)
theorem lk_X10_20 : Cond.methodLink RX10 20 yX10_placeAt ∈ wsL_law := wb_3 _ (List.mem_of_getElem? (i := 21) rfl)
theorem wI_X10_placeAt : Cond.instanceMethod yX10_placeAt ∈ wsL_law := wb_3 _ (List.mem_of_getElem? (i := 22) rfl)
theorem wV_X10_X10_placeAt : Cond.selects RX10 yX10_placeAt yX10_placeAt ∈ wsL_law := wb_3 _ (List.mem_of_getElem? (i := 23) rfl)
theorem wC_X10_placeAt : Cond.code yX10_placeAt cX10_placeAt 2 (some (.object "BagViews$Relation")) ∈ wsL_law := wb_4 _ (List.mem_of_getElem? (i := 0) rfl)
theorem lk_X10_165 : Cond.classLink RX10 165 "java/lang/IndexOutOfBoundsException" ∈ wsL_law := wb_4 _ (List.mem_of_getElem? (i := 1) rfl)
theorem wN_IndexOutOfBoundsException : Cond.initialized "java/lang/IndexOutOfBoundsException" ∈ wsL_law := wb_4 _ (List.mem_of_getElem? (i := 2) rfl)
theorem lk_X10_24 : Cond.methodLink RX10 24 yX10_needFree ∈ wsL_law := wb_4 _ (List.mem_of_getElem? (i := 3) rfl)
theorem wS_X10_needFree : Cond.static yX10_needFree ∈ wsL_law := wb_4 _ (List.mem_of_getElem? (i := 4) rfl)
theorem wC_X10_needFree : Cond.code yX10_needFree cX10_needFree 1 none ∈ wsL_law := wb_4 _ (List.mem_of_getElem? (i := 5) rfl)
theorem lk_X10_114 : Cond.classLink RX10 114 "java/lang/IllegalStateException" ∈ wsL_law := wb_4 _ (List.mem_of_getElem? (i := 6) rfl)
theorem wN_IllegalStateException : Cond.initialized "java/lang/IllegalStateException" ∈ wsL_law := wb_4 _ (List.mem_of_getElem? (i := 7) rfl)
theorem lk_X10_182 : Cond.methodLink RX10 182 yX6_isThere ∈ wsL_law := wb_4 _ (List.mem_of_getElem? (i := 8) rfl)
theorem wI_X6_isThere : Cond.instanceMethod yX6_isThere ∈ wsL_law := wb_4 _ (List.mem_of_getElem? (i := 9) rfl)
theorem wV_X6_X6_isThere : Cond.selects RX6 yX6_isThere yX6_isThere ∈ wsL_law := wb_4 _ (List.mem_of_getElem? (i := 10) rfl)
theorem wC_X6_isThere : Cond.code yX6_isThere cX6_isThere 1 (some .boolean) ∈ wsL_law := wb_4 _ (List.mem_of_getElem? (i := 11) rfl)
theorem lk_X10_39 : Cond.methodLink RX10 39 yX0_clear ∈ wsL_law := wb_4 _ (List.mem_of_getElem? (i := 12) rfl)
theorem wI_X0_clear : Cond.instanceMethod yX0_clear ∈ wsL_law := wb_4 _ (List.mem_of_getElem? (i := 13) rfl)
theorem wV_X0_X0_clear : Cond.selects RX0 yX0_clear yX0_clear ∈ wsL_law := wb_4 _ (List.mem_of_getElem? (i := 14) rfl)
theorem wC_X0_clear : Cond.code yX0_clear cX0_clear 1 none ∈ wsL_law := wb_4 _ (List.mem_of_getElem? (i := 15) rfl)
theorem lk_X0_18 : Cond.fieldLink RX0 18 "BagViews$Bag" "rowCount" "I" ∈ wsL_law := wb_4 _ (List.mem_of_getElem? (i := 16) rfl)
theorem lk_X10_44 : Cond.methodLink RX10 44 yX6_begin ∈ wsL_law := wb_4 _ (List.mem_of_getElem? (i := 17) rfl)
theorem wI_X6_begin : Cond.instanceMethod yX6_begin ∈ wsL_law := wb_4 _ (List.mem_of_getElem? (i := 18) rfl)
theorem wV_X6_X6_begin : Cond.selects RX6 yX6_begin yX6_begin ∈ wsL_law := wb_4 _ (List.mem_of_getElem? (i := 19) rfl)
theorem wC_X6_begin : Cond.code yX6_begin cX6_begin 3 none ∈ wsL_law := wb_4 _ (List.mem_of_getElem? (i := 20) rfl)
theorem lk_L_88 : Cond.methodLink RL 88 yX11_table ∈ wsL_law := wb_4 _ (List.mem_of_getElem? (i := 21) rfl)
theorem wI_X11_table : Cond.instanceMethod yX11_table ∈ wsL_law := wb_4 _ (List.mem_of_getElem? (i := 22) rfl)
theorem wV_X11_X11_table : Cond.selects RX11 yX11_table yX11_table ∈ wsL_law := wb_4 _ (List.mem_of_getElem? (i := 23) rfl)
theorem wC_X11_table : Cond.code yX11_table cX11_table 3 none ∈ wsL_law := wb_5 _ (List.mem_of_getElem? (i := 0) rfl)
theorem lk_X11_56 : Cond.fieldLink RX11 56 "BagViewsModel" "thrown" "I" ∈ wsL_law := wb_5 _ (List.mem_of_getElem? (i := 1) rfl)
theorem lk_X11_109 : Cond.methodLink RX11 109 yX11_isPlace ∈ wsL_law := wb_5 _ (List.mem_of_getElem? (i := 2) rfl)
theorem wS_X11_isPlace : Cond.static yX11_isPlace ∈ wsL_law := wb_5 _ (List.mem_of_getElem? (i := 3) rfl)
theorem wC_X11_isPlace : Cond.code yX11_isPlace cX11_isPlace 1 (some .boolean) ∈ wsL_law := wb_5 _ (List.mem_of_getElem? (i := 4) rfl)
theorem lk_X11_119 : Cond.methodLink RX11 119 yX11_enter ∈ wsL_law := wb_5 _ (List.mem_of_getElem? (i := 5) rfl)
theorem wI_X11_enter : Cond.instanceMethod yX11_enter ∈ wsL_law := wb_5 _ (List.mem_of_getElem? (i := 6) rfl)
theorem wV_X11_X11_enter : Cond.selects RX11 yX11_enter yX11_enter ∈ wsL_law := wb_5 _ (List.mem_of_getElem? (i := 7) rfl)
theorem wC_X11_enter : Cond.code yX11_enter cX11_enter 6 none ∈ wsL_law := wb_5 _ (List.mem_of_getElem? (i := 8) rfl)
theorem lk_X11_116 : Cond.fieldLink RX11 116 "BagViewsModel" "orderCount" "I" ∈ wsL_law := wb_5 _ (List.mem_of_getElem? (i := 9) rfl)
theorem lk_L_89 : Cond.methodLink RL 89 yX11_thrown ∈ wsL_law := wb_5 _ (List.mem_of_getElem? (i := 10) rfl)
theorem wI_X11_thrown : Cond.instanceMethod yX11_thrown ∈ wsL_law := wb_5 _ (List.mem_of_getElem? (i := 11) rfl)
theorem wV_X11_X11_thrown : Cond.selects RX11 yX11_thrown yX11_thrown ∈ wsL_law := wb_5 _ (List.mem_of_getElem? (i := 12) rfl)
theorem wC_X11_thrown : Cond.code yX11_thrown cX11_thrown 1 (some .int) ∈ wsL_law := wb_5 _ (List.mem_of_getElem? (i := 13) rfl)
theorem lk_L_93 : Cond.methodLink RL 93 yL_select ∈ wsL_law := wb_5 _ (List.mem_of_getElem? (i := 14) rfl)
theorem wS_L_select : Cond.static yL_select ∈ wsL_law := wb_5 _ (List.mem_of_getElem? (i := 15) rfl)
theorem wH_L_select : Cond.codeWith yL_select cL_select 8 (some .int) [(0, 13, 16, 13), (0, 13, 20, 15), (0, 13, 24, 17), (0, 13, 28, 23)] ∈ wsL_law := wb_5 _ (List.mem_of_getElem? (i := 16) rfl)
theorem lk_L_23 : Cond.classLink RL 23 "java/lang/UnsupportedOperationException" ∈ wsL_law := wb_5 _ (List.mem_of_getElem? (i := 17) rfl)
theorem lk_L_19 : Cond.methodLink RL 19 yX10_select ∈ wsL_law := wb_5 _ (List.mem_of_getElem? (i := 18) rfl)
theorem wI_X10_select : Cond.instanceMethod yX10_select ∈ wsL_law := wb_5 _ (List.mem_of_getElem? (i := 19) rfl)
theorem wV_X10_X10_select : Cond.selects RX10 yX10_select yX10_select ∈ wsL_law := wb_5 _ (List.mem_of_getElem? (i := 20) rfl)
theorem wC_X10_select : Cond.code yX10_select cX10_select 9 none ∈ wsL_law := wb_5 _ (List.mem_of_getElem? (i := 21) rfl)
theorem lk_X10_61 : Cond.classLink RX10 61 RX7 ∈ wsL_law := wb_5 _ (List.mem_of_getElem? (i := 22) rfl)
theorem wA_X7 : Cond.instantiable RX7 8 ∈ wsL_law := wb_5 _ (List.mem_of_getElem? (i := 23) rfl)
theorem wN_X7 : Cond.initialized RX7 ∈ wsL_law := wb_6 _ (List.mem_of_getElem? (i := 0) rfl)
theorem lk_X10_48 : Cond.methodLink RX10 48 yX10_relationAt ∈ wsL_law := wb_6 _ (List.mem_of_getElem? (i := 1) rfl)
theorem wI_X10_relationAt : Cond.instanceMethod yX10_relationAt ∈ wsL_law := wb_6 _ (List.mem_of_getElem? (i := 2) rfl)
theorem wV_X10_X10_relationAt : Cond.selects RX10 yX10_relationAt yX10_relationAt ∈ wsL_law := wb_6 _ (List.mem_of_getElem? (i := 3) rfl)
theorem wC_X10_relationAt : Cond.code yX10_relationAt cX10_relationAt 3 (some (.object "BagViews$Relation")) ∈ wsL_law := wb_6 _ (List.mem_of_getElem? (i := 4) rfl)
theorem lk_X10_51 : Cond.methodLink RX10 51 yX10_needColumn ∈ wsL_law := wb_6 _ (List.mem_of_getElem? (i := 5) rfl)
theorem wS_X10_needColumn : Cond.static yX10_needColumn ∈ wsL_law := wb_6 _ (List.mem_of_getElem? (i := 6) rfl)
theorem wC_X10_needColumn : Cond.code yX10_needColumn cX10_needColumn 2 none ∈ wsL_law := wb_6 _ (List.mem_of_getElem? (i := 7) rfl)
theorem lk_X10_63 : Cond.methodLink RX10 63 yX7_init ∈ wsL_law := wb_6 _ (List.mem_of_getElem? (i := 8) rfl)
theorem wI_X7_init : Cond.instanceMethod yX7_init ∈ wsL_law := wb_6 _ (List.mem_of_getElem? (i := 9) rfl)
theorem wC_X7_init : Cond.code yX7_init cX7_init 6 none ∈ wsL_law := wb_6 _ (List.mem_of_getElem? (i := 10) rfl)
theorem lk_X7_9 : Cond.fieldLink RX7 9 "BagViews$Selection" "column" "I" ∈ wsL_law := wb_6 _ (List.mem_of_getElem? (i := 11) rfl)
theorem lk_X7_15 : Cond.fieldLink RX7 15 "BagViews$Selection" "compare" "I" ∈ wsL_law := wb_6 _ (List.mem_of_getElem? (i := 12) rfl)
theorem lk_X7_18 : Cond.fieldLink RX7 18 "BagViews$Selection" "than" "I" ∈ wsL_law := wb_6 _ (List.mem_of_getElem? (i := 13) rfl)
theorem lk_X7_21 : Cond.fieldLink RX7 21 "BagViews$Selection" "thanColumn" "Z" ∈ wsL_law := wb_6 _ (List.mem_of_getElem? (i := 14) rfl)
theorem lk_X7_3 : Cond.methodLink RX7 3 yX9_init ∈ wsL_law := wb_6 _ (List.mem_of_getElem? (i := 15) rfl)
theorem wI_X9_init : Cond.instanceMethod yX9_init ∈ wsL_law := wb_6 _ (List.mem_of_getElem? (i := 16) rfl)
theorem wN_X9 : Cond.initialized RX9 ∈ wsL_law := wb_6 _ (List.mem_of_getElem? (i := 17) rfl)
theorem wC_X9_init : Cond.code yX9_init cX9_init 3 none ∈ wsL_law := wb_6 _ (List.mem_of_getElem? (i := 18) rfl)
theorem lk_X9_3 : Cond.methodLink RX9 3 objectInit ∈ wsL_law := wb_6 _ (List.mem_of_getElem? (i := 19) rfl)
theorem lk_X9_9 : Cond.fieldLink RX9 9 "BagViews$View" "row" "[I" ∈ wsL_law := wb_6 _ (List.mem_of_getElem? (i := 20) rfl)
theorem lk_X9_15 : Cond.fieldLink RX9 15 "BagViews$View" "left" "LBagViews$Relation;" ∈ wsL_law := wb_6 _ (List.mem_of_getElem? (i := 21) rfl)
theorem lk_X9_19 : Cond.fieldLink RX9 19 "BagViews$View" "right" "LBagViews$Relation;" ∈ wsL_law := wb_6 _ (List.mem_of_getElem? (i := 22) rfl)
theorem lk_X9_28 : Cond.methodLink RX9 28 Lib.Math.max.name ∈ wsL_law := wb_6 _ (List.mem_of_getElem? (i := 23) rfl)
theorem wz_3 : Cond.static Lib.Math.max.name ∈ wsL_law := wb_7 _ (List.mem_of_getElem? (i := 0) rfl)
theorem wN_Math : Cond.initialized "java/lang/Math" ∈ wsL_law := wb_7 _ (List.mem_of_getElem? (i := 1) rfl)
theorem wz_4 : Cond.code Lib.Math.max.name Lib.Math.max.code 2 (some .int) ∈ wsL_law := wb_7 _ (List.mem_of_getElem? (i := 2) rfl)
theorem lk_X9_34 : Cond.fieldLink RX9 34 "BagViews$View" "depth" "I" ∈ wsL_law := wb_7 _ (List.mem_of_getElem? (i := 3) rfl)
theorem lk_X9_22 : Cond.methodLink RX9 22 yX6_depth ∈ wsL_law := wb_7 _ (List.mem_of_getElem? (i := 4) rfl)
theorem wI_X6_depth : Cond.instanceMethod yX6_depth ∈ wsL_law := wb_7 _ (List.mem_of_getElem? (i := 5) rfl)
theorem wV_X6_X6_depth : Cond.selects RX6 yX6_depth yX6_depth ∈ wsL_law := wb_7 _ (List.mem_of_getElem? (i := 6) rfl)
theorem wC_X6_depth : Cond.code yX6_depth cX6_depth 1 (some .int) ∈ wsL_law := wb_7 _ (List.mem_of_getElem? (i := 7) rfl)
theorem lk_X6_42 : Cond.fieldLink RX6 42 "BagViews$View" "depth" "I" ∈ wsL_law := wb_7 _ (List.mem_of_getElem? (i := 8) rfl)
theorem lk_X10_66 : Cond.methodLink RX10 66 yX10_makeView ∈ wsL_law := wb_7 _ (List.mem_of_getElem? (i := 9) rfl)
theorem wS_X10_makeView : Cond.static yX10_makeView ∈ wsL_law := wb_7 _ (List.mem_of_getElem? (i := 10) rfl)
theorem wC_X10_makeView : Cond.code yX10_makeView cX10_makeView 3 none ∈ wsL_law := wb_7 _ (List.mem_of_getElem? (i := 11) rfl)
theorem lk_X10_214 : Cond.classLink RX10 214 "java/lang/UnsupportedOperationException" ∈ wsL_law := wb_7 _ (List.mem_of_getElem? (i := 12) rfl)
theorem wN_UnsupportedOperationException : Cond.initialized "java/lang/UnsupportedOperationException" ∈ wsL_law := wb_7 _ (List.mem_of_getElem? (i := 13) rfl)
theorem lk_X10_208 : Cond.methodLink RX10 208 ⟨"BagViews$View", "makeInto", "(LBagViews$Bag;)Z"⟩ ∈ wsL_law := wb_7 _ (List.mem_of_getElem? (i := 14) rfl)
theorem wz_5 : Cond.sameMethod "BagViews$View" "BagViews$View" "makeInto" "(LBagViews$Bag;)Z" ∈ wsL_law := wb_7 _ (List.mem_of_getElem? (i := 15) rfl)
theorem wV_X1_X1_makeInto : Cond.selects RX1 ⟨"BagViews$View", "makeInto", "(LBagViews$Bag;)Z"⟩ yX1_makeInto ∈ wsL_law := wb_7 _ (List.mem_of_getElem? (i := 16) rfl)
theorem wI_X1_makeInto : Cond.instanceMethod yX1_makeInto ∈ wsL_law := wb_7 _ (List.mem_of_getElem? (i := 17) rfl)
theorem wN_X1 : Cond.initialized RX1 ∈ wsL_law := wb_7 _ (List.mem_of_getElem? (i := 18) rfl)
theorem wC_X1_makeInto : Cond.code yX1_makeInto cX1_makeInto 6 (some .boolean) ∈ wsL_law := wb_7 _ (List.mem_of_getElem? (i := 19) rfl)
theorem lk_X1_15 : Cond.fieldLink RX1 15 "BagViews$Choice" "left" "LBagViews$Relation;" ∈ wsL_law := wb_7 _ (List.mem_of_getElem? (i := 20) rfl)
theorem wz_6 : Cond.sameField "BagViews$Choice" "BagViews$View" "left" "LBagViews$Relation;" ∈ wsL_law := wb_7 _ (List.mem_of_getElem? (i := 21) rfl)
theorem lk_X1_31 : Cond.fieldLink RX1 31 "BagViews$Choice" "row" "[I" ∈ wsL_law := wb_7 _ (List.mem_of_getElem? (i := 22) rfl)
theorem wz_7 : Cond.sameField "BagViews$Choice" "BagViews$View" "row" "[I" ∈ wsL_law := wb_7 _ (List.mem_of_getElem? (i := 23) rfl)
theorem lk_X1_9 : Cond.fieldLink RX1 9 "BagViews$Choice" "chosen" "[I" ∈ wsL_law := wb_8 _ (List.mem_of_getElem? (i := 0) rfl)
theorem lk_X1_19 : Cond.methodLink RX1 19 yX6_latest ∈ wsL_law := wb_8 _ (List.mem_of_getElem? (i := 1) rfl)
theorem wI_X6_latest : Cond.instanceMethod yX6_latest ∈ wsL_law := wb_8 _ (List.mem_of_getElem? (i := 2) rfl)
theorem wV_X6_X6_latest : Cond.selects RX6 yX6_latest yX6_latest ∈ wsL_law := wb_8 _ (List.mem_of_getElem? (i := 3) rfl)
theorem wC_X6_latest : Cond.code yX6_latest cX6_latest 1 (some (.object "BagViews$Bag")) ∈ wsL_law := wb_8 _ (List.mem_of_getElem? (i := 4) rfl)
theorem lk_X1_34 : Cond.methodLink RX1 34 yX0_cellAt ∈ wsL_law := wb_8 _ (List.mem_of_getElem? (i := 5) rfl)
theorem wI_X0_cellAt : Cond.instanceMethod yX0_cellAt ∈ wsL_law := wb_8 _ (List.mem_of_getElem? (i := 6) rfl)
theorem wV_X0_X0_cellAt : Cond.selects RX0 yX0_cellAt yX0_cellAt ∈ wsL_law := wb_8 _ (List.mem_of_getElem? (i := 7) rfl)
theorem wC_X0_cellAt : Cond.code yX0_cellAt cX0_cellAt 3 (some .int) ∈ wsL_law := wb_8 _ (List.mem_of_getElem? (i := 8) rfl)
theorem lk_X1_41 : Cond.methodLink RX1 41 yX0_add ∈ wsL_law := wb_8 _ (List.mem_of_getElem? (i := 9) rfl)
theorem wI_X0_add : Cond.instanceMethod yX0_add ∈ wsL_law := wb_8 _ (List.mem_of_getElem? (i := 10) rfl)
theorem wV_X0_X0_add : Cond.selects RX0 yX0_add yX0_add ∈ wsL_law := wb_8 _ (List.mem_of_getElem? (i := 11) rfl)
theorem wC_X0_add : Cond.code yX0_add cX0_add 5 (some .boolean) ∈ wsL_law := wb_8 _ (List.mem_of_getElem? (i := 12) rfl)
theorem lk_X0_28 : Cond.methodLink RX0 28 yX0_placeBehind ∈ wsL_law := wb_8 _ (List.mem_of_getElem? (i := 13) rfl)
theorem wI_X0_placeBehind : Cond.instanceMethod yX0_placeBehind ∈ wsL_law := wb_8 _ (List.mem_of_getElem? (i := 14) rfl)
theorem wV_X0_X0_placeBehind : Cond.selects RX0 yX0_placeBehind yX0_placeBehind ∈ wsL_law := wb_8 _ (List.mem_of_getElem? (i := 15) rfl)
theorem wC_X0_placeBehind : Cond.code yX0_placeBehind cX0_placeBehind 3 (some .int) ∈ wsL_law := wb_8 _ (List.mem_of_getElem? (i := 16) rfl)
theorem lk_X0_44 : Cond.methodLink RX0 44 yX0_compareRow ∈ wsL_law := wb_8 _ (List.mem_of_getElem? (i := 17) rfl)
theorem wI_X0_compareRow : Cond.instanceMethod yX0_compareRow ∈ wsL_law := wb_8 _ (List.mem_of_getElem? (i := 18) rfl)
theorem wV_X0_X0_compareRow : Cond.selects RX0 yX0_compareRow yX0_compareRow ∈ wsL_law := wb_8 _ (List.mem_of_getElem? (i := 19) rfl)
theorem wC_X0_compareRow : Cond.code yX0_compareRow cX0_compareRow 7 (some .int) ∈ wsL_law := wb_8 _ (List.mem_of_getElem? (i := 20) rfl)
theorem lk_X0_32 : Cond.methodLink RX0 32 yX0_isAt ∈ wsL_law := wb_8 _ (List.mem_of_getElem? (i := 21) rfl)
theorem wI_X0_isAt : Cond.instanceMethod yX0_isAt ∈ wsL_law := wb_8 _ (List.mem_of_getElem? (i := 22) rfl)
theorem wV_X0_X0_isAt : Cond.selects RX0 yX0_isAt yX0_isAt ∈ wsL_law := wb_8 _ (List.mem_of_getElem? (i := 23) rfl)
theorem wC_X0_isAt : Cond.code yX0_isAt cX0_isAt 3 (some .boolean) ∈ wsL_law := wb_9 _ (List.mem_of_getElem? (i := 0) rfl)
theorem lk_X0_36 : Cond.methodLink RX0 36 yX0_setTimes ∈ wsL_law := wb_9 _ (List.mem_of_getElem? (i := 1) rfl)
theorem wI_X0_setTimes : Cond.instanceMethod yX0_setTimes ∈ wsL_law := wb_9 _ (List.mem_of_getElem? (i := 2) rfl)
theorem wV_X0_X0_setTimes : Cond.selects RX0 yX0_setTimes yX0_setTimes ∈ wsL_law := wb_9 _ (List.mem_of_getElem? (i := 3) rfl)
theorem wC_X0_setTimes : Cond.code yX0_setTimes cX0_setTimes 4 (some .boolean) ∈ wsL_law := wb_9 _ (List.mem_of_getElem? (i := 4) rfl)
theorem lk_X0_48 : Cond.constantLong RX0 48 (1000000000) ∈ wsL_law := wb_9 _ (List.mem_of_getElem? (i := 5) rfl)
theorem lk_X0_50 : Cond.methodLink RX0 50 yX0_remove ∈ wsL_law := wb_9 _ (List.mem_of_getElem? (i := 6) rfl)
theorem wI_X0_remove : Cond.instanceMethod yX0_remove ∈ wsL_law := wb_9 _ (List.mem_of_getElem? (i := 7) rfl)
theorem wV_X0_X0_remove : Cond.selects RX0 yX0_remove yX0_remove ∈ wsL_law := wb_9 _ (List.mem_of_getElem? (i := 8) rfl)
theorem wC_X0_remove : Cond.code yX0_remove cX0_remove 4 none ∈ wsL_law := wb_9 _ (List.mem_of_getElem? (i := 9) rfl)
theorem lk_X0_22 : Cond.methodLink RX0 22 arraycopyName ∈ wsL_law := wb_9 _ (List.mem_of_getElem? (i := 10) rfl)
theorem wz_8 : Cond.native arraycopyName ∈ wsL_law := wb_9 _ (List.mem_of_getElem? (i := 11) rfl)
theorem wz_9 : Cond.static arraycopyName ∈ wsL_law := wb_9 _ (List.mem_of_getElem? (i := 12) rfl)
theorem wN_System : Cond.initialized "java/lang/System" ∈ wsL_law := wb_9 _ (List.mem_of_getElem? (i := 13) rfl)
theorem lk_X0_40 : Cond.methodLink RX0 40 yX0_insert ∈ wsL_law := wb_9 _ (List.mem_of_getElem? (i := 14) rfl)
theorem wI_X0_insert : Cond.instanceMethod yX0_insert ∈ wsL_law := wb_9 _ (List.mem_of_getElem? (i := 15) rfl)
theorem wV_X0_X0_insert : Cond.selects RX0 yX0_insert yX0_insert ∈ wsL_law := wb_9 _ (List.mem_of_getElem? (i := 16) rfl)
theorem wC_X0_insert : Cond.code yX0_insert cX0_insert 7 (some .boolean) ∈ wsL_law := wb_9 _ (List.mem_of_getElem? (i := 17) rfl)
theorem wV_X2_X2_makeInto : Cond.selects RX2 ⟨"BagViews$View", "makeInto", "(LBagViews$Bag;)Z"⟩ yX2_makeInto ∈ wsL_law := wb_9 _ (List.mem_of_getElem? (i := 18) rfl)
theorem wI_X2_makeInto : Cond.instanceMethod yX2_makeInto ∈ wsL_law := wb_9 _ (List.mem_of_getElem? (i := 19) rfl)
theorem wN_X2 : Cond.initialized RX2 ∈ wsL_law := wb_9 _ (List.mem_of_getElem? (i := 20) rfl)
theorem wC_X2_makeInto : Cond.code yX2_makeInto cX2_makeInto 6 (some .boolean) ∈ wsL_law := wb_9 _ (List.mem_of_getElem? (i := 21) rfl)
theorem lk_X2_7 : Cond.fieldLink RX2 7 "BagViews$Difference" "left" "LBagViews$Relation;" ∈ wsL_law := wb_9 _ (List.mem_of_getElem? (i := 22) rfl)
theorem wz_10 : Cond.sameField "BagViews$Difference" "BagViews$View" "left" "LBagViews$Relation;" ∈ wsL_law := wb_9 _ (List.mem_of_getElem? (i := 23) rfl)
theorem lk_X2_19 : Cond.fieldLink RX2 19 "BagViews$Difference" "right" "LBagViews$Relation;" ∈ wsL_law := wb_10 _ (List.mem_of_getElem? (i := 0) rfl)
theorem wz_11 : Cond.sameField "BagViews$Difference" "BagViews$View" "right" "LBagViews$Relation;" ∈ wsL_law := wb_10 _ (List.mem_of_getElem? (i := 1) rfl)
theorem lk_X2_28 : Cond.fieldLink RX2 28 "BagViews$Difference" "row" "[I" ∈ wsL_law := wb_10 _ (List.mem_of_getElem? (i := 2) rfl)
theorem wz_12 : Cond.sameField "BagViews$Difference" "BagViews$View" "row" "[I" ∈ wsL_law := wb_10 _ (List.mem_of_getElem? (i := 3) rfl)
theorem lk_X2_13 : Cond.methodLink RX2 13 yX6_latest ∈ wsL_law := wb_10 _ (List.mem_of_getElem? (i := 4) rfl)
theorem lk_X2_32 : Cond.methodLink RX2 32 yX0_readRow ∈ wsL_law := wb_10 _ (List.mem_of_getElem? (i := 5) rfl)
theorem wI_X0_readRow : Cond.instanceMethod yX0_readRow ∈ wsL_law := wb_10 _ (List.mem_of_getElem? (i := 6) rfl)
theorem wV_X0_X0_readRow : Cond.selects RX0 yX0_readRow yX0_readRow ∈ wsL_law := wb_10 _ (List.mem_of_getElem? (i := 7) rfl)
theorem wC_X0_readRow : Cond.code yX0_readRow cX0_readRow 3 none ∈ wsL_law := wb_10 _ (List.mem_of_getElem? (i := 8) rfl)
theorem lk_X2_39 : Cond.methodLink RX2 39 yX0_timesOf ∈ wsL_law := wb_10 _ (List.mem_of_getElem? (i := 9) rfl)
theorem wI_X0_timesOf : Cond.instanceMethod yX0_timesOf ∈ wsL_law := wb_10 _ (List.mem_of_getElem? (i := 10) rfl)
theorem wV_X0_X0_timesOf : Cond.selects RX0 yX0_timesOf yX0_timesOf ∈ wsL_law := wb_10 _ (List.mem_of_getElem? (i := 11) rfl)
theorem wC_X0_timesOf : Cond.code yX0_timesOf cX0_timesOf 3 (some .int) ∈ wsL_law := wb_10 _ (List.mem_of_getElem? (i := 12) rfl)
theorem lk_X2_43 : Cond.methodLink RX2 43 yX0_add ∈ wsL_law := wb_10 _ (List.mem_of_getElem? (i := 13) rfl)
theorem wV_X3_X3_makeInto : Cond.selects RX3 ⟨"BagViews$View", "makeInto", "(LBagViews$Bag;)Z"⟩ yX3_makeInto ∈ wsL_law := wb_10 _ (List.mem_of_getElem? (i := 14) rfl)
theorem wI_X3_makeInto : Cond.instanceMethod yX3_makeInto ∈ wsL_law := wb_10 _ (List.mem_of_getElem? (i := 15) rfl)
theorem wN_X3 : Cond.initialized RX3 ∈ wsL_law := wb_10 _ (List.mem_of_getElem? (i := 16) rfl)
theorem wC_X3_makeInto : Cond.code yX3_makeInto cX3_makeInto 5 (some .boolean) ∈ wsL_law := wb_10 _ (List.mem_of_getElem? (i := 17) rfl)
theorem lk_X3_21 : Cond.fieldLink RX3 21 "BagViews$Group" "left" "LBagViews$Relation;" ∈ wsL_law := wb_10 _ (List.mem_of_getElem? (i := 18) rfl)
theorem wz_13 : Cond.sameField "BagViews$Group" "BagViews$View" "left" "LBagViews$Relation;" ∈ wsL_law := wb_10 _ (List.mem_of_getElem? (i := 19) rfl)
theorem lk_X3_40 : Cond.fieldLink RX3 40 "BagViews$Group" "row" "[I" ∈ wsL_law := wb_10 _ (List.mem_of_getElem? (i := 20) rfl)
theorem wz_14 : Cond.sameField "BagViews$Group" "BagViews$View" "row" "[I" ∈ wsL_law := wb_10 _ (List.mem_of_getElem? (i := 21) rfl)
theorem lk_X3_9 : Cond.fieldLink RX3 9 "BagViews$Group" "by" "I" ∈ wsL_law := wb_10 _ (List.mem_of_getElem? (i := 22) rfl)
theorem lk_X3_25 : Cond.methodLink RX3 25 yX6_latest ∈ wsL_law := wb_10 _ (List.mem_of_getElem? (i := 23) rfl)
theorem lk_X3_36 : Cond.methodLink RX3 36 yX3_isFirst ∈ wsL_law := wb_11 _ (List.mem_of_getElem? (i := 0) rfl)
theorem wI_X3_isFirst : Cond.instanceMethod yX3_isFirst ∈ wsL_law := wb_11 _ (List.mem_of_getElem? (i := 1) rfl)
theorem wV_X3_X3_isFirst : Cond.selects RX3 yX3_isFirst yX3_isFirst ∈ wsL_law := wb_11 _ (List.mem_of_getElem? (i := 2) rfl)
theorem wC_X3_isFirst : Cond.code yX3_isFirst cX3_isFirst 4 (some .boolean) ∈ wsL_law := wb_11 _ (List.mem_of_getElem? (i := 3) rfl)
theorem lk_X3_56 : Cond.methodLink RX3 56 yX3_isTogether ∈ wsL_law := wb_11 _ (List.mem_of_getElem? (i := 4) rfl)
theorem wI_X3_isTogether : Cond.instanceMethod yX3_isTogether ∈ wsL_law := wb_11 _ (List.mem_of_getElem? (i := 5) rfl)
theorem wV_X3_X3_isTogether : Cond.selects RX3 yX3_isTogether yX3_isTogether ∈ wsL_law := wb_11 _ (List.mem_of_getElem? (i := 6) rfl)
theorem wC_X3_isTogether : Cond.code yX3_isTogether cX3_isTogether 4 (some .boolean) ∈ wsL_law := wb_11 _ (List.mem_of_getElem? (i := 7) rfl)
theorem lk_X3_44 : Cond.methodLink RX3 44 yX0_cellAt ∈ wsL_law := wb_11 _ (List.mem_of_getElem? (i := 8) rfl)
theorem lk_X3_48 : Cond.methodLink RX3 48 yX3_valueFrom ∈ wsL_law := wb_11 _ (List.mem_of_getElem? (i := 9) rfl)
theorem wI_X3_valueFrom : Cond.instanceMethod yX3_valueFrom ∈ wsL_law := wb_11 _ (List.mem_of_getElem? (i := 10) rfl)
theorem wV_X3_X3_valueFrom : Cond.selects RX3 yX3_valueFrom yX3_valueFrom ∈ wsL_law := wb_11 _ (List.mem_of_getElem? (i := 11) rfl)
theorem wC_X3_valueFrom : Cond.code yX3_valueFrom cX3_valueFrom 5 (some .int) ∈ wsL_law := wb_11 _ (List.mem_of_getElem? (i := 12) rfl)
theorem lk_X3_15 : Cond.fieldLink RX3 15 "BagViews$Group" "sort" "I" ∈ wsL_law := wb_11 _ (List.mem_of_getElem? (i := 13) rfl)
theorem lk_X3_18 : Cond.fieldLink RX3 18 "BagViews$Group" "column" "I" ∈ wsL_law := wb_11 _ (List.mem_of_getElem? (i := 14) rfl)
theorem lk_X3_63 : Cond.methodLink RX3 63 yX3_withRow ∈ wsL_law := wb_11 _ (List.mem_of_getElem? (i := 15) rfl)
theorem wI_X3_withRow : Cond.instanceMethod yX3_withRow ∈ wsL_law := wb_11 _ (List.mem_of_getElem? (i := 16) rfl)
theorem wV_X3_X3_withRow : Cond.selects RX3 yX3_withRow yX3_withRow ∈ wsL_law := wb_11 _ (List.mem_of_getElem? (i := 17) rfl)
theorem wC_X3_withRow : Cond.code yX3_withRow cX3_withRow 4 (some .int) ∈ wsL_law := wb_11 _ (List.mem_of_getElem? (i := 18) rfl)
theorem lk_X3_67 : Cond.methodLink RX3 67 Lib.Math.min.name ∈ wsL_law := wb_11 _ (List.mem_of_getElem? (i := 19) rfl)
theorem wz_15 : Cond.static Lib.Math.min.name ∈ wsL_law := wb_11 _ (List.mem_of_getElem? (i := 20) rfl)
theorem wz_16 : Cond.code Lib.Math.min.name Lib.Math.min.code 2 (some .int) ∈ wsL_law := wb_11 _ (List.mem_of_getElem? (i := 21) rfl)
theorem lk_X3_72 : Cond.methodLink RX3 72 Lib.Math.max.name ∈ wsL_law := wb_11 _ (List.mem_of_getElem? (i := 22) rfl)
theorem lk_X3_52 : Cond.methodLink RX3 52 yX0_add ∈ wsL_law := wb_11 _ (List.mem_of_getElem? (i := 23) rfl)
theorem wV_X4_X4_makeInto : Cond.selects RX4 ⟨"BagViews$View", "makeInto", "(LBagViews$Bag;)Z"⟩ yX4_makeInto ∈ wsL_law := wb_12 _ (List.mem_of_getElem? (i := 0) rfl)
theorem wI_X4_makeInto : Cond.instanceMethod yX4_makeInto ∈ wsL_law := wb_12 _ (List.mem_of_getElem? (i := 1) rfl)
theorem wN_X4 : Cond.initialized RX4 ∈ wsL_law := wb_12 _ (List.mem_of_getElem? (i := 2) rfl)
theorem wC_X4_makeInto : Cond.code yX4_makeInto cX4_makeInto 6 (some .boolean) ∈ wsL_law := wb_12 _ (List.mem_of_getElem? (i := 3) rfl)
theorem lk_X4_18 : Cond.fieldLink RX4 18 "BagViews$Join" "left" "LBagViews$Relation;" ∈ wsL_law := wb_12 _ (List.mem_of_getElem? (i := 4) rfl)
theorem wz_17 : Cond.sameField "BagViews$Join" "BagViews$View" "left" "LBagViews$Relation;" ∈ wsL_law := wb_12 _ (List.mem_of_getElem? (i := 5) rfl)
theorem lk_X4_28 : Cond.fieldLink RX4 28 "BagViews$Join" "right" "LBagViews$Relation;" ∈ wsL_law := wb_12 _ (List.mem_of_getElem? (i := 6) rfl)
theorem wz_18 : Cond.sameField "BagViews$Join" "BagViews$View" "right" "LBagViews$Relation;" ∈ wsL_law := wb_12 _ (List.mem_of_getElem? (i := 7) rfl)
theorem lk_X4_9 : Cond.fieldLink RX4 9 "BagViews$Join" "leftColumn" "I" ∈ wsL_law := wb_12 _ (List.mem_of_getElem? (i := 8) rfl)
theorem lk_X4_15 : Cond.fieldLink RX4 15 "BagViews$Join" "rightColumn" "I" ∈ wsL_law := wb_12 _ (List.mem_of_getElem? (i := 9) rfl)
theorem lk_X4_44 : Cond.fieldLink RX4 44 "BagViews$Join" "row" "[I" ∈ wsL_law := wb_12 _ (List.mem_of_getElem? (i := 10) rfl)
theorem wz_19 : Cond.sameField "BagViews$Join" "BagViews$View" "row" "[I" ∈ wsL_law := wb_12 _ (List.mem_of_getElem? (i := 11) rfl)
theorem lk_X4_22 : Cond.methodLink RX4 22 yX6_latest ∈ wsL_law := wb_12 _ (List.mem_of_getElem? (i := 12) rfl)
theorem lk_X4_36 : Cond.methodLink RX4 36 yX0_cellAt ∈ wsL_law := wb_12 _ (List.mem_of_getElem? (i := 13) rfl)
theorem lk_X4_40 : Cond.methodLink RX4 40 yX4_readPair ∈ wsL_law := wb_12 _ (List.mem_of_getElem? (i := 14) rfl)
theorem wI_X4_readPair : Cond.instanceMethod yX4_readPair ∈ wsL_law := wb_12 _ (List.mem_of_getElem? (i := 15) rfl)
theorem wV_X4_X4_readPair : Cond.selects RX4 yX4_readPair yX4_readPair ∈ wsL_law := wb_12 _ (List.mem_of_getElem? (i := 16) rfl)
theorem wC_X4_readPair : Cond.code yX4_readPair cX4_readPair 6 none ∈ wsL_law := wb_12 _ (List.mem_of_getElem? (i := 17) rfl)
theorem lk_X4_55 : Cond.methodLink RX4 55 yX0_readRow ∈ wsL_law := wb_12 _ (List.mem_of_getElem? (i := 18) rfl)
theorem lk_X4_51 : Cond.methodLink RX4 51 yX0_add ∈ wsL_law := wb_12 _ (List.mem_of_getElem? (i := 19) rfl)
theorem wV_X5_X5_makeInto : Cond.selects RX5 ⟨"BagViews$View", "makeInto", "(LBagViews$Bag;)Z"⟩ yX5_makeInto ∈ wsL_law := wb_12 _ (List.mem_of_getElem? (i := 20) rfl)
theorem wI_X5_makeInto : Cond.instanceMethod yX5_makeInto ∈ wsL_law := wb_12 _ (List.mem_of_getElem? (i := 21) rfl)
theorem wN_X5 : Cond.initialized RX5 ∈ wsL_law := wb_12 _ (List.mem_of_getElem? (i := 22) rfl)
theorem wC_X5_makeInto : Cond.code yX5_makeInto cX5_makeInto 5 (some .boolean) ∈ wsL_law := wb_12 _ (List.mem_of_getElem? (i := 23) rfl)
theorem lk_X5_7 : Cond.fieldLink RX5 7 "BagViews$Once" "left" "LBagViews$Relation;" ∈ wsL_law := wb_13 _ (List.mem_of_getElem? (i := 0) rfl)
theorem wz_20 : Cond.sameField "BagViews$Once" "BagViews$View" "left" "LBagViews$Relation;" ∈ wsL_law := wb_13 _ (List.mem_of_getElem? (i := 1) rfl)
theorem lk_X5_25 : Cond.fieldLink RX5 25 "BagViews$Once" "row" "[I" ∈ wsL_law := wb_13 _ (List.mem_of_getElem? (i := 2) rfl)
theorem wz_21 : Cond.sameField "BagViews$Once" "BagViews$View" "row" "[I" ∈ wsL_law := wb_13 _ (List.mem_of_getElem? (i := 3) rfl)
theorem lk_X5_13 : Cond.methodLink RX5 13 yX6_latest ∈ wsL_law := wb_13 _ (List.mem_of_getElem? (i := 4) rfl)
theorem lk_X5_29 : Cond.methodLink RX5 29 yX0_readRow ∈ wsL_law := wb_13 _ (List.mem_of_getElem? (i := 5) rfl)
theorem lk_X5_33 : Cond.methodLink RX5 33 yX0_add ∈ wsL_law := wb_13 _ (List.mem_of_getElem? (i := 6) rfl)
theorem wV_X7_X7_makeInto : Cond.selects RX7 ⟨"BagViews$View", "makeInto", "(LBagViews$Bag;)Z"⟩ yX7_makeInto ∈ wsL_law := wb_13 _ (List.mem_of_getElem? (i := 7) rfl)
theorem wI_X7_makeInto : Cond.instanceMethod yX7_makeInto ∈ wsL_law := wb_13 _ (List.mem_of_getElem? (i := 8) rfl)
theorem wC_X7_makeInto : Cond.code yX7_makeInto cX7_makeInto 6 (some .boolean) ∈ wsL_law := wb_13 _ (List.mem_of_getElem? (i := 9) rfl)
theorem lk_X7_25 : Cond.fieldLink RX7 25 "BagViews$Selection" "left" "LBagViews$Relation;" ∈ wsL_law := wb_13 _ (List.mem_of_getElem? (i := 10) rfl)
theorem wz_22 : Cond.sameField "BagViews$Selection" "BagViews$View" "left" "LBagViews$Relation;" ∈ wsL_law := wb_13 _ (List.mem_of_getElem? (i := 11) rfl)
theorem lk_X7_48 : Cond.fieldLink RX7 48 "BagViews$Selection" "row" "[I" ∈ wsL_law := wb_13 _ (List.mem_of_getElem? (i := 12) rfl)
theorem wz_23 : Cond.sameField "BagViews$Selection" "BagViews$View" "row" "[I" ∈ wsL_law := wb_13 _ (List.mem_of_getElem? (i := 13) rfl)
theorem lk_X7_29 : Cond.methodLink RX7 29 yX6_latest ∈ wsL_law := wb_13 _ (List.mem_of_getElem? (i := 14) rfl)
theorem lk_X7_40 : Cond.methodLink RX7 40 yX0_cellAt ∈ wsL_law := wb_13 _ (List.mem_of_getElem? (i := 15) rfl)
theorem lk_X7_44 : Cond.methodLink RX7 44 yX7_holds ∈ wsL_law := wb_13 _ (List.mem_of_getElem? (i := 16) rfl)
theorem wI_X7_holds : Cond.instanceMethod yX7_holds ∈ wsL_law := wb_13 _ (List.mem_of_getElem? (i := 17) rfl)
theorem wV_X7_X7_holds : Cond.selects RX7 yX7_holds yX7_holds ∈ wsL_law := wb_13 _ (List.mem_of_getElem? (i := 18) rfl)
theorem wC_X7_holds : Cond.code yX7_holds cX7_holds 3 (some .boolean) ∈ wsL_law := wb_13 _ (List.mem_of_getElem? (i := 19) rfl)
theorem lk_X7_52 : Cond.methodLink RX7 52 yX0_readRow ∈ wsL_law := wb_13 _ (List.mem_of_getElem? (i := 20) rfl)
theorem lk_X7_59 : Cond.methodLink RX7 59 yX0_add ∈ wsL_law := wb_13 _ (List.mem_of_getElem? (i := 21) rfl)
theorem wV_X8_X8_makeInto : Cond.selects RX8 ⟨"BagViews$View", "makeInto", "(LBagViews$Bag;)Z"⟩ yX8_makeInto ∈ wsL_law := wb_13 _ (List.mem_of_getElem? (i := 22) rfl)
theorem wI_X8_makeInto : Cond.instanceMethod yX8_makeInto ∈ wsL_law := wb_13 _ (List.mem_of_getElem? (i := 23) rfl)
theorem wN_X8 : Cond.initialized RX8 ∈ wsL_law := wb_14 _ (List.mem_of_getElem? (i := 0) rfl)
theorem wC_X8_makeInto : Cond.code yX8_makeInto cX8_makeInto 5 (some .boolean) ∈ wsL_law := wb_14 _ (List.mem_of_getElem? (i := 1) rfl)
theorem lk_X8_7 : Cond.fieldLink RX8 7 "BagViews$Union" "left" "LBagViews$Relation;" ∈ wsL_law := wb_14 _ (List.mem_of_getElem? (i := 2) rfl)
theorem wz_24 : Cond.sameField "BagViews$Union" "BagViews$View" "left" "LBagViews$Relation;" ∈ wsL_law := wb_14 _ (List.mem_of_getElem? (i := 3) rfl)
theorem lk_X8_25 : Cond.fieldLink RX8 25 "BagViews$Union" "right" "LBagViews$Relation;" ∈ wsL_law := wb_14 _ (List.mem_of_getElem? (i := 4) rfl)
theorem wz_25 : Cond.sameField "BagViews$Union" "BagViews$View" "right" "LBagViews$Relation;" ∈ wsL_law := wb_14 _ (List.mem_of_getElem? (i := 5) rfl)
theorem lk_X8_32 : Cond.fieldLink RX8 32 "BagViews$Union" "row" "[I" ∈ wsL_law := wb_14 _ (List.mem_of_getElem? (i := 6) rfl)
theorem wz_26 : Cond.sameField "BagViews$Union" "BagViews$View" "row" "[I" ∈ wsL_law := wb_14 _ (List.mem_of_getElem? (i := 7) rfl)
theorem lk_X8_13 : Cond.methodLink RX8 13 yX6_latest ∈ wsL_law := wb_14 _ (List.mem_of_getElem? (i := 8) rfl)
theorem lk_X8_19 : Cond.methodLink RX8 19 yX0_copyFrom ∈ wsL_law := wb_14 _ (List.mem_of_getElem? (i := 9) rfl)
theorem wI_X0_copyFrom : Cond.instanceMethod yX0_copyFrom ∈ wsL_law := wb_14 _ (List.mem_of_getElem? (i := 10) rfl)
theorem wV_X0_X0_copyFrom : Cond.selects RX0 yX0_copyFrom yX0_copyFrom ∈ wsL_law := wb_14 _ (List.mem_of_getElem? (i := 11) rfl)
theorem wC_X0_copyFrom : Cond.code yX0_copyFrom cX0_copyFrom 2 none ∈ wsL_law := wb_14 _ (List.mem_of_getElem? (i := 12) rfl)
theorem lk_X8_36 : Cond.methodLink RX8 36 yX0_readRow ∈ wsL_law := wb_14 _ (List.mem_of_getElem? (i := 13) rfl)
theorem lk_X8_43 : Cond.methodLink RX8 43 yX0_add ∈ wsL_law := wb_14 _ (List.mem_of_getElem? (i := 14) rfl)
theorem lk_L_96 : Cond.methodLink RL 96 yX11_select ∈ wsL_law := wb_14 _ (List.mem_of_getElem? (i := 15) rfl)
theorem wI_X11_select : Cond.instanceMethod yX11_select ∈ wsL_law := wb_14 _ (List.mem_of_getElem? (i := 16) rfl)
theorem wV_X11_X11_select : Cond.selects RX11 yX11_select yX11_select ∈ wsL_law := wb_14 _ (List.mem_of_getElem? (i := 17) rfl)
theorem wC_X11_select : Cond.code yX11_select cX11_select 8 none ∈ wsL_law := wb_14 _ (List.mem_of_getElem? (i := 18) rfl)
theorem lk_X11_135 : Cond.methodLink RX11 135 yX11_isColumn ∈ wsL_law := wb_14 _ (List.mem_of_getElem? (i := 19) rfl)
theorem wI_X11_isColumn : Cond.instanceMethod yX11_isColumn ∈ wsL_law := wb_14 _ (List.mem_of_getElem? (i := 20) rfl)
theorem wV_X11_X11_isColumn : Cond.selects RX11 yX11_isColumn yX11_isColumn ∈ wsL_law := wb_14 _ (List.mem_of_getElem? (i := 21) rfl)
theorem wC_X11_isColumn : Cond.code yX11_isColumn cX11_isColumn 3 (some .boolean) ∈ wsL_law := wb_14 _ (List.mem_of_getElem? (i := 22) rfl)
theorem lk_X11_113 : Cond.methodLink RX11 113 yX11_is ∈ wsL_law := wb_14 _ (List.mem_of_getElem? (i := 23) rfl)
theorem wI_X11_is : Cond.instanceMethod yX11_is ∈ wsL_law := wb_15 _ (List.mem_of_getElem? (i := 0) rfl)
theorem wV_X11_X11_is : Cond.selects RX11 yX11_is yX11_is ∈ wsL_law := wb_15 _ (List.mem_of_getElem? (i := 1) rfl)
theorem wC_X11_is : Cond.code yX11_is cX11_is 2 (some .boolean) ∈ wsL_law := wb_15 _ (List.mem_of_getElem? (i := 2) rfl)
theorem lk_X11_138 : Cond.methodLink RX11 138 yX11_view ∈ wsL_law := wb_15 _ (List.mem_of_getElem? (i := 3) rfl)
theorem wI_X11_view : Cond.instanceMethod yX11_view ∈ wsL_law := wb_15 _ (List.mem_of_getElem? (i := 4) rfl)
theorem wV_X11_X11_view : Cond.selects RX11 yX11_view yX11_view ∈ wsL_law := wb_15 _ (List.mem_of_getElem? (i := 5) rfl)
theorem wC_X11_view : Cond.code yX11_view cX11_view 6 none ∈ wsL_law := wb_15 _ (List.mem_of_getElem? (i := 6) rfl)
theorem lk_X11_68 : Cond.fieldLink RX11 68 "BagViewsModel" "fits" "Z" ∈ wsL_law := wb_15 _ (List.mem_of_getElem? (i := 7) rfl)
theorem lk_X11_123 : Cond.methodLink RX11 123 yX11_begin ∈ wsL_law := wb_15 _ (List.mem_of_getElem? (i := 8) rfl)
theorem wI_X11_begin : Cond.instanceMethod yX11_begin ∈ wsL_law := wb_15 _ (List.mem_of_getElem? (i := 9) rfl)
theorem wV_X11_X11_begin : Cond.selects RX11 yX11_begin yX11_begin ∈ wsL_law := wb_15 _ (List.mem_of_getElem? (i := 10) rfl)
theorem wC_X11_begin : Cond.code yX11_begin cX11_begin 4 none ∈ wsL_law := wb_15 _ (List.mem_of_getElem? (i := 11) rfl)
theorem lk_X11_126 : Cond.methodLink RX11 126 yX11_make ∈ wsL_law := wb_15 _ (List.mem_of_getElem? (i := 12) rfl)
theorem wI_X11_make : Cond.instanceMethod yX11_make ∈ wsL_law := wb_15 _ (List.mem_of_getElem? (i := 13) rfl)
theorem wV_X11_X11_make : Cond.selects RX11 yX11_make yX11_make ∈ wsL_law := wb_15 _ (List.mem_of_getElem? (i := 14) rfl)
theorem wC_X11_make : Cond.code yX11_make cX11_make 4 none ∈ wsL_law := wb_15 _ (List.mem_of_getElem? (i := 15) rfl)
theorem lk_X11_78 : Cond.methodLink RX11 78 yX11_makeJoin ∈ wsL_law := wb_15 _ (List.mem_of_getElem? (i := 16) rfl)
theorem wI_X11_makeJoin : Cond.instanceMethod yX11_makeJoin ∈ wsL_law := wb_15 _ (List.mem_of_getElem? (i := 17) rfl)
theorem wV_X11_X11_makeJoin : Cond.selects RX11 yX11_makeJoin yX11_makeJoin ∈ wsL_law := wb_15 _ (List.mem_of_getElem? (i := 18) rfl)
theorem wC_X11_makeJoin : Cond.code yX11_makeJoin cX11_makeJoin 7 none ∈ wsL_law := wb_15 _ (List.mem_of_getElem? (i := 19) rfl)
theorem lk_X11_74 : Cond.methodLink RX11 74 yX11_cellOf ∈ wsL_law := wb_15 _ (List.mem_of_getElem? (i := 20) rfl)
theorem wI_X11_cellOf : Cond.instanceMethod yX11_cellOf ∈ wsL_law := wb_15 _ (List.mem_of_getElem? (i := 21) rfl)
theorem wV_X11_X11_cellOf : Cond.selects RX11 yX11_cellOf yX11_cellOf ∈ wsL_law := wb_15 _ (List.mem_of_getElem? (i := 22) rfl)
theorem wC_X11_cellOf : Cond.code yX11_cellOf cX11_cellOf 4 (some .int) ∈ wsL_law := wb_15 _ (List.mem_of_getElem? (i := 23) rfl)
theorem lk_X11_93 : Cond.methodLink RX11 93 yX11_timesOf ∈ wsL_law := wb_16 _ (List.mem_of_getElem? (i := 0) rfl)
theorem wI_X11_timesOf : Cond.instanceMethod yX11_timesOf ∈ wsL_law := wb_16 _ (List.mem_of_getElem? (i := 1) rfl)
theorem wV_X11_X11_timesOf : Cond.selects RX11 yX11_timesOf yX11_timesOf ∈ wsL_law := wb_16 _ (List.mem_of_getElem? (i := 2) rfl)
theorem wC_X11_timesOf : Cond.code yX11_timesOf cX11_timesOf 3 (some .long) ∈ wsL_law := wb_16 _ (List.mem_of_getElem? (i := 3) rfl)
theorem lk_X11_97 : Cond.methodLink RX11 97 yX11_add ∈ wsL_law := wb_16 _ (List.mem_of_getElem? (i := 4) rfl)
theorem wI_X11_add : Cond.instanceMethod yX11_add ∈ wsL_law := wb_16 _ (List.mem_of_getElem? (i := 5) rfl)
theorem wV_X11_X11_add : Cond.selects RX11 yX11_add yX11_add ∈ wsL_law := wb_16 _ (List.mem_of_getElem? (i := 6) rfl)
theorem wC_X11_add : Cond.code yX11_add cX11_add 8 none ∈ wsL_law := wb_16 _ (List.mem_of_getElem? (i := 7) rfl)
theorem lk_X11_72 : Cond.constantLong RX11 72 (1000000000) ∈ wsL_law := wb_16 _ (List.mem_of_getElem? (i := 8) rfl)
theorem lk_X11_60 : Cond.methodLink RX11 60 yX11_place ∈ wsL_law := wb_16 _ (List.mem_of_getElem? (i := 9) rfl)
theorem wI_X11_place : Cond.instanceMethod yX11_place ∈ wsL_law := wb_16 _ (List.mem_of_getElem? (i := 10) rfl)
theorem wV_X11_X11_place : Cond.selects RX11 yX11_place yX11_place ∈ wsL_law := wb_16 _ (List.mem_of_getElem? (i := 11) rfl)
theorem wC_X11_place : Cond.code yX11_place cX11_place 8 (some .int) ∈ wsL_law := wb_16 _ (List.mem_of_getElem? (i := 12) rfl)
theorem lk_X11_64 : Cond.methodLink RX11 64 yX11_isAt ∈ wsL_law := wb_16 _ (List.mem_of_getElem? (i := 13) rfl)
theorem wI_X11_isAt : Cond.instanceMethod yX11_isAt ∈ wsL_law := wb_16 _ (List.mem_of_getElem? (i := 14) rfl)
theorem wV_X11_X11_isAt : Cond.selects RX11 yX11_isAt yX11_isAt ∈ wsL_law := wb_16 _ (List.mem_of_getElem? (i := 15) rfl)
theorem wC_X11_isAt : Cond.code yX11_isAt cX11_isAt 5 (some .boolean) ∈ wsL_law := wb_16 _ (List.mem_of_getElem? (i := 16) rfl)
theorem lk_X11_82 : Cond.methodLink RX11 82 yX11_makeGroups ∈ wsL_law := wb_16 _ (List.mem_of_getElem? (i := 17) rfl)
theorem wI_X11_makeGroups : Cond.instanceMethod yX11_makeGroups ∈ wsL_law := wb_16 _ (List.mem_of_getElem? (i := 18) rfl)
theorem wV_X11_X11_makeGroups : Cond.selects RX11 yX11_makeGroups yX11_makeGroups ∈ wsL_law := wb_16 _ (List.mem_of_getElem? (i := 19) rfl)
theorem wC_X11_makeGroups : Cond.code yX11_makeGroups cX11_makeGroups 12 none ∈ wsL_law := wb_16 _ (List.mem_of_getElem? (i := 20) rfl)
theorem lk_X11_105 : Cond.methodLink RX11 105 yX11_isSameGroup ∈ wsL_law := wb_16 _ (List.mem_of_getElem? (i := 21) rfl)
theorem wI_X11_isSameGroup : Cond.instanceMethod yX11_isSameGroup ∈ wsL_law := wb_16 _ (List.mem_of_getElem? (i := 22) rfl)
theorem wV_X11_X11_isSameGroup : Cond.selects RX11 yX11_isSameGroup yX11_isSameGroup ∈ wsL_law := wb_16 _ (List.mem_of_getElem? (i := 23) rfl)
theorem wC_X11_isSameGroup : Cond.code yX11_isSameGroup cX11_isSameGroup 5 (some .boolean) ∈ wsL_law := wb_17 _ (List.mem_of_getElem? (i := 0) rfl)
theorem lk_X11_85 : Cond.methodLink RX11 85 yX11_makeRow ∈ wsL_law := wb_17 _ (List.mem_of_getElem? (i := 1) rfl)
theorem wI_X11_makeRow : Cond.instanceMethod yX11_makeRow ∈ wsL_law := wb_17 _ (List.mem_of_getElem? (i := 2) rfl)
theorem wV_X11_X11_makeRow : Cond.selects RX11 yX11_makeRow yX11_makeRow ∈ wsL_law := wb_17 _ (List.mem_of_getElem? (i := 3) rfl)
theorem wC_X11_makeRow : Cond.code yX11_makeRow cX11_makeRow 8 none ∈ wsL_law := wb_17 _ (List.mem_of_getElem? (i := 4) rfl)
theorem lk_X11_89 : Cond.methodLink RX11 89 yX11_take ∈ wsL_law := wb_17 _ (List.mem_of_getElem? (i := 5) rfl)
theorem wI_X11_take : Cond.instanceMethod yX11_take ∈ wsL_law := wb_17 _ (List.mem_of_getElem? (i := 6) rfl)
theorem wV_X11_X11_take : Cond.selects RX11 yX11_take yX11_take ∈ wsL_law := wb_17 _ (List.mem_of_getElem? (i := 7) rfl)
theorem wC_X11_take : Cond.code yX11_take cX11_take 4 none ∈ wsL_law := wb_17 _ (List.mem_of_getElem? (i := 8) rfl)
theorem lk_X11_101 : Cond.methodLink RX11 101 yX11_compares ∈ wsL_law := wb_17 _ (List.mem_of_getElem? (i := 9) rfl)
theorem wS_X11_compares : Cond.static yX11_compares ∈ wsL_law := wb_17 _ (List.mem_of_getElem? (i := 10) rfl)
theorem wC_X11_compares : Cond.code yX11_compares cX11_compares 3 (some .boolean) ∈ wsL_law := wb_17 _ (List.mem_of_getElem? (i := 11) rfl)
theorem lk_X11_129 : Cond.methodLink RX11 129 yX11_become ∈ wsL_law := wb_17 _ (List.mem_of_getElem? (i := 12) rfl)
theorem wI_X11_become : Cond.instanceMethod yX11_become ∈ wsL_law := wb_17 _ (List.mem_of_getElem? (i := 13) rfl)
theorem wV_X11_X11_become : Cond.selects RX11 yX11_become yX11_become ∈ wsL_law := wb_17 _ (List.mem_of_getElem? (i := 14) rfl)
theorem wC_X11_become : Cond.code yX11_become cX11_become 4 none ∈ wsL_law := wb_17 _ (List.mem_of_getElem? (i := 15) rfl)
theorem lk_X11_132 : Cond.methodLink RX11 132 yX11_leave ∈ wsL_law := wb_17 _ (List.mem_of_getElem? (i := 16) rfl)
theorem wI_X11_leave : Cond.instanceMethod yX11_leave ∈ wsL_law := wb_17 _ (List.mem_of_getElem? (i := 17) rfl)
theorem wV_X11_X11_leave : Cond.selects RX11 yX11_leave yX11_leave ∈ wsL_law := wb_17 _ (List.mem_of_getElem? (i := 18) rfl)
theorem wC_X11_leave : Cond.code yX11_leave cX11_leave 4 none ∈ wsL_law := wb_17 _ (List.mem_of_getElem? (i := 19) rfl)
theorem lk_L_97 : Cond.methodLink RL 97 yL_columns ∈ wsL_law := wb_17 _ (List.mem_of_getElem? (i := 20) rfl)
theorem wS_L_columns : Cond.static yL_columns ∈ wsL_law := wb_17 _ (List.mem_of_getElem? (i := 21) rfl)
theorem wH_L_columns : Cond.codeWith yL_columns cL_columns 8 (some .int) [(0, 13, 16, 13), (0, 13, 20, 15), (0, 13, 24, 17), (0, 13, 28, 23)] ∈ wsL_law := wb_17 _ (List.mem_of_getElem? (i := 22) rfl)
theorem lk_L_25 : Cond.methodLink RL 25 yX10_columns ∈ wsL_law := wb_17 _ (List.mem_of_getElem? (i := 23) rfl)
theorem wI_X10_columns : Cond.instanceMethod yX10_columns ∈ wsL_law := wb_18 _ (List.mem_of_getElem? (i := 0) rfl)
theorem wV_X10_X10_columns : Cond.selects RX10 yX10_columns yX10_columns ∈ wsL_law := wb_18 _ (List.mem_of_getElem? (i := 1) rfl)
theorem wC_X10_columns : Cond.code yX10_columns cX10_columns 10 none ∈ wsL_law := wb_18 _ (List.mem_of_getElem? (i := 2) rfl)
theorem lk_X10_77 : Cond.classLink RX10 77 RX1 ∈ wsL_law := wb_18 _ (List.mem_of_getElem? (i := 3) rfl)
theorem wA_X1 : Cond.instantiable RX1 5 ∈ wsL_law := wb_18 _ (List.mem_of_getElem? (i := 4) rfl)
theorem lk_X10_70 : Cond.methodLink RX10 70 yX10_needColumnOrNone ∈ wsL_law := wb_18 _ (List.mem_of_getElem? (i := 5) rfl)
theorem wS_X10_needColumnOrNone : Cond.static yX10_needColumnOrNone ∈ wsL_law := wb_18 _ (List.mem_of_getElem? (i := 6) rfl)
theorem wC_X10_needColumnOrNone : Cond.code yX10_needColumnOrNone cX10_needColumnOrNone 2 none ∈ wsL_law := wb_18 _ (List.mem_of_getElem? (i := 7) rfl)
theorem lk_X10_73 : Cond.methodLink RX10 73 yX10_countChosen ∈ wsL_law := wb_18 _ (List.mem_of_getElem? (i := 8) rfl)
theorem wS_X10_countChosen : Cond.static yX10_countChosen ∈ wsL_law := wb_18 _ (List.mem_of_getElem? (i := 9) rfl)
theorem wC_X10_countChosen : Cond.code yX10_countChosen cX10_countChosen 3 (some .int) ∈ wsL_law := wb_18 _ (List.mem_of_getElem? (i := 10) rfl)
theorem lk_X10_79 : Cond.methodLink RX10 79 yX1_init ∈ wsL_law := wb_18 _ (List.mem_of_getElem? (i := 11) rfl)
theorem wI_X1_init : Cond.instanceMethod yX1_init ∈ wsL_law := wb_18 _ (List.mem_of_getElem? (i := 12) rfl)
theorem wC_X1_init : Cond.code yX1_init cX1_init 3 none ∈ wsL_law := wb_18 _ (List.mem_of_getElem? (i := 13) rfl)
theorem lk_X1_3 : Cond.methodLink RX1 3 yX9_init ∈ wsL_law := wb_18 _ (List.mem_of_getElem? (i := 14) rfl)
theorem lk_L_100 : Cond.methodLink RL 100 yX11_columns ∈ wsL_law := wb_18 _ (List.mem_of_getElem? (i := 15) rfl)
theorem wI_X11_columns : Cond.instanceMethod yX11_columns ∈ wsL_law := wb_18 _ (List.mem_of_getElem? (i := 16) rfl)
theorem wV_X11_X11_columns : Cond.selects RX11 yX11_columns yX11_columns ∈ wsL_law := wb_18 _ (List.mem_of_getElem? (i := 17) rfl)
theorem wC_X11_columns : Cond.code yX11_columns cX11_columns 12 none ∈ wsL_law := wb_18 _ (List.mem_of_getElem? (i := 18) rfl)
theorem lk_L_101 : Cond.methodLink RL 101 yL_join ∈ wsL_law := wb_18 _ (List.mem_of_getElem? (i := 19) rfl)
theorem wS_L_join : Cond.static yL_join ∈ wsL_law := wb_18 _ (List.mem_of_getElem? (i := 20) rfl)
theorem wH_L_join : Cond.codeWith yL_join cL_join 7 (some .int) [(0, 11, 14, 13), (0, 11, 18, 15), (0, 11, 22, 17), (0, 11, 26, 23)] ∈ wsL_law := wb_18 _ (List.mem_of_getElem? (i := 21) rfl)
theorem lk_L_29 : Cond.methodLink RL 29 yX10_join ∈ wsL_law := wb_18 _ (List.mem_of_getElem? (i := 22) rfl)
theorem wI_X10_join : Cond.instanceMethod yX10_join ∈ wsL_law := wb_18 _ (List.mem_of_getElem? (i := 23) rfl)
theorem wV_X10_X10_join : Cond.selects RX10 yX10_join yX10_join ∈ wsL_law := wb_19 _ (List.mem_of_getElem? (i := 0) rfl)
theorem wC_X10_join : Cond.code yX10_join cX10_join 10 none ∈ wsL_law := wb_19 _ (List.mem_of_getElem? (i := 1) rfl)
theorem lk_X10_84 : Cond.classLink RX10 84 RX4 ∈ wsL_law := wb_19 _ (List.mem_of_getElem? (i := 2) rfl)
theorem wA_X4 : Cond.instantiable RX4 6 ∈ wsL_law := wb_19 _ (List.mem_of_getElem? (i := 3) rfl)
theorem lk_X10_86 : Cond.methodLink RX10 86 yX4_init ∈ wsL_law := wb_19 _ (List.mem_of_getElem? (i := 4) rfl)
theorem wI_X4_init : Cond.instanceMethod yX4_init ∈ wsL_law := wb_19 _ (List.mem_of_getElem? (i := 5) rfl)
theorem wC_X4_init : Cond.code yX4_init cX4_init 5 none ∈ wsL_law := wb_19 _ (List.mem_of_getElem? (i := 6) rfl)
theorem lk_X4_3 : Cond.methodLink RX4 3 yX9_init ∈ wsL_law := wb_19 _ (List.mem_of_getElem? (i := 7) rfl)
theorem lk_L_104 : Cond.methodLink RL 104 yX11_join ∈ wsL_law := wb_19 _ (List.mem_of_getElem? (i := 8) rfl)
theorem wI_X11_join : Cond.instanceMethod yX11_join ∈ wsL_law := wb_19 _ (List.mem_of_getElem? (i := 9) rfl)
theorem wV_X11_X11_join : Cond.selects RX11 yX11_join yX11_join ∈ wsL_law := wb_19 _ (List.mem_of_getElem? (i := 10) rfl)
theorem wC_X11_join : Cond.code yX11_join cX11_join 7 none ∈ wsL_law := wb_19 _ (List.mem_of_getElem? (i := 11) rfl)
theorem lk_L_105 : Cond.methodLink RL 105 yL_both ∈ wsL_law := wb_19 _ (List.mem_of_getElem? (i := 12) rfl)
theorem wS_L_both : Cond.static yL_both ∈ wsL_law := wb_19 _ (List.mem_of_getElem? (i := 13) rfl)
theorem wH_L_both : Cond.codeWith yL_both cL_both 6 (some .int) [(0, 9, 12, 13), (0, 9, 16, 15), (0, 9, 20, 17), (0, 9, 24, 23)] ∈ wsL_law := wb_19 _ (List.mem_of_getElem? (i := 14) rfl)
theorem lk_L_33 : Cond.methodLink RL 33 yX10_both ∈ wsL_law := wb_19 _ (List.mem_of_getElem? (i := 15) rfl)
theorem wI_X10_both : Cond.instanceMethod yX10_both ∈ wsL_law := wb_19 _ (List.mem_of_getElem? (i := 16) rfl)
theorem wV_X10_X10_both : Cond.selects RX10 yX10_both yX10_both ∈ wsL_law := wb_19 _ (List.mem_of_getElem? (i := 17) rfl)
theorem wC_X10_both : Cond.code yX10_both cX10_both 9 none ∈ wsL_law := wb_19 _ (List.mem_of_getElem? (i := 18) rfl)
theorem lk_X10_91 : Cond.classLink RX10 91 RX2 ∈ wsL_law := wb_19 _ (List.mem_of_getElem? (i := 19) rfl)
theorem wA_X2 : Cond.instantiable RX2 4 ∈ wsL_law := wb_19 _ (List.mem_of_getElem? (i := 20) rfl)
theorem lk_X10_96 : Cond.classLink RX10 96 RX8 ∈ wsL_law := wb_19 _ (List.mem_of_getElem? (i := 21) rfl)
theorem wA_X8 : Cond.instantiable RX8 4 ∈ wsL_law := wb_19 _ (List.mem_of_getElem? (i := 22) rfl)
theorem lk_X10_93 : Cond.methodLink RX10 93 yX2_init ∈ wsL_law := wb_19 _ (List.mem_of_getElem? (i := 23) rfl)
theorem wI_X2_init : Cond.instanceMethod yX2_init ∈ wsL_law := wb_20 _ (List.mem_of_getElem? (i := 0) rfl)
theorem wC_X2_init : Cond.code yX2_init cX2_init 3 none ∈ wsL_law := wb_20 _ (List.mem_of_getElem? (i := 1) rfl)
theorem lk_X2_1 : Cond.methodLink RX2 1 yX9_init ∈ wsL_law := wb_20 _ (List.mem_of_getElem? (i := 2) rfl)
theorem lk_X10_98 : Cond.methodLink RX10 98 yX8_init ∈ wsL_law := wb_20 _ (List.mem_of_getElem? (i := 3) rfl)
theorem wI_X8_init : Cond.instanceMethod yX8_init ∈ wsL_law := wb_20 _ (List.mem_of_getElem? (i := 4) rfl)
theorem wC_X8_init : Cond.code yX8_init cX8_init 3 none ∈ wsL_law := wb_20 _ (List.mem_of_getElem? (i := 5) rfl)
theorem lk_X8_1 : Cond.methodLink RX8 1 yX9_init ∈ wsL_law := wb_20 _ (List.mem_of_getElem? (i := 6) rfl)
theorem lk_L_108 : Cond.methodLink RL 108 yX11_both ∈ wsL_law := wb_20 _ (List.mem_of_getElem? (i := 7) rfl)
theorem wI_X11_both : Cond.instanceMethod yX11_both ∈ wsL_law := wb_20 _ (List.mem_of_getElem? (i := 8) rfl)
theorem wV_X11_X11_both : Cond.selects RX11 yX11_both yX11_both ∈ wsL_law := wb_20 _ (List.mem_of_getElem? (i := 9) rfl)
theorem wC_X11_both : Cond.code yX11_both cX11_both 6 none ∈ wsL_law := wb_20 _ (List.mem_of_getElem? (i := 10) rfl)
theorem lk_L_109 : Cond.methodLink RL 109 yL_once ∈ wsL_law := wb_20 _ (List.mem_of_getElem? (i := 11) rfl)
theorem wS_L_once : Cond.static yL_once ∈ wsL_law := wb_20 _ (List.mem_of_getElem? (i := 12) rfl)
theorem wH_L_once : Cond.codeWith yL_once cL_once 4 (some .int) [(0, 6, 9, 13), (0, 6, 12, 15), (0, 6, 15, 23)] ∈ wsL_law := wb_20 _ (List.mem_of_getElem? (i := 13) rfl)
theorem lk_L_37 : Cond.methodLink RL 37 yX10_once ∈ wsL_law := wb_20 _ (List.mem_of_getElem? (i := 14) rfl)
theorem wI_X10_once : Cond.instanceMethod yX10_once ∈ wsL_law := wb_20 _ (List.mem_of_getElem? (i := 15) rfl)
theorem wV_X10_X10_once : Cond.selects RX10 yX10_once yX10_once ∈ wsL_law := wb_20 _ (List.mem_of_getElem? (i := 16) rfl)
theorem wC_X10_once : Cond.code yX10_once cX10_once 5 none ∈ wsL_law := wb_20 _ (List.mem_of_getElem? (i := 17) rfl)
theorem lk_X10_99 : Cond.classLink RX10 99 RX5 ∈ wsL_law := wb_20 _ (List.mem_of_getElem? (i := 18) rfl)
theorem wA_X5 : Cond.instantiable RX5 4 ∈ wsL_law := wb_20 _ (List.mem_of_getElem? (i := 19) rfl)
theorem lk_X10_101 : Cond.methodLink RX10 101 yX5_init ∈ wsL_law := wb_20 _ (List.mem_of_getElem? (i := 20) rfl)
theorem wI_X5_init : Cond.instanceMethod yX5_init ∈ wsL_law := wb_20 _ (List.mem_of_getElem? (i := 21) rfl)
theorem wC_X5_init : Cond.code yX5_init cX5_init 2 none ∈ wsL_law := wb_20 _ (List.mem_of_getElem? (i := 22) rfl)
theorem lk_X5_1 : Cond.methodLink RX5 1 yX9_init ∈ wsL_law := wb_20 _ (List.mem_of_getElem? (i := 23) rfl)
theorem lk_L_111 : Cond.methodLink RL 111 yX11_once ∈ wsL_law := wb_21 _ (List.mem_of_getElem? (i := 0) rfl)
theorem wI_X11_once : Cond.instanceMethod yX11_once ∈ wsL_law := wb_21 _ (List.mem_of_getElem? (i := 1) rfl)
theorem wV_X11_X11_once : Cond.selects RX11 yX11_once yX11_once ∈ wsL_law := wb_21 _ (List.mem_of_getElem? (i := 2) rfl)
theorem wC_X11_once : Cond.code yX11_once cX11_once 4 none ∈ wsL_law := wb_21 _ (List.mem_of_getElem? (i := 3) rfl)
theorem lk_L_112 : Cond.methodLink RL 112 yL_group ∈ wsL_law := wb_21 _ (List.mem_of_getElem? (i := 4) rfl)
theorem wS_L_group : Cond.static yL_group ∈ wsL_law := wb_21 _ (List.mem_of_getElem? (i := 5) rfl)
theorem wH_L_group : Cond.codeWith yL_group cL_group 7 (some .int) [(0, 11, 14, 13), (0, 11, 18, 15), (0, 11, 22, 17), (0, 11, 26, 23)] ∈ wsL_law := wb_21 _ (List.mem_of_getElem? (i := 6) rfl)
theorem lk_L_40 : Cond.methodLink RL 40 yX10_group ∈ wsL_law := wb_21 _ (List.mem_of_getElem? (i := 7) rfl)
theorem wI_X10_group : Cond.instanceMethod yX10_group ∈ wsL_law := wb_21 _ (List.mem_of_getElem? (i := 8) rfl)
theorem wV_X10_X10_group : Cond.selects RX10 yX10_group yX10_group ∈ wsL_law := wb_21 _ (List.mem_of_getElem? (i := 9) rfl)
theorem wC_X10_group : Cond.code yX10_group cX10_group 8 none ∈ wsL_law := wb_21 _ (List.mem_of_getElem? (i := 10) rfl)
theorem lk_X10_105 : Cond.classLink RX10 105 RX3 ∈ wsL_law := wb_21 _ (List.mem_of_getElem? (i := 11) rfl)
theorem wA_X3 : Cond.instantiable RX3 7 ∈ wsL_law := wb_21 _ (List.mem_of_getElem? (i := 12) rfl)
theorem lk_X10_107 : Cond.methodLink RX10 107 yX3_init ∈ wsL_law := wb_21 _ (List.mem_of_getElem? (i := 13) rfl)
theorem wI_X3_init : Cond.instanceMethod yX3_init ∈ wsL_law := wb_21 _ (List.mem_of_getElem? (i := 14) rfl)
theorem wC_X3_init : Cond.code yX3_init cX3_init 5 none ∈ wsL_law := wb_21 _ (List.mem_of_getElem? (i := 15) rfl)
theorem lk_X3_3 : Cond.methodLink RX3 3 yX9_init ∈ wsL_law := wb_21 _ (List.mem_of_getElem? (i := 16) rfl)
theorem lk_L_114 : Cond.methodLink RL 114 yX11_group ∈ wsL_law := wb_21 _ (List.mem_of_getElem? (i := 17) rfl)
theorem wI_X11_group : Cond.instanceMethod yX11_group ∈ wsL_law := wb_21 _ (List.mem_of_getElem? (i := 18) rfl)
theorem wV_X11_X11_group : Cond.selects RX11 yX11_group yX11_group ∈ wsL_law := wb_21 _ (List.mem_of_getElem? (i := 19) rfl)
theorem wC_X11_group : Cond.code yX11_group cX11_group 7 none ∈ wsL_law := wb_21 _ (List.mem_of_getElem? (i := 20) rfl)
theorem lk_L_115 : Cond.methodLink RL 115 yL_drop ∈ wsL_law := wb_21 _ (List.mem_of_getElem? (i := 21) rfl)
theorem wS_L_drop : Cond.static yL_drop ∈ wsL_law := wb_21 _ (List.mem_of_getElem? (i := 22) rfl)
theorem wH_L_drop : Cond.codeWith yL_drop cL_drop 3 (some .int) [(0, 5, 8, 13), (0, 5, 11, 15)] ∈ wsL_law := wb_21 _ (List.mem_of_getElem? (i := 23) rfl)
theorem lk_L_43 : Cond.methodLink RL 43 yX10_drop ∈ wsL_law := wb_22 _ (List.mem_of_getElem? (i := 0) rfl)
theorem wI_X10_drop : Cond.instanceMethod yX10_drop ∈ wsL_law := wb_22 _ (List.mem_of_getElem? (i := 1) rfl)
theorem wV_X10_X10_drop : Cond.selects RX10 yX10_drop yX10_drop ∈ wsL_law := wb_22 _ (List.mem_of_getElem? (i := 2) rfl)
theorem wC_X10_drop : Cond.code yX10_drop cX10_drop 7 none ∈ wsL_law := wb_22 _ (List.mem_of_getElem? (i := 3) rfl)
theorem lk_X10_110 : Cond.methodLink RX10 110 yX6_isOf ∈ wsL_law := wb_22 _ (List.mem_of_getElem? (i := 4) rfl)
theorem wI_X6_isOf : Cond.instanceMethod yX6_isOf ∈ wsL_law := wb_22 _ (List.mem_of_getElem? (i := 5) rfl)
theorem wV_X6_X6_isOf : Cond.selects RX6 yX6_isOf yX6_isOf ∈ wsL_law := wb_22 _ (List.mem_of_getElem? (i := 6) rfl)
theorem wC_X6_isOf : Cond.code yX6_isOf cX6_isOf 2 (some .boolean) ∈ wsL_law := wb_22 _ (List.mem_of_getElem? (i := 7) rfl)
theorem lk_X6_33 : Cond.fieldLink RX6 33 "BagViews$View" "left" "LBagViews$Relation;" ∈ wsL_law := wb_22 _ (List.mem_of_getElem? (i := 8) rfl)
theorem lk_X6_39 : Cond.fieldLink RX6 39 "BagViews$View" "right" "LBagViews$Relation;" ∈ wsL_law := wb_22 _ (List.mem_of_getElem? (i := 9) rfl)
theorem lk_X10_119 : Cond.methodLink RX10 119 yX6_end ∈ wsL_law := wb_22 _ (List.mem_of_getElem? (i := 10) rfl)
theorem wI_X6_end : Cond.instanceMethod yX6_end ∈ wsL_law := wb_22 _ (List.mem_of_getElem? (i := 11) rfl)
theorem wV_X6_X6_end : Cond.selects RX6 yX6_end yX6_end ∈ wsL_law := wb_22 _ (List.mem_of_getElem? (i := 12) rfl)
theorem wC_X6_end : Cond.code yX6_end cX6_end 1 none ∈ wsL_law := wb_22 _ (List.mem_of_getElem? (i := 13) rfl)
theorem lk_L_118 : Cond.methodLink RL 118 yX11_drop ∈ wsL_law := wb_22 _ (List.mem_of_getElem? (i := 14) rfl)
theorem wI_X11_drop : Cond.instanceMethod yX11_drop ∈ wsL_law := wb_22 _ (List.mem_of_getElem? (i := 15) rfl)
theorem wV_X11_X11_drop : Cond.selects RX11 yX11_drop yX11_drop ∈ wsL_law := wb_22 _ (List.mem_of_getElem? (i := 16) rfl)
theorem wC_X11_drop : Cond.code yX11_drop cX11_drop 4 none ∈ wsL_law := wb_22 _ (List.mem_of_getElem? (i := 17) rfl)
theorem lk_L_119 : Cond.methodLink RL 119 yL_put ∈ wsL_law := wb_22 _ (List.mem_of_getElem? (i := 18) rfl)
theorem wS_L_put : Cond.static yL_put ∈ wsL_law := wb_22 _ (List.mem_of_getElem? (i := 19) rfl)
theorem wH_L_put : Cond.codeWith yL_put cL_put 9 (some .int) [(0, 18, 21, 13), (0, 18, 25, 15), (0, 18, 29, 17), (0, 18, 33, 23)] ∈ wsL_law := wb_22 _ (List.mem_of_getElem? (i := 20) rfl)
theorem lk_L_47 : Cond.methodLink RL 47 yX10_put ∈ wsL_law := wb_22 _ (List.mem_of_getElem? (i := 21) rfl)
theorem wI_X10_put : Cond.instanceMethod yX10_put ∈ wsL_law := wb_22 _ (List.mem_of_getElem? (i := 22) rfl)
theorem wV_X10_X10_put : Cond.selects RX10 yX10_put yX10_put ∈ wsL_law := wb_22 _ (List.mem_of_getElem? (i := 23) rfl)
theorem wC_X10_put : Cond.code yX10_put cX10_put 9 (some .int) ∈ wsL_law := wb_23 _ (List.mem_of_getElem? (i := 0) rfl)
theorem lk_X10_125 : Cond.constant RX10 125 (-1000000) ∈ wsL_law := wb_23 _ (List.mem_of_getElem? (i := 1) rfl)
theorem lk_X10_126 : Cond.constant RX10 126 (1000000) ∈ wsL_law := wb_23 _ (List.mem_of_getElem? (i := 2) rfl)
theorem lk_X10_122 : Cond.methodLink RX10 122 yX10_tableAt ∈ wsL_law := wb_23 _ (List.mem_of_getElem? (i := 3) rfl)
theorem wI_X10_tableAt : Cond.instanceMethod yX10_tableAt ∈ wsL_law := wb_23 _ (List.mem_of_getElem? (i := 4) rfl)
theorem wV_X10_X10_tableAt : Cond.selects RX10 yX10_tableAt yX10_tableAt ∈ wsL_law := wb_23 _ (List.mem_of_getElem? (i := 5) rfl)
theorem wC_X10_tableAt : Cond.code yX10_tableAt cX10_tableAt 3 (some (.object "BagViews$Relation")) ∈ wsL_law := wb_23 _ (List.mem_of_getElem? (i := 6) rfl)
theorem lk_X10_129 : Cond.methodLink RX10 129 yX10_tell ∈ wsL_law := wb_23 _ (List.mem_of_getElem? (i := 7) rfl)
theorem wI_X10_tell : Cond.instanceMethod yX10_tell ∈ wsL_law := wb_23 _ (List.mem_of_getElem? (i := 8) rfl)
theorem wV_X10_X10_tell : Cond.selects RX10 yX10_tell yX10_tell ∈ wsL_law := wb_23 _ (List.mem_of_getElem? (i := 9) rfl)
theorem wC_X10_tell : Cond.code yX10_tell cX10_tell 6 none ∈ wsL_law := wb_23 _ (List.mem_of_getElem? (i := 10) rfl)
theorem lk_X10_133 : Cond.methodLink RX10 133 yX0_timesOf ∈ wsL_law := wb_23 _ (List.mem_of_getElem? (i := 11) rfl)
theorem lk_X10_141 : Cond.methodLink RX10 141 yX0_copyFrom ∈ wsL_law := wb_23 _ (List.mem_of_getElem? (i := 12) rfl)
theorem lk_X10_145 : Cond.methodLink RX10 145 yX0_add ∈ wsL_law := wb_23 _ (List.mem_of_getElem? (i := 13) rfl)
theorem lk_X10_149 : Cond.methodLink RX10 149 yX10_viewsFit ∈ wsL_law := wb_23 _ (List.mem_of_getElem? (i := 14) rfl)
theorem wI_X10_viewsFit : Cond.instanceMethod yX10_viewsFit ∈ wsL_law := wb_23 _ (List.mem_of_getElem? (i := 15) rfl)
theorem wV_X10_X10_viewsFit : Cond.selects RX10 yX10_viewsFit yX10_viewsFit ∈ wsL_law := wb_23 _ (List.mem_of_getElem? (i := 16) rfl)
theorem wC_X10_viewsFit : Cond.code yX10_viewsFit cX10_viewsFit 7 (some .boolean) ∈ wsL_law := wb_23 _ (List.mem_of_getElem? (i := 17) rfl)
theorem lk_X10_219 : Cond.methodLink RX10 219 yX0_countDifferent ∈ wsL_law := wb_23 _ (List.mem_of_getElem? (i := 18) rfl)
theorem wI_X0_countDifferent : Cond.instanceMethod yX0_countDifferent ∈ wsL_law := wb_23 _ (List.mem_of_getElem? (i := 19) rfl)
theorem wV_X0_X0_countDifferent : Cond.selects RX0 yX0_countDifferent yX0_countDifferent ∈ wsL_law := wb_23 _ (List.mem_of_getElem? (i := 20) rfl)
theorem wC_X0_countDifferent : Cond.code yX0_countDifferent cX0_countDifferent 6 (some .int) ∈ wsL_law := wb_23 _ (List.mem_of_getElem? (i := 21) rfl)
theorem lk_X10_226 : Cond.methodLink RX10 226 yX6_depth ∈ wsL_law := wb_23 _ (List.mem_of_getElem? (i := 22) rfl)
theorem lk_X10_230 : Cond.methodLink RX10 230 yX6_remake ∈ wsL_law := wb_23 _ (List.mem_of_getElem? (i := 23) rfl)
theorem wI_X6_remake : Cond.instanceMethod yX6_remake ∈ wsL_law := wb_24 _ (List.mem_of_getElem? (i := 0) rfl)
theorem wV_X6_X6_remake : Cond.selects RX6 yX6_remake yX6_remake ∈ wsL_law := wb_24 _ (List.mem_of_getElem? (i := 1) rfl)
theorem wC_X6_remake : Cond.code yX6_remake cX6_remake 1 (some .boolean) ∈ wsL_law := wb_24 _ (List.mem_of_getElem? (i := 2) rfl)
theorem lk_X6_45 : Cond.methodLink RX6 45 ⟨"BagViews$View", "isTouched", "()Z"⟩ ∈ wsL_law := wb_24 _ (List.mem_of_getElem? (i := 3) rfl)
theorem wz_27 : Cond.sameMethod "BagViews$View" "BagViews$View" "isTouched" "()Z" ∈ wsL_law := wb_24 _ (List.mem_of_getElem? (i := 4) rfl)
theorem wV_X1_X9_isTouched : Cond.selects RX1 ⟨"BagViews$View", "isTouched", "()Z"⟩ yX9_isTouched ∈ wsL_law := wb_24 _ (List.mem_of_getElem? (i := 5) rfl)
theorem wI_X9_isTouched : Cond.instanceMethod yX9_isTouched ∈ wsL_law := wb_24 _ (List.mem_of_getElem? (i := 6) rfl)
theorem wC_X9_isTouched : Cond.code yX9_isTouched cX9_isTouched 1 (some .boolean) ∈ wsL_law := wb_24 _ (List.mem_of_getElem? (i := 7) rfl)
theorem wV_X2_X9_isTouched : Cond.selects RX2 ⟨"BagViews$View", "isTouched", "()Z"⟩ yX9_isTouched ∈ wsL_law := wb_24 _ (List.mem_of_getElem? (i := 8) rfl)
theorem wV_X3_X9_isTouched : Cond.selects RX3 ⟨"BagViews$View", "isTouched", "()Z"⟩ yX9_isTouched ∈ wsL_law := wb_24 _ (List.mem_of_getElem? (i := 9) rfl)
theorem wV_X4_X9_isTouched : Cond.selects RX4 ⟨"BagViews$View", "isTouched", "()Z"⟩ yX9_isTouched ∈ wsL_law := wb_24 _ (List.mem_of_getElem? (i := 10) rfl)
theorem wV_X5_X9_isTouched : Cond.selects RX5 ⟨"BagViews$View", "isTouched", "()Z"⟩ yX9_isTouched ∈ wsL_law := wb_24 _ (List.mem_of_getElem? (i := 11) rfl)
theorem wV_X7_X9_isTouched : Cond.selects RX7 ⟨"BagViews$View", "isTouched", "()Z"⟩ yX9_isTouched ∈ wsL_law := wb_24 _ (List.mem_of_getElem? (i := 12) rfl)
theorem wV_X8_X9_isTouched : Cond.selects RX8 ⟨"BagViews$View", "isTouched", "()Z"⟩ yX9_isTouched ∈ wsL_law := wb_24 _ (List.mem_of_getElem? (i := 13) rfl)
theorem lk_X6_49 : Cond.methodLink RX6 49 yX0_clear ∈ wsL_law := wb_24 _ (List.mem_of_getElem? (i := 14) rfl)
theorem lk_X6_52 : Cond.methodLink RX6 52 ⟨"BagViews$View", "makeInto", "(LBagViews$Bag;)Z"⟩ ∈ wsL_law := wb_24 _ (List.mem_of_getElem? (i := 15) rfl)
theorem lk_X6_56 : Cond.methodLink RX6 56 yX0_countDifferent ∈ wsL_law := wb_24 _ (List.mem_of_getElem? (i := 16) rfl)
theorem lk_X10_152 : Cond.methodLink RX10 152 yX10_takeOver ∈ wsL_law := wb_24 _ (List.mem_of_getElem? (i := 17) rfl)
theorem wI_X10_takeOver : Cond.instanceMethod yX10_takeOver ∈ wsL_law := wb_24 _ (List.mem_of_getElem? (i := 18) rfl)
theorem wV_X10_X10_takeOver : Cond.selects RX10 yX10_takeOver yX10_takeOver ∈ wsL_law := wb_24 _ (List.mem_of_getElem? (i := 19) rfl)
theorem wC_X10_takeOver : Cond.code yX10_takeOver cX10_takeOver 6 none ∈ wsL_law := wb_24 _ (List.mem_of_getElem? (i := 20) rfl)
theorem lk_X10_233 : Cond.methodLink RX10 233 yX6_settle ∈ wsL_law := wb_24 _ (List.mem_of_getElem? (i := 21) rfl)
theorem wI_X6_settle : Cond.instanceMethod yX6_settle ∈ wsL_law := wb_24 _ (List.mem_of_getElem? (i := 22) rfl)
theorem wV_X6_X6_settle : Cond.selects RX6 yX6_settle yX6_settle ∈ wsL_law := wb_24 _ (List.mem_of_getElem? (i := 23) rfl)
theorem wC_X6_settle : Cond.code yX6_settle cX6_settle 3 none ∈ wsL_law := wb_25 _ (List.mem_of_getElem? (i := 0) rfl)
theorem lk_L_122 : Cond.methodLink RL 122 yX11_put ∈ wsL_law := wb_25 _ (List.mem_of_getElem? (i := 1) rfl)
theorem wI_X11_put : Cond.instanceMethod yX11_put ∈ wsL_law := wb_25 _ (List.mem_of_getElem? (i := 2) rfl)
theorem wV_X11_X11_put : Cond.selects RX11 yX11_put yX11_put ∈ wsL_law := wb_25 _ (List.mem_of_getElem? (i := 3) rfl)
theorem wC_X11_put : Cond.code yX11_put cX11_put 8 (some .int) ∈ wsL_law := wb_25 _ (List.mem_of_getElem? (i := 4) rfl)
theorem lk_X11_151 : Cond.constant RX11 151 (-1000000) ∈ wsL_law := wb_25 _ (List.mem_of_getElem? (i := 5) rfl)
theorem lk_X11_152 : Cond.constant RX11 152 (1000000) ∈ wsL_law := wb_25 _ (List.mem_of_getElem? (i := 6) rfl)
theorem lk_X11_147 : Cond.methodLink RX11 147 yX11_setRow ∈ wsL_law := wb_25 _ (List.mem_of_getElem? (i := 7) rfl)
theorem wI_X11_setRow : Cond.instanceMethod yX11_setRow ∈ wsL_law := wb_25 _ (List.mem_of_getElem? (i := 8) rfl)
theorem wV_X11_X11_setRow : Cond.selects RX11 yX11_setRow yX11_setRow ∈ wsL_law := wb_25 _ (List.mem_of_getElem? (i := 9) rfl)
theorem wC_X11_setRow : Cond.code yX11_setRow cX11_setRow 5 none ∈ wsL_law := wb_25 _ (List.mem_of_getElem? (i := 10) rfl)
theorem lk_X11_153 : Cond.methodLink RX11 153 yX11_timesHere ∈ wsL_law := wb_25 _ (List.mem_of_getElem? (i := 11) rfl)
theorem wI_X11_timesHere : Cond.instanceMethod yX11_timesHere ∈ wsL_law := wb_25 _ (List.mem_of_getElem? (i := 12) rfl)
theorem wV_X11_X11_timesHere : Cond.selects RX11 yX11_timesHere yX11_timesHere ∈ wsL_law := wb_25 _ (List.mem_of_getElem? (i := 13) rfl)
theorem wC_X11_timesHere : Cond.code yX11_timesHere cX11_timesHere 5 (some .int) ∈ wsL_law := wb_25 _ (List.mem_of_getElem? (i := 14) rfl)
theorem lk_X11_156 : Cond.methodLink RX11 156 yX11_change ∈ wsL_law := wb_25 _ (List.mem_of_getElem? (i := 15) rfl)
theorem wI_X11_change : Cond.instanceMethod yX11_change ∈ wsL_law := wb_25 _ (List.mem_of_getElem? (i := 16) rfl)
theorem wV_X11_X11_change : Cond.selects RX11 yX11_change yX11_change ∈ wsL_law := wb_25 _ (List.mem_of_getElem? (i := 17) rfl)
theorem wC_X11_change : Cond.code yX11_change cX11_change 4 none ∈ wsL_law := wb_25 _ (List.mem_of_getElem? (i := 18) rfl)
theorem lk_X11_141 : Cond.methodLink RX11 141 yX11_cut ∈ wsL_law := wb_25 _ (List.mem_of_getElem? (i := 19) rfl)
theorem wI_X11_cut : Cond.instanceMethod yX11_cut ∈ wsL_law := wb_25 _ (List.mem_of_getElem? (i := 20) rfl)
theorem wV_X11_X11_cut : Cond.selects RX11 yX11_cut yX11_cut ∈ wsL_law := wb_25 _ (List.mem_of_getElem? (i := 21) rfl)
theorem wC_X11_cut : Cond.code yX11_cut cX11_cut 5 none ∈ wsL_law := wb_25 _ (List.mem_of_getElem? (i := 22) rfl)
theorem lk_X11_159 : Cond.methodLink RX11 159 yX11_settle ∈ wsL_law := wb_25 _ (List.mem_of_getElem? (i := 23) rfl)
theorem wI_X11_settle : Cond.instanceMethod yX11_settle ∈ wsL_law := wb_26 _ (List.mem_of_getElem? (i := 0) rfl)
theorem wV_X11_X11_settle : Cond.selects RX11 yX11_settle yX11_settle ∈ wsL_law := wb_26 _ (List.mem_of_getElem? (i := 1) rfl)
theorem wC_X11_settle : Cond.code yX11_settle cX11_settle 2 (some .boolean) ∈ wsL_law := wb_26 _ (List.mem_of_getElem? (i := 2) rfl)
theorem lk_X11_144 : Cond.methodLink RX11 144 yX11_difference ∈ wsL_law := wb_26 _ (List.mem_of_getElem? (i := 3) rfl)
theorem wI_X11_difference : Cond.instanceMethod yX11_difference ∈ wsL_law := wb_26 _ (List.mem_of_getElem? (i := 4) rfl)
theorem wV_X11_X11_difference : Cond.selects RX11 yX11_difference yX11_difference ∈ wsL_law := wb_26 _ (List.mem_of_getElem? (i := 5) rfl)
theorem wC_X11_difference : Cond.code yX11_difference cX11_difference 10 (some .int) ∈ wsL_law := wb_26 _ (List.mem_of_getElem? (i := 6) rfl)
theorem lk_L_123 : Cond.methodLink RL 123 yL_fill ∈ wsL_law := wb_26 _ (List.mem_of_getElem? (i := 7) rfl)
theorem wS_L_fill : Cond.static yL_fill ∈ wsL_law := wb_26 _ (List.mem_of_getElem? (i := 8) rfl)
theorem wH_L_fill : Cond.codeWith yL_fill cL_fill 9 (some .int) [(0, 18, 21, 13), (0, 18, 25, 15), (0, 18, 29, 17), (0, 18, 33, 23)] ∈ wsL_law := wb_26 _ (List.mem_of_getElem? (i := 9) rfl)
theorem lk_L_51 : Cond.methodLink RL 51 yX10_fill ∈ wsL_law := wb_26 _ (List.mem_of_getElem? (i := 10) rfl)
theorem wI_X10_fill : Cond.instanceMethod yX10_fill ∈ wsL_law := wb_26 _ (List.mem_of_getElem? (i := 11) rfl)
theorem wV_X10_X10_fill : Cond.selects RX10 yX10_fill yX10_fill ∈ wsL_law := wb_26 _ (List.mem_of_getElem? (i := 12) rfl)
theorem wC_X10_fill : Cond.code yX10_fill cX10_fill 10 (some .int) ∈ wsL_law := wb_26 _ (List.mem_of_getElem? (i := 13) rfl)
theorem lk_L_125 : Cond.methodLink RL 125 yX11_fill ∈ wsL_law := wb_26 _ (List.mem_of_getElem? (i := 14) rfl)
theorem wI_X11_fill : Cond.instanceMethod yX11_fill ∈ wsL_law := wb_26 _ (List.mem_of_getElem? (i := 15) rfl)
theorem wV_X11_X11_fill : Cond.selects RX11 yX11_fill yX11_fill ∈ wsL_law := wb_26 _ (List.mem_of_getElem? (i := 16) rfl)
theorem wC_X11_fill : Cond.code yX11_fill cX11_fill 8 (some .int) ∈ wsL_law := wb_26 _ (List.mem_of_getElem? (i := 17) rfl)
theorem lk_L_126 : Cond.methodLink RL 126 yL_width ∈ wsL_law := wb_26 _ (List.mem_of_getElem? (i := 18) rfl)
theorem wS_L_width : Cond.static yL_width ∈ wsL_law := wb_26 _ (List.mem_of_getElem? (i := 19) rfl)
theorem wH_L_width : Cond.codeWith yL_width cL_width 4 (some .int) [(0, 9, 12, 13)] ∈ wsL_law := wb_26 _ (List.mem_of_getElem? (i := 20) rfl)
theorem lk_L_54 : Cond.methodLink RL 54 yX10_width ∈ wsL_law := wb_26 _ (List.mem_of_getElem? (i := 21) rfl)
theorem wI_X10_width : Cond.instanceMethod yX10_width ∈ wsL_law := wb_26 _ (List.mem_of_getElem? (i := 22) rfl)
theorem wV_X10_X10_width : Cond.selects RX10 yX10_width yX10_width ∈ wsL_law := wb_26 _ (List.mem_of_getElem? (i := 23) rfl)
theorem wC_X10_width : Cond.code yX10_width cX10_width 2 (some .int) ∈ wsL_law := wb_27 _ (List.mem_of_getElem? (i := 0) rfl)
theorem lk_L_129 : Cond.methodLink RL 129 yX11_width ∈ wsL_law := wb_27 _ (List.mem_of_getElem? (i := 1) rfl)
theorem wI_X11_width : Cond.instanceMethod yX11_width ∈ wsL_law := wb_27 _ (List.mem_of_getElem? (i := 2) rfl)
theorem wV_X11_X11_width : Cond.selects RX11 yX11_width yX11_width ∈ wsL_law := wb_27 _ (List.mem_of_getElem? (i := 3) rfl)
theorem wC_X11_width : Cond.code yX11_width cX11_width 2 (some .int) ∈ wsL_law := wb_27 _ (List.mem_of_getElem? (i := 4) rfl)
theorem lk_L_130 : Cond.methodLink RL 130 yL_rows ∈ wsL_law := wb_27 _ (List.mem_of_getElem? (i := 5) rfl)
theorem wS_L_rows : Cond.static yL_rows ∈ wsL_law := wb_27 _ (List.mem_of_getElem? (i := 6) rfl)
theorem wH_L_rows : Cond.codeWith yL_rows cL_rows 4 (some .int) [(0, 9, 12, 13)] ∈ wsL_law := wb_27 _ (List.mem_of_getElem? (i := 7) rfl)
theorem lk_L_58 : Cond.methodLink RL 58 yX10_rows ∈ wsL_law := wb_27 _ (List.mem_of_getElem? (i := 8) rfl)
theorem wI_X10_rows : Cond.instanceMethod yX10_rows ∈ wsL_law := wb_27 _ (List.mem_of_getElem? (i := 9) rfl)
theorem wV_X10_X10_rows : Cond.selects RX10 yX10_rows yX10_rows ∈ wsL_law := wb_27 _ (List.mem_of_getElem? (i := 10) rfl)
theorem wC_X10_rows : Cond.code yX10_rows cX10_rows 2 (some .int) ∈ wsL_law := wb_27 _ (List.mem_of_getElem? (i := 11) rfl)
theorem lk_L_132 : Cond.methodLink RL 132 yX11_rows ∈ wsL_law := wb_27 _ (List.mem_of_getElem? (i := 12) rfl)
theorem wI_X11_rows : Cond.instanceMethod yX11_rows ∈ wsL_law := wb_27 _ (List.mem_of_getElem? (i := 13) rfl)
theorem wV_X11_X11_rows : Cond.selects RX11 yX11_rows yX11_rows ∈ wsL_law := wb_27 _ (List.mem_of_getElem? (i := 14) rfl)
theorem wC_X11_rows : Cond.code yX11_rows cX11_rows 2 (some .int) ∈ wsL_law := wb_27 _ (List.mem_of_getElem? (i := 15) rfl)
theorem lk_L_133 : Cond.methodLink RL 133 yL_size ∈ wsL_law := wb_27 _ (List.mem_of_getElem? (i := 16) rfl)
theorem wS_L_size : Cond.static yL_size ∈ wsL_law := wb_27 _ (List.mem_of_getElem? (i := 17) rfl)
theorem wH_L_size : Cond.codeWith yL_size cL_size 4 (some .int) [(0, 8, 11, 13)] ∈ wsL_law := wb_27 _ (List.mem_of_getElem? (i := 18) rfl)
theorem lk_L_61 : Cond.methodLink RL 61 yX10_size ∈ wsL_law := wb_27 _ (List.mem_of_getElem? (i := 19) rfl)
theorem wI_X10_size : Cond.instanceMethod yX10_size ∈ wsL_law := wb_27 _ (List.mem_of_getElem? (i := 20) rfl)
theorem wV_X10_X10_size : Cond.selects RX10 yX10_size yX10_size ∈ wsL_law := wb_27 _ (List.mem_of_getElem? (i := 21) rfl)
theorem wC_X10_size : Cond.code yX10_size cX10_size 2 (some .long) ∈ wsL_law := wb_27 _ (List.mem_of_getElem? (i := 22) rfl)
theorem lk_X10_161 : Cond.methodLink RX10 161 yX0_allTimes ∈ wsL_law := wb_27 _ (List.mem_of_getElem? (i := 23) rfl)
theorem wI_X0_allTimes : Cond.instanceMethod yX0_allTimes ∈ wsL_law := wb_28 _ (List.mem_of_getElem? (i := 0) rfl)
theorem wV_X0_X0_allTimes : Cond.selects RX0 yX0_allTimes yX0_allTimes ∈ wsL_law := wb_28 _ (List.mem_of_getElem? (i := 1) rfl)
theorem wC_X0_allTimes : Cond.code yX0_allTimes cX0_allTimes 4 (some .long) ∈ wsL_law := wb_28 _ (List.mem_of_getElem? (i := 2) rfl)
theorem lk_L_135 : Cond.methodLink RL 135 yX11_size ∈ wsL_law := wb_28 _ (List.mem_of_getElem? (i := 3) rfl)
theorem wI_X11_size : Cond.instanceMethod yX11_size ∈ wsL_law := wb_28 _ (List.mem_of_getElem? (i := 4) rfl)
theorem wV_X11_X11_size : Cond.selects RX11 yX11_size yX11_size ∈ wsL_law := wb_28 _ (List.mem_of_getElem? (i := 5) rfl)
theorem wC_X11_size : Cond.code yX11_size cX11_size 5 (some .long) ∈ wsL_law := wb_28 _ (List.mem_of_getElem? (i := 6) rfl)
theorem lk_L_136 : Cond.methodLink RL 136 yL_times ∈ wsL_law := wb_28 _ (List.mem_of_getElem? (i := 7) rfl)
theorem wS_L_times : Cond.static yL_times ∈ wsL_law := wb_28 _ (List.mem_of_getElem? (i := 8) rfl)
theorem wH_L_times : Cond.codeWith yL_times cL_times 8 (some .int) [(0, 16, 19, 13)] ∈ wsL_law := wb_28 _ (List.mem_of_getElem? (i := 9) rfl)
theorem lk_L_65 : Cond.methodLink RL 65 yX10_times ∈ wsL_law := wb_28 _ (List.mem_of_getElem? (i := 10) rfl)
theorem wI_X10_times : Cond.instanceMethod yX10_times ∈ wsL_law := wb_28 _ (List.mem_of_getElem? (i := 11) rfl)
theorem wV_X10_X10_times : Cond.selects RX10 yX10_times yX10_times ∈ wsL_law := wb_28 _ (List.mem_of_getElem? (i := 12) rfl)
theorem wC_X10_times : Cond.code yX10_times cX10_times 7 (some .int) ∈ wsL_law := wb_28 _ (List.mem_of_getElem? (i := 13) rfl)
theorem lk_L_139 : Cond.methodLink RL 139 yX11_times ∈ wsL_law := wb_28 _ (List.mem_of_getElem? (i := 14) rfl)
theorem wI_X11_times : Cond.instanceMethod yX11_times ∈ wsL_law := wb_28 _ (List.mem_of_getElem? (i := 15) rfl)
theorem wV_X11_X11_times : Cond.selects RX11 yX11_times yX11_times ∈ wsL_law := wb_28 _ (List.mem_of_getElem? (i := 16) rfl)
theorem wC_X11_times : Cond.code yX11_times cX11_times 6 (some .int) ∈ wsL_law := wb_28 _ (List.mem_of_getElem? (i := 17) rfl)
theorem lk_L_140 : Cond.methodLink RL 140 yL_cell ∈ wsL_law := wb_28 _ (List.mem_of_getElem? (i := 18) rfl)
theorem wS_L_cell : Cond.static yL_cell ∈ wsL_law := wb_28 _ (List.mem_of_getElem? (i := 19) rfl)
theorem wH_L_cell : Cond.codeWith yL_cell cL_cell 6 (some .int) [(0, 12, 15, 13)] ∈ wsL_law := wb_28 _ (List.mem_of_getElem? (i := 20) rfl)
theorem lk_L_69 : Cond.methodLink RL 69 yX10_cell ∈ wsL_law := wb_28 _ (List.mem_of_getElem? (i := 21) rfl)
theorem wI_X10_cell : Cond.instanceMethod yX10_cell ∈ wsL_law := wb_28 _ (List.mem_of_getElem? (i := 22) rfl)
theorem wV_X10_X10_cell : Cond.selects RX10 yX10_cell yX10_cell ∈ wsL_law := wb_28 _ (List.mem_of_getElem? (i := 23) rfl)
theorem wC_X10_cell : Cond.code yX10_cell cX10_cell 5 (some .int) ∈ wsL_law := wb_29 _ (List.mem_of_getElem? (i := 0) rfl)
theorem lk_X10_173 : Cond.methodLink RX10 173 yX0_cellAt ∈ wsL_law := wb_29 _ (List.mem_of_getElem? (i := 1) rfl)
theorem lk_L_143 : Cond.methodLink RL 143 yX11_cell ∈ wsL_law := wb_29 _ (List.mem_of_getElem? (i := 2) rfl)
theorem wI_X11_cell : Cond.instanceMethod yX11_cell ∈ wsL_law := wb_29 _ (List.mem_of_getElem? (i := 3) rfl)
theorem wV_X11_X11_cell : Cond.selects RX11 yX11_cell yX11_cell ∈ wsL_law := wb_29 _ (List.mem_of_getElem? (i := 4) rfl)
theorem wC_X11_cell : Cond.code yX11_cell cX11_cell 4 (some .int) ∈ wsL_law := wb_29 _ (List.mem_of_getElem? (i := 5) rfl)
theorem lk_L_144 : Cond.methodLink RL 144 yL_changed ∈ wsL_law := wb_29 _ (List.mem_of_getElem? (i := 6) rfl)
theorem wS_L_changed : Cond.static yL_changed ∈ wsL_law := wb_29 _ (List.mem_of_getElem? (i := 7) rfl)
theorem wH_L_changed : Cond.codeWith yL_changed cL_changed 4 (some .int) [(0, 9, 12, 13)] ∈ wsL_law := wb_29 _ (List.mem_of_getElem? (i := 8) rfl)
theorem lk_L_73 : Cond.methodLink RL 73 yX10_changed ∈ wsL_law := wb_29 _ (List.mem_of_getElem? (i := 9) rfl)
theorem wI_X10_changed : Cond.instanceMethod yX10_changed ∈ wsL_law := wb_29 _ (List.mem_of_getElem? (i := 10) rfl)
theorem wV_X10_X10_changed : Cond.selects RX10 yX10_changed yX10_changed ∈ wsL_law := wb_29 _ (List.mem_of_getElem? (i := 11) rfl)
theorem wC_X10_changed : Cond.code yX10_changed cX10_changed 2 (some .int) ∈ wsL_law := wb_29 _ (List.mem_of_getElem? (i := 12) rfl)
theorem lk_L_146 : Cond.methodLink RL 146 yX11_changed ∈ wsL_law := wb_29 _ (List.mem_of_getElem? (i := 13) rfl)
theorem wI_X11_changed : Cond.instanceMethod yX11_changed ∈ wsL_law := wb_29 _ (List.mem_of_getElem? (i := 14) rfl)
theorem wV_X11_X11_changed : Cond.selects RX11 yX11_changed yX11_changed ∈ wsL_law := wb_29 _ (List.mem_of_getElem? (i := 15) rfl)
theorem wC_X11_changed : Cond.code yX11_changed cX11_changed 2 (some .int) ∈ wsL_law := wb_29 _ (List.mem_of_getElem? (i := 16) rfl)
theorem lk_L_147 : Cond.methodLink RL 147 yL_count ∈ wsL_law := wb_29 _ (List.mem_of_getElem? (i := 17) rfl)
theorem wS_L_count : Cond.static yL_count ∈ wsL_law := wb_29 _ (List.mem_of_getElem? (i := 18) rfl)
theorem wH_L_count : Cond.codeWith yL_count cL_count 4 (some .int) [(0, 9, 12, 17)] ∈ wsL_law := wb_29 _ (List.mem_of_getElem? (i := 19) rfl)
theorem lk_L_76 : Cond.methodLink RL 76 yX10_count ∈ wsL_law := wb_29 _ (List.mem_of_getElem? (i := 20) rfl)
theorem wI_X10_count : Cond.instanceMethod yX10_count ∈ wsL_law := wb_29 _ (List.mem_of_getElem? (i := 21) rfl)
theorem wV_X10_X10_count : Cond.selects RX10 yX10_count yX10_count ∈ wsL_law := wb_29 _ (List.mem_of_getElem? (i := 22) rfl)
theorem wC_X10_count : Cond.code yX10_count cX10_count 7 (some .int) ∈ wsL_law := wb_29 _ (List.mem_of_getElem? (i := 23) rfl)
theorem lk_X10_186 : Cond.methodLink RX10 186 yX10_countIn ∈ wsL_law := wb_30 _ (List.mem_of_getElem? (i := 0) rfl)
theorem wS_X10_countIn : Cond.static yX10_countIn ∈ wsL_law := wb_30 _ (List.mem_of_getElem? (i := 1) rfl)
theorem wC_X10_countIn : Cond.code yX10_countIn cX10_countIn 2 (some .int) ∈ wsL_law := wb_30 _ (List.mem_of_getElem? (i := 2) rfl)
theorem lk_L_149 : Cond.methodLink RL 149 yX11_count ∈ wsL_law := wb_30 _ (List.mem_of_getElem? (i := 3) rfl)
theorem wI_X11_count : Cond.instanceMethod yX11_count ∈ wsL_law := wb_30 _ (List.mem_of_getElem? (i := 4) rfl)
theorem wV_X11_X11_count : Cond.selects RX11 yX11_count yX11_count ∈ wsL_law := wb_30 _ (List.mem_of_getElem? (i := 5) rfl)
theorem wC_X11_count : Cond.code yX11_count cX11_count 6 (some .int) ∈ wsL_law := wb_30 _ (List.mem_of_getElem? (i := 6) rfl)
