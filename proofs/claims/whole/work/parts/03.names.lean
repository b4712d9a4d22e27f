def RX0 : String := "LeastEdits$Board"
def TX0 : u_T := fun k => match k with
  | 0 => ("LeastEdits$Board", "nodeX", "[I", true)
  | 1 => ("LeastEdits$Board", "nodeY", "[I", true)
  | 2 => ("LeastEdits$Board", "spareX", "[I", true)
  | 3 => ("LeastEdits$Board", "spareY", "[I", true)
  | _ => ("LeastEdits$Board", "spares", "I", false)
def tyX0 : Nat → FieldType := fun k => match k with
  | 0 => .array .int
  | 1 => .array .int
  | 2 => .array .int
  | 3 => .array .int
  | _ => .int
abbrev wsX00 : List Cond := u_ws RX0 TX0 5
theorem nmX0 : ∀ a, a < 5 → ∀ b, b < 5 → a ≠ b → (TX0 a).2.1 ≠ (TX0 b).2.1 := by decide +kernel
theorem tyX0_ok : ∀ k, k < 5 → parseFieldDescriptor (TX0 k).2.2.1 = some (tyX0 k) := by decide +kernel
abbrev cX0_init : ByteArray := prog_2_method_1_code
def yX0_init : MethodName := ⟨RX0, "<init>", "()V"⟩
abbrev cX0_putAtOrigin : ByteArray := prog_2_method_2_code
def yX0_putAtOrigin : MethodName := ⟨RX0, "putAtOrigin", "(I)V"⟩
abbrev cX0_moveNode : ByteArray := prog_2_method_3_code
def yX0_moveNode : MethodName := ⟨RX0, "moveNode", "(III)Z"⟩
abbrev cX0_addSpare : ByteArray := prog_2_method_4_code
def yX0_addSpare : MethodName := ⟨RX0, "addSpare", "(II)I"⟩
abbrev cX0_distance : ByteArray := prog_2_method_5_code
def yX0_distance : MethodName := ⟨RX0, "distance", "(II)I"⟩
def RX1 : String := "LeastEdits$Edit"
def TX1 : u_T := fun k => match k with
  | 0 => ("LeastEdits$Edit", "node", "I", false)
  | 1 => ("LeastEdits$Edit", "first", "I", false)
  | _ => ("LeastEdits$Edit", "second", "I", false)
def tyX1 : Nat → FieldType := fun k => match k with
  | 0 => .int
  | 1 => .int
  | _ => .int
abbrev wsX10 : List Cond := u_ws RX1 TX1 3
theorem nmX1 : ∀ a, a < 3 → ∀ b, b < 3 → a ≠ b → (TX1 a).2.1 ≠ (TX1 b).2.1 := by decide +kernel
theorem tyX1_ok : ∀ k, k < 3 → parseFieldDescriptor (TX1 k).2.2.1 = some (tyX1 k) := by decide +kernel
abbrev cX1_init : ByteArray := prog_3_method_1_code
def yX1_init : MethodName := ⟨RX1, "<init>", "()V"⟩
abbrev cX1_put : ByteArray := prog_3_method_2_code
def yX1_put : MethodName := ⟨RX1, "put", "(III)V"⟩
def RX2 : String := "LeastEdits$Goals"
def TX2 : u_T := fun k => match k with
  | 0 => ("LeastEdits$Goals", "mine", "[I", true)
  | 1 => ("LeastEdits$Goals", "due", "[I", true)
  | _ => ("LeastEdits$Goals", "size", "I", false)
def tyX2 : Nat → FieldType := fun k => match k with
  | 0 => .array .int
  | 1 => .array .int
  | _ => .int
abbrev wsX20 : List Cond := u_ws RX2 TX2 3
theorem nmX2 : ∀ a, a < 3 → ∀ b, b < 3 → a ≠ b → (TX2 a).2.1 ≠ (TX2 b).2.1 := by decide +kernel
theorem tyX2_ok : ∀ k, k < 3 → parseFieldDescriptor (TX2 k).2.2.1 = some (tyX2 k) := by decide +kernel
abbrev cX2_init : ByteArray := prog_4_method_1_code
def yX2_init : MethodName := ⟨RX2, "<init>", "()V"⟩
abbrev cX2_add : ByteArray := prog_4_method_2_code
def yX2_add : MethodName := ⟨RX2, "add", "(II)I"⟩
abbrev cX2_difference : ByteArray := prog_4_method_3_code
def yX2_difference : MethodName := ⟨RX2, "difference", "([II)I"⟩
abbrev cX2_agreement : ByteArray := prog_4_method_4_code
def yX2_agreement : MethodName := ⟨RX2, "agreement", "([I)I"⟩
def RX3 : String := "LeastEdits$Net"
def TX3 : u_T := fun k => match k with
  | 0 => ("LeastEdits$Net", "kind", "[I", true)
  | 1 => ("LeastEdits$Net", "first", "[I", true)
  | 2 => ("LeastEdits$Net", "second", "[I", true)
  | 3 => ("LeastEdits$Net", "columns", "[I", true)
  | 4 => ("LeastEdits$Net", "kept", "[Z", true)
  | 5 => ("LeastEdits$Net", "own", "[I", true)
  | 6 => ("LeastEdits$Net", "nodes", "I", false)
  | 7 => ("LeastEdits$Net", "inputs", "I", false)
  | 8 => ("LeastEdits$Net", "olds", "I", false)
  | _ => ("LeastEdits$Net", "askeds", "I", false)
def tyX3 : Nat → FieldType := fun k => match k with
  | 0 => .array .int
  | 1 => .array .int
  | 2 => .array .int
  | 3 => .array .int
  | 4 => .array .boolean
  | 5 => .array .int
  | 6 => .int
  | 7 => .int
  | 8 => .int
  | _ => .int
abbrev wsX30 : List Cond := u_ws RX3 TX3 10
theorem nmX3 : ∀ a, a < 10 → ∀ b, b < 10 → a ≠ b → (TX3 a).2.1 ≠ (TX3 b).2.1 := by decide +kernel
theorem tyX3_ok : ∀ k, k < 10 → parseFieldDescriptor (TX3 k).2.2.1 = some (tyX3 k) := by decide +kernel
abbrev cX3_init : ByteArray := prog_5_method_1_code
def yX3_init : MethodName := ⟨RX3, "<init>", "()V"⟩
abbrev cX3_reset : ByteArray := prog_5_method_2_code
def yX3_reset : MethodName := ⟨RX3, "reset", "()V"⟩
abbrev cX3_hasLiteral : ByteArray := prog_5_method_3_code
def yX3_hasLiteral : MethodName := ⟨RX3, "hasLiteral", "(I)Z"⟩
abbrev cX3_isOf : ByteArray := prog_5_method_4_code
def yX3_isOf : MethodName := ⟨RX3, "isOf", "(II)Z"⟩
abbrev cX3_isOldNode : ByteArray := prog_5_method_5_code
def yX3_isOldNode : MethodName := ⟨RX3, "isOldNode", "(I)Z"⟩
abbrev cX3_firstOld : ByteArray := prog_5_method_6_code
def yX3_firstOld : MethodName := ⟨RX3, "firstOld", "()I"⟩
abbrev cX3_owned : ByteArray := prog_5_method_7_code
def yX3_owned : MethodName := ⟨RX3, "owned", "()I"⟩
abbrev cX3_ownLiteral : ByteArray := prog_5_method_8_code
def yX3_ownLiteral : MethodName := ⟨RX3, "ownLiteral", "(I)I"⟩
abbrev cX3_addInput : ByteArray := prog_5_method_9_code
def yX3_addInput : MethodName := ⟨RX3, "addInput", "()I"⟩
abbrev cX3_addOld : ByteArray := prog_5_method_10_code
def yX3_addOld : MethodName := ⟨RX3, "addOld", "(II)I"⟩
abbrev cX3_addAsked : ByteArray := prog_5_method_11_code
def yX3_addAsked : MethodName := ⟨RX3, "addAsked", "(II)I"⟩
abbrev cX3_addAnd : ByteArray := prog_5_method_12_code
def yX3_addAnd : MethodName := ⟨RX3, "addAnd", "(III)I"⟩
abbrev cX3_rewire : ByteArray := prog_5_method_13_code
def yX3_rewire : MethodName := ⟨RX3, "rewire", "(LLeastEdits$Edit;)V"⟩
abbrev cX3_refreshOldColumns : ByteArray := prog_5_method_14_code
def yX3_refreshOldColumns : MethodName := ⟨RX3, "refreshOldColumns", "()V"⟩
abbrev cX3_keptNodes : ByteArray := prog_5_method_15_code
def yX3_keptNodes : MethodName := ⟨RX3, "keptNodes", "()I"⟩
abbrev cX3_leastOwnLiteralOf : ByteArray := prog_5_method_16_code
def yX3_leastOwnLiteralOf : MethodName := ⟨RX3, "leastOwnLiteralOf", "(I)I"⟩
def RX4 : String := "LeastEdits$Past"
def TX4 : u_T := fun k => match k with
  | 0 => ("LeastEdits$Past", "before", "[LLeastEdits$Edit;", true)
  | 1 => ("LeastEdits$Past", "sizes", "[I", true)
  | _ => ("LeastEdits$Past", "made", "I", false)
def tyX4 : Nat → FieldType := fun k => match k with
  | 0 => .array (.object "LeastEdits$Edit")
  | 1 => .array .int
  | _ => .int
abbrev wsX40 : List Cond := u_ws RX4 TX4 3
theorem nmX4 : ∀ a, a < 3 → ∀ b, b < 3 → a ≠ b → (TX4 a).2.1 ≠ (TX4 b).2.1 := by decide +kernel
theorem tyX4_ok : ∀ k, k < 3 → parseFieldDescriptor (TX4 k).2.2.1 = some (tyX4 k) := by decide +kernel
abbrev cX4_init : ByteArray := prog_6_method_1_code
def yX4_init : MethodName := ⟨RX4, "<init>", "()V"⟩
abbrev cX4_remember : ByteArray := prog_6_method_2_code
def yX4_remember : MethodName := ⟨RX4, "remember", "(LLeastEdits$Net;[LLeastEdits$Edit;I)V"⟩
abbrev cX4_takeBackLast : ByteArray := prog_6_method_3_code
def yX4_takeBackLast : MethodName := ⟨RX4, "takeBackLast", "(LLeastEdits$Net;)V"⟩
def RX5 : String := "LeastEdits$Search"
def TX5 : u_T := fun k => match k with
  | 0 => ("LeastEdits$Search", "net", "LLeastEdits$Net;", true)
  | 1 => ("LeastEdits$Search", "goals", "LLeastEdits$Goals;", true)
  | 2 => ("LeastEdits$Search", "edits", "[LLeastEdits$Edit;", true)
  | 3 => ("LeastEdits$Search", "trial", "[I", true)
  | _ => ("LeastEdits$Search", "shown", "[I", true)
def tyX5 : Nat → FieldType := fun k => match k with
  | 0 => .object "LeastEdits$Net"
  | 1 => .object "LeastEdits$Goals"
  | 2 => .array (.object "LeastEdits$Edit")
  | 3 => .array .int
  | _ => .array .int
abbrev wsX50 : List Cond := u_ws RX5 TX5 5
theorem nmX5 : ∀ a, a < 5 → ∀ b, b < 5 → a ≠ b → (TX5 a).2.1 ≠ (TX5 b).2.1 := by decide +kernel
theorem tyX5_ok : ∀ k, k < 5 → parseFieldDescriptor (TX5 k).2.2.1 = some (tyX5 k) := by decide +kernel
abbrev cX5_init : ByteArray := prog_7_method_1_code
def yX5_init : MethodName := ⟨RX5, "<init>", "(LLeastEdits$Net;LLeastEdits$Goals;)V"⟩
abbrev cX5_fewestEdits : ByteArray := prog_7_method_2_code
def yX5_fewestEdits : MethodName := ⟨RX5, "fewestEdits", "(I)I"⟩
abbrev cX5_showAsItIs : ByteArray := prog_7_method_3_code
def yX5_showAsItIs : MethodName := ⟨RX5, "showAsItIs", "()V"⟩
abbrev cX5_show : ByteArray := prog_7_method_4_code
def yX5_show : MethodName := ⟨RX5, "show", "(II)V"⟩
abbrev cX5_findOne : ByteArray := prog_7_method_5_code
def yX5_findOne : MethodName := ⟨RX5, "findOne", "()Z"⟩
abbrev cX5_findTwo : ByteArray := prog_7_method_6_code
def yX5_findTwo : MethodName := ⟨RX5, "findTwo", "()Z"⟩
abbrev cX5_findPair : ByteArray := prog_7_method_7_code
def yX5_findPair : MethodName := ⟨RX5, "findPair", "(II)Z"⟩
abbrev cX5_findLiterals : ByteArray := prog_7_method_8_code
def yX5_findLiterals : MethodName := ⟨RX5, "findLiterals", "(IIILLeastEdits$Edit;)Z"⟩
abbrev cX5_findPartner : ByteArray := prog_7_method_9_code
def yX5_findPartner : MethodName := ⟨RX5, "findPartner", "(IIII)I"⟩
abbrev cX5_agreementWith : ByteArray := prog_7_method_10_code
def yX5_agreementWith : MethodName := ⟨RX5, "agreementWith", "(IIII)I"⟩
abbrev cX5_setAndSpread : ByteArray := prog_7_method_11_code
def yX5_setAndSpread : MethodName := ⟨RX5, "setAndSpread", "(IIII)V"⟩
def RX6 : String := "LeastEdits$Taking"
def TX6 : u_T := fun k => match k with
  | 0 => ("LeastEdits$Taking", "board", "LLeastEdits$Board;", true)
  | 1 => ("LeastEdits$Taking", "spareOf", "[I", true)
  | _ => ("LeastEdits$Taking", "sum", "I", false)
def tyX6 : Nat → FieldType := fun k => match k with
  | 0 => .object "LeastEdits$Board"
  | 1 => .array .int
  | _ => .int
abbrev wsX60 : List Cond := u_ws RX6 TX6 3
theorem nmX6 : ∀ a, a < 3 → ∀ b, b < 3 → a ≠ b → (TX6 a).2.1 ≠ (TX6 b).2.1 := by decide +kernel
theorem tyX6_ok : ∀ k, k < 3 → parseFieldDescriptor (TX6 k).2.2.1 = some (tyX6 k) := by decide +kernel
abbrev cX6_init : ByteArray := prog_8_method_1_code
def yX6_init : MethodName := ⟨RX6, "<init>", "(LLeastEdits$Board;)V"⟩
abbrev cX6_take : ByteArray := prog_8_method_2_code
def yX6_take : MethodName := ⟨RX6, "take", "([LLeastEdits$Edit;I)V"⟩
abbrev cX6_takeForOne : ByteArray := prog_8_method_3_code
def yX6_takeForOne : MethodName := ⟨RX6, "takeForOne", "(I)V"⟩
abbrev cX6_takeForTwo : ByteArray := prog_8_method_4_code
def yX6_takeForTwo : MethodName := ⟨RX6, "takeForTwo", "(II)V"⟩
abbrev cX6_offer : ByteArray := prog_8_method_5_code
def yX6_offer : MethodName := ⟨RX6, "offer", "(III)V"⟩
def RX7 : String := "LeastEdits"
def TX7 : u_T := fun k => match k with
  | 0 => ("LeastEdits", "net", "LLeastEdits$Net;", true)
  | 1 => ("LeastEdits", "goals", "LLeastEdits$Goals;", true)
  | 2 => ("LeastEdits", "board", "LLeastEdits$Board;", true)
  | 3 => ("LeastEdits", "search", "LLeastEdits$Search;", true)
  | 4 => ("LeastEdits", "taking", "LLeastEdits$Taking;", true)
  | 5 => ("LeastEdits", "past", "LLeastEdits$Past;", true)
  | _ => ("LeastEdits", "ran", "I", false)
def tyX7 : Nat → FieldType := fun k => match k with
  | 0 => .object "LeastEdits$Net"
  | 1 => .object "LeastEdits$Goals"
  | 2 => .object "LeastEdits$Board"
  | 3 => .object "LeastEdits$Search"
  | 4 => .object "LeastEdits$Taking"
  | 5 => .object "LeastEdits$Past"
  | _ => .int
abbrev wsX70 : List Cond := u_ws RX7 TX7 7
theorem nmX7 : ∀ a, a < 7 → ∀ b, b < 7 → a ≠ b → (TX7 a).2.1 ≠ (TX7 b).2.1 := by decide +kernel
theorem tyX7_ok : ∀ k, k < 7 → parseFieldDescriptor (TX7 k).2.2.1 = some (tyX7 k) := by decide +kernel
abbrev cX7_init : ByteArray := prog_1_method_1_code
def yX7_init : MethodName := ⟨RX7, "<init>", "()V"⟩
abbrev cX7_input : ByteArray := prog_1_method_2_code
def yX7_input : MethodName := ⟨RX7, "input", "()I"⟩
abbrev cX7_old : ByteArray := prog_1_method_3_code
def yX7_old : MethodName := ⟨RX7, "old", "(II)I"⟩
abbrev cX7_asked : ByteArray := prog_1_method_4_code
def yX7_asked : MethodName := ⟨RX7, "asked", "(II)I"⟩
abbrev cX7_output : ByteArray := prog_1_method_5_code
def yX7_output : MethodName := ⟨RX7, "output", "(II)I"⟩
abbrev cX7_value : ByteArray := prog_1_method_6_code
def yX7_value : MethodName := ⟨RX7, "value", "(II)I"⟩
abbrev cX7_differing : ByteArray := prog_1_method_7_code
def yX7_differing : MethodName := ⟨RX7, "differing", "()I"⟩
abbrev cX7_witness : ByteArray := prog_1_method_8_code
def yX7_witness : MethodName := ⟨RX7, "witness", "(I)I"⟩
abbrev cX7_matched : ByteArray := prog_1_method_9_code
def yX7_matched : MethodName := ⟨RX7, "matched", "(I)I"⟩
abbrev cX7_keep : ByteArray := prog_1_method_10_code
def yX7_keep : MethodName := ⟨RX7, "keep", "(IZ)Z"⟩
abbrev cX7_place : ByteArray := prog_1_method_11_code
def yX7_place : MethodName := ⟨RX7, "place", "(IJJ)Z"⟩
abbrev cX7_spare : ByteArray := prog_1_method_12_code
def yX7_spare : MethodName := ⟨RX7, "spare", "(JJ)I"⟩
abbrev cX7_run : ByteArray := prog_1_method_13_code
def yX7_run : MethodName := ⟨RX7, "run", "(I)I"⟩
abbrev cX7_edit : ByteArray := prog_1_method_14_code
def yX7_edit : MethodName := ⟨RX7, "edit", "(II)I"⟩
abbrev cX7_used : ByteArray := prog_1_method_15_code
def yX7_used : MethodName := ⟨RX7, "used", "(I)I"⟩
abbrev cX7_length : ByteArray := prog_1_method_16_code
def yX7_length : MethodName := ⟨RX7, "length", "()I"⟩
abbrev cX7_make : ByteArray := prog_1_method_17_code
def yX7_make : MethodName := ⟨RX7, "make", "()I"⟩
abbrev cX7_undo : ByteArray := prog_1_method_18_code
def yX7_undo : MethodName := ⟨RX7, "undo", "()Z"⟩
abbrev cX7_literal : ByteArray := prog_1_method_19_code
def yX7_literal : MethodName := ⟨RX7, "literal", "(II)I"⟩
abbrev cX7_count : ByteArray := prog_1_method_20_code
def yX7_count : MethodName := ⟨RX7, "count", "(I)I"⟩
abbrev cX7_clear : ByteArray := prog_1_method_21_code
def yX7_clear : MethodName := ⟨RX7, "clear", "()V"⟩
abbrev cX7_isTooFar : ByteArray := prog_1_method_22_code
def yX7_isTooFar : MethodName := ⟨RX7, "isTooFar", "(J)Z"⟩
abbrev cX7_column : ByteArray := prog_1_method_23_code
def yX7_column : MethodName := ⟨RX7, "column", "([II)I"⟩
abbrev cX7_leastBit : ByteArray := prog_1_method_24_code
def yX7_leastBit : MethodName := ⟨RX7, "leastBit", "(I)I"⟩
def RX8 : String := "LeastEditsModel"
def TX8 : u_T := fun k => match k with
  | 0 => ("LeastEditsModel", "thrown", "I", false)
  | 1 => ("LeastEditsModel", "nodes", "I", false)
  | 2 => ("LeastEditsModel", "sorts", "[I", true)
  | 3 => ("LeastEditsModel", "ones", "[I", true)
  | 4 => ("LeastEditsModel", "twos", "[I", true)
  | 5 => ("LeastEditsModel", "tables", "[I", true)
  | 6 => ("LeastEditsModel", "kept", "[Z", true)
  | 7 => ("LeastEditsModel", "xs", "[J", true)
  | 8 => ("LeastEditsModel", "ys", "[J", true)
  | 9 => ("LeastEditsModel", "inputs", "I", false)
  | 10 => ("LeastEditsModel", "olds", "I", false)
  | 11 => ("LeastEditsModel", "askeds", "I", false)
  | 12 => ("LeastEditsModel", "outputs", "I", false)
  | 13 => ("LeastEditsModel", "mine", "[I", true)
  | 14 => ("LeastEditsModel", "due", "[I", true)
  | 15 => ("LeastEditsModel", "spares", "I", false)
  | 16 => ("LeastEditsModel", "spareX", "[J", true)
  | 17 => ("LeastEditsModel", "spareY", "[J", true)
  | 18 => ("LeastEditsModel", "found", "Z", false)
  | 19 => ("LeastEditsModel", "edits", "I", false)
  | 20 => ("LeastEditsModel", "editNode", "[I", true)
  | 21 => ("LeastEditsModel", "editOne", "[I", true)
  | 22 => ("LeastEditsModel", "editTwo", "[I", true)
  | 23 => ("LeastEditsModel", "takes", "Z", false)
  | 24 => ("LeastEditsModel", "spareOf", "[I", true)
  | 25 => ("LeastEditsModel", "sum", "J", false)
  | 26 => ("LeastEditsModel", "made", "I", false)
  | 27 => ("LeastEditsModel", "madeCount", "[I", true)
  | 28 => ("LeastEditsModel", "madeNode", "[I", true)
  | 29 => ("LeastEditsModel", "madeOne", "[I", true)
  | _ => ("LeastEditsModel", "madeTwo", "[I", true)
def tyX8 : Nat → FieldType := fun k => match k with
  | 0 => .int
  | 1 => .int
  | 2 => .array .int
  | 3 => .array .int
  | 4 => .array .int
  | 5 => .array .int
  | 6 => .array .boolean
  | 7 => .array .long
  | 8 => .array .long
  | 9 => .int
  | 10 => .int
  | 11 => .int
  | 12 => .int
  | 13 => .array .int
  | 14 => .array .int
  | 15 => .int
  | 16 => .array .long
  | 17 => .array .long
  | 18 => .boolean
  | 19 => .int
  | 20 => .array .int
  | 21 => .array .int
  | 22 => .array .int
  | 23 => .boolean
  | 24 => .array .int
  | 25 => .long
  | 26 => .int
  | 27 => .array .int
  | 28 => .array .int
  | 29 => .array .int
  | _ => .array .int
abbrev wsX80 : List Cond := u_ws RX8 TX8 31
theorem nmX8 : ∀ a, a < 31 → ∀ b, b < 31 → a ≠ b → (TX8 a).2.1 ≠ (TX8 b).2.1 := by decide +kernel
theorem tyX8_ok : ∀ k, k < 31 → parseFieldDescriptor (TX8 k).2.2.1 = some (tyX8 k) := by decide +kernel
abbrev cX8_init : ByteArray := prog_10_method_1_code
def yX8_init : MethodName := ⟨RX8, "<init>", "()V"⟩
abbrev cX8_thrown : ByteArray := prog_10_method_2_code
def yX8_thrown : MethodName := ⟨RX8, "thrown", "()I"⟩
abbrev cX8_isIn : ByteArray := prog_10_method_3_code
def yX8_isIn : MethodName := ⟨RX8, "isIn", "(II)Z"⟩
abbrev cX8_isLiteral : ByteArray := prog_10_method_4_code
def yX8_isLiteral : MethodName := ⟨RX8, "isLiteral", "(I)Z"⟩
abbrev cX8_isOf : ByteArray := prog_10_method_5_code
def yX8_isOf : MethodName := ⟨RX8, "isOf", "(II)Z"⟩
abbrev cX8_table : ByteArray := prog_10_method_6_code
def yX8_table : MethodName := ⟨RX8, "table", "(I)I"⟩
abbrev cX8_work : ByteArray := prog_10_method_7_code
def yX8_work : MethodName := ⟨RX8, "work", "(I)V"⟩
abbrev cX8_workOlds : ByteArray := prog_10_method_8_code
def yX8_workOlds : MethodName := ⟨RX8, "workOlds", "(I)V"⟩
abbrev cX8_isApart : ByteArray := prog_10_method_9_code
def yX8_isApart : MethodName := ⟨RX8, "isApart", "(I)Z"⟩
abbrev cX8_apart : ByteArray := prog_10_method_10_code
def yX8_apart : MethodName := ⟨RX8, "apart", "()I"⟩
abbrev cX8_put : ByteArray := prog_10_method_11_code
def yX8_put : MethodName := ⟨RX8, "put", "(III)I"⟩
abbrev cX8_input : ByteArray := prog_10_method_12_code
def yX8_input : MethodName := ⟨RX8, "input", "()I"⟩
abbrev cX8_old : ByteArray := prog_10_method_13_code
def yX8_old : MethodName := ⟨RX8, "old", "(II)I"⟩
abbrev cX8_asked : ByteArray := prog_10_method_14_code
def yX8_asked : MethodName := ⟨RX8, "asked", "(II)I"⟩
abbrev cX8_output : ByteArray := prog_10_method_15_code
def yX8_output : MethodName := ⟨RX8, "output", "(II)I"⟩
abbrev cX8_value : ByteArray := prog_10_method_16_code
def yX8_value : MethodName := ⟨RX8, "value", "(II)I"⟩
abbrev cX8_differing : ByteArray := prog_10_method_17_code
def yX8_differing : MethodName := ⟨RX8, "differing", "()I"⟩
abbrev cX8_witness : ByteArray := prog_10_method_18_code
def yX8_witness : MethodName := ⟨RX8, "witness", "(I)I"⟩
abbrev cX8_matched : ByteArray := prog_10_method_19_code
def yX8_matched : MethodName := ⟨RX8, "matched", "(I)I"⟩
abbrev cX8_isOld : ByteArray := prog_10_method_20_code
def yX8_isOld : MethodName := ⟨RX8, "isOld", "(I)Z"⟩
abbrev cX8_keep : ByteArray := prog_10_method_21_code
def yX8_keep : MethodName := ⟨RX8, "keep", "(IZ)Z"⟩
abbrev cX8_isNear : ByteArray := prog_10_method_22_code
def yX8_isNear : MethodName := ⟨RX8, "isNear", "(J)Z"⟩
abbrev cX8_place : ByteArray := prog_10_method_23_code
def yX8_place : MethodName := ⟨RX8, "place", "(IJJ)Z"⟩
abbrev cX8_spare : ByteArray := prog_10_method_24_code
def yX8_spare : MethodName := ⟨RX8, "spare", "(JJ)I"⟩
abbrev cX8_isFree : ByteArray := prog_10_method_25_code
def yX8_isFree : MethodName := ⟨RX8, "isFree", "(I)Z"⟩
abbrev cX8_mayBe : ByteArray := prog_10_method_26_code
def yX8_mayBe : MethodName := ⟨RX8, "mayBe", "(I)Z"⟩
abbrev cX8_tryAt : ByteArray := prog_10_method_27_code
def yX8_tryAt : MethodName := ⟨RX8, "tryAt", "(II)Z"⟩
abbrev cX8_trySecond : ByteArray := prog_10_method_28_code
def yX8_trySecond : MethodName := ⟨RX8, "trySecond", "(I)Z"⟩
abbrev cX8_search : ByteArray := prog_10_method_29_code
def yX8_search : MethodName := ⟨RX8, "search", "(I)Z"⟩
abbrev cX8_run : ByteArray := prog_10_method_30_code
def yX8_run : MethodName := ⟨RX8, "run", "(I)I"⟩
abbrev cX8_size : ByteArray := prog_10_method_31_code
def yX8_size : MethodName := ⟨RX8, "size", "(J)J"⟩
abbrev cX8_far : ByteArray := prog_10_method_32_code
def yX8_far : MethodName := ⟨RX8, "far", "(II)J"⟩
abbrev cX8_take : ByteArray := prog_10_method_33_code
def yX8_take : MethodName := ⟨RX8, "take", "()V"⟩
abbrev cX8_edit : ByteArray := prog_10_method_34_code
def yX8_edit : MethodName := ⟨RX8, "edit", "(II)I"⟩
abbrev cX8_used : ByteArray := prog_10_method_35_code
def yX8_used : MethodName := ⟨RX8, "used", "(I)I"⟩
abbrev cX8_length : ByteArray := prog_10_method_36_code
def yX8_length : MethodName := ⟨RX8, "length", "()I"⟩
abbrev cX8_make : ByteArray := prog_10_method_37_code
def yX8_make : MethodName := ⟨RX8, "make", "()I"⟩
abbrev cX8_undo : ByteArray := prog_10_method_38_code
def yX8_undo : MethodName := ⟨RX8, "undo", "()Z"⟩
abbrev cX8_literal : ByteArray := prog_10_method_39_code
def yX8_literal : MethodName := ⟨RX8, "literal", "(II)I"⟩
abbrev cX8_count : ByteArray := prog_10_method_40_code
def yX8_count : MethodName := ⟨RX8, "count", "(I)I"⟩
abbrev cX8_clear : ByteArray := prog_10_method_41_code
def yX8_clear : MethodName := ⟨RX8, "clear", "()V"⟩
def RJ9 : String := "java/lang/Math"
def TJ9 : u_T := fun k => match k with
  | _ => ("", "", "", false)
def tyJ9 : Nat → FieldType := fun k => match k with
  | _ => .int
abbrev wsJ90 : List Cond := u_ws RJ9 TJ9 0
theorem nmJ9 : ∀ a, a < 0 → ∀ b, b < 0 → a ≠ b → (TJ9 a).2.1 ≠ (TJ9 b).2.1 := by decide +kernel
theorem tyJ9_ok : ∀ k, k < 0 → parseFieldDescriptor (TJ9 k).2.2.1 = some (tyJ9 k) := by decide +kernel
abbrev cJ9_abs_0f7a4 : ByteArray := prog_15_method_59_code
def yJ9_abs_0f7a4 : MethodName := ⟨RJ9, "abs", "(I)I"⟩
def RJ0 : String := "java/lang/String"
def TJ0 : u_T := fun k => match k with
  | _ => ("", "", "", false)
def tyJ0 : Nat → FieldType := fun k => match k with
  | _ => .int
abbrev wsJ00 : List Cond := u_ws RJ0 TJ0 0
theorem nmJ0 : ∀ a, a < 0 → ∀ b, b < 0 → a ≠ b → (TJ0 a).2.1 ≠ (TJ0 b).2.1 := by decide +kernel
theorem tyJ0_ok : ∀ k, k < 0 → parseFieldDescriptor (TJ0 k).2.2.1 = some (tyJ0 k) := by decide +kernel
def RJ10 : String := "java/lang/System"
def TJ10 : u_T := fun k => match k with
  | _ => ("", "", "", false)
def tyJ10 : Nat → FieldType := fun k => match k with
  | _ => .int
abbrev wsJ100 : List Cond := u_ws RJ10 TJ10 0
theorem nmJ10 : ∀ a, a < 0 → ∀ b, b < 0 → a ≠ b → (TJ10 a).2.1 ≠ (TJ10 b).2.1 := by decide +kernel
theorem tyJ10_ok : ∀ k, k < 0 → parseFieldDescriptor (TJ10 k).2.2.1 = some (tyJ10 k) := by decide +kernel
def RL : String := "LeastEditsLaw"
abbrev cL_input : ByteArray := method_3_code
def yL_input : MethodName := ⟨RL, "input", "(LLeastEdits;[J)I"⟩
abbrev cL_old : ByteArray := method_4_code
def yL_old : MethodName := ⟨RL, "old", "(LLeastEdits;II[J)I"⟩
abbrev cL_asked : ByteArray := method_5_code
def yL_asked : MethodName := ⟨RL, "asked", "(LLeastEdits;II[J)I"⟩
abbrev cL_output : ByteArray := method_6_code
def yL_output : MethodName := ⟨RL, "output", "(LLeastEdits;II[J)I"⟩
abbrev cL_value : ByteArray := method_7_code
def yL_value : MethodName := ⟨RL, "value", "(LLeastEdits;II[J)I"⟩
abbrev cL_witness : ByteArray := method_8_code
def yL_witness : MethodName := ⟨RL, "witness", "(LLeastEdits;I[J)I"⟩
abbrev cL_matched : ByteArray := method_9_code
def yL_matched : MethodName := ⟨RL, "matched", "(LLeastEdits;I[J)I"⟩
abbrev cL_keep : ByteArray := method_10_code
def yL_keep : MethodName := ⟨RL, "keep", "(LLeastEdits;IZ[J)I"⟩
abbrev cL_place : ByteArray := method_11_code
def yL_place : MethodName := ⟨RL, "place", "(LLeastEdits;IJJ[J)I"⟩
abbrev cL_spare : ByteArray := method_12_code
def yL_spare : MethodName := ⟨RL, "spare", "(LLeastEdits;JJ[J)I"⟩
abbrev cL_run : ByteArray := method_13_code
def yL_run : MethodName := ⟨RL, "run", "(LLeastEdits;I[J)I"⟩
abbrev cL_edit : ByteArray := method_14_code
def yL_edit : MethodName := ⟨RL, "edit", "(LLeastEdits;II[J)I"⟩
abbrev cL_used : ByteArray := method_15_code
def yL_used : MethodName := ⟨RL, "used", "(LLeastEdits;I[J)I"⟩
abbrev cL_length : ByteArray := method_16_code
def yL_length : MethodName := ⟨RL, "length", "(LLeastEdits;[J)I"⟩
abbrev cL_make : ByteArray := method_17_code
def yL_make : MethodName := ⟨RL, "make", "(LLeastEdits;[J)I"⟩
abbrev cL_literal : ByteArray := method_18_code
def yL_literal : MethodName := ⟨RL, "literal", "(LLeastEdits;II[J)I"⟩
abbrev cL_count : ByteArray := method_19_code
def yL_count : MethodName := ⟨RL, "count", "(LLeastEdits;I[J)I"⟩
abbrev cL_law : ByteArray := code
def yL_law : MethodName := ⟨RL, "law", "([I)Z"⟩
theorem dX0_init_0 : decode cX0_init 0 = .ok (.aload_n 0, 1) := by decide +kernel
theorem dX0_init_1 : decode cX0_init 1 = .ok (.invokespecial 3, 3) := by decide +kernel
theorem dX0_init_4 : decode cX0_init 4 = .ok (.aload_n 0, 1) := by decide +kernel
theorem dX0_init_5 : decode cX0_init 5 = .ok (.bipush 38, 2) := by decide +kernel
theorem dX0_init_7 : decode cX0_init 7 = .ok (.newarray .int, 2) := by decide +kernel
theorem dX0_init_9 : decode cX0_init 9 = .ok (.putfield 9, 3) := by decide +kernel
theorem dX0_init_12 : decode cX0_init 12 = .ok (.aload_n 0, 1) := by decide +kernel
theorem dX0_init_13 : decode cX0_init 13 = .ok (.bipush 38, 2) := by decide +kernel
theorem dX0_init_15 : decode cX0_init 15 = .ok (.newarray .int, 2) := by decide +kernel
theorem dX0_init_17 : decode cX0_init 17 = .ok (.putfield 15, 3) := by decide +kernel
theorem dX0_init_20 : decode cX0_init 20 = .ok (.aload_n 0, 1) := by decide +kernel
theorem dX0_init_21 : decode cX0_init 21 = .ok (.bipush 6, 2) := by decide +kernel
theorem dX0_init_23 : decode cX0_init 23 = .ok (.newarray .int, 2) := by decide +kernel
theorem dX0_init_25 : decode cX0_init 25 = .ok (.putfield 18, 3) := by decide +kernel
theorem dX0_init_28 : decode cX0_init 28 = .ok (.aload_n 0, 1) := by decide +kernel
theorem dX0_init_29 : decode cX0_init 29 = .ok (.bipush 6, 2) := by decide +kernel
theorem dX0_init_31 : decode cX0_init 31 = .ok (.newarray .int, 2) := by decide +kernel
theorem dX0_init_33 : decode cX0_init 33 = .ok (.putfield 21, 3) := by decide +kernel
theorem dX0_init_36 : decode cX0_init 36 = .ok (.return_, 1) := by decide +kernel
theorem dX0_putAtOrigin_0 : decode cX0_putAtOrigin 0 = .ok (.aload_n 0, 1) := by decide +kernel
theorem dX0_putAtOrigin_1 : decode cX0_putAtOrigin 1 = .ok (.getfield 9, 3) := by decide +kernel
theorem dX0_putAtOrigin_4 : decode cX0_putAtOrigin 4 = .ok (.iload_n 1, 1) := by decide +kernel
theorem dX0_putAtOrigin_5 : decode cX0_putAtOrigin 5 = .ok (.iconst 0, 1) := by decide +kernel
theorem dX0_putAtOrigin_6 : decode cX0_putAtOrigin 6 = .ok (.iastore, 1) := by decide +kernel
theorem dX0_putAtOrigin_7 : decode cX0_putAtOrigin 7 = .ok (.aload_n 0, 1) := by decide +kernel
theorem dX0_putAtOrigin_8 : decode cX0_putAtOrigin 8 = .ok (.getfield 15, 3) := by decide +kernel
theorem dX0_putAtOrigin_11 : decode cX0_putAtOrigin 11 = .ok (.iload_n 1, 1) := by decide +kernel
theorem dX0_putAtOrigin_12 : decode cX0_putAtOrigin 12 = .ok (.iconst 0, 1) := by decide +kernel
theorem dX0_putAtOrigin_13 : decode cX0_putAtOrigin 13 = .ok (.iastore, 1) := by decide +kernel
theorem dX0_putAtOrigin_14 : decode cX0_putAtOrigin 14 = .ok (.return_, 1) := by decide +kernel
theorem dX0_moveNode_0 : decode cX0_moveNode 0 = .ok (.aload_n 0, 1) := by decide +kernel
theorem dX0_moveNode_1 : decode cX0_moveNode 1 = .ok (.getfield 9, 3) := by decide +kernel
theorem dX0_moveNode_4 : decode cX0_moveNode 4 = .ok (.iload_n 1, 1) := by decide +kernel
theorem dX0_moveNode_5 : decode cX0_moveNode 5 = .ok (.iaload, 1) := by decide +kernel
theorem dX0_moveNode_6 : decode cX0_moveNode 6 = .ok (.iload_n 2, 1) := by decide +kernel
theorem dX0_moveNode_7 : decode cX0_moveNode 7 = .ok (.if_icmp .ne 13, 3) := by decide +kernel
theorem dX0_moveNode_10 : decode cX0_moveNode 10 = .ok (.aload_n 0, 1) := by decide +kernel
theorem dX0_moveNode_11 : decode cX0_moveNode 11 = .ok (.getfield 15, 3) := by decide +kernel
theorem dX0_moveNode_14 : decode cX0_moveNode 14 = .ok (.iload_n 1, 1) := by decide +kernel
theorem dX0_moveNode_15 : decode cX0_moveNode 15 = .ok (.iaload, 1) := by decide +kernel
theorem dX0_moveNode_16 : decode cX0_moveNode 16 = .ok (.iload_n 3, 1) := by decide +kernel
theorem dX0_moveNode_17 : decode cX0_moveNode 17 = .ok (.if_icmp .eq 7, 3) := by decide +kernel
theorem dX0_moveNode_20 : decode cX0_moveNode 20 = .ok (.iconst 1, 1) := by decide +kernel
theorem dX0_moveNode_21 : decode cX0_moveNode 21 = .ok (.goto 4, 3) := by decide +kernel
theorem dX0_moveNode_24 : decode cX0_moveNode 24 = .ok (.iconst 0, 1) := by decide +kernel
theorem dX0_moveNode_25 : decode cX0_moveNode 25 = .ok (.istore 4, 2) := by decide +kernel
theorem dX0_moveNode_27 : decode cX0_moveNode 27 = .ok (.aload_n 0, 1) := by decide +kernel
theorem dX0_moveNode_28 : decode cX0_moveNode 28 = .ok (.getfield 9, 3) := by decide +kernel
theorem dX0_moveNode_31 : decode cX0_moveNode 31 = .ok (.iload_n 1, 1) := by decide +kernel
theorem dX0_moveNode_32 : decode cX0_moveNode 32 = .ok (.iload_n 2, 1) := by decide +kernel
theorem dX0_moveNode_33 : decode cX0_moveNode 33 = .ok (.iastore, 1) := by decide +kernel
theorem dX0_moveNode_34 : decode cX0_moveNode 34 = .ok (.aload_n 0, 1) := by decide +kernel
theorem dX0_moveNode_35 : decode cX0_moveNode 35 = .ok (.getfield 15, 3) := by decide +kernel
theorem dX0_moveNode_38 : decode cX0_moveNode 38 = .ok (.iload_n 1, 1) := by decide +kernel
theorem dX0_moveNode_39 : decode cX0_moveNode 39 = .ok (.iload_n 3, 1) := by decide +kernel
theorem dX0_moveNode_40 : decode cX0_moveNode 40 = .ok (.iastore, 1) := by decide +kernel
theorem dX0_moveNode_41 : decode cX0_moveNode 41 = .ok (.iload 4, 2) := by decide +kernel
theorem dX0_moveNode_43 : decode cX0_moveNode 43 = .ok (.ireturn, 1) := by decide +kernel
theorem dX0_addSpare_0 : decode cX0_addSpare 0 = .ok (.aload_n 0, 1) := by decide +kernel
theorem dX0_addSpare_1 : decode cX0_addSpare 1 = .ok (.getfield 18, 3) := by decide +kernel
theorem dX0_addSpare_4 : decode cX0_addSpare 4 = .ok (.aload_n 0, 1) := by decide +kernel
theorem dX0_addSpare_5 : decode cX0_addSpare 5 = .ok (.getfield 24, 3) := by decide +kernel
theorem dX0_addSpare_8 : decode cX0_addSpare 8 = .ok (.iload_n 1, 1) := by decide +kernel
theorem dX0_addSpare_9 : decode cX0_addSpare 9 = .ok (.iastore, 1) := by decide +kernel
theorem dX0_addSpare_10 : decode cX0_addSpare 10 = .ok (.aload_n 0, 1) := by decide +kernel
theorem dX0_addSpare_11 : decode cX0_addSpare 11 = .ok (.getfield 21, 3) := by decide +kernel
theorem dX0_addSpare_14 : decode cX0_addSpare 14 = .ok (.aload_n 0, 1) := by decide +kernel
theorem dX0_addSpare_15 : decode cX0_addSpare 15 = .ok (.getfield 24, 3) := by decide +kernel
theorem dX0_addSpare_18 : decode cX0_addSpare 18 = .ok (.iload_n 2, 1) := by decide +kernel
theorem dX0_addSpare_19 : decode cX0_addSpare 19 = .ok (.iastore, 1) := by decide +kernel
theorem dX0_addSpare_20 : decode cX0_addSpare 20 = .ok (.aload_n 0, 1) := by decide +kernel
theorem dX0_addSpare_21 : decode cX0_addSpare 21 = .ok (.dup, 1) := by decide +kernel
theorem dX0_addSpare_22 : decode cX0_addSpare 22 = .ok (.getfield 24, 3) := by decide +kernel
theorem dX0_addSpare_25 : decode cX0_addSpare 25 = .ok (.iconst 1, 1) := by decide +kernel
theorem dX0_addSpare_26 : decode cX0_addSpare 26 = .ok (.iadd, 1) := by decide +kernel
theorem dX0_addSpare_27 : decode cX0_addSpare 27 = .ok (.putfield 24, 3) := by decide +kernel
theorem dX0_addSpare_30 : decode cX0_addSpare 30 = .ok (.aload_n 0, 1) := by decide +kernel
theorem dX0_addSpare_31 : decode cX0_addSpare 31 = .ok (.getfield 24, 3) := by decide +kernel
theorem dX0_addSpare_34 : decode cX0_addSpare 34 = .ok (.iconst 1, 1) := by decide +kernel
theorem dX0_addSpare_35 : decode cX0_addSpare 35 = .ok (.isub, 1) := by decide +kernel
theorem dX0_addSpare_36 : decode cX0_addSpare 36 = .ok (.ireturn, 1) := by decide +kernel
theorem dX0_distance_0 : decode cX0_distance 0 = .ok (.aload_n 0, 1) := by decide +kernel
theorem dX0_distance_1 : decode cX0_distance 1 = .ok (.getfield 9, 3) := by decide +kernel
theorem dX0_distance_4 : decode cX0_distance 4 = .ok (.iload_n 1, 1) := by decide +kernel
theorem dX0_distance_5 : decode cX0_distance 5 = .ok (.iaload, 1) := by decide +kernel
theorem dX0_distance_6 : decode cX0_distance 6 = .ok (.aload_n 0, 1) := by decide +kernel
theorem dX0_distance_7 : decode cX0_distance 7 = .ok (.getfield 18, 3) := by decide +kernel
theorem dX0_distance_10 : decode cX0_distance 10 = .ok (.iload_n 2, 1) := by decide +kernel
theorem dX0_distance_11 : decode cX0_distance 11 = .ok (.iaload, 1) := by decide +kernel
theorem dX0_distance_12 : decode cX0_distance 12 = .ok (.isub, 1) := by decide +kernel
theorem dX0_distance_13 : decode cX0_distance 13 = .ok (.invokestatic 28, 3) := by decide +kernel
theorem dX0_distance_16 : decode cX0_distance 16 = .ok (.aload_n 0, 1) := by decide +kernel
theorem dX0_distance_17 : decode cX0_distance 17 = .ok (.getfield 15, 3) := by decide +kernel
theorem dX0_distance_20 : decode cX0_distance 20 = .ok (.iload_n 1, 1) := by decide +kernel
theorem dX0_distance_21 : decode cX0_distance 21 = .ok (.iaload, 1) := by decide +kernel
theorem dX0_distance_22 : decode cX0_distance 22 = .ok (.aload_n 0, 1) := by decide +kernel
theorem dX0_distance_23 : decode cX0_distance 23 = .ok (.getfield 21, 3) := by decide +kernel
theorem dX0_distance_26 : decode cX0_distance 26 = .ok (.iload_n 2, 1) := by decide +kernel
theorem dX0_distance_27 : decode cX0_distance 27 = .ok (.iaload, 1) := by decide +kernel
theorem dX0_distance_28 : decode cX0_distance 28 = .ok (.isub, 1) := by decide +kernel
theorem dX0_distance_29 : decode cX0_distance 29 = .ok (.invokestatic 28, 3) := by decide +kernel
theorem dX0_distance_32 : decode cX0_distance 32 = .ok (.iadd, 1) := by decide +kernel
theorem dX0_distance_33 : decode cX0_distance 33 = .ok (.ireturn, 1) := by decide +kernel
theorem dX1_init_0 : decode cX1_init 0 = .ok (.aload_n 0, 1) := by decide +kernel
theorem dX1_init_1 : decode cX1_init 1 = .ok (.invokespecial 1, 3) := by decide +kernel
theorem dX1_init_4 : decode cX1_init 4 = .ok (.return_, 1) := by decide +kernel
theorem dX1_put_0 : decode cX1_put 0 = .ok (.aload_n 0, 1) := by decide +kernel
theorem dX1_put_1 : decode cX1_put 1 = .ok (.iload_n 1, 1) := by decide +kernel
theorem dX1_put_2 : decode cX1_put 2 = .ok (.putfield 7, 3) := by decide +kernel
theorem dX1_put_5 : decode cX1_put 5 = .ok (.aload_n 0, 1) := by decide +kernel
theorem dX1_put_6 : decode cX1_put 6 = .ok (.iload_n 2, 1) := by decide +kernel
theorem dX1_put_7 : decode cX1_put 7 = .ok (.putfield 13, 3) := by decide +kernel
theorem dX1_put_10 : decode cX1_put 10 = .ok (.aload_n 0, 1) := by decide +kernel
theorem dX1_put_11 : decode cX1_put 11 = .ok (.iload_n 3, 1) := by decide +kernel
theorem dX1_put_12 : decode cX1_put 12 = .ok (.putfield 16, 3) := by decide +kernel
theorem dX1_put_15 : decode cX1_put 15 = .ok (.return_, 1) := by decide +kernel
theorem dX2_init_0 : decode cX2_init 0 = .ok (.aload_n 0, 1) := by decide +kernel
theorem dX2_init_1 : decode cX2_init 1 = .ok (.invokespecial 3, 3) := by decide +kernel
theorem dX2_init_4 : decode cX2_init 4 = .ok (.aload_n 0, 1) := by decide +kernel
theorem dX2_init_5 : decode cX2_init 5 = .ok (.iconst 4, 1) := by decide +kernel
theorem dX2_init_6 : decode cX2_init 6 = .ok (.newarray .int, 2) := by decide +kernel
theorem dX2_init_8 : decode cX2_init 8 = .ok (.putfield 9, 3) := by decide +kernel
theorem dX2_init_11 : decode cX2_init 11 = .ok (.aload_n 0, 1) := by decide +kernel
theorem dX2_init_12 : decode cX2_init 12 = .ok (.iconst 4, 1) := by decide +kernel
theorem dX2_init_13 : decode cX2_init 13 = .ok (.newarray .int, 2) := by decide +kernel
theorem dX2_init_15 : decode cX2_init 15 = .ok (.putfield 15, 3) := by decide +kernel
theorem dX2_init_18 : decode cX2_init 18 = .ok (.return_, 1) := by decide +kernel
theorem dX2_add_0 : decode cX2_add 0 = .ok (.aload_n 0, 1) := by decide +kernel
theorem dX2_add_1 : decode cX2_add 1 = .ok (.getfield 9, 3) := by decide +kernel
theorem dX2_add_4 : decode cX2_add 4 = .ok (.aload_n 0, 1) := by decide +kernel
theorem dX2_add_5 : decode cX2_add 5 = .ok (.getfield 18, 3) := by decide +kernel
theorem dX2_add_8 : decode cX2_add 8 = .ok (.iload_n 1, 1) := by decide +kernel
theorem dX2_add_9 : decode cX2_add 9 = .ok (.iastore, 1) := by decide +kernel
theorem dX2_add_10 : decode cX2_add 10 = .ok (.aload_n 0, 1) := by decide +kernel
theorem dX2_add_11 : decode cX2_add 11 = .ok (.getfield 15, 3) := by decide +kernel
theorem dX2_add_14 : decode cX2_add 14 = .ok (.aload_n 0, 1) := by decide +kernel
theorem dX2_add_15 : decode cX2_add 15 = .ok (.getfield 18, 3) := by decide +kernel
theorem dX2_add_18 : decode cX2_add 18 = .ok (.iload_n 2, 1) := by decide +kernel
theorem dX2_add_19 : decode cX2_add 19 = .ok (.iastore, 1) := by decide +kernel
theorem dX2_add_20 : decode cX2_add 20 = .ok (.aload_n 0, 1) := by decide +kernel
theorem dX2_add_21 : decode cX2_add 21 = .ok (.dup, 1) := by decide +kernel
theorem dX2_add_22 : decode cX2_add 22 = .ok (.getfield 18, 3) := by decide +kernel
theorem dX2_add_25 : decode cX2_add 25 = .ok (.iconst 1, 1) := by decide +kernel
theorem dX2_add_26 : decode cX2_add 26 = .ok (.iadd, 1) := by decide +kernel
theorem dX2_add_27 : decode cX2_add 27 = .ok (.putfield 18, 3) := by decide +kernel
theorem dX2_add_30 : decode cX2_add 30 = .ok (.aload_n 0, 1) := by decide +kernel
theorem dX2_add_31 : decode cX2_add 31 = .ok (.getfield 18, 3) := by decide +kernel
theorem dX2_add_34 : decode cX2_add 34 = .ok (.iconst 1, 1) := by decide +kernel
theorem dX2_add_35 : decode cX2_add 35 = .ok (.isub, 1) := by decide +kernel
theorem dX2_add_36 : decode cX2_add 36 = .ok (.ireturn, 1) := by decide +kernel
theorem dX2_difference_0 : decode cX2_difference 0 = .ok (.aload_n 0, 1) := by decide +kernel
theorem dX2_difference_1 : decode cX2_difference 1 = .ok (.getfield 9, 3) := by decide +kernel
theorem dX2_difference_4 : decode cX2_difference 4 = .ok (.iload_n 2, 1) := by decide +kernel
theorem dX2_difference_5 : decode cX2_difference 5 = .ok (.iaload, 1) := by decide +kernel
theorem dX2_difference_6 : decode cX2_difference 6 = .ok (.aload_n 0, 1) := by decide +kernel
theorem dX2_difference_7 : decode cX2_difference 7 = .ok (.getfield 15, 3) := by decide +kernel
theorem dX2_difference_10 : decode cX2_difference 10 = .ok (.iload_n 2, 1) := by decide +kernel
theorem dX2_difference_11 : decode cX2_difference 11 = .ok (.iaload, 1) := by decide +kernel
theorem dX2_difference_12 : decode cX2_difference 12 = .ok (.ixor, 1) := by decide +kernel
theorem dX2_difference_13 : decode cX2_difference 13 = .ok (.iconst 1, 1) := by decide +kernel
theorem dX2_difference_14 : decode cX2_difference 14 = .ok (.iand, 1) := by decide +kernel
theorem dX2_difference_15 : decode cX2_difference 15 = .ok (.istore_n 3, 1) := by decide +kernel
theorem dX2_difference_16 : decode cX2_difference 16 = .ok (.aload_n 1, 1) := by decide +kernel
theorem dX2_difference_17 : decode cX2_difference 17 = .ok (.aload_n 0, 1) := by decide +kernel
theorem dX2_difference_18 : decode cX2_difference 18 = .ok (.getfield 9, 3) := by decide +kernel
theorem dX2_difference_21 : decode cX2_difference 21 = .ok (.iload_n 2, 1) := by decide +kernel
theorem dX2_difference_22 : decode cX2_difference 22 = .ok (.iaload, 1) := by decide +kernel
theorem dX2_difference_23 : decode cX2_difference 23 = .ok (.iconst 1, 1) := by decide +kernel
theorem dX2_difference_24 : decode cX2_difference 24 = .ok (.ishr, 1) := by decide +kernel
theorem dX2_difference_25 : decode cX2_difference 25 = .ok (.iaload, 1) := by decide +kernel
theorem dX2_difference_26 : decode cX2_difference 26 = .ok (.aload_n 1, 1) := by decide +kernel
theorem dX2_difference_27 : decode cX2_difference 27 = .ok (.aload_n 0, 1) := by decide +kernel
theorem dX2_difference_28 : decode cX2_difference 28 = .ok (.getfield 15, 3) := by decide +kernel
theorem dX2_difference_31 : decode cX2_difference 31 = .ok (.iload_n 2, 1) := by decide +kernel
theorem dX2_difference_32 : decode cX2_difference 32 = .ok (.iaload, 1) := by decide +kernel
theorem dX2_difference_33 : decode cX2_difference 33 = .ok (.iconst 1, 1) := by decide +kernel
theorem dX2_difference_34 : decode cX2_difference 34 = .ok (.ishr, 1) := by decide +kernel
theorem dX2_difference_35 : decode cX2_difference 35 = .ok (.iaload, 1) := by decide +kernel
theorem dX2_difference_36 : decode cX2_difference 36 = .ok (.ixor, 1) := by decide +kernel
theorem dX2_difference_37 : decode cX2_difference 37 = .ok (.iload_n 3, 1) := by decide +kernel
theorem dX2_difference_38 : decode cX2_difference 38 = .ok (.ineg, 1) := by decide +kernel
theorem dX2_difference_39 : decode cX2_difference 39 = .ok (.ixor, 1) := by decide +kernel
theorem dX2_difference_40 : decode cX2_difference 40 = .ok (.ireturn, 1) := by decide +kernel
theorem dX2_agreement_0 : decode cX2_agreement 0 = .ok (.iconst 0, 1) := by decide +kernel
theorem dX2_agreement_1 : decode cX2_agreement 1 = .ok (.istore_n 2, 1) := by decide +kernel
theorem dX2_agreement_2 : decode cX2_agreement 2 = .ok (.iconst 0, 1) := by decide +kernel
theorem dX2_agreement_3 : decode cX2_agreement 3 = .ok (.istore_n 3, 1) := by decide +kernel
theorem dX2_agreement_4 : decode cX2_agreement 4 = .ok (.iload_n 3, 1) := by decide +kernel
theorem dX2_agreement_5 : decode cX2_agreement 5 = .ok (.aload_n 0, 1) := by decide +kernel
theorem dX2_agreement_6 : decode cX2_agreement 6 = .ok (.getfield 18, 3) := by decide +kernel
theorem dX2_agreement_9 : decode cX2_agreement 9 = .ok (.if_icmp .ge 18, 3) := by decide +kernel
theorem dX2_agreement_12 : decode cX2_agreement 12 = .ok (.iload_n 2, 1) := by decide +kernel
theorem dX2_agreement_13 : decode cX2_agreement 13 = .ok (.aload_n 0, 1) := by decide +kernel
theorem dX2_agreement_14 : decode cX2_agreement 14 = .ok (.aload_n 1, 1) := by decide +kernel
theorem dX2_agreement_15 : decode cX2_agreement 15 = .ok (.iload_n 3, 1) := by decide +kernel
theorem dX2_agreement_16 : decode cX2_agreement 16 = .ok (.invokevirtual 22, 3) := by decide +kernel
theorem dX2_agreement_19 : decode cX2_agreement 19 = .ok (.ior, 1) := by decide +kernel
theorem dX2_agreement_20 : decode cX2_agreement 20 = .ok (.istore_n 2, 1) := by decide +kernel
theorem dX2_agreement_21 : decode cX2_agreement 21 = .ok (.iinc 3 1, 3) := by decide +kernel
theorem dX2_agreement_24 : decode cX2_agreement 24 = .ok (.goto (-20), 3) := by decide +kernel
theorem dX2_agreement_27 : decode cX2_agreement 27 = .ok (.iload_n 2, 1) := by decide +kernel
theorem dX2_agreement_28 : decode cX2_agreement 28 = .ok (.iconst (-1), 1) := by decide +kernel
theorem dX2_agreement_29 : decode cX2_agreement 29 = .ok (.ixor, 1) := by decide +kernel
theorem dX2_agreement_30 : decode cX2_agreement 30 = .ok (.ireturn, 1) := by decide +kernel
theorem dX3_init_0 : decode cX3_init 0 = .ok (.aload_n 0, 1) := by decide +kernel
theorem dX3_init_1 : decode cX3_init 1 = .ok (.invokespecial 3, 3) := by decide +kernel
theorem dX3_init_4 : decode cX3_init 4 = .ok (.aload_n 0, 1) := by decide +kernel
theorem dX3_init_5 : decode cX3_init 5 = .ok (.bipush 38, 2) := by decide +kernel
theorem dX3_init_7 : decode cX3_init 7 = .ok (.newarray .int, 2) := by decide +kernel
theorem dX3_init_9 : decode cX3_init 9 = .ok (.putfield 9, 3) := by decide +kernel
theorem dX3_init_12 : decode cX3_init 12 = .ok (.aload_n 0, 1) := by decide +kernel
theorem dX3_init_13 : decode cX3_init 13 = .ok (.bipush 38, 2) := by decide +kernel
theorem dX3_init_15 : decode cX3_init 15 = .ok (.newarray .int, 2) := by decide +kernel
theorem dX3_init_17 : decode cX3_init 17 = .ok (.putfield 15, 3) := by decide +kernel
theorem dX3_init_20 : decode cX3_init 20 = .ok (.aload_n 0, 1) := by decide +kernel
theorem dX3_init_21 : decode cX3_init 21 = .ok (.bipush 38, 2) := by decide +kernel
theorem dX3_init_23 : decode cX3_init 23 = .ok (.newarray .int, 2) := by decide +kernel
theorem dX3_init_25 : decode cX3_init 25 = .ok (.putfield 18, 3) := by decide +kernel
theorem dX3_init_28 : decode cX3_init 28 = .ok (.aload_n 0, 1) := by decide +kernel
theorem dX3_init_29 : decode cX3_init 29 = .ok (.bipush 38, 2) := by decide +kernel
theorem dX3_init_31 : decode cX3_init 31 = .ok (.newarray .int, 2) := by decide +kernel
theorem dX3_init_33 : decode cX3_init 33 = .ok (.putfield 21, 3) := by decide +kernel
theorem dX3_init_36 : decode cX3_init 36 = .ok (.aload_n 0, 1) := by decide +kernel
theorem dX3_init_37 : decode cX3_init 37 = .ok (.bipush 38, 2) := by decide +kernel
theorem dX3_init_39 : decode cX3_init 39 = .ok (.newarray .boolean, 2) := by decide +kernel
theorem dX3_init_41 : decode cX3_init 41 = .ok (.putfield 24, 3) := by decide +kernel
theorem dX3_init_44 : decode cX3_init 44 = .ok (.aload_n 0, 1) := by decide +kernel
theorem dX3_init_45 : decode cX3_init 45 = .ok (.bipush 14, 2) := by decide +kernel
theorem dX3_init_47 : decode cX3_init 47 = .ok (.newarray .int, 2) := by decide +kernel
theorem dX3_init_49 : decode cX3_init 49 = .ok (.putfield 28, 3) := by decide +kernel
theorem dX3_init_52 : decode cX3_init 52 = .ok (.aload_n 0, 1) := by decide +kernel
theorem dX3_init_53 : decode cX3_init 53 = .ok (.iconst 1, 1) := by decide +kernel
theorem dX3_init_54 : decode cX3_init 54 = .ok (.putfield 31, 3) := by decide +kernel
theorem dX3_init_57 : decode cX3_init 57 = .ok (.return_, 1) := by decide +kernel
theorem dX3_reset_0 : decode cX3_reset 0 = .ok (.aload_n 0, 1) := by decide +kernel
theorem dX3_reset_1 : decode cX3_reset 1 = .ok (.iconst 1, 1) := by decide +kernel
theorem dX3_reset_2 : decode cX3_reset 2 = .ok (.putfield 31, 3) := by decide +kernel
theorem dX3_reset_5 : decode cX3_reset 5 = .ok (.aload_n 0, 1) := by decide +kernel
theorem dX3_reset_6 : decode cX3_reset 6 = .ok (.iconst 0, 1) := by decide +kernel
theorem dX3_reset_7 : decode cX3_reset 7 = .ok (.putfield 35, 3) := by decide +kernel
theorem dX3_reset_10 : decode cX3_reset 10 = .ok (.aload_n 0, 1) := by decide +kernel
theorem dX3_reset_11 : decode cX3_reset 11 = .ok (.iconst 0, 1) := by decide +kernel
theorem dX3_reset_12 : decode cX3_reset 12 = .ok (.putfield 38, 3) := by decide +kernel
theorem dX3_reset_15 : decode cX3_reset 15 = .ok (.aload_n 0, 1) := by decide +kernel
theorem dX3_reset_16 : decode cX3_reset 16 = .ok (.iconst 0, 1) := by decide +kernel
theorem dX3_reset_17 : decode cX3_reset 17 = .ok (.putfield 41, 3) := by decide +kernel
theorem dX3_reset_20 : decode cX3_reset 20 = .ok (.return_, 1) := by decide +kernel
theorem dX3_hasLiteral_0 : decode cX3_hasLiteral 0 = .ok (.iload_n 1, 1) := by decide +kernel
theorem dX3_hasLiteral_1 : decode cX3_hasLiteral 1 = .ok (.ifCond .lt 17, 3) := by decide +kernel
theorem dX3_hasLiteral_4 : decode cX3_hasLiteral 4 = .ok (.iload_n 1, 1) := by decide +kernel
theorem dX3_hasLiteral_5 : decode cX3_hasLiteral 5 = .ok (.iconst 2, 1) := by decide +kernel
theorem dX3_hasLiteral_6 : decode cX3_hasLiteral 6 = .ok (.aload_n 0, 1) := by decide +kernel
theorem dX3_hasLiteral_7 : decode cX3_hasLiteral 7 = .ok (.getfield 31, 3) := by decide +kernel
theorem dX3_hasLiteral_10 : decode cX3_hasLiteral 10 = .ok (.imul, 1) := by decide +kernel
theorem dX3_hasLiteral_11 : decode cX3_hasLiteral 11 = .ok (.if_icmp .ge 7, 3) := by decide +kernel
theorem dX3_hasLiteral_14 : decode cX3_hasLiteral 14 = .ok (.iconst 1, 1) := by decide +kernel
theorem dX3_hasLiteral_15 : decode cX3_hasLiteral 15 = .ok (.goto 4, 3) := by decide +kernel
theorem dX3_hasLiteral_18 : decode cX3_hasLiteral 18 = .ok (.iconst 0, 1) := by decide +kernel
theorem dX3_hasLiteral_19 : decode cX3_hasLiteral 19 = .ok (.ireturn, 1) := by decide +kernel
theorem dX3_isOf_0 : decode cX3_isOf 0 = .ok (.aload_n 0, 1) := by decide +kernel
theorem dX3_isOf_1 : decode cX3_isOf 1 = .ok (.getfield 9, 3) := by decide +kernel
theorem dX3_isOf_4 : decode cX3_isOf 4 = .ok (.iload_n 2, 1) := by decide +kernel
theorem dX3_isOf_5 : decode cX3_isOf 5 = .ok (.iconst 1, 1) := by decide +kernel
theorem dX3_isOf_6 : decode cX3_isOf 6 = .ok (.ishr, 1) := by decide +kernel
theorem dX3_isOf_7 : decode cX3_isOf 7 = .ok (.iaload, 1) := by decide +kernel
theorem dX3_isOf_8 : decode cX3_isOf 8 = .ok (.iload_n 1, 1) := by decide +kernel
theorem dX3_isOf_9 : decode cX3_isOf 9 = .ok (.if_icmp .ne 7, 3) := by decide +kernel
theorem dX3_isOf_12 : decode cX3_isOf 12 = .ok (.iconst 1, 1) := by decide +kernel
theorem dX3_isOf_13 : decode cX3_isOf 13 = .ok (.goto 4, 3) := by decide +kernel
theorem dX3_isOf_16 : decode cX3_isOf 16 = .ok (.iconst 0, 1) := by decide +kernel
theorem dX3_isOf_17 : decode cX3_isOf 17 = .ok (.ireturn, 1) := by decide +kernel
theorem dX3_isOldNode_0 : decode cX3_isOldNode 0 = .ok (.iload_n 1, 1) := by decide +kernel
theorem dX3_isOldNode_1 : decode cX3_isOldNode 1 = .ok (.ifCond .lt 25, 3) := by decide +kernel
theorem dX3_isOldNode_4 : decode cX3_isOldNode 4 = .ok (.iload_n 1, 1) := by decide +kernel
theorem dX3_isOldNode_5 : decode cX3_isOldNode 5 = .ok (.aload_n 0, 1) := by decide +kernel
theorem dX3_isOldNode_6 : decode cX3_isOldNode 6 = .ok (.getfield 31, 3) := by decide +kernel
theorem dX3_isOldNode_9 : decode cX3_isOldNode 9 = .ok (.if_icmp .ge 17, 3) := by decide +kernel
theorem dX3_isOldNode_12 : decode cX3_isOldNode 12 = .ok (.aload_n 0, 1) := by decide +kernel
theorem dX3_isOldNode_13 : decode cX3_isOldNode 13 = .ok (.getfield 9, 3) := by decide +kernel
theorem dX3_isOldNode_16 : decode cX3_isOldNode 16 = .ok (.iload_n 1, 1) := by decide +kernel
theorem dX3_isOldNode_17 : decode cX3_isOldNode 17 = .ok (.iaload, 1) := by decide +kernel
theorem dX3_isOldNode_18 : decode cX3_isOldNode 18 = .ok (.iconst 1, 1) := by decide +kernel
theorem dX3_isOldNode_19 : decode cX3_isOldNode 19 = .ok (.if_icmp .ne 7, 3) := by decide +kernel
theorem dX3_isOldNode_22 : decode cX3_isOldNode 22 = .ok (.iconst 1, 1) := by decide +kernel
theorem dX3_isOldNode_23 : decode cX3_isOldNode 23 = .ok (.goto 4, 3) := by decide +kernel
theorem dX3_isOldNode_26 : decode cX3_isOldNode 26 = .ok (.iconst 0, 1) := by decide +kernel
theorem dX3_isOldNode_27 : decode cX3_isOldNode 27 = .ok (.ireturn, 1) := by decide +kernel
theorem dX3_firstOld_0 : decode cX3_firstOld 0 = .ok (.iconst 1, 1) := by decide +kernel
theorem dX3_firstOld_1 : decode cX3_firstOld 1 = .ok (.aload_n 0, 1) := by decide +kernel
theorem dX3_firstOld_2 : decode cX3_firstOld 2 = .ok (.getfield 35, 3) := by decide +kernel
theorem dX3_firstOld_5 : decode cX3_firstOld 5 = .ok (.iadd, 1) := by decide +kernel
theorem dX3_firstOld_6 : decode cX3_firstOld 6 = .ok (.ireturn, 1) := by decide +kernel
theorem dX3_owned_0 : decode cX3_owned 0 = .ok (.iconst 1, 1) := by decide +kernel
theorem dX3_owned_1 : decode cX3_owned 1 = .ok (.aload_n 0, 1) := by decide +kernel
theorem dX3_owned_2 : decode cX3_owned 2 = .ok (.getfield 35, 3) := by decide +kernel
theorem dX3_owned_5 : decode cX3_owned 5 = .ok (.iadd, 1) := by decide +kernel
theorem dX3_owned_6 : decode cX3_owned 6 = .ok (.aload_n 0, 1) := by decide +kernel
theorem dX3_owned_7 : decode cX3_owned 7 = .ok (.getfield 38, 3) := by decide +kernel
theorem dX3_owned_10 : decode cX3_owned 10 = .ok (.iadd, 1) := by decide +kernel
theorem dX3_owned_11 : decode cX3_owned 11 = .ok (.ireturn, 1) := by decide +kernel
theorem dX3_ownLiteral_0 : decode cX3_ownLiteral 0 = .ok (.iconst 2, 1) := by decide +kernel
theorem dX3_ownLiteral_1 : decode cX3_ownLiteral 1 = .ok (.aload_n 0, 1) := by decide +kernel
theorem dX3_ownLiteral_2 : decode cX3_ownLiteral 2 = .ok (.getfield 28, 3) := by decide +kernel
theorem dX3_ownLiteral_5 : decode cX3_ownLiteral 5 = .ok (.iload_n 1, 1) := by decide +kernel
theorem dX3_ownLiteral_6 : decode cX3_ownLiteral 6 = .ok (.iconst 1, 1) := by decide +kernel
theorem dX3_ownLiteral_7 : decode cX3_ownLiteral 7 = .ok (.ishr, 1) := by decide +kernel
theorem dX3_ownLiteral_8 : decode cX3_ownLiteral 8 = .ok (.iaload, 1) := by decide +kernel
theorem dX3_ownLiteral_9 : decode cX3_ownLiteral 9 = .ok (.imul, 1) := by decide +kernel
theorem dX3_ownLiteral_10 : decode cX3_ownLiteral 10 = .ok (.iload_n 1, 1) := by decide +kernel
theorem dX3_ownLiteral_11 : decode cX3_ownLiteral 11 = .ok (.iconst 1, 1) := by decide +kernel
theorem dX3_ownLiteral_12 : decode cX3_ownLiteral 12 = .ok (.iand, 1) := by decide +kernel
theorem dX3_ownLiteral_13 : decode cX3_ownLiteral 13 = .ok (.iadd, 1) := by decide +kernel
theorem dX3_ownLiteral_14 : decode cX3_ownLiteral 14 = .ok (.ireturn, 1) := by decide +kernel
theorem dX3_addInput_0 : decode cX3_addInput 0 = .ok (.aload_n 0, 1) := by decide +kernel
theorem dX3_addInput_1 : decode cX3_addInput 1 = .ok (.getfield 31, 3) := by decide +kernel
theorem dX3_addInput_4 : decode cX3_addInput 4 = .ok (.istore_n 1, 1) := by decide +kernel
theorem dX3_addInput_5 : decode cX3_addInput 5 = .ok (.aload_n 0, 1) := by decide +kernel
theorem dX3_addInput_6 : decode cX3_addInput 6 = .ok (.getfield 28, 3) := by decide +kernel
theorem dX3_addInput_9 : decode cX3_addInput 9 = .ok (.aload_n 0, 1) := by decide +kernel
theorem dX3_addInput_10 : decode cX3_addInput 10 = .ok (.invokevirtual 44, 3) := by decide +kernel
theorem dX3_addInput_13 : decode cX3_addInput 13 = .ok (.iload_n 1, 1) := by decide +kernel
theorem dX3_addInput_14 : decode cX3_addInput 14 = .ok (.iastore, 1) := by decide +kernel
theorem dX3_addInput_15 : decode cX3_addInput 15 = .ok (.aload_n 0, 1) := by decide +kernel
theorem dX3_addInput_16 : decode cX3_addInput 16 = .ok (.getfield 9, 3) := by decide +kernel
theorem dX3_addInput_19 : decode cX3_addInput 19 = .ok (.iload_n 1, 1) := by decide +kernel
theorem dX3_addInput_20 : decode cX3_addInput 20 = .ok (.iconst 0, 1) := by decide +kernel
theorem dX3_addInput_21 : decode cX3_addInput 21 = .ok (.iastore, 1) := by decide +kernel
theorem dX3_addInput_22 : decode cX3_addInput 22 = .ok (.aload_n 0, 1) := by decide +kernel
theorem dX3_addInput_23 : decode cX3_addInput 23 = .ok (.getfield 21, 3) := by decide +kernel
theorem dX3_addInput_26 : decode cX3_addInput 26 = .ok (.iload_n 1, 1) := by decide +kernel
theorem dX3_addInput_27 : decode cX3_addInput 27 = .ok (.getstatic 48, 3) := by decide +kernel
theorem dX3_addInput_30 : decode cX3_addInput 30 = .ok (.aload_n 0, 1) := by decide +kernel
theorem dX3_addInput_31 : decode cX3_addInput 31 = .ok (.getfield 35, 3) := by decide +kernel
theorem dX3_addInput_34 : decode cX3_addInput 34 = .ok (.iaload, 1) := by decide +kernel
theorem dX3_addInput_35 : decode cX3_addInput 35 = .ok (.iastore, 1) := by decide +kernel
theorem dX3_addInput_36 : decode cX3_addInput 36 = .ok (.aload_n 0, 1) := by decide +kernel
theorem dX3_addInput_37 : decode cX3_addInput 37 = .ok (.dup, 1) := by decide +kernel
theorem dX3_addInput_38 : decode cX3_addInput 38 = .ok (.getfield 35, 3) := by decide +kernel
theorem dX3_addInput_41 : decode cX3_addInput 41 = .ok (.iconst 1, 1) := by decide +kernel
theorem dX3_addInput_42 : decode cX3_addInput 42 = .ok (.iadd, 1) := by decide +kernel
theorem dX3_addInput_43 : decode cX3_addInput 43 = .ok (.putfield 35, 3) := by decide +kernel
theorem dX3_addInput_46 : decode cX3_addInput 46 = .ok (.aload_n 0, 1) := by decide +kernel
theorem dX3_addInput_47 : decode cX3_addInput 47 = .ok (.dup, 1) := by decide +kernel
theorem dX3_addInput_48 : decode cX3_addInput 48 = .ok (.getfield 31, 3) := by decide +kernel
theorem dX3_addInput_51 : decode cX3_addInput 51 = .ok (.iconst 1, 1) := by decide +kernel
theorem dX3_addInput_52 : decode cX3_addInput 52 = .ok (.iadd, 1) := by decide +kernel
theorem dX3_addInput_53 : decode cX3_addInput 53 = .ok (.putfield 31, 3) := by decide +kernel
theorem dX3_addInput_56 : decode cX3_addInput 56 = .ok (.iconst 2, 1) := by decide +kernel
theorem dX3_addInput_57 : decode cX3_addInput 57 = .ok (.iload_n 1, 1) := by decide +kernel
theorem dX3_addInput_58 : decode cX3_addInput 58 = .ok (.imul, 1) := by decide +kernel
theorem dX3_addInput_59 : decode cX3_addInput 59 = .ok (.ireturn, 1) := by decide +kernel
theorem dX3_addOld_0 : decode cX3_addOld 0 = .ok (.aload_n 0, 1) := by decide +kernel
theorem dX3_addOld_1 : decode cX3_addOld 1 = .ok (.getfield 28, 3) := by decide +kernel
theorem dX3_addOld_4 : decode cX3_addOld 4 = .ok (.aload_n 0, 1) := by decide +kernel
theorem dX3_addOld_5 : decode cX3_addOld 5 = .ok (.invokevirtual 44, 3) := by decide +kernel
theorem dX3_addOld_8 : decode cX3_addOld 8 = .ok (.aload_n 0, 1) := by decide +kernel
theorem dX3_addOld_9 : decode cX3_addOld 9 = .ok (.getfield 31, 3) := by decide +kernel
theorem dX3_addOld_12 : decode cX3_addOld 12 = .ok (.iastore, 1) := by decide +kernel
theorem dX3_addOld_13 : decode cX3_addOld 13 = .ok (.aload_n 0, 1) := by decide +kernel
theorem dX3_addOld_14 : decode cX3_addOld 14 = .ok (.getfield 24, 3) := by decide +kernel
theorem dX3_addOld_17 : decode cX3_addOld 17 = .ok (.aload_n 0, 1) := by decide +kernel
theorem dX3_addOld_18 : decode cX3_addOld 18 = .ok (.getfield 31, 3) := by decide +kernel
theorem dX3_addOld_21 : decode cX3_addOld 21 = .ok (.iconst 0, 1) := by decide +kernel
theorem dX3_addOld_22 : decode cX3_addOld 22 = .ok (.bastore, 1) := by decide +kernel
theorem dX3_addOld_23 : decode cX3_addOld 23 = .ok (.aload_n 0, 1) := by decide +kernel
theorem dX3_addOld_24 : decode cX3_addOld 24 = .ok (.dup, 1) := by decide +kernel
theorem dX3_addOld_25 : decode cX3_addOld 25 = .ok (.getfield 38, 3) := by decide +kernel
theorem dX3_addOld_28 : decode cX3_addOld 28 = .ok (.iconst 1, 1) := by decide +kernel
theorem dX3_addOld_29 : decode cX3_addOld 29 = .ok (.iadd, 1) := by decide +kernel
theorem dX3_addOld_30 : decode cX3_addOld 30 = .ok (.putfield 38, 3) := by decide +kernel
theorem dX3_addOld_33 : decode cX3_addOld 33 = .ok (.aload_n 0, 1) := by decide +kernel
theorem dX3_addOld_34 : decode cX3_addOld 34 = .ok (.iconst 1, 1) := by decide +kernel
theorem dX3_addOld_35 : decode cX3_addOld 35 = .ok (.iload_n 1, 1) := by decide +kernel
theorem dX3_addOld_36 : decode cX3_addOld 36 = .ok (.iload_n 2, 1) := by decide +kernel
theorem dX3_addOld_37 : decode cX3_addOld 37 = .ok (.invokevirtual 51, 3) := by decide +kernel
theorem dX3_addOld_40 : decode cX3_addOld 40 = .ok (.ireturn, 1) := by decide +kernel
theorem dX3_addAsked_0 : decode cX3_addAsked 0 = .ok (.aload_n 0, 1) := by decide +kernel
theorem dX3_addAsked_1 : decode cX3_addAsked 1 = .ok (.dup, 1) := by decide +kernel
theorem dX3_addAsked_2 : decode cX3_addAsked 2 = .ok (.getfield 41, 3) := by decide +kernel
theorem dX3_addAsked_5 : decode cX3_addAsked 5 = .ok (.iconst 1, 1) := by decide +kernel
theorem dX3_addAsked_6 : decode cX3_addAsked 6 = .ok (.iadd, 1) := by decide +kernel
theorem dX3_addAsked_7 : decode cX3_addAsked 7 = .ok (.putfield 41, 3) := by decide +kernel
theorem dX3_addAsked_10 : decode cX3_addAsked 10 = .ok (.aload_n 0, 1) := by decide +kernel
theorem dX3_addAsked_11 : decode cX3_addAsked 11 = .ok (.iconst 2, 1) := by decide +kernel
theorem dX3_addAsked_12 : decode cX3_addAsked 12 = .ok (.iload_n 1, 1) := by decide +kernel
theorem dX3_addAsked_13 : decode cX3_addAsked 13 = .ok (.iload_n 2, 1) := by decide +kernel
theorem dX3_addAsked_14 : decode cX3_addAsked 14 = .ok (.invokevirtual 51, 3) := by decide +kernel
theorem dX3_addAsked_17 : decode cX3_addAsked 17 = .ok (.ireturn, 1) := by decide +kernel
theorem dX3_addAnd_0 : decode cX3_addAnd 0 = .ok (.aload_n 0, 1) := by decide +kernel
theorem dX3_addAnd_1 : decode cX3_addAnd 1 = .ok (.getfield 31, 3) := by decide +kernel
theorem dX3_addAnd_4 : decode cX3_addAnd 4 = .ok (.istore 4, 2) := by decide +kernel
theorem dX3_addAnd_6 : decode cX3_addAnd 6 = .ok (.aload_n 0, 1) := by decide +kernel
theorem dX3_addAnd_7 : decode cX3_addAnd 7 = .ok (.getfield 9, 3) := by decide +kernel
theorem dX3_addAnd_10 : decode cX3_addAnd 10 = .ok (.iload 4, 2) := by decide +kernel
theorem dX3_addAnd_12 : decode cX3_addAnd 12 = .ok (.iload_n 1, 1) := by decide +kernel
theorem dX3_addAnd_13 : decode cX3_addAnd 13 = .ok (.iastore, 1) := by decide +kernel
theorem dX3_addAnd_14 : decode cX3_addAnd 14 = .ok (.aload_n 0, 1) := by decide +kernel
theorem dX3_addAnd_15 : decode cX3_addAnd 15 = .ok (.getfield 15, 3) := by decide +kernel
theorem dX3_addAnd_18 : decode cX3_addAnd 18 = .ok (.iload 4, 2) := by decide +kernel
theorem dX3_addAnd_20 : decode cX3_addAnd 20 = .ok (.iload_n 2, 1) := by decide +kernel
theorem dX3_addAnd_21 : decode cX3_addAnd 21 = .ok (.iastore, 1) := by decide +kernel
theorem dX3_addAnd_22 : decode cX3_addAnd 22 = .ok (.aload_n 0, 1) := by decide +kernel
theorem dX3_addAnd_23 : decode cX3_addAnd 23 = .ok (.getfield 18, 3) := by decide +kernel
theorem dX3_addAnd_26 : decode cX3_addAnd 26 = .ok (.iload 4, 2) := by decide +kernel
theorem dX3_addAnd_28 : decode cX3_addAnd 28 = .ok (.iload_n 3, 1) := by decide +kernel
theorem dX3_addAnd_29 : decode cX3_addAnd 29 = .ok (.iastore, 1) := by decide +kernel
theorem dX3_addAnd_30 : decode cX3_addAnd 30 = .ok (.aload_n 0, 1) := by decide +kernel
theorem dX3_addAnd_31 : decode cX3_addAnd 31 = .ok (.getfield 21, 3) := by decide +kernel
theorem dX3_addAnd_34 : decode cX3_addAnd 34 = .ok (.iload 4, 2) := by decide +kernel
theorem dX3_addAnd_36 : decode cX3_addAnd 36 = .ok (.aload_n 0, 1) := by decide +kernel
theorem dX3_addAnd_37 : decode cX3_addAnd 37 = .ok (.getfield 21, 3) := by decide +kernel
theorem dX3_addAnd_40 : decode cX3_addAnd 40 = .ok (.iload_n 2, 1) := by decide +kernel
theorem dX3_addAnd_41 : decode cX3_addAnd 41 = .ok (.invokestatic 55, 3) := by decide +kernel
theorem dX3_addAnd_44 : decode cX3_addAnd 44 = .ok (.aload_n 0, 1) := by decide +kernel
theorem dX3_addAnd_45 : decode cX3_addAnd 45 = .ok (.getfield 21, 3) := by decide +kernel
theorem dX3_addAnd_48 : decode cX3_addAnd 48 = .ok (.iload_n 3, 1) := by decide +kernel
theorem dX3_addAnd_49 : decode cX3_addAnd 49 = .ok (.invokestatic 55, 3) := by decide +kernel
theorem dX3_addAnd_52 : decode cX3_addAnd 52 = .ok (.iand, 1) := by decide +kernel
theorem dX3_addAnd_53 : decode cX3_addAnd 53 = .ok (.iastore, 1) := by decide +kernel
theorem dX3_addAnd_54 : decode cX3_addAnd 54 = .ok (.aload_n 0, 1) := by decide +kernel
theorem dX3_addAnd_55 : decode cX3_addAnd 55 = .ok (.dup, 1) := by decide +kernel
theorem dX3_addAnd_56 : decode cX3_addAnd 56 = .ok (.getfield 31, 3) := by decide +kernel
theorem dX3_addAnd_59 : decode cX3_addAnd 59 = .ok (.iconst 1, 1) := by decide +kernel
theorem dX3_addAnd_60 : decode cX3_addAnd 60 = .ok (.iadd, 1) := by decide +kernel
theorem dX3_addAnd_61 : decode cX3_addAnd 61 = .ok (.putfield 31, 3) := by decide +kernel
theorem dX3_addAnd_64 : decode cX3_addAnd 64 = .ok (.iconst 2, 1) := by decide +kernel
theorem dX3_addAnd_65 : decode cX3_addAnd 65 = .ok (.iload 4, 2) := by decide +kernel
theorem dX3_addAnd_67 : decode cX3_addAnd 67 = .ok (.imul, 1) := by decide +kernel
theorem dX3_addAnd_68 : decode cX3_addAnd 68 = .ok (.ireturn, 1) := by decide +kernel
theorem dX3_rewire_0 : decode cX3_rewire 0 = .ok (.aload_n 0, 1) := by decide +kernel
theorem dX3_rewire_1 : decode cX3_rewire 1 = .ok (.getfield 15, 3) := by decide +kernel
theorem dX3_rewire_4 : decode cX3_rewire 4 = .ok (.aload_n 1, 1) := by decide +kernel
theorem dX3_rewire_5 : decode cX3_rewire 5 = .ok (.getfield 59, 3) := by decide +kernel
theorem dX3_rewire_8 : decode cX3_rewire 8 = .ok (.aload_n 1, 1) := by decide +kernel
theorem dX3_rewire_9 : decode cX3_rewire 9 = .ok (.getfield 64, 3) := by decide +kernel
theorem dX3_rewire_12 : decode cX3_rewire 12 = .ok (.iastore, 1) := by decide +kernel
theorem dX3_rewire_13 : decode cX3_rewire 13 = .ok (.aload_n 0, 1) := by decide +kernel
theorem dX3_rewire_14 : decode cX3_rewire 14 = .ok (.getfield 18, 3) := by decide +kernel
theorem dX3_rewire_17 : decode cX3_rewire 17 = .ok (.aload_n 1, 1) := by decide +kernel
theorem dX3_rewire_18 : decode cX3_rewire 18 = .ok (.getfield 59, 3) := by decide +kernel
theorem dX3_rewire_21 : decode cX3_rewire 21 = .ok (.aload_n 1, 1) := by decide +kernel
theorem dX3_rewire_22 : decode cX3_rewire 22 = .ok (.getfield 66, 3) := by decide +kernel
theorem dX3_rewire_25 : decode cX3_rewire 25 = .ok (.iastore, 1) := by decide +kernel
theorem dX3_rewire_26 : decode cX3_rewire 26 = .ok (.return_, 1) := by decide +kernel
theorem dX3_refreshOldColumns_0 : decode cX3_refreshOldColumns 0 = .ok (.aload_n 0, 1) := by decide +kernel
theorem dX3_refreshOldColumns_1 : decode cX3_refreshOldColumns 1 = .ok (.invokevirtual 68, 3) := by decide +kernel
theorem dX3_refreshOldColumns_4 : decode cX3_refreshOldColumns 4 = .ok (.istore_n 1, 1) := by decide +kernel
theorem dX3_refreshOldColumns_5 : decode cX3_refreshOldColumns 5 = .ok (.iload_n 1, 1) := by decide +kernel
theorem dX3_refreshOldColumns_6 : decode cX3_refreshOldColumns 6 = .ok (.aload_n 0, 1) := by decide +kernel
theorem dX3_refreshOldColumns_7 : decode cX3_refreshOldColumns 7 = .ok (.invokevirtual 44, 3) := by decide +kernel
theorem dX3_refreshOldColumns_10 : decode cX3_refreshOldColumns 10 = .ok (.if_icmp .ge 49, 3) := by decide +kernel
theorem dX3_refreshOldColumns_13 : decode cX3_refreshOldColumns 13 = .ok (.aload_n 0, 1) := by decide +kernel
theorem dX3_refreshOldColumns_14 : decode cX3_refreshOldColumns 14 = .ok (.getfield 28, 3) := by decide +kernel
theorem dX3_refreshOldColumns_17 : decode cX3_refreshOldColumns 17 = .ok (.iload_n 1, 1) := by decide +kernel
theorem dX3_refreshOldColumns_18 : decode cX3_refreshOldColumns 18 = .ok (.iaload, 1) := by decide +kernel
theorem dX3_refreshOldColumns_19 : decode cX3_refreshOldColumns 19 = .ok (.istore_n 2, 1) := by decide +kernel
theorem dX3_refreshOldColumns_20 : decode cX3_refreshOldColumns 20 = .ok (.aload_n 0, 1) := by decide +kernel
theorem dX3_refreshOldColumns_21 : decode cX3_refreshOldColumns 21 = .ok (.getfield 21, 3) := by decide +kernel
theorem dX3_refreshOldColumns_24 : decode cX3_refreshOldColumns 24 = .ok (.iload_n 2, 1) := by decide +kernel
theorem dX3_refreshOldColumns_25 : decode cX3_refreshOldColumns 25 = .ok (.aload_n 0, 1) := by decide +kernel
theorem dX3_refreshOldColumns_26 : decode cX3_refreshOldColumns 26 = .ok (.getfield 21, 3) := by decide +kernel
theorem dX3_refreshOldColumns_29 : decode cX3_refreshOldColumns 29 = .ok (.aload_n 0, 1) := by decide +kernel
theorem dX3_refreshOldColumns_30 : decode cX3_refreshOldColumns 30 = .ok (.getfield 15, 3) := by decide +kernel
theorem dX3_refreshOldColumns_33 : decode cX3_refreshOldColumns 33 = .ok (.iload_n 2, 1) := by decide +kernel
theorem dX3_refreshOldColumns_34 : decode cX3_refreshOldColumns 34 = .ok (.iaload, 1) := by decide +kernel
theorem dX3_refreshOldColumns_35 : decode cX3_refreshOldColumns 35 = .ok (.invokestatic 55, 3) := by decide +kernel
theorem dX3_refreshOldColumns_38 : decode cX3_refreshOldColumns 38 = .ok (.aload_n 0, 1) := by decide +kernel
theorem dX3_refreshOldColumns_39 : decode cX3_refreshOldColumns 39 = .ok (.getfield 21, 3) := by decide +kernel
theorem dX3_refreshOldColumns_42 : decode cX3_refreshOldColumns 42 = .ok (.aload_n 0, 1) := by decide +kernel
theorem dX3_refreshOldColumns_43 : decode cX3_refreshOldColumns 43 = .ok (.getfield 18, 3) := by decide +kernel
theorem dX3_refreshOldColumns_46 : decode cX3_refreshOldColumns 46 = .ok (.iload_n 2, 1) := by decide +kernel
theorem dX3_refreshOldColumns_47 : decode cX3_refreshOldColumns 47 = .ok (.iaload, 1) := by decide +kernel
theorem dX3_refreshOldColumns_48 : decode cX3_refreshOldColumns 48 = .ok (.invokestatic 55, 3) := by decide +kernel
theorem dX3_refreshOldColumns_51 : decode cX3_refreshOldColumns 51 = .ok (.iand, 1) := by decide +kernel
theorem dX3_refreshOldColumns_52 : decode cX3_refreshOldColumns 52 = .ok (.iastore, 1) := by decide +kernel
theorem dX3_refreshOldColumns_53 : decode cX3_refreshOldColumns 53 = .ok (.iinc 1 1, 3) := by decide +kernel
theorem dX3_refreshOldColumns_56 : decode cX3_refreshOldColumns 56 = .ok (.goto (-51), 3) := by decide +kernel
theorem dX3_refreshOldColumns_59 : decode cX3_refreshOldColumns 59 = .ok (.return_, 1) := by decide +kernel
theorem dX3_keptNodes_0 : decode cX3_keptNodes 0 = .ok (.iconst 0, 1) := by decide +kernel
theorem dX3_keptNodes_1 : decode cX3_keptNodes 1 = .ok (.istore_n 1, 1) := by decide +kernel
theorem dX3_keptNodes_2 : decode cX3_keptNodes 2 = .ok (.aload_n 0, 1) := by decide +kernel
theorem dX3_keptNodes_3 : decode cX3_keptNodes 3 = .ok (.invokevirtual 68, 3) := by decide +kernel
theorem dX3_keptNodes_6 : decode cX3_keptNodes 6 = .ok (.istore_n 2, 1) := by decide +kernel
theorem dX3_keptNodes_7 : decode cX3_keptNodes 7 = .ok (.iload_n 2, 1) := by decide +kernel
theorem dX3_keptNodes_8 : decode cX3_keptNodes 8 = .ok (.aload_n 0, 1) := by decide +kernel
theorem dX3_keptNodes_9 : decode cX3_keptNodes 9 = .ok (.invokevirtual 44, 3) := by decide +kernel
theorem dX3_keptNodes_12 : decode cX3_keptNodes 12 = .ok (.if_icmp .ge 26, 3) := by decide +kernel
theorem dX3_keptNodes_15 : decode cX3_keptNodes 15 = .ok (.aload_n 0, 1) := by decide +kernel
theorem dX3_keptNodes_16 : decode cX3_keptNodes 16 = .ok (.getfield 24, 3) := by decide +kernel
theorem dX3_keptNodes_19 : decode cX3_keptNodes 19 = .ok (.aload_n 0, 1) := by decide +kernel
theorem dX3_keptNodes_20 : decode cX3_keptNodes 20 = .ok (.getfield 28, 3) := by decide +kernel
theorem dX3_keptNodes_23 : decode cX3_keptNodes 23 = .ok (.iload_n 2, 1) := by decide +kernel
theorem dX3_keptNodes_24 : decode cX3_keptNodes 24 = .ok (.iaload, 1) := by decide +kernel
theorem dX3_keptNodes_25 : decode cX3_keptNodes 25 = .ok (.baload, 1) := by decide +kernel
theorem dX3_keptNodes_26 : decode cX3_keptNodes 26 = .ok (.ifCond .eq 6, 3) := by decide +kernel
theorem dX3_keptNodes_29 : decode cX3_keptNodes 29 = .ok (.iinc 1 1, 3) := by decide +kernel
theorem dX3_keptNodes_32 : decode cX3_keptNodes 32 = .ok (.iinc 2 1, 3) := by decide +kernel
theorem dX3_keptNodes_35 : decode cX3_keptNodes 35 = .ok (.goto (-28), 3) := by decide +kernel
theorem dX3_keptNodes_38 : decode cX3_keptNodes 38 = .ok (.iload_n 1, 1) := by decide +kernel
theorem dX3_keptNodes_39 : decode cX3_keptNodes 39 = .ok (.ireturn, 1) := by decide +kernel
theorem dX3_leastOwnLiteralOf_0 : decode cX3_leastOwnLiteralOf 0 = .ok (.iconst 0, 1) := by decide +kernel
theorem dX3_leastOwnLiteralOf_1 : decode cX3_leastOwnLiteralOf 1 = .ok (.istore_n 2, 1) := by decide +kernel
theorem dX3_leastOwnLiteralOf_2 : decode cX3_leastOwnLiteralOf 2 = .ok (.iload_n 2, 1) := by decide +kernel
theorem dX3_leastOwnLiteralOf_3 : decode cX3_leastOwnLiteralOf 3 = .ok (.iconst 2, 1) := by decide +kernel
theorem dX3_leastOwnLiteralOf_4 : decode cX3_leastOwnLiteralOf 4 = .ok (.aload_n 0, 1) := by decide +kernel
theorem dX3_leastOwnLiteralOf_5 : decode cX3_leastOwnLiteralOf 5 = .ok (.invokevirtual 44, 3) := by decide +kernel
theorem dX3_leastOwnLiteralOf_8 : decode cX3_leastOwnLiteralOf 8 = .ok (.imul, 1) := by decide +kernel
theorem dX3_leastOwnLiteralOf_9 : decode cX3_leastOwnLiteralOf 9 = .ok (.if_icmp .ge 31, 3) := by decide +kernel
theorem dX3_leastOwnLiteralOf_12 : decode cX3_leastOwnLiteralOf 12 = .ok (.aload_n 0, 1) := by decide +kernel
theorem dX3_leastOwnLiteralOf_13 : decode cX3_leastOwnLiteralOf 13 = .ok (.getfield 21, 3) := by decide +kernel
theorem dX3_leastOwnLiteralOf_16 : decode cX3_leastOwnLiteralOf 16 = .ok (.aload_n 0, 1) := by decide +kernel
theorem dX3_leastOwnLiteralOf_17 : decode cX3_leastOwnLiteralOf 17 = .ok (.iload_n 2, 1) := by decide +kernel
theorem dX3_leastOwnLiteralOf_18 : decode cX3_leastOwnLiteralOf 18 = .ok (.invokevirtual 71, 3) := by decide +kernel
theorem dX3_leastOwnLiteralOf_21 : decode cX3_leastOwnLiteralOf 21 = .ok (.invokestatic 55, 3) := by decide +kernel
theorem dX3_leastOwnLiteralOf_24 : decode cX3_leastOwnLiteralOf 24 = .ok (.iload_n 1, 1) := by decide +kernel
theorem dX3_leastOwnLiteralOf_25 : decode cX3_leastOwnLiteralOf 25 = .ok (.if_icmp .ne 9, 3) := by decide +kernel
theorem dX3_leastOwnLiteralOf_28 : decode cX3_leastOwnLiteralOf 28 = .ok (.aload_n 0, 1) := by decide +kernel
theorem dX3_leastOwnLiteralOf_29 : decode cX3_leastOwnLiteralOf 29 = .ok (.iload_n 2, 1) := by decide +kernel
theorem dX3_leastOwnLiteralOf_30 : decode cX3_leastOwnLiteralOf 30 = .ok (.invokevirtual 71, 3) := by decide +kernel
theorem dX3_leastOwnLiteralOf_33 : decode cX3_leastOwnLiteralOf 33 = .ok (.ireturn, 1) := by decide +kernel
theorem dX3_leastOwnLiteralOf_34 : decode cX3_leastOwnLiteralOf 34 = .ok (.iinc 2 1, 3) := by decide +kernel
theorem dX3_leastOwnLiteralOf_37 : decode cX3_leastOwnLiteralOf 37 = .ok (.goto (-35), 3) := by decide +kernel
theorem dX3_leastOwnLiteralOf_40 : decode cX3_leastOwnLiteralOf 40 = .ok (.iconst (-1), 1) := by decide +kernel
theorem dX3_leastOwnLiteralOf_41 : decode cX3_leastOwnLiteralOf 41 = .ok (.ireturn, 1) := by decide +kernel
theorem dX4_init_0 : decode cX4_init 0 = .ok (.aload_n 0, 1) := by decide +kernel
theorem dX4_init_1 : decode cX4_init 1 = .ok (.invokespecial 3, 3) := by decide +kernel
theorem dX4_init_4 : decode cX4_init 4 = .ok (.aload_n 0, 1) := by decide +kernel
theorem dX4_init_5 : decode cX4_init 5 = .ok (.bipush 40, 2) := by decide +kernel
theorem dX4_init_7 : decode cX4_init 7 = .ok (.anewarray 9, 3) := by decide +kernel
theorem dX4_init_10 : decode cX4_init 10 = .ok (.putfield 11, 3) := by decide +kernel
theorem dX4_init_13 : decode cX4_init 13 = .ok (.iconst 0, 1) := by decide +kernel
theorem dX4_init_14 : decode cX4_init 14 = .ok (.istore_n 1, 1) := by decide +kernel
theorem dX4_init_15 : decode cX4_init 15 = .ok (.iload_n 1, 1) := by decide +kernel
theorem dX4_init_16 : decode cX4_init 16 = .ok (.bipush 40, 2) := by decide +kernel
theorem dX4_init_18 : decode cX4_init 18 = .ok (.if_icmp .ge 22, 3) := by decide +kernel
theorem dX4_init_21 : decode cX4_init 21 = .ok (.aload_n 0, 1) := by decide +kernel
theorem dX4_init_22 : decode cX4_init 22 = .ok (.getfield 11, 3) := by decide +kernel
theorem dX4_init_25 : decode cX4_init 25 = .ok (.iload_n 1, 1) := by decide +kernel
theorem dX4_init_26 : decode cX4_init 26 = .ok (.new 9, 3) := by decide +kernel
theorem dX4_init_29 : decode cX4_init 29 = .ok (.dup, 1) := by decide +kernel
theorem dX4_init_30 : decode cX4_init 30 = .ok (.invokespecial 17, 3) := by decide +kernel
theorem dX4_init_33 : decode cX4_init 33 = .ok (.aastore, 1) := by decide +kernel
theorem dX4_init_34 : decode cX4_init 34 = .ok (.iinc 1 1, 3) := by decide +kernel
theorem dX4_init_37 : decode cX4_init 37 = .ok (.goto (-22), 3) := by decide +kernel
theorem dX4_init_40 : decode cX4_init 40 = .ok (.aload_n 0, 1) := by decide +kernel
theorem dX4_init_41 : decode cX4_init 41 = .ok (.bipush 20, 2) := by decide +kernel
theorem dX4_init_43 : decode cX4_init 43 = .ok (.newarray .int, 2) := by decide +kernel
theorem dX4_init_45 : decode cX4_init 45 = .ok (.putfield 18, 3) := by decide +kernel
theorem dX4_init_48 : decode cX4_init 48 = .ok (.return_, 1) := by decide +kernel
theorem dX4_remember_0 : decode cX4_remember 0 = .ok (.iconst 0, 1) := by decide +kernel
theorem dX4_remember_1 : decode cX4_remember 1 = .ok (.istore 4, 2) := by decide +kernel
theorem dX4_remember_3 : decode cX4_remember 3 = .ok (.iload 4, 2) := by decide +kernel
theorem dX4_remember_5 : decode cX4_remember 5 = .ok (.iload_n 3, 1) := by decide +kernel
theorem dX4_remember_6 : decode cX4_remember 6 = .ok (.if_icmp .ge 51, 3) := by decide +kernel
theorem dX4_remember_9 : decode cX4_remember 9 = .ok (.aload_n 2, 1) := by decide +kernel
theorem dX4_remember_10 : decode cX4_remember 10 = .ok (.iload 4, 2) := by decide +kernel
theorem dX4_remember_12 : decode cX4_remember 12 = .ok (.aaload, 1) := by decide +kernel
theorem dX4_remember_13 : decode cX4_remember 13 = .ok (.getfield 22, 3) := by decide +kernel
theorem dX4_remember_16 : decode cX4_remember 16 = .ok (.istore 5, 2) := by decide +kernel
theorem dX4_remember_18 : decode cX4_remember 18 = .ok (.aload_n 0, 1) := by decide +kernel
theorem dX4_remember_19 : decode cX4_remember 19 = .ok (.getfield 11, 3) := by decide +kernel
theorem dX4_remember_22 : decode cX4_remember 22 = .ok (.aload_n 0, 1) := by decide +kernel
theorem dX4_remember_23 : decode cX4_remember 23 = .ok (.getfield 26, 3) := by decide +kernel
theorem dX4_remember_26 : decode cX4_remember 26 = .ok (.iconst 2, 1) := by decide +kernel
theorem dX4_remember_27 : decode cX4_remember 27 = .ok (.imul, 1) := by decide +kernel
theorem dX4_remember_28 : decode cX4_remember 28 = .ok (.iload 4, 2) := by decide +kernel
theorem dX4_remember_30 : decode cX4_remember 30 = .ok (.iadd, 1) := by decide +kernel
theorem dX4_remember_31 : decode cX4_remember 31 = .ok (.aaload, 1) := by decide +kernel
theorem dX4_remember_32 : decode cX4_remember 32 = .ok (.iload 5, 2) := by decide +kernel
theorem dX4_remember_34 : decode cX4_remember 34 = .ok (.aload_n 1, 1) := by decide +kernel
theorem dX4_remember_35 : decode cX4_remember 35 = .ok (.getfield 29, 3) := by decide +kernel
theorem dX4_remember_38 : decode cX4_remember 38 = .ok (.iload 5, 2) := by decide +kernel
theorem dX4_remember_40 : decode cX4_remember 40 = .ok (.iaload, 1) := by decide +kernel
theorem dX4_remember_41 : decode cX4_remember 41 = .ok (.aload_n 1, 1) := by decide +kernel
theorem dX4_remember_42 : decode cX4_remember 42 = .ok (.getfield 34, 3) := by decide +kernel
theorem dX4_remember_45 : decode cX4_remember 45 = .ok (.iload 5, 2) := by decide +kernel
theorem dX4_remember_47 : decode cX4_remember 47 = .ok (.iaload, 1) := by decide +kernel
theorem dX4_remember_48 : decode cX4_remember 48 = .ok (.invokevirtual 37, 3) := by decide +kernel
theorem dX4_remember_51 : decode cX4_remember 51 = .ok (.iinc 4 1, 3) := by decide +kernel
theorem dX4_remember_54 : decode cX4_remember 54 = .ok (.goto (-51), 3) := by decide +kernel
theorem dX4_remember_57 : decode cX4_remember 57 = .ok (.aload_n 0, 1) := by decide +kernel
theorem dX4_remember_58 : decode cX4_remember 58 = .ok (.getfield 18, 3) := by decide +kernel
theorem dX4_remember_61 : decode cX4_remember 61 = .ok (.aload_n 0, 1) := by decide +kernel
theorem dX4_remember_62 : decode cX4_remember 62 = .ok (.getfield 26, 3) := by decide +kernel
theorem dX4_remember_65 : decode cX4_remember 65 = .ok (.iload_n 3, 1) := by decide +kernel
theorem dX4_remember_66 : decode cX4_remember 66 = .ok (.iastore, 1) := by decide +kernel
theorem dX4_remember_67 : decode cX4_remember 67 = .ok (.aload_n 0, 1) := by decide +kernel
theorem dX4_remember_68 : decode cX4_remember 68 = .ok (.dup, 1) := by decide +kernel
theorem dX4_remember_69 : decode cX4_remember 69 = .ok (.getfield 26, 3) := by decide +kernel
theorem dX4_remember_72 : decode cX4_remember 72 = .ok (.iconst 1, 1) := by decide +kernel
theorem dX4_remember_73 : decode cX4_remember 73 = .ok (.iadd, 1) := by decide +kernel
theorem dX4_remember_74 : decode cX4_remember 74 = .ok (.putfield 26, 3) := by decide +kernel
theorem dX4_remember_77 : decode cX4_remember 77 = .ok (.return_, 1) := by decide +kernel
theorem dX4_takeBackLast_0 : decode cX4_takeBackLast 0 = .ok (.aload_n 0, 1) := by decide +kernel
theorem dX4_takeBackLast_1 : decode cX4_takeBackLast 1 = .ok (.dup, 1) := by decide +kernel
theorem dX4_takeBackLast_2 : decode cX4_takeBackLast 2 = .ok (.getfield 26, 3) := by decide +kernel
theorem dX4_takeBackLast_5 : decode cX4_takeBackLast 5 = .ok (.iconst 1, 1) := by decide +kernel
theorem dX4_takeBackLast_6 : decode cX4_takeBackLast 6 = .ok (.isub, 1) := by decide +kernel
theorem dX4_takeBackLast_7 : decode cX4_takeBackLast 7 = .ok (.putfield 26, 3) := by decide +kernel
theorem dX4_takeBackLast_10 : decode cX4_takeBackLast 10 = .ok (.iconst 0, 1) := by decide +kernel
theorem dX4_takeBackLast_11 : decode cX4_takeBackLast 11 = .ok (.istore_n 2, 1) := by decide +kernel
theorem dX4_takeBackLast_12 : decode cX4_takeBackLast 12 = .ok (.iload_n 2, 1) := by decide +kernel
theorem dX4_takeBackLast_13 : decode cX4_takeBackLast 13 = .ok (.aload_n 0, 1) := by decide +kernel
theorem dX4_takeBackLast_14 : decode cX4_takeBackLast 14 = .ok (.getfield 18, 3) := by decide +kernel
theorem dX4_takeBackLast_17 : decode cX4_takeBackLast 17 = .ok (.aload_n 0, 1) := by decide +kernel
theorem dX4_takeBackLast_18 : decode cX4_takeBackLast 18 = .ok (.getfield 26, 3) := by decide +kernel
theorem dX4_takeBackLast_21 : decode cX4_takeBackLast 21 = .ok (.iaload, 1) := by decide +kernel
theorem dX4_takeBackLast_22 : decode cX4_takeBackLast 22 = .ok (.if_icmp .ge 26, 3) := by decide +kernel
theorem dX4_takeBackLast_25 : decode cX4_takeBackLast 25 = .ok (.aload_n 1, 1) := by decide +kernel
theorem dX4_takeBackLast_26 : decode cX4_takeBackLast 26 = .ok (.aload_n 0, 1) := by decide +kernel
theorem dX4_takeBackLast_27 : decode cX4_takeBackLast 27 = .ok (.getfield 11, 3) := by decide +kernel
theorem dX4_takeBackLast_30 : decode cX4_takeBackLast 30 = .ok (.aload_n 0, 1) := by decide +kernel
theorem dX4_takeBackLast_31 : decode cX4_takeBackLast 31 = .ok (.getfield 26, 3) := by decide +kernel
theorem dX4_takeBackLast_34 : decode cX4_takeBackLast 34 = .ok (.iconst 2, 1) := by decide +kernel
theorem dX4_takeBackLast_35 : decode cX4_takeBackLast 35 = .ok (.imul, 1) := by decide +kernel
theorem dX4_takeBackLast_36 : decode cX4_takeBackLast 36 = .ok (.iload_n 2, 1) := by decide +kernel
theorem dX4_takeBackLast_37 : decode cX4_takeBackLast 37 = .ok (.iadd, 1) := by decide +kernel
theorem dX4_takeBackLast_38 : decode cX4_takeBackLast 38 = .ok (.aaload, 1) := by decide +kernel
theorem dX4_takeBackLast_39 : decode cX4_takeBackLast 39 = .ok (.invokevirtual 41, 3) := by decide +kernel
theorem dX4_takeBackLast_42 : decode cX4_takeBackLast 42 = .ok (.iinc 2 1, 3) := by decide +kernel
theorem dX4_takeBackLast_45 : decode cX4_takeBackLast 45 = .ok (.goto (-33), 3) := by decide +kernel
theorem dX4_takeBackLast_48 : decode cX4_takeBackLast 48 = .ok (.return_, 1) := by decide +kernel
theorem dX5_init_0 : decode cX5_init 0 = .ok (.aload_n 0, 1) := by decide +kernel
theorem dX5_init_1 : decode cX5_init 1 = .ok (.invokespecial 3, 3) := by decide +kernel
theorem dX5_init_4 : decode cX5_init 4 = .ok (.aload_n 0, 1) := by decide +kernel
theorem dX5_init_5 : decode cX5_init 5 = .ok (.aload_n 1, 1) := by decide +kernel
theorem dX5_init_6 : decode cX5_init 6 = .ok (.putfield 9, 3) := by decide +kernel
theorem dX5_init_9 : decode cX5_init 9 = .ok (.aload_n 0, 1) := by decide +kernel
theorem dX5_init_10 : decode cX5_init 10 = .ok (.aload_n 2, 1) := by decide +kernel
theorem dX5_init_11 : decode cX5_init 11 = .ok (.putfield 15, 3) := by decide +kernel
theorem dX5_init_14 : decode cX5_init 14 = .ok (.aload_n 0, 1) := by decide +kernel
theorem dX5_init_15 : decode cX5_init 15 = .ok (.iconst 2, 1) := by decide +kernel
theorem dX5_init_16 : decode cX5_init 16 = .ok (.anewarray 19, 3) := by decide +kernel
theorem dX5_init_19 : decode cX5_init 19 = .ok (.putfield 21, 3) := by decide +kernel
theorem dX5_init_22 : decode cX5_init 22 = .ok (.iconst 0, 1) := by decide +kernel
theorem dX5_init_23 : decode cX5_init 23 = .ok (.istore_n 3, 1) := by decide +kernel
theorem dX5_init_24 : decode cX5_init 24 = .ok (.iload_n 3, 1) := by decide +kernel
theorem dX5_init_25 : decode cX5_init 25 = .ok (.iconst 2, 1) := by decide +kernel
theorem dX5_init_26 : decode cX5_init 26 = .ok (.if_icmp .ge 22, 3) := by decide +kernel
theorem dX5_init_29 : decode cX5_init 29 = .ok (.aload_n 0, 1) := by decide +kernel
theorem dX5_init_30 : decode cX5_init 30 = .ok (.getfield 21, 3) := by decide +kernel
theorem dX5_init_33 : decode cX5_init 33 = .ok (.iload_n 3, 1) := by decide +kernel
theorem dX5_init_34 : decode cX5_init 34 = .ok (.new 19, 3) := by decide +kernel
theorem dX5_init_37 : decode cX5_init 37 = .ok (.dup, 1) := by decide +kernel
theorem dX5_init_38 : decode cX5_init 38 = .ok (.invokespecial 25, 3) := by decide +kernel
theorem dX5_init_41 : decode cX5_init 41 = .ok (.aastore, 1) := by decide +kernel
theorem dX5_init_42 : decode cX5_init 42 = .ok (.iinc 3 1, 3) := by decide +kernel
theorem dX5_init_45 : decode cX5_init 45 = .ok (.goto (-21), 3) := by decide +kernel
theorem dX5_init_48 : decode cX5_init 48 = .ok (.aload_n 0, 1) := by decide +kernel
theorem dX5_init_49 : decode cX5_init 49 = .ok (.bipush 38, 2) := by decide +kernel
theorem dX5_init_51 : decode cX5_init 51 = .ok (.newarray .int, 2) := by decide +kernel
theorem dX5_init_53 : decode cX5_init 53 = .ok (.putfield 26, 3) := by decide +kernel
theorem dX5_init_56 : decode cX5_init 56 = .ok (.aload_n 0, 1) := by decide +kernel
theorem dX5_init_57 : decode cX5_init 57 = .ok (.bipush 28, 2) := by decide +kernel
theorem dX5_init_59 : decode cX5_init 59 = .ok (.newarray .int, 2) := by decide +kernel
theorem dX5_init_61 : decode cX5_init 61 = .ok (.putfield 30, 3) := by decide +kernel
theorem dX5_init_64 : decode cX5_init 64 = .ok (.return_, 1) := by decide +kernel
theorem dX5_fewestEdits_0 : decode cX5_fewestEdits 0 = .ok (.aload_n 0, 1) := by decide +kernel
theorem dX5_fewestEdits_1 : decode cX5_fewestEdits 1 = .ok (.invokevirtual 33, 3) := by decide +kernel
theorem dX5_fewestEdits_4 : decode cX5_fewestEdits 4 = .ok (.aload_n 0, 1) := by decide +kernel
theorem dX5_fewestEdits_5 : decode cX5_fewestEdits 5 = .ok (.getfield 15, 3) := by decide +kernel
theorem dX5_fewestEdits_8 : decode cX5_fewestEdits 8 = .ok (.aload_n 0, 1) := by decide +kernel
theorem dX5_fewestEdits_9 : decode cX5_fewestEdits 9 = .ok (.getfield 26, 3) := by decide +kernel
theorem dX5_fewestEdits_12 : decode cX5_fewestEdits 12 = .ok (.invokevirtual 36, 3) := by decide +kernel
theorem dX5_fewestEdits_15 : decode cX5_fewestEdits 15 = .ok (.iconst (-1), 1) := by decide +kernel
theorem dX5_fewestEdits_16 : decode cX5_fewestEdits 16 = .ok (.if_icmp .ne 5, 3) := by decide +kernel
theorem dX5_fewestEdits_19 : decode cX5_fewestEdits 19 = .ok (.iconst 0, 1) := by decide +kernel
theorem dX5_fewestEdits_20 : decode cX5_fewestEdits 20 = .ok (.ireturn, 1) := by decide +kernel
theorem dX5_fewestEdits_21 : decode cX5_fewestEdits 21 = .ok (.iload_n 1, 1) := by decide +kernel
theorem dX5_fewestEdits_22 : decode cX5_fewestEdits 22 = .ok (.iconst 1, 1) := by decide +kernel
theorem dX5_fewestEdits_23 : decode cX5_fewestEdits 23 = .ok (.if_icmp .lt 12, 3) := by decide +kernel
theorem dX5_fewestEdits_26 : decode cX5_fewestEdits 26 = .ok (.aload_n 0, 1) := by decide +kernel
theorem dX5_fewestEdits_27 : decode cX5_fewestEdits 27 = .ok (.invokevirtual 42, 3) := by decide +kernel
theorem dX5_fewestEdits_30 : decode cX5_fewestEdits 30 = .ok (.ifCond .eq 5, 3) := by decide +kernel
theorem dX5_fewestEdits_33 : decode cX5_fewestEdits 33 = .ok (.iconst 1, 1) := by decide +kernel
theorem dX5_fewestEdits_34 : decode cX5_fewestEdits 34 = .ok (.ireturn, 1) := by decide +kernel
theorem dX5_fewestEdits_35 : decode cX5_fewestEdits 35 = .ok (.iload_n 1, 1) := by decide +kernel
theorem dX5_fewestEdits_36 : decode cX5_fewestEdits 36 = .ok (.iconst 2, 1) := by decide +kernel
theorem dX5_fewestEdits_37 : decode cX5_fewestEdits 37 = .ok (.if_icmp .lt 12, 3) := by decide +kernel
theorem dX5_fewestEdits_40 : decode cX5_fewestEdits 40 = .ok (.aload_n 0, 1) := by decide +kernel
theorem dX5_fewestEdits_41 : decode cX5_fewestEdits 41 = .ok (.invokevirtual 46, 3) := by decide +kernel
theorem dX5_fewestEdits_44 : decode cX5_fewestEdits 44 = .ok (.ifCond .eq 5, 3) := by decide +kernel
theorem dX5_fewestEdits_47 : decode cX5_fewestEdits 47 = .ok (.iconst 2, 1) := by decide +kernel
theorem dX5_fewestEdits_48 : decode cX5_fewestEdits 48 = .ok (.ireturn, 1) := by decide +kernel
theorem dX5_fewestEdits_49 : decode cX5_fewestEdits 49 = .ok (.iconst (-1), 1) := by decide +kernel
theorem dX5_fewestEdits_50 : decode cX5_fewestEdits 50 = .ok (.ireturn, 1) := by decide +kernel
theorem dX5_showAsItIs_0 : decode cX5_showAsItIs 0 = .ok (.aload_n 0, 1) := by decide +kernel
theorem dX5_showAsItIs_1 : decode cX5_showAsItIs 1 = .ok (.getfield 9, 3) := by decide +kernel
theorem dX5_showAsItIs_4 : decode cX5_showAsItIs 4 = .ok (.getfield 49, 3) := by decide +kernel
theorem dX5_showAsItIs_7 : decode cX5_showAsItIs 7 = .ok (.iconst 0, 1) := by decide +kernel
theorem dX5_showAsItIs_8 : decode cX5_showAsItIs 8 = .ok (.aload_n 0, 1) := by decide +kernel
theorem dX5_showAsItIs_9 : decode cX5_showAsItIs 9 = .ok (.getfield 26, 3) := by decide +kernel
theorem dX5_showAsItIs_12 : decode cX5_showAsItIs 12 = .ok (.iconst 0, 1) := by decide +kernel
theorem dX5_showAsItIs_13 : decode cX5_showAsItIs 13 = .ok (.aload_n 0, 1) := by decide +kernel
theorem dX5_showAsItIs_14 : decode cX5_showAsItIs 14 = .ok (.getfield 9, 3) := by decide +kernel
theorem dX5_showAsItIs_17 : decode cX5_showAsItIs 17 = .ok (.getfield 54, 3) := by decide +kernel
theorem dX5_showAsItIs_20 : decode cX5_showAsItIs 20 = .ok (.invokestatic 58, 3) := by decide +kernel
theorem dX5_showAsItIs_23 : decode cX5_showAsItIs 23 = .ok (.iconst 0, 1) := by decide +kernel
theorem dX5_showAsItIs_24 : decode cX5_showAsItIs 24 = .ok (.istore_n 1, 1) := by decide +kernel
theorem dX5_showAsItIs_25 : decode cX5_showAsItIs 25 = .ok (.iload_n 1, 1) := by decide +kernel
theorem dX5_showAsItIs_26 : decode cX5_showAsItIs 26 = .ok (.aload_n 0, 1) := by decide +kernel
theorem dX5_showAsItIs_27 : decode cX5_showAsItIs 27 = .ok (.getfield 9, 3) := by decide +kernel
theorem dX5_showAsItIs_30 : decode cX5_showAsItIs 30 = .ok (.invokevirtual 64, 3) := by decide +kernel
theorem dX5_showAsItIs_33 : decode cX5_showAsItIs 33 = .ok (.if_icmp .ge 31, 3) := by decide +kernel
theorem dX5_showAsItIs_36 : decode cX5_showAsItIs 36 = .ok (.aload_n 0, 1) := by decide +kernel
theorem dX5_showAsItIs_37 : decode cX5_showAsItIs 37 = .ok (.iload_n 1, 1) := by decide +kernel
theorem dX5_showAsItIs_38 : decode cX5_showAsItIs 38 = .ok (.aload_n 0, 1) := by decide +kernel
theorem dX5_showAsItIs_39 : decode cX5_showAsItIs 39 = .ok (.getfield 9, 3) := by decide +kernel
theorem dX5_showAsItIs_42 : decode cX5_showAsItIs 42 = .ok (.getfield 49, 3) := by decide +kernel
theorem dX5_showAsItIs_45 : decode cX5_showAsItIs 45 = .ok (.aload_n 0, 1) := by decide +kernel
theorem dX5_showAsItIs_46 : decode cX5_showAsItIs 46 = .ok (.getfield 9, 3) := by decide +kernel
theorem dX5_showAsItIs_49 : decode cX5_showAsItIs 49 = .ok (.getfield 68, 3) := by decide +kernel
theorem dX5_showAsItIs_52 : decode cX5_showAsItIs 52 = .ok (.iload_n 1, 1) := by decide +kernel
theorem dX5_showAsItIs_53 : decode cX5_showAsItIs 53 = .ok (.iaload, 1) := by decide +kernel
theorem dX5_showAsItIs_54 : decode cX5_showAsItIs 54 = .ok (.iaload, 1) := by decide +kernel
theorem dX5_showAsItIs_55 : decode cX5_showAsItIs 55 = .ok (.invokevirtual 71, 3) := by decide +kernel
theorem dX5_showAsItIs_58 : decode cX5_showAsItIs 58 = .ok (.iinc 1 1, 3) := by decide +kernel
theorem dX5_showAsItIs_61 : decode cX5_showAsItIs 61 = .ok (.goto (-36), 3) := by decide +kernel
theorem dX5_showAsItIs_64 : decode cX5_showAsItIs 64 = .ok (.return_, 1) := by decide +kernel
theorem dX5_show_0 : decode cX5_show 0 = .ok (.aload_n 0, 1) := by decide +kernel
theorem dX5_show_1 : decode cX5_show 1 = .ok (.getfield 26, 3) := by decide +kernel
theorem dX5_show_4 : decode cX5_show 4 = .ok (.aload_n 0, 1) := by decide +kernel
theorem dX5_show_5 : decode cX5_show 5 = .ok (.getfield 9, 3) := by decide +kernel
theorem dX5_show_8 : decode cX5_show 8 = .ok (.getfield 68, 3) := by decide +kernel
theorem dX5_show_11 : decode cX5_show 11 = .ok (.iload_n 1, 1) := by decide +kernel
theorem dX5_show_12 : decode cX5_show 12 = .ok (.iaload, 1) := by decide +kernel
theorem dX5_show_13 : decode cX5_show 13 = .ok (.iload_n 2, 1) := by decide +kernel
theorem dX5_show_14 : decode cX5_show 14 = .ok (.iastore, 1) := by decide +kernel
theorem dX5_show_15 : decode cX5_show 15 = .ok (.aload_n 0, 1) := by decide +kernel
theorem dX5_show_16 : decode cX5_show 16 = .ok (.getfield 30, 3) := by decide +kernel
theorem dX5_show_19 : decode cX5_show 19 = .ok (.iconst 2, 1) := by decide +kernel
theorem dX5_show_20 : decode cX5_show 20 = .ok (.iload_n 1, 1) := by decide +kernel
theorem dX5_show_21 : decode cX5_show 21 = .ok (.imul, 1) := by decide +kernel
theorem dX5_show_22 : decode cX5_show 22 = .ok (.iload_n 2, 1) := by decide +kernel
theorem dX5_show_23 : decode cX5_show 23 = .ok (.iastore, 1) := by decide +kernel
theorem dX5_show_24 : decode cX5_show 24 = .ok (.aload_n 0, 1) := by decide +kernel
theorem dX5_show_25 : decode cX5_show 25 = .ok (.getfield 30, 3) := by decide +kernel
theorem dX5_show_28 : decode cX5_show 28 = .ok (.iconst 2, 1) := by decide +kernel
theorem dX5_show_29 : decode cX5_show 29 = .ok (.iload_n 1, 1) := by decide +kernel
theorem dX5_show_30 : decode cX5_show 30 = .ok (.imul, 1) := by decide +kernel
theorem dX5_show_31 : decode cX5_show 31 = .ok (.iconst 1, 1) := by decide +kernel
theorem dX5_show_32 : decode cX5_show 32 = .ok (.iadd, 1) := by decide +kernel
theorem dX5_show_33 : decode cX5_show 33 = .ok (.iload_n 2, 1) := by decide +kernel
theorem dX5_show_34 : decode cX5_show 34 = .ok (.iconst (-1), 1) := by decide +kernel
theorem dX5_show_35 : decode cX5_show 35 = .ok (.ixor, 1) := by decide +kernel
theorem dX5_show_36 : decode cX5_show 36 = .ok (.iastore, 1) := by decide +kernel
theorem dX5_show_37 : decode cX5_show 37 = .ok (.return_, 1) := by decide +kernel
theorem dX5_findOne_0 : decode cX5_findOne 0 = .ok (.aload_n 0, 1) := by decide +kernel
theorem dX5_findOne_1 : decode cX5_findOne 1 = .ok (.getfield 9, 3) := by decide +kernel
theorem dX5_findOne_4 : decode cX5_findOne 4 = .ok (.invokevirtual 75, 3) := by decide +kernel
theorem dX5_findOne_7 : decode cX5_findOne 7 = .ok (.istore_n 1, 1) := by decide +kernel
theorem dX5_findOne_8 : decode cX5_findOne 8 = .ok (.iload_n 1, 1) := by decide +kernel
theorem dX5_findOne_9 : decode cX5_findOne 9 = .ok (.aload_n 0, 1) := by decide +kernel
theorem dX5_findOne_10 : decode cX5_findOne 10 = .ok (.getfield 9, 3) := by decide +kernel
theorem dX5_findOne_13 : decode cX5_findOne 13 = .ok (.invokevirtual 64, 3) := by decide +kernel
theorem dX5_findOne_16 : decode cX5_findOne 16 = .ok (.if_icmp .ge 65, 3) := by decide +kernel
theorem dX5_findOne_19 : decode cX5_findOne 19 = .ok (.aload_n 0, 1) := by decide +kernel
theorem dX5_findOne_20 : decode cX5_findOne 20 = .ok (.getfield 9, 3) := by decide +kernel
theorem dX5_findOne_23 : decode cX5_findOne 23 = .ok (.getfield 78, 3) := by decide +kernel
theorem dX5_findOne_26 : decode cX5_findOne 26 = .ok (.aload_n 0, 1) := by decide +kernel
theorem dX5_findOne_27 : decode cX5_findOne 27 = .ok (.getfield 9, 3) := by decide +kernel
theorem dX5_findOne_30 : decode cX5_findOne 30 = .ok (.getfield 68, 3) := by decide +kernel
theorem dX5_findOne_33 : decode cX5_findOne 33 = .ok (.iload_n 1, 1) := by decide +kernel
theorem dX5_findOne_34 : decode cX5_findOne 34 = .ok (.iaload, 1) := by decide +kernel
theorem dX5_findOne_35 : decode cX5_findOne 35 = .ok (.baload, 1) := by decide +kernel
theorem dX5_findOne_36 : decode cX5_findOne 36 = .ok (.ifCond .ne 39, 3) := by decide +kernel
theorem dX5_findOne_39 : decode cX5_findOne 39 = .ok (.aload_n 0, 1) := by decide +kernel
theorem dX5_findOne_40 : decode cX5_findOne 40 = .ok (.iload_n 1, 1) := by decide +kernel
theorem dX5_findOne_41 : decode cX5_findOne 41 = .ok (.iconst 0, 1) := by decide +kernel
theorem dX5_findOne_42 : decode cX5_findOne 42 = .ok (.iload_n 1, 1) := by decide +kernel
theorem dX5_findOne_43 : decode cX5_findOne 43 = .ok (.iconst 0, 1) := by decide +kernel
theorem dX5_findOne_44 : decode cX5_findOne 44 = .ok (.invokevirtual 82, 3) := by decide +kernel
theorem dX5_findOne_47 : decode cX5_findOne 47 = .ok (.istore_n 2, 1) := by decide +kernel
theorem dX5_findOne_48 : decode cX5_findOne 48 = .ok (.aload_n 0, 1) := by decide +kernel
theorem dX5_findOne_49 : decode cX5_findOne 49 = .ok (.iload_n 1, 1) := by decide +kernel
theorem dX5_findOne_50 : decode cX5_findOne 50 = .ok (.iconst (-1), 1) := by decide +kernel
theorem dX5_findOne_51 : decode cX5_findOne 51 = .ok (.iload_n 1, 1) := by decide +kernel
theorem dX5_findOne_52 : decode cX5_findOne 52 = .ok (.iconst (-1), 1) := by decide +kernel
theorem dX5_findOne_53 : decode cX5_findOne 53 = .ok (.invokevirtual 82, 3) := by decide +kernel
theorem dX5_findOne_56 : decode cX5_findOne 56 = .ok (.istore_n 3, 1) := by decide +kernel
theorem dX5_findOne_57 : decode cX5_findOne 57 = .ok (.aload_n 0, 1) := by decide +kernel
theorem dX5_findOne_58 : decode cX5_findOne 58 = .ok (.iload_n 1, 1) := by decide +kernel
theorem dX5_findOne_59 : decode cX5_findOne 59 = .ok (.iload_n 2, 1) := by decide +kernel
theorem dX5_findOne_60 : decode cX5_findOne 60 = .ok (.iload_n 3, 1) := by decide +kernel
theorem dX5_findOne_61 : decode cX5_findOne 61 = .ok (.aload_n 0, 1) := by decide +kernel
theorem dX5_findOne_62 : decode cX5_findOne 62 = .ok (.getfield 21, 3) := by decide +kernel
theorem dX5_findOne_65 : decode cX5_findOne 65 = .ok (.iconst 0, 1) := by decide +kernel
theorem dX5_findOne_66 : decode cX5_findOne 66 = .ok (.aaload, 1) := by decide +kernel
theorem dX5_findOne_67 : decode cX5_findOne 67 = .ok (.invokevirtual 86, 3) := by decide +kernel
theorem dX5_findOne_70 : decode cX5_findOne 70 = .ok (.ifCond .eq 5, 3) := by decide +kernel
theorem dX5_findOne_73 : decode cX5_findOne 73 = .ok (.iconst 1, 1) := by decide +kernel
theorem dX5_findOne_74 : decode cX5_findOne 74 = .ok (.ireturn, 1) := by decide +kernel
theorem dX5_findOne_75 : decode cX5_findOne 75 = .ok (.iinc 1 1, 3) := by decide +kernel
theorem dX5_findOne_78 : decode cX5_findOne 78 = .ok (.goto (-70), 3) := by decide +kernel
theorem dX5_findOne_81 : decode cX5_findOne 81 = .ok (.iconst 0, 1) := by decide +kernel
theorem dX5_findOne_82 : decode cX5_findOne 82 = .ok (.ireturn, 1) := by decide +kernel
theorem dX5_findTwo_0 : decode cX5_findTwo 0 = .ok (.aload_n 0, 1) := by decide +kernel
theorem dX5_findTwo_1 : decode cX5_findTwo 1 = .ok (.getfield 9, 3) := by decide +kernel
theorem dX5_findTwo_4 : decode cX5_findTwo 4 = .ok (.invokevirtual 75, 3) := by decide +kernel
theorem dX5_findTwo_7 : decode cX5_findTwo 7 = .ok (.istore_n 1, 1) := by decide +kernel
theorem dX5_findTwo_8 : decode cX5_findTwo 8 = .ok (.iload_n 1, 1) := by decide +kernel
theorem dX5_findTwo_9 : decode cX5_findTwo 9 = .ok (.aload_n 0, 1) := by decide +kernel
theorem dX5_findTwo_10 : decode cX5_findTwo 10 = .ok (.getfield 9, 3) := by decide +kernel
theorem dX5_findTwo_13 : decode cX5_findTwo 13 = .ok (.invokevirtual 64, 3) := by decide +kernel
theorem dX5_findTwo_16 : decode cX5_findTwo 16 = .ok (.if_icmp .ge 81, 3) := by decide +kernel
theorem dX5_findTwo_19 : decode cX5_findTwo 19 = .ok (.iload_n 1, 1) := by decide +kernel
theorem dX5_findTwo_20 : decode cX5_findTwo 20 = .ok (.iconst 1, 1) := by decide +kernel
theorem dX5_findTwo_21 : decode cX5_findTwo 21 = .ok (.iadd, 1) := by decide +kernel
theorem dX5_findTwo_22 : decode cX5_findTwo 22 = .ok (.istore_n 2, 1) := by decide +kernel
theorem dX5_findTwo_23 : decode cX5_findTwo 23 = .ok (.iload_n 2, 1) := by decide +kernel
theorem dX5_findTwo_24 : decode cX5_findTwo 24 = .ok (.aload_n 0, 1) := by decide +kernel
theorem dX5_findTwo_25 : decode cX5_findTwo 25 = .ok (.getfield 9, 3) := by decide +kernel
theorem dX5_findTwo_28 : decode cX5_findTwo 28 = .ok (.invokevirtual 64, 3) := by decide +kernel
theorem dX5_findTwo_31 : decode cX5_findTwo 31 = .ok (.if_icmp .ge 60, 3) := by decide +kernel
theorem dX5_findTwo_34 : decode cX5_findTwo 34 = .ok (.aload_n 0, 1) := by decide +kernel
theorem dX5_findTwo_35 : decode cX5_findTwo 35 = .ok (.getfield 9, 3) := by decide +kernel
theorem dX5_findTwo_38 : decode cX5_findTwo 38 = .ok (.getfield 78, 3) := by decide +kernel
theorem dX5_findTwo_41 : decode cX5_findTwo 41 = .ok (.aload_n 0, 1) := by decide +kernel
theorem dX5_findTwo_42 : decode cX5_findTwo 42 = .ok (.getfield 9, 3) := by decide +kernel
theorem dX5_findTwo_45 : decode cX5_findTwo 45 = .ok (.getfield 68, 3) := by decide +kernel
theorem dX5_findTwo_48 : decode cX5_findTwo 48 = .ok (.iload_n 1, 1) := by decide +kernel
theorem dX5_findTwo_49 : decode cX5_findTwo 49 = .ok (.iaload, 1) := by decide +kernel
theorem dX5_findTwo_50 : decode cX5_findTwo 50 = .ok (.baload, 1) := by decide +kernel
theorem dX5_findTwo_51 : decode cX5_findTwo 51 = .ok (.ifCond .ne 34, 3) := by decide +kernel
theorem dX5_findTwo_54 : decode cX5_findTwo 54 = .ok (.aload_n 0, 1) := by decide +kernel
theorem dX5_findTwo_55 : decode cX5_findTwo 55 = .ok (.getfield 9, 3) := by decide +kernel
theorem dX5_findTwo_58 : decode cX5_findTwo 58 = .ok (.getfield 78, 3) := by decide +kernel
theorem dX5_findTwo_61 : decode cX5_findTwo 61 = .ok (.aload_n 0, 1) := by decide +kernel
theorem dX5_findTwo_62 : decode cX5_findTwo 62 = .ok (.getfield 9, 3) := by decide +kernel
theorem dX5_findTwo_65 : decode cX5_findTwo 65 = .ok (.getfield 68, 3) := by decide +kernel
theorem dX5_findTwo_68 : decode cX5_findTwo 68 = .ok (.iload_n 2, 1) := by decide +kernel
theorem dX5_findTwo_69 : decode cX5_findTwo 69 = .ok (.iaload, 1) := by decide +kernel
theorem dX5_findTwo_70 : decode cX5_findTwo 70 = .ok (.baload, 1) := by decide +kernel
theorem dX5_findTwo_71 : decode cX5_findTwo 71 = .ok (.ifCond .ne 14, 3) := by decide +kernel
theorem dX5_findTwo_74 : decode cX5_findTwo 74 = .ok (.aload_n 0, 1) := by decide +kernel
theorem dX5_findTwo_75 : decode cX5_findTwo 75 = .ok (.iload_n 1, 1) := by decide +kernel
theorem dX5_findTwo_76 : decode cX5_findTwo 76 = .ok (.iload_n 2, 1) := by decide +kernel
theorem dX5_findTwo_77 : decode cX5_findTwo 77 = .ok (.invokevirtual 90, 3) := by decide +kernel
theorem dX5_findTwo_80 : decode cX5_findTwo 80 = .ok (.ifCond .eq 5, 3) := by decide +kernel
theorem dX5_findTwo_83 : decode cX5_findTwo 83 = .ok (.iconst 1, 1) := by decide +kernel
theorem dX5_findTwo_84 : decode cX5_findTwo 84 = .ok (.ireturn, 1) := by decide +kernel
theorem dX5_findTwo_85 : decode cX5_findTwo 85 = .ok (.iinc 2 1, 3) := by decide +kernel
theorem dX5_findTwo_88 : decode cX5_findTwo 88 = .ok (.goto (-65), 3) := by decide +kernel
theorem dX5_findTwo_91 : decode cX5_findTwo 91 = .ok (.iinc 1 1, 3) := by decide +kernel
theorem dX5_findTwo_94 : decode cX5_findTwo 94 = .ok (.goto (-86), 3) := by decide +kernel
theorem dX5_findTwo_97 : decode cX5_findTwo 97 = .ok (.iconst 0, 1) := by decide +kernel
theorem dX5_findTwo_98 : decode cX5_findTwo 98 = .ok (.ireturn, 1) := by decide +kernel
theorem dX5_findPair_0 : decode cX5_findPair 0 = .ok (.aload_n 0, 1) := by decide +kernel
theorem dX5_findPair_1 : decode cX5_findPair 1 = .ok (.iload_n 1, 1) := by decide +kernel
theorem dX5_findPair_2 : decode cX5_findPair 2 = .ok (.iconst 0, 1) := by decide +kernel
theorem dX5_findPair_3 : decode cX5_findPair 3 = .ok (.iload_n 2, 1) := by decide +kernel
theorem dX5_findPair_4 : decode cX5_findPair 4 = .ok (.iconst 0, 1) := by decide +kernel
theorem dX5_findPair_5 : decode cX5_findPair 5 = .ok (.invokevirtual 82, 3) := by decide +kernel
theorem dX5_findPair_8 : decode cX5_findPair 8 = .ok (.istore_n 3, 1) := by decide +kernel
theorem dX5_findPair_9 : decode cX5_findPair 9 = .ok (.aload_n 0, 1) := by decide +kernel
theorem dX5_findPair_10 : decode cX5_findPair 10 = .ok (.iload_n 1, 1) := by decide +kernel
theorem dX5_findPair_11 : decode cX5_findPair 11 = .ok (.iconst 0, 1) := by decide +kernel
theorem dX5_findPair_12 : decode cX5_findPair 12 = .ok (.iload_n 2, 1) := by decide +kernel
theorem dX5_findPair_13 : decode cX5_findPair 13 = .ok (.iconst (-1), 1) := by decide +kernel
theorem dX5_findPair_14 : decode cX5_findPair 14 = .ok (.invokevirtual 82, 3) := by decide +kernel
theorem dX5_findPair_17 : decode cX5_findPair 17 = .ok (.istore 4, 2) := by decide +kernel
theorem dX5_findPair_19 : decode cX5_findPair 19 = .ok (.aload_n 0, 1) := by decide +kernel
theorem dX5_findPair_20 : decode cX5_findPair 20 = .ok (.iload_n 1, 1) := by decide +kernel
theorem dX5_findPair_21 : decode cX5_findPair 21 = .ok (.iconst (-1), 1) := by decide +kernel
theorem dX5_findPair_22 : decode cX5_findPair 22 = .ok (.iload_n 2, 1) := by decide +kernel
theorem dX5_findPair_23 : decode cX5_findPair 23 = .ok (.iconst 0, 1) := by decide +kernel
theorem dX5_findPair_24 : decode cX5_findPair 24 = .ok (.invokevirtual 82, 3) := by decide +kernel
theorem dX5_findPair_27 : decode cX5_findPair 27 = .ok (.istore 5, 2) := by decide +kernel
theorem dX5_findPair_29 : decode cX5_findPair 29 = .ok (.aload_n 0, 1) := by decide +kernel
theorem dX5_findPair_30 : decode cX5_findPair 30 = .ok (.iload_n 1, 1) := by decide +kernel
theorem dX5_findPair_31 : decode cX5_findPair 31 = .ok (.iconst (-1), 1) := by decide +kernel
theorem dX5_findPair_32 : decode cX5_findPair 32 = .ok (.iload_n 2, 1) := by decide +kernel
theorem dX5_findPair_33 : decode cX5_findPair 33 = .ok (.iconst (-1), 1) := by decide +kernel
theorem dX5_findPair_34 : decode cX5_findPair 34 = .ok (.invokevirtual 82, 3) := by decide +kernel
theorem dX5_findPair_37 : decode cX5_findPair 37 = .ok (.istore 6, 2) := by decide +kernel
theorem dX5_findPair_39 : decode cX5_findPair 39 = .ok (.iload_n 3, 1) := by decide +kernel
theorem dX5_findPair_40 : decode cX5_findPair 40 = .ok (.iload 4, 2) := by decide +kernel
theorem dX5_findPair_42 : decode cX5_findPair 42 = .ok (.ior, 1) := by decide +kernel
theorem dX5_findPair_43 : decode cX5_findPair 43 = .ok (.iload 5, 2) := by decide +kernel
theorem dX5_findPair_45 : decode cX5_findPair 45 = .ok (.ior, 1) := by decide +kernel
theorem dX5_findPair_46 : decode cX5_findPair 46 = .ok (.iload 6, 2) := by decide +kernel
theorem dX5_findPair_48 : decode cX5_findPair 48 = .ok (.ior, 1) := by decide +kernel
theorem dX5_findPair_49 : decode cX5_findPair 49 = .ok (.iconst (-1), 1) := by decide +kernel
theorem dX5_findPair_50 : decode cX5_findPair 50 = .ok (.if_icmp .eq 5, 3) := by decide +kernel
theorem dX5_findPair_53 : decode cX5_findPair 53 = .ok (.iconst 0, 1) := by decide +kernel
theorem dX5_findPair_54 : decode cX5_findPair 54 = .ok (.ireturn, 1) := by decide +kernel
theorem dX5_findPair_55 : decode cX5_findPair 55 = .ok (.iconst 0, 1) := by decide +kernel
theorem dX5_findPair_56 : decode cX5_findPair 56 = .ok (.istore 7, 2) := by decide +kernel
theorem dX5_findPair_58 : decode cX5_findPair 58 = .ok (.iload 7, 2) := by decide +kernel
theorem dX5_findPair_60 : decode cX5_findPair 60 = .ok (.iconst 2, 1) := by decide +kernel
theorem dX5_findPair_61 : decode cX5_findPair 61 = .ok (.iload_n 1, 1) := by decide +kernel
theorem dX5_findPair_62 : decode cX5_findPair 62 = .ok (.imul, 1) := by decide +kernel
theorem dX5_findPair_63 : decode cX5_findPair 63 = .ok (.if_icmp .ge 148, 3) := by decide +kernel
theorem dX5_findPair_66 : decode cX5_findPair 66 = .ok (.iload 7, 2) := by decide +kernel
theorem dX5_findPair_68 : decode cX5_findPair 68 = .ok (.istore 8, 2) := by decide +kernel
theorem dX5_findPair_70 : decode cX5_findPair 70 = .ok (.iload 8, 2) := by decide +kernel
theorem dX5_findPair_72 : decode cX5_findPair 72 = .ok (.iconst 2, 1) := by decide +kernel
theorem dX5_findPair_73 : decode cX5_findPair 73 = .ok (.iload_n 1, 1) := by decide +kernel
theorem dX5_findPair_74 : decode cX5_findPair 74 = .ok (.imul, 1) := by decide +kernel
theorem dX5_findPair_75 : decode cX5_findPair 75 = .ok (.if_icmp .ge 130, 3) := by decide +kernel
theorem dX5_findPair_78 : decode cX5_findPair 78 = .ok (.aload_n 0, 1) := by decide +kernel
theorem dX5_findPair_79 : decode cX5_findPair 79 = .ok (.getfield 30, 3) := by decide +kernel
theorem dX5_findPair_82 : decode cX5_findPair 82 = .ok (.iload 7, 2) := by decide +kernel
theorem dX5_findPair_84 : decode cX5_findPair 84 = .ok (.iaload, 1) := by decide +kernel
theorem dX5_findPair_85 : decode cX5_findPair 85 = .ok (.aload_n 0, 1) := by decide +kernel
theorem dX5_findPair_86 : decode cX5_findPair 86 = .ok (.getfield 30, 3) := by decide +kernel
theorem dX5_findPair_89 : decode cX5_findPair 89 = .ok (.iload 8, 2) := by decide +kernel
theorem dX5_findPair_91 : decode cX5_findPair 91 = .ok (.iaload, 1) := by decide +kernel
theorem dX5_findPair_92 : decode cX5_findPair 92 = .ok (.iand, 1) := by decide +kernel
theorem dX5_findPair_93 : decode cX5_findPair 93 = .ok (.istore 9, 2) := by decide +kernel
theorem dX5_findPair_95 : decode cX5_findPair 95 = .ok (.iload 9, 2) := by decide +kernel
theorem dX5_findPair_97 : decode cX5_findPair 97 = .ok (.iload 5, 2) := by decide +kernel
theorem dX5_findPair_99 : decode cX5_findPair 99 = .ok (.iand, 1) := by decide +kernel
theorem dX5_findPair_100 : decode cX5_findPair 100 = .ok (.iload 9, 2) := by decide +kernel
theorem dX5_findPair_102 : decode cX5_findPair 102 = .ok (.iconst (-1), 1) := by decide +kernel
theorem dX5_findPair_103 : decode cX5_findPair 103 = .ok (.ixor, 1) := by decide +kernel
theorem dX5_findPair_104 : decode cX5_findPair 104 = .ok (.iload_n 3, 1) := by decide +kernel
theorem dX5_findPair_105 : decode cX5_findPair 105 = .ok (.iand, 1) := by decide +kernel
theorem dX5_findPair_106 : decode cX5_findPair 106 = .ok (.ior, 1) := by decide +kernel
theorem dX5_findPair_107 : decode cX5_findPair 107 = .ok (.istore 10, 2) := by decide +kernel
theorem dX5_findPair_109 : decode cX5_findPair 109 = .ok (.iload 9, 2) := by decide +kernel
theorem dX5_findPair_111 : decode cX5_findPair 111 = .ok (.iload 6, 2) := by decide +kernel
theorem dX5_findPair_113 : decode cX5_findPair 113 = .ok (.iand, 1) := by decide +kernel
theorem dX5_findPair_114 : decode cX5_findPair 114 = .ok (.iload 9, 2) := by decide +kernel
theorem dX5_findPair_116 : decode cX5_findPair 116 = .ok (.iconst (-1), 1) := by decide +kernel
theorem dX5_findPair_117 : decode cX5_findPair 117 = .ok (.ixor, 1) := by decide +kernel
theorem dX5_findPair_118 : decode cX5_findPair 118 = .ok (.iload 4, 2) := by decide +kernel
theorem dX5_findPair_120 : decode cX5_findPair 120 = .ok (.iand, 1) := by decide +kernel
theorem dX5_findPair_121 : decode cX5_findPair 121 = .ok (.ior, 1) := by decide +kernel
theorem dX5_findPair_122 : decode cX5_findPair 122 = .ok (.istore 11, 2) := by decide +kernel
theorem dX5_findPair_124 : decode cX5_findPair 124 = .ok (.iload 10, 2) := by decide +kernel
theorem dX5_findPair_126 : decode cX5_findPair 126 = .ok (.iload 11, 2) := by decide +kernel
theorem dX5_findPair_128 : decode cX5_findPair 128 = .ok (.ior, 1) := by decide +kernel
theorem dX5_findPair_129 : decode cX5_findPair 129 = .ok (.iconst (-1), 1) := by decide +kernel
theorem dX5_findPair_130 : decode cX5_findPair 130 = .ok (.if_icmp .ne 69, 3) := by decide +kernel
theorem dX5_findPair_133 : decode cX5_findPair 133 = .ok (.aload_n 0, 1) := by decide +kernel
theorem dX5_findPair_134 : decode cX5_findPair 134 = .ok (.iload_n 1, 1) := by decide +kernel
theorem dX5_findPair_135 : decode cX5_findPair 135 = .ok (.iload 9, 2) := by decide +kernel
theorem dX5_findPair_137 : decode cX5_findPair 137 = .ok (.iload_n 1, 1) := by decide +kernel
theorem dX5_findPair_138 : decode cX5_findPair 138 = .ok (.iload 9, 2) := by decide +kernel
theorem dX5_findPair_140 : decode cX5_findPair 140 = .ok (.invokevirtual 94, 3) := by decide +kernel
theorem dX5_findPair_143 : decode cX5_findPair 143 = .ok (.aload_n 0, 1) := by decide +kernel
theorem dX5_findPair_144 : decode cX5_findPair 144 = .ok (.iload_n 2, 1) := by decide +kernel
theorem dX5_findPair_145 : decode cX5_findPair 145 = .ok (.iload 10, 2) := by decide +kernel
theorem dX5_findPair_147 : decode cX5_findPair 147 = .ok (.iload 11, 2) := by decide +kernel
theorem dX5_findPair_149 : decode cX5_findPair 149 = .ok (.aload_n 0, 1) := by decide +kernel
theorem dX5_findPair_150 : decode cX5_findPair 150 = .ok (.getfield 21, 3) := by decide +kernel
theorem dX5_findPair_153 : decode cX5_findPair 153 = .ok (.iconst 1, 1) := by decide +kernel
theorem dX5_findPair_154 : decode cX5_findPair 154 = .ok (.aaload, 1) := by decide +kernel
theorem dX5_findPair_155 : decode cX5_findPair 155 = .ok (.invokevirtual 86, 3) := by decide +kernel
theorem dX5_findPair_158 : decode cX5_findPair 158 = .ok (.ifCond .eq 41, 3) := by decide +kernel
theorem dX5_findPair_161 : decode cX5_findPair 161 = .ok (.aload_n 0, 1) := by decide +kernel
theorem dX5_findPair_162 : decode cX5_findPair 162 = .ok (.getfield 21, 3) := by decide +kernel
theorem dX5_findPair_165 : decode cX5_findPair 165 = .ok (.iconst 0, 1) := by decide +kernel
theorem dX5_findPair_166 : decode cX5_findPair 166 = .ok (.aaload, 1) := by decide +kernel
theorem dX5_findPair_167 : decode cX5_findPair 167 = .ok (.aload_n 0, 1) := by decide +kernel
theorem dX5_findPair_168 : decode cX5_findPair 168 = .ok (.getfield 9, 3) := by decide +kernel
theorem dX5_findPair_171 : decode cX5_findPair 171 = .ok (.getfield 68, 3) := by decide +kernel
theorem dX5_findPair_174 : decode cX5_findPair 174 = .ok (.iload_n 1, 1) := by decide +kernel
theorem dX5_findPair_175 : decode cX5_findPair 175 = .ok (.iaload, 1) := by decide +kernel
theorem dX5_findPair_176 : decode cX5_findPair 176 = .ok (.aload_n 0, 1) := by decide +kernel
theorem dX5_findPair_177 : decode cX5_findPair 177 = .ok (.getfield 9, 3) := by decide +kernel
theorem dX5_findPair_180 : decode cX5_findPair 180 = .ok (.iload 7, 2) := by decide +kernel
theorem dX5_findPair_182 : decode cX5_findPair 182 = .ok (.invokevirtual 98, 3) := by decide +kernel
theorem dX5_findPair_185 : decode cX5_findPair 185 = .ok (.aload_n 0, 1) := by decide +kernel
theorem dX5_findPair_186 : decode cX5_findPair 186 = .ok (.getfield 9, 3) := by decide +kernel
theorem dX5_findPair_189 : decode cX5_findPair 189 = .ok (.iload 8, 2) := by decide +kernel
theorem dX5_findPair_191 : decode cX5_findPair 191 = .ok (.invokevirtual 98, 3) := by decide +kernel
theorem dX5_findPair_194 : decode cX5_findPair 194 = .ok (.invokevirtual 102, 3) := by decide +kernel
theorem dX5_findPair_197 : decode cX5_findPair 197 = .ok (.iconst 1, 1) := by decide +kernel
theorem dX5_findPair_198 : decode cX5_findPair 198 = .ok (.ireturn, 1) := by decide +kernel
theorem dX5_findPair_199 : decode cX5_findPair 199 = .ok (.iinc 8 1, 3) := by decide +kernel
theorem dX5_findPair_202 : decode cX5_findPair 202 = .ok (.goto (-132), 3) := by decide +kernel
theorem dX5_findPair_205 : decode cX5_findPair 205 = .ok (.iinc 7 1, 3) := by decide +kernel
theorem dX5_findPair_208 : decode cX5_findPair 208 = .ok (.goto (-150), 3) := by decide +kernel
theorem dX5_findPair_211 : decode cX5_findPair 211 = .ok (.iconst 0, 1) := by decide +kernel
theorem dX5_findPair_212 : decode cX5_findPair 212 = .ok (.ireturn, 1) := by decide +kernel
theorem dX5_findLiterals_0 : decode cX5_findLiterals 0 = .ok (.iload_n 2, 1) := by decide +kernel
theorem dX5_findLiterals_1 : decode cX5_findLiterals 1 = .ok (.iload_n 3, 1) := by decide +kernel
theorem dX5_findLiterals_2 : decode cX5_findLiterals 2 = .ok (.ior, 1) := by decide +kernel
theorem dX5_findLiterals_3 : decode cX5_findLiterals 3 = .ok (.iconst (-1), 1) := by decide +kernel
theorem dX5_findLiterals_4 : decode cX5_findLiterals 4 = .ok (.if_icmp .eq 5, 3) := by decide +kernel
theorem dX5_findLiterals_7 : decode cX5_findLiterals 7 = .ok (.iconst 0, 1) := by decide +kernel
theorem dX5_findLiterals_8 : decode cX5_findLiterals 8 = .ok (.ireturn, 1) := by decide +kernel
theorem dX5_findLiterals_9 : decode cX5_findLiterals 9 = .ok (.iconst 0, 1) := by decide +kernel
theorem dX5_findLiterals_10 : decode cX5_findLiterals 10 = .ok (.istore 5, 2) := by decide +kernel
theorem dX5_findLiterals_12 : decode cX5_findLiterals 12 = .ok (.iload 5, 2) := by decide +kernel
theorem dX5_findLiterals_14 : decode cX5_findLiterals 14 = .ok (.iconst 2, 1) := by decide +kernel
theorem dX5_findLiterals_15 : decode cX5_findLiterals 15 = .ok (.iload_n 1, 1) := by decide +kernel
theorem dX5_findLiterals_16 : decode cX5_findLiterals 16 = .ok (.imul, 1) := by decide +kernel
theorem dX5_findLiterals_17 : decode cX5_findLiterals 17 = .ok (.if_icmp .ge 76, 3) := by decide +kernel
theorem dX5_findLiterals_20 : decode cX5_findLiterals 20 = .ok (.aload_n 0, 1) := by decide +kernel
theorem dX5_findLiterals_21 : decode cX5_findLiterals 21 = .ok (.getfield 30, 3) := by decide +kernel
theorem dX5_findLiterals_24 : decode cX5_findLiterals 24 = .ok (.iload 5, 2) := by decide +kernel
theorem dX5_findLiterals_26 : decode cX5_findLiterals 26 = .ok (.iaload, 1) := by decide +kernel
theorem dX5_findLiterals_27 : decode cX5_findLiterals 27 = .ok (.iconst (-1), 1) := by decide +kernel
theorem dX5_findLiterals_28 : decode cX5_findLiterals 28 = .ok (.ixor, 1) := by decide +kernel
theorem dX5_findLiterals_29 : decode cX5_findLiterals 29 = .ok (.iload_n 2, 1) := by decide +kernel
theorem dX5_findLiterals_30 : decode cX5_findLiterals 30 = .ok (.iconst (-1), 1) := by decide +kernel
theorem dX5_findLiterals_31 : decode cX5_findLiterals 31 = .ok (.ixor, 1) := by decide +kernel
theorem dX5_findLiterals_32 : decode cX5_findLiterals 32 = .ok (.iand, 1) := by decide +kernel
theorem dX5_findLiterals_33 : decode cX5_findLiterals 33 = .ok (.ifCond .ne 54, 3) := by decide +kernel
theorem dX5_findLiterals_36 : decode cX5_findLiterals 36 = .ok (.aload_n 0, 1) := by decide +kernel
theorem dX5_findLiterals_37 : decode cX5_findLiterals 37 = .ok (.iload_n 1, 1) := by decide +kernel
theorem dX5_findLiterals_38 : decode cX5_findLiterals 38 = .ok (.iload 5, 2) := by decide +kernel
theorem dX5_findLiterals_40 : decode cX5_findLiterals 40 = .ok (.iload_n 2, 1) := by decide +kernel
theorem dX5_findLiterals_41 : decode cX5_findLiterals 41 = .ok (.iload_n 3, 1) := by decide +kernel
theorem dX5_findLiterals_42 : decode cX5_findLiterals 42 = .ok (.invokevirtual 106, 3) := by decide +kernel
theorem dX5_findLiterals_45 : decode cX5_findLiterals 45 = .ok (.istore 6, 2) := by decide +kernel
theorem dX5_findLiterals_47 : decode cX5_findLiterals 47 = .ok (.iload 6, 2) := by decide +kernel
theorem dX5_findLiterals_49 : decode cX5_findLiterals 49 = .ok (.iconst (-1), 1) := by decide +kernel
theorem dX5_findLiterals_50 : decode cX5_findLiterals 50 = .ok (.if_icmp .eq 37, 3) := by decide +kernel
theorem dX5_findLiterals_53 : decode cX5_findLiterals 53 = .ok (.aload 4, 2) := by decide +kernel
theorem dX5_findLiterals_55 : decode cX5_findLiterals 55 = .ok (.aload_n 0, 1) := by decide +kernel
theorem dX5_findLiterals_56 : decode cX5_findLiterals 56 = .ok (.getfield 9, 3) := by decide +kernel
theorem dX5_findLiterals_59 : decode cX5_findLiterals 59 = .ok (.getfield 68, 3) := by decide +kernel
theorem dX5_findLiterals_62 : decode cX5_findLiterals 62 = .ok (.iload_n 1, 1) := by decide +kernel
theorem dX5_findLiterals_63 : decode cX5_findLiterals 63 = .ok (.iaload, 1) := by decide +kernel
theorem dX5_findLiterals_64 : decode cX5_findLiterals 64 = .ok (.aload_n 0, 1) := by decide +kernel
theorem dX5_findLiterals_65 : decode cX5_findLiterals 65 = .ok (.getfield 9, 3) := by decide +kernel
theorem dX5_findLiterals_68 : decode cX5_findLiterals 68 = .ok (.iload 5, 2) := by decide +kernel
theorem dX5_findLiterals_70 : decode cX5_findLiterals 70 = .ok (.invokevirtual 98, 3) := by decide +kernel
theorem dX5_findLiterals_73 : decode cX5_findLiterals 73 = .ok (.aload_n 0, 1) := by decide +kernel
theorem dX5_findLiterals_74 : decode cX5_findLiterals 74 = .ok (.getfield 9, 3) := by decide +kernel
theorem dX5_findLiterals_77 : decode cX5_findLiterals 77 = .ok (.iload 6, 2) := by decide +kernel
theorem dX5_findLiterals_79 : decode cX5_findLiterals 79 = .ok (.invokevirtual 98, 3) := by decide +kernel
theorem dX5_findLiterals_82 : decode cX5_findLiterals 82 = .ok (.invokevirtual 102, 3) := by decide +kernel
theorem dX5_findLiterals_85 : decode cX5_findLiterals 85 = .ok (.iconst 1, 1) := by decide +kernel
theorem dX5_findLiterals_86 : decode cX5_findLiterals 86 = .ok (.ireturn, 1) := by decide +kernel
theorem dX5_findLiterals_87 : decode cX5_findLiterals 87 = .ok (.iinc 5 1, 3) := by decide +kernel
theorem dX5_findLiterals_90 : decode cX5_findLiterals 90 = .ok (.goto (-78), 3) := by decide +kernel
theorem dX5_findLiterals_93 : decode cX5_findLiterals 93 = .ok (.iconst 0, 1) := by decide +kernel
theorem dX5_findLiterals_94 : decode cX5_findLiterals 94 = .ok (.ireturn, 1) := by decide +kernel
theorem dX5_findPartner_0 : decode cX5_findPartner 0 = .ok (.iload_n 2, 1) := by decide +kernel
theorem dX5_findPartner_1 : decode cX5_findPartner 1 = .ok (.istore 5, 2) := by decide +kernel
theorem dX5_findPartner_3 : decode cX5_findPartner 3 = .ok (.iload 5, 2) := by decide +kernel
theorem dX5_findPartner_5 : decode cX5_findPartner 5 = .ok (.iconst 2, 1) := by decide +kernel
theorem dX5_findPartner_6 : decode cX5_findPartner 6 = .ok (.iload_n 1, 1) := by decide +kernel
theorem dX5_findPartner_7 : decode cX5_findPartner 7 = .ok (.imul, 1) := by decide +kernel
theorem dX5_findPartner_8 : decode cX5_findPartner 8 = .ok (.if_icmp .ge 47, 3) := by decide +kernel
theorem dX5_findPartner_11 : decode cX5_findPartner 11 = .ok (.aload_n 0, 1) := by decide +kernel
theorem dX5_findPartner_12 : decode cX5_findPartner 12 = .ok (.getfield 30, 3) := by decide +kernel
theorem dX5_findPartner_15 : decode cX5_findPartner 15 = .ok (.iload_n 2, 1) := by decide +kernel
theorem dX5_findPartner_16 : decode cX5_findPartner 16 = .ok (.iaload, 1) := by decide +kernel
theorem dX5_findPartner_17 : decode cX5_findPartner 17 = .ok (.aload_n 0, 1) := by decide +kernel
theorem dX5_findPartner_18 : decode cX5_findPartner 18 = .ok (.getfield 30, 3) := by decide +kernel
theorem dX5_findPartner_21 : decode cX5_findPartner 21 = .ok (.iload 5, 2) := by decide +kernel
theorem dX5_findPartner_23 : decode cX5_findPartner 23 = .ok (.iaload, 1) := by decide +kernel
theorem dX5_findPartner_24 : decode cX5_findPartner 24 = .ok (.iand, 1) := by decide +kernel
theorem dX5_findPartner_25 : decode cX5_findPartner 25 = .ok (.istore 6, 2) := by decide +kernel
theorem dX5_findPartner_27 : decode cX5_findPartner 27 = .ok (.iload 6, 2) := by decide +kernel
theorem dX5_findPartner_29 : decode cX5_findPartner 29 = .ok (.iload 4, 2) := by decide +kernel
theorem dX5_findPartner_31 : decode cX5_findPartner 31 = .ok (.iconst (-1), 1) := by decide +kernel
theorem dX5_findPartner_32 : decode cX5_findPartner 32 = .ok (.ixor, 1) := by decide +kernel
theorem dX5_findPartner_33 : decode cX5_findPartner 33 = .ok (.iand, 1) := by decide +kernel
theorem dX5_findPartner_34 : decode cX5_findPartner 34 = .ok (.iload 6, 2) := by decide +kernel
theorem dX5_findPartner_36 : decode cX5_findPartner 36 = .ok (.iconst (-1), 1) := by decide +kernel
theorem dX5_findPartner_37 : decode cX5_findPartner 37 = .ok (.ixor, 1) := by decide +kernel
theorem dX5_findPartner_38 : decode cX5_findPartner 38 = .ok (.iload_n 3, 1) := by decide +kernel
theorem dX5_findPartner_39 : decode cX5_findPartner 39 = .ok (.iconst (-1), 1) := by decide +kernel
theorem dX5_findPartner_40 : decode cX5_findPartner 40 = .ok (.ixor, 1) := by decide +kernel
theorem dX5_findPartner_41 : decode cX5_findPartner 41 = .ok (.iand, 1) := by decide +kernel
theorem dX5_findPartner_42 : decode cX5_findPartner 42 = .ok (.ior, 1) := by decide +kernel
theorem dX5_findPartner_43 : decode cX5_findPartner 43 = .ok (.ifCond .ne 6, 3) := by decide +kernel
theorem dX5_findPartner_46 : decode cX5_findPartner 46 = .ok (.iload 5, 2) := by decide +kernel
theorem dX5_findPartner_48 : decode cX5_findPartner 48 = .ok (.ireturn, 1) := by decide +kernel
theorem dX5_findPartner_49 : decode cX5_findPartner 49 = .ok (.iinc 5 1, 3) := by decide +kernel
theorem dX5_findPartner_52 : decode cX5_findPartner 52 = .ok (.goto (-49), 3) := by decide +kernel
theorem dX5_findPartner_55 : decode cX5_findPartner 55 = .ok (.iconst (-1), 1) := by decide +kernel
theorem dX5_findPartner_56 : decode cX5_findPartner 56 = .ok (.ireturn, 1) := by decide +kernel
theorem dX5_agreementWith_0 : decode cX5_agreementWith 0 = .ok (.aload_n 0, 1) := by decide +kernel
theorem dX5_agreementWith_1 : decode cX5_agreementWith 1 = .ok (.iload_n 1, 1) := by decide +kernel
theorem dX5_agreementWith_2 : decode cX5_agreementWith 2 = .ok (.iload_n 2, 1) := by decide +kernel
theorem dX5_agreementWith_3 : decode cX5_agreementWith 3 = .ok (.iload_n 3, 1) := by decide +kernel
theorem dX5_agreementWith_4 : decode cX5_agreementWith 4 = .ok (.iload 4, 2) := by decide +kernel
theorem dX5_agreementWith_6 : decode cX5_agreementWith 6 = .ok (.invokevirtual 94, 3) := by decide +kernel
theorem dX5_agreementWith_9 : decode cX5_agreementWith 9 = .ok (.aload_n 0, 1) := by decide +kernel
theorem dX5_agreementWith_10 : decode cX5_agreementWith 10 = .ok (.getfield 15, 3) := by decide +kernel
theorem dX5_agreementWith_13 : decode cX5_agreementWith 13 = .ok (.aload_n 0, 1) := by decide +kernel
theorem dX5_agreementWith_14 : decode cX5_agreementWith 14 = .ok (.getfield 26, 3) := by decide +kernel
theorem dX5_agreementWith_17 : decode cX5_agreementWith 17 = .ok (.invokevirtual 36, 3) := by decide +kernel
theorem dX5_agreementWith_20 : decode cX5_agreementWith 20 = .ok (.ireturn, 1) := by decide +kernel
theorem dX5_setAndSpread_0 : decode cX5_setAndSpread 0 = .ok (.aload_n 0, 1) := by decide +kernel
theorem dX5_setAndSpread_1 : decode cX5_setAndSpread 1 = .ok (.getfield 9, 3) := by decide +kernel
theorem dX5_setAndSpread_4 : decode cX5_setAndSpread 4 = .ok (.invokevirtual 75, 3) := by decide +kernel
theorem dX5_setAndSpread_7 : decode cX5_setAndSpread 7 = .ok (.istore 5, 2) := by decide +kernel
theorem dX5_setAndSpread_9 : decode cX5_setAndSpread 9 = .ok (.iload 5, 2) := by decide +kernel
theorem dX5_setAndSpread_11 : decode cX5_setAndSpread 11 = .ok (.aload_n 0, 1) := by decide +kernel
theorem dX5_setAndSpread_12 : decode cX5_setAndSpread 12 = .ok (.getfield 9, 3) := by decide +kernel
theorem dX5_setAndSpread_15 : decode cX5_setAndSpread 15 = .ok (.invokevirtual 64, 3) := by decide +kernel
theorem dX5_setAndSpread_18 : decode cX5_setAndSpread 18 = .ok (.if_icmp .ge 95, 3) := by decide +kernel
theorem dX5_setAndSpread_21 : decode cX5_setAndSpread 21 = .ok (.iload 5, 2) := by decide +kernel
theorem dX5_setAndSpread_23 : decode cX5_setAndSpread 23 = .ok (.iload_n 1, 1) := by decide +kernel
theorem dX5_setAndSpread_24 : decode cX5_setAndSpread 24 = .ok (.if_icmp .ne 13, 3) := by decide +kernel
theorem dX5_setAndSpread_27 : decode cX5_setAndSpread 27 = .ok (.aload_n 0, 1) := by decide +kernel
theorem dX5_setAndSpread_28 : decode cX5_setAndSpread 28 = .ok (.iload 5, 2) := by decide +kernel
theorem dX5_setAndSpread_30 : decode cX5_setAndSpread 30 = .ok (.iload_n 2, 1) := by decide +kernel
theorem dX5_setAndSpread_31 : decode cX5_setAndSpread 31 = .ok (.invokevirtual 71, 3) := by decide +kernel
theorem dX5_setAndSpread_34 : decode cX5_setAndSpread 34 = .ok (.goto 73, 3) := by decide +kernel
theorem dX5_setAndSpread_37 : decode cX5_setAndSpread 37 = .ok (.iload 5, 2) := by decide +kernel
theorem dX5_setAndSpread_39 : decode cX5_setAndSpread 39 = .ok (.iload_n 3, 1) := by decide +kernel
theorem dX5_setAndSpread_40 : decode cX5_setAndSpread 40 = .ok (.if_icmp .ne 14, 3) := by decide +kernel
theorem dX5_setAndSpread_43 : decode cX5_setAndSpread 43 = .ok (.aload_n 0, 1) := by decide +kernel
theorem dX5_setAndSpread_44 : decode cX5_setAndSpread 44 = .ok (.iload 5, 2) := by decide +kernel
theorem dX5_setAndSpread_46 : decode cX5_setAndSpread 46 = .ok (.iload 4, 2) := by decide +kernel
theorem dX5_setAndSpread_48 : decode cX5_setAndSpread 48 = .ok (.invokevirtual 71, 3) := by decide +kernel
theorem dX5_setAndSpread_51 : decode cX5_setAndSpread 51 = .ok (.goto 56, 3) := by decide +kernel
theorem dX5_setAndSpread_54 : decode cX5_setAndSpread 54 = .ok (.aload_n 0, 1) := by decide +kernel
theorem dX5_setAndSpread_55 : decode cX5_setAndSpread 55 = .ok (.getfield 9, 3) := by decide +kernel
theorem dX5_setAndSpread_58 : decode cX5_setAndSpread 58 = .ok (.getfield 68, 3) := by decide +kernel
theorem dX5_setAndSpread_61 : decode cX5_setAndSpread 61 = .ok (.iload 5, 2) := by decide +kernel
theorem dX5_setAndSpread_63 : decode cX5_setAndSpread 63 = .ok (.iaload, 1) := by decide +kernel
theorem dX5_setAndSpread_64 : decode cX5_setAndSpread 64 = .ok (.istore 6, 2) := by decide +kernel
theorem dX5_setAndSpread_66 : decode cX5_setAndSpread 66 = .ok (.aload_n 0, 1) := by decide +kernel
theorem dX5_setAndSpread_67 : decode cX5_setAndSpread 67 = .ok (.iload 5, 2) := by decide +kernel
theorem dX5_setAndSpread_69 : decode cX5_setAndSpread 69 = .ok (.aload_n 0, 1) := by decide +kernel
theorem dX5_setAndSpread_70 : decode cX5_setAndSpread 70 = .ok (.getfield 26, 3) := by decide +kernel
theorem dX5_setAndSpread_73 : decode cX5_setAndSpread 73 = .ok (.aload_n 0, 1) := by decide +kernel
theorem dX5_setAndSpread_74 : decode cX5_setAndSpread 74 = .ok (.getfield 9, 3) := by decide +kernel
theorem dX5_setAndSpread_77 : decode cX5_setAndSpread 77 = .ok (.getfield 109, 3) := by decide +kernel
theorem dX5_setAndSpread_80 : decode cX5_setAndSpread 80 = .ok (.iload 6, 2) := by decide +kernel
theorem dX5_setAndSpread_82 : decode cX5_setAndSpread 82 = .ok (.iaload, 1) := by decide +kernel
theorem dX5_setAndSpread_83 : decode cX5_setAndSpread 83 = .ok (.invokestatic 112, 3) := by decide +kernel
theorem dX5_setAndSpread_86 : decode cX5_setAndSpread 86 = .ok (.aload_n 0, 1) := by decide +kernel
theorem dX5_setAndSpread_87 : decode cX5_setAndSpread 87 = .ok (.getfield 26, 3) := by decide +kernel
theorem dX5_setAndSpread_90 : decode cX5_setAndSpread 90 = .ok (.aload_n 0, 1) := by decide +kernel
theorem dX5_setAndSpread_91 : decode cX5_setAndSpread 91 = .ok (.getfield 9, 3) := by decide +kernel
theorem dX5_setAndSpread_94 : decode cX5_setAndSpread 94 = .ok (.getfield 116, 3) := by decide +kernel
theorem dX5_setAndSpread_97 : decode cX5_setAndSpread 97 = .ok (.iload 6, 2) := by decide +kernel
theorem dX5_setAndSpread_99 : decode cX5_setAndSpread 99 = .ok (.iaload, 1) := by decide +kernel
theorem dX5_setAndSpread_100 : decode cX5_setAndSpread 100 = .ok (.invokestatic 112, 3) := by decide +kernel
theorem dX5_setAndSpread_103 : decode cX5_setAndSpread 103 = .ok (.iand, 1) := by decide +kernel
theorem dX5_setAndSpread_104 : decode cX5_setAndSpread 104 = .ok (.invokevirtual 71, 3) := by decide +kernel
theorem dX5_setAndSpread_107 : decode cX5_setAndSpread 107 = .ok (.iinc 5 1, 3) := by decide +kernel
theorem dX5_setAndSpread_110 : decode cX5_setAndSpread 110 = .ok (.goto (-101), 3) := by decide +kernel
theorem dX5_setAndSpread_113 : decode cX5_setAndSpread 113 = .ok (.return_, 1) := by decide +kernel
theorem dX6_init_0 : decode cX6_init 0 = .ok (.aload_n 0, 1) := by decide +kernel
theorem dX6_init_1 : decode cX6_init 1 = .ok (.invokespecial 3, 3) := by decide +kernel
theorem dX6_init_4 : decode cX6_init 4 = .ok (.aload_n 0, 1) := by decide +kernel
theorem dX6_init_5 : decode cX6_init 5 = .ok (.aload_n 1, 1) := by decide +kernel
theorem dX6_init_6 : decode cX6_init 6 = .ok (.putfield 9, 3) := by decide +kernel
theorem dX6_init_9 : decode cX6_init 9 = .ok (.aload_n 0, 1) := by decide +kernel
theorem dX6_init_10 : decode cX6_init 10 = .ok (.iconst 2, 1) := by decide +kernel
theorem dX6_init_11 : decode cX6_init 11 = .ok (.newarray .int, 2) := by decide +kernel
theorem dX6_init_13 : decode cX6_init 13 = .ok (.putfield 15, 3) := by decide +kernel
theorem dX6_init_16 : decode cX6_init 16 = .ok (.return_, 1) := by decide +kernel
theorem dX6_take_0 : decode cX6_take 0 = .ok (.aload_n 0, 1) := by decide +kernel
theorem dX6_take_1 : decode cX6_take 1 = .ok (.getfield 15, 3) := by decide +kernel
theorem dX6_take_4 : decode cX6_take 4 = .ok (.iconst 0, 1) := by decide +kernel
theorem dX6_take_5 : decode cX6_take 5 = .ok (.iconst (-1), 1) := by decide +kernel
theorem dX6_take_6 : decode cX6_take 6 = .ok (.iastore, 1) := by decide +kernel
theorem dX6_take_7 : decode cX6_take 7 = .ok (.aload_n 0, 1) := by decide +kernel
theorem dX6_take_8 : decode cX6_take 8 = .ok (.getfield 15, 3) := by decide +kernel
theorem dX6_take_11 : decode cX6_take 11 = .ok (.iconst 1, 1) := by decide +kernel
theorem dX6_take_12 : decode cX6_take 12 = .ok (.iconst (-1), 1) := by decide +kernel
theorem dX6_take_13 : decode cX6_take 13 = .ok (.iastore, 1) := by decide +kernel
theorem dX6_take_14 : decode cX6_take 14 = .ok (.aload_n 0, 1) := by decide +kernel
theorem dX6_take_15 : decode cX6_take 15 = .ok (.iload_n 2, 1) := by decide +kernel
theorem dX6_take_16 : decode cX6_take 16 = .ok (.ifCond .ne 7, 3) := by decide +kernel
theorem dX6_take_19 : decode cX6_take 19 = .ok (.iconst 0, 1) := by decide +kernel
theorem dX6_take_20 : decode cX6_take 20 = .ok (.goto 4, 3) := by decide +kernel
theorem dX6_take_23 : decode cX6_take 23 = .ok (.iconst (-1), 1) := by decide +kernel
theorem dX6_take_24 : decode cX6_take 24 = .ok (.putfield 19, 3) := by decide +kernel
theorem dX6_take_27 : decode cX6_take 27 = .ok (.iload_n 2, 1) := by decide +kernel
theorem dX6_take_28 : decode cX6_take 28 = .ok (.iconst 1, 1) := by decide +kernel
theorem dX6_take_29 : decode cX6_take 29 = .ok (.if_icmp .ne 16, 3) := by decide +kernel
theorem dX6_take_32 : decode cX6_take 32 = .ok (.aload_n 0, 1) := by decide +kernel
theorem dX6_take_33 : decode cX6_take 33 = .ok (.aload_n 1, 1) := by decide +kernel
theorem dX6_take_34 : decode cX6_take 34 = .ok (.iconst 0, 1) := by decide +kernel
theorem dX6_take_35 : decode cX6_take 35 = .ok (.aaload, 1) := by decide +kernel
theorem dX6_take_36 : decode cX6_take 36 = .ok (.getfield 23, 3) := by decide +kernel
theorem dX6_take_39 : decode cX6_take 39 = .ok (.invokevirtual 28, 3) := by decide +kernel
theorem dX6_take_42 : decode cX6_take 42 = .ok (.goto 24, 3) := by decide +kernel
theorem dX6_take_45 : decode cX6_take 45 = .ok (.iload_n 2, 1) := by decide +kernel
theorem dX6_take_46 : decode cX6_take 46 = .ok (.iconst 2, 1) := by decide +kernel
theorem dX6_take_47 : decode cX6_take 47 = .ok (.if_icmp .ne 19, 3) := by decide +kernel
theorem dX6_take_50 : decode cX6_take 50 = .ok (.aload_n 0, 1) := by decide +kernel
theorem dX6_take_51 : decode cX6_take 51 = .ok (.aload_n 1, 1) := by decide +kernel
theorem dX6_take_52 : decode cX6_take 52 = .ok (.iconst 0, 1) := by decide +kernel
theorem dX6_take_53 : decode cX6_take 53 = .ok (.aaload, 1) := by decide +kernel
theorem dX6_take_54 : decode cX6_take 54 = .ok (.getfield 23, 3) := by decide +kernel
theorem dX6_take_57 : decode cX6_take 57 = .ok (.aload_n 1, 1) := by decide +kernel
theorem dX6_take_58 : decode cX6_take 58 = .ok (.iconst 1, 1) := by decide +kernel
theorem dX6_take_59 : decode cX6_take 59 = .ok (.aaload, 1) := by decide +kernel
theorem dX6_take_60 : decode cX6_take 60 = .ok (.getfield 23, 3) := by decide +kernel
theorem dX6_take_63 : decode cX6_take 63 = .ok (.invokevirtual 32, 3) := by decide +kernel
theorem dX6_take_66 : decode cX6_take 66 = .ok (.return_, 1) := by decide +kernel
theorem dX6_takeForOne_0 : decode cX6_takeForOne 0 = .ok (.iconst 0, 1) := by decide +kernel
theorem dX6_takeForOne_1 : decode cX6_takeForOne 1 = .ok (.istore_n 2, 1) := by decide +kernel
theorem dX6_takeForOne_2 : decode cX6_takeForOne 2 = .ok (.iload_n 2, 1) := by decide +kernel
theorem dX6_takeForOne_3 : decode cX6_takeForOne 3 = .ok (.aload_n 0, 1) := by decide +kernel
theorem dX6_takeForOne_4 : decode cX6_takeForOne 4 = .ok (.getfield 9, 3) := by decide +kernel
theorem dX6_takeForOne_7 : decode cX6_takeForOne 7 = .ok (.getfield 36, 3) := by decide +kernel
theorem dX6_takeForOne_10 : decode cX6_takeForOne 10 = .ok (.if_icmp .ge 24, 3) := by decide +kernel
theorem dX6_takeForOne_13 : decode cX6_takeForOne 13 = .ok (.aload_n 0, 1) := by decide +kernel
theorem dX6_takeForOne_14 : decode cX6_takeForOne 14 = .ok (.aload_n 0, 1) := by decide +kernel
theorem dX6_takeForOne_15 : decode cX6_takeForOne 15 = .ok (.getfield 9, 3) := by decide +kernel
theorem dX6_takeForOne_18 : decode cX6_takeForOne 18 = .ok (.iload_n 1, 1) := by decide +kernel
theorem dX6_takeForOne_19 : decode cX6_takeForOne 19 = .ok (.iload_n 2, 1) := by decide +kernel
theorem dX6_takeForOne_20 : decode cX6_takeForOne 20 = .ok (.invokevirtual 41, 3) := by decide +kernel
theorem dX6_takeForOne_23 : decode cX6_takeForOne 23 = .ok (.iload_n 2, 1) := by decide +kernel
theorem dX6_takeForOne_24 : decode cX6_takeForOne 24 = .ok (.iconst (-1), 1) := by decide +kernel
theorem dX6_takeForOne_25 : decode cX6_takeForOne 25 = .ok (.invokevirtual 45, 3) := by decide +kernel
theorem dX6_takeForOne_28 : decode cX6_takeForOne 28 = .ok (.iinc 2 1, 3) := by decide +kernel
theorem dX6_takeForOne_31 : decode cX6_takeForOne 31 = .ok (.goto (-29), 3) := by decide +kernel
theorem dX6_takeForOne_34 : decode cX6_takeForOne 34 = .ok (.return_, 1) := by decide +kernel
theorem dX6_takeForTwo_0 : decode cX6_takeForTwo 0 = .ok (.iconst 0, 1) := by decide +kernel
theorem dX6_takeForTwo_1 : decode cX6_takeForTwo 1 = .ok (.istore_n 3, 1) := by decide +kernel
theorem dX6_takeForTwo_2 : decode cX6_takeForTwo 2 = .ok (.iload_n 3, 1) := by decide +kernel
theorem dX6_takeForTwo_3 : decode cX6_takeForTwo 3 = .ok (.aload_n 0, 1) := by decide +kernel
theorem dX6_takeForTwo_4 : decode cX6_takeForTwo 4 = .ok (.getfield 9, 3) := by decide +kernel
theorem dX6_takeForTwo_7 : decode cX6_takeForTwo 7 = .ok (.getfield 36, 3) := by decide +kernel
theorem dX6_takeForTwo_10 : decode cX6_takeForTwo 10 = .ok (.if_icmp .ge 63, 3) := by decide +kernel
theorem dX6_takeForTwo_13 : decode cX6_takeForTwo 13 = .ok (.iconst 0, 1) := by decide +kernel
theorem dX6_takeForTwo_14 : decode cX6_takeForTwo 14 = .ok (.istore 4, 2) := by decide +kernel
theorem dX6_takeForTwo_16 : decode cX6_takeForTwo 16 = .ok (.iload 4, 2) := by decide +kernel
theorem dX6_takeForTwo_18 : decode cX6_takeForTwo 18 = .ok (.aload_n 0, 1) := by decide +kernel
theorem dX6_takeForTwo_19 : decode cX6_takeForTwo 19 = .ok (.getfield 9, 3) := by decide +kernel
theorem dX6_takeForTwo_22 : decode cX6_takeForTwo 22 = .ok (.getfield 36, 3) := by decide +kernel
theorem dX6_takeForTwo_25 : decode cX6_takeForTwo 25 = .ok (.if_icmp .ge 42, 3) := by decide +kernel
theorem dX6_takeForTwo_28 : decode cX6_takeForTwo 28 = .ok (.iload_n 3, 1) := by decide +kernel
theorem dX6_takeForTwo_29 : decode cX6_takeForTwo 29 = .ok (.iload 4, 2) := by decide +kernel
theorem dX6_takeForTwo_31 : decode cX6_takeForTwo 31 = .ok (.if_icmp .eq 30, 3) := by decide +kernel
theorem dX6_takeForTwo_34 : decode cX6_takeForTwo 34 = .ok (.aload_n 0, 1) := by decide +kernel
theorem dX6_takeForTwo_35 : decode cX6_takeForTwo 35 = .ok (.aload_n 0, 1) := by decide +kernel
theorem dX6_takeForTwo_36 : decode cX6_takeForTwo 36 = .ok (.getfield 9, 3) := by decide +kernel
theorem dX6_takeForTwo_39 : decode cX6_takeForTwo 39 = .ok (.iload_n 1, 1) := by decide +kernel
theorem dX6_takeForTwo_40 : decode cX6_takeForTwo 40 = .ok (.iload_n 3, 1) := by decide +kernel
theorem dX6_takeForTwo_41 : decode cX6_takeForTwo 41 = .ok (.invokevirtual 41, 3) := by decide +kernel
theorem dX6_takeForTwo_44 : decode cX6_takeForTwo 44 = .ok (.aload_n 0, 1) := by decide +kernel
theorem dX6_takeForTwo_45 : decode cX6_takeForTwo 45 = .ok (.getfield 9, 3) := by decide +kernel
theorem dX6_takeForTwo_48 : decode cX6_takeForTwo 48 = .ok (.iload_n 2, 1) := by decide +kernel
theorem dX6_takeForTwo_49 : decode cX6_takeForTwo 49 = .ok (.iload 4, 2) := by decide +kernel
theorem dX6_takeForTwo_51 : decode cX6_takeForTwo 51 = .ok (.invokevirtual 41, 3) := by decide +kernel
theorem dX6_takeForTwo_54 : decode cX6_takeForTwo 54 = .ok (.iadd, 1) := by decide +kernel
theorem dX6_takeForTwo_55 : decode cX6_takeForTwo 55 = .ok (.iload_n 3, 1) := by decide +kernel
theorem dX6_takeForTwo_56 : decode cX6_takeForTwo 56 = .ok (.iload 4, 2) := by decide +kernel
theorem dX6_takeForTwo_58 : decode cX6_takeForTwo 58 = .ok (.invokevirtual 45, 3) := by decide +kernel
theorem dX6_takeForTwo_61 : decode cX6_takeForTwo 61 = .ok (.iinc 4 1, 3) := by decide +kernel
theorem dX6_takeForTwo_64 : decode cX6_takeForTwo 64 = .ok (.goto (-48), 3) := by decide +kernel
theorem dX6_takeForTwo_67 : decode cX6_takeForTwo 67 = .ok (.iinc 3 1, 3) := by decide +kernel
theorem dX6_takeForTwo_70 : decode cX6_takeForTwo 70 = .ok (.goto (-68), 3) := by decide +kernel
theorem dX6_takeForTwo_73 : decode cX6_takeForTwo 73 = .ok (.return_, 1) := by decide +kernel
theorem dX6_offer_0 : decode cX6_offer 0 = .ok (.aload_n 0, 1) := by decide +kernel
theorem dX6_offer_1 : decode cX6_offer 1 = .ok (.getfield 19, 3) := by decide +kernel
theorem dX6_offer_4 : decode cX6_offer 4 = .ok (.iconst (-1), 1) := by decide +kernel
theorem dX6_offer_5 : decode cX6_offer 5 = .ok (.if_icmp .eq 11, 3) := by decide +kernel
theorem dX6_offer_8 : decode cX6_offer 8 = .ok (.iload_n 1, 1) := by decide +kernel
theorem dX6_offer_9 : decode cX6_offer 9 = .ok (.aload_n 0, 1) := by decide +kernel
theorem dX6_offer_10 : decode cX6_offer 10 = .ok (.getfield 19, 3) := by decide +kernel
theorem dX6_offer_13 : decode cX6_offer 13 = .ok (.if_icmp .ge 22, 3) := by decide +kernel
theorem dX6_offer_16 : decode cX6_offer 16 = .ok (.aload_n 0, 1) := by decide +kernel
theorem dX6_offer_17 : decode cX6_offer 17 = .ok (.iload_n 1, 1) := by decide +kernel
theorem dX6_offer_18 : decode cX6_offer 18 = .ok (.putfield 19, 3) := by decide +kernel
theorem dX6_offer_21 : decode cX6_offer 21 = .ok (.aload_n 0, 1) := by decide +kernel
theorem dX6_offer_22 : decode cX6_offer 22 = .ok (.getfield 15, 3) := by decide +kernel
theorem dX6_offer_25 : decode cX6_offer 25 = .ok (.iconst 0, 1) := by decide +kernel
theorem dX6_offer_26 : decode cX6_offer 26 = .ok (.iload_n 2, 1) := by decide +kernel
theorem dX6_offer_27 : decode cX6_offer 27 = .ok (.iastore, 1) := by decide +kernel
theorem dX6_offer_28 : decode cX6_offer 28 = .ok (.aload_n 0, 1) := by decide +kernel
theorem dX6_offer_29 : decode cX6_offer 29 = .ok (.getfield 15, 3) := by decide +kernel
theorem dX6_offer_32 : decode cX6_offer 32 = .ok (.iconst 1, 1) := by decide +kernel
theorem dX6_offer_33 : decode cX6_offer 33 = .ok (.iload_n 3, 1) := by decide +kernel
theorem dX6_offer_34 : decode cX6_offer 34 = .ok (.iastore, 1) := by decide +kernel
theorem dX6_offer_35 : decode cX6_offer 35 = .ok (.return_, 1) := by decide +kernel
theorem dX7_init_0 : decode cX7_init 0 = .ok (.aload_n 0, 1) := by decide +kernel
theorem dX7_init_1 : decode cX7_init 1 = .ok (.invokespecial 3, 3) := by decide +kernel
theorem dX7_init_4 : decode cX7_init 4 = .ok (.aload_n 0, 1) := by decide +kernel
theorem dX7_init_5 : decode cX7_init 5 = .ok (.new 9, 3) := by decide +kernel
theorem dX7_init_8 : decode cX7_init 8 = .ok (.dup, 1) := by decide +kernel
theorem dX7_init_9 : decode cX7_init 9 = .ok (.invokespecial 11, 3) := by decide +kernel
theorem dX7_init_12 : decode cX7_init 12 = .ok (.putfield 12, 3) := by decide +kernel
theorem dX7_init_15 : decode cX7_init 15 = .ok (.aload_n 0, 1) := by decide +kernel
theorem dX7_init_16 : decode cX7_init 16 = .ok (.new 16, 3) := by decide +kernel
theorem dX7_init_19 : decode cX7_init 19 = .ok (.dup, 1) := by decide +kernel
theorem dX7_init_20 : decode cX7_init 20 = .ok (.invokespecial 18, 3) := by decide +kernel
theorem dX7_init_23 : decode cX7_init 23 = .ok (.putfield 19, 3) := by decide +kernel
theorem dX7_init_26 : decode cX7_init 26 = .ok (.aload_n 0, 1) := by decide +kernel
theorem dX7_init_27 : decode cX7_init 27 = .ok (.new 23, 3) := by decide +kernel
theorem dX7_init_30 : decode cX7_init 30 = .ok (.dup, 1) := by decide +kernel
theorem dX7_init_31 : decode cX7_init 31 = .ok (.invokespecial 25, 3) := by decide +kernel
theorem dX7_init_34 : decode cX7_init 34 = .ok (.putfield 26, 3) := by decide +kernel
theorem dX7_init_37 : decode cX7_init 37 = .ok (.aload_n 0, 1) := by decide +kernel
theorem dX7_init_38 : decode cX7_init 38 = .ok (.new 30, 3) := by decide +kernel
theorem dX7_init_41 : decode cX7_init 41 = .ok (.dup, 1) := by decide +kernel
theorem dX7_init_42 : decode cX7_init 42 = .ok (.aload_n 0, 1) := by decide +kernel
theorem dX7_init_43 : decode cX7_init 43 = .ok (.getfield 12, 3) := by decide +kernel
theorem dX7_init_46 : decode cX7_init 46 = .ok (.aload_n 0, 1) := by decide +kernel
theorem dX7_init_47 : decode cX7_init 47 = .ok (.getfield 19, 3) := by decide +kernel
theorem dX7_init_50 : decode cX7_init 50 = .ok (.invokespecial 32, 3) := by decide +kernel
theorem dX7_init_53 : decode cX7_init 53 = .ok (.putfield 35, 3) := by decide +kernel
theorem dX7_init_56 : decode cX7_init 56 = .ok (.aload_n 0, 1) := by decide +kernel
theorem dX7_init_57 : decode cX7_init 57 = .ok (.new 39, 3) := by decide +kernel
theorem dX7_init_60 : decode cX7_init 60 = .ok (.dup, 1) := by decide +kernel
theorem dX7_init_61 : decode cX7_init 61 = .ok (.aload_n 0, 1) := by decide +kernel
theorem dX7_init_62 : decode cX7_init 62 = .ok (.getfield 26, 3) := by decide +kernel
theorem dX7_init_65 : decode cX7_init 65 = .ok (.invokespecial 41, 3) := by decide +kernel
theorem dX7_init_68 : decode cX7_init 68 = .ok (.putfield 44, 3) := by decide +kernel
theorem dX7_init_71 : decode cX7_init 71 = .ok (.aload_n 0, 1) := by decide +kernel
theorem dX7_init_72 : decode cX7_init 72 = .ok (.new 48, 3) := by decide +kernel
theorem dX7_init_75 : decode cX7_init 75 = .ok (.dup, 1) := by decide +kernel
theorem dX7_init_76 : decode cX7_init 76 = .ok (.invokespecial 50, 3) := by decide +kernel
theorem dX7_init_79 : decode cX7_init 79 = .ok (.putfield 51, 3) := by decide +kernel
theorem dX7_init_82 : decode cX7_init 82 = .ok (.aload_n 0, 1) := by decide +kernel
theorem dX7_init_83 : decode cX7_init 83 = .ok (.iconst (-1), 1) := by decide +kernel
theorem dX7_init_84 : decode cX7_init 84 = .ok (.putfield 55, 3) := by decide +kernel
theorem dX7_init_87 : decode cX7_init 87 = .ok (.return_, 1) := by decide +kernel
theorem dX7_input_0 : decode cX7_input 0 = .ok (.aload_n 0, 1) := by decide +kernel
theorem dX7_input_1 : decode cX7_input 1 = .ok (.getfield 12, 3) := by decide +kernel
theorem dX7_input_4 : decode cX7_input 4 = .ok (.getfield 59, 3) := by decide +kernel
theorem dX7_input_7 : decode cX7_input 7 = .ok (.iconst 5, 1) := by decide +kernel
theorem dX7_input_8 : decode cX7_input 8 = .ok (.if_icmp .ge 21, 3) := by decide +kernel
theorem dX7_input_11 : decode cX7_input 11 = .ok (.aload_n 0, 1) := by decide +kernel
theorem dX7_input_12 : decode cX7_input 12 = .ok (.getfield 12, 3) := by decide +kernel
theorem dX7_input_15 : decode cX7_input 15 = .ok (.getfield 62, 3) := by decide +kernel
theorem dX7_input_18 : decode cX7_input 18 = .ok (.aload_n 0, 1) := by decide +kernel
theorem dX7_input_19 : decode cX7_input 19 = .ok (.getfield 12, 3) := by decide +kernel
theorem dX7_input_22 : decode cX7_input 22 = .ok (.getfield 65, 3) := by decide +kernel
theorem dX7_input_25 : decode cX7_input 25 = .ok (.iadd, 1) := by decide +kernel
theorem dX7_input_26 : decode cX7_input 26 = .ok (.ifCond .le 13, 3) := by decide +kernel
theorem dX7_input_29 : decode cX7_input 29 = .ok (.new 68, 3) := by decide +kernel
theorem dX7_input_32 : decode cX7_input 32 = .ok (.dup, 1) := by decide +kernel
theorem dX7_input_33 : decode cX7_input 33 = .ok (.ldc 70, 2) := by decide +kernel
theorem dX7_input_35 : decode cX7_input 35 = .ok (.invokespecial 72, 3) := by decide +kernel
theorem dX7_input_38 : decode cX7_input 38 = .ok (.athrow, 1) := by decide +kernel
theorem dX7_input_39 : decode cX7_input 39 = .ok (.aload_n 0, 1) := by decide +kernel
theorem dX7_input_40 : decode cX7_input 40 = .ok (.iconst (-1), 1) := by decide +kernel
theorem dX7_input_41 : decode cX7_input 41 = .ok (.putfield 55, 3) := by decide +kernel
theorem dX7_input_44 : decode cX7_input 44 = .ok (.aload_n 0, 1) := by decide +kernel
theorem dX7_input_45 : decode cX7_input 45 = .ok (.getfield 12, 3) := by decide +kernel
theorem dX7_input_48 : decode cX7_input 48 = .ok (.invokevirtual 75, 3) := by decide +kernel
theorem dX7_input_51 : decode cX7_input 51 = .ok (.ireturn, 1) := by decide +kernel
theorem dX7_old_0 : decode cX7_old 0 = .ok (.aload_n 0, 1) := by decide +kernel
theorem dX7_old_1 : decode cX7_old 1 = .ok (.getfield 12, 3) := by decide +kernel
theorem dX7_old_4 : decode cX7_old 4 = .ok (.iload_n 1, 1) := by decide +kernel
theorem dX7_old_5 : decode cX7_old 5 = .ok (.invokevirtual 79, 3) := by decide +kernel
theorem dX7_old_8 : decode cX7_old 8 = .ok (.ifCond .eq 14, 3) := by decide +kernel
theorem dX7_old_11 : decode cX7_old 11 = .ok (.aload_n 0, 1) := by decide +kernel
theorem dX7_old_12 : decode cX7_old 12 = .ok (.getfield 12, 3) := by decide +kernel
theorem dX7_old_15 : decode cX7_old 15 = .ok (.iload_n 2, 1) := by decide +kernel
theorem dX7_old_16 : decode cX7_old 16 = .ok (.invokevirtual 79, 3) := by decide +kernel
theorem dX7_old_19 : decode cX7_old 19 = .ok (.ifCond .ne 13, 3) := by decide +kernel
theorem dX7_old_22 : decode cX7_old 22 = .ok (.new 83, 3) := by decide +kernel
theorem dX7_old_25 : decode cX7_old 25 = .ok (.dup, 1) := by decide +kernel
theorem dX7_old_26 : decode cX7_old 26 = .ok (.ldc 85, 2) := by decide +kernel
theorem dX7_old_28 : decode cX7_old 28 = .ok (.invokespecial 87, 3) := by decide +kernel
theorem dX7_old_31 : decode cX7_old 31 = .ok (.athrow, 1) := by decide +kernel
theorem dX7_old_32 : decode cX7_old 32 = .ok (.aload_n 0, 1) := by decide +kernel
theorem dX7_old_33 : decode cX7_old 33 = .ok (.getfield 12, 3) := by decide +kernel
theorem dX7_old_36 : decode cX7_old 36 = .ok (.getfield 62, 3) := by decide +kernel
theorem dX7_old_39 : decode cX7_old 39 = .ok (.bipush 8, 2) := by decide +kernel
theorem dX7_old_41 : decode cX7_old 41 = .ok (.if_icmp .lt 13, 3) := by decide +kernel
theorem dX7_old_44 : decode cX7_old 44 = .ok (.new 68, 3) := by decide +kernel
theorem dX7_old_47 : decode cX7_old 47 = .ok (.dup, 1) := by decide +kernel
theorem dX7_old_48 : decode cX7_old 48 = .ok (.ldc 88, 2) := by decide +kernel
theorem dX7_old_50 : decode cX7_old 50 = .ok (.invokespecial 72, 3) := by decide +kernel
theorem dX7_old_53 : decode cX7_old 53 = .ok (.athrow, 1) := by decide +kernel
theorem dX7_old_54 : decode cX7_old 54 = .ok (.aload_n 0, 1) := by decide +kernel
theorem dX7_old_55 : decode cX7_old 55 = .ok (.getfield 12, 3) := by decide +kernel
theorem dX7_old_58 : decode cX7_old 58 = .ok (.iconst 2, 1) := by decide +kernel
theorem dX7_old_59 : decode cX7_old 59 = .ok (.iload_n 1, 1) := by decide +kernel
theorem dX7_old_60 : decode cX7_old 60 = .ok (.invokevirtual 90, 3) := by decide +kernel
theorem dX7_old_63 : decode cX7_old 63 = .ok (.ifCond .ne 15, 3) := by decide +kernel
theorem dX7_old_66 : decode cX7_old 66 = .ok (.aload_n 0, 1) := by decide +kernel
theorem dX7_old_67 : decode cX7_old 67 = .ok (.getfield 12, 3) := by decide +kernel
theorem dX7_old_70 : decode cX7_old 70 = .ok (.iconst 2, 1) := by decide +kernel
theorem dX7_old_71 : decode cX7_old 71 = .ok (.iload_n 2, 1) := by decide +kernel
theorem dX7_old_72 : decode cX7_old 72 = .ok (.invokevirtual 90, 3) := by decide +kernel
theorem dX7_old_75 : decode cX7_old 75 = .ok (.ifCond .eq 13, 3) := by decide +kernel
theorem dX7_old_78 : decode cX7_old 78 = .ok (.new 94, 3) := by decide +kernel
theorem dX7_old_81 : decode cX7_old 81 = .ok (.dup, 1) := by decide +kernel
theorem dX7_old_82 : decode cX7_old 82 = .ok (.ldc 96, 2) := by decide +kernel
theorem dX7_old_84 : decode cX7_old 84 = .ok (.invokespecial 98, 3) := by decide +kernel
theorem dX7_old_87 : decode cX7_old 87 = .ok (.athrow, 1) := by decide +kernel
theorem dX7_old_88 : decode cX7_old 88 = .ok (.aload_n 0, 1) := by decide +kernel
theorem dX7_old_89 : decode cX7_old 89 = .ok (.iconst (-1), 1) := by decide +kernel
theorem dX7_old_90 : decode cX7_old 90 = .ok (.putfield 55, 3) := by decide +kernel
theorem dX7_old_93 : decode cX7_old 93 = .ok (.aload_n 0, 1) := by decide +kernel
theorem dX7_old_94 : decode cX7_old 94 = .ok (.getfield 26, 3) := by decide +kernel
theorem dX7_old_97 : decode cX7_old 97 = .ok (.aload_n 0, 1) := by decide +kernel
theorem dX7_old_98 : decode cX7_old 98 = .ok (.getfield 12, 3) := by decide +kernel
theorem dX7_old_101 : decode cX7_old 101 = .ok (.getfield 99, 3) := by decide +kernel
theorem dX7_old_104 : decode cX7_old 104 = .ok (.invokevirtual 102, 3) := by decide +kernel
theorem dX7_old_107 : decode cX7_old 107 = .ok (.aload_n 0, 1) := by decide +kernel
theorem dX7_old_108 : decode cX7_old 108 = .ok (.getfield 12, 3) := by decide +kernel
theorem dX7_old_111 : decode cX7_old 111 = .ok (.iload_n 1, 1) := by decide +kernel
theorem dX7_old_112 : decode cX7_old 112 = .ok (.iload_n 2, 1) := by decide +kernel
theorem dX7_old_113 : decode cX7_old 113 = .ok (.invokevirtual 106, 3) := by decide +kernel
theorem dX7_old_116 : decode cX7_old 116 = .ok (.ireturn, 1) := by decide +kernel
theorem dX7_asked_0 : decode cX7_asked 0 = .ok (.aload_n 0, 1) := by decide +kernel
theorem dX7_asked_1 : decode cX7_asked 1 = .ok (.getfield 12, 3) := by decide +kernel
theorem dX7_asked_4 : decode cX7_asked 4 = .ok (.iload_n 1, 1) := by decide +kernel
theorem dX7_asked_5 : decode cX7_asked 5 = .ok (.invokevirtual 79, 3) := by decide +kernel
theorem dX7_asked_8 : decode cX7_asked 8 = .ok (.ifCond .eq 14, 3) := by decide +kernel
theorem dX7_asked_11 : decode cX7_asked 11 = .ok (.aload_n 0, 1) := by decide +kernel
theorem dX7_asked_12 : decode cX7_asked 12 = .ok (.getfield 12, 3) := by decide +kernel
theorem dX7_asked_15 : decode cX7_asked 15 = .ok (.iload_n 2, 1) := by decide +kernel
theorem dX7_asked_16 : decode cX7_asked 16 = .ok (.invokevirtual 79, 3) := by decide +kernel
theorem dX7_asked_19 : decode cX7_asked 19 = .ok (.ifCond .ne 13, 3) := by decide +kernel
theorem dX7_asked_22 : decode cX7_asked 22 = .ok (.new 83, 3) := by decide +kernel
theorem dX7_asked_25 : decode cX7_asked 25 = .ok (.dup, 1) := by decide +kernel
theorem dX7_asked_26 : decode cX7_asked 26 = .ok (.ldc 85, 2) := by decide +kernel
theorem dX7_asked_28 : decode cX7_asked 28 = .ok (.invokespecial 87, 3) := by decide +kernel
theorem dX7_asked_31 : decode cX7_asked 31 = .ok (.athrow, 1) := by decide +kernel
theorem dX7_asked_32 : decode cX7_asked 32 = .ok (.aload_n 0, 1) := by decide +kernel
theorem dX7_asked_33 : decode cX7_asked 33 = .ok (.getfield 12, 3) := by decide +kernel
theorem dX7_asked_36 : decode cX7_asked 36 = .ok (.getfield 65, 3) := by decide +kernel
theorem dX7_asked_39 : decode cX7_asked 39 = .ok (.bipush 24, 2) := by decide +kernel
theorem dX7_asked_41 : decode cX7_asked 41 = .ok (.if_icmp .lt 13, 3) := by decide +kernel
theorem dX7_asked_44 : decode cX7_asked 44 = .ok (.new 68, 3) := by decide +kernel
theorem dX7_asked_47 : decode cX7_asked 47 = .ok (.dup, 1) := by decide +kernel
theorem dX7_asked_48 : decode cX7_asked 48 = .ok (.ldc 110, 2) := by decide +kernel
theorem dX7_asked_50 : decode cX7_asked 50 = .ok (.invokespecial 72, 3) := by decide +kernel
theorem dX7_asked_53 : decode cX7_asked 53 = .ok (.athrow, 1) := by decide +kernel
theorem dX7_asked_54 : decode cX7_asked 54 = .ok (.aload_n 0, 1) := by decide +kernel
theorem dX7_asked_55 : decode cX7_asked 55 = .ok (.getfield 12, 3) := by decide +kernel
theorem dX7_asked_58 : decode cX7_asked 58 = .ok (.iconst 1, 1) := by decide +kernel
theorem dX7_asked_59 : decode cX7_asked 59 = .ok (.iload_n 1, 1) := by decide +kernel
theorem dX7_asked_60 : decode cX7_asked 60 = .ok (.invokevirtual 90, 3) := by decide +kernel
theorem dX7_asked_63 : decode cX7_asked 63 = .ok (.ifCond .ne 15, 3) := by decide +kernel
theorem dX7_asked_66 : decode cX7_asked 66 = .ok (.aload_n 0, 1) := by decide +kernel
theorem dX7_asked_67 : decode cX7_asked 67 = .ok (.getfield 12, 3) := by decide +kernel
theorem dX7_asked_70 : decode cX7_asked 70 = .ok (.iconst 1, 1) := by decide +kernel
theorem dX7_asked_71 : decode cX7_asked 71 = .ok (.iload_n 2, 1) := by decide +kernel
theorem dX7_asked_72 : decode cX7_asked 72 = .ok (.invokevirtual 90, 3) := by decide +kernel
theorem dX7_asked_75 : decode cX7_asked 75 = .ok (.ifCond .eq 13, 3) := by decide +kernel
theorem dX7_asked_78 : decode cX7_asked 78 = .ok (.new 94, 3) := by decide +kernel
theorem dX7_asked_81 : decode cX7_asked 81 = .ok (.dup, 1) := by decide +kernel
theorem dX7_asked_82 : decode cX7_asked 82 = .ok (.ldc 112, 2) := by decide +kernel
theorem dX7_asked_84 : decode cX7_asked 84 = .ok (.invokespecial 98, 3) := by decide +kernel
theorem dX7_asked_87 : decode cX7_asked 87 = .ok (.athrow, 1) := by decide +kernel
theorem dX7_asked_88 : decode cX7_asked 88 = .ok (.aload_n 0, 1) := by decide +kernel
theorem dX7_asked_89 : decode cX7_asked 89 = .ok (.iconst (-1), 1) := by decide +kernel
theorem dX7_asked_90 : decode cX7_asked 90 = .ok (.putfield 55, 3) := by decide +kernel
theorem dX7_asked_93 : decode cX7_asked 93 = .ok (.aload_n 0, 1) := by decide +kernel
theorem dX7_asked_94 : decode cX7_asked 94 = .ok (.getfield 12, 3) := by decide +kernel
theorem dX7_asked_97 : decode cX7_asked 97 = .ok (.iload_n 1, 1) := by decide +kernel
theorem dX7_asked_98 : decode cX7_asked 98 = .ok (.iload_n 2, 1) := by decide +kernel
theorem dX7_asked_99 : decode cX7_asked 99 = .ok (.invokevirtual 114, 3) := by decide +kernel
theorem dX7_asked_102 : decode cX7_asked 102 = .ok (.ireturn, 1) := by decide +kernel
theorem dX7_output_0 : decode cX7_output 0 = .ok (.aload_n 0, 1) := by decide +kernel
theorem dX7_output_1 : decode cX7_output 1 = .ok (.getfield 12, 3) := by decide +kernel
theorem dX7_output_4 : decode cX7_output 4 = .ok (.iload_n 1, 1) := by decide +kernel
theorem dX7_output_5 : decode cX7_output 5 = .ok (.invokevirtual 79, 3) := by decide +kernel
theorem dX7_output_8 : decode cX7_output 8 = .ok (.ifCond .eq 14, 3) := by decide +kernel
theorem dX7_output_11 : decode cX7_output 11 = .ok (.aload_n 0, 1) := by decide +kernel
theorem dX7_output_12 : decode cX7_output 12 = .ok (.getfield 12, 3) := by decide +kernel
theorem dX7_output_15 : decode cX7_output 15 = .ok (.iload_n 2, 1) := by decide +kernel
theorem dX7_output_16 : decode cX7_output 16 = .ok (.invokevirtual 79, 3) := by decide +kernel
theorem dX7_output_19 : decode cX7_output 19 = .ok (.ifCond .ne 13, 3) := by decide +kernel
theorem dX7_output_22 : decode cX7_output 22 = .ok (.new 83, 3) := by decide +kernel
theorem dX7_output_25 : decode cX7_output 25 = .ok (.dup, 1) := by decide +kernel
theorem dX7_output_26 : decode cX7_output 26 = .ok (.ldc 85, 2) := by decide +kernel
theorem dX7_output_28 : decode cX7_output 28 = .ok (.invokespecial 87, 3) := by decide +kernel
theorem dX7_output_31 : decode cX7_output 31 = .ok (.athrow, 1) := by decide +kernel
theorem dX7_output_32 : decode cX7_output 32 = .ok (.aload_n 0, 1) := by decide +kernel
theorem dX7_output_33 : decode cX7_output 33 = .ok (.getfield 19, 3) := by decide +kernel
theorem dX7_output_36 : decode cX7_output 36 = .ok (.getfield 117, 3) := by decide +kernel
theorem dX7_output_39 : decode cX7_output 39 = .ok (.iconst 4, 1) := by decide +kernel
theorem dX7_output_40 : decode cX7_output 40 = .ok (.if_icmp .lt 13, 3) := by decide +kernel
theorem dX7_output_43 : decode cX7_output 43 = .ok (.new 68, 3) := by decide +kernel
theorem dX7_output_46 : decode cX7_output 46 = .ok (.dup, 1) := by decide +kernel
theorem dX7_output_47 : decode cX7_output 47 = .ok (.ldc 120, 2) := by decide +kernel
theorem dX7_output_49 : decode cX7_output 49 = .ok (.invokespecial 72, 3) := by decide +kernel
theorem dX7_output_52 : decode cX7_output 52 = .ok (.athrow, 1) := by decide +kernel
theorem dX7_output_53 : decode cX7_output 53 = .ok (.aload_n 0, 1) := by decide +kernel
theorem dX7_output_54 : decode cX7_output 54 = .ok (.getfield 12, 3) := by decide +kernel
theorem dX7_output_57 : decode cX7_output 57 = .ok (.iconst 2, 1) := by decide +kernel
theorem dX7_output_58 : decode cX7_output 58 = .ok (.iload_n 1, 1) := by decide +kernel
theorem dX7_output_59 : decode cX7_output 59 = .ok (.invokevirtual 90, 3) := by decide +kernel
theorem dX7_output_62 : decode cX7_output 62 = .ok (.ifCond .ne 15, 3) := by decide +kernel
theorem dX7_output_65 : decode cX7_output 65 = .ok (.aload_n 0, 1) := by decide +kernel
theorem dX7_output_66 : decode cX7_output 66 = .ok (.getfield 12, 3) := by decide +kernel
theorem dX7_output_69 : decode cX7_output 69 = .ok (.iconst 1, 1) := by decide +kernel
theorem dX7_output_70 : decode cX7_output 70 = .ok (.iload_n 2, 1) := by decide +kernel
theorem dX7_output_71 : decode cX7_output 71 = .ok (.invokevirtual 90, 3) := by decide +kernel
theorem dX7_output_74 : decode cX7_output 74 = .ok (.ifCond .eq 13, 3) := by decide +kernel
theorem dX7_output_77 : decode cX7_output 77 = .ok (.new 94, 3) := by decide +kernel
theorem dX7_output_80 : decode cX7_output 80 = .ok (.dup, 1) := by decide +kernel
theorem dX7_output_81 : decode cX7_output 81 = .ok (.ldc 122, 2) := by decide +kernel
theorem dX7_output_83 : decode cX7_output 83 = .ok (.invokespecial 98, 3) := by decide +kernel
theorem dX7_output_86 : decode cX7_output 86 = .ok (.athrow, 1) := by decide +kernel
theorem dX7_output_87 : decode cX7_output 87 = .ok (.aload_n 0, 1) := by decide +kernel
theorem dX7_output_88 : decode cX7_output 88 = .ok (.iconst (-1), 1) := by decide +kernel
theorem dX7_output_89 : decode cX7_output 89 = .ok (.putfield 55, 3) := by decide +kernel
theorem dX7_output_92 : decode cX7_output 92 = .ok (.aload_n 0, 1) := by decide +kernel
theorem dX7_output_93 : decode cX7_output 93 = .ok (.getfield 19, 3) := by decide +kernel
theorem dX7_output_96 : decode cX7_output 96 = .ok (.iload_n 1, 1) := by decide +kernel
theorem dX7_output_97 : decode cX7_output 97 = .ok (.iload_n 2, 1) := by decide +kernel
theorem dX7_output_98 : decode cX7_output 98 = .ok (.invokevirtual 124, 3) := by decide +kernel
theorem dX7_output_101 : decode cX7_output 101 = .ok (.ireturn, 1) := by decide +kernel
theorem dX7_value_0 : decode cX7_value 0 = .ok (.aload_n 0, 1) := by decide +kernel
theorem dX7_value_1 : decode cX7_value 1 = .ok (.getfield 12, 3) := by decide +kernel
theorem dX7_value_4 : decode cX7_value 4 = .ok (.iload_n 1, 1) := by decide +kernel
theorem dX7_value_5 : decode cX7_value 5 = .ok (.invokevirtual 79, 3) := by decide +kernel
theorem dX7_value_8 : decode cX7_value 8 = .ok (.ifCond .ne 13, 3) := by decide +kernel
theorem dX7_value_11 : decode cX7_value 11 = .ok (.new 83, 3) := by decide +kernel
theorem dX7_value_14 : decode cX7_value 14 = .ok (.dup, 1) := by decide +kernel
theorem dX7_value_15 : decode cX7_value 15 = .ok (.ldc 85, 2) := by decide +kernel
theorem dX7_value_17 : decode cX7_value 17 = .ok (.invokespecial 87, 3) := by decide +kernel
theorem dX7_value_20 : decode cX7_value 20 = .ok (.athrow, 1) := by decide +kernel
theorem dX7_value_21 : decode cX7_value 21 = .ok (.iload_n 2, 1) := by decide +kernel
theorem dX7_value_22 : decode cX7_value 22 = .ok (.bipush 31, 2) := by decide +kernel
theorem dX7_value_24 : decode cX7_value 24 = .ok (.iand, 1) := by decide +kernel
theorem dX7_value_25 : decode cX7_value 25 = .ok (.istore_n 3, 1) := by decide +kernel
theorem dX7_value_26 : decode cX7_value 26 = .ok (.aload_n 0, 1) := by decide +kernel
theorem dX7_value_27 : decode cX7_value 27 = .ok (.getfield 12, 3) := by decide +kernel
theorem dX7_value_30 : decode cX7_value 30 = .ok (.getfield 127, 3) := by decide +kernel
theorem dX7_value_33 : decode cX7_value 33 = .ok (.iload_n 1, 1) := by decide +kernel
theorem dX7_value_34 : decode cX7_value 34 = .ok (.invokestatic 131, 3) := by decide +kernel
theorem dX7_value_37 : decode cX7_value 37 = .ok (.iload_n 3, 1) := by decide +kernel
theorem dX7_value_38 : decode cX7_value 38 = .ok (.iushr, 1) := by decide +kernel
theorem dX7_value_39 : decode cX7_value 39 = .ok (.iconst 1, 1) := by decide +kernel
theorem dX7_value_40 : decode cX7_value 40 = .ok (.iand, 1) := by decide +kernel
theorem dX7_value_41 : decode cX7_value 41 = .ok (.ireturn, 1) := by decide +kernel
theorem dX7_differing_0 : decode cX7_differing 0 = .ok (.iconst 0, 1) := by decide +kernel
theorem dX7_differing_1 : decode cX7_differing 1 = .ok (.istore_n 1, 1) := by decide +kernel
theorem dX7_differing_2 : decode cX7_differing 2 = .ok (.iconst 0, 1) := by decide +kernel
theorem dX7_differing_3 : decode cX7_differing 3 = .ok (.istore_n 2, 1) := by decide +kernel
theorem dX7_differing_4 : decode cX7_differing 4 = .ok (.iload_n 2, 1) := by decide +kernel
theorem dX7_differing_5 : decode cX7_differing 5 = .ok (.aload_n 0, 1) := by decide +kernel
theorem dX7_differing_6 : decode cX7_differing 6 = .ok (.getfield 19, 3) := by decide +kernel
theorem dX7_differing_9 : decode cX7_differing 9 = .ok (.getfield 117, 3) := by decide +kernel
theorem dX7_differing_12 : decode cX7_differing 12 = .ok (.if_icmp .ge 30, 3) := by decide +kernel
theorem dX7_differing_15 : decode cX7_differing 15 = .ok (.aload_n 0, 1) := by decide +kernel
theorem dX7_differing_16 : decode cX7_differing 16 = .ok (.getfield 19, 3) := by decide +kernel
theorem dX7_differing_19 : decode cX7_differing 19 = .ok (.aload_n 0, 1) := by decide +kernel
theorem dX7_differing_20 : decode cX7_differing 20 = .ok (.getfield 12, 3) := by decide +kernel
theorem dX7_differing_23 : decode cX7_differing 23 = .ok (.getfield 127, 3) := by decide +kernel
theorem dX7_differing_26 : decode cX7_differing 26 = .ok (.iload_n 2, 1) := by decide +kernel
theorem dX7_differing_27 : decode cX7_differing 27 = .ok (.invokevirtual 135, 3) := by decide +kernel
theorem dX7_differing_30 : decode cX7_differing 30 = .ok (.ifCond .eq 6, 3) := by decide +kernel
theorem dX7_differing_33 : decode cX7_differing 33 = .ok (.iinc 1 1, 3) := by decide +kernel
theorem dX7_differing_36 : decode cX7_differing 36 = .ok (.iinc 2 1, 3) := by decide +kernel
theorem dX7_differing_39 : decode cX7_differing 39 = .ok (.goto (-35), 3) := by decide +kernel
theorem dX7_differing_42 : decode cX7_differing 42 = .ok (.iload_n 1, 1) := by decide +kernel
theorem dX7_differing_43 : decode cX7_differing 43 = .ok (.ireturn, 1) := by decide +kernel
theorem dX7_witness_0 : decode cX7_witness 0 = .ok (.iload_n 1, 1) := by decide +kernel
theorem dX7_witness_1 : decode cX7_witness 1 = .ok (.ifCond .lt 14, 3) := by decide +kernel
theorem dX7_witness_4 : decode cX7_witness 4 = .ok (.iload_n 1, 1) := by decide +kernel
theorem dX7_witness_5 : decode cX7_witness 5 = .ok (.aload_n 0, 1) := by decide +kernel
theorem dX7_witness_6 : decode cX7_witness 6 = .ok (.getfield 19, 3) := by decide +kernel
theorem dX7_witness_9 : decode cX7_witness 9 = .ok (.getfield 117, 3) := by decide +kernel
theorem dX7_witness_12 : decode cX7_witness 12 = .ok (.if_icmp .lt 13, 3) := by decide +kernel
theorem dX7_witness_15 : decode cX7_witness 15 = .ok (.new 83, 3) := by decide +kernel
theorem dX7_witness_18 : decode cX7_witness 18 = .ok (.dup, 1) := by decide +kernel
theorem dX7_witness_19 : decode cX7_witness 19 = .ok (.ldc 138, 2) := by decide +kernel
theorem dX7_witness_21 : decode cX7_witness 21 = .ok (.invokespecial 87, 3) := by decide +kernel
theorem dX7_witness_24 : decode cX7_witness 24 = .ok (.athrow, 1) := by decide +kernel
theorem dX7_witness_25 : decode cX7_witness 25 = .ok (.aload_n 0, 1) := by decide +kernel
theorem dX7_witness_26 : decode cX7_witness 26 = .ok (.getfield 19, 3) := by decide +kernel
theorem dX7_witness_29 : decode cX7_witness 29 = .ok (.aload_n 0, 1) := by decide +kernel
theorem dX7_witness_30 : decode cX7_witness 30 = .ok (.getfield 12, 3) := by decide +kernel
theorem dX7_witness_33 : decode cX7_witness 33 = .ok (.getfield 127, 3) := by decide +kernel
theorem dX7_witness_36 : decode cX7_witness 36 = .ok (.iload_n 1, 1) := by decide +kernel
theorem dX7_witness_37 : decode cX7_witness 37 = .ok (.invokevirtual 135, 3) := by decide +kernel
theorem dX7_witness_40 : decode cX7_witness 40 = .ok (.invokestatic 140, 3) := by decide +kernel
theorem dX7_witness_43 : decode cX7_witness 43 = .ok (.ireturn, 1) := by decide +kernel
theorem dX7_matched_0 : decode cX7_matched 0 = .ok (.aload_n 0, 1) := by decide +kernel
theorem dX7_matched_1 : decode cX7_matched 1 = .ok (.getfield 12, 3) := by decide +kernel
theorem dX7_matched_4 : decode cX7_matched 4 = .ok (.iload_n 1, 1) := by decide +kernel
theorem dX7_matched_5 : decode cX7_matched 5 = .ok (.invokevirtual 79, 3) := by decide +kernel
theorem dX7_matched_8 : decode cX7_matched 8 = .ok (.ifCond .ne 13, 3) := by decide +kernel
theorem dX7_matched_11 : decode cX7_matched 11 = .ok (.new 83, 3) := by decide +kernel
theorem dX7_matched_14 : decode cX7_matched 14 = .ok (.dup, 1) := by decide +kernel
theorem dX7_matched_15 : decode cX7_matched 15 = .ok (.ldc 85, 2) := by decide +kernel
theorem dX7_matched_17 : decode cX7_matched 17 = .ok (.invokespecial 87, 3) := by decide +kernel
theorem dX7_matched_20 : decode cX7_matched 20 = .ok (.athrow, 1) := by decide +kernel
theorem dX7_matched_21 : decode cX7_matched 21 = .ok (.aload_n 0, 1) := by decide +kernel
theorem dX7_matched_22 : decode cX7_matched 22 = .ok (.getfield 12, 3) := by decide +kernel
theorem dX7_matched_25 : decode cX7_matched 25 = .ok (.aload_n 0, 1) := by decide +kernel
theorem dX7_matched_26 : decode cX7_matched 26 = .ok (.getfield 12, 3) := by decide +kernel
theorem dX7_matched_29 : decode cX7_matched 29 = .ok (.getfield 127, 3) := by decide +kernel
theorem dX7_matched_32 : decode cX7_matched 32 = .ok (.iload_n 1, 1) := by decide +kernel
theorem dX7_matched_33 : decode cX7_matched 33 = .ok (.invokestatic 131, 3) := by decide +kernel
theorem dX7_matched_36 : decode cX7_matched 36 = .ok (.invokevirtual 144, 3) := by decide +kernel
theorem dX7_matched_39 : decode cX7_matched 39 = .ok (.ireturn, 1) := by decide +kernel
theorem dX7_keep_0 : decode cX7_keep 0 = .ok (.aload_n 0, 1) := by decide +kernel
theorem dX7_keep_1 : decode cX7_keep 1 = .ok (.getfield 12, 3) := by decide +kernel
theorem dX7_keep_4 : decode cX7_keep 4 = .ok (.iload_n 1, 1) := by decide +kernel
theorem dX7_keep_5 : decode cX7_keep 5 = .ok (.invokevirtual 147, 3) := by decide +kernel
theorem dX7_keep_8 : decode cX7_keep 8 = .ok (.ifCond .ne 13, 3) := by decide +kernel
theorem dX7_keep_11 : decode cX7_keep 11 = .ok (.new 83, 3) := by decide +kernel
theorem dX7_keep_14 : decode cX7_keep 14 = .ok (.dup, 1) := by decide +kernel
theorem dX7_keep_15 : decode cX7_keep 15 = .ok (.ldc 150, 2) := by decide +kernel
theorem dX7_keep_17 : decode cX7_keep 17 = .ok (.invokespecial 87, 3) := by decide +kernel
theorem dX7_keep_20 : decode cX7_keep 20 = .ok (.athrow, 1) := by decide +kernel
theorem dX7_keep_21 : decode cX7_keep 21 = .ok (.aload_n 0, 1) := by decide +kernel
theorem dX7_keep_22 : decode cX7_keep 22 = .ok (.getfield 12, 3) := by decide +kernel
theorem dX7_keep_25 : decode cX7_keep 25 = .ok (.getfield 152, 3) := by decide +kernel
theorem dX7_keep_28 : decode cX7_keep 28 = .ok (.iload_n 1, 1) := by decide +kernel
theorem dX7_keep_29 : decode cX7_keep 29 = .ok (.baload, 1) := by decide +kernel
theorem dX7_keep_30 : decode cX7_keep 30 = .ok (.iload_n 2, 1) := by decide +kernel
theorem dX7_keep_31 : decode cX7_keep 31 = .ok (.if_icmp .ne 5, 3) := by decide +kernel
theorem dX7_keep_34 : decode cX7_keep 34 = .ok (.iconst 0, 1) := by decide +kernel
theorem dX7_keep_35 : decode cX7_keep 35 = .ok (.ireturn, 1) := by decide +kernel
theorem dX7_keep_36 : decode cX7_keep 36 = .ok (.aload_n 0, 1) := by decide +kernel
theorem dX7_keep_37 : decode cX7_keep 37 = .ok (.getfield 12, 3) := by decide +kernel
theorem dX7_keep_40 : decode cX7_keep 40 = .ok (.getfield 152, 3) := by decide +kernel
theorem dX7_keep_43 : decode cX7_keep 43 = .ok (.iload_n 1, 1) := by decide +kernel
theorem dX7_keep_44 : decode cX7_keep 44 = .ok (.iload_n 2, 1) := by decide +kernel
theorem dX7_keep_45 : decode cX7_keep 45 = .ok (.bastore, 1) := by decide +kernel
theorem dX7_keep_46 : decode cX7_keep 46 = .ok (.aload_n 0, 1) := by decide +kernel
theorem dX7_keep_47 : decode cX7_keep 47 = .ok (.iconst (-1), 1) := by decide +kernel
theorem dX7_keep_48 : decode cX7_keep 48 = .ok (.putfield 55, 3) := by decide +kernel
theorem dX7_keep_51 : decode cX7_keep 51 = .ok (.iconst 1, 1) := by decide +kernel
theorem dX7_keep_52 : decode cX7_keep 52 = .ok (.ireturn, 1) := by decide +kernel
theorem dX7_place_0 : decode cX7_place 0 = .ok (.aload_n 0, 1) := by decide +kernel
theorem dX7_place_1 : decode cX7_place 1 = .ok (.getfield 12, 3) := by decide +kernel
theorem dX7_place_4 : decode cX7_place 4 = .ok (.iload_n 1, 1) := by decide +kernel
theorem dX7_place_5 : decode cX7_place 5 = .ok (.invokevirtual 147, 3) := by decide +kernel
theorem dX7_place_8 : decode cX7_place 8 = .ok (.ifCond .ne 13, 3) := by decide +kernel
theorem dX7_place_11 : decode cX7_place 11 = .ok (.new 83, 3) := by decide +kernel
theorem dX7_place_14 : decode cX7_place 14 = .ok (.dup, 1) := by decide +kernel
theorem dX7_place_15 : decode cX7_place 15 = .ok (.ldc 150, 2) := by decide +kernel
theorem dX7_place_17 : decode cX7_place 17 = .ok (.invokespecial 87, 3) := by decide +kernel
theorem dX7_place_20 : decode cX7_place 20 = .ok (.athrow, 1) := by decide +kernel
theorem dX7_place_21 : decode cX7_place 21 = .ok (.lload_n 2, 1) := by decide +kernel
theorem dX7_place_22 : decode cX7_place 22 = .ok (.invokestatic 156, 3) := by decide +kernel
theorem dX7_place_25 : decode cX7_place 25 = .ok (.ifCond .ne 11, 3) := by decide +kernel
theorem dX7_place_28 : decode cX7_place 28 = .ok (.lload 4, 2) := by decide +kernel
theorem dX7_place_30 : decode cX7_place 30 = .ok (.invokestatic 156, 3) := by decide +kernel
theorem dX7_place_33 : decode cX7_place 33 = .ok (.ifCond .eq 13, 3) := by decide +kernel
theorem dX7_place_36 : decode cX7_place 36 = .ok (.new 94, 3) := by decide +kernel
theorem dX7_place_39 : decode cX7_place 39 = .ok (.dup, 1) := by decide +kernel
theorem dX7_place_40 : decode cX7_place 40 = .ok (.ldc 160, 2) := by decide +kernel
theorem dX7_place_42 : decode cX7_place 42 = .ok (.invokespecial 98, 3) := by decide +kernel
theorem dX7_place_45 : decode cX7_place 45 = .ok (.athrow, 1) := by decide +kernel
theorem dX7_place_46 : decode cX7_place 46 = .ok (.aload_n 0, 1) := by decide +kernel
theorem dX7_place_47 : decode cX7_place 47 = .ok (.getfield 26, 3) := by decide +kernel
theorem dX7_place_50 : decode cX7_place 50 = .ok (.iload_n 1, 1) := by decide +kernel
theorem dX7_place_51 : decode cX7_place 51 = .ok (.lload_n 2, 1) := by decide +kernel
theorem dX7_place_52 : decode cX7_place 52 = .ok (.l2i, 1) := by decide +kernel
theorem dX7_place_53 : decode cX7_place 53 = .ok (.lload 4, 2) := by decide +kernel
theorem dX7_place_55 : decode cX7_place 55 = .ok (.l2i, 1) := by decide +kernel
theorem dX7_place_56 : decode cX7_place 56 = .ok (.invokevirtual 162, 3) := by decide +kernel
theorem dX7_place_59 : decode cX7_place 59 = .ok (.ifCond .ne 5, 3) := by decide +kernel
theorem dX7_place_62 : decode cX7_place 62 = .ok (.iconst 0, 1) := by decide +kernel
theorem dX7_place_63 : decode cX7_place 63 = .ok (.ireturn, 1) := by decide +kernel
theorem dX7_place_64 : decode cX7_place 64 = .ok (.aload_n 0, 1) := by decide +kernel
theorem dX7_place_65 : decode cX7_place 65 = .ok (.iconst (-1), 1) := by decide +kernel
theorem dX7_place_66 : decode cX7_place 66 = .ok (.putfield 55, 3) := by decide +kernel
theorem dX7_place_69 : decode cX7_place 69 = .ok (.iconst 1, 1) := by decide +kernel
theorem dX7_place_70 : decode cX7_place 70 = .ok (.ireturn, 1) := by decide +kernel
theorem dX7_spare_0 : decode cX7_spare 0 = .ok (.aload_n 0, 1) := by decide +kernel
theorem dX7_spare_1 : decode cX7_spare 1 = .ok (.getfield 26, 3) := by decide +kernel
theorem dX7_spare_4 : decode cX7_spare 4 = .ok (.getfield 166, 3) := by decide +kernel
theorem dX7_spare_7 : decode cX7_spare 7 = .ok (.bipush 6, 2) := by decide +kernel
theorem dX7_spare_9 : decode cX7_spare 9 = .ok (.if_icmp .lt 13, 3) := by decide +kernel
theorem dX7_spare_12 : decode cX7_spare 12 = .ok (.new 68, 3) := by decide +kernel
theorem dX7_spare_15 : decode cX7_spare 15 = .ok (.dup, 1) := by decide +kernel
theorem dX7_spare_16 : decode cX7_spare 16 = .ok (.ldc 169, 2) := by decide +kernel
theorem dX7_spare_18 : decode cX7_spare 18 = .ok (.invokespecial 72, 3) := by decide +kernel
theorem dX7_spare_21 : decode cX7_spare 21 = .ok (.athrow, 1) := by decide +kernel
theorem dX7_spare_22 : decode cX7_spare 22 = .ok (.lload_n 1, 1) := by decide +kernel
theorem dX7_spare_23 : decode cX7_spare 23 = .ok (.invokestatic 156, 3) := by decide +kernel
theorem dX7_spare_26 : decode cX7_spare 26 = .ok (.ifCond .ne 10, 3) := by decide +kernel
theorem dX7_spare_29 : decode cX7_spare 29 = .ok (.lload_n 3, 1) := by decide +kernel
theorem dX7_spare_30 : decode cX7_spare 30 = .ok (.invokestatic 156, 3) := by decide +kernel
theorem dX7_spare_33 : decode cX7_spare 33 = .ok (.ifCond .eq 13, 3) := by decide +kernel
theorem dX7_spare_36 : decode cX7_spare 36 = .ok (.new 94, 3) := by decide +kernel
theorem dX7_spare_39 : decode cX7_spare 39 = .ok (.dup, 1) := by decide +kernel
theorem dX7_spare_40 : decode cX7_spare 40 = .ok (.ldc 160, 2) := by decide +kernel
theorem dX7_spare_42 : decode cX7_spare 42 = .ok (.invokespecial 98, 3) := by decide +kernel
theorem dX7_spare_45 : decode cX7_spare 45 = .ok (.athrow, 1) := by decide +kernel
theorem dX7_spare_46 : decode cX7_spare 46 = .ok (.aload_n 0, 1) := by decide +kernel
theorem dX7_spare_47 : decode cX7_spare 47 = .ok (.iconst (-1), 1) := by decide +kernel
theorem dX7_spare_48 : decode cX7_spare 48 = .ok (.putfield 55, 3) := by decide +kernel
theorem dX7_spare_51 : decode cX7_spare 51 = .ok (.aload_n 0, 1) := by decide +kernel
theorem dX7_spare_52 : decode cX7_spare 52 = .ok (.getfield 26, 3) := by decide +kernel
theorem dX7_spare_55 : decode cX7_spare 55 = .ok (.lload_n 1, 1) := by decide +kernel
theorem dX7_spare_56 : decode cX7_spare 56 = .ok (.l2i, 1) := by decide +kernel
theorem dX7_spare_57 : decode cX7_spare 57 = .ok (.lload_n 3, 1) := by decide +kernel
theorem dX7_spare_58 : decode cX7_spare 58 = .ok (.l2i, 1) := by decide +kernel
theorem dX7_spare_59 : decode cX7_spare 59 = .ok (.invokevirtual 171, 3) := by decide +kernel
theorem dX7_spare_62 : decode cX7_spare 62 = .ok (.ireturn, 1) := by decide +kernel
theorem dX7_run_0 : decode cX7_run 0 = .ok (.iload_n 1, 1) := by decide +kernel
theorem dX7_run_1 : decode cX7_run 1 = .ok (.ifCond .lt 8, 3) := by decide +kernel
theorem dX7_run_4 : decode cX7_run 4 = .ok (.iload_n 1, 1) := by decide +kernel
theorem dX7_run_5 : decode cX7_run 5 = .ok (.iconst 2, 1) := by decide +kernel
theorem dX7_run_6 : decode cX7_run 6 = .ok (.if_icmp .le 13, 3) := by decide +kernel
theorem dX7_run_9 : decode cX7_run 9 = .ok (.new 94, 3) := by decide +kernel
theorem dX7_run_12 : decode cX7_run 12 = .ok (.dup, 1) := by decide +kernel
theorem dX7_run_13 : decode cX7_run 13 = .ok (.ldc 174, 2) := by decide +kernel
theorem dX7_run_15 : decode cX7_run 15 = .ok (.invokespecial 98, 3) := by decide +kernel
theorem dX7_run_18 : decode cX7_run 18 = .ok (.athrow, 1) := by decide +kernel
theorem dX7_run_19 : decode cX7_run 19 = .ok (.aload_n 0, 1) := by decide +kernel
theorem dX7_run_20 : decode cX7_run 20 = .ok (.aload_n 0, 1) := by decide +kernel
theorem dX7_run_21 : decode cX7_run 21 = .ok (.getfield 35, 3) := by decide +kernel
theorem dX7_run_24 : decode cX7_run 24 = .ok (.iload_n 1, 1) := by decide +kernel
theorem dX7_run_25 : decode cX7_run 25 = .ok (.invokevirtual 176, 3) := by decide +kernel
theorem dX7_run_28 : decode cX7_run 28 = .ok (.putfield 55, 3) := by decide +kernel
theorem dX7_run_31 : decode cX7_run 31 = .ok (.aload_n 0, 1) := by decide +kernel
theorem dX7_run_32 : decode cX7_run 32 = .ok (.getfield 55, 3) := by decide +kernel
theorem dX7_run_35 : decode cX7_run 35 = .ok (.iconst (-1), 1) := by decide +kernel
theorem dX7_run_36 : decode cX7_run 36 = .ok (.if_icmp .eq 21, 3) := by decide +kernel
theorem dX7_run_39 : decode cX7_run 39 = .ok (.aload_n 0, 1) := by decide +kernel
theorem dX7_run_40 : decode cX7_run 40 = .ok (.getfield 44, 3) := by decide +kernel
theorem dX7_run_43 : decode cX7_run 43 = .ok (.aload_n 0, 1) := by decide +kernel
theorem dX7_run_44 : decode cX7_run 44 = .ok (.getfield 35, 3) := by decide +kernel
theorem dX7_run_47 : decode cX7_run 47 = .ok (.getfield 179, 3) := by decide +kernel
theorem dX7_run_50 : decode cX7_run 50 = .ok (.aload_n 0, 1) := by decide +kernel
theorem dX7_run_51 : decode cX7_run 51 = .ok (.getfield 55, 3) := by decide +kernel
theorem dX7_run_54 : decode cX7_run 54 = .ok (.invokevirtual 183, 3) := by decide +kernel
theorem dX7_run_57 : decode cX7_run 57 = .ok (.aload_n 0, 1) := by decide +kernel
theorem dX7_run_58 : decode cX7_run 58 = .ok (.getfield 55, 3) := by decide +kernel
theorem dX7_run_61 : decode cX7_run 61 = .ok (.ireturn, 1) := by decide +kernel
theorem dX7_edit_0 : decode cX7_edit 0 = .ok (.iload_n 2, 1) := by decide +kernel
theorem dX7_edit_1 : decode cX7_edit 1 = .ok (.ifCond .lt 8, 3) := by decide +kernel
theorem dX7_edit_4 : decode cX7_edit 4 = .ok (.iload_n 2, 1) := by decide +kernel
theorem dX7_edit_5 : decode cX7_edit 5 = .ok (.iconst 2, 1) := by decide +kernel
theorem dX7_edit_6 : decode cX7_edit 6 = .ok (.if_icmp .le 13, 3) := by decide +kernel
theorem dX7_edit_9 : decode cX7_edit 9 = .ok (.new 83, 3) := by decide +kernel
theorem dX7_edit_12 : decode cX7_edit 12 = .ok (.dup, 1) := by decide +kernel
theorem dX7_edit_13 : decode cX7_edit 13 = .ok (.ldc 187, 2) := by decide +kernel
theorem dX7_edit_15 : decode cX7_edit 15 = .ok (.invokespecial 87, 3) := by decide +kernel
theorem dX7_edit_18 : decode cX7_edit 18 = .ok (.athrow, 1) := by decide +kernel
theorem dX7_edit_19 : decode cX7_edit 19 = .ok (.aload_n 0, 1) := by decide +kernel
theorem dX7_edit_20 : decode cX7_edit 20 = .ok (.getfield 55, 3) := by decide +kernel
theorem dX7_edit_23 : decode cX7_edit 23 = .ok (.iconst (-1), 1) := by decide +kernel
theorem dX7_edit_24 : decode cX7_edit 24 = .ok (.if_icmp .ne 13, 3) := by decide +kernel
theorem dX7_edit_27 : decode cX7_edit 27 = .ok (.new 68, 3) := by decide +kernel
theorem dX7_edit_30 : decode cX7_edit 30 = .ok (.dup, 1) := by decide +kernel
theorem dX7_edit_31 : decode cX7_edit 31 = .ok (.ldc 189, 2) := by decide +kernel
theorem dX7_edit_33 : decode cX7_edit 33 = .ok (.invokespecial 72, 3) := by decide +kernel
theorem dX7_edit_36 : decode cX7_edit 36 = .ok (.athrow, 1) := by decide +kernel
theorem dX7_edit_37 : decode cX7_edit 37 = .ok (.iload_n 1, 1) := by decide +kernel
theorem dX7_edit_38 : decode cX7_edit 38 = .ok (.ifCond .lt 11, 3) := by decide +kernel
theorem dX7_edit_41 : decode cX7_edit 41 = .ok (.iload_n 1, 1) := by decide +kernel
theorem dX7_edit_42 : decode cX7_edit 42 = .ok (.aload_n 0, 1) := by decide +kernel
theorem dX7_edit_43 : decode cX7_edit 43 = .ok (.getfield 55, 3) := by decide +kernel
theorem dX7_edit_46 : decode cX7_edit 46 = .ok (.if_icmp .lt 13, 3) := by decide +kernel
theorem dX7_edit_49 : decode cX7_edit 49 = .ok (.new 83, 3) := by decide +kernel
theorem dX7_edit_52 : decode cX7_edit 52 = .ok (.dup, 1) := by decide +kernel
theorem dX7_edit_53 : decode cX7_edit 53 = .ok (.ldc 191, 2) := by decide +kernel
theorem dX7_edit_55 : decode cX7_edit 55 = .ok (.invokespecial 87, 3) := by decide +kernel
theorem dX7_edit_58 : decode cX7_edit 58 = .ok (.athrow, 1) := by decide +kernel
theorem dX7_edit_59 : decode cX7_edit 59 = .ok (.aload_n 0, 1) := by decide +kernel
theorem dX7_edit_60 : decode cX7_edit 60 = .ok (.getfield 35, 3) := by decide +kernel
theorem dX7_edit_63 : decode cX7_edit 63 = .ok (.getfield 179, 3) := by decide +kernel
theorem dX7_edit_66 : decode cX7_edit 66 = .ok (.iload_n 1, 1) := by decide +kernel
theorem dX7_edit_67 : decode cX7_edit 67 = .ok (.aaload, 1) := by decide +kernel
theorem dX7_edit_68 : decode cX7_edit 68 = .ok (.astore_n 3, 1) := by decide +kernel
theorem dX7_edit_69 : decode cX7_edit 69 = .ok (.iload_n 2, 1) := by decide +kernel
theorem dX7_edit_70 : decode cX7_edit 70 = .ok (.ifCond .ne 10, 3) := by decide +kernel
theorem dX7_edit_73 : decode cX7_edit 73 = .ok (.aload_n 3, 1) := by decide +kernel
theorem dX7_edit_74 : decode cX7_edit 74 = .ok (.getfield 193, 3) := by decide +kernel
theorem dX7_edit_77 : decode cX7_edit 77 = .ok (.goto 19, 3) := by decide +kernel
theorem dX7_edit_80 : decode cX7_edit 80 = .ok (.iload_n 2, 1) := by decide +kernel
theorem dX7_edit_81 : decode cX7_edit 81 = .ok (.iconst 1, 1) := by decide +kernel
theorem dX7_edit_82 : decode cX7_edit 82 = .ok (.if_icmp .ne 10, 3) := by decide +kernel
theorem dX7_edit_85 : decode cX7_edit 85 = .ok (.aload_n 3, 1) := by decide +kernel
theorem dX7_edit_86 : decode cX7_edit 86 = .ok (.getfield 198, 3) := by decide +kernel
theorem dX7_edit_89 : decode cX7_edit 89 = .ok (.goto 7, 3) := by decide +kernel
theorem dX7_edit_92 : decode cX7_edit 92 = .ok (.aload_n 3, 1) := by decide +kernel
theorem dX7_edit_93 : decode cX7_edit 93 = .ok (.getfield 201, 3) := by decide +kernel
theorem dX7_edit_96 : decode cX7_edit 96 = .ok (.ireturn, 1) := by decide +kernel
theorem dX7_used_0 : decode cX7_used 0 = .ok (.aload_n 0, 1) := by decide +kernel
theorem dX7_used_1 : decode cX7_used 1 = .ok (.getfield 55, 3) := by decide +kernel
theorem dX7_used_4 : decode cX7_used 4 = .ok (.iconst (-1), 1) := by decide +kernel
theorem dX7_used_5 : decode cX7_used 5 = .ok (.if_icmp .ne 13, 3) := by decide +kernel
theorem dX7_used_8 : decode cX7_used 8 = .ok (.new 68, 3) := by decide +kernel
theorem dX7_used_11 : decode cX7_used 11 = .ok (.dup, 1) := by decide +kernel
theorem dX7_used_12 : decode cX7_used 12 = .ok (.ldc 189, 2) := by decide +kernel
theorem dX7_used_14 : decode cX7_used 14 = .ok (.invokespecial 72, 3) := by decide +kernel
theorem dX7_used_17 : decode cX7_used 17 = .ok (.athrow, 1) := by decide +kernel
theorem dX7_used_18 : decode cX7_used 18 = .ok (.iload_n 1, 1) := by decide +kernel
theorem dX7_used_19 : decode cX7_used 19 = .ok (.ifCond .lt 11, 3) := by decide +kernel
theorem dX7_used_22 : decode cX7_used 22 = .ok (.iload_n 1, 1) := by decide +kernel
theorem dX7_used_23 : decode cX7_used 23 = .ok (.aload_n 0, 1) := by decide +kernel
theorem dX7_used_24 : decode cX7_used 24 = .ok (.getfield 55, 3) := by decide +kernel
theorem dX7_used_27 : decode cX7_used 27 = .ok (.if_icmp .lt 13, 3) := by decide +kernel
theorem dX7_used_30 : decode cX7_used 30 = .ok (.new 83, 3) := by decide +kernel
theorem dX7_used_33 : decode cX7_used 33 = .ok (.dup, 1) := by decide +kernel
theorem dX7_used_34 : decode cX7_used 34 = .ok (.ldc 191, 2) := by decide +kernel
theorem dX7_used_36 : decode cX7_used 36 = .ok (.invokespecial 87, 3) := by decide +kernel
theorem dX7_used_39 : decode cX7_used 39 = .ok (.athrow, 1) := by decide +kernel
theorem dX7_used_40 : decode cX7_used 40 = .ok (.aload_n 0, 1) := by decide +kernel
theorem dX7_used_41 : decode cX7_used 41 = .ok (.getfield 44, 3) := by decide +kernel
theorem dX7_used_44 : decode cX7_used 44 = .ok (.getfield 204, 3) := by decide +kernel
theorem dX7_used_47 : decode cX7_used 47 = .ok (.iload_n 1, 1) := by decide +kernel
theorem dX7_used_48 : decode cX7_used 48 = .ok (.iaload, 1) := by decide +kernel
theorem dX7_used_49 : decode cX7_used 49 = .ok (.ireturn, 1) := by decide +kernel
theorem dX7_length_0 : decode cX7_length 0 = .ok (.aload_n 0, 1) := by decide +kernel
theorem dX7_length_1 : decode cX7_length 1 = .ok (.getfield 55, 3) := by decide +kernel
theorem dX7_length_4 : decode cX7_length 4 = .ok (.iconst (-1), 1) := by decide +kernel
theorem dX7_length_5 : decode cX7_length 5 = .ok (.if_icmp .ne 13, 3) := by decide +kernel
theorem dX7_length_8 : decode cX7_length 8 = .ok (.new 68, 3) := by decide +kernel
theorem dX7_length_11 : decode cX7_length 11 = .ok (.dup, 1) := by decide +kernel
theorem dX7_length_12 : decode cX7_length 12 = .ok (.ldc 189, 2) := by decide +kernel
theorem dX7_length_14 : decode cX7_length 14 = .ok (.invokespecial 72, 3) := by decide +kernel
theorem dX7_length_17 : decode cX7_length 17 = .ok (.athrow, 1) := by decide +kernel
theorem dX7_length_18 : decode cX7_length 18 = .ok (.aload_n 0, 1) := by decide +kernel
theorem dX7_length_19 : decode cX7_length 19 = .ok (.getfield 44, 3) := by decide +kernel
theorem dX7_length_22 : decode cX7_length 22 = .ok (.getfield 207, 3) := by decide +kernel
theorem dX7_length_25 : decode cX7_length 25 = .ok (.ireturn, 1) := by decide +kernel
theorem dX7_make_0 : decode cX7_make 0 = .ok (.aload_n 0, 1) := by decide +kernel
theorem dX7_make_1 : decode cX7_make 1 = .ok (.getfield 55, 3) := by decide +kernel
theorem dX7_make_4 : decode cX7_make 4 = .ok (.iconst (-1), 1) := by decide +kernel
theorem dX7_make_5 : decode cX7_make 5 = .ok (.if_icmp .eq 15, 3) := by decide +kernel
theorem dX7_make_8 : decode cX7_make 8 = .ok (.aload_n 0, 1) := by decide +kernel
theorem dX7_make_9 : decode cX7_make 9 = .ok (.getfield 51, 3) := by decide +kernel
theorem dX7_make_12 : decode cX7_make 12 = .ok (.getfield 210, 3) := by decide +kernel
theorem dX7_make_15 : decode cX7_make 15 = .ok (.bipush 20, 2) := by decide +kernel
theorem dX7_make_17 : decode cX7_make 17 = .ok (.if_icmp .lt 13, 3) := by decide +kernel
theorem dX7_make_20 : decode cX7_make 20 = .ok (.new 68, 3) := by decide +kernel
theorem dX7_make_23 : decode cX7_make 23 = .ok (.dup, 1) := by decide +kernel
theorem dX7_make_24 : decode cX7_make 24 = .ok (.ldc 213, 2) := by decide +kernel
theorem dX7_make_26 : decode cX7_make 26 = .ok (.invokespecial 72, 3) := by decide +kernel
theorem dX7_make_29 : decode cX7_make 29 = .ok (.athrow, 1) := by decide +kernel
theorem dX7_make_30 : decode cX7_make 30 = .ok (.aload_n 0, 1) := by decide +kernel
theorem dX7_make_31 : decode cX7_make 31 = .ok (.getfield 55, 3) := by decide +kernel
theorem dX7_make_34 : decode cX7_make 34 = .ok (.istore_n 1, 1) := by decide +kernel
theorem dX7_make_35 : decode cX7_make 35 = .ok (.aload_n 0, 1) := by decide +kernel
theorem dX7_make_36 : decode cX7_make 36 = .ok (.getfield 51, 3) := by decide +kernel
theorem dX7_make_39 : decode cX7_make 39 = .ok (.aload_n 0, 1) := by decide +kernel
theorem dX7_make_40 : decode cX7_make 40 = .ok (.getfield 12, 3) := by decide +kernel
theorem dX7_make_43 : decode cX7_make 43 = .ok (.aload_n 0, 1) := by decide +kernel
theorem dX7_make_44 : decode cX7_make 44 = .ok (.getfield 35, 3) := by decide +kernel
theorem dX7_make_47 : decode cX7_make 47 = .ok (.getfield 179, 3) := by decide +kernel
theorem dX7_make_50 : decode cX7_make 50 = .ok (.iload_n 1, 1) := by decide +kernel
theorem dX7_make_51 : decode cX7_make 51 = .ok (.invokevirtual 215, 3) := by decide +kernel
theorem dX7_make_54 : decode cX7_make 54 = .ok (.iconst 0, 1) := by decide +kernel
theorem dX7_make_55 : decode cX7_make 55 = .ok (.istore_n 2, 1) := by decide +kernel
theorem dX7_make_56 : decode cX7_make 56 = .ok (.iload_n 2, 1) := by decide +kernel
theorem dX7_make_57 : decode cX7_make 57 = .ok (.iload_n 1, 1) := by decide +kernel
theorem dX7_make_58 : decode cX7_make 58 = .ok (.if_icmp .ge 25, 3) := by decide +kernel
theorem dX7_make_61 : decode cX7_make 61 = .ok (.aload_n 0, 1) := by decide +kernel
theorem dX7_make_62 : decode cX7_make 62 = .ok (.getfield 12, 3) := by decide +kernel
theorem dX7_make_65 : decode cX7_make 65 = .ok (.aload_n 0, 1) := by decide +kernel
theorem dX7_make_66 : decode cX7_make 66 = .ok (.getfield 35, 3) := by decide +kernel
theorem dX7_make_69 : decode cX7_make 69 = .ok (.getfield 179, 3) := by decide +kernel
theorem dX7_make_72 : decode cX7_make 72 = .ok (.iload_n 2, 1) := by decide +kernel
theorem dX7_make_73 : decode cX7_make 73 = .ok (.aaload, 1) := by decide +kernel
theorem dX7_make_74 : decode cX7_make 74 = .ok (.invokevirtual 219, 3) := by decide +kernel
theorem dX7_make_77 : decode cX7_make 77 = .ok (.iinc 2 1, 3) := by decide +kernel
theorem dX7_make_80 : decode cX7_make 80 = .ok (.goto (-24), 3) := by decide +kernel
theorem dX7_make_83 : decode cX7_make 83 = .ok (.aload_n 0, 1) := by decide +kernel
theorem dX7_make_84 : decode cX7_make 84 = .ok (.getfield 12, 3) := by decide +kernel
theorem dX7_make_87 : decode cX7_make 87 = .ok (.invokevirtual 223, 3) := by decide +kernel
theorem dX7_make_90 : decode cX7_make 90 = .ok (.aload_n 0, 1) := by decide +kernel
theorem dX7_make_91 : decode cX7_make 91 = .ok (.iconst (-1), 1) := by decide +kernel
theorem dX7_make_92 : decode cX7_make 92 = .ok (.putfield 55, 3) := by decide +kernel
theorem dX7_make_95 : decode cX7_make 95 = .ok (.iload_n 1, 1) := by decide +kernel
theorem dX7_make_96 : decode cX7_make 96 = .ok (.ireturn, 1) := by decide +kernel
theorem dX7_undo_0 : decode cX7_undo 0 = .ok (.aload_n 0, 1) := by decide +kernel
theorem dX7_undo_1 : decode cX7_undo 1 = .ok (.getfield 51, 3) := by decide +kernel
theorem dX7_undo_4 : decode cX7_undo 4 = .ok (.getfield 210, 3) := by decide +kernel
theorem dX7_undo_7 : decode cX7_undo 7 = .ok (.ifCond .ne 5, 3) := by decide +kernel
theorem dX7_undo_10 : decode cX7_undo 10 = .ok (.iconst 0, 1) := by decide +kernel
theorem dX7_undo_11 : decode cX7_undo 11 = .ok (.ireturn, 1) := by decide +kernel
theorem dX7_undo_12 : decode cX7_undo 12 = .ok (.aload_n 0, 1) := by decide +kernel
theorem dX7_undo_13 : decode cX7_undo 13 = .ok (.getfield 51, 3) := by decide +kernel
theorem dX7_undo_16 : decode cX7_undo 16 = .ok (.aload_n 0, 1) := by decide +kernel
theorem dX7_undo_17 : decode cX7_undo 17 = .ok (.getfield 12, 3) := by decide +kernel
theorem dX7_undo_20 : decode cX7_undo 20 = .ok (.invokevirtual 226, 3) := by decide +kernel
theorem dX7_undo_23 : decode cX7_undo 23 = .ok (.aload_n 0, 1) := by decide +kernel
theorem dX7_undo_24 : decode cX7_undo 24 = .ok (.getfield 12, 3) := by decide +kernel
theorem dX7_undo_27 : decode cX7_undo 27 = .ok (.invokevirtual 223, 3) := by decide +kernel
theorem dX7_undo_30 : decode cX7_undo 30 = .ok (.aload_n 0, 1) := by decide +kernel
theorem dX7_undo_31 : decode cX7_undo 31 = .ok (.iconst (-1), 1) := by decide +kernel
theorem dX7_undo_32 : decode cX7_undo 32 = .ok (.putfield 55, 3) := by decide +kernel
theorem dX7_undo_35 : decode cX7_undo 35 = .ok (.iconst 1, 1) := by decide +kernel
theorem dX7_undo_36 : decode cX7_undo 36 = .ok (.ireturn, 1) := by decide +kernel
theorem dX7_literal_0 : decode cX7_literal 0 = .ok (.aload_n 0, 1) := by decide +kernel
theorem dX7_literal_1 : decode cX7_literal 1 = .ok (.getfield 12, 3) := by decide +kernel
theorem dX7_literal_4 : decode cX7_literal 4 = .ok (.iload_n 1, 1) := by decide +kernel
theorem dX7_literal_5 : decode cX7_literal 5 = .ok (.invokevirtual 147, 3) := by decide +kernel
theorem dX7_literal_8 : decode cX7_literal 8 = .ok (.ifCond .eq 12, 3) := by decide +kernel
theorem dX7_literal_11 : decode cX7_literal 11 = .ok (.iload_n 2, 1) := by decide +kernel
theorem dX7_literal_12 : decode cX7_literal 12 = .ok (.ifCond .lt 8, 3) := by decide +kernel
theorem dX7_literal_15 : decode cX7_literal 15 = .ok (.iload_n 2, 1) := by decide +kernel
theorem dX7_literal_16 : decode cX7_literal 16 = .ok (.iconst 1, 1) := by decide +kernel
theorem dX7_literal_17 : decode cX7_literal 17 = .ok (.if_icmp .le 13, 3) := by decide +kernel
theorem dX7_literal_20 : decode cX7_literal 20 = .ok (.new 83, 3) := by decide +kernel
theorem dX7_literal_23 : decode cX7_literal 23 = .ok (.dup, 1) := by decide +kernel
theorem dX7_literal_24 : decode cX7_literal 24 = .ok (.ldc 230, 2) := by decide +kernel
theorem dX7_literal_26 : decode cX7_literal 26 = .ok (.invokespecial 87, 3) := by decide +kernel
theorem dX7_literal_29 : decode cX7_literal 29 = .ok (.athrow, 1) := by decide +kernel
theorem dX7_literal_30 : decode cX7_literal 30 = .ok (.iload_n 2, 1) := by decide +kernel
theorem dX7_literal_31 : decode cX7_literal 31 = .ok (.ifCond .ne 15, 3) := by decide +kernel
theorem dX7_literal_34 : decode cX7_literal 34 = .ok (.aload_n 0, 1) := by decide +kernel
theorem dX7_literal_35 : decode cX7_literal 35 = .ok (.getfield 12, 3) := by decide +kernel
theorem dX7_literal_38 : decode cX7_literal 38 = .ok (.getfield 232, 3) := by decide +kernel
theorem dX7_literal_41 : decode cX7_literal 41 = .ok (.iload_n 1, 1) := by decide +kernel
theorem dX7_literal_42 : decode cX7_literal 42 = .ok (.iaload, 1) := by decide +kernel
theorem dX7_literal_43 : decode cX7_literal 43 = .ok (.goto 12, 3) := by decide +kernel
theorem dX7_literal_46 : decode cX7_literal 46 = .ok (.aload_n 0, 1) := by decide +kernel
theorem dX7_literal_47 : decode cX7_literal 47 = .ok (.getfield 12, 3) := by decide +kernel
theorem dX7_literal_50 : decode cX7_literal 50 = .ok (.getfield 234, 3) := by decide +kernel
theorem dX7_literal_53 : decode cX7_literal 53 = .ok (.iload_n 1, 1) := by decide +kernel
theorem dX7_literal_54 : decode cX7_literal 54 = .ok (.iaload, 1) := by decide +kernel
theorem dX7_literal_55 : decode cX7_literal 55 = .ok (.ireturn, 1) := by decide +kernel
theorem dX7_count_0 : decode cX7_count 0 = .ok (.iload_n 1, 1) := by decide +kernel
theorem dX7_count_1 : decode cX7_count 1 = .ok (.tableswitch 111 0 7 #[47, 55, 63, 71, 79, 87, 95, 103], 47) := by decide +kernel
theorem dX7_count_48 : decode cX7_count 48 = .ok (.aload_n 0, 1) := by decide +kernel
theorem dX7_count_49 : decode cX7_count 49 = .ok (.getfield 12, 3) := by decide +kernel
theorem dX7_count_52 : decode cX7_count 52 = .ok (.getfield 99, 3) := by decide +kernel
theorem dX7_count_55 : decode cX7_count 55 = .ok (.ireturn, 1) := by decide +kernel
theorem dX7_count_56 : decode cX7_count 56 = .ok (.aload_n 0, 1) := by decide +kernel
theorem dX7_count_57 : decode cX7_count 57 = .ok (.getfield 12, 3) := by decide +kernel
theorem dX7_count_60 : decode cX7_count 60 = .ok (.getfield 59, 3) := by decide +kernel
theorem dX7_count_63 : decode cX7_count 63 = .ok (.ireturn, 1) := by decide +kernel
theorem dX7_count_64 : decode cX7_count 64 = .ok (.aload_n 0, 1) := by decide +kernel
theorem dX7_count_65 : decode cX7_count 65 = .ok (.getfield 12, 3) := by decide +kernel
theorem dX7_count_68 : decode cX7_count 68 = .ok (.getfield 62, 3) := by decide +kernel
theorem dX7_count_71 : decode cX7_count 71 = .ok (.ireturn, 1) := by decide +kernel
theorem dX7_count_72 : decode cX7_count 72 = .ok (.aload_n 0, 1) := by decide +kernel
theorem dX7_count_73 : decode cX7_count 73 = .ok (.getfield 12, 3) := by decide +kernel
theorem dX7_count_76 : decode cX7_count 76 = .ok (.getfield 65, 3) := by decide +kernel
theorem dX7_count_79 : decode cX7_count 79 = .ok (.ireturn, 1) := by decide +kernel
theorem dX7_count_80 : decode cX7_count 80 = .ok (.aload_n 0, 1) := by decide +kernel
theorem dX7_count_81 : decode cX7_count 81 = .ok (.getfield 19, 3) := by decide +kernel
theorem dX7_count_84 : decode cX7_count 84 = .ok (.getfield 117, 3) := by decide +kernel
theorem dX7_count_87 : decode cX7_count 87 = .ok (.ireturn, 1) := by decide +kernel
theorem dX7_count_88 : decode cX7_count 88 = .ok (.aload_n 0, 1) := by decide +kernel
theorem dX7_count_89 : decode cX7_count 89 = .ok (.getfield 26, 3) := by decide +kernel
theorem dX7_count_92 : decode cX7_count 92 = .ok (.getfield 166, 3) := by decide +kernel
theorem dX7_count_95 : decode cX7_count 95 = .ok (.ireturn, 1) := by decide +kernel
theorem dX7_count_96 : decode cX7_count 96 = .ok (.aload_n 0, 1) := by decide +kernel
theorem dX7_count_97 : decode cX7_count 97 = .ok (.getfield 12, 3) := by decide +kernel
theorem dX7_count_100 : decode cX7_count 100 = .ok (.invokevirtual 236, 3) := by decide +kernel
theorem dX7_count_103 : decode cX7_count 103 = .ok (.ireturn, 1) := by decide +kernel
theorem dX7_count_104 : decode cX7_count 104 = .ok (.aload_n 0, 1) := by decide +kernel
theorem dX7_count_105 : decode cX7_count 105 = .ok (.getfield 51, 3) := by decide +kernel
theorem dX7_count_108 : decode cX7_count 108 = .ok (.getfield 210, 3) := by decide +kernel
theorem dX7_count_111 : decode cX7_count 111 = .ok (.ireturn, 1) := by decide +kernel
theorem dX7_count_112 : decode cX7_count 112 = .ok (.new 83, 3) := by decide +kernel
theorem dX7_count_115 : decode cX7_count 115 = .ok (.dup, 1) := by decide +kernel
theorem dX7_count_116 : decode cX7_count 116 = .ok (.ldc 187, 2) := by decide +kernel
theorem dX7_count_118 : decode cX7_count 118 = .ok (.invokespecial 87, 3) := by decide +kernel
theorem dX7_count_121 : decode cX7_count 121 = .ok (.athrow, 1) := by decide +kernel
theorem dX7_clear_0 : decode cX7_clear 0 = .ok (.aload_n 0, 1) := by decide +kernel
theorem dX7_clear_1 : decode cX7_clear 1 = .ok (.getfield 12, 3) := by decide +kernel
theorem dX7_clear_4 : decode cX7_clear 4 = .ok (.invokevirtual 239, 3) := by decide +kernel
theorem dX7_clear_7 : decode cX7_clear 7 = .ok (.aload_n 0, 1) := by decide +kernel
theorem dX7_clear_8 : decode cX7_clear 8 = .ok (.getfield 19, 3) := by decide +kernel
theorem dX7_clear_11 : decode cX7_clear 11 = .ok (.iconst 0, 1) := by decide +kernel
theorem dX7_clear_12 : decode cX7_clear 12 = .ok (.putfield 117, 3) := by decide +kernel
theorem dX7_clear_15 : decode cX7_clear 15 = .ok (.aload_n 0, 1) := by decide +kernel
theorem dX7_clear_16 : decode cX7_clear 16 = .ok (.getfield 26, 3) := by decide +kernel
theorem dX7_clear_19 : decode cX7_clear 19 = .ok (.iconst 0, 1) := by decide +kernel
theorem dX7_clear_20 : decode cX7_clear 20 = .ok (.putfield 166, 3) := by decide +kernel
theorem dX7_clear_23 : decode cX7_clear 23 = .ok (.aload_n 0, 1) := by decide +kernel
theorem dX7_clear_24 : decode cX7_clear 24 = .ok (.getfield 51, 3) := by decide +kernel
theorem dX7_clear_27 : decode cX7_clear 27 = .ok (.iconst 0, 1) := by decide +kernel
theorem dX7_clear_28 : decode cX7_clear 28 = .ok (.putfield 210, 3) := by decide +kernel
theorem dX7_clear_31 : decode cX7_clear 31 = .ok (.aload_n 0, 1) := by decide +kernel
theorem dX7_clear_32 : decode cX7_clear 32 = .ok (.iconst (-1), 1) := by decide +kernel
theorem dX7_clear_33 : decode cX7_clear 33 = .ok (.putfield 55, 3) := by decide +kernel
theorem dX7_clear_36 : decode cX7_clear 36 = .ok (.return_, 1) := by decide +kernel
theorem dX7_isTooFar_0 : decode cX7_isTooFar 0 = .ok (.lload_n 0, 1) := by decide +kernel
theorem dX7_isTooFar_1 : decode cX7_isTooFar 1 = .ok (.ldc2_w 242, 3) := by decide +kernel
theorem dX7_isTooFar_4 : decode cX7_isTooFar 4 = .ok (.lcmp, 1) := by decide +kernel
theorem dX7_isTooFar_5 : decode cX7_isTooFar 5 = .ok (.ifCond .lt 11, 3) := by decide +kernel
theorem dX7_isTooFar_8 : decode cX7_isTooFar 8 = .ok (.lload_n 0, 1) := by decide +kernel
theorem dX7_isTooFar_9 : decode cX7_isTooFar 9 = .ok (.ldc2_w 244, 3) := by decide +kernel
theorem dX7_isTooFar_12 : decode cX7_isTooFar 12 = .ok (.lcmp, 1) := by decide +kernel
theorem dX7_isTooFar_13 : decode cX7_isTooFar 13 = .ok (.ifCond .le 7, 3) := by decide +kernel
theorem dX7_isTooFar_16 : decode cX7_isTooFar 16 = .ok (.iconst 1, 1) := by decide +kernel
theorem dX7_isTooFar_17 : decode cX7_isTooFar 17 = .ok (.goto 4, 3) := by decide +kernel
theorem dX7_isTooFar_20 : decode cX7_isTooFar 20 = .ok (.iconst 0, 1) := by decide +kernel
theorem dX7_isTooFar_21 : decode cX7_isTooFar 21 = .ok (.ireturn, 1) := by decide +kernel
theorem dX7_column_0 : decode cX7_column 0 = .ok (.aload_n 0, 1) := by decide +kernel
theorem dX7_column_1 : decode cX7_column 1 = .ok (.iload_n 1, 1) := by decide +kernel
theorem dX7_column_2 : decode cX7_column 2 = .ok (.iconst 1, 1) := by decide +kernel
theorem dX7_column_3 : decode cX7_column 3 = .ok (.ishr, 1) := by decide +kernel
theorem dX7_column_4 : decode cX7_column 4 = .ok (.iaload, 1) := by decide +kernel
theorem dX7_column_5 : decode cX7_column 5 = .ok (.iload_n 1, 1) := by decide +kernel
theorem dX7_column_6 : decode cX7_column 6 = .ok (.iconst 1, 1) := by decide +kernel
theorem dX7_column_7 : decode cX7_column 7 = .ok (.iand, 1) := by decide +kernel
theorem dX7_column_8 : decode cX7_column 8 = .ok (.ineg, 1) := by decide +kernel
theorem dX7_column_9 : decode cX7_column 9 = .ok (.ixor, 1) := by decide +kernel
theorem dX7_column_10 : decode cX7_column 10 = .ok (.ireturn, 1) := by decide +kernel
theorem dX7_leastBit_0 : decode cX7_leastBit 0 = .ok (.iconst 0, 1) := by decide +kernel
theorem dX7_leastBit_1 : decode cX7_leastBit 1 = .ok (.istore_n 1, 1) := by decide +kernel
theorem dX7_leastBit_2 : decode cX7_leastBit 2 = .ok (.iload_n 1, 1) := by decide +kernel
theorem dX7_leastBit_3 : decode cX7_leastBit 3 = .ok (.bipush 32, 2) := by decide +kernel
theorem dX7_leastBit_5 : decode cX7_leastBit 5 = .ok (.if_icmp .ge 20, 3) := by decide +kernel
theorem dX7_leastBit_8 : decode cX7_leastBit 8 = .ok (.iload_n 0, 1) := by decide +kernel
theorem dX7_leastBit_9 : decode cX7_leastBit 9 = .ok (.iload_n 1, 1) := by decide +kernel
theorem dX7_leastBit_10 : decode cX7_leastBit 10 = .ok (.iushr, 1) := by decide +kernel
theorem dX7_leastBit_11 : decode cX7_leastBit 11 = .ok (.iconst 1, 1) := by decide +kernel
theorem dX7_leastBit_12 : decode cX7_leastBit 12 = .ok (.iand, 1) := by decide +kernel
theorem dX7_leastBit_13 : decode cX7_leastBit 13 = .ok (.iconst 1, 1) := by decide +kernel
theorem dX7_leastBit_14 : decode cX7_leastBit 14 = .ok (.if_icmp .ne 5, 3) := by decide +kernel
theorem dX7_leastBit_17 : decode cX7_leastBit 17 = .ok (.iload_n 1, 1) := by decide +kernel
theorem dX7_leastBit_18 : decode cX7_leastBit 18 = .ok (.ireturn, 1) := by decide +kernel
theorem dX7_leastBit_19 : decode cX7_leastBit 19 = .ok (.iinc 1 1, 3) := by decide +kernel
theorem dX7_leastBit_22 : decode cX7_leastBit 22 = .ok (.goto (-20), 3) := by decide +kernel
theorem dX7_leastBit_25 : decode cX7_leastBit 25 = .ok (.iconst (-1), 1) := by decide +kernel
theorem dX7_leastBit_26 : decode cX7_leastBit 26 = .ok (.ireturn, 1) := by decide +kernel
theorem dX8_init_0 : decode cX8_init 0 = .ok (.aload_n 0, 1) := by decide +kernel
theorem dX8_init_1 : decode cX8_init 1 = .ok (.invokespecial 1, 3) := by decide +kernel
theorem dX8_init_4 : decode cX8_init 4 = .ok (.aload_n 0, 1) := by decide +kernel
theorem dX8_init_5 : decode cX8_init 5 = .ok (.bipush 40, 2) := by decide +kernel
theorem dX8_init_7 : decode cX8_init 7 = .ok (.newarray .int, 2) := by decide +kernel
theorem dX8_init_9 : decode cX8_init 9 = .ok (.putfield 7, 3) := by decide +kernel
theorem dX8_init_12 : decode cX8_init 12 = .ok (.aload_n 0, 1) := by decide +kernel
theorem dX8_init_13 : decode cX8_init 13 = .ok (.bipush 40, 2) := by decide +kernel
theorem dX8_init_15 : decode cX8_init 15 = .ok (.newarray .int, 2) := by decide +kernel
theorem dX8_init_17 : decode cX8_init 17 = .ok (.putfield 13, 3) := by decide +kernel
theorem dX8_init_20 : decode cX8_init 20 = .ok (.aload_n 0, 1) := by decide +kernel
theorem dX8_init_21 : decode cX8_init 21 = .ok (.bipush 40, 2) := by decide +kernel
theorem dX8_init_23 : decode cX8_init 23 = .ok (.newarray .int, 2) := by decide +kernel
theorem dX8_init_25 : decode cX8_init 25 = .ok (.putfield 16, 3) := by decide +kernel
theorem dX8_init_28 : decode cX8_init 28 = .ok (.aload_n 0, 1) := by decide +kernel
theorem dX8_init_29 : decode cX8_init 29 = .ok (.bipush 40, 2) := by decide +kernel
theorem dX8_init_31 : decode cX8_init 31 = .ok (.newarray .int, 2) := by decide +kernel
theorem dX8_init_33 : decode cX8_init 33 = .ok (.putfield 19, 3) := by decide +kernel
theorem dX8_init_36 : decode cX8_init 36 = .ok (.aload_n 0, 1) := by decide +kernel
theorem dX8_init_37 : decode cX8_init 37 = .ok (.bipush 40, 2) := by decide +kernel
theorem dX8_init_39 : decode cX8_init 39 = .ok (.newarray .boolean, 2) := by decide +kernel
theorem dX8_init_41 : decode cX8_init 41 = .ok (.putfield 22, 3) := by decide +kernel
theorem dX8_init_44 : decode cX8_init 44 = .ok (.aload_n 0, 1) := by decide +kernel
theorem dX8_init_45 : decode cX8_init 45 = .ok (.bipush 40, 2) := by decide +kernel
theorem dX8_init_47 : decode cX8_init 47 = .ok (.newarray .long, 2) := by decide +kernel
theorem dX8_init_49 : decode cX8_init 49 = .ok (.putfield 26, 3) := by decide +kernel
theorem dX8_init_52 : decode cX8_init 52 = .ok (.aload_n 0, 1) := by decide +kernel
theorem dX8_init_53 : decode cX8_init 53 = .ok (.bipush 40, 2) := by decide +kernel
theorem dX8_init_55 : decode cX8_init 55 = .ok (.newarray .long, 2) := by decide +kernel
theorem dX8_init_57 : decode cX8_init 57 = .ok (.putfield 30, 3) := by decide +kernel
theorem dX8_init_60 : decode cX8_init 60 = .ok (.aload_n 0, 1) := by decide +kernel
theorem dX8_init_61 : decode cX8_init 61 = .ok (.iconst 4, 1) := by decide +kernel
theorem dX8_init_62 : decode cX8_init 62 = .ok (.newarray .int, 2) := by decide +kernel
theorem dX8_init_64 : decode cX8_init 64 = .ok (.putfield 33, 3) := by decide +kernel
theorem dX8_init_67 : decode cX8_init 67 = .ok (.aload_n 0, 1) := by decide +kernel
theorem dX8_init_68 : decode cX8_init 68 = .ok (.iconst 4, 1) := by decide +kernel
theorem dX8_init_69 : decode cX8_init 69 = .ok (.newarray .int, 2) := by decide +kernel
theorem dX8_init_71 : decode cX8_init 71 = .ok (.putfield 36, 3) := by decide +kernel
theorem dX8_init_74 : decode cX8_init 74 = .ok (.aload_n 0, 1) := by decide +kernel
theorem dX8_init_75 : decode cX8_init 75 = .ok (.bipush 6, 2) := by decide +kernel
theorem dX8_init_77 : decode cX8_init 77 = .ok (.newarray .long, 2) := by decide +kernel
theorem dX8_init_79 : decode cX8_init 79 = .ok (.putfield 39, 3) := by decide +kernel
theorem dX8_init_82 : decode cX8_init 82 = .ok (.aload_n 0, 1) := by decide +kernel
theorem dX8_init_83 : decode cX8_init 83 = .ok (.bipush 6, 2) := by decide +kernel
theorem dX8_init_85 : decode cX8_init 85 = .ok (.newarray .long, 2) := by decide +kernel
theorem dX8_init_87 : decode cX8_init 87 = .ok (.putfield 42, 3) := by decide +kernel
theorem dX8_init_90 : decode cX8_init 90 = .ok (.aload_n 0, 1) := by decide +kernel
theorem dX8_init_91 : decode cX8_init 91 = .ok (.iconst 2, 1) := by decide +kernel
theorem dX8_init_92 : decode cX8_init 92 = .ok (.newarray .int, 2) := by decide +kernel
theorem dX8_init_94 : decode cX8_init 94 = .ok (.putfield 45, 3) := by decide +kernel
theorem dX8_init_97 : decode cX8_init 97 = .ok (.aload_n 0, 1) := by decide +kernel
theorem dX8_init_98 : decode cX8_init 98 = .ok (.iconst 2, 1) := by decide +kernel
theorem dX8_init_99 : decode cX8_init 99 = .ok (.newarray .int, 2) := by decide +kernel
theorem dX8_init_101 : decode cX8_init 101 = .ok (.putfield 48, 3) := by decide +kernel
theorem dX8_init_104 : decode cX8_init 104 = .ok (.aload_n 0, 1) := by decide +kernel
theorem dX8_init_105 : decode cX8_init 105 = .ok (.iconst 2, 1) := by decide +kernel
theorem dX8_init_106 : decode cX8_init 106 = .ok (.newarray .int, 2) := by decide +kernel
theorem dX8_init_108 : decode cX8_init 108 = .ok (.putfield 51, 3) := by decide +kernel
theorem dX8_init_111 : decode cX8_init 111 = .ok (.aload_n 0, 1) := by decide +kernel
theorem dX8_init_112 : decode cX8_init 112 = .ok (.iconst 2, 1) := by decide +kernel
theorem dX8_init_113 : decode cX8_init 113 = .ok (.newarray .int, 2) := by decide +kernel
theorem dX8_init_115 : decode cX8_init 115 = .ok (.putfield 54, 3) := by decide +kernel
theorem dX8_init_118 : decode cX8_init 118 = .ok (.aload_n 0, 1) := by decide +kernel
theorem dX8_init_119 : decode cX8_init 119 = .ok (.bipush 20, 2) := by decide +kernel
theorem dX8_init_121 : decode cX8_init 121 = .ok (.newarray .int, 2) := by decide +kernel
theorem dX8_init_123 : decode cX8_init 123 = .ok (.putfield 57, 3) := by decide +kernel
theorem dX8_init_126 : decode cX8_init 126 = .ok (.aload_n 0, 1) := by decide +kernel
theorem dX8_init_127 : decode cX8_init 127 = .ok (.bipush 40, 2) := by decide +kernel
theorem dX8_init_129 : decode cX8_init 129 = .ok (.newarray .int, 2) := by decide +kernel
theorem dX8_init_131 : decode cX8_init 131 = .ok (.putfield 60, 3) := by decide +kernel
theorem dX8_init_134 : decode cX8_init 134 = .ok (.aload_n 0, 1) := by decide +kernel
theorem dX8_init_135 : decode cX8_init 135 = .ok (.bipush 40, 2) := by decide +kernel
theorem dX8_init_137 : decode cX8_init 137 = .ok (.newarray .int, 2) := by decide +kernel
theorem dX8_init_139 : decode cX8_init 139 = .ok (.putfield 63, 3) := by decide +kernel
theorem dX8_init_142 : decode cX8_init 142 = .ok (.aload_n 0, 1) := by decide +kernel
theorem dX8_init_143 : decode cX8_init 143 = .ok (.bipush 40, 2) := by decide +kernel
theorem dX8_init_145 : decode cX8_init 145 = .ok (.newarray .int, 2) := by decide +kernel
theorem dX8_init_147 : decode cX8_init 147 = .ok (.putfield 66, 3) := by decide +kernel
theorem dX8_init_150 : decode cX8_init 150 = .ok (.aload_n 0, 1) := by decide +kernel
theorem dX8_init_151 : decode cX8_init 151 = .ok (.invokevirtual 69, 3) := by decide +kernel
theorem dX8_init_154 : decode cX8_init 154 = .ok (.return_, 1) := by decide +kernel
theorem dX8_thrown_0 : decode cX8_thrown 0 = .ok (.aload_n 0, 1) := by decide +kernel
theorem dX8_thrown_1 : decode cX8_thrown 1 = .ok (.getfield 72, 3) := by decide +kernel
theorem dX8_thrown_4 : decode cX8_thrown 4 = .ok (.ireturn, 1) := by decide +kernel
theorem dX8_isIn_0 : decode cX8_isIn 0 = .ok (.iload_n 0, 1) := by decide +kernel
theorem dX8_isIn_1 : decode cX8_isIn 1 = .ok (.ifCond .lt 12, 3) := by decide +kernel
theorem dX8_isIn_4 : decode cX8_isIn 4 = .ok (.iload_n 0, 1) := by decide +kernel
theorem dX8_isIn_5 : decode cX8_isIn 5 = .ok (.iload_n 1, 1) := by decide +kernel
theorem dX8_isIn_6 : decode cX8_isIn 6 = .ok (.if_icmp .ge 7, 3) := by decide +kernel
theorem dX8_isIn_9 : decode cX8_isIn 9 = .ok (.iconst 1, 1) := by decide +kernel
theorem dX8_isIn_10 : decode cX8_isIn 10 = .ok (.goto 4, 3) := by decide +kernel
theorem dX8_isIn_13 : decode cX8_isIn 13 = .ok (.iconst 0, 1) := by decide +kernel
theorem dX8_isIn_14 : decode cX8_isIn 14 = .ok (.ireturn, 1) := by decide +kernel
theorem dX8_isLiteral_0 : decode cX8_isLiteral 0 = .ok (.iload_n 1, 1) := by decide +kernel
theorem dX8_isLiteral_1 : decode cX8_isLiteral 1 = .ok (.iconst 2, 1) := by decide +kernel
theorem dX8_isLiteral_2 : decode cX8_isLiteral 2 = .ok (.aload_n 0, 1) := by decide +kernel
theorem dX8_isLiteral_3 : decode cX8_isLiteral 3 = .ok (.getfield 76, 3) := by decide +kernel
theorem dX8_isLiteral_6 : decode cX8_isLiteral 6 = .ok (.imul, 1) := by decide +kernel
theorem dX8_isLiteral_7 : decode cX8_isLiteral 7 = .ok (.invokestatic 79, 3) := by decide +kernel
theorem dX8_isLiteral_10 : decode cX8_isLiteral 10 = .ok (.ireturn, 1) := by decide +kernel
theorem dX8_isOf_0 : decode cX8_isOf 0 = .ok (.aload_n 0, 1) := by decide +kernel
theorem dX8_isOf_1 : decode cX8_isOf 1 = .ok (.getfield 7, 3) := by decide +kernel
theorem dX8_isOf_4 : decode cX8_isOf 4 = .ok (.iload_n 1, 1) := by decide +kernel
theorem dX8_isOf_5 : decode cX8_isOf 5 = .ok (.iconst 2, 1) := by decide +kernel
theorem dX8_isOf_6 : decode cX8_isOf 6 = .ok (.idiv, 1) := by decide +kernel
theorem dX8_isOf_7 : decode cX8_isOf 7 = .ok (.iaload, 1) := by decide +kernel
theorem dX8_isOf_8 : decode cX8_isOf 8 = .ok (.iload_n 2, 1) := by decide +kernel
theorem dX8_isOf_9 : decode cX8_isOf 9 = .ok (.if_icmp .ne 7, 3) := by decide +kernel
theorem dX8_isOf_12 : decode cX8_isOf 12 = .ok (.iconst 1, 1) := by decide +kernel
theorem dX8_isOf_13 : decode cX8_isOf 13 = .ok (.goto 4, 3) := by decide +kernel
theorem dX8_isOf_16 : decode cX8_isOf 16 = .ok (.iconst 0, 1) := by decide +kernel
theorem dX8_isOf_17 : decode cX8_isOf 17 = .ok (.ireturn, 1) := by decide +kernel
theorem dX8_table_0 : decode cX8_table 0 = .ok (.aload_n 0, 1) := by decide +kernel
theorem dX8_table_1 : decode cX8_table 1 = .ok (.getfield 19, 3) := by decide +kernel
theorem dX8_table_4 : decode cX8_table 4 = .ok (.iload_n 1, 1) := by decide +kernel
theorem dX8_table_5 : decode cX8_table 5 = .ok (.iconst 2, 1) := by decide +kernel
theorem dX8_table_6 : decode cX8_table 6 = .ok (.idiv, 1) := by decide +kernel
theorem dX8_table_7 : decode cX8_table 7 = .ok (.iaload, 1) := by decide +kernel
theorem dX8_table_8 : decode cX8_table 8 = .ok (.istore_n 2, 1) := by decide +kernel
theorem dX8_table_9 : decode cX8_table 9 = .ok (.iload_n 1, 1) := by decide +kernel
theorem dX8_table_10 : decode cX8_table 10 = .ok (.iconst 1, 1) := by decide +kernel
theorem dX8_table_11 : decode cX8_table 11 = .ok (.iand, 1) := by decide +kernel
theorem dX8_table_12 : decode cX8_table 12 = .ok (.iconst 1, 1) := by decide +kernel
theorem dX8_table_13 : decode cX8_table 13 = .ok (.if_icmp .ne 9, 3) := by decide +kernel
theorem dX8_table_16 : decode cX8_table 16 = .ok (.iload_n 2, 1) := by decide +kernel
theorem dX8_table_17 : decode cX8_table 17 = .ok (.iconst (-1), 1) := by decide +kernel
theorem dX8_table_18 : decode cX8_table 18 = .ok (.ixor, 1) := by decide +kernel
theorem dX8_table_19 : decode cX8_table 19 = .ok (.goto 4, 3) := by decide +kernel
theorem dX8_table_22 : decode cX8_table 22 = .ok (.iload_n 2, 1) := by decide +kernel
theorem dX8_table_23 : decode cX8_table 23 = .ok (.ireturn, 1) := by decide +kernel
theorem dX8_work_0 : decode cX8_work 0 = .ok (.aload_n 0, 1) := by decide +kernel
theorem dX8_work_1 : decode cX8_work 1 = .ok (.getfield 7, 3) := by decide +kernel
theorem dX8_work_4 : decode cX8_work 4 = .ok (.iload_n 1, 1) := by decide +kernel
theorem dX8_work_5 : decode cX8_work 5 = .ok (.iaload, 1) := by decide +kernel
theorem dX8_work_6 : decode cX8_work 6 = .ok (.iconst 2, 1) := by decide +kernel
theorem dX8_work_7 : decode cX8_work 7 = .ok (.if_icmp .eq 13, 3) := by decide +kernel
theorem dX8_work_10 : decode cX8_work 10 = .ok (.aload_n 0, 1) := by decide +kernel
theorem dX8_work_11 : decode cX8_work 11 = .ok (.getfield 7, 3) := by decide +kernel
theorem dX8_work_14 : decode cX8_work 14 = .ok (.iload_n 1, 1) := by decide +kernel
theorem dX8_work_15 : decode cX8_work 15 = .ok (.iaload, 1) := by decide +kernel
theorem dX8_work_16 : decode cX8_work 16 = .ok (.iconst 3, 1) := by decide +kernel
theorem dX8_work_17 : decode cX8_work 17 = .ok (.if_icmp .ne 30, 3) := by decide +kernel
theorem dX8_work_20 : decode cX8_work 20 = .ok (.aload_n 0, 1) := by decide +kernel
theorem dX8_work_21 : decode cX8_work 21 = .ok (.getfield 19, 3) := by decide +kernel
theorem dX8_work_24 : decode cX8_work 24 = .ok (.iload_n 1, 1) := by decide +kernel
theorem dX8_work_25 : decode cX8_work 25 = .ok (.aload_n 0, 1) := by decide +kernel
theorem dX8_work_26 : decode cX8_work 26 = .ok (.aload_n 0, 1) := by decide +kernel
theorem dX8_work_27 : decode cX8_work 27 = .ok (.getfield 13, 3) := by decide +kernel
theorem dX8_work_30 : decode cX8_work 30 = .ok (.iload_n 1, 1) := by decide +kernel
theorem dX8_work_31 : decode cX8_work 31 = .ok (.iaload, 1) := by decide +kernel
theorem dX8_work_32 : decode cX8_work 32 = .ok (.invokevirtual 83, 3) := by decide +kernel
theorem dX8_work_35 : decode cX8_work 35 = .ok (.aload_n 0, 1) := by decide +kernel
theorem dX8_work_36 : decode cX8_work 36 = .ok (.aload_n 0, 1) := by decide +kernel
theorem dX8_work_37 : decode cX8_work 37 = .ok (.getfield 16, 3) := by decide +kernel
theorem dX8_work_40 : decode cX8_work 40 = .ok (.iload_n 1, 1) := by decide +kernel
theorem dX8_work_41 : decode cX8_work 41 = .ok (.iaload, 1) := by decide +kernel
theorem dX8_work_42 : decode cX8_work 42 = .ok (.invokevirtual 83, 3) := by decide +kernel
theorem dX8_work_45 : decode cX8_work 45 = .ok (.iand, 1) := by decide +kernel
theorem dX8_work_46 : decode cX8_work 46 = .ok (.iastore, 1) := by decide +kernel
theorem dX8_work_47 : decode cX8_work 47 = .ok (.return_, 1) := by decide +kernel
theorem dX8_workOlds_0 : decode cX8_workOlds 0 = .ok (.iload_n 1, 1) := by decide +kernel
theorem dX8_workOlds_1 : decode cX8_workOlds 1 = .ok (.istore_n 2, 1) := by decide +kernel
theorem dX8_workOlds_2 : decode cX8_workOlds 2 = .ok (.iload_n 2, 1) := by decide +kernel
theorem dX8_workOlds_3 : decode cX8_workOlds 3 = .ok (.aload_n 0, 1) := by decide +kernel
theorem dX8_workOlds_4 : decode cX8_workOlds 4 = .ok (.getfield 76, 3) := by decide +kernel
theorem dX8_workOlds_7 : decode cX8_workOlds 7 = .ok (.if_icmp .ge 24, 3) := by decide +kernel
theorem dX8_workOlds_10 : decode cX8_workOlds 10 = .ok (.aload_n 0, 1) := by decide +kernel
theorem dX8_workOlds_11 : decode cX8_workOlds 11 = .ok (.getfield 7, 3) := by decide +kernel
theorem dX8_workOlds_14 : decode cX8_workOlds 14 = .ok (.iload_n 2, 1) := by decide +kernel
theorem dX8_workOlds_15 : decode cX8_workOlds 15 = .ok (.iaload, 1) := by decide +kernel
theorem dX8_workOlds_16 : decode cX8_workOlds 16 = .ok (.iconst 2, 1) := by decide +kernel
theorem dX8_workOlds_17 : decode cX8_workOlds 17 = .ok (.if_icmp .ne 8, 3) := by decide +kernel
theorem dX8_workOlds_20 : decode cX8_workOlds 20 = .ok (.aload_n 0, 1) := by decide +kernel
theorem dX8_workOlds_21 : decode cX8_workOlds 21 = .ok (.iload_n 2, 1) := by decide +kernel
theorem dX8_workOlds_22 : decode cX8_workOlds 22 = .ok (.invokevirtual 87, 3) := by decide +kernel
theorem dX8_workOlds_25 : decode cX8_workOlds 25 = .ok (.iinc 2 1, 3) := by decide +kernel
theorem dX8_workOlds_28 : decode cX8_workOlds 28 = .ok (.goto (-26), 3) := by decide +kernel
theorem dX8_workOlds_31 : decode cX8_workOlds 31 = .ok (.return_, 1) := by decide +kernel
theorem dX8_isApart_0 : decode cX8_isApart 0 = .ok (.aload_n 0, 1) := by decide +kernel
theorem dX8_isApart_1 : decode cX8_isApart 1 = .ok (.aload_n 0, 1) := by decide +kernel
theorem dX8_isApart_2 : decode cX8_isApart 2 = .ok (.getfield 33, 3) := by decide +kernel
theorem dX8_isApart_5 : decode cX8_isApart 5 = .ok (.iload_n 1, 1) := by decide +kernel
theorem dX8_isApart_6 : decode cX8_isApart 6 = .ok (.iaload, 1) := by decide +kernel
theorem dX8_isApart_7 : decode cX8_isApart 7 = .ok (.invokevirtual 83, 3) := by decide +kernel
theorem dX8_isApart_10 : decode cX8_isApart 10 = .ok (.aload_n 0, 1) := by decide +kernel
theorem dX8_isApart_11 : decode cX8_isApart 11 = .ok (.aload_n 0, 1) := by decide +kernel
theorem dX8_isApart_12 : decode cX8_isApart 12 = .ok (.getfield 36, 3) := by decide +kernel
theorem dX8_isApart_15 : decode cX8_isApart 15 = .ok (.iload_n 1, 1) := by decide +kernel
theorem dX8_isApart_16 : decode cX8_isApart 16 = .ok (.iaload, 1) := by decide +kernel
theorem dX8_isApart_17 : decode cX8_isApart 17 = .ok (.invokevirtual 83, 3) := by decide +kernel
theorem dX8_isApart_20 : decode cX8_isApart 20 = .ok (.if_icmp .eq 7, 3) := by decide +kernel
theorem dX8_isApart_23 : decode cX8_isApart 23 = .ok (.iconst 1, 1) := by decide +kernel
theorem dX8_isApart_24 : decode cX8_isApart 24 = .ok (.goto 4, 3) := by decide +kernel
theorem dX8_isApart_27 : decode cX8_isApart 27 = .ok (.iconst 0, 1) := by decide +kernel
theorem dX8_isApart_28 : decode cX8_isApart 28 = .ok (.ireturn, 1) := by decide +kernel
theorem dX8_apart_0 : decode cX8_apart 0 = .ok (.iconst 0, 1) := by decide +kernel
theorem dX8_apart_1 : decode cX8_apart 1 = .ok (.istore_n 1, 1) := by decide +kernel
theorem dX8_apart_2 : decode cX8_apart 2 = .ok (.iconst 0, 1) := by decide +kernel
theorem dX8_apart_3 : decode cX8_apart 3 = .ok (.istore_n 2, 1) := by decide +kernel
theorem dX8_apart_4 : decode cX8_apart 4 = .ok (.iload_n 2, 1) := by decide +kernel
theorem dX8_apart_5 : decode cX8_apart 5 = .ok (.aload_n 0, 1) := by decide +kernel
theorem dX8_apart_6 : decode cX8_apart 6 = .ok (.getfield 91, 3) := by decide +kernel
theorem dX8_apart_9 : decode cX8_apart 9 = .ok (.if_icmp .ge 25, 3) := by decide +kernel
theorem dX8_apart_12 : decode cX8_apart 12 = .ok (.aload_n 0, 1) := by decide +kernel
theorem dX8_apart_13 : decode cX8_apart 13 = .ok (.iload_n 2, 1) := by decide +kernel
theorem dX8_apart_14 : decode cX8_apart 14 = .ok (.invokevirtual 94, 3) := by decide +kernel
theorem dX8_apart_17 : decode cX8_apart 17 = .ok (.ifCond .eq 9, 3) := by decide +kernel
theorem dX8_apart_20 : decode cX8_apart 20 = .ok (.iload_n 1, 1) := by decide +kernel
theorem dX8_apart_21 : decode cX8_apart 21 = .ok (.iconst 1, 1) := by decide +kernel
theorem dX8_apart_22 : decode cX8_apart 22 = .ok (.iadd, 1) := by decide +kernel
theorem dX8_apart_23 : decode cX8_apart 23 = .ok (.goto 4, 3) := by decide +kernel
theorem dX8_apart_26 : decode cX8_apart 26 = .ok (.iload_n 1, 1) := by decide +kernel
theorem dX8_apart_27 : decode cX8_apart 27 = .ok (.istore_n 1, 1) := by decide +kernel
theorem dX8_apart_28 : decode cX8_apart 28 = .ok (.iinc 2 1, 3) := by decide +kernel
theorem dX8_apart_31 : decode cX8_apart 31 = .ok (.goto (-27), 3) := by decide +kernel
theorem dX8_apart_34 : decode cX8_apart 34 = .ok (.iload_n 1, 1) := by decide +kernel
theorem dX8_apart_35 : decode cX8_apart 35 = .ok (.ireturn, 1) := by decide +kernel
theorem dX8_put_0 : decode cX8_put 0 = .ok (.aload_n 0, 1) := by decide +kernel
theorem dX8_put_1 : decode cX8_put 1 = .ok (.getfield 7, 3) := by decide +kernel
theorem dX8_put_4 : decode cX8_put 4 = .ok (.aload_n 0, 1) := by decide +kernel
theorem dX8_put_5 : decode cX8_put 5 = .ok (.getfield 76, 3) := by decide +kernel
theorem dX8_put_8 : decode cX8_put 8 = .ok (.iload_n 1, 1) := by decide +kernel
theorem dX8_put_9 : decode cX8_put 9 = .ok (.iastore, 1) := by decide +kernel
theorem dX8_put_10 : decode cX8_put 10 = .ok (.aload_n 0, 1) := by decide +kernel
theorem dX8_put_11 : decode cX8_put 11 = .ok (.getfield 13, 3) := by decide +kernel
theorem dX8_put_14 : decode cX8_put 14 = .ok (.aload_n 0, 1) := by decide +kernel
theorem dX8_put_15 : decode cX8_put 15 = .ok (.getfield 76, 3) := by decide +kernel
theorem dX8_put_18 : decode cX8_put 18 = .ok (.iload_n 2, 1) := by decide +kernel
theorem dX8_put_19 : decode cX8_put 19 = .ok (.iastore, 1) := by decide +kernel
theorem dX8_put_20 : decode cX8_put 20 = .ok (.aload_n 0, 1) := by decide +kernel
theorem dX8_put_21 : decode cX8_put 21 = .ok (.getfield 16, 3) := by decide +kernel
theorem dX8_put_24 : decode cX8_put 24 = .ok (.aload_n 0, 1) := by decide +kernel
theorem dX8_put_25 : decode cX8_put 25 = .ok (.getfield 76, 3) := by decide +kernel
theorem dX8_put_28 : decode cX8_put 28 = .ok (.iload_n 3, 1) := by decide +kernel
theorem dX8_put_29 : decode cX8_put 29 = .ok (.iastore, 1) := by decide +kernel
theorem dX8_put_30 : decode cX8_put 30 = .ok (.aload_n 0, 1) := by decide +kernel
theorem dX8_put_31 : decode cX8_put 31 = .ok (.getfield 22, 3) := by decide +kernel
theorem dX8_put_34 : decode cX8_put 34 = .ok (.aload_n 0, 1) := by decide +kernel
theorem dX8_put_35 : decode cX8_put 35 = .ok (.getfield 76, 3) := by decide +kernel
theorem dX8_put_38 : decode cX8_put 38 = .ok (.iconst 0, 1) := by decide +kernel
theorem dX8_put_39 : decode cX8_put 39 = .ok (.bastore, 1) := by decide +kernel
theorem dX8_put_40 : decode cX8_put 40 = .ok (.aload_n 0, 1) := by decide +kernel
theorem dX8_put_41 : decode cX8_put 41 = .ok (.getfield 26, 3) := by decide +kernel
theorem dX8_put_44 : decode cX8_put 44 = .ok (.aload_n 0, 1) := by decide +kernel
theorem dX8_put_45 : decode cX8_put 45 = .ok (.getfield 76, 3) := by decide +kernel
theorem dX8_put_48 : decode cX8_put 48 = .ok (.lconst 0, 1) := by decide +kernel
theorem dX8_put_49 : decode cX8_put 49 = .ok (.lastore, 1) := by decide +kernel
theorem dX8_put_50 : decode cX8_put 50 = .ok (.aload_n 0, 1) := by decide +kernel
theorem dX8_put_51 : decode cX8_put 51 = .ok (.getfield 30, 3) := by decide +kernel
theorem dX8_put_54 : decode cX8_put 54 = .ok (.aload_n 0, 1) := by decide +kernel
theorem dX8_put_55 : decode cX8_put 55 = .ok (.getfield 76, 3) := by decide +kernel
theorem dX8_put_58 : decode cX8_put 58 = .ok (.lconst 0, 1) := by decide +kernel
theorem dX8_put_59 : decode cX8_put 59 = .ok (.lastore, 1) := by decide +kernel
theorem dX8_put_60 : decode cX8_put 60 = .ok (.aload_n 0, 1) := by decide +kernel
theorem dX8_put_61 : decode cX8_put 61 = .ok (.aload_n 0, 1) := by decide +kernel
theorem dX8_put_62 : decode cX8_put 62 = .ok (.getfield 76, 3) := by decide +kernel
theorem dX8_put_65 : decode cX8_put 65 = .ok (.invokevirtual 87, 3) := by decide +kernel
theorem dX8_put_68 : decode cX8_put 68 = .ok (.aload_n 0, 1) := by decide +kernel
theorem dX8_put_69 : decode cX8_put 69 = .ok (.dup, 1) := by decide +kernel
theorem dX8_put_70 : decode cX8_put 70 = .ok (.getfield 76, 3) := by decide +kernel
theorem dX8_put_73 : decode cX8_put 73 = .ok (.iconst 1, 1) := by decide +kernel
theorem dX8_put_74 : decode cX8_put 74 = .ok (.iadd, 1) := by decide +kernel
theorem dX8_put_75 : decode cX8_put 75 = .ok (.putfield 76, 3) := by decide +kernel
theorem dX8_put_78 : decode cX8_put 78 = .ok (.aload_n 0, 1) := by decide +kernel
theorem dX8_put_79 : decode cX8_put 79 = .ok (.iconst 0, 1) := by decide +kernel
theorem dX8_put_80 : decode cX8_put 80 = .ok (.putfield 98, 3) := by decide +kernel
theorem dX8_put_83 : decode cX8_put 83 = .ok (.iconst 2, 1) := by decide +kernel
theorem dX8_put_84 : decode cX8_put 84 = .ok (.aload_n 0, 1) := by decide +kernel
theorem dX8_put_85 : decode cX8_put 85 = .ok (.getfield 76, 3) := by decide +kernel
theorem dX8_put_88 : decode cX8_put 88 = .ok (.imul, 1) := by decide +kernel
theorem dX8_put_89 : decode cX8_put 89 = .ok (.iconst 2, 1) := by decide +kernel
theorem dX8_put_90 : decode cX8_put 90 = .ok (.isub, 1) := by decide +kernel
theorem dX8_put_91 : decode cX8_put 91 = .ok (.ireturn, 1) := by decide +kernel
theorem dX8_input_0 : decode cX8_input 0 = .ok (.aload_n 0, 1) := by decide +kernel
theorem dX8_input_1 : decode cX8_input 1 = .ok (.aload_n 0, 1) := by decide +kernel
theorem dX8_input_2 : decode cX8_input 2 = .ok (.getfield 102, 3) := by decide +kernel
theorem dX8_input_5 : decode cX8_input 5 = .ok (.iconst 5, 1) := by decide +kernel
theorem dX8_input_6 : decode cX8_input 6 = .ok (.if_icmp .eq 15, 3) := by decide +kernel
theorem dX8_input_9 : decode cX8_input 9 = .ok (.aload_n 0, 1) := by decide +kernel
theorem dX8_input_10 : decode cX8_input 10 = .ok (.getfield 105, 3) := by decide +kernel
theorem dX8_input_13 : decode cX8_input 13 = .ok (.aload_n 0, 1) := by decide +kernel
theorem dX8_input_14 : decode cX8_input 14 = .ok (.getfield 108, 3) := by decide +kernel
theorem dX8_input_17 : decode cX8_input 17 = .ok (.iadd, 1) := by decide +kernel
theorem dX8_input_18 : decode cX8_input 18 = .ok (.ifCond .le 7, 3) := by decide +kernel
theorem dX8_input_21 : decode cX8_input 21 = .ok (.iconst 1, 1) := by decide +kernel
theorem dX8_input_22 : decode cX8_input 22 = .ok (.goto 4, 3) := by decide +kernel
theorem dX8_input_25 : decode cX8_input 25 = .ok (.iconst 0, 1) := by decide +kernel
theorem dX8_input_26 : decode cX8_input 26 = .ok (.putfield 72, 3) := by decide +kernel
theorem dX8_input_29 : decode cX8_input 29 = .ok (.aload_n 0, 1) := by decide +kernel
theorem dX8_input_30 : decode cX8_input 30 = .ok (.getfield 72, 3) := by decide +kernel
theorem dX8_input_33 : decode cX8_input 33 = .ok (.ifCond .le 5, 3) := by decide +kernel
theorem dX8_input_36 : decode cX8_input 36 = .ok (.iconst 0, 1) := by decide +kernel
theorem dX8_input_37 : decode cX8_input 37 = .ok (.ireturn, 1) := by decide +kernel
theorem dX8_input_38 : decode cX8_input 38 = .ok (.iconst 0, 1) := by decide +kernel
theorem dX8_input_39 : decode cX8_input 39 = .ok (.istore_n 1, 1) := by decide +kernel
theorem dX8_input_40 : decode cX8_input 40 = .ok (.iconst 0, 1) := by decide +kernel
theorem dX8_input_41 : decode cX8_input 41 = .ok (.istore_n 2, 1) := by decide +kernel
theorem dX8_input_42 : decode cX8_input 42 = .ok (.iload_n 2, 1) := by decide +kernel
theorem dX8_input_43 : decode cX8_input 43 = .ok (.bipush 32, 2) := by decide +kernel
theorem dX8_input_45 : decode cX8_input 45 = .ok (.if_icmp .ge 31, 3) := by decide +kernel
theorem dX8_input_48 : decode cX8_input 48 = .ok (.iload_n 2, 1) := by decide +kernel
theorem dX8_input_49 : decode cX8_input 49 = .ok (.aload_n 0, 1) := by decide +kernel
theorem dX8_input_50 : decode cX8_input 50 = .ok (.getfield 102, 3) := by decide +kernel
theorem dX8_input_53 : decode cX8_input 53 = .ok (.ishr, 1) := by decide +kernel
theorem dX8_input_54 : decode cX8_input 54 = .ok (.iconst 1, 1) := by decide +kernel
theorem dX8_input_55 : decode cX8_input 55 = .ok (.iand, 1) := by decide +kernel
theorem dX8_input_56 : decode cX8_input 56 = .ok (.iconst 1, 1) := by decide +kernel
theorem dX8_input_57 : decode cX8_input 57 = .ok (.if_icmp .ne 11, 3) := by decide +kernel
theorem dX8_input_60 : decode cX8_input 60 = .ok (.iload_n 1, 1) := by decide +kernel
theorem dX8_input_61 : decode cX8_input 61 = .ok (.iconst 1, 1) := by decide +kernel
theorem dX8_input_62 : decode cX8_input 62 = .ok (.iload_n 2, 1) := by decide +kernel
theorem dX8_input_63 : decode cX8_input 63 = .ok (.ishl, 1) := by decide +kernel
theorem dX8_input_64 : decode cX8_input 64 = .ok (.ior, 1) := by decide +kernel
theorem dX8_input_65 : decode cX8_input 65 = .ok (.goto 4, 3) := by decide +kernel
theorem dX8_input_68 : decode cX8_input 68 = .ok (.iload_n 1, 1) := by decide +kernel
theorem dX8_input_69 : decode cX8_input 69 = .ok (.istore_n 1, 1) := by decide +kernel
theorem dX8_input_70 : decode cX8_input 70 = .ok (.iinc 2 1, 3) := by decide +kernel
theorem dX8_input_73 : decode cX8_input 73 = .ok (.goto (-31), 3) := by decide +kernel
theorem dX8_input_76 : decode cX8_input 76 = .ok (.aload_n 0, 1) := by decide +kernel
theorem dX8_input_77 : decode cX8_input 77 = .ok (.getfield 19, 3) := by decide +kernel
theorem dX8_input_80 : decode cX8_input 80 = .ok (.aload_n 0, 1) := by decide +kernel
theorem dX8_input_81 : decode cX8_input 81 = .ok (.getfield 76, 3) := by decide +kernel
theorem dX8_input_84 : decode cX8_input 84 = .ok (.iload_n 1, 1) := by decide +kernel
theorem dX8_input_85 : decode cX8_input 85 = .ok (.iastore, 1) := by decide +kernel
theorem dX8_input_86 : decode cX8_input 86 = .ok (.aload_n 0, 1) := by decide +kernel
theorem dX8_input_87 : decode cX8_input 87 = .ok (.dup, 1) := by decide +kernel
theorem dX8_input_88 : decode cX8_input 88 = .ok (.getfield 102, 3) := by decide +kernel
theorem dX8_input_91 : decode cX8_input 91 = .ok (.iconst 1, 1) := by decide +kernel
theorem dX8_input_92 : decode cX8_input 92 = .ok (.iadd, 1) := by decide +kernel
theorem dX8_input_93 : decode cX8_input 93 = .ok (.putfield 102, 3) := by decide +kernel
theorem dX8_input_96 : decode cX8_input 96 = .ok (.aload_n 0, 1) := by decide +kernel
theorem dX8_input_97 : decode cX8_input 97 = .ok (.iconst 1, 1) := by decide +kernel
theorem dX8_input_98 : decode cX8_input 98 = .ok (.iconst 0, 1) := by decide +kernel
theorem dX8_input_99 : decode cX8_input 99 = .ok (.iconst 0, 1) := by decide +kernel
theorem dX8_input_100 : decode cX8_input 100 = .ok (.invokevirtual 111, 3) := by decide +kernel
theorem dX8_input_103 : decode cX8_input 103 = .ok (.ireturn, 1) := by decide +kernel
theorem dX8_old_0 : decode cX8_old 0 = .ok (.aload_n 0, 1) := by decide +kernel
theorem dX8_old_1 : decode cX8_old 1 = .ok (.iload_n 1, 1) := by decide +kernel
theorem dX8_old_2 : decode cX8_old 2 = .ok (.invokevirtual 115, 3) := by decide +kernel
theorem dX8_old_5 : decode cX8_old 5 = .ok (.ifCond .eq 15, 3) := by decide +kernel
theorem dX8_old_8 : decode cX8_old 8 = .ok (.aload_n 0, 1) := by decide +kernel
theorem dX8_old_9 : decode cX8_old 9 = .ok (.iload_n 2, 1) := by decide +kernel
theorem dX8_old_10 : decode cX8_old 10 = .ok (.invokevirtual 115, 3) := by decide +kernel
theorem dX8_old_13 : decode cX8_old 13 = .ok (.ifCond .eq 7, 3) := by decide +kernel
theorem dX8_old_16 : decode cX8_old 16 = .ok (.iconst 1, 1) := by decide +kernel
theorem dX8_old_17 : decode cX8_old 17 = .ok (.goto 4, 3) := by decide +kernel
theorem dX8_old_20 : decode cX8_old 20 = .ok (.iconst 0, 1) := by decide +kernel
theorem dX8_old_21 : decode cX8_old 21 = .ok (.istore_n 3, 1) := by decide +kernel
theorem dX8_old_22 : decode cX8_old 22 = .ok (.aload_n 0, 1) := by decide +kernel
theorem dX8_old_23 : decode cX8_old 23 = .ok (.iload_n 3, 1) := by decide +kernel
theorem dX8_old_24 : decode cX8_old 24 = .ok (.ifCond .ne 7, 3) := by decide +kernel
theorem dX8_old_27 : decode cX8_old 27 = .ok (.iconst 1, 1) := by decide +kernel
theorem dX8_old_28 : decode cX8_old 28 = .ok (.goto 39, 3) := by decide +kernel
theorem dX8_old_31 : decode cX8_old 31 = .ok (.aload_n 0, 1) := by decide +kernel
theorem dX8_old_32 : decode cX8_old 32 = .ok (.getfield 105, 3) := by decide +kernel
theorem dX8_old_35 : decode cX8_old 35 = .ok (.bipush 8, 2) := by decide +kernel
theorem dX8_old_37 : decode cX8_old 37 = .ok (.if_icmp .ne 7, 3) := by decide +kernel
theorem dX8_old_40 : decode cX8_old 40 = .ok (.iconst 2, 1) := by decide +kernel
theorem dX8_old_41 : decode cX8_old 41 = .ok (.goto 26, 3) := by decide +kernel
theorem dX8_old_44 : decode cX8_old 44 = .ok (.aload_n 0, 1) := by decide +kernel
theorem dX8_old_45 : decode cX8_old 45 = .ok (.iload_n 1, 1) := by decide +kernel
theorem dX8_old_46 : decode cX8_old 46 = .ok (.iconst 3, 1) := by decide +kernel
theorem dX8_old_47 : decode cX8_old 47 = .ok (.invokevirtual 118, 3) := by decide +kernel
theorem dX8_old_50 : decode cX8_old 50 = .ok (.ifCond .ne 12, 3) := by decide +kernel
theorem dX8_old_53 : decode cX8_old 53 = .ok (.aload_n 0, 1) := by decide +kernel
theorem dX8_old_54 : decode cX8_old 54 = .ok (.iload_n 2, 1) := by decide +kernel
theorem dX8_old_55 : decode cX8_old 55 = .ok (.iconst 3, 1) := by decide +kernel
theorem dX8_old_56 : decode cX8_old 56 = .ok (.invokevirtual 118, 3) := by decide +kernel
theorem dX8_old_59 : decode cX8_old 59 = .ok (.ifCond .eq 7, 3) := by decide +kernel
theorem dX8_old_62 : decode cX8_old 62 = .ok (.iconst 3, 1) := by decide +kernel
theorem dX8_old_63 : decode cX8_old 63 = .ok (.goto 4, 3) := by decide +kernel
theorem dX8_old_66 : decode cX8_old 66 = .ok (.iconst 0, 1) := by decide +kernel
theorem dX8_old_67 : decode cX8_old 67 = .ok (.putfield 72, 3) := by decide +kernel
theorem dX8_old_70 : decode cX8_old 70 = .ok (.aload_n 0, 1) := by decide +kernel
theorem dX8_old_71 : decode cX8_old 71 = .ok (.getfield 72, 3) := by decide +kernel
theorem dX8_old_74 : decode cX8_old 74 = .ok (.ifCond .le 5, 3) := by decide +kernel
theorem dX8_old_77 : decode cX8_old 77 = .ok (.iconst 0, 1) := by decide +kernel
theorem dX8_old_78 : decode cX8_old 78 = .ok (.ireturn, 1) := by decide +kernel
theorem dX8_old_79 : decode cX8_old 79 = .ok (.aload_n 0, 1) := by decide +kernel
theorem dX8_old_80 : decode cX8_old 80 = .ok (.dup, 1) := by decide +kernel
theorem dX8_old_81 : decode cX8_old 81 = .ok (.getfield 105, 3) := by decide +kernel
theorem dX8_old_84 : decode cX8_old 84 = .ok (.iconst 1, 1) := by decide +kernel
theorem dX8_old_85 : decode cX8_old 85 = .ok (.iadd, 1) := by decide +kernel
theorem dX8_old_86 : decode cX8_old 86 = .ok (.putfield 105, 3) := by decide +kernel
theorem dX8_old_89 : decode cX8_old 89 = .ok (.aload_n 0, 1) := by decide +kernel
theorem dX8_old_90 : decode cX8_old 90 = .ok (.iconst 2, 1) := by decide +kernel
theorem dX8_old_91 : decode cX8_old 91 = .ok (.iload_n 1, 1) := by decide +kernel
theorem dX8_old_92 : decode cX8_old 92 = .ok (.iload_n 2, 1) := by decide +kernel
theorem dX8_old_93 : decode cX8_old 93 = .ok (.invokevirtual 111, 3) := by decide +kernel
theorem dX8_old_96 : decode cX8_old 96 = .ok (.ireturn, 1) := by decide +kernel
theorem dX8_asked_0 : decode cX8_asked 0 = .ok (.aload_n 0, 1) := by decide +kernel
theorem dX8_asked_1 : decode cX8_asked 1 = .ok (.iload_n 1, 1) := by decide +kernel
theorem dX8_asked_2 : decode cX8_asked 2 = .ok (.invokevirtual 115, 3) := by decide +kernel
theorem dX8_asked_5 : decode cX8_asked 5 = .ok (.ifCond .eq 15, 3) := by decide +kernel
theorem dX8_asked_8 : decode cX8_asked 8 = .ok (.aload_n 0, 1) := by decide +kernel
theorem dX8_asked_9 : decode cX8_asked 9 = .ok (.iload_n 2, 1) := by decide +kernel
theorem dX8_asked_10 : decode cX8_asked 10 = .ok (.invokevirtual 115, 3) := by decide +kernel
theorem dX8_asked_13 : decode cX8_asked 13 = .ok (.ifCond .eq 7, 3) := by decide +kernel
theorem dX8_asked_16 : decode cX8_asked 16 = .ok (.iconst 1, 1) := by decide +kernel
theorem dX8_asked_17 : decode cX8_asked 17 = .ok (.goto 4, 3) := by decide +kernel
theorem dX8_asked_20 : decode cX8_asked 20 = .ok (.iconst 0, 1) := by decide +kernel
theorem dX8_asked_21 : decode cX8_asked 21 = .ok (.istore_n 3, 1) := by decide +kernel
theorem dX8_asked_22 : decode cX8_asked 22 = .ok (.aload_n 0, 1) := by decide +kernel
theorem dX8_asked_23 : decode cX8_asked 23 = .ok (.iload_n 3, 1) := by decide +kernel
theorem dX8_asked_24 : decode cX8_asked 24 = .ok (.ifCond .ne 7, 3) := by decide +kernel
theorem dX8_asked_27 : decode cX8_asked 27 = .ok (.iconst 1, 1) := by decide +kernel
theorem dX8_asked_28 : decode cX8_asked 28 = .ok (.goto 39, 3) := by decide +kernel
theorem dX8_asked_31 : decode cX8_asked 31 = .ok (.aload_n 0, 1) := by decide +kernel
theorem dX8_asked_32 : decode cX8_asked 32 = .ok (.getfield 108, 3) := by decide +kernel
theorem dX8_asked_35 : decode cX8_asked 35 = .ok (.bipush 24, 2) := by decide +kernel
theorem dX8_asked_37 : decode cX8_asked 37 = .ok (.if_icmp .ne 7, 3) := by decide +kernel
theorem dX8_asked_40 : decode cX8_asked 40 = .ok (.iconst 2, 1) := by decide +kernel
theorem dX8_asked_41 : decode cX8_asked 41 = .ok (.goto 26, 3) := by decide +kernel
theorem dX8_asked_44 : decode cX8_asked 44 = .ok (.aload_n 0, 1) := by decide +kernel
theorem dX8_asked_45 : decode cX8_asked 45 = .ok (.iload_n 1, 1) := by decide +kernel
theorem dX8_asked_46 : decode cX8_asked 46 = .ok (.iconst 2, 1) := by decide +kernel
theorem dX8_asked_47 : decode cX8_asked 47 = .ok (.invokevirtual 118, 3) := by decide +kernel
theorem dX8_asked_50 : decode cX8_asked 50 = .ok (.ifCond .ne 12, 3) := by decide +kernel
theorem dX8_asked_53 : decode cX8_asked 53 = .ok (.aload_n 0, 1) := by decide +kernel
theorem dX8_asked_54 : decode cX8_asked 54 = .ok (.iload_n 2, 1) := by decide +kernel
theorem dX8_asked_55 : decode cX8_asked 55 = .ok (.iconst 2, 1) := by decide +kernel
theorem dX8_asked_56 : decode cX8_asked 56 = .ok (.invokevirtual 118, 3) := by decide +kernel
theorem dX8_asked_59 : decode cX8_asked 59 = .ok (.ifCond .eq 7, 3) := by decide +kernel
theorem dX8_asked_62 : decode cX8_asked 62 = .ok (.iconst 3, 1) := by decide +kernel
theorem dX8_asked_63 : decode cX8_asked 63 = .ok (.goto 4, 3) := by decide +kernel
theorem dX8_asked_66 : decode cX8_asked 66 = .ok (.iconst 0, 1) := by decide +kernel
theorem dX8_asked_67 : decode cX8_asked 67 = .ok (.putfield 72, 3) := by decide +kernel
theorem dX8_asked_70 : decode cX8_asked 70 = .ok (.aload_n 0, 1) := by decide +kernel
theorem dX8_asked_71 : decode cX8_asked 71 = .ok (.getfield 72, 3) := by decide +kernel
theorem dX8_asked_74 : decode cX8_asked 74 = .ok (.ifCond .le 5, 3) := by decide +kernel
theorem dX8_asked_77 : decode cX8_asked 77 = .ok (.iconst 0, 1) := by decide +kernel
theorem dX8_asked_78 : decode cX8_asked 78 = .ok (.ireturn, 1) := by decide +kernel
theorem dX8_asked_79 : decode cX8_asked 79 = .ok (.aload_n 0, 1) := by decide +kernel
theorem dX8_asked_80 : decode cX8_asked 80 = .ok (.dup, 1) := by decide +kernel
theorem dX8_asked_81 : decode cX8_asked 81 = .ok (.getfield 108, 3) := by decide +kernel
theorem dX8_asked_84 : decode cX8_asked 84 = .ok (.iconst 1, 1) := by decide +kernel
theorem dX8_asked_85 : decode cX8_asked 85 = .ok (.iadd, 1) := by decide +kernel
theorem dX8_asked_86 : decode cX8_asked 86 = .ok (.putfield 108, 3) := by decide +kernel
theorem dX8_asked_89 : decode cX8_asked 89 = .ok (.aload_n 0, 1) := by decide +kernel
theorem dX8_asked_90 : decode cX8_asked 90 = .ok (.iconst 3, 1) := by decide +kernel
theorem dX8_asked_91 : decode cX8_asked 91 = .ok (.iload_n 1, 1) := by decide +kernel
theorem dX8_asked_92 : decode cX8_asked 92 = .ok (.iload_n 2, 1) := by decide +kernel
theorem dX8_asked_93 : decode cX8_asked 93 = .ok (.invokevirtual 111, 3) := by decide +kernel
theorem dX8_asked_96 : decode cX8_asked 96 = .ok (.ireturn, 1) := by decide +kernel
theorem dX8_output_0 : decode cX8_output 0 = .ok (.aload_n 0, 1) := by decide +kernel
theorem dX8_output_1 : decode cX8_output 1 = .ok (.iload_n 1, 1) := by decide +kernel
theorem dX8_output_2 : decode cX8_output 2 = .ok (.invokevirtual 115, 3) := by decide +kernel
theorem dX8_output_5 : decode cX8_output 5 = .ok (.ifCond .eq 15, 3) := by decide +kernel
theorem dX8_output_8 : decode cX8_output 8 = .ok (.aload_n 0, 1) := by decide +kernel
theorem dX8_output_9 : decode cX8_output 9 = .ok (.iload_n 2, 1) := by decide +kernel
theorem dX8_output_10 : decode cX8_output 10 = .ok (.invokevirtual 115, 3) := by decide +kernel
theorem dX8_output_13 : decode cX8_output 13 = .ok (.ifCond .eq 7, 3) := by decide +kernel
theorem dX8_output_16 : decode cX8_output 16 = .ok (.iconst 1, 1) := by decide +kernel
theorem dX8_output_17 : decode cX8_output 17 = .ok (.goto 4, 3) := by decide +kernel
theorem dX8_output_20 : decode cX8_output 20 = .ok (.iconst 0, 1) := by decide +kernel
theorem dX8_output_21 : decode cX8_output 21 = .ok (.istore_n 3, 1) := by decide +kernel
theorem dX8_output_22 : decode cX8_output 22 = .ok (.aload_n 0, 1) := by decide +kernel
theorem dX8_output_23 : decode cX8_output 23 = .ok (.iload_n 3, 1) := by decide +kernel
theorem dX8_output_24 : decode cX8_output 24 = .ok (.ifCond .ne 7, 3) := by decide +kernel
theorem dX8_output_27 : decode cX8_output 27 = .ok (.iconst 1, 1) := by decide +kernel
theorem dX8_output_28 : decode cX8_output 28 = .ok (.goto 38, 3) := by decide +kernel
theorem dX8_output_31 : decode cX8_output 31 = .ok (.aload_n 0, 1) := by decide +kernel
theorem dX8_output_32 : decode cX8_output 32 = .ok (.getfield 91, 3) := by decide +kernel
theorem dX8_output_35 : decode cX8_output 35 = .ok (.iconst 4, 1) := by decide +kernel
theorem dX8_output_36 : decode cX8_output 36 = .ok (.if_icmp .ne 7, 3) := by decide +kernel
theorem dX8_output_39 : decode cX8_output 39 = .ok (.iconst 2, 1) := by decide +kernel
theorem dX8_output_40 : decode cX8_output 40 = .ok (.goto 26, 3) := by decide +kernel
theorem dX8_output_43 : decode cX8_output 43 = .ok (.aload_n 0, 1) := by decide +kernel
theorem dX8_output_44 : decode cX8_output 44 = .ok (.iload_n 1, 1) := by decide +kernel
theorem dX8_output_45 : decode cX8_output 45 = .ok (.iconst 3, 1) := by decide +kernel
theorem dX8_output_46 : decode cX8_output 46 = .ok (.invokevirtual 118, 3) := by decide +kernel
theorem dX8_output_49 : decode cX8_output 49 = .ok (.ifCond .ne 12, 3) := by decide +kernel
theorem dX8_output_52 : decode cX8_output 52 = .ok (.aload_n 0, 1) := by decide +kernel
theorem dX8_output_53 : decode cX8_output 53 = .ok (.iload_n 2, 1) := by decide +kernel
theorem dX8_output_54 : decode cX8_output 54 = .ok (.iconst 2, 1) := by decide +kernel
theorem dX8_output_55 : decode cX8_output 55 = .ok (.invokevirtual 118, 3) := by decide +kernel
theorem dX8_output_58 : decode cX8_output 58 = .ok (.ifCond .eq 7, 3) := by decide +kernel
theorem dX8_output_61 : decode cX8_output 61 = .ok (.iconst 3, 1) := by decide +kernel
theorem dX8_output_62 : decode cX8_output 62 = .ok (.goto 4, 3) := by decide +kernel
theorem dX8_output_65 : decode cX8_output 65 = .ok (.iconst 0, 1) := by decide +kernel
theorem dX8_output_66 : decode cX8_output 66 = .ok (.putfield 72, 3) := by decide +kernel
theorem dX8_output_69 : decode cX8_output 69 = .ok (.aload_n 0, 1) := by decide +kernel
theorem dX8_output_70 : decode cX8_output 70 = .ok (.getfield 72, 3) := by decide +kernel
theorem dX8_output_73 : decode cX8_output 73 = .ok (.ifCond .le 5, 3) := by decide +kernel
theorem dX8_output_76 : decode cX8_output 76 = .ok (.iconst 0, 1) := by decide +kernel
theorem dX8_output_77 : decode cX8_output 77 = .ok (.ireturn, 1) := by decide +kernel
theorem dX8_output_78 : decode cX8_output 78 = .ok (.aload_n 0, 1) := by decide +kernel
theorem dX8_output_79 : decode cX8_output 79 = .ok (.getfield 33, 3) := by decide +kernel
theorem dX8_output_82 : decode cX8_output 82 = .ok (.aload_n 0, 1) := by decide +kernel
theorem dX8_output_83 : decode cX8_output 83 = .ok (.getfield 91, 3) := by decide +kernel
theorem dX8_output_86 : decode cX8_output 86 = .ok (.iload_n 1, 1) := by decide +kernel
theorem dX8_output_87 : decode cX8_output 87 = .ok (.iastore, 1) := by decide +kernel
theorem dX8_output_88 : decode cX8_output 88 = .ok (.aload_n 0, 1) := by decide +kernel
theorem dX8_output_89 : decode cX8_output 89 = .ok (.getfield 36, 3) := by decide +kernel
theorem dX8_output_92 : decode cX8_output 92 = .ok (.aload_n 0, 1) := by decide +kernel
theorem dX8_output_93 : decode cX8_output 93 = .ok (.getfield 91, 3) := by decide +kernel
theorem dX8_output_96 : decode cX8_output 96 = .ok (.iload_n 2, 1) := by decide +kernel
theorem dX8_output_97 : decode cX8_output 97 = .ok (.iastore, 1) := by decide +kernel
theorem dX8_output_98 : decode cX8_output 98 = .ok (.aload_n 0, 1) := by decide +kernel
theorem dX8_output_99 : decode cX8_output 99 = .ok (.dup, 1) := by decide +kernel
theorem dX8_output_100 : decode cX8_output 100 = .ok (.getfield 91, 3) := by decide +kernel
theorem dX8_output_103 : decode cX8_output 103 = .ok (.iconst 1, 1) := by decide +kernel
theorem dX8_output_104 : decode cX8_output 104 = .ok (.iadd, 1) := by decide +kernel
theorem dX8_output_105 : decode cX8_output 105 = .ok (.putfield 91, 3) := by decide +kernel
theorem dX8_output_108 : decode cX8_output 108 = .ok (.aload_n 0, 1) := by decide +kernel
theorem dX8_output_109 : decode cX8_output 109 = .ok (.iconst 0, 1) := by decide +kernel
theorem dX8_output_110 : decode cX8_output 110 = .ok (.putfield 98, 3) := by decide +kernel
theorem dX8_output_113 : decode cX8_output 113 = .ok (.aload_n 0, 1) := by decide +kernel
theorem dX8_output_114 : decode cX8_output 114 = .ok (.getfield 91, 3) := by decide +kernel
theorem dX8_output_117 : decode cX8_output 117 = .ok (.iconst 1, 1) := by decide +kernel
theorem dX8_output_118 : decode cX8_output 118 = .ok (.isub, 1) := by decide +kernel
theorem dX8_output_119 : decode cX8_output 119 = .ok (.ireturn, 1) := by decide +kernel
theorem dX8_value_0 : decode cX8_value 0 = .ok (.aload_n 0, 1) := by decide +kernel
theorem dX8_value_1 : decode cX8_value 1 = .ok (.aload_n 0, 1) := by decide +kernel
theorem dX8_value_2 : decode cX8_value 2 = .ok (.iload_n 1, 1) := by decide +kernel
theorem dX8_value_3 : decode cX8_value 3 = .ok (.invokevirtual 115, 3) := by decide +kernel
theorem dX8_value_6 : decode cX8_value 6 = .ok (.ifCond .eq 7, 3) := by decide +kernel
theorem dX8_value_9 : decode cX8_value 9 = .ok (.iconst 0, 1) := by decide +kernel
theorem dX8_value_10 : decode cX8_value 10 = .ok (.goto 4, 3) := by decide +kernel
theorem dX8_value_13 : decode cX8_value 13 = .ok (.iconst 1, 1) := by decide +kernel
theorem dX8_value_14 : decode cX8_value 14 = .ok (.putfield 72, 3) := by decide +kernel
theorem dX8_value_17 : decode cX8_value 17 = .ok (.aload_n 0, 1) := by decide +kernel
theorem dX8_value_18 : decode cX8_value 18 = .ok (.getfield 72, 3) := by decide +kernel
theorem dX8_value_21 : decode cX8_value 21 = .ok (.ifCond .le 5, 3) := by decide +kernel
theorem dX8_value_24 : decode cX8_value 24 = .ok (.iconst 0, 1) := by decide +kernel
theorem dX8_value_25 : decode cX8_value 25 = .ok (.ireturn, 1) := by decide +kernel
theorem dX8_value_26 : decode cX8_value 26 = .ok (.iload_n 2, 1) := by decide +kernel
theorem dX8_value_27 : decode cX8_value 27 = .ok (.iconst 1, 1) := by decide +kernel
theorem dX8_value_28 : decode cX8_value 28 = .ok (.aload_n 0, 1) := by decide +kernel
theorem dX8_value_29 : decode cX8_value 29 = .ok (.getfield 102, 3) := by decide +kernel
theorem dX8_value_32 : decode cX8_value 32 = .ok (.ishl, 1) := by decide +kernel
theorem dX8_value_33 : decode cX8_value 33 = .ok (.iconst 1, 1) := by decide +kernel
theorem dX8_value_34 : decode cX8_value 34 = .ok (.isub, 1) := by decide +kernel
theorem dX8_value_35 : decode cX8_value 35 = .ok (.iand, 1) := by decide +kernel
theorem dX8_value_36 : decode cX8_value 36 = .ok (.istore_n 3, 1) := by decide +kernel
theorem dX8_value_37 : decode cX8_value 37 = .ok (.aload_n 0, 1) := by decide +kernel
theorem dX8_value_38 : decode cX8_value 38 = .ok (.iload_n 1, 1) := by decide +kernel
theorem dX8_value_39 : decode cX8_value 39 = .ok (.invokevirtual 83, 3) := by decide +kernel
theorem dX8_value_42 : decode cX8_value 42 = .ok (.iload_n 3, 1) := by decide +kernel
theorem dX8_value_43 : decode cX8_value 43 = .ok (.iushr, 1) := by decide +kernel
theorem dX8_value_44 : decode cX8_value 44 = .ok (.iconst 1, 1) := by decide +kernel
theorem dX8_value_45 : decode cX8_value 45 = .ok (.iand, 1) := by decide +kernel
theorem dX8_value_46 : decode cX8_value 46 = .ok (.ireturn, 1) := by decide +kernel
theorem dX8_differing_0 : decode cX8_differing 0 = .ok (.aload_n 0, 1) := by decide +kernel
theorem dX8_differing_1 : decode cX8_differing 1 = .ok (.iconst 0, 1) := by decide +kernel
theorem dX8_differing_2 : decode cX8_differing 2 = .ok (.putfield 72, 3) := by decide +kernel
theorem dX8_differing_5 : decode cX8_differing 5 = .ok (.aload_n 0, 1) := by decide +kernel
theorem dX8_differing_6 : decode cX8_differing 6 = .ok (.invokevirtual 121, 3) := by decide +kernel
theorem dX8_differing_9 : decode cX8_differing 9 = .ok (.ireturn, 1) := by decide +kernel
theorem dX8_witness_0 : decode cX8_witness 0 = .ok (.aload_n 0, 1) := by decide +kernel
theorem dX8_witness_1 : decode cX8_witness 1 = .ok (.iload_n 1, 1) := by decide +kernel
theorem dX8_witness_2 : decode cX8_witness 2 = .ok (.aload_n 0, 1) := by decide +kernel
theorem dX8_witness_3 : decode cX8_witness 3 = .ok (.getfield 91, 3) := by decide +kernel
theorem dX8_witness_6 : decode cX8_witness 6 = .ok (.invokestatic 79, 3) := by decide +kernel
theorem dX8_witness_9 : decode cX8_witness 9 = .ok (.ifCond .eq 7, 3) := by decide +kernel
theorem dX8_witness_12 : decode cX8_witness 12 = .ok (.iconst 0, 1) := by decide +kernel
theorem dX8_witness_13 : decode cX8_witness 13 = .ok (.goto 4, 3) := by decide +kernel
theorem dX8_witness_16 : decode cX8_witness 16 = .ok (.iconst 1, 1) := by decide +kernel
theorem dX8_witness_17 : decode cX8_witness 17 = .ok (.putfield 72, 3) := by decide +kernel
theorem dX8_witness_20 : decode cX8_witness 20 = .ok (.aload_n 0, 1) := by decide +kernel
theorem dX8_witness_21 : decode cX8_witness 21 = .ok (.getfield 72, 3) := by decide +kernel
theorem dX8_witness_24 : decode cX8_witness 24 = .ok (.ifCond .le 5, 3) := by decide +kernel
theorem dX8_witness_27 : decode cX8_witness 27 = .ok (.iconst 0, 1) := by decide +kernel
theorem dX8_witness_28 : decode cX8_witness 28 = .ok (.ireturn, 1) := by decide +kernel
theorem dX8_witness_29 : decode cX8_witness 29 = .ok (.aload_n 0, 1) := by decide +kernel
theorem dX8_witness_30 : decode cX8_witness 30 = .ok (.aload_n 0, 1) := by decide +kernel
theorem dX8_witness_31 : decode cX8_witness 31 = .ok (.getfield 33, 3) := by decide +kernel
theorem dX8_witness_34 : decode cX8_witness 34 = .ok (.iload_n 1, 1) := by decide +kernel
theorem dX8_witness_35 : decode cX8_witness 35 = .ok (.iaload, 1) := by decide +kernel
theorem dX8_witness_36 : decode cX8_witness 36 = .ok (.invokevirtual 83, 3) := by decide +kernel
theorem dX8_witness_39 : decode cX8_witness 39 = .ok (.aload_n 0, 1) := by decide +kernel
theorem dX8_witness_40 : decode cX8_witness 40 = .ok (.aload_n 0, 1) := by decide +kernel
theorem dX8_witness_41 : decode cX8_witness 41 = .ok (.getfield 36, 3) := by decide +kernel
theorem dX8_witness_44 : decode cX8_witness 44 = .ok (.iload_n 1, 1) := by decide +kernel
theorem dX8_witness_45 : decode cX8_witness 45 = .ok (.iaload, 1) := by decide +kernel
theorem dX8_witness_46 : decode cX8_witness 46 = .ok (.invokevirtual 83, 3) := by decide +kernel
theorem dX8_witness_49 : decode cX8_witness 49 = .ok (.ixor, 1) := by decide +kernel
theorem dX8_witness_50 : decode cX8_witness 50 = .ok (.istore_n 2, 1) := by decide +kernel
theorem dX8_witness_51 : decode cX8_witness 51 = .ok (.iconst 0, 1) := by decide +kernel
theorem dX8_witness_52 : decode cX8_witness 52 = .ok (.istore_n 3, 1) := by decide +kernel
theorem dX8_witness_53 : decode cX8_witness 53 = .ok (.iload_n 3, 1) := by decide +kernel
theorem dX8_witness_54 : decode cX8_witness 54 = .ok (.bipush 32, 2) := by decide +kernel
theorem dX8_witness_56 : decode cX8_witness 56 = .ok (.if_icmp .ge 20, 3) := by decide +kernel
theorem dX8_witness_59 : decode cX8_witness 59 = .ok (.iload_n 2, 1) := by decide +kernel
theorem dX8_witness_60 : decode cX8_witness 60 = .ok (.iload_n 3, 1) := by decide +kernel
theorem dX8_witness_61 : decode cX8_witness 61 = .ok (.iushr, 1) := by decide +kernel
theorem dX8_witness_62 : decode cX8_witness 62 = .ok (.iconst 1, 1) := by decide +kernel
theorem dX8_witness_63 : decode cX8_witness 63 = .ok (.iand, 1) := by decide +kernel
theorem dX8_witness_64 : decode cX8_witness 64 = .ok (.iconst 1, 1) := by decide +kernel
theorem dX8_witness_65 : decode cX8_witness 65 = .ok (.if_icmp .ne 5, 3) := by decide +kernel
theorem dX8_witness_68 : decode cX8_witness 68 = .ok (.iload_n 3, 1) := by decide +kernel
theorem dX8_witness_69 : decode cX8_witness 69 = .ok (.ireturn, 1) := by decide +kernel
theorem dX8_witness_70 : decode cX8_witness 70 = .ok (.iinc 3 1, 3) := by decide +kernel
theorem dX8_witness_73 : decode cX8_witness 73 = .ok (.goto (-20), 3) := by decide +kernel
theorem dX8_witness_76 : decode cX8_witness 76 = .ok (.iconst (-1), 1) := by decide +kernel
theorem dX8_witness_77 : decode cX8_witness 77 = .ok (.ireturn, 1) := by decide +kernel
theorem dX8_matched_0 : decode cX8_matched 0 = .ok (.aload_n 0, 1) := by decide +kernel
theorem dX8_matched_1 : decode cX8_matched 1 = .ok (.aload_n 0, 1) := by decide +kernel
theorem dX8_matched_2 : decode cX8_matched 2 = .ok (.iload_n 1, 1) := by decide +kernel
theorem dX8_matched_3 : decode cX8_matched 3 = .ok (.invokevirtual 115, 3) := by decide +kernel
theorem dX8_matched_6 : decode cX8_matched 6 = .ok (.ifCond .eq 7, 3) := by decide +kernel
theorem dX8_matched_9 : decode cX8_matched 9 = .ok (.iconst 0, 1) := by decide +kernel
theorem dX8_matched_10 : decode cX8_matched 10 = .ok (.goto 4, 3) := by decide +kernel
theorem dX8_matched_13 : decode cX8_matched 13 = .ok (.iconst 1, 1) := by decide +kernel
theorem dX8_matched_14 : decode cX8_matched 14 = .ok (.putfield 72, 3) := by decide +kernel
theorem dX8_matched_17 : decode cX8_matched 17 = .ok (.iconst 0, 1) := by decide +kernel
theorem dX8_matched_18 : decode cX8_matched 18 = .ok (.istore_n 2, 1) := by decide +kernel
theorem dX8_matched_19 : decode cX8_matched 19 = .ok (.iload_n 2, 1) := by decide +kernel
theorem dX8_matched_20 : decode cX8_matched 20 = .ok (.iconst 2, 1) := by decide +kernel
theorem dX8_matched_21 : decode cX8_matched 21 = .ok (.aload_n 0, 1) := by decide +kernel
theorem dX8_matched_22 : decode cX8_matched 22 = .ok (.getfield 76, 3) := by decide +kernel
theorem dX8_matched_25 : decode cX8_matched 25 = .ok (.imul, 1) := by decide +kernel
theorem dX8_matched_26 : decode cX8_matched 26 = .ok (.if_icmp .ge 43, 3) := by decide +kernel
theorem dX8_matched_29 : decode cX8_matched 29 = .ok (.aload_n 0, 1) := by decide +kernel
theorem dX8_matched_30 : decode cX8_matched 30 = .ok (.getfield 72, 3) := by decide +kernel
theorem dX8_matched_33 : decode cX8_matched 33 = .ok (.ifCond .ne 36, 3) := by decide +kernel
theorem dX8_matched_36 : decode cX8_matched 36 = .ok (.aload_n 0, 1) := by decide +kernel
theorem dX8_matched_37 : decode cX8_matched 37 = .ok (.getfield 7, 3) := by decide +kernel
theorem dX8_matched_40 : decode cX8_matched 40 = .ok (.iload_n 2, 1) := by decide +kernel
theorem dX8_matched_41 : decode cX8_matched 41 = .ok (.iconst 2, 1) := by decide +kernel
theorem dX8_matched_42 : decode cX8_matched 42 = .ok (.idiv, 1) := by decide +kernel
theorem dX8_matched_43 : decode cX8_matched 43 = .ok (.iaload, 1) := by decide +kernel
theorem dX8_matched_44 : decode cX8_matched 44 = .ok (.iconst 3, 1) := by decide +kernel
theorem dX8_matched_45 : decode cX8_matched 45 = .ok (.if_icmp .eq 18, 3) := by decide +kernel
theorem dX8_matched_48 : decode cX8_matched 48 = .ok (.aload_n 0, 1) := by decide +kernel
theorem dX8_matched_49 : decode cX8_matched 49 = .ok (.iload_n 2, 1) := by decide +kernel
theorem dX8_matched_50 : decode cX8_matched 50 = .ok (.invokevirtual 83, 3) := by decide +kernel
theorem dX8_matched_53 : decode cX8_matched 53 = .ok (.aload_n 0, 1) := by decide +kernel
theorem dX8_matched_54 : decode cX8_matched 54 = .ok (.iload_n 1, 1) := by decide +kernel
theorem dX8_matched_55 : decode cX8_matched 55 = .ok (.invokevirtual 83, 3) := by decide +kernel
theorem dX8_matched_58 : decode cX8_matched 58 = .ok (.if_icmp .ne 5, 3) := by decide +kernel
theorem dX8_matched_61 : decode cX8_matched 61 = .ok (.iload_n 2, 1) := by decide +kernel
theorem dX8_matched_62 : decode cX8_matched 62 = .ok (.ireturn, 1) := by decide +kernel
theorem dX8_matched_63 : decode cX8_matched 63 = .ok (.iinc 2 1, 3) := by decide +kernel
theorem dX8_matched_66 : decode cX8_matched 66 = .ok (.goto (-47), 3) := by decide +kernel
theorem dX8_matched_69 : decode cX8_matched 69 = .ok (.aload_n 0, 1) := by decide +kernel
theorem dX8_matched_70 : decode cX8_matched 70 = .ok (.getfield 72, 3) := by decide +kernel
theorem dX8_matched_73 : decode cX8_matched 73 = .ok (.ifCond .le 7, 3) := by decide +kernel
theorem dX8_matched_76 : decode cX8_matched 76 = .ok (.iconst 0, 1) := by decide +kernel
theorem dX8_matched_77 : decode cX8_matched 77 = .ok (.goto 4, 3) := by decide +kernel
theorem dX8_matched_80 : decode cX8_matched 80 = .ok (.iconst (-1), 1) := by decide +kernel
theorem dX8_matched_81 : decode cX8_matched 81 = .ok (.ireturn, 1) := by decide +kernel
theorem dX8_isOld_0 : decode cX8_isOld 0 = .ok (.iload_n 1, 1) := by decide +kernel
theorem dX8_isOld_1 : decode cX8_isOld 1 = .ok (.aload_n 0, 1) := by decide +kernel
theorem dX8_isOld_2 : decode cX8_isOld 2 = .ok (.getfield 76, 3) := by decide +kernel
theorem dX8_isOld_5 : decode cX8_isOld 5 = .ok (.invokestatic 79, 3) := by decide +kernel
theorem dX8_isOld_8 : decode cX8_isOld 8 = .ok (.ifCond .eq 17, 3) := by decide +kernel
theorem dX8_isOld_11 : decode cX8_isOld 11 = .ok (.aload_n 0, 1) := by decide +kernel
theorem dX8_isOld_12 : decode cX8_isOld 12 = .ok (.getfield 7, 3) := by decide +kernel
theorem dX8_isOld_15 : decode cX8_isOld 15 = .ok (.iload_n 1, 1) := by decide +kernel
theorem dX8_isOld_16 : decode cX8_isOld 16 = .ok (.iaload, 1) := by decide +kernel
theorem dX8_isOld_17 : decode cX8_isOld 17 = .ok (.iconst 2, 1) := by decide +kernel
theorem dX8_isOld_18 : decode cX8_isOld 18 = .ok (.if_icmp .ne 7, 3) := by decide +kernel
theorem dX8_isOld_21 : decode cX8_isOld 21 = .ok (.iconst 1, 1) := by decide +kernel
theorem dX8_isOld_22 : decode cX8_isOld 22 = .ok (.goto 4, 3) := by decide +kernel
theorem dX8_isOld_25 : decode cX8_isOld 25 = .ok (.iconst 0, 1) := by decide +kernel
theorem dX8_isOld_26 : decode cX8_isOld 26 = .ok (.ireturn, 1) := by decide +kernel
theorem dX8_keep_0 : decode cX8_keep 0 = .ok (.aload_n 0, 1) := by decide +kernel
theorem dX8_keep_1 : decode cX8_keep 1 = .ok (.aload_n 0, 1) := by decide +kernel
theorem dX8_keep_2 : decode cX8_keep 2 = .ok (.iload_n 1, 1) := by decide +kernel
theorem dX8_keep_3 : decode cX8_keep 3 = .ok (.invokevirtual 125, 3) := by decide +kernel
theorem dX8_keep_6 : decode cX8_keep 6 = .ok (.ifCond .eq 7, 3) := by decide +kernel
theorem dX8_keep_9 : decode cX8_keep 9 = .ok (.iconst 0, 1) := by decide +kernel
theorem dX8_keep_10 : decode cX8_keep 10 = .ok (.goto 4, 3) := by decide +kernel
theorem dX8_keep_13 : decode cX8_keep 13 = .ok (.iconst 1, 1) := by decide +kernel
theorem dX8_keep_14 : decode cX8_keep 14 = .ok (.putfield 72, 3) := by decide +kernel
theorem dX8_keep_17 : decode cX8_keep 17 = .ok (.aload_n 0, 1) := by decide +kernel
theorem dX8_keep_18 : decode cX8_keep 18 = .ok (.getfield 72, 3) := by decide +kernel
theorem dX8_keep_21 : decode cX8_keep 21 = .ok (.ifCond .gt 13, 3) := by decide +kernel
theorem dX8_keep_24 : decode cX8_keep 24 = .ok (.aload_n 0, 1) := by decide +kernel
theorem dX8_keep_25 : decode cX8_keep 25 = .ok (.getfield 22, 3) := by decide +kernel
theorem dX8_keep_28 : decode cX8_keep 28 = .ok (.iload_n 1, 1) := by decide +kernel
theorem dX8_keep_29 : decode cX8_keep 29 = .ok (.baload, 1) := by decide +kernel
theorem dX8_keep_30 : decode cX8_keep 30 = .ok (.iload_n 2, 1) := by decide +kernel
theorem dX8_keep_31 : decode cX8_keep 31 = .ok (.if_icmp .ne 5, 3) := by decide +kernel
theorem dX8_keep_34 : decode cX8_keep 34 = .ok (.iconst 0, 1) := by decide +kernel
theorem dX8_keep_35 : decode cX8_keep 35 = .ok (.ireturn, 1) := by decide +kernel
theorem dX8_keep_36 : decode cX8_keep 36 = .ok (.aload_n 0, 1) := by decide +kernel
theorem dX8_keep_37 : decode cX8_keep 37 = .ok (.getfield 22, 3) := by decide +kernel
theorem dX8_keep_40 : decode cX8_keep 40 = .ok (.iload_n 1, 1) := by decide +kernel
theorem dX8_keep_41 : decode cX8_keep 41 = .ok (.iload_n 2, 1) := by decide +kernel
theorem dX8_keep_42 : decode cX8_keep 42 = .ok (.bastore, 1) := by decide +kernel
theorem dX8_keep_43 : decode cX8_keep 43 = .ok (.aload_n 0, 1) := by decide +kernel
theorem dX8_keep_44 : decode cX8_keep 44 = .ok (.iconst 0, 1) := by decide +kernel
theorem dX8_keep_45 : decode cX8_keep 45 = .ok (.putfield 98, 3) := by decide +kernel
theorem dX8_keep_48 : decode cX8_keep 48 = .ok (.iconst 1, 1) := by decide +kernel
theorem dX8_keep_49 : decode cX8_keep 49 = .ok (.ireturn, 1) := by decide +kernel
theorem dX8_isNear_0 : decode cX8_isNear 0 = .ok (.lload_n 0, 1) := by decide +kernel
theorem dX8_isNear_1 : decode cX8_isNear 1 = .ok (.ldc2_w 128, 3) := by decide +kernel
theorem dX8_isNear_4 : decode cX8_isNear 4 = .ok (.lcmp, 1) := by decide +kernel
theorem dX8_isNear_5 : decode cX8_isNear 5 = .ok (.ifCond .lt 15, 3) := by decide +kernel
theorem dX8_isNear_8 : decode cX8_isNear 8 = .ok (.lload_n 0, 1) := by decide +kernel
theorem dX8_isNear_9 : decode cX8_isNear 9 = .ok (.ldc2_w 130, 3) := by decide +kernel
theorem dX8_isNear_12 : decode cX8_isNear 12 = .ok (.lcmp, 1) := by decide +kernel
theorem dX8_isNear_13 : decode cX8_isNear 13 = .ok (.ifCond .gt 7, 3) := by decide +kernel
theorem dX8_isNear_16 : decode cX8_isNear 16 = .ok (.iconst 1, 1) := by decide +kernel
theorem dX8_isNear_17 : decode cX8_isNear 17 = .ok (.goto 4, 3) := by decide +kernel
theorem dX8_isNear_20 : decode cX8_isNear 20 = .ok (.iconst 0, 1) := by decide +kernel
theorem dX8_isNear_21 : decode cX8_isNear 21 = .ok (.ireturn, 1) := by decide +kernel
theorem dX8_place_0 : decode cX8_place 0 = .ok (.aload_n 0, 1) := by decide +kernel
theorem dX8_place_1 : decode cX8_place 1 = .ok (.aload_n 0, 1) := by decide +kernel
theorem dX8_place_2 : decode cX8_place 2 = .ok (.iload_n 1, 1) := by decide +kernel
theorem dX8_place_3 : decode cX8_place 3 = .ok (.invokevirtual 125, 3) := by decide +kernel
theorem dX8_place_6 : decode cX8_place 6 = .ok (.ifCond .ne 7, 3) := by decide +kernel
theorem dX8_place_9 : decode cX8_place 9 = .ok (.iconst 1, 1) := by decide +kernel
theorem dX8_place_10 : decode cX8_place 10 = .ok (.goto 23, 3) := by decide +kernel
theorem dX8_place_13 : decode cX8_place 13 = .ok (.lload_n 2, 1) := by decide +kernel
theorem dX8_place_14 : decode cX8_place 14 = .ok (.invokestatic 132, 3) := by decide +kernel
theorem dX8_place_17 : decode cX8_place 17 = .ok (.ifCond .eq 15, 3) := by decide +kernel
theorem dX8_place_20 : decode cX8_place 20 = .ok (.lload 4, 2) := by decide +kernel
theorem dX8_place_22 : decode cX8_place 22 = .ok (.invokestatic 132, 3) := by decide +kernel
theorem dX8_place_25 : decode cX8_place 25 = .ok (.ifCond .eq 7, 3) := by decide +kernel
theorem dX8_place_28 : decode cX8_place 28 = .ok (.iconst 0, 1) := by decide +kernel
theorem dX8_place_29 : decode cX8_place 29 = .ok (.goto 4, 3) := by decide +kernel
theorem dX8_place_32 : decode cX8_place 32 = .ok (.iconst 2, 1) := by decide +kernel
theorem dX8_place_33 : decode cX8_place 33 = .ok (.putfield 72, 3) := by decide +kernel
theorem dX8_place_36 : decode cX8_place 36 = .ok (.aload_n 0, 1) := by decide +kernel
theorem dX8_place_37 : decode cX8_place 37 = .ok (.getfield 72, 3) := by decide +kernel
theorem dX8_place_40 : decode cX8_place 40 = .ok (.ifCond .gt 26, 3) := by decide +kernel
theorem dX8_place_43 : decode cX8_place 43 = .ok (.aload_n 0, 1) := by decide +kernel
theorem dX8_place_44 : decode cX8_place 44 = .ok (.getfield 26, 3) := by decide +kernel
theorem dX8_place_47 : decode cX8_place 47 = .ok (.iload_n 1, 1) := by decide +kernel
theorem dX8_place_48 : decode cX8_place 48 = .ok (.laload, 1) := by decide +kernel
theorem dX8_place_49 : decode cX8_place 49 = .ok (.lload_n 2, 1) := by decide +kernel
theorem dX8_place_50 : decode cX8_place 50 = .ok (.lcmp, 1) := by decide +kernel
theorem dX8_place_51 : decode cX8_place 51 = .ok (.ifCond .ne 17, 3) := by decide +kernel
theorem dX8_place_54 : decode cX8_place 54 = .ok (.aload_n 0, 1) := by decide +kernel
theorem dX8_place_55 : decode cX8_place 55 = .ok (.getfield 30, 3) := by decide +kernel
theorem dX8_place_58 : decode cX8_place 58 = .ok (.iload_n 1, 1) := by decide +kernel
theorem dX8_place_59 : decode cX8_place 59 = .ok (.laload, 1) := by decide +kernel
theorem dX8_place_60 : decode cX8_place 60 = .ok (.lload 4, 2) := by decide +kernel
theorem dX8_place_62 : decode cX8_place 62 = .ok (.lcmp, 1) := by decide +kernel
theorem dX8_place_63 : decode cX8_place 63 = .ok (.ifCond .ne 5, 3) := by decide +kernel
theorem dX8_place_66 : decode cX8_place 66 = .ok (.iconst 0, 1) := by decide +kernel
theorem dX8_place_67 : decode cX8_place 67 = .ok (.ireturn, 1) := by decide +kernel
theorem dX8_place_68 : decode cX8_place 68 = .ok (.aload_n 0, 1) := by decide +kernel
theorem dX8_place_69 : decode cX8_place 69 = .ok (.getfield 26, 3) := by decide +kernel
theorem dX8_place_72 : decode cX8_place 72 = .ok (.iload_n 1, 1) := by decide +kernel
theorem dX8_place_73 : decode cX8_place 73 = .ok (.lload_n 2, 1) := by decide +kernel
theorem dX8_place_74 : decode cX8_place 74 = .ok (.lastore, 1) := by decide +kernel
theorem dX8_place_75 : decode cX8_place 75 = .ok (.aload_n 0, 1) := by decide +kernel
theorem dX8_place_76 : decode cX8_place 76 = .ok (.getfield 30, 3) := by decide +kernel
theorem dX8_place_79 : decode cX8_place 79 = .ok (.iload_n 1, 1) := by decide +kernel
theorem dX8_place_80 : decode cX8_place 80 = .ok (.lload 4, 2) := by decide +kernel
theorem dX8_place_82 : decode cX8_place 82 = .ok (.lastore, 1) := by decide +kernel
theorem dX8_place_83 : decode cX8_place 83 = .ok (.aload_n 0, 1) := by decide +kernel
theorem dX8_place_84 : decode cX8_place 84 = .ok (.iconst 0, 1) := by decide +kernel
theorem dX8_place_85 : decode cX8_place 85 = .ok (.putfield 98, 3) := by decide +kernel
theorem dX8_place_88 : decode cX8_place 88 = .ok (.iconst 1, 1) := by decide +kernel
theorem dX8_place_89 : decode cX8_place 89 = .ok (.ireturn, 1) := by decide +kernel
theorem dX8_spare_0 : decode cX8_spare 0 = .ok (.aload_n 0, 1) := by decide +kernel
theorem dX8_spare_1 : decode cX8_spare 1 = .ok (.aload_n 0, 1) := by decide +kernel
theorem dX8_spare_2 : decode cX8_spare 2 = .ok (.getfield 136, 3) := by decide +kernel
theorem dX8_spare_5 : decode cX8_spare 5 = .ok (.bipush 6, 2) := by decide +kernel
theorem dX8_spare_7 : decode cX8_spare 7 = .ok (.if_icmp .ne 7, 3) := by decide +kernel
theorem dX8_spare_10 : decode cX8_spare 10 = .ok (.iconst 1, 1) := by decide +kernel
theorem dX8_spare_11 : decode cX8_spare 11 = .ok (.goto 22, 3) := by decide +kernel
theorem dX8_spare_14 : decode cX8_spare 14 = .ok (.lload_n 1, 1) := by decide +kernel
theorem dX8_spare_15 : decode cX8_spare 15 = .ok (.invokestatic 132, 3) := by decide +kernel
theorem dX8_spare_18 : decode cX8_spare 18 = .ok (.ifCond .eq 14, 3) := by decide +kernel
theorem dX8_spare_21 : decode cX8_spare 21 = .ok (.lload_n 3, 1) := by decide +kernel
theorem dX8_spare_22 : decode cX8_spare 22 = .ok (.invokestatic 132, 3) := by decide +kernel
theorem dX8_spare_25 : decode cX8_spare 25 = .ok (.ifCond .eq 7, 3) := by decide +kernel
theorem dX8_spare_28 : decode cX8_spare 28 = .ok (.iconst 0, 1) := by decide +kernel
theorem dX8_spare_29 : decode cX8_spare 29 = .ok (.goto 4, 3) := by decide +kernel
theorem dX8_spare_32 : decode cX8_spare 32 = .ok (.iconst 2, 1) := by decide +kernel
theorem dX8_spare_33 : decode cX8_spare 33 = .ok (.putfield 72, 3) := by decide +kernel
theorem dX8_spare_36 : decode cX8_spare 36 = .ok (.aload_n 0, 1) := by decide +kernel
theorem dX8_spare_37 : decode cX8_spare 37 = .ok (.getfield 72, 3) := by decide +kernel
theorem dX8_spare_40 : decode cX8_spare 40 = .ok (.ifCond .le 5, 3) := by decide +kernel
theorem dX8_spare_43 : decode cX8_spare 43 = .ok (.iconst 0, 1) := by decide +kernel
theorem dX8_spare_44 : decode cX8_spare 44 = .ok (.ireturn, 1) := by decide +kernel
theorem dX8_spare_45 : decode cX8_spare 45 = .ok (.aload_n 0, 1) := by decide +kernel
theorem dX8_spare_46 : decode cX8_spare 46 = .ok (.getfield 39, 3) := by decide +kernel
theorem dX8_spare_49 : decode cX8_spare 49 = .ok (.aload_n 0, 1) := by decide +kernel
theorem dX8_spare_50 : decode cX8_spare 50 = .ok (.getfield 136, 3) := by decide +kernel
theorem dX8_spare_53 : decode cX8_spare 53 = .ok (.lload_n 1, 1) := by decide +kernel
theorem dX8_spare_54 : decode cX8_spare 54 = .ok (.lastore, 1) := by decide +kernel
theorem dX8_spare_55 : decode cX8_spare 55 = .ok (.aload_n 0, 1) := by decide +kernel
theorem dX8_spare_56 : decode cX8_spare 56 = .ok (.getfield 42, 3) := by decide +kernel
theorem dX8_spare_59 : decode cX8_spare 59 = .ok (.aload_n 0, 1) := by decide +kernel
theorem dX8_spare_60 : decode cX8_spare 60 = .ok (.getfield 136, 3) := by decide +kernel
theorem dX8_spare_63 : decode cX8_spare 63 = .ok (.lload_n 3, 1) := by decide +kernel
theorem dX8_spare_64 : decode cX8_spare 64 = .ok (.lastore, 1) := by decide +kernel
theorem dX8_spare_65 : decode cX8_spare 65 = .ok (.aload_n 0, 1) := by decide +kernel
theorem dX8_spare_66 : decode cX8_spare 66 = .ok (.dup, 1) := by decide +kernel
theorem dX8_spare_67 : decode cX8_spare 67 = .ok (.getfield 136, 3) := by decide +kernel
theorem dX8_spare_70 : decode cX8_spare 70 = .ok (.iconst 1, 1) := by decide +kernel
theorem dX8_spare_71 : decode cX8_spare 71 = .ok (.iadd, 1) := by decide +kernel
theorem dX8_spare_72 : decode cX8_spare 72 = .ok (.putfield 136, 3) := by decide +kernel
theorem dX8_spare_75 : decode cX8_spare 75 = .ok (.aload_n 0, 1) := by decide +kernel
theorem dX8_spare_76 : decode cX8_spare 76 = .ok (.iconst 0, 1) := by decide +kernel
theorem dX8_spare_77 : decode cX8_spare 77 = .ok (.putfield 98, 3) := by decide +kernel
theorem dX8_spare_80 : decode cX8_spare 80 = .ok (.aload_n 0, 1) := by decide +kernel
theorem dX8_spare_81 : decode cX8_spare 81 = .ok (.getfield 136, 3) := by decide +kernel
theorem dX8_spare_84 : decode cX8_spare 84 = .ok (.iconst 1, 1) := by decide +kernel
theorem dX8_spare_85 : decode cX8_spare 85 = .ok (.isub, 1) := by decide +kernel
theorem dX8_spare_86 : decode cX8_spare 86 = .ok (.ireturn, 1) := by decide +kernel
theorem dX8_isFree_0 : decode cX8_isFree 0 = .ok (.aload_n 0, 1) := by decide +kernel
theorem dX8_isFree_1 : decode cX8_isFree 1 = .ok (.getfield 7, 3) := by decide +kernel
theorem dX8_isFree_4 : decode cX8_isFree 4 = .ok (.iload_n 1, 1) := by decide +kernel
theorem dX8_isFree_5 : decode cX8_isFree 5 = .ok (.iaload, 1) := by decide +kernel
theorem dX8_isFree_6 : decode cX8_isFree 6 = .ok (.iconst 2, 1) := by decide +kernel
theorem dX8_isFree_7 : decode cX8_isFree 7 = .ok (.if_icmp .ne 16, 3) := by decide +kernel
theorem dX8_isFree_10 : decode cX8_isFree 10 = .ok (.aload_n 0, 1) := by decide +kernel
theorem dX8_isFree_11 : decode cX8_isFree 11 = .ok (.getfield 22, 3) := by decide +kernel
theorem dX8_isFree_14 : decode cX8_isFree 14 = .ok (.iload_n 1, 1) := by decide +kernel
theorem dX8_isFree_15 : decode cX8_isFree 15 = .ok (.baload, 1) := by decide +kernel
theorem dX8_isFree_16 : decode cX8_isFree 16 = .ok (.ifCond .ne 7, 3) := by decide +kernel
theorem dX8_isFree_19 : decode cX8_isFree 19 = .ok (.iconst 1, 1) := by decide +kernel
theorem dX8_isFree_20 : decode cX8_isFree 20 = .ok (.goto 4, 3) := by decide +kernel
theorem dX8_isFree_23 : decode cX8_isFree 23 = .ok (.iconst 0, 1) := by decide +kernel
theorem dX8_isFree_24 : decode cX8_isFree 24 = .ok (.ireturn, 1) := by decide +kernel
theorem dX8_mayBe_0 : decode cX8_mayBe 0 = .ok (.aload_n 0, 1) := by decide +kernel
theorem dX8_mayBe_1 : decode cX8_mayBe 1 = .ok (.getfield 7, 3) := by decide +kernel
theorem dX8_mayBe_4 : decode cX8_mayBe 4 = .ok (.iload_n 1, 1) := by decide +kernel
theorem dX8_mayBe_5 : decode cX8_mayBe 5 = .ok (.iconst 2, 1) := by decide +kernel
theorem dX8_mayBe_6 : decode cX8_mayBe 6 = .ok (.idiv, 1) := by decide +kernel
theorem dX8_mayBe_7 : decode cX8_mayBe 7 = .ok (.iaload, 1) := by decide +kernel
theorem dX8_mayBe_8 : decode cX8_mayBe 8 = .ok (.iconst 3, 1) := by decide +kernel
theorem dX8_mayBe_9 : decode cX8_mayBe 9 = .ok (.if_icmp .eq 7, 3) := by decide +kernel
theorem dX8_mayBe_12 : decode cX8_mayBe 12 = .ok (.iconst 1, 1) := by decide +kernel
theorem dX8_mayBe_13 : decode cX8_mayBe 13 = .ok (.goto 4, 3) := by decide +kernel
theorem dX8_mayBe_16 : decode cX8_mayBe 16 = .ok (.iconst 0, 1) := by decide +kernel
theorem dX8_mayBe_17 : decode cX8_mayBe 17 = .ok (.ireturn, 1) := by decide +kernel
theorem dX8_tryAt_0 : decode cX8_tryAt 0 = .ok (.aload_n 0, 1) := by decide +kernel
theorem dX8_tryAt_1 : decode cX8_tryAt 1 = .ok (.getfield 13, 3) := by decide +kernel
theorem dX8_tryAt_4 : decode cX8_tryAt 4 = .ok (.iload_n 1, 1) := by decide +kernel
theorem dX8_tryAt_5 : decode cX8_tryAt 5 = .ok (.iaload, 1) := by decide +kernel
theorem dX8_tryAt_6 : decode cX8_tryAt 6 = .ok (.istore_n 3, 1) := by decide +kernel
theorem dX8_tryAt_7 : decode cX8_tryAt 7 = .ok (.aload_n 0, 1) := by decide +kernel
theorem dX8_tryAt_8 : decode cX8_tryAt 8 = .ok (.getfield 16, 3) := by decide +kernel
theorem dX8_tryAt_11 : decode cX8_tryAt 11 = .ok (.iload_n 1, 1) := by decide +kernel
theorem dX8_tryAt_12 : decode cX8_tryAt 12 = .ok (.iaload, 1) := by decide +kernel
theorem dX8_tryAt_13 : decode cX8_tryAt 13 = .ok (.istore 4, 2) := by decide +kernel
theorem dX8_tryAt_15 : decode cX8_tryAt 15 = .ok (.iconst 0, 1) := by decide +kernel
theorem dX8_tryAt_16 : decode cX8_tryAt 16 = .ok (.istore 5, 2) := by decide +kernel
theorem dX8_tryAt_18 : decode cX8_tryAt 18 = .ok (.iconst 0, 1) := by decide +kernel
theorem dX8_tryAt_19 : decode cX8_tryAt 19 = .ok (.istore 6, 2) := by decide +kernel
theorem dX8_tryAt_21 : decode cX8_tryAt 21 = .ok (.iload 6, 2) := by decide +kernel
theorem dX8_tryAt_23 : decode cX8_tryAt 23 = .ok (.iconst 2, 1) := by decide +kernel
theorem dX8_tryAt_24 : decode cX8_tryAt 24 = .ok (.iload_n 1, 1) := by decide +kernel
theorem dX8_tryAt_25 : decode cX8_tryAt 25 = .ok (.imul, 1) := by decide +kernel
theorem dX8_tryAt_26 : decode cX8_tryAt 26 = .ok (.if_icmp .ge 134, 3) := by decide +kernel
theorem dX8_tryAt_29 : decode cX8_tryAt 29 = .ok (.iload 5, 2) := by decide +kernel
theorem dX8_tryAt_31 : decode cX8_tryAt 31 = .ok (.ifCond .ne 129, 3) := by decide +kernel
theorem dX8_tryAt_34 : decode cX8_tryAt 34 = .ok (.iload 6, 2) := by decide +kernel
theorem dX8_tryAt_36 : decode cX8_tryAt 36 = .ok (.istore 7, 2) := by decide +kernel
theorem dX8_tryAt_38 : decode cX8_tryAt 38 = .ok (.iload 7, 2) := by decide +kernel
theorem dX8_tryAt_40 : decode cX8_tryAt 40 = .ok (.iconst 2, 1) := by decide +kernel
theorem dX8_tryAt_41 : decode cX8_tryAt 41 = .ok (.iload_n 1, 1) := by decide +kernel
theorem dX8_tryAt_42 : decode cX8_tryAt 42 = .ok (.imul, 1) := by decide +kernel
theorem dX8_tryAt_43 : decode cX8_tryAt 43 = .ok (.if_icmp .ge 111, 3) := by decide +kernel
theorem dX8_tryAt_46 : decode cX8_tryAt 46 = .ok (.iload 5, 2) := by decide +kernel
theorem dX8_tryAt_48 : decode cX8_tryAt 48 = .ok (.ifCond .ne 106, 3) := by decide +kernel
theorem dX8_tryAt_51 : decode cX8_tryAt 51 = .ok (.aload_n 0, 1) := by decide +kernel
theorem dX8_tryAt_52 : decode cX8_tryAt 52 = .ok (.iload 6, 2) := by decide +kernel
theorem dX8_tryAt_54 : decode cX8_tryAt 54 = .ok (.invokevirtual 139, 3) := by decide +kernel
theorem dX8_tryAt_57 : decode cX8_tryAt 57 = .ok (.ifCond .eq 91, 3) := by decide +kernel
theorem dX8_tryAt_60 : decode cX8_tryAt 60 = .ok (.aload_n 0, 1) := by decide +kernel
theorem dX8_tryAt_61 : decode cX8_tryAt 61 = .ok (.iload 7, 2) := by decide +kernel
theorem dX8_tryAt_63 : decode cX8_tryAt 63 = .ok (.invokevirtual 139, 3) := by decide +kernel
theorem dX8_tryAt_66 : decode cX8_tryAt 66 = .ok (.ifCond .ne 6, 3) := by decide +kernel
theorem dX8_tryAt_69 : decode cX8_tryAt 69 = .ok (.goto 79, 3) := by decide +kernel
theorem dX8_tryAt_72 : decode cX8_tryAt 72 = .ok (.aload_n 0, 1) := by decide +kernel
theorem dX8_tryAt_73 : decode cX8_tryAt 73 = .ok (.getfield 13, 3) := by decide +kernel
theorem dX8_tryAt_76 : decode cX8_tryAt 76 = .ok (.iload_n 1, 1) := by decide +kernel
theorem dX8_tryAt_77 : decode cX8_tryAt 77 = .ok (.iload 6, 2) := by decide +kernel
theorem dX8_tryAt_79 : decode cX8_tryAt 79 = .ok (.iastore, 1) := by decide +kernel
theorem dX8_tryAt_80 : decode cX8_tryAt 80 = .ok (.aload_n 0, 1) := by decide +kernel
theorem dX8_tryAt_81 : decode cX8_tryAt 81 = .ok (.getfield 16, 3) := by decide +kernel
theorem dX8_tryAt_84 : decode cX8_tryAt 84 = .ok (.iload_n 1, 1) := by decide +kernel
theorem dX8_tryAt_85 : decode cX8_tryAt 85 = .ok (.iload 7, 2) := by decide +kernel
theorem dX8_tryAt_87 : decode cX8_tryAt 87 = .ok (.iastore, 1) := by decide +kernel
theorem dX8_tryAt_88 : decode cX8_tryAt 88 = .ok (.aload_n 0, 1) := by decide +kernel
theorem dX8_tryAt_89 : decode cX8_tryAt 89 = .ok (.iload_n 1, 1) := by decide +kernel
theorem dX8_tryAt_90 : decode cX8_tryAt 90 = .ok (.invokevirtual 142, 3) := by decide +kernel
theorem dX8_tryAt_93 : decode cX8_tryAt 93 = .ok (.iload_n 2, 1) := by decide +kernel
theorem dX8_tryAt_94 : decode cX8_tryAt 94 = .ok (.iconst (-1), 1) := by decide +kernel
theorem dX8_tryAt_95 : decode cX8_tryAt 95 = .ok (.if_icmp .ne 18, 3) := by decide +kernel
theorem dX8_tryAt_98 : decode cX8_tryAt 98 = .ok (.aload_n 0, 1) := by decide +kernel
theorem dX8_tryAt_99 : decode cX8_tryAt 99 = .ok (.invokevirtual 121, 3) := by decide +kernel
theorem dX8_tryAt_102 : decode cX8_tryAt 102 = .ok (.ifCond .ne 7, 3) := by decide +kernel
theorem dX8_tryAt_105 : decode cX8_tryAt 105 = .ok (.iconst 1, 1) := by decide +kernel
theorem dX8_tryAt_106 : decode cX8_tryAt 106 = .ok (.goto 12, 3) := by decide +kernel
theorem dX8_tryAt_109 : decode cX8_tryAt 109 = .ok (.iconst 0, 1) := by decide +kernel
theorem dX8_tryAt_110 : decode cX8_tryAt 110 = .ok (.goto 8, 3) := by decide +kernel
theorem dX8_tryAt_113 : decode cX8_tryAt 113 = .ok (.aload_n 0, 1) := by decide +kernel
theorem dX8_tryAt_114 : decode cX8_tryAt 114 = .ok (.iload_n 2, 1) := by decide +kernel
theorem dX8_tryAt_115 : decode cX8_tryAt 115 = .ok (.invokevirtual 145, 3) := by decide +kernel
theorem dX8_tryAt_118 : decode cX8_tryAt 118 = .ok (.istore 5, 2) := by decide +kernel
theorem dX8_tryAt_120 : decode cX8_tryAt 120 = .ok (.iload 5, 2) := by decide +kernel
theorem dX8_tryAt_122 : decode cX8_tryAt 122 = .ok (.ifCond .eq 26, 3) := by decide +kernel
theorem dX8_tryAt_125 : decode cX8_tryAt 125 = .ok (.aload_n 0, 1) := by decide +kernel
theorem dX8_tryAt_126 : decode cX8_tryAt 126 = .ok (.getfield 45, 3) := by decide +kernel
theorem dX8_tryAt_129 : decode cX8_tryAt 129 = .ok (.iconst 0, 1) := by decide +kernel
theorem dX8_tryAt_130 : decode cX8_tryAt 130 = .ok (.iload_n 1, 1) := by decide +kernel
theorem dX8_tryAt_131 : decode cX8_tryAt 131 = .ok (.iastore, 1) := by decide +kernel
theorem dX8_tryAt_132 : decode cX8_tryAt 132 = .ok (.aload_n 0, 1) := by decide +kernel
theorem dX8_tryAt_133 : decode cX8_tryAt 133 = .ok (.getfield 48, 3) := by decide +kernel
theorem dX8_tryAt_136 : decode cX8_tryAt 136 = .ok (.iconst 0, 1) := by decide +kernel
theorem dX8_tryAt_137 : decode cX8_tryAt 137 = .ok (.iload 6, 2) := by decide +kernel
theorem dX8_tryAt_139 : decode cX8_tryAt 139 = .ok (.iastore, 1) := by decide +kernel
theorem dX8_tryAt_140 : decode cX8_tryAt 140 = .ok (.aload_n 0, 1) := by decide +kernel
theorem dX8_tryAt_141 : decode cX8_tryAt 141 = .ok (.getfield 51, 3) := by decide +kernel
theorem dX8_tryAt_144 : decode cX8_tryAt 144 = .ok (.iconst 0, 1) := by decide +kernel
theorem dX8_tryAt_145 : decode cX8_tryAt 145 = .ok (.iload 7, 2) := by decide +kernel
theorem dX8_tryAt_147 : decode cX8_tryAt 147 = .ok (.iastore, 1) := by decide +kernel
theorem dX8_tryAt_148 : decode cX8_tryAt 148 = .ok (.iinc 7 1, 3) := by decide +kernel
theorem dX8_tryAt_151 : decode cX8_tryAt 151 = .ok (.goto (-113), 3) := by decide +kernel
theorem dX8_tryAt_154 : decode cX8_tryAt 154 = .ok (.iinc 6 1, 3) := by decide +kernel
theorem dX8_tryAt_157 : decode cX8_tryAt 157 = .ok (.goto (-136), 3) := by decide +kernel
theorem dX8_tryAt_160 : decode cX8_tryAt 160 = .ok (.aload_n 0, 1) := by decide +kernel
theorem dX8_tryAt_161 : decode cX8_tryAt 161 = .ok (.getfield 13, 3) := by decide +kernel
theorem dX8_tryAt_164 : decode cX8_tryAt 164 = .ok (.iload_n 1, 1) := by decide +kernel
theorem dX8_tryAt_165 : decode cX8_tryAt 165 = .ok (.iload_n 3, 1) := by decide +kernel
theorem dX8_tryAt_166 : decode cX8_tryAt 166 = .ok (.iastore, 1) := by decide +kernel
theorem dX8_tryAt_167 : decode cX8_tryAt 167 = .ok (.aload_n 0, 1) := by decide +kernel
theorem dX8_tryAt_168 : decode cX8_tryAt 168 = .ok (.getfield 16, 3) := by decide +kernel
theorem dX8_tryAt_171 : decode cX8_tryAt 171 = .ok (.iload_n 1, 1) := by decide +kernel
theorem dX8_tryAt_172 : decode cX8_tryAt 172 = .ok (.iload 4, 2) := by decide +kernel
theorem dX8_tryAt_174 : decode cX8_tryAt 174 = .ok (.iastore, 1) := by decide +kernel
theorem dX8_tryAt_175 : decode cX8_tryAt 175 = .ok (.aload_n 0, 1) := by decide +kernel
theorem dX8_tryAt_176 : decode cX8_tryAt 176 = .ok (.iload_n 1, 1) := by decide +kernel
theorem dX8_tryAt_177 : decode cX8_tryAt 177 = .ok (.invokevirtual 142, 3) := by decide +kernel
theorem dX8_tryAt_180 : decode cX8_tryAt 180 = .ok (.iload 5, 2) := by decide +kernel
theorem dX8_tryAt_182 : decode cX8_tryAt 182 = .ok (.ireturn, 1) := by decide +kernel
theorem dX8_trySecond_0 : decode cX8_trySecond 0 = .ok (.aload_n 0, 1) := by decide +kernel
theorem dX8_trySecond_1 : decode cX8_trySecond 1 = .ok (.getfield 13, 3) := by decide +kernel
theorem dX8_trySecond_4 : decode cX8_trySecond 4 = .ok (.iload_n 1, 1) := by decide +kernel
theorem dX8_trySecond_5 : decode cX8_trySecond 5 = .ok (.iaload, 1) := by decide +kernel
theorem dX8_trySecond_6 : decode cX8_trySecond 6 = .ok (.istore_n 2, 1) := by decide +kernel
theorem dX8_trySecond_7 : decode cX8_trySecond 7 = .ok (.aload_n 0, 1) := by decide +kernel
theorem dX8_trySecond_8 : decode cX8_trySecond 8 = .ok (.getfield 16, 3) := by decide +kernel
theorem dX8_trySecond_11 : decode cX8_trySecond 11 = .ok (.iload_n 1, 1) := by decide +kernel
theorem dX8_trySecond_12 : decode cX8_trySecond 12 = .ok (.iaload, 1) := by decide +kernel
theorem dX8_trySecond_13 : decode cX8_trySecond 13 = .ok (.istore_n 3, 1) := by decide +kernel
theorem dX8_trySecond_14 : decode cX8_trySecond 14 = .ok (.iconst 0, 1) := by decide +kernel
theorem dX8_trySecond_15 : decode cX8_trySecond 15 = .ok (.istore 4, 2) := by decide +kernel
theorem dX8_trySecond_17 : decode cX8_trySecond 17 = .ok (.iconst 0, 1) := by decide +kernel
theorem dX8_trySecond_18 : decode cX8_trySecond 18 = .ok (.istore 5, 2) := by decide +kernel
theorem dX8_trySecond_20 : decode cX8_trySecond 20 = .ok (.iload 5, 2) := by decide +kernel
theorem dX8_trySecond_22 : decode cX8_trySecond 22 = .ok (.iconst 2, 1) := by decide +kernel
theorem dX8_trySecond_23 : decode cX8_trySecond 23 = .ok (.iload_n 1, 1) := by decide +kernel
theorem dX8_trySecond_24 : decode cX8_trySecond 24 = .ok (.imul, 1) := by decide +kernel
theorem dX8_trySecond_25 : decode cX8_trySecond 25 = .ok (.if_icmp .ge 121, 3) := by decide +kernel
theorem dX8_trySecond_28 : decode cX8_trySecond 28 = .ok (.iload 4, 2) := by decide +kernel
theorem dX8_trySecond_30 : decode cX8_trySecond 30 = .ok (.ifCond .ne 116, 3) := by decide +kernel
theorem dX8_trySecond_33 : decode cX8_trySecond 33 = .ok (.iload 5, 2) := by decide +kernel
theorem dX8_trySecond_35 : decode cX8_trySecond 35 = .ok (.istore 6, 2) := by decide +kernel
theorem dX8_trySecond_37 : decode cX8_trySecond 37 = .ok (.iload 6, 2) := by decide +kernel
theorem dX8_trySecond_39 : decode cX8_trySecond 39 = .ok (.iconst 2, 1) := by decide +kernel
theorem dX8_trySecond_40 : decode cX8_trySecond 40 = .ok (.iload_n 1, 1) := by decide +kernel
theorem dX8_trySecond_41 : decode cX8_trySecond 41 = .ok (.imul, 1) := by decide +kernel
theorem dX8_trySecond_42 : decode cX8_trySecond 42 = .ok (.if_icmp .ge 98, 3) := by decide +kernel
theorem dX8_trySecond_45 : decode cX8_trySecond 45 = .ok (.iload 4, 2) := by decide +kernel
theorem dX8_trySecond_47 : decode cX8_trySecond 47 = .ok (.ifCond .ne 93, 3) := by decide +kernel
theorem dX8_trySecond_50 : decode cX8_trySecond 50 = .ok (.aload_n 0, 1) := by decide +kernel
theorem dX8_trySecond_51 : decode cX8_trySecond 51 = .ok (.iload 5, 2) := by decide +kernel
theorem dX8_trySecond_53 : decode cX8_trySecond 53 = .ok (.invokevirtual 139, 3) := by decide +kernel
theorem dX8_trySecond_56 : decode cX8_trySecond 56 = .ok (.ifCond .eq 78, 3) := by decide +kernel
theorem dX8_trySecond_59 : decode cX8_trySecond 59 = .ok (.aload_n 0, 1) := by decide +kernel
theorem dX8_trySecond_60 : decode cX8_trySecond 60 = .ok (.iload 6, 2) := by decide +kernel
theorem dX8_trySecond_62 : decode cX8_trySecond 62 = .ok (.invokevirtual 139, 3) := by decide +kernel
theorem dX8_trySecond_65 : decode cX8_trySecond 65 = .ok (.ifCond .ne 6, 3) := by decide +kernel
theorem dX8_trySecond_68 : decode cX8_trySecond 68 = .ok (.goto 66, 3) := by decide +kernel
theorem dX8_trySecond_71 : decode cX8_trySecond 71 = .ok (.aload_n 0, 1) := by decide +kernel
theorem dX8_trySecond_72 : decode cX8_trySecond 72 = .ok (.getfield 13, 3) := by decide +kernel
theorem dX8_trySecond_75 : decode cX8_trySecond 75 = .ok (.iload_n 1, 1) := by decide +kernel
theorem dX8_trySecond_76 : decode cX8_trySecond 76 = .ok (.iload 5, 2) := by decide +kernel
theorem dX8_trySecond_78 : decode cX8_trySecond 78 = .ok (.iastore, 1) := by decide +kernel
theorem dX8_trySecond_79 : decode cX8_trySecond 79 = .ok (.aload_n 0, 1) := by decide +kernel
theorem dX8_trySecond_80 : decode cX8_trySecond 80 = .ok (.getfield 16, 3) := by decide +kernel
theorem dX8_trySecond_83 : decode cX8_trySecond 83 = .ok (.iload_n 1, 1) := by decide +kernel
theorem dX8_trySecond_84 : decode cX8_trySecond 84 = .ok (.iload 6, 2) := by decide +kernel
theorem dX8_trySecond_86 : decode cX8_trySecond 86 = .ok (.iastore, 1) := by decide +kernel
theorem dX8_trySecond_87 : decode cX8_trySecond 87 = .ok (.aload_n 0, 1) := by decide +kernel
theorem dX8_trySecond_88 : decode cX8_trySecond 88 = .ok (.iload_n 1, 1) := by decide +kernel
theorem dX8_trySecond_89 : decode cX8_trySecond 89 = .ok (.invokevirtual 142, 3) := by decide +kernel
theorem dX8_trySecond_92 : decode cX8_trySecond 92 = .ok (.aload_n 0, 1) := by decide +kernel
theorem dX8_trySecond_93 : decode cX8_trySecond 93 = .ok (.invokevirtual 121, 3) := by decide +kernel
theorem dX8_trySecond_96 : decode cX8_trySecond 96 = .ok (.ifCond .ne 7, 3) := by decide +kernel
theorem dX8_trySecond_99 : decode cX8_trySecond 99 = .ok (.iconst 1, 1) := by decide +kernel
theorem dX8_trySecond_100 : decode cX8_trySecond 100 = .ok (.goto 4, 3) := by decide +kernel
theorem dX8_trySecond_103 : decode cX8_trySecond 103 = .ok (.iconst 0, 1) := by decide +kernel
theorem dX8_trySecond_104 : decode cX8_trySecond 104 = .ok (.istore 4, 2) := by decide +kernel
theorem dX8_trySecond_106 : decode cX8_trySecond 106 = .ok (.iload 4, 2) := by decide +kernel
theorem dX8_trySecond_108 : decode cX8_trySecond 108 = .ok (.ifCond .eq 26, 3) := by decide +kernel
theorem dX8_trySecond_111 : decode cX8_trySecond 111 = .ok (.aload_n 0, 1) := by decide +kernel
theorem dX8_trySecond_112 : decode cX8_trySecond 112 = .ok (.getfield 45, 3) := by decide +kernel
theorem dX8_trySecond_115 : decode cX8_trySecond 115 = .ok (.iconst 1, 1) := by decide +kernel
theorem dX8_trySecond_116 : decode cX8_trySecond 116 = .ok (.iload_n 1, 1) := by decide +kernel
theorem dX8_trySecond_117 : decode cX8_trySecond 117 = .ok (.iastore, 1) := by decide +kernel
theorem dX8_trySecond_118 : decode cX8_trySecond 118 = .ok (.aload_n 0, 1) := by decide +kernel
theorem dX8_trySecond_119 : decode cX8_trySecond 119 = .ok (.getfield 48, 3) := by decide +kernel
theorem dX8_trySecond_122 : decode cX8_trySecond 122 = .ok (.iconst 1, 1) := by decide +kernel
theorem dX8_trySecond_123 : decode cX8_trySecond 123 = .ok (.iload 5, 2) := by decide +kernel
theorem dX8_trySecond_125 : decode cX8_trySecond 125 = .ok (.iastore, 1) := by decide +kernel
theorem dX8_trySecond_126 : decode cX8_trySecond 126 = .ok (.aload_n 0, 1) := by decide +kernel
theorem dX8_trySecond_127 : decode cX8_trySecond 127 = .ok (.getfield 51, 3) := by decide +kernel
theorem dX8_trySecond_130 : decode cX8_trySecond 130 = .ok (.iconst 1, 1) := by decide +kernel
theorem dX8_trySecond_131 : decode cX8_trySecond 131 = .ok (.iload 6, 2) := by decide +kernel
theorem dX8_trySecond_133 : decode cX8_trySecond 133 = .ok (.iastore, 1) := by decide +kernel
theorem dX8_trySecond_134 : decode cX8_trySecond 134 = .ok (.iinc 6 1, 3) := by decide +kernel
theorem dX8_trySecond_137 : decode cX8_trySecond 137 = .ok (.goto (-100), 3) := by decide +kernel
theorem dX8_trySecond_140 : decode cX8_trySecond 140 = .ok (.iinc 5 1, 3) := by decide +kernel
theorem dX8_trySecond_143 : decode cX8_trySecond 143 = .ok (.goto (-123), 3) := by decide +kernel
theorem dX8_trySecond_146 : decode cX8_trySecond 146 = .ok (.aload_n 0, 1) := by decide +kernel
theorem dX8_trySecond_147 : decode cX8_trySecond 147 = .ok (.getfield 13, 3) := by decide +kernel
theorem dX8_trySecond_150 : decode cX8_trySecond 150 = .ok (.iload_n 1, 1) := by decide +kernel
theorem dX8_trySecond_151 : decode cX8_trySecond 151 = .ok (.iload_n 2, 1) := by decide +kernel
theorem dX8_trySecond_152 : decode cX8_trySecond 152 = .ok (.iastore, 1) := by decide +kernel
theorem dX8_trySecond_153 : decode cX8_trySecond 153 = .ok (.aload_n 0, 1) := by decide +kernel
theorem dX8_trySecond_154 : decode cX8_trySecond 154 = .ok (.getfield 16, 3) := by decide +kernel
theorem dX8_trySecond_157 : decode cX8_trySecond 157 = .ok (.iload_n 1, 1) := by decide +kernel
theorem dX8_trySecond_158 : decode cX8_trySecond 158 = .ok (.iload_n 3, 1) := by decide +kernel
theorem dX8_trySecond_159 : decode cX8_trySecond 159 = .ok (.iastore, 1) := by decide +kernel
theorem dX8_trySecond_160 : decode cX8_trySecond 160 = .ok (.aload_n 0, 1) := by decide +kernel
theorem dX8_trySecond_161 : decode cX8_trySecond 161 = .ok (.iload_n 1, 1) := by decide +kernel
theorem dX8_trySecond_162 : decode cX8_trySecond 162 = .ok (.invokevirtual 142, 3) := by decide +kernel
theorem dX8_trySecond_165 : decode cX8_trySecond 165 = .ok (.iload 4, 2) := by decide +kernel
theorem dX8_trySecond_167 : decode cX8_trySecond 167 = .ok (.ireturn, 1) := by decide +kernel
theorem dX8_search_0 : decode cX8_search 0 = .ok (.iload_n 1, 1) := by decide +kernel
theorem dX8_search_1 : decode cX8_search 1 = .ok (.ifCond .ne 16, 3) := by decide +kernel
theorem dX8_search_4 : decode cX8_search 4 = .ok (.aload_n 0, 1) := by decide +kernel
theorem dX8_search_5 : decode cX8_search 5 = .ok (.invokevirtual 121, 3) := by decide +kernel
theorem dX8_search_8 : decode cX8_search 8 = .ok (.ifCond .ne 7, 3) := by decide +kernel
theorem dX8_search_11 : decode cX8_search 11 = .ok (.iconst 1, 1) := by decide +kernel
theorem dX8_search_12 : decode cX8_search 12 = .ok (.goto 4, 3) := by decide +kernel
theorem dX8_search_15 : decode cX8_search 15 = .ok (.iconst 0, 1) := by decide +kernel
theorem dX8_search_16 : decode cX8_search 16 = .ok (.ireturn, 1) := by decide +kernel
theorem dX8_search_17 : decode cX8_search 17 = .ok (.iconst 0, 1) := by decide +kernel
theorem dX8_search_18 : decode cX8_search 18 = .ok (.istore_n 2, 1) := by decide +kernel
theorem dX8_search_19 : decode cX8_search 19 = .ok (.iload_n 2, 1) := by decide +kernel
theorem dX8_search_20 : decode cX8_search 20 = .ok (.aload_n 0, 1) := by decide +kernel
theorem dX8_search_21 : decode cX8_search 21 = .ok (.getfield 76, 3) := by decide +kernel
theorem dX8_search_24 : decode cX8_search 24 = .ok (.if_icmp .ge 78, 3) := by decide +kernel
theorem dX8_search_27 : decode cX8_search 27 = .ok (.aload_n 0, 1) := by decide +kernel
theorem dX8_search_28 : decode cX8_search 28 = .ok (.iload_n 2, 1) := by decide +kernel
theorem dX8_search_29 : decode cX8_search 29 = .ok (.invokevirtual 148, 3) := by decide +kernel
theorem dX8_search_32 : decode cX8_search 32 = .ok (.ifCond .ne 6, 3) := by decide +kernel
theorem dX8_search_35 : decode cX8_search 35 = .ok (.goto 61, 3) := by decide +kernel
theorem dX8_search_38 : decode cX8_search 38 = .ok (.iload_n 1, 1) := by decide +kernel
theorem dX8_search_39 : decode cX8_search 39 = .ok (.iconst 1, 1) := by decide +kernel
theorem dX8_search_40 : decode cX8_search 40 = .ok (.if_icmp .ne 14, 3) := by decide +kernel
theorem dX8_search_43 : decode cX8_search 43 = .ok (.aload_n 0, 1) := by decide +kernel
theorem dX8_search_44 : decode cX8_search 44 = .ok (.iload_n 2, 1) := by decide +kernel
theorem dX8_search_45 : decode cX8_search 45 = .ok (.iconst (-1), 1) := by decide +kernel
theorem dX8_search_46 : decode cX8_search 46 = .ok (.invokevirtual 151, 3) := by decide +kernel
theorem dX8_search_49 : decode cX8_search 49 = .ok (.ifCond .eq 5, 3) := by decide +kernel
theorem dX8_search_52 : decode cX8_search 52 = .ok (.iconst 1, 1) := by decide +kernel
theorem dX8_search_53 : decode cX8_search 53 = .ok (.ireturn, 1) := by decide +kernel
theorem dX8_search_54 : decode cX8_search 54 = .ok (.iload_n 2, 1) := by decide +kernel
theorem dX8_search_55 : decode cX8_search 55 = .ok (.iconst 1, 1) := by decide +kernel
theorem dX8_search_56 : decode cX8_search 56 = .ok (.iadd, 1) := by decide +kernel
theorem dX8_search_57 : decode cX8_search 57 = .ok (.istore_n 3, 1) := by decide +kernel
theorem dX8_search_58 : decode cX8_search 58 = .ok (.iload_n 3, 1) := by decide +kernel
theorem dX8_search_59 : decode cX8_search 59 = .ok (.aload_n 0, 1) := by decide +kernel
theorem dX8_search_60 : decode cX8_search 60 = .ok (.getfield 76, 3) := by decide +kernel
theorem dX8_search_63 : decode cX8_search 63 = .ok (.if_icmp .ge 33, 3) := by decide +kernel
theorem dX8_search_66 : decode cX8_search 66 = .ok (.iload_n 1, 1) := by decide +kernel
theorem dX8_search_67 : decode cX8_search 67 = .ok (.iconst 2, 1) := by decide +kernel
theorem dX8_search_68 : decode cX8_search 68 = .ok (.if_icmp .ne 28, 3) := by decide +kernel
theorem dX8_search_71 : decode cX8_search 71 = .ok (.aload_n 0, 1) := by decide +kernel
theorem dX8_search_72 : decode cX8_search 72 = .ok (.iload_n 3, 1) := by decide +kernel
theorem dX8_search_73 : decode cX8_search 73 = .ok (.invokevirtual 148, 3) := by decide +kernel
theorem dX8_search_76 : decode cX8_search 76 = .ok (.ifCond .eq 14, 3) := by decide +kernel
theorem dX8_search_79 : decode cX8_search 79 = .ok (.aload_n 0, 1) := by decide +kernel
theorem dX8_search_80 : decode cX8_search 80 = .ok (.iload_n 2, 1) := by decide +kernel
theorem dX8_search_81 : decode cX8_search 81 = .ok (.iload_n 3, 1) := by decide +kernel
theorem dX8_search_82 : decode cX8_search 82 = .ok (.invokevirtual 151, 3) := by decide +kernel
theorem dX8_search_85 : decode cX8_search 85 = .ok (.ifCond .eq 5, 3) := by decide +kernel
theorem dX8_search_88 : decode cX8_search 88 = .ok (.iconst 1, 1) := by decide +kernel
theorem dX8_search_89 : decode cX8_search 89 = .ok (.ireturn, 1) := by decide +kernel
theorem dX8_search_90 : decode cX8_search 90 = .ok (.iinc 3 1, 3) := by decide +kernel
theorem dX8_search_93 : decode cX8_search 93 = .ok (.goto (-35), 3) := by decide +kernel
theorem dX8_search_96 : decode cX8_search 96 = .ok (.iinc 2 1, 3) := by decide +kernel
theorem dX8_search_99 : decode cX8_search 99 = .ok (.goto (-80), 3) := by decide +kernel
theorem dX8_search_102 : decode cX8_search 102 = .ok (.iconst 0, 1) := by decide +kernel
theorem dX8_search_103 : decode cX8_search 103 = .ok (.ireturn, 1) := by decide +kernel
theorem dX8_run_0 : decode cX8_run 0 = .ok (.aload_n 0, 1) := by decide +kernel
theorem dX8_run_1 : decode cX8_run 1 = .ok (.iload_n 1, 1) := by decide +kernel
theorem dX8_run_2 : decode cX8_run 2 = .ok (.ifCond .lt 12, 3) := by decide +kernel
theorem dX8_run_5 : decode cX8_run 5 = .ok (.iload_n 1, 1) := by decide +kernel
theorem dX8_run_6 : decode cX8_run 6 = .ok (.iconst 2, 1) := by decide +kernel
theorem dX8_run_7 : decode cX8_run 7 = .ok (.if_icmp .gt 7, 3) := by decide +kernel
theorem dX8_run_10 : decode cX8_run 10 = .ok (.iconst 0, 1) := by decide +kernel
theorem dX8_run_11 : decode cX8_run 11 = .ok (.goto 4, 3) := by decide +kernel
theorem dX8_run_14 : decode cX8_run 14 = .ok (.iconst 1, 1) := by decide +kernel
theorem dX8_run_15 : decode cX8_run 15 = .ok (.putfield 72, 3) := by decide +kernel
theorem dX8_run_18 : decode cX8_run 18 = .ok (.aload_n 0, 1) := by decide +kernel
theorem dX8_run_19 : decode cX8_run 19 = .ok (.getfield 72, 3) := by decide +kernel
theorem dX8_run_22 : decode cX8_run 22 = .ok (.ifCond .le 5, 3) := by decide +kernel
theorem dX8_run_25 : decode cX8_run 25 = .ok (.iconst 0, 1) := by decide +kernel
theorem dX8_run_26 : decode cX8_run 26 = .ok (.ireturn, 1) := by decide +kernel
theorem dX8_run_27 : decode cX8_run 27 = .ok (.aload_n 0, 1) := by decide +kernel
theorem dX8_run_28 : decode cX8_run 28 = .ok (.iconst 0, 1) := by decide +kernel
theorem dX8_run_29 : decode cX8_run 29 = .ok (.putfield 98, 3) := by decide +kernel
theorem dX8_run_32 : decode cX8_run 32 = .ok (.iconst 0, 1) := by decide +kernel
theorem dX8_run_33 : decode cX8_run 33 = .ok (.istore_n 2, 1) := by decide +kernel
theorem dX8_run_34 : decode cX8_run 34 = .ok (.iload_n 2, 1) := by decide +kernel
theorem dX8_run_35 : decode cX8_run 35 = .ok (.iload_n 1, 1) := by decide +kernel
theorem dX8_run_36 : decode cX8_run 36 = .ok (.if_icmp .gt 30, 3) := by decide +kernel
theorem dX8_run_39 : decode cX8_run 39 = .ok (.aload_n 0, 1) := by decide +kernel
theorem dX8_run_40 : decode cX8_run 40 = .ok (.getfield 98, 3) := by decide +kernel
theorem dX8_run_43 : decode cX8_run 43 = .ok (.ifCond .ne 23, 3) := by decide +kernel
theorem dX8_run_46 : decode cX8_run 46 = .ok (.aload_n 0, 1) := by decide +kernel
theorem dX8_run_47 : decode cX8_run 47 = .ok (.aload_n 0, 1) := by decide +kernel
theorem dX8_run_48 : decode cX8_run 48 = .ok (.iload_n 2, 1) := by decide +kernel
theorem dX8_run_49 : decode cX8_run 49 = .ok (.invokevirtual 154, 3) := by decide +kernel
theorem dX8_run_52 : decode cX8_run 52 = .ok (.putfield 98, 3) := by decide +kernel
theorem dX8_run_55 : decode cX8_run 55 = .ok (.aload_n 0, 1) := by decide +kernel
theorem dX8_run_56 : decode cX8_run 56 = .ok (.iload_n 2, 1) := by decide +kernel
theorem dX8_run_57 : decode cX8_run 57 = .ok (.putfield 157, 3) := by decide +kernel
theorem dX8_run_60 : decode cX8_run 60 = .ok (.iinc 2 1, 3) := by decide +kernel
theorem dX8_run_63 : decode cX8_run 63 = .ok (.goto (-29), 3) := by decide +kernel
theorem dX8_run_66 : decode cX8_run 66 = .ok (.aload_n 0, 1) := by decide +kernel
theorem dX8_run_67 : decode cX8_run 67 = .ok (.getfield 98, 3) := by decide +kernel
theorem dX8_run_70 : decode cX8_run 70 = .ok (.ifCond .ne 5, 3) := by decide +kernel
theorem dX8_run_73 : decode cX8_run 73 = .ok (.iconst (-1), 1) := by decide +kernel
theorem dX8_run_74 : decode cX8_run 74 = .ok (.ireturn, 1) := by decide +kernel
theorem dX8_run_75 : decode cX8_run 75 = .ok (.aload_n 0, 1) := by decide +kernel
theorem dX8_run_76 : decode cX8_run 76 = .ok (.invokevirtual 160, 3) := by decide +kernel
theorem dX8_run_79 : decode cX8_run 79 = .ok (.aload_n 0, 1) := by decide +kernel
theorem dX8_run_80 : decode cX8_run 80 = .ok (.getfield 157, 3) := by decide +kernel
theorem dX8_run_83 : decode cX8_run 83 = .ok (.ireturn, 1) := by decide +kernel
theorem dX8_size_0 : decode cX8_size 0 = .ok (.lload_n 0, 1) := by decide +kernel
theorem dX8_size_1 : decode cX8_size 1 = .ok (.lconst 0, 1) := by decide +kernel
theorem dX8_size_2 : decode cX8_size 2 = .ok (.lcmp, 1) := by decide +kernel
theorem dX8_size_3 : decode cX8_size 3 = .ok (.ifCond .ge 8, 3) := by decide +kernel
theorem dX8_size_6 : decode cX8_size 6 = .ok (.lload_n 0, 1) := by decide +kernel
theorem dX8_size_7 : decode cX8_size 7 = .ok (.lneg, 1) := by decide +kernel
theorem dX8_size_8 : decode cX8_size 8 = .ok (.goto 4, 3) := by decide +kernel
theorem dX8_size_11 : decode cX8_size 11 = .ok (.lload_n 0, 1) := by decide +kernel
theorem dX8_size_12 : decode cX8_size 12 = .ok (.lreturn, 1) := by decide +kernel
theorem dX8_far_0 : decode cX8_far 0 = .ok (.aload_n 0, 1) := by decide +kernel
theorem dX8_far_1 : decode cX8_far 1 = .ok (.getfield 45, 3) := by decide +kernel
theorem dX8_far_4 : decode cX8_far 4 = .ok (.iload_n 1, 1) := by decide +kernel
theorem dX8_far_5 : decode cX8_far 5 = .ok (.iaload, 1) := by decide +kernel
theorem dX8_far_6 : decode cX8_far 6 = .ok (.istore_n 3, 1) := by decide +kernel
theorem dX8_far_7 : decode cX8_far 7 = .ok (.aload_n 0, 1) := by decide +kernel
theorem dX8_far_8 : decode cX8_far 8 = .ok (.getfield 26, 3) := by decide +kernel
theorem dX8_far_11 : decode cX8_far 11 = .ok (.iload_n 3, 1) := by decide +kernel
theorem dX8_far_12 : decode cX8_far 12 = .ok (.laload, 1) := by decide +kernel
theorem dX8_far_13 : decode cX8_far 13 = .ok (.aload_n 0, 1) := by decide +kernel
theorem dX8_far_14 : decode cX8_far 14 = .ok (.getfield 39, 3) := by decide +kernel
theorem dX8_far_17 : decode cX8_far 17 = .ok (.iload_n 2, 1) := by decide +kernel
theorem dX8_far_18 : decode cX8_far 18 = .ok (.laload, 1) := by decide +kernel
theorem dX8_far_19 : decode cX8_far 19 = .ok (.lsub, 1) := by decide +kernel
theorem dX8_far_20 : decode cX8_far 20 = .ok (.invokestatic 163, 3) := by decide +kernel
theorem dX8_far_23 : decode cX8_far 23 = .ok (.aload_n 0, 1) := by decide +kernel
theorem dX8_far_24 : decode cX8_far 24 = .ok (.getfield 30, 3) := by decide +kernel
theorem dX8_far_27 : decode cX8_far 27 = .ok (.iload_n 3, 1) := by decide +kernel
theorem dX8_far_28 : decode cX8_far 28 = .ok (.laload, 1) := by decide +kernel
theorem dX8_far_29 : decode cX8_far 29 = .ok (.aload_n 0, 1) := by decide +kernel
theorem dX8_far_30 : decode cX8_far 30 = .ok (.getfield 42, 3) := by decide +kernel
theorem dX8_far_33 : decode cX8_far 33 = .ok (.iload_n 2, 1) := by decide +kernel
theorem dX8_far_34 : decode cX8_far 34 = .ok (.laload, 1) := by decide +kernel
theorem dX8_far_35 : decode cX8_far 35 = .ok (.lsub, 1) := by decide +kernel
theorem dX8_far_36 : decode cX8_far 36 = .ok (.invokestatic 163, 3) := by decide +kernel
theorem dX8_far_39 : decode cX8_far 39 = .ok (.ladd, 1) := by decide +kernel
theorem dX8_far_40 : decode cX8_far 40 = .ok (.lreturn, 1) := by decide +kernel
theorem dX8_take_0 : decode cX8_take 0 = .ok (.aload_n 0, 1) := by decide +kernel
theorem dX8_take_1 : decode cX8_take 1 = .ok (.aload_n 0, 1) := by decide +kernel
theorem dX8_take_2 : decode cX8_take 2 = .ok (.getfield 136, 3) := by decide +kernel
theorem dX8_take_5 : decode cX8_take 5 = .ok (.aload_n 0, 1) := by decide +kernel
theorem dX8_take_6 : decode cX8_take 6 = .ok (.getfield 157, 3) := by decide +kernel
theorem dX8_take_9 : decode cX8_take 9 = .ok (.if_icmp .lt 7, 3) := by decide +kernel
theorem dX8_take_12 : decode cX8_take 12 = .ok (.iconst 1, 1) := by decide +kernel
theorem dX8_take_13 : decode cX8_take 13 = .ok (.goto 4, 3) := by decide +kernel
theorem dX8_take_16 : decode cX8_take 16 = .ok (.iconst 0, 1) := by decide +kernel
theorem dX8_take_17 : decode cX8_take 17 = .ok (.putfield 167, 3) := by decide +kernel
theorem dX8_take_20 : decode cX8_take 20 = .ok (.aload_n 0, 1) := by decide +kernel
theorem dX8_take_21 : decode cX8_take 21 = .ok (.lconst 0, 1) := by decide +kernel
theorem dX8_take_22 : decode cX8_take 22 = .ok (.putfield 170, 3) := by decide +kernel
theorem dX8_take_25 : decode cX8_take 25 = .ok (.iconst 0, 1) := by decide +kernel
theorem dX8_take_26 : decode cX8_take 26 = .ok (.istore_n 1, 1) := by decide +kernel
theorem dX8_take_27 : decode cX8_take 27 = .ok (.iconst 0, 1) := by decide +kernel
theorem dX8_take_28 : decode cX8_take 28 = .ok (.istore_n 2, 1) := by decide +kernel
theorem dX8_take_29 : decode cX8_take 29 = .ok (.iload_n 2, 1) := by decide +kernel
theorem dX8_take_30 : decode cX8_take 30 = .ok (.aload_n 0, 1) := by decide +kernel
theorem dX8_take_31 : decode cX8_take 31 = .ok (.getfield 136, 3) := by decide +kernel
theorem dX8_take_34 : decode cX8_take 34 = .ok (.if_icmp .ge 130, 3) := by decide +kernel
theorem dX8_take_37 : decode cX8_take 37 = .ok (.aload_n 0, 1) := by decide +kernel
theorem dX8_take_38 : decode cX8_take 38 = .ok (.getfield 157, 3) := by decide +kernel
theorem dX8_take_41 : decode cX8_take 41 = .ok (.ifCond .le 123, 3) := by decide +kernel
theorem dX8_take_44 : decode cX8_take 44 = .ok (.aload_n 0, 1) := by decide +kernel
theorem dX8_take_45 : decode cX8_take 45 = .ok (.getfield 167, 3) := by decide +kernel
theorem dX8_take_48 : decode cX8_take 48 = .ok (.ifCond .eq 116, 3) := by decide +kernel
theorem dX8_take_51 : decode cX8_take 51 = .ok (.iconst 0, 1) := by decide +kernel
theorem dX8_take_52 : decode cX8_take 52 = .ok (.istore_n 3, 1) := by decide +kernel
theorem dX8_take_53 : decode cX8_take 53 = .ok (.iload_n 3, 1) := by decide +kernel
theorem dX8_take_54 : decode cX8_take 54 = .ok (.aload_n 0, 1) := by decide +kernel
theorem dX8_take_55 : decode cX8_take 55 = .ok (.getfield 157, 3) := by decide +kernel
theorem dX8_take_58 : decode cX8_take 58 = .ok (.iconst 2, 1) := by decide +kernel
theorem dX8_take_59 : decode cX8_take 59 = .ok (.if_icmp .ne 10, 3) := by decide +kernel
theorem dX8_take_62 : decode cX8_take 62 = .ok (.aload_n 0, 1) := by decide +kernel
theorem dX8_take_63 : decode cX8_take 63 = .ok (.getfield 136, 3) := by decide +kernel
theorem dX8_take_66 : decode cX8_take 66 = .ok (.goto 4, 3) := by decide +kernel
theorem dX8_take_69 : decode cX8_take 69 = .ok (.iconst 1, 1) := by decide +kernel
theorem dX8_take_70 : decode cX8_take 70 = .ok (.if_icmp .ge 88, 3) := by decide +kernel
theorem dX8_take_73 : decode cX8_take 73 = .ok (.aload_n 0, 1) := by decide +kernel
theorem dX8_take_74 : decode cX8_take 74 = .ok (.getfield 157, 3) := by decide +kernel
theorem dX8_take_77 : decode cX8_take 77 = .ok (.iconst 2, 1) := by decide +kernel
theorem dX8_take_78 : decode cX8_take 78 = .ok (.if_icmp .ne 11, 3) := by decide +kernel
theorem dX8_take_81 : decode cX8_take 81 = .ok (.iload_n 2, 1) := by decide +kernel
theorem dX8_take_82 : decode cX8_take 82 = .ok (.iload_n 3, 1) := by decide +kernel
theorem dX8_take_83 : decode cX8_take 83 = .ok (.if_icmp .ne 6, 3) := by decide +kernel
theorem dX8_take_86 : decode cX8_take 86 = .ok (.goto 66, 3) := by decide +kernel
theorem dX8_take_89 : decode cX8_take 89 = .ok (.aload_n 0, 1) := by decide +kernel
theorem dX8_take_90 : decode cX8_take 90 = .ok (.iconst 0, 1) := by decide +kernel
theorem dX8_take_91 : decode cX8_take 91 = .ok (.iload_n 2, 1) := by decide +kernel
theorem dX8_take_92 : decode cX8_take 92 = .ok (.invokevirtual 174, 3) := by decide +kernel
theorem dX8_take_95 : decode cX8_take 95 = .ok (.aload_n 0, 1) := by decide +kernel
theorem dX8_take_96 : decode cX8_take 96 = .ok (.getfield 157, 3) := by decide +kernel
theorem dX8_take_99 : decode cX8_take 99 = .ok (.iconst 2, 1) := by decide +kernel
theorem dX8_take_100 : decode cX8_take 100 = .ok (.if_icmp .ne 12, 3) := by decide +kernel
theorem dX8_take_103 : decode cX8_take 103 = .ok (.aload_n 0, 1) := by decide +kernel
theorem dX8_take_104 : decode cX8_take 104 = .ok (.iconst 1, 1) := by decide +kernel
theorem dX8_take_105 : decode cX8_take 105 = .ok (.iload_n 3, 1) := by decide +kernel
theorem dX8_take_106 : decode cX8_take 106 = .ok (.invokevirtual 174, 3) := by decide +kernel
theorem dX8_take_109 : decode cX8_take 109 = .ok (.goto 4, 3) := by decide +kernel
theorem dX8_take_112 : decode cX8_take 112 = .ok (.lconst 0, 1) := by decide +kernel
theorem dX8_take_113 : decode cX8_take 113 = .ok (.ladd, 1) := by decide +kernel
theorem dX8_take_114 : decode cX8_take 114 = .ok (.lstore 4, 2) := by decide +kernel
theorem dX8_take_116 : decode cX8_take 116 = .ok (.iload_n 1, 1) := by decide +kernel
theorem dX8_take_117 : decode cX8_take 117 = .ok (.ifCond .eq 13, 3) := by decide +kernel
theorem dX8_take_120 : decode cX8_take 120 = .ok (.lload 4, 2) := by decide +kernel
theorem dX8_take_122 : decode cX8_take 122 = .ok (.aload_n 0, 1) := by decide +kernel
theorem dX8_take_123 : decode cX8_take 123 = .ok (.getfield 170, 3) := by decide +kernel
theorem dX8_take_126 : decode cX8_take 126 = .ok (.lcmp, 1) := by decide +kernel
theorem dX8_take_127 : decode cX8_take 127 = .ok (.ifCond .ge 25, 3) := by decide +kernel
theorem dX8_take_130 : decode cX8_take 130 = .ok (.iconst 1, 1) := by decide +kernel
theorem dX8_take_131 : decode cX8_take 131 = .ok (.istore_n 1, 1) := by decide +kernel
theorem dX8_take_132 : decode cX8_take 132 = .ok (.aload_n 0, 1) := by decide +kernel
theorem dX8_take_133 : decode cX8_take 133 = .ok (.lload 4, 2) := by decide +kernel
theorem dX8_take_135 : decode cX8_take 135 = .ok (.putfield 170, 3) := by decide +kernel
theorem dX8_take_138 : decode cX8_take 138 = .ok (.aload_n 0, 1) := by decide +kernel
theorem dX8_take_139 : decode cX8_take 139 = .ok (.getfield 54, 3) := by decide +kernel
theorem dX8_take_142 : decode cX8_take 142 = .ok (.iconst 0, 1) := by decide +kernel
theorem dX8_take_143 : decode cX8_take 143 = .ok (.iload_n 2, 1) := by decide +kernel
theorem dX8_take_144 : decode cX8_take 144 = .ok (.iastore, 1) := by decide +kernel
theorem dX8_take_145 : decode cX8_take 145 = .ok (.aload_n 0, 1) := by decide +kernel
theorem dX8_take_146 : decode cX8_take 146 = .ok (.getfield 54, 3) := by decide +kernel
theorem dX8_take_149 : decode cX8_take 149 = .ok (.iconst 1, 1) := by decide +kernel
theorem dX8_take_150 : decode cX8_take 150 = .ok (.iload_n 3, 1) := by decide +kernel
theorem dX8_take_151 : decode cX8_take 151 = .ok (.iastore, 1) := by decide +kernel
theorem dX8_take_152 : decode cX8_take 152 = .ok (.iinc 3 1, 3) := by decide +kernel
theorem dX8_take_155 : decode cX8_take 155 = .ok (.goto (-102), 3) := by decide +kernel
theorem dX8_take_158 : decode cX8_take 158 = .ok (.iinc 2 1, 3) := by decide +kernel
theorem dX8_take_161 : decode cX8_take 161 = .ok (.goto (-132), 3) := by decide +kernel
theorem dX8_take_164 : decode cX8_take 164 = .ok (.return_, 1) := by decide +kernel
theorem dX8_edit_0 : decode cX8_edit 0 = .ok (.aload_n 0, 1) := by decide +kernel
theorem dX8_edit_1 : decode cX8_edit 1 = .ok (.iload_n 2, 1) := by decide +kernel
theorem dX8_edit_2 : decode cX8_edit 2 = .ok (.iconst 3, 1) := by decide +kernel
theorem dX8_edit_3 : decode cX8_edit 3 = .ok (.invokestatic 79, 3) := by decide +kernel
theorem dX8_edit_6 : decode cX8_edit 6 = .ok (.ifCond .ne 7, 3) := by decide +kernel
theorem dX8_edit_9 : decode cX8_edit 9 = .ok (.iconst 1, 1) := by decide +kernel
theorem dX8_edit_10 : decode cX8_edit 10 = .ok (.goto 30, 3) := by decide +kernel
theorem dX8_edit_13 : decode cX8_edit 13 = .ok (.aload_n 0, 1) := by decide +kernel
theorem dX8_edit_14 : decode cX8_edit 14 = .ok (.getfield 98, 3) := by decide +kernel
theorem dX8_edit_17 : decode cX8_edit 17 = .ok (.ifCond .ne 7, 3) := by decide +kernel
theorem dX8_edit_20 : decode cX8_edit 20 = .ok (.iconst 2, 1) := by decide +kernel
theorem dX8_edit_21 : decode cX8_edit 21 = .ok (.goto 19, 3) := by decide +kernel
theorem dX8_edit_24 : decode cX8_edit 24 = .ok (.iload_n 1, 1) := by decide +kernel
theorem dX8_edit_25 : decode cX8_edit 25 = .ok (.aload_n 0, 1) := by decide +kernel
theorem dX8_edit_26 : decode cX8_edit 26 = .ok (.getfield 157, 3) := by decide +kernel
theorem dX8_edit_29 : decode cX8_edit 29 = .ok (.invokestatic 79, 3) := by decide +kernel
theorem dX8_edit_32 : decode cX8_edit 32 = .ok (.ifCond .eq 7, 3) := by decide +kernel
theorem dX8_edit_35 : decode cX8_edit 35 = .ok (.iconst 0, 1) := by decide +kernel
theorem dX8_edit_36 : decode cX8_edit 36 = .ok (.goto 4, 3) := by decide +kernel
theorem dX8_edit_39 : decode cX8_edit 39 = .ok (.iconst 1, 1) := by decide +kernel
theorem dX8_edit_40 : decode cX8_edit 40 = .ok (.putfield 72, 3) := by decide +kernel
theorem dX8_edit_43 : decode cX8_edit 43 = .ok (.aload_n 0, 1) := by decide +kernel
theorem dX8_edit_44 : decode cX8_edit 44 = .ok (.getfield 72, 3) := by decide +kernel
theorem dX8_edit_47 : decode cX8_edit 47 = .ok (.ifCond .le 7, 3) := by decide +kernel
theorem dX8_edit_50 : decode cX8_edit 50 = .ok (.iconst 0, 1) := by decide +kernel
theorem dX8_edit_51 : decode cX8_edit 51 = .ok (.goto 36, 3) := by decide +kernel
theorem dX8_edit_54 : decode cX8_edit 54 = .ok (.iload_n 2, 1) := by decide +kernel
theorem dX8_edit_55 : decode cX8_edit 55 = .ok (.ifCond .ne 12, 3) := by decide +kernel
theorem dX8_edit_58 : decode cX8_edit 58 = .ok (.aload_n 0, 1) := by decide +kernel
theorem dX8_edit_59 : decode cX8_edit 59 = .ok (.getfield 45, 3) := by decide +kernel
theorem dX8_edit_62 : decode cX8_edit 62 = .ok (.iload_n 1, 1) := by decide +kernel
theorem dX8_edit_63 : decode cX8_edit 63 = .ok (.iaload, 1) := by decide +kernel
theorem dX8_edit_64 : decode cX8_edit 64 = .ok (.goto 23, 3) := by decide +kernel
theorem dX8_edit_67 : decode cX8_edit 67 = .ok (.iload_n 2, 1) := by decide +kernel
theorem dX8_edit_68 : decode cX8_edit 68 = .ok (.iconst 1, 1) := by decide +kernel
theorem dX8_edit_69 : decode cX8_edit 69 = .ok (.if_icmp .ne 12, 3) := by decide +kernel
theorem dX8_edit_72 : decode cX8_edit 72 = .ok (.aload_n 0, 1) := by decide +kernel
theorem dX8_edit_73 : decode cX8_edit 73 = .ok (.getfield 48, 3) := by decide +kernel
theorem dX8_edit_76 : decode cX8_edit 76 = .ok (.iload_n 1, 1) := by decide +kernel
theorem dX8_edit_77 : decode cX8_edit 77 = .ok (.iaload, 1) := by decide +kernel
theorem dX8_edit_78 : decode cX8_edit 78 = .ok (.goto 9, 3) := by decide +kernel
theorem dX8_edit_81 : decode cX8_edit 81 = .ok (.aload_n 0, 1) := by decide +kernel
theorem dX8_edit_82 : decode cX8_edit 82 = .ok (.getfield 51, 3) := by decide +kernel
theorem dX8_edit_85 : decode cX8_edit 85 = .ok (.iload_n 1, 1) := by decide +kernel
theorem dX8_edit_86 : decode cX8_edit 86 = .ok (.iaload, 1) := by decide +kernel
theorem dX8_edit_87 : decode cX8_edit 87 = .ok (.ireturn, 1) := by decide +kernel
theorem dX8_used_0 : decode cX8_used 0 = .ok (.aload_n 0, 1) := by decide +kernel
theorem dX8_used_1 : decode cX8_used 1 = .ok (.aload_n 0, 1) := by decide +kernel
theorem dX8_used_2 : decode cX8_used 2 = .ok (.getfield 98, 3) := by decide +kernel
theorem dX8_used_5 : decode cX8_used 5 = .ok (.ifCond .ne 7, 3) := by decide +kernel
theorem dX8_used_8 : decode cX8_used 8 = .ok (.iconst 1, 1) := by decide +kernel
theorem dX8_used_9 : decode cX8_used 9 = .ok (.goto 19, 3) := by decide +kernel
theorem dX8_used_12 : decode cX8_used 12 = .ok (.iload_n 1, 1) := by decide +kernel
theorem dX8_used_13 : decode cX8_used 13 = .ok (.aload_n 0, 1) := by decide +kernel
theorem dX8_used_14 : decode cX8_used 14 = .ok (.getfield 157, 3) := by decide +kernel
theorem dX8_used_17 : decode cX8_used 17 = .ok (.invokestatic 79, 3) := by decide +kernel
theorem dX8_used_20 : decode cX8_used 20 = .ok (.ifCond .eq 7, 3) := by decide +kernel
theorem dX8_used_23 : decode cX8_used 23 = .ok (.iconst 0, 1) := by decide +kernel
theorem dX8_used_24 : decode cX8_used 24 = .ok (.goto 4, 3) := by decide +kernel
theorem dX8_used_27 : decode cX8_used 27 = .ok (.iconst 2, 1) := by decide +kernel
theorem dX8_used_28 : decode cX8_used 28 = .ok (.putfield 72, 3) := by decide +kernel
theorem dX8_used_31 : decode cX8_used 31 = .ok (.aload_n 0, 1) := by decide +kernel
theorem dX8_used_32 : decode cX8_used 32 = .ok (.getfield 72, 3) := by decide +kernel
theorem dX8_used_35 : decode cX8_used 35 = .ok (.ifCond .le 7, 3) := by decide +kernel
theorem dX8_used_38 : decode cX8_used 38 = .ok (.iconst 0, 1) := by decide +kernel
theorem dX8_used_39 : decode cX8_used 39 = .ok (.goto 20, 3) := by decide +kernel
theorem dX8_used_42 : decode cX8_used 42 = .ok (.aload_n 0, 1) := by decide +kernel
theorem dX8_used_43 : decode cX8_used 43 = .ok (.getfield 167, 3) := by decide +kernel
theorem dX8_used_46 : decode cX8_used 46 = .ok (.ifCond .eq 12, 3) := by decide +kernel
theorem dX8_used_49 : decode cX8_used 49 = .ok (.aload_n 0, 1) := by decide +kernel
theorem dX8_used_50 : decode cX8_used 50 = .ok (.getfield 54, 3) := by decide +kernel
theorem dX8_used_53 : decode cX8_used 53 = .ok (.iload_n 1, 1) := by decide +kernel
theorem dX8_used_54 : decode cX8_used 54 = .ok (.iaload, 1) := by decide +kernel
theorem dX8_used_55 : decode cX8_used 55 = .ok (.goto 4, 3) := by decide +kernel
theorem dX8_used_58 : decode cX8_used 58 = .ok (.iconst (-1), 1) := by decide +kernel
theorem dX8_used_59 : decode cX8_used 59 = .ok (.ireturn, 1) := by decide +kernel
theorem dX8_length_0 : decode cX8_length 0 = .ok (.aload_n 0, 1) := by decide +kernel
theorem dX8_length_1 : decode cX8_length 1 = .ok (.aload_n 0, 1) := by decide +kernel
theorem dX8_length_2 : decode cX8_length 2 = .ok (.getfield 98, 3) := by decide +kernel
theorem dX8_length_5 : decode cX8_length 5 = .ok (.ifCond .eq 7, 3) := by decide +kernel
theorem dX8_length_8 : decode cX8_length 8 = .ok (.iconst 0, 1) := by decide +kernel
theorem dX8_length_9 : decode cX8_length 9 = .ok (.goto 4, 3) := by decide +kernel
theorem dX8_length_12 : decode cX8_length 12 = .ok (.iconst 1, 1) := by decide +kernel
theorem dX8_length_13 : decode cX8_length 13 = .ok (.putfield 72, 3) := by decide +kernel
theorem dX8_length_16 : decode cX8_length 16 = .ok (.aload_n 0, 1) := by decide +kernel
theorem dX8_length_17 : decode cX8_length 17 = .ok (.getfield 72, 3) := by decide +kernel
theorem dX8_length_20 : decode cX8_length 20 = .ok (.ifCond .le 7, 3) := by decide +kernel
theorem dX8_length_23 : decode cX8_length 23 = .ok (.iconst 0, 1) := by decide +kernel
theorem dX8_length_24 : decode cX8_length 24 = .ok (.goto 19, 3) := by decide +kernel
theorem dX8_length_27 : decode cX8_length 27 = .ok (.aload_n 0, 1) := by decide +kernel
theorem dX8_length_28 : decode cX8_length 28 = .ok (.getfield 167, 3) := by decide +kernel
theorem dX8_length_31 : decode cX8_length 31 = .ok (.ifCond .eq 11, 3) := by decide +kernel
theorem dX8_length_34 : decode cX8_length 34 = .ok (.aload_n 0, 1) := by decide +kernel
theorem dX8_length_35 : decode cX8_length 35 = .ok (.getfield 170, 3) := by decide +kernel
theorem dX8_length_38 : decode cX8_length 38 = .ok (.l2i, 1) := by decide +kernel
theorem dX8_length_39 : decode cX8_length 39 = .ok (.goto 4, 3) := by decide +kernel
theorem dX8_length_42 : decode cX8_length 42 = .ok (.iconst (-1), 1) := by decide +kernel
theorem dX8_length_43 : decode cX8_length 43 = .ok (.ireturn, 1) := by decide +kernel
theorem dX8_make_0 : decode cX8_make 0 = .ok (.aload_n 0, 1) := by decide +kernel
theorem dX8_make_1 : decode cX8_make 1 = .ok (.aload_n 0, 1) := by decide +kernel
theorem dX8_make_2 : decode cX8_make 2 = .ok (.getfield 98, 3) := by decide +kernel
theorem dX8_make_5 : decode cX8_make 5 = .ok (.ifCond .eq 12, 3) := by decide +kernel
theorem dX8_make_8 : decode cX8_make 8 = .ok (.aload_n 0, 1) := by decide +kernel
theorem dX8_make_9 : decode cX8_make 9 = .ok (.getfield 178, 3) := by decide +kernel
theorem dX8_make_12 : decode cX8_make 12 = .ok (.bipush 20, 2) := by decide +kernel
theorem dX8_make_14 : decode cX8_make 14 = .ok (.if_icmp .ne 7, 3) := by decide +kernel
theorem dX8_make_17 : decode cX8_make 17 = .ok (.iconst 1, 1) := by decide +kernel
theorem dX8_make_18 : decode cX8_make 18 = .ok (.goto 4, 3) := by decide +kernel
theorem dX8_make_21 : decode cX8_make 21 = .ok (.iconst 0, 1) := by decide +kernel
theorem dX8_make_22 : decode cX8_make 22 = .ok (.putfield 72, 3) := by decide +kernel
theorem dX8_make_25 : decode cX8_make 25 = .ok (.aload_n 0, 1) := by decide +kernel
theorem dX8_make_26 : decode cX8_make 26 = .ok (.getfield 72, 3) := by decide +kernel
theorem dX8_make_29 : decode cX8_make 29 = .ok (.ifCond .le 5, 3) := by decide +kernel
theorem dX8_make_32 : decode cX8_make 32 = .ok (.iconst 0, 1) := by decide +kernel
theorem dX8_make_33 : decode cX8_make 33 = .ok (.ireturn, 1) := by decide +kernel
theorem dX8_make_34 : decode cX8_make 34 = .ok (.iconst 0, 1) := by decide +kernel
theorem dX8_make_35 : decode cX8_make 35 = .ok (.istore_n 1, 1) := by decide +kernel
theorem dX8_make_36 : decode cX8_make 36 = .ok (.iload_n 1, 1) := by decide +kernel
theorem dX8_make_37 : decode cX8_make 37 = .ok (.aload_n 0, 1) := by decide +kernel
theorem dX8_make_38 : decode cX8_make 38 = .ok (.getfield 157, 3) := by decide +kernel
theorem dX8_make_41 : decode cX8_make 41 = .ok (.if_icmp .ge 92, 3) := by decide +kernel
theorem dX8_make_44 : decode cX8_make 44 = .ok (.aload_n 0, 1) := by decide +kernel
theorem dX8_make_45 : decode cX8_make 45 = .ok (.getfield 45, 3) := by decide +kernel
theorem dX8_make_48 : decode cX8_make 48 = .ok (.iload_n 1, 1) := by decide +kernel
theorem dX8_make_49 : decode cX8_make 49 = .ok (.iaload, 1) := by decide +kernel
theorem dX8_make_50 : decode cX8_make 50 = .ok (.istore_n 2, 1) := by decide +kernel
theorem dX8_make_51 : decode cX8_make 51 = .ok (.aload_n 0, 1) := by decide +kernel
theorem dX8_make_52 : decode cX8_make 52 = .ok (.getfield 60, 3) := by decide +kernel
theorem dX8_make_55 : decode cX8_make 55 = .ok (.iconst 2, 1) := by decide +kernel
theorem dX8_make_56 : decode cX8_make 56 = .ok (.aload_n 0, 1) := by decide +kernel
theorem dX8_make_57 : decode cX8_make 57 = .ok (.getfield 178, 3) := by decide +kernel
theorem dX8_make_60 : decode cX8_make 60 = .ok (.imul, 1) := by decide +kernel
theorem dX8_make_61 : decode cX8_make 61 = .ok (.iload_n 1, 1) := by decide +kernel
theorem dX8_make_62 : decode cX8_make 62 = .ok (.iadd, 1) := by decide +kernel
theorem dX8_make_63 : decode cX8_make 63 = .ok (.iload_n 2, 1) := by decide +kernel
theorem dX8_make_64 : decode cX8_make 64 = .ok (.iastore, 1) := by decide +kernel
theorem dX8_make_65 : decode cX8_make 65 = .ok (.aload_n 0, 1) := by decide +kernel
theorem dX8_make_66 : decode cX8_make 66 = .ok (.getfield 63, 3) := by decide +kernel
theorem dX8_make_69 : decode cX8_make 69 = .ok (.iconst 2, 1) := by decide +kernel
theorem dX8_make_70 : decode cX8_make 70 = .ok (.aload_n 0, 1) := by decide +kernel
theorem dX8_make_71 : decode cX8_make 71 = .ok (.getfield 178, 3) := by decide +kernel
theorem dX8_make_74 : decode cX8_make 74 = .ok (.imul, 1) := by decide +kernel
theorem dX8_make_75 : decode cX8_make 75 = .ok (.iload_n 1, 1) := by decide +kernel
theorem dX8_make_76 : decode cX8_make 76 = .ok (.iadd, 1) := by decide +kernel
theorem dX8_make_77 : decode cX8_make 77 = .ok (.aload_n 0, 1) := by decide +kernel
theorem dX8_make_78 : decode cX8_make 78 = .ok (.getfield 13, 3) := by decide +kernel
theorem dX8_make_81 : decode cX8_make 81 = .ok (.iload_n 2, 1) := by decide +kernel
theorem dX8_make_82 : decode cX8_make 82 = .ok (.iaload, 1) := by decide +kernel
theorem dX8_make_83 : decode cX8_make 83 = .ok (.iastore, 1) := by decide +kernel
theorem dX8_make_84 : decode cX8_make 84 = .ok (.aload_n 0, 1) := by decide +kernel
theorem dX8_make_85 : decode cX8_make 85 = .ok (.getfield 66, 3) := by decide +kernel
theorem dX8_make_88 : decode cX8_make 88 = .ok (.iconst 2, 1) := by decide +kernel
theorem dX8_make_89 : decode cX8_make 89 = .ok (.aload_n 0, 1) := by decide +kernel
theorem dX8_make_90 : decode cX8_make 90 = .ok (.getfield 178, 3) := by decide +kernel
theorem dX8_make_93 : decode cX8_make 93 = .ok (.imul, 1) := by decide +kernel
theorem dX8_make_94 : decode cX8_make 94 = .ok (.iload_n 1, 1) := by decide +kernel
theorem dX8_make_95 : decode cX8_make 95 = .ok (.iadd, 1) := by decide +kernel
theorem dX8_make_96 : decode cX8_make 96 = .ok (.aload_n 0, 1) := by decide +kernel
theorem dX8_make_97 : decode cX8_make 97 = .ok (.getfield 16, 3) := by decide +kernel
theorem dX8_make_100 : decode cX8_make 100 = .ok (.iload_n 2, 1) := by decide +kernel
theorem dX8_make_101 : decode cX8_make 101 = .ok (.iaload, 1) := by decide +kernel
theorem dX8_make_102 : decode cX8_make 102 = .ok (.iastore, 1) := by decide +kernel
theorem dX8_make_103 : decode cX8_make 103 = .ok (.aload_n 0, 1) := by decide +kernel
theorem dX8_make_104 : decode cX8_make 104 = .ok (.getfield 13, 3) := by decide +kernel
theorem dX8_make_107 : decode cX8_make 107 = .ok (.iload_n 2, 1) := by decide +kernel
theorem dX8_make_108 : decode cX8_make 108 = .ok (.aload_n 0, 1) := by decide +kernel
theorem dX8_make_109 : decode cX8_make 109 = .ok (.getfield 48, 3) := by decide +kernel
theorem dX8_make_112 : decode cX8_make 112 = .ok (.iload_n 1, 1) := by decide +kernel
theorem dX8_make_113 : decode cX8_make 113 = .ok (.iaload, 1) := by decide +kernel
theorem dX8_make_114 : decode cX8_make 114 = .ok (.iastore, 1) := by decide +kernel
theorem dX8_make_115 : decode cX8_make 115 = .ok (.aload_n 0, 1) := by decide +kernel
theorem dX8_make_116 : decode cX8_make 116 = .ok (.getfield 16, 3) := by decide +kernel
theorem dX8_make_119 : decode cX8_make 119 = .ok (.iload_n 2, 1) := by decide +kernel
theorem dX8_make_120 : decode cX8_make 120 = .ok (.aload_n 0, 1) := by decide +kernel
theorem dX8_make_121 : decode cX8_make 121 = .ok (.getfield 51, 3) := by decide +kernel
theorem dX8_make_124 : decode cX8_make 124 = .ok (.iload_n 1, 1) := by decide +kernel
theorem dX8_make_125 : decode cX8_make 125 = .ok (.iaload, 1) := by decide +kernel
theorem dX8_make_126 : decode cX8_make 126 = .ok (.iastore, 1) := by decide +kernel
theorem dX8_make_127 : decode cX8_make 127 = .ok (.iinc 1 1, 3) := by decide +kernel
theorem dX8_make_130 : decode cX8_make 130 = .ok (.goto (-94), 3) := by decide +kernel
theorem dX8_make_133 : decode cX8_make 133 = .ok (.aload_n 0, 1) := by decide +kernel
theorem dX8_make_134 : decode cX8_make 134 = .ok (.getfield 57, 3) := by decide +kernel
theorem dX8_make_137 : decode cX8_make 137 = .ok (.aload_n 0, 1) := by decide +kernel
theorem dX8_make_138 : decode cX8_make 138 = .ok (.getfield 178, 3) := by decide +kernel
theorem dX8_make_141 : decode cX8_make 141 = .ok (.aload_n 0, 1) := by decide +kernel
theorem dX8_make_142 : decode cX8_make 142 = .ok (.getfield 157, 3) := by decide +kernel
theorem dX8_make_145 : decode cX8_make 145 = .ok (.iastore, 1) := by decide +kernel
theorem dX8_make_146 : decode cX8_make 146 = .ok (.aload_n 0, 1) := by decide +kernel
theorem dX8_make_147 : decode cX8_make 147 = .ok (.dup, 1) := by decide +kernel
theorem dX8_make_148 : decode cX8_make 148 = .ok (.getfield 178, 3) := by decide +kernel
theorem dX8_make_151 : decode cX8_make 151 = .ok (.iconst 1, 1) := by decide +kernel
theorem dX8_make_152 : decode cX8_make 152 = .ok (.iadd, 1) := by decide +kernel
theorem dX8_make_153 : decode cX8_make 153 = .ok (.putfield 178, 3) := by decide +kernel
theorem dX8_make_156 : decode cX8_make 156 = .ok (.aload_n 0, 1) := by decide +kernel
theorem dX8_make_157 : decode cX8_make 157 = .ok (.iconst 0, 1) := by decide +kernel
theorem dX8_make_158 : decode cX8_make 158 = .ok (.invokevirtual 142, 3) := by decide +kernel
theorem dX8_make_161 : decode cX8_make 161 = .ok (.aload_n 0, 1) := by decide +kernel
theorem dX8_make_162 : decode cX8_make 162 = .ok (.iconst 0, 1) := by decide +kernel
theorem dX8_make_163 : decode cX8_make 163 = .ok (.putfield 98, 3) := by decide +kernel
theorem dX8_make_166 : decode cX8_make 166 = .ok (.aload_n 0, 1) := by decide +kernel
theorem dX8_make_167 : decode cX8_make 167 = .ok (.getfield 157, 3) := by decide +kernel
theorem dX8_make_170 : decode cX8_make 170 = .ok (.ireturn, 1) := by decide +kernel
theorem dX8_undo_0 : decode cX8_undo 0 = .ok (.aload_n 0, 1) := by decide +kernel
theorem dX8_undo_1 : decode cX8_undo 1 = .ok (.iconst 0, 1) := by decide +kernel
theorem dX8_undo_2 : decode cX8_undo 2 = .ok (.putfield 72, 3) := by decide +kernel
theorem dX8_undo_5 : decode cX8_undo 5 = .ok (.aload_n 0, 1) := by decide +kernel
theorem dX8_undo_6 : decode cX8_undo 6 = .ok (.getfield 178, 3) := by decide +kernel
theorem dX8_undo_9 : decode cX8_undo 9 = .ok (.ifCond .ne 5, 3) := by decide +kernel
theorem dX8_undo_12 : decode cX8_undo 12 = .ok (.iconst 0, 1) := by decide +kernel
theorem dX8_undo_13 : decode cX8_undo 13 = .ok (.ireturn, 1) := by decide +kernel
theorem dX8_undo_14 : decode cX8_undo 14 = .ok (.aload_n 0, 1) := by decide +kernel
theorem dX8_undo_15 : decode cX8_undo 15 = .ok (.dup, 1) := by decide +kernel
theorem dX8_undo_16 : decode cX8_undo 16 = .ok (.getfield 178, 3) := by decide +kernel
theorem dX8_undo_19 : decode cX8_undo 19 = .ok (.iconst 1, 1) := by decide +kernel
theorem dX8_undo_20 : decode cX8_undo 20 = .ok (.isub, 1) := by decide +kernel
theorem dX8_undo_21 : decode cX8_undo 21 = .ok (.putfield 178, 3) := by decide +kernel
theorem dX8_undo_24 : decode cX8_undo 24 = .ok (.iconst 0, 1) := by decide +kernel
theorem dX8_undo_25 : decode cX8_undo 25 = .ok (.istore_n 1, 1) := by decide +kernel
theorem dX8_undo_26 : decode cX8_undo 26 = .ok (.iload_n 1, 1) := by decide +kernel
theorem dX8_undo_27 : decode cX8_undo 27 = .ok (.aload_n 0, 1) := by decide +kernel
theorem dX8_undo_28 : decode cX8_undo 28 = .ok (.getfield 57, 3) := by decide +kernel
theorem dX8_undo_31 : decode cX8_undo 31 = .ok (.aload_n 0, 1) := by decide +kernel
theorem dX8_undo_32 : decode cX8_undo 32 = .ok (.getfield 178, 3) := by decide +kernel
theorem dX8_undo_35 : decode cX8_undo 35 = .ok (.iaload, 1) := by decide +kernel
theorem dX8_undo_36 : decode cX8_undo 36 = .ok (.if_icmp .ge 61, 3) := by decide +kernel
theorem dX8_undo_39 : decode cX8_undo 39 = .ok (.aload_n 0, 1) := by decide +kernel
theorem dX8_undo_40 : decode cX8_undo 40 = .ok (.getfield 60, 3) := by decide +kernel
theorem dX8_undo_43 : decode cX8_undo 43 = .ok (.iconst 2, 1) := by decide +kernel
theorem dX8_undo_44 : decode cX8_undo 44 = .ok (.aload_n 0, 1) := by decide +kernel
theorem dX8_undo_45 : decode cX8_undo 45 = .ok (.getfield 178, 3) := by decide +kernel
theorem dX8_undo_48 : decode cX8_undo 48 = .ok (.imul, 1) := by decide +kernel
theorem dX8_undo_49 : decode cX8_undo 49 = .ok (.iload_n 1, 1) := by decide +kernel
theorem dX8_undo_50 : decode cX8_undo 50 = .ok (.iadd, 1) := by decide +kernel
theorem dX8_undo_51 : decode cX8_undo 51 = .ok (.iaload, 1) := by decide +kernel
theorem dX8_undo_52 : decode cX8_undo 52 = .ok (.istore_n 2, 1) := by decide +kernel
theorem dX8_undo_53 : decode cX8_undo 53 = .ok (.aload_n 0, 1) := by decide +kernel
theorem dX8_undo_54 : decode cX8_undo 54 = .ok (.getfield 13, 3) := by decide +kernel
theorem dX8_undo_57 : decode cX8_undo 57 = .ok (.iload_n 2, 1) := by decide +kernel
theorem dX8_undo_58 : decode cX8_undo 58 = .ok (.aload_n 0, 1) := by decide +kernel
theorem dX8_undo_59 : decode cX8_undo 59 = .ok (.getfield 63, 3) := by decide +kernel
theorem dX8_undo_62 : decode cX8_undo 62 = .ok (.iconst 2, 1) := by decide +kernel
theorem dX8_undo_63 : decode cX8_undo 63 = .ok (.aload_n 0, 1) := by decide +kernel
theorem dX8_undo_64 : decode cX8_undo 64 = .ok (.getfield 178, 3) := by decide +kernel
theorem dX8_undo_67 : decode cX8_undo 67 = .ok (.imul, 1) := by decide +kernel
theorem dX8_undo_68 : decode cX8_undo 68 = .ok (.iload_n 1, 1) := by decide +kernel
theorem dX8_undo_69 : decode cX8_undo 69 = .ok (.iadd, 1) := by decide +kernel
theorem dX8_undo_70 : decode cX8_undo 70 = .ok (.iaload, 1) := by decide +kernel
theorem dX8_undo_71 : decode cX8_undo 71 = .ok (.iastore, 1) := by decide +kernel
theorem dX8_undo_72 : decode cX8_undo 72 = .ok (.aload_n 0, 1) := by decide +kernel
theorem dX8_undo_73 : decode cX8_undo 73 = .ok (.getfield 16, 3) := by decide +kernel
theorem dX8_undo_76 : decode cX8_undo 76 = .ok (.iload_n 2, 1) := by decide +kernel
theorem dX8_undo_77 : decode cX8_undo 77 = .ok (.aload_n 0, 1) := by decide +kernel
theorem dX8_undo_78 : decode cX8_undo 78 = .ok (.getfield 66, 3) := by decide +kernel
theorem dX8_undo_81 : decode cX8_undo 81 = .ok (.iconst 2, 1) := by decide +kernel
theorem dX8_undo_82 : decode cX8_undo 82 = .ok (.aload_n 0, 1) := by decide +kernel
theorem dX8_undo_83 : decode cX8_undo 83 = .ok (.getfield 178, 3) := by decide +kernel
theorem dX8_undo_86 : decode cX8_undo 86 = .ok (.imul, 1) := by decide +kernel
theorem dX8_undo_87 : decode cX8_undo 87 = .ok (.iload_n 1, 1) := by decide +kernel
theorem dX8_undo_88 : decode cX8_undo 88 = .ok (.iadd, 1) := by decide +kernel
theorem dX8_undo_89 : decode cX8_undo 89 = .ok (.iaload, 1) := by decide +kernel
theorem dX8_undo_90 : decode cX8_undo 90 = .ok (.iastore, 1) := by decide +kernel
theorem dX8_undo_91 : decode cX8_undo 91 = .ok (.iinc 1 1, 3) := by decide +kernel
theorem dX8_undo_94 : decode cX8_undo 94 = .ok (.goto (-68), 3) := by decide +kernel
theorem dX8_undo_97 : decode cX8_undo 97 = .ok (.aload_n 0, 1) := by decide +kernel
theorem dX8_undo_98 : decode cX8_undo 98 = .ok (.iconst 0, 1) := by decide +kernel
theorem dX8_undo_99 : decode cX8_undo 99 = .ok (.invokevirtual 142, 3) := by decide +kernel
theorem dX8_undo_102 : decode cX8_undo 102 = .ok (.aload_n 0, 1) := by decide +kernel
theorem dX8_undo_103 : decode cX8_undo 103 = .ok (.iconst 0, 1) := by decide +kernel
theorem dX8_undo_104 : decode cX8_undo 104 = .ok (.putfield 98, 3) := by decide +kernel
theorem dX8_undo_107 : decode cX8_undo 107 = .ok (.iconst 1, 1) := by decide +kernel
theorem dX8_undo_108 : decode cX8_undo 108 = .ok (.ireturn, 1) := by decide +kernel
theorem dX8_literal_0 : decode cX8_literal 0 = .ok (.aload_n 0, 1) := by decide +kernel
theorem dX8_literal_1 : decode cX8_literal 1 = .ok (.aload_n 0, 1) := by decide +kernel
theorem dX8_literal_2 : decode cX8_literal 2 = .ok (.iload_n 1, 1) := by decide +kernel
theorem dX8_literal_3 : decode cX8_literal 3 = .ok (.invokevirtual 125, 3) := by decide +kernel
theorem dX8_literal_6 : decode cX8_literal 6 = .ok (.ifCond .eq 15, 3) := by decide +kernel
theorem dX8_literal_9 : decode cX8_literal 9 = .ok (.iload_n 2, 1) := by decide +kernel
theorem dX8_literal_10 : decode cX8_literal 10 = .ok (.iconst 2, 1) := by decide +kernel
theorem dX8_literal_11 : decode cX8_literal 11 = .ok (.invokestatic 79, 3) := by decide +kernel
theorem dX8_literal_14 : decode cX8_literal 14 = .ok (.ifCond .eq 7, 3) := by decide +kernel
theorem dX8_literal_17 : decode cX8_literal 17 = .ok (.iconst 0, 1) := by decide +kernel
theorem dX8_literal_18 : decode cX8_literal 18 = .ok (.goto 4, 3) := by decide +kernel
theorem dX8_literal_21 : decode cX8_literal 21 = .ok (.iconst 1, 1) := by decide +kernel
theorem dX8_literal_22 : decode cX8_literal 22 = .ok (.putfield 72, 3) := by decide +kernel
theorem dX8_literal_25 : decode cX8_literal 25 = .ok (.aload_n 0, 1) := by decide +kernel
theorem dX8_literal_26 : decode cX8_literal 26 = .ok (.getfield 72, 3) := by decide +kernel
theorem dX8_literal_29 : decode cX8_literal 29 = .ok (.ifCond .le 7, 3) := by decide +kernel
theorem dX8_literal_32 : decode cX8_literal 32 = .ok (.iconst 0, 1) := by decide +kernel
theorem dX8_literal_33 : decode cX8_literal 33 = .ok (.goto 22, 3) := by decide +kernel
theorem dX8_literal_36 : decode cX8_literal 36 = .ok (.iload_n 2, 1) := by decide +kernel
theorem dX8_literal_37 : decode cX8_literal 37 = .ok (.ifCond .ne 12, 3) := by decide +kernel
theorem dX8_literal_40 : decode cX8_literal 40 = .ok (.aload_n 0, 1) := by decide +kernel
theorem dX8_literal_41 : decode cX8_literal 41 = .ok (.getfield 13, 3) := by decide +kernel
theorem dX8_literal_44 : decode cX8_literal 44 = .ok (.iload_n 1, 1) := by decide +kernel
theorem dX8_literal_45 : decode cX8_literal 45 = .ok (.iaload, 1) := by decide +kernel
theorem dX8_literal_46 : decode cX8_literal 46 = .ok (.goto 9, 3) := by decide +kernel
theorem dX8_literal_49 : decode cX8_literal 49 = .ok (.aload_n 0, 1) := by decide +kernel
theorem dX8_literal_50 : decode cX8_literal 50 = .ok (.getfield 16, 3) := by decide +kernel
theorem dX8_literal_53 : decode cX8_literal 53 = .ok (.iload_n 1, 1) := by decide +kernel
theorem dX8_literal_54 : decode cX8_literal 54 = .ok (.iaload, 1) := by decide +kernel
theorem dX8_literal_55 : decode cX8_literal 55 = .ok (.ireturn, 1) := by decide +kernel
theorem dX8_count_0 : decode cX8_count 0 = .ok (.aload_n 0, 1) := by decide +kernel
theorem dX8_count_1 : decode cX8_count 1 = .ok (.iload_n 1, 1) := by decide +kernel
theorem dX8_count_2 : decode cX8_count 2 = .ok (.bipush 8, 2) := by decide +kernel
theorem dX8_count_4 : decode cX8_count 4 = .ok (.invokestatic 79, 3) := by decide +kernel
theorem dX8_count_7 : decode cX8_count 7 = .ok (.ifCond .eq 7, 3) := by decide +kernel
theorem dX8_count_10 : decode cX8_count 10 = .ok (.iconst 0, 1) := by decide +kernel
theorem dX8_count_11 : decode cX8_count 11 = .ok (.goto 4, 3) := by decide +kernel
theorem dX8_count_14 : decode cX8_count 14 = .ok (.iconst 1, 1) := by decide +kernel
theorem dX8_count_15 : decode cX8_count 15 = .ok (.putfield 72, 3) := by decide +kernel
theorem dX8_count_18 : decode cX8_count 18 = .ok (.iconst 0, 1) := by decide +kernel
theorem dX8_count_19 : decode cX8_count 19 = .ok (.istore_n 2, 1) := by decide +kernel
theorem dX8_count_20 : decode cX8_count 20 = .ok (.iconst 0, 1) := by decide +kernel
theorem dX8_count_21 : decode cX8_count 21 = .ok (.istore_n 3, 1) := by decide +kernel
theorem dX8_count_22 : decode cX8_count 22 = .ok (.iload_n 3, 1) := by decide +kernel
theorem dX8_count_23 : decode cX8_count 23 = .ok (.aload_n 0, 1) := by decide +kernel
theorem dX8_count_24 : decode cX8_count 24 = .ok (.getfield 76, 3) := by decide +kernel
theorem dX8_count_27 : decode cX8_count 27 = .ok (.if_icmp .ge 36, 3) := by decide +kernel
theorem dX8_count_30 : decode cX8_count 30 = .ok (.aload_n 0, 1) := by decide +kernel
theorem dX8_count_31 : decode cX8_count 31 = .ok (.getfield 7, 3) := by decide +kernel
theorem dX8_count_34 : decode cX8_count 34 = .ok (.iload_n 3, 1) := by decide +kernel
theorem dX8_count_35 : decode cX8_count 35 = .ok (.iaload, 1) := by decide +kernel
theorem dX8_count_36 : decode cX8_count 36 = .ok (.iconst 2, 1) := by decide +kernel
theorem dX8_count_37 : decode cX8_count 37 = .ok (.if_icmp .ne 18, 3) := by decide +kernel
theorem dX8_count_40 : decode cX8_count 40 = .ok (.aload_n 0, 1) := by decide +kernel
theorem dX8_count_41 : decode cX8_count 41 = .ok (.getfield 22, 3) := by decide +kernel
theorem dX8_count_44 : decode cX8_count 44 = .ok (.iload_n 3, 1) := by decide +kernel
theorem dX8_count_45 : decode cX8_count 45 = .ok (.baload, 1) := by decide +kernel
theorem dX8_count_46 : decode cX8_count 46 = .ok (.ifCond .eq 9, 3) := by decide +kernel
theorem dX8_count_49 : decode cX8_count 49 = .ok (.iload_n 2, 1) := by decide +kernel
theorem dX8_count_50 : decode cX8_count 50 = .ok (.iconst 1, 1) := by decide +kernel
theorem dX8_count_51 : decode cX8_count 51 = .ok (.iadd, 1) := by decide +kernel
theorem dX8_count_52 : decode cX8_count 52 = .ok (.goto 4, 3) := by decide +kernel
theorem dX8_count_55 : decode cX8_count 55 = .ok (.iload_n 2, 1) := by decide +kernel
theorem dX8_count_56 : decode cX8_count 56 = .ok (.istore_n 2, 1) := by decide +kernel
theorem dX8_count_57 : decode cX8_count 57 = .ok (.iinc 3 1, 3) := by decide +kernel
theorem dX8_count_60 : decode cX8_count 60 = .ok (.goto (-38), 3) := by decide +kernel
theorem dX8_count_63 : decode cX8_count 63 = .ok (.iload_n 1, 1) := by decide +kernel
theorem dX8_count_64 : decode cX8_count 64 = .ok (.tableswitch 85 0 7 #[48, 53, 58, 63, 68, 73, 78, 80], 48) := by decide +kernel
theorem dX8_count_112 : decode cX8_count 112 = .ok (.aload_n 0, 1) := by decide +kernel
theorem dX8_count_113 : decode cX8_count 113 = .ok (.getfield 76, 3) := by decide +kernel
theorem dX8_count_116 : decode cX8_count 116 = .ok (.ireturn, 1) := by decide +kernel
theorem dX8_count_117 : decode cX8_count 117 = .ok (.aload_n 0, 1) := by decide +kernel
theorem dX8_count_118 : decode cX8_count 118 = .ok (.getfield 102, 3) := by decide +kernel
theorem dX8_count_121 : decode cX8_count 121 = .ok (.ireturn, 1) := by decide +kernel
theorem dX8_count_122 : decode cX8_count 122 = .ok (.aload_n 0, 1) := by decide +kernel
theorem dX8_count_123 : decode cX8_count 123 = .ok (.getfield 105, 3) := by decide +kernel
theorem dX8_count_126 : decode cX8_count 126 = .ok (.ireturn, 1) := by decide +kernel
theorem dX8_count_127 : decode cX8_count 127 = .ok (.aload_n 0, 1) := by decide +kernel
theorem dX8_count_128 : decode cX8_count 128 = .ok (.getfield 108, 3) := by decide +kernel
theorem dX8_count_131 : decode cX8_count 131 = .ok (.ireturn, 1) := by decide +kernel
theorem dX8_count_132 : decode cX8_count 132 = .ok (.aload_n 0, 1) := by decide +kernel
theorem dX8_count_133 : decode cX8_count 133 = .ok (.getfield 91, 3) := by decide +kernel
theorem dX8_count_136 : decode cX8_count 136 = .ok (.ireturn, 1) := by decide +kernel
theorem dX8_count_137 : decode cX8_count 137 = .ok (.aload_n 0, 1) := by decide +kernel
theorem dX8_count_138 : decode cX8_count 138 = .ok (.getfield 136, 3) := by decide +kernel
theorem dX8_count_141 : decode cX8_count 141 = .ok (.ireturn, 1) := by decide +kernel
theorem dX8_count_142 : decode cX8_count 142 = .ok (.iload_n 2, 1) := by decide +kernel
theorem dX8_count_143 : decode cX8_count 143 = .ok (.ireturn, 1) := by decide +kernel
theorem dX8_count_144 : decode cX8_count 144 = .ok (.aload_n 0, 1) := by decide +kernel
theorem dX8_count_145 : decode cX8_count 145 = .ok (.getfield 178, 3) := by decide +kernel
theorem dX8_count_148 : decode cX8_count 148 = .ok (.ireturn, 1) := by decide +kernel
theorem dX8_count_149 : decode cX8_count 149 = .ok (.iconst 0, 1) := by decide +kernel
theorem dX8_count_150 : decode cX8_count 150 = .ok (.ireturn, 1) := by decide +kernel
theorem dX8_clear_0 : decode cX8_clear 0 = .ok (.aload_n 0, 1) := by decide +kernel
theorem dX8_clear_1 : decode cX8_clear 1 = .ok (.iconst 0, 1) := by decide +kernel
theorem dX8_clear_2 : decode cX8_clear 2 = .ok (.putfield 72, 3) := by decide +kernel
theorem dX8_clear_5 : decode cX8_clear 5 = .ok (.aload_n 0, 1) := by decide +kernel
theorem dX8_clear_6 : decode cX8_clear 6 = .ok (.iconst 1, 1) := by decide +kernel
theorem dX8_clear_7 : decode cX8_clear 7 = .ok (.putfield 76, 3) := by decide +kernel
theorem dX8_clear_10 : decode cX8_clear 10 = .ok (.aload_n 0, 1) := by decide +kernel
theorem dX8_clear_11 : decode cX8_clear 11 = .ok (.getfield 7, 3) := by decide +kernel
theorem dX8_clear_14 : decode cX8_clear 14 = .ok (.iconst 0, 1) := by decide +kernel
theorem dX8_clear_15 : decode cX8_clear 15 = .ok (.iconst 0, 1) := by decide +kernel
theorem dX8_clear_16 : decode cX8_clear 16 = .ok (.iastore, 1) := by decide +kernel
theorem dX8_clear_17 : decode cX8_clear 17 = .ok (.aload_n 0, 1) := by decide +kernel
theorem dX8_clear_18 : decode cX8_clear 18 = .ok (.getfield 19, 3) := by decide +kernel
theorem dX8_clear_21 : decode cX8_clear 21 = .ok (.iconst 0, 1) := by decide +kernel
theorem dX8_clear_22 : decode cX8_clear 22 = .ok (.iconst 0, 1) := by decide +kernel
theorem dX8_clear_23 : decode cX8_clear 23 = .ok (.iastore, 1) := by decide +kernel
theorem dX8_clear_24 : decode cX8_clear 24 = .ok (.aload_n 0, 1) := by decide +kernel
theorem dX8_clear_25 : decode cX8_clear 25 = .ok (.iconst 0, 1) := by decide +kernel
theorem dX8_clear_26 : decode cX8_clear 26 = .ok (.putfield 102, 3) := by decide +kernel
theorem dX8_clear_29 : decode cX8_clear 29 = .ok (.aload_n 0, 1) := by decide +kernel
theorem dX8_clear_30 : decode cX8_clear 30 = .ok (.iconst 0, 1) := by decide +kernel
theorem dX8_clear_31 : decode cX8_clear 31 = .ok (.putfield 105, 3) := by decide +kernel
theorem dX8_clear_34 : decode cX8_clear 34 = .ok (.aload_n 0, 1) := by decide +kernel
theorem dX8_clear_35 : decode cX8_clear 35 = .ok (.iconst 0, 1) := by decide +kernel
theorem dX8_clear_36 : decode cX8_clear 36 = .ok (.putfield 108, 3) := by decide +kernel
theorem dX8_clear_39 : decode cX8_clear 39 = .ok (.aload_n 0, 1) := by decide +kernel
theorem dX8_clear_40 : decode cX8_clear 40 = .ok (.iconst 0, 1) := by decide +kernel
theorem dX8_clear_41 : decode cX8_clear 41 = .ok (.putfield 91, 3) := by decide +kernel
theorem dX8_clear_44 : decode cX8_clear 44 = .ok (.aload_n 0, 1) := by decide +kernel
theorem dX8_clear_45 : decode cX8_clear 45 = .ok (.iconst 0, 1) := by decide +kernel
theorem dX8_clear_46 : decode cX8_clear 46 = .ok (.putfield 136, 3) := by decide +kernel
theorem dX8_clear_49 : decode cX8_clear 49 = .ok (.aload_n 0, 1) := by decide +kernel
theorem dX8_clear_50 : decode cX8_clear 50 = .ok (.iconst 0, 1) := by decide +kernel
theorem dX8_clear_51 : decode cX8_clear 51 = .ok (.putfield 178, 3) := by decide +kernel
theorem dX8_clear_54 : decode cX8_clear 54 = .ok (.aload_n 0, 1) := by decide +kernel
theorem dX8_clear_55 : decode cX8_clear 55 = .ok (.iconst 0, 1) := by decide +kernel
theorem dX8_clear_56 : decode cX8_clear 56 = .ok (.putfield 98, 3) := by decide +kernel
theorem dX8_clear_59 : decode cX8_clear 59 = .ok (.return_, 1) := by decide +kernel
theorem dJ9_abs_0f7a4_0 : decode cJ9_abs_0f7a4 0 = .ok (.iload_n 0, 1) := by decide +kernel
theorem dJ9_abs_0f7a4_1 : decode cJ9_abs_0f7a4 1 = .ok (.ifCond .ge 8, 3) := by decide +kernel
theorem dJ9_abs_0f7a4_4 : decode cJ9_abs_0f7a4 4 = .ok (.iload_n 0, 1) := by decide +kernel
theorem dJ9_abs_0f7a4_5 : decode cJ9_abs_0f7a4 5 = .ok (.ineg, 1) := by decide +kernel
theorem dJ9_abs_0f7a4_6 : decode cJ9_abs_0f7a4 6 = .ok (.goto 4, 3) := by decide +kernel
theorem dJ9_abs_0f7a4_9 : decode cJ9_abs_0f7a4 9 = .ok (.iload_n 0, 1) := by decide +kernel
theorem dJ9_abs_0f7a4_10 : decode cJ9_abs_0f7a4 10 = .ok (.ireturn, 1) := by decide +kernel
theorem dL_input_0 : decode cL_input 0 = .ok (.aload_n 1, 1) := by decide +kernel
theorem dL_input_1 : decode cL_input 1 = .ok (.iconst 0, 1) := by decide +kernel
theorem dL_input_2 : decode cL_input 2 = .ok (.aload_n 0, 1) := by decide +kernel
theorem dL_input_3 : decode cL_input 3 = .ok (.invokevirtual 7, 3) := by decide +kernel
theorem dL_input_6 : decode cL_input 6 = .ok (.i2l, 1) := by decide +kernel
theorem dL_input_7 : decode cL_input 7 = .ok (.lastore, 1) := by decide +kernel
theorem dL_input_8 : decode cL_input 8 = .ok (.goto 6, 3) := by decide +kernel
theorem dL_input_11 : decode cL_input 11 = .ok (.astore_n 2, 1) := by decide +kernel
theorem dL_input_12 : decode cL_input 12 = .ok (.iconst 1, 1) := by decide +kernel
theorem dL_input_13 : decode cL_input 13 = .ok (.ireturn, 1) := by decide +kernel
theorem dL_input_14 : decode cL_input 14 = .ok (.iconst 0, 1) := by decide +kernel
theorem dL_input_15 : decode cL_input 15 = .ok (.ireturn, 1) := by decide +kernel
theorem dL_old_0 : decode cL_old 0 = .ok (.aload_n 3, 1) := by decide +kernel
theorem dL_old_1 : decode cL_old 1 = .ok (.iconst 0, 1) := by decide +kernel
theorem dL_old_2 : decode cL_old 2 = .ok (.aload_n 0, 1) := by decide +kernel
theorem dL_old_3 : decode cL_old 3 = .ok (.iload_n 1, 1) := by decide +kernel
theorem dL_old_4 : decode cL_old 4 = .ok (.iload_n 2, 1) := by decide +kernel
theorem dL_old_5 : decode cL_old 5 = .ok (.invokevirtual 15, 3) := by decide +kernel
theorem dL_old_8 : decode cL_old 8 = .ok (.i2l, 1) := by decide +kernel
theorem dL_old_9 : decode cL_old 9 = .ok (.lastore, 1) := by decide +kernel
theorem dL_old_10 : decode cL_old 10 = .ok (.goto 15, 3) := by decide +kernel
theorem dL_old_13 : decode cL_old 13 = .ok (.astore 4, 2) := by decide +kernel
theorem dL_old_15 : decode cL_old 15 = .ok (.iconst 1, 1) := by decide +kernel
theorem dL_old_16 : decode cL_old 16 = .ok (.ireturn, 1) := by decide +kernel
theorem dL_old_17 : decode cL_old 17 = .ok (.astore 4, 2) := by decide +kernel
theorem dL_old_19 : decode cL_old 19 = .ok (.iconst 2, 1) := by decide +kernel
theorem dL_old_20 : decode cL_old 20 = .ok (.ireturn, 1) := by decide +kernel
theorem dL_old_21 : decode cL_old 21 = .ok (.astore 4, 2) := by decide +kernel
theorem dL_old_23 : decode cL_old 23 = .ok (.iconst 3, 1) := by decide +kernel
theorem dL_old_24 : decode cL_old 24 = .ok (.ireturn, 1) := by decide +kernel
theorem dL_old_25 : decode cL_old 25 = .ok (.iconst 0, 1) := by decide +kernel
theorem dL_old_26 : decode cL_old 26 = .ok (.ireturn, 1) := by decide +kernel
theorem dL_asked_0 : decode cL_asked 0 = .ok (.aload_n 3, 1) := by decide +kernel
theorem dL_asked_1 : decode cL_asked 1 = .ok (.iconst 0, 1) := by decide +kernel
theorem dL_asked_2 : decode cL_asked 2 = .ok (.aload_n 0, 1) := by decide +kernel
theorem dL_asked_3 : decode cL_asked 3 = .ok (.iload_n 1, 1) := by decide +kernel
theorem dL_asked_4 : decode cL_asked 4 = .ok (.iload_n 2, 1) := by decide +kernel
theorem dL_asked_5 : decode cL_asked 5 = .ok (.invokevirtual 23, 3) := by decide +kernel
theorem dL_asked_8 : decode cL_asked 8 = .ok (.i2l, 1) := by decide +kernel
theorem dL_asked_9 : decode cL_asked 9 = .ok (.lastore, 1) := by decide +kernel
theorem dL_asked_10 : decode cL_asked 10 = .ok (.goto 15, 3) := by decide +kernel
theorem dL_asked_13 : decode cL_asked 13 = .ok (.astore 4, 2) := by decide +kernel
theorem dL_asked_15 : decode cL_asked 15 = .ok (.iconst 1, 1) := by decide +kernel
theorem dL_asked_16 : decode cL_asked 16 = .ok (.ireturn, 1) := by decide +kernel
theorem dL_asked_17 : decode cL_asked 17 = .ok (.astore 4, 2) := by decide +kernel
theorem dL_asked_19 : decode cL_asked 19 = .ok (.iconst 2, 1) := by decide +kernel
theorem dL_asked_20 : decode cL_asked 20 = .ok (.ireturn, 1) := by decide +kernel
theorem dL_asked_21 : decode cL_asked 21 = .ok (.astore 4, 2) := by decide +kernel
theorem dL_asked_23 : decode cL_asked 23 = .ok (.iconst 3, 1) := by decide +kernel
theorem dL_asked_24 : decode cL_asked 24 = .ok (.ireturn, 1) := by decide +kernel
theorem dL_asked_25 : decode cL_asked 25 = .ok (.iconst 0, 1) := by decide +kernel
theorem dL_asked_26 : decode cL_asked 26 = .ok (.ireturn, 1) := by decide +kernel
theorem dL_output_0 : decode cL_output 0 = .ok (.aload_n 3, 1) := by decide +kernel
theorem dL_output_1 : decode cL_output 1 = .ok (.iconst 0, 1) := by decide +kernel
theorem dL_output_2 : decode cL_output 2 = .ok (.aload_n 0, 1) := by decide +kernel
theorem dL_output_3 : decode cL_output 3 = .ok (.iload_n 1, 1) := by decide +kernel
theorem dL_output_4 : decode cL_output 4 = .ok (.iload_n 2, 1) := by decide +kernel
theorem dL_output_5 : decode cL_output 5 = .ok (.invokevirtual 26, 3) := by decide +kernel
theorem dL_output_8 : decode cL_output 8 = .ok (.i2l, 1) := by decide +kernel
theorem dL_output_9 : decode cL_output 9 = .ok (.lastore, 1) := by decide +kernel
theorem dL_output_10 : decode cL_output 10 = .ok (.goto 15, 3) := by decide +kernel
theorem dL_output_13 : decode cL_output 13 = .ok (.astore 4, 2) := by decide +kernel
theorem dL_output_15 : decode cL_output 15 = .ok (.iconst 1, 1) := by decide +kernel
theorem dL_output_16 : decode cL_output 16 = .ok (.ireturn, 1) := by decide +kernel
theorem dL_output_17 : decode cL_output 17 = .ok (.astore 4, 2) := by decide +kernel
theorem dL_output_19 : decode cL_output 19 = .ok (.iconst 2, 1) := by decide +kernel
theorem dL_output_20 : decode cL_output 20 = .ok (.ireturn, 1) := by decide +kernel
theorem dL_output_21 : decode cL_output 21 = .ok (.astore 4, 2) := by decide +kernel
theorem dL_output_23 : decode cL_output 23 = .ok (.iconst 3, 1) := by decide +kernel
theorem dL_output_24 : decode cL_output 24 = .ok (.ireturn, 1) := by decide +kernel
theorem dL_output_25 : decode cL_output 25 = .ok (.iconst 0, 1) := by decide +kernel
theorem dL_output_26 : decode cL_output 26 = .ok (.ireturn, 1) := by decide +kernel
theorem dL_value_0 : decode cL_value 0 = .ok (.aload_n 3, 1) := by decide +kernel
theorem dL_value_1 : decode cL_value 1 = .ok (.iconst 0, 1) := by decide +kernel
theorem dL_value_2 : decode cL_value 2 = .ok (.aload_n 0, 1) := by decide +kernel
theorem dL_value_3 : decode cL_value 3 = .ok (.iload_n 1, 1) := by decide +kernel
theorem dL_value_4 : decode cL_value 4 = .ok (.iload_n 2, 1) := by decide +kernel
theorem dL_value_5 : decode cL_value 5 = .ok (.invokevirtual 29, 3) := by decide +kernel
theorem dL_value_8 : decode cL_value 8 = .ok (.i2l, 1) := by decide +kernel
theorem dL_value_9 : decode cL_value 9 = .ok (.lastore, 1) := by decide +kernel
theorem dL_value_10 : decode cL_value 10 = .ok (.goto 7, 3) := by decide +kernel
theorem dL_value_13 : decode cL_value 13 = .ok (.astore 4, 2) := by decide +kernel
theorem dL_value_15 : decode cL_value 15 = .ok (.iconst 1, 1) := by decide +kernel
theorem dL_value_16 : decode cL_value 16 = .ok (.ireturn, 1) := by decide +kernel
theorem dL_value_17 : decode cL_value 17 = .ok (.iconst 0, 1) := by decide +kernel
theorem dL_value_18 : decode cL_value 18 = .ok (.ireturn, 1) := by decide +kernel
theorem dL_witness_0 : decode cL_witness 0 = .ok (.aload_n 2, 1) := by decide +kernel
theorem dL_witness_1 : decode cL_witness 1 = .ok (.iconst 0, 1) := by decide +kernel
theorem dL_witness_2 : decode cL_witness 2 = .ok (.aload_n 0, 1) := by decide +kernel
theorem dL_witness_3 : decode cL_witness 3 = .ok (.iload_n 1, 1) := by decide +kernel
theorem dL_witness_4 : decode cL_witness 4 = .ok (.invokevirtual 32, 3) := by decide +kernel
theorem dL_witness_7 : decode cL_witness 7 = .ok (.i2l, 1) := by decide +kernel
theorem dL_witness_8 : decode cL_witness 8 = .ok (.lastore, 1) := by decide +kernel
theorem dL_witness_9 : decode cL_witness 9 = .ok (.goto 6, 3) := by decide +kernel
theorem dL_witness_12 : decode cL_witness 12 = .ok (.astore_n 3, 1) := by decide +kernel
theorem dL_witness_13 : decode cL_witness 13 = .ok (.iconst 1, 1) := by decide +kernel
theorem dL_witness_14 : decode cL_witness 14 = .ok (.ireturn, 1) := by decide +kernel
theorem dL_witness_15 : decode cL_witness 15 = .ok (.iconst 0, 1) := by decide +kernel
theorem dL_witness_16 : decode cL_witness 16 = .ok (.ireturn, 1) := by decide +kernel
theorem dL_matched_0 : decode cL_matched 0 = .ok (.aload_n 2, 1) := by decide +kernel
theorem dL_matched_1 : decode cL_matched 1 = .ok (.iconst 0, 1) := by decide +kernel
theorem dL_matched_2 : decode cL_matched 2 = .ok (.aload_n 0, 1) := by decide +kernel
theorem dL_matched_3 : decode cL_matched 3 = .ok (.iload_n 1, 1) := by decide +kernel
theorem dL_matched_4 : decode cL_matched 4 = .ok (.invokevirtual 36, 3) := by decide +kernel
theorem dL_matched_7 : decode cL_matched 7 = .ok (.i2l, 1) := by decide +kernel
theorem dL_matched_8 : decode cL_matched 8 = .ok (.lastore, 1) := by decide +kernel
theorem dL_matched_9 : decode cL_matched 9 = .ok (.goto 6, 3) := by decide +kernel
theorem dL_matched_12 : decode cL_matched 12 = .ok (.astore_n 3, 1) := by decide +kernel
theorem dL_matched_13 : decode cL_matched 13 = .ok (.iconst 1, 1) := by decide +kernel
theorem dL_matched_14 : decode cL_matched 14 = .ok (.ireturn, 1) := by decide +kernel
theorem dL_matched_15 : decode cL_matched 15 = .ok (.iconst 0, 1) := by decide +kernel
theorem dL_matched_16 : decode cL_matched 16 = .ok (.ireturn, 1) := by decide +kernel
theorem dL_keep_0 : decode cL_keep 0 = .ok (.aload_n 3, 1) := by decide +kernel
theorem dL_keep_1 : decode cL_keep 1 = .ok (.iconst 0, 1) := by decide +kernel
theorem dL_keep_2 : decode cL_keep 2 = .ok (.aload_n 0, 1) := by decide +kernel
theorem dL_keep_3 : decode cL_keep 3 = .ok (.iload_n 1, 1) := by decide +kernel
theorem dL_keep_4 : decode cL_keep 4 = .ok (.iload_n 2, 1) := by decide +kernel
theorem dL_keep_5 : decode cL_keep 5 = .ok (.invokevirtual 39, 3) := by decide +kernel
theorem dL_keep_8 : decode cL_keep 8 = .ok (.ifCond .eq 7, 3) := by decide +kernel
theorem dL_keep_11 : decode cL_keep 11 = .ok (.lconst 1, 1) := by decide +kernel
theorem dL_keep_12 : decode cL_keep 12 = .ok (.goto 4, 3) := by decide +kernel
theorem dL_keep_15 : decode cL_keep 15 = .ok (.lconst 0, 1) := by decide +kernel
theorem dL_keep_16 : decode cL_keep 16 = .ok (.lastore, 1) := by decide +kernel
theorem dL_keep_17 : decode cL_keep 17 = .ok (.goto 7, 3) := by decide +kernel
theorem dL_keep_20 : decode cL_keep 20 = .ok (.astore 4, 2) := by decide +kernel
theorem dL_keep_22 : decode cL_keep 22 = .ok (.iconst 1, 1) := by decide +kernel
theorem dL_keep_23 : decode cL_keep 23 = .ok (.ireturn, 1) := by decide +kernel
theorem dL_keep_24 : decode cL_keep 24 = .ok (.iconst 0, 1) := by decide +kernel
theorem dL_keep_25 : decode cL_keep 25 = .ok (.ireturn, 1) := by decide +kernel
theorem dL_place_0 : decode cL_place 0 = .ok (.aload 6, 2) := by decide +kernel
theorem dL_place_2 : decode cL_place 2 = .ok (.iconst 0, 1) := by decide +kernel
theorem dL_place_3 : decode cL_place 3 = .ok (.aload_n 0, 1) := by decide +kernel
theorem dL_place_4 : decode cL_place 4 = .ok (.iload_n 1, 1) := by decide +kernel
theorem dL_place_5 : decode cL_place 5 = .ok (.lload_n 2, 1) := by decide +kernel
theorem dL_place_6 : decode cL_place 6 = .ok (.lload 4, 2) := by decide +kernel
theorem dL_place_8 : decode cL_place 8 = .ok (.invokevirtual 43, 3) := by decide +kernel
theorem dL_place_11 : decode cL_place 11 = .ok (.ifCond .eq 7, 3) := by decide +kernel
theorem dL_place_14 : decode cL_place 14 = .ok (.lconst 1, 1) := by decide +kernel
theorem dL_place_15 : decode cL_place 15 = .ok (.goto 4, 3) := by decide +kernel
theorem dL_place_18 : decode cL_place 18 = .ok (.lconst 0, 1) := by decide +kernel
theorem dL_place_19 : decode cL_place 19 = .ok (.lastore, 1) := by decide +kernel
theorem dL_place_20 : decode cL_place 20 = .ok (.goto 11, 3) := by decide +kernel
theorem dL_place_23 : decode cL_place 23 = .ok (.astore 7, 2) := by decide +kernel
theorem dL_place_25 : decode cL_place 25 = .ok (.iconst 1, 1) := by decide +kernel
theorem dL_place_26 : decode cL_place 26 = .ok (.ireturn, 1) := by decide +kernel
theorem dL_place_27 : decode cL_place 27 = .ok (.astore 7, 2) := by decide +kernel
theorem dL_place_29 : decode cL_place 29 = .ok (.iconst 2, 1) := by decide +kernel
theorem dL_place_30 : decode cL_place 30 = .ok (.ireturn, 1) := by decide +kernel
theorem dL_place_31 : decode cL_place 31 = .ok (.iconst 0, 1) := by decide +kernel
theorem dL_place_32 : decode cL_place 32 = .ok (.ireturn, 1) := by decide +kernel
theorem dL_spare_0 : decode cL_spare 0 = .ok (.aload 5, 2) := by decide +kernel
theorem dL_spare_2 : decode cL_spare 2 = .ok (.iconst 0, 1) := by decide +kernel
theorem dL_spare_3 : decode cL_spare 3 = .ok (.aload_n 0, 1) := by decide +kernel
theorem dL_spare_4 : decode cL_spare 4 = .ok (.lload_n 1, 1) := by decide +kernel
theorem dL_spare_5 : decode cL_spare 5 = .ok (.lload_n 3, 1) := by decide +kernel
theorem dL_spare_6 : decode cL_spare 6 = .ok (.invokevirtual 47, 3) := by decide +kernel
theorem dL_spare_9 : decode cL_spare 9 = .ok (.i2l, 1) := by decide +kernel
theorem dL_spare_10 : decode cL_spare 10 = .ok (.lastore, 1) := by decide +kernel
theorem dL_spare_11 : decode cL_spare 11 = .ok (.goto 11, 3) := by decide +kernel
theorem dL_spare_14 : decode cL_spare 14 = .ok (.astore 6, 2) := by decide +kernel
theorem dL_spare_16 : decode cL_spare 16 = .ok (.iconst 1, 1) := by decide +kernel
theorem dL_spare_17 : decode cL_spare 17 = .ok (.ireturn, 1) := by decide +kernel
theorem dL_spare_18 : decode cL_spare 18 = .ok (.astore 6, 2) := by decide +kernel
theorem dL_spare_20 : decode cL_spare 20 = .ok (.iconst 2, 1) := by decide +kernel
theorem dL_spare_21 : decode cL_spare 21 = .ok (.ireturn, 1) := by decide +kernel
theorem dL_spare_22 : decode cL_spare 22 = .ok (.iconst 0, 1) := by decide +kernel
theorem dL_spare_23 : decode cL_spare 23 = .ok (.ireturn, 1) := by decide +kernel
theorem dL_run_0 : decode cL_run 0 = .ok (.aload_n 2, 1) := by decide +kernel
theorem dL_run_1 : decode cL_run 1 = .ok (.iconst 0, 1) := by decide +kernel
theorem dL_run_2 : decode cL_run 2 = .ok (.aload_n 0, 1) := by decide +kernel
theorem dL_run_3 : decode cL_run 3 = .ok (.iload_n 1, 1) := by decide +kernel
theorem dL_run_4 : decode cL_run 4 = .ok (.invokevirtual 51, 3) := by decide +kernel
theorem dL_run_7 : decode cL_run 7 = .ok (.i2l, 1) := by decide +kernel
theorem dL_run_8 : decode cL_run 8 = .ok (.lastore, 1) := by decide +kernel
theorem dL_run_9 : decode cL_run 9 = .ok (.goto 6, 3) := by decide +kernel
theorem dL_run_12 : decode cL_run 12 = .ok (.astore_n 3, 1) := by decide +kernel
theorem dL_run_13 : decode cL_run 13 = .ok (.iconst 1, 1) := by decide +kernel
theorem dL_run_14 : decode cL_run 14 = .ok (.ireturn, 1) := by decide +kernel
theorem dL_run_15 : decode cL_run 15 = .ok (.iconst 0, 1) := by decide +kernel
theorem dL_run_16 : decode cL_run 16 = .ok (.ireturn, 1) := by decide +kernel
theorem dL_edit_0 : decode cL_edit 0 = .ok (.aload_n 3, 1) := by decide +kernel
theorem dL_edit_1 : decode cL_edit 1 = .ok (.iconst 0, 1) := by decide +kernel
theorem dL_edit_2 : decode cL_edit 2 = .ok (.aload_n 0, 1) := by decide +kernel
theorem dL_edit_3 : decode cL_edit 3 = .ok (.iload_n 1, 1) := by decide +kernel
theorem dL_edit_4 : decode cL_edit 4 = .ok (.iload_n 2, 1) := by decide +kernel
theorem dL_edit_5 : decode cL_edit 5 = .ok (.invokevirtual 54, 3) := by decide +kernel
theorem dL_edit_8 : decode cL_edit 8 = .ok (.i2l, 1) := by decide +kernel
theorem dL_edit_9 : decode cL_edit 9 = .ok (.lastore, 1) := by decide +kernel
theorem dL_edit_10 : decode cL_edit 10 = .ok (.goto 11, 3) := by decide +kernel
theorem dL_edit_13 : decode cL_edit 13 = .ok (.astore 4, 2) := by decide +kernel
theorem dL_edit_15 : decode cL_edit 15 = .ok (.iconst 1, 1) := by decide +kernel
theorem dL_edit_16 : decode cL_edit 16 = .ok (.ireturn, 1) := by decide +kernel
theorem dL_edit_17 : decode cL_edit 17 = .ok (.astore 4, 2) := by decide +kernel
theorem dL_edit_19 : decode cL_edit 19 = .ok (.iconst 2, 1) := by decide +kernel
theorem dL_edit_20 : decode cL_edit 20 = .ok (.ireturn, 1) := by decide +kernel
theorem dL_edit_21 : decode cL_edit 21 = .ok (.iconst 0, 1) := by decide +kernel
theorem dL_edit_22 : decode cL_edit 22 = .ok (.ireturn, 1) := by decide +kernel
theorem dL_used_0 : decode cL_used 0 = .ok (.aload_n 2, 1) := by decide +kernel
theorem dL_used_1 : decode cL_used 1 = .ok (.iconst 0, 1) := by decide +kernel
theorem dL_used_2 : decode cL_used 2 = .ok (.aload_n 0, 1) := by decide +kernel
theorem dL_used_3 : decode cL_used 3 = .ok (.iload_n 1, 1) := by decide +kernel
theorem dL_used_4 : decode cL_used 4 = .ok (.invokevirtual 57, 3) := by decide +kernel
theorem dL_used_7 : decode cL_used 7 = .ok (.i2l, 1) := by decide +kernel
theorem dL_used_8 : decode cL_used 8 = .ok (.lastore, 1) := by decide +kernel
theorem dL_used_9 : decode cL_used 9 = .ok (.goto 9, 3) := by decide +kernel
theorem dL_used_12 : decode cL_used 12 = .ok (.astore_n 3, 1) := by decide +kernel
theorem dL_used_13 : decode cL_used 13 = .ok (.iconst 1, 1) := by decide +kernel
theorem dL_used_14 : decode cL_used 14 = .ok (.ireturn, 1) := by decide +kernel
theorem dL_used_15 : decode cL_used 15 = .ok (.astore_n 3, 1) := by decide +kernel
theorem dL_used_16 : decode cL_used 16 = .ok (.iconst 2, 1) := by decide +kernel
theorem dL_used_17 : decode cL_used 17 = .ok (.ireturn, 1) := by decide +kernel
theorem dL_used_18 : decode cL_used 18 = .ok (.iconst 0, 1) := by decide +kernel
theorem dL_used_19 : decode cL_used 19 = .ok (.ireturn, 1) := by decide +kernel
theorem dL_length_0 : decode cL_length 0 = .ok (.aload_n 1, 1) := by decide +kernel
theorem dL_length_1 : decode cL_length 1 = .ok (.iconst 0, 1) := by decide +kernel
theorem dL_length_2 : decode cL_length 2 = .ok (.aload_n 0, 1) := by decide +kernel
theorem dL_length_3 : decode cL_length 3 = .ok (.invokevirtual 60, 3) := by decide +kernel
theorem dL_length_6 : decode cL_length 6 = .ok (.i2l, 1) := by decide +kernel
theorem dL_length_7 : decode cL_length 7 = .ok (.lastore, 1) := by decide +kernel
theorem dL_length_8 : decode cL_length 8 = .ok (.goto 6, 3) := by decide +kernel
theorem dL_length_11 : decode cL_length 11 = .ok (.astore_n 2, 1) := by decide +kernel
theorem dL_length_12 : decode cL_length 12 = .ok (.iconst 1, 1) := by decide +kernel
theorem dL_length_13 : decode cL_length 13 = .ok (.ireturn, 1) := by decide +kernel
theorem dL_length_14 : decode cL_length 14 = .ok (.iconst 0, 1) := by decide +kernel
theorem dL_length_15 : decode cL_length 15 = .ok (.ireturn, 1) := by decide +kernel
theorem dL_make_0 : decode cL_make 0 = .ok (.aload_n 1, 1) := by decide +kernel
theorem dL_make_1 : decode cL_make 1 = .ok (.iconst 0, 1) := by decide +kernel
theorem dL_make_2 : decode cL_make 2 = .ok (.aload_n 0, 1) := by decide +kernel
theorem dL_make_3 : decode cL_make 3 = .ok (.invokevirtual 63, 3) := by decide +kernel
theorem dL_make_6 : decode cL_make 6 = .ok (.i2l, 1) := by decide +kernel
theorem dL_make_7 : decode cL_make 7 = .ok (.lastore, 1) := by decide +kernel
theorem dL_make_8 : decode cL_make 8 = .ok (.goto 6, 3) := by decide +kernel
theorem dL_make_11 : decode cL_make 11 = .ok (.astore_n 2, 1) := by decide +kernel
theorem dL_make_12 : decode cL_make 12 = .ok (.iconst 1, 1) := by decide +kernel
theorem dL_make_13 : decode cL_make 13 = .ok (.ireturn, 1) := by decide +kernel
theorem dL_make_14 : decode cL_make 14 = .ok (.iconst 0, 1) := by decide +kernel
theorem dL_make_15 : decode cL_make 15 = .ok (.ireturn, 1) := by decide +kernel
theorem dL_literal_0 : decode cL_literal 0 = .ok (.aload_n 3, 1) := by decide +kernel
theorem dL_literal_1 : decode cL_literal 1 = .ok (.iconst 0, 1) := by decide +kernel
theorem dL_literal_2 : decode cL_literal 2 = .ok (.aload_n 0, 1) := by decide +kernel
theorem dL_literal_3 : decode cL_literal 3 = .ok (.iload_n 1, 1) := by decide +kernel
theorem dL_literal_4 : decode cL_literal 4 = .ok (.iload_n 2, 1) := by decide +kernel
theorem dL_literal_5 : decode cL_literal 5 = .ok (.invokevirtual 66, 3) := by decide +kernel
theorem dL_literal_8 : decode cL_literal 8 = .ok (.i2l, 1) := by decide +kernel
theorem dL_literal_9 : decode cL_literal 9 = .ok (.lastore, 1) := by decide +kernel
theorem dL_literal_10 : decode cL_literal 10 = .ok (.goto 7, 3) := by decide +kernel
theorem dL_literal_13 : decode cL_literal 13 = .ok (.astore 4, 2) := by decide +kernel
theorem dL_literal_15 : decode cL_literal 15 = .ok (.iconst 1, 1) := by decide +kernel
theorem dL_literal_16 : decode cL_literal 16 = .ok (.ireturn, 1) := by decide +kernel
theorem dL_literal_17 : decode cL_literal 17 = .ok (.iconst 0, 1) := by decide +kernel
theorem dL_literal_18 : decode cL_literal 18 = .ok (.ireturn, 1) := by decide +kernel
theorem dL_count_0 : decode cL_count 0 = .ok (.aload_n 2, 1) := by decide +kernel
theorem dL_count_1 : decode cL_count 1 = .ok (.iconst 0, 1) := by decide +kernel
theorem dL_count_2 : decode cL_count 2 = .ok (.aload_n 0, 1) := by decide +kernel
theorem dL_count_3 : decode cL_count 3 = .ok (.iload_n 1, 1) := by decide +kernel
theorem dL_count_4 : decode cL_count 4 = .ok (.invokevirtual 69, 3) := by decide +kernel
theorem dL_count_7 : decode cL_count 7 = .ok (.i2l, 1) := by decide +kernel
theorem dL_count_8 : decode cL_count 8 = .ok (.lastore, 1) := by decide +kernel
theorem dL_count_9 : decode cL_count 9 = .ok (.goto 6, 3) := by decide +kernel
theorem dL_count_12 : decode cL_count 12 = .ok (.astore_n 3, 1) := by decide +kernel
theorem dL_count_13 : decode cL_count 13 = .ok (.iconst 1, 1) := by decide +kernel
theorem dL_count_14 : decode cL_count 14 = .ok (.ireturn, 1) := by decide +kernel
theorem dL_count_15 : decode cL_count 15 = .ok (.iconst 0, 1) := by decide +kernel
theorem dL_count_16 : decode cL_count 16 = .ok (.ireturn, 1) := by decide +kernel
theorem dL_law_0 : decode cL_law 0 = .ok (.new 8, 3) := by decide +kernel
theorem dL_law_3 : decode cL_law 3 = .ok (.dup, 1) := by decide +kernel
theorem dL_law_4 : decode cL_law 4 = .ok (.invokespecial 72, 3) := by decide +kernel
theorem dL_law_7 : decode cL_law 7 = .ok (.astore_n 1, 1) := by decide +kernel
theorem dL_law_8 : decode cL_law 8 = .ok (.new 73, 3) := by decide +kernel
theorem dL_law_11 : decode cL_law 11 = .ok (.dup, 1) := by decide +kernel
theorem dL_law_12 : decode cL_law 12 = .ok (.invokespecial 75, 3) := by decide +kernel
theorem dL_law_15 : decode cL_law 15 = .ok (.astore_n 2, 1) := by decide +kernel
theorem dL_law_16 : decode cL_law 16 = .ok (.iconst 1, 1) := by decide +kernel
theorem dL_law_17 : decode cL_law 17 = .ok (.newarray .long, 2) := by decide +kernel
theorem dL_law_19 : decode cL_law 19 = .ok (.astore_n 3, 1) := by decide +kernel
theorem dL_law_20 : decode cL_law 20 = .ok (.iconst 0, 1) := by decide +kernel
theorem dL_law_21 : decode cL_law 21 = .ok (.istore 4, 2) := by decide +kernel
theorem dL_law_23 : decode cL_law 23 = .ok (.iload 4, 2) := by decide +kernel
theorem dL_law_25 : decode cL_law 25 = .ok (.aload_n 0, 1) := by decide +kernel
theorem dL_law_26 : decode cL_law 26 = .ok (.arraylength, 1) := by decide +kernel
theorem dL_law_27 : decode cL_law 27 = .ok (.bipush 6, 2) := by decide +kernel
theorem dL_law_29 : decode cL_law 29 = .ok (.isub, 1) := by decide +kernel
theorem dL_law_30 : decode cL_law 30 = .ok (.if_icmp .gt 1343, 3) := by decide +kernel
theorem dL_law_33 : decode cL_law 33 = .ok (.aload_n 0, 1) := by decide +kernel
theorem dL_law_34 : decode cL_law 34 = .ok (.iload 4, 2) := by decide +kernel
theorem dL_law_36 : decode cL_law 36 = .ok (.iaload, 1) := by decide +kernel
theorem dL_law_37 : decode cL_law 37 = .ok (.bipush 31, 2) := by decide +kernel
theorem dL_law_39 : decode cL_law 39 = .ok (.iand, 1) := by decide +kernel
theorem dL_law_40 : decode cL_law 40 = .ok (.tableswitch 1327 0 19 #[96, 140, 208, 276, 344, 412, 425, 481, 537, 628, 779, 911, 967, 1035, 1091, 1135, 1179, 1192, 1260, 1316], 96) := by decide +kernel
theorem dL_law_136 : decode cL_law 136 = .ok (.aload_n 1, 1) := by decide +kernel
theorem dL_law_137 : decode cL_law 137 = .ok (.aload_n 3, 1) := by decide +kernel
theorem dL_law_138 : decode cL_law 138 = .ok (.invokestatic 76, 3) := by decide +kernel
theorem dL_law_141 : decode cL_law 141 = .ok (.istore 5, 2) := by decide +kernel
theorem dL_law_143 : decode cL_law 143 = .ok (.aload_n 2, 1) := by decide +kernel
theorem dL_law_144 : decode cL_law 144 = .ok (.invokevirtual 81, 3) := by decide +kernel
theorem dL_law_147 : decode cL_law 147 = .ok (.istore 6, 2) := by decide +kernel
theorem dL_law_149 : decode cL_law 149 = .ok (.aload_n 2, 1) := by decide +kernel
theorem dL_law_150 : decode cL_law 150 = .ok (.invokevirtual 82, 3) := by decide +kernel
theorem dL_law_153 : decode cL_law 153 = .ok (.iload 5, 2) := by decide +kernel
theorem dL_law_155 : decode cL_law 155 = .ok (.if_icmp .eq 5, 3) := by decide +kernel
theorem dL_law_158 : decode cL_law 158 = .ok (.iconst 0, 1) := by decide +kernel
theorem dL_law_159 : decode cL_law 159 = .ok (.ireturn, 1) := by decide +kernel
theorem dL_law_160 : decode cL_law 160 = .ok (.iload 5, 2) := by decide +kernel
theorem dL_law_162 : decode cL_law 162 = .ok (.ifCond .ne 15, 3) := by decide +kernel
theorem dL_law_165 : decode cL_law 165 = .ok (.aload_n 3, 1) := by decide +kernel
theorem dL_law_166 : decode cL_law 166 = .ok (.iconst 0, 1) := by decide +kernel
theorem dL_law_167 : decode cL_law 167 = .ok (.laload, 1) := by decide +kernel
theorem dL_law_168 : decode cL_law 168 = .ok (.iload 6, 2) := by decide +kernel
theorem dL_law_170 : decode cL_law 170 = .ok (.i2l, 1) := by decide +kernel
theorem dL_law_171 : decode cL_law 171 = .ok (.lcmp, 1) := by decide +kernel
theorem dL_law_172 : decode cL_law 172 = .ok (.ifCond .eq 5, 3) := by decide +kernel
theorem dL_law_175 : decode cL_law 175 = .ok (.iconst 0, 1) := by decide +kernel
theorem dL_law_176 : decode cL_law 176 = .ok (.ireturn, 1) := by decide +kernel
theorem dL_law_177 : decode cL_law 177 = .ok (.goto 1190, 3) := by decide +kernel
theorem dL_law_180 : decode cL_law 180 = .ok (.aload_n 1, 1) := by decide +kernel
theorem dL_law_181 : decode cL_law 181 = .ok (.aload_n 0, 1) := by decide +kernel
theorem dL_law_182 : decode cL_law 182 = .ok (.iload 4, 2) := by decide +kernel
theorem dL_law_184 : decode cL_law 184 = .ok (.iconst 1, 1) := by decide +kernel
theorem dL_law_185 : decode cL_law 185 = .ok (.iadd, 1) := by decide +kernel
theorem dL_law_186 : decode cL_law 186 = .ok (.iaload, 1) := by decide +kernel
theorem dL_law_187 : decode cL_law 187 = .ok (.aload_n 0, 1) := by decide +kernel
theorem dL_law_188 : decode cL_law 188 = .ok (.iload 4, 2) := by decide +kernel
theorem dL_law_190 : decode cL_law 190 = .ok (.iconst 2, 1) := by decide +kernel
theorem dL_law_191 : decode cL_law 191 = .ok (.iadd, 1) := by decide +kernel
theorem dL_law_192 : decode cL_law 192 = .ok (.iaload, 1) := by decide +kernel
theorem dL_law_193 : decode cL_law 193 = .ok (.aload_n 3, 1) := by decide +kernel
theorem dL_law_194 : decode cL_law 194 = .ok (.invokestatic 85, 3) := by decide +kernel
theorem dL_law_197 : decode cL_law 197 = .ok (.istore 5, 2) := by decide +kernel
theorem dL_law_199 : decode cL_law 199 = .ok (.aload_n 2, 1) := by decide +kernel
theorem dL_law_200 : decode cL_law 200 = .ok (.aload_n 0, 1) := by decide +kernel
theorem dL_law_201 : decode cL_law 201 = .ok (.iload 4, 2) := by decide +kernel
theorem dL_law_203 : decode cL_law 203 = .ok (.iconst 1, 1) := by decide +kernel
theorem dL_law_204 : decode cL_law 204 = .ok (.iadd, 1) := by decide +kernel
theorem dL_law_205 : decode cL_law 205 = .ok (.iaload, 1) := by decide +kernel
theorem dL_law_206 : decode cL_law 206 = .ok (.aload_n 0, 1) := by decide +kernel
theorem dL_law_207 : decode cL_law 207 = .ok (.iload 4, 2) := by decide +kernel
theorem dL_law_209 : decode cL_law 209 = .ok (.iconst 2, 1) := by decide +kernel
theorem dL_law_210 : decode cL_law 210 = .ok (.iadd, 1) := by decide +kernel
theorem dL_law_211 : decode cL_law 211 = .ok (.iaload, 1) := by decide +kernel
theorem dL_law_212 : decode cL_law 212 = .ok (.invokevirtual 88, 3) := by decide +kernel
theorem dL_law_215 : decode cL_law 215 = .ok (.istore 6, 2) := by decide +kernel
theorem dL_law_217 : decode cL_law 217 = .ok (.aload_n 2, 1) := by decide +kernel
theorem dL_law_218 : decode cL_law 218 = .ok (.invokevirtual 82, 3) := by decide +kernel
theorem dL_law_221 : decode cL_law 221 = .ok (.iload 5, 2) := by decide +kernel
theorem dL_law_223 : decode cL_law 223 = .ok (.if_icmp .eq 5, 3) := by decide +kernel
theorem dL_law_226 : decode cL_law 226 = .ok (.iconst 0, 1) := by decide +kernel
theorem dL_law_227 : decode cL_law 227 = .ok (.ireturn, 1) := by decide +kernel
theorem dL_law_228 : decode cL_law 228 = .ok (.iload 5, 2) := by decide +kernel
theorem dL_law_230 : decode cL_law 230 = .ok (.ifCond .ne 15, 3) := by decide +kernel
theorem dL_law_233 : decode cL_law 233 = .ok (.aload_n 3, 1) := by decide +kernel
theorem dL_law_234 : decode cL_law 234 = .ok (.iconst 0, 1) := by decide +kernel
theorem dL_law_235 : decode cL_law 235 = .ok (.laload, 1) := by decide +kernel
theorem dL_law_236 : decode cL_law 236 = .ok (.iload 6, 2) := by decide +kernel
theorem dL_law_238 : decode cL_law 238 = .ok (.i2l, 1) := by decide +kernel
theorem dL_law_239 : decode cL_law 239 = .ok (.lcmp, 1) := by decide +kernel
theorem dL_law_240 : decode cL_law 240 = .ok (.ifCond .eq 5, 3) := by decide +kernel
theorem dL_law_243 : decode cL_law 243 = .ok (.iconst 0, 1) := by decide +kernel
theorem dL_law_244 : decode cL_law 244 = .ok (.ireturn, 1) := by decide +kernel
theorem dL_law_245 : decode cL_law 245 = .ok (.goto 1122, 3) := by decide +kernel
theorem dL_law_248 : decode cL_law 248 = .ok (.aload_n 1, 1) := by decide +kernel
theorem dL_law_249 : decode cL_law 249 = .ok (.aload_n 0, 1) := by decide +kernel
theorem dL_law_250 : decode cL_law 250 = .ok (.iload 4, 2) := by decide +kernel
theorem dL_law_252 : decode cL_law 252 = .ok (.iconst 1, 1) := by decide +kernel
theorem dL_law_253 : decode cL_law 253 = .ok (.iadd, 1) := by decide +kernel
theorem dL_law_254 : decode cL_law 254 = .ok (.iaload, 1) := by decide +kernel
theorem dL_law_255 : decode cL_law 255 = .ok (.aload_n 0, 1) := by decide +kernel
theorem dL_law_256 : decode cL_law 256 = .ok (.iload 4, 2) := by decide +kernel
theorem dL_law_258 : decode cL_law 258 = .ok (.iconst 2, 1) := by decide +kernel
theorem dL_law_259 : decode cL_law 259 = .ok (.iadd, 1) := by decide +kernel
theorem dL_law_260 : decode cL_law 260 = .ok (.iaload, 1) := by decide +kernel
theorem dL_law_261 : decode cL_law 261 = .ok (.aload_n 3, 1) := by decide +kernel
theorem dL_law_262 : decode cL_law 262 = .ok (.invokestatic 89, 3) := by decide +kernel
theorem dL_law_265 : decode cL_law 265 = .ok (.istore 5, 2) := by decide +kernel
theorem dL_law_267 : decode cL_law 267 = .ok (.aload_n 2, 1) := by decide +kernel
theorem dL_law_268 : decode cL_law 268 = .ok (.aload_n 0, 1) := by decide +kernel
theorem dL_law_269 : decode cL_law 269 = .ok (.iload 4, 2) := by decide +kernel
theorem dL_law_271 : decode cL_law 271 = .ok (.iconst 1, 1) := by decide +kernel
theorem dL_law_272 : decode cL_law 272 = .ok (.iadd, 1) := by decide +kernel
theorem dL_law_273 : decode cL_law 273 = .ok (.iaload, 1) := by decide +kernel
theorem dL_law_274 : decode cL_law 274 = .ok (.aload_n 0, 1) := by decide +kernel
theorem dL_law_275 : decode cL_law 275 = .ok (.iload 4, 2) := by decide +kernel
theorem dL_law_277 : decode cL_law 277 = .ok (.iconst 2, 1) := by decide +kernel
theorem dL_law_278 : decode cL_law 278 = .ok (.iadd, 1) := by decide +kernel
theorem dL_law_279 : decode cL_law 279 = .ok (.iaload, 1) := by decide +kernel
theorem dL_law_280 : decode cL_law 280 = .ok (.invokevirtual 91, 3) := by decide +kernel
theorem dL_law_283 : decode cL_law 283 = .ok (.istore 6, 2) := by decide +kernel
theorem dL_law_285 : decode cL_law 285 = .ok (.aload_n 2, 1) := by decide +kernel
theorem dL_law_286 : decode cL_law 286 = .ok (.invokevirtual 82, 3) := by decide +kernel
theorem dL_law_289 : decode cL_law 289 = .ok (.iload 5, 2) := by decide +kernel
theorem dL_law_291 : decode cL_law 291 = .ok (.if_icmp .eq 5, 3) := by decide +kernel
theorem dL_law_294 : decode cL_law 294 = .ok (.iconst 0, 1) := by decide +kernel
theorem dL_law_295 : decode cL_law 295 = .ok (.ireturn, 1) := by decide +kernel
theorem dL_law_296 : decode cL_law 296 = .ok (.iload 5, 2) := by decide +kernel
theorem dL_law_298 : decode cL_law 298 = .ok (.ifCond .ne 15, 3) := by decide +kernel
theorem dL_law_301 : decode cL_law 301 = .ok (.aload_n 3, 1) := by decide +kernel
theorem dL_law_302 : decode cL_law 302 = .ok (.iconst 0, 1) := by decide +kernel
theorem dL_law_303 : decode cL_law 303 = .ok (.laload, 1) := by decide +kernel
theorem dL_law_304 : decode cL_law 304 = .ok (.iload 6, 2) := by decide +kernel
theorem dL_law_306 : decode cL_law 306 = .ok (.i2l, 1) := by decide +kernel
theorem dL_law_307 : decode cL_law 307 = .ok (.lcmp, 1) := by decide +kernel
theorem dL_law_308 : decode cL_law 308 = .ok (.ifCond .eq 5, 3) := by decide +kernel
theorem dL_law_311 : decode cL_law 311 = .ok (.iconst 0, 1) := by decide +kernel
theorem dL_law_312 : decode cL_law 312 = .ok (.ireturn, 1) := by decide +kernel
theorem dL_law_313 : decode cL_law 313 = .ok (.goto 1054, 3) := by decide +kernel
theorem dL_law_316 : decode cL_law 316 = .ok (.aload_n 1, 1) := by decide +kernel
theorem dL_law_317 : decode cL_law 317 = .ok (.aload_n 0, 1) := by decide +kernel
theorem dL_law_318 : decode cL_law 318 = .ok (.iload 4, 2) := by decide +kernel
theorem dL_law_320 : decode cL_law 320 = .ok (.iconst 1, 1) := by decide +kernel
theorem dL_law_321 : decode cL_law 321 = .ok (.iadd, 1) := by decide +kernel
theorem dL_law_322 : decode cL_law 322 = .ok (.iaload, 1) := by decide +kernel
theorem dL_law_323 : decode cL_law 323 = .ok (.aload_n 0, 1) := by decide +kernel
theorem dL_law_324 : decode cL_law 324 = .ok (.iload 4, 2) := by decide +kernel
theorem dL_law_326 : decode cL_law 326 = .ok (.iconst 2, 1) := by decide +kernel
theorem dL_law_327 : decode cL_law 327 = .ok (.iadd, 1) := by decide +kernel
theorem dL_law_328 : decode cL_law 328 = .ok (.iaload, 1) := by decide +kernel
theorem dL_law_329 : decode cL_law 329 = .ok (.aload_n 3, 1) := by decide +kernel
theorem dL_law_330 : decode cL_law 330 = .ok (.invokestatic 92, 3) := by decide +kernel
theorem dL_law_333 : decode cL_law 333 = .ok (.istore 5, 2) := by decide +kernel
theorem dL_law_335 : decode cL_law 335 = .ok (.aload_n 2, 1) := by decide +kernel
theorem dL_law_336 : decode cL_law 336 = .ok (.aload_n 0, 1) := by decide +kernel
theorem dL_law_337 : decode cL_law 337 = .ok (.iload 4, 2) := by decide +kernel
theorem dL_law_339 : decode cL_law 339 = .ok (.iconst 1, 1) := by decide +kernel
theorem dL_law_340 : decode cL_law 340 = .ok (.iadd, 1) := by decide +kernel
theorem dL_law_341 : decode cL_law 341 = .ok (.iaload, 1) := by decide +kernel
theorem dL_law_342 : decode cL_law 342 = .ok (.aload_n 0, 1) := by decide +kernel
theorem dL_law_343 : decode cL_law 343 = .ok (.iload 4, 2) := by decide +kernel
theorem dL_law_345 : decode cL_law 345 = .ok (.iconst 2, 1) := by decide +kernel
theorem dL_law_346 : decode cL_law 346 = .ok (.iadd, 1) := by decide +kernel
theorem dL_law_347 : decode cL_law 347 = .ok (.iaload, 1) := by decide +kernel
theorem dL_law_348 : decode cL_law 348 = .ok (.invokevirtual 94, 3) := by decide +kernel
theorem dL_law_351 : decode cL_law 351 = .ok (.istore 6, 2) := by decide +kernel
theorem dL_law_353 : decode cL_law 353 = .ok (.aload_n 2, 1) := by decide +kernel
theorem dL_law_354 : decode cL_law 354 = .ok (.invokevirtual 82, 3) := by decide +kernel
theorem dL_law_357 : decode cL_law 357 = .ok (.iload 5, 2) := by decide +kernel
theorem dL_law_359 : decode cL_law 359 = .ok (.if_icmp .eq 5, 3) := by decide +kernel
theorem dL_law_362 : decode cL_law 362 = .ok (.iconst 0, 1) := by decide +kernel
theorem dL_law_363 : decode cL_law 363 = .ok (.ireturn, 1) := by decide +kernel
theorem dL_law_364 : decode cL_law 364 = .ok (.iload 5, 2) := by decide +kernel
theorem dL_law_366 : decode cL_law 366 = .ok (.ifCond .ne 15, 3) := by decide +kernel
theorem dL_law_369 : decode cL_law 369 = .ok (.aload_n 3, 1) := by decide +kernel
theorem dL_law_370 : decode cL_law 370 = .ok (.iconst 0, 1) := by decide +kernel
theorem dL_law_371 : decode cL_law 371 = .ok (.laload, 1) := by decide +kernel
theorem dL_law_372 : decode cL_law 372 = .ok (.iload 6, 2) := by decide +kernel
theorem dL_law_374 : decode cL_law 374 = .ok (.i2l, 1) := by decide +kernel
theorem dL_law_375 : decode cL_law 375 = .ok (.lcmp, 1) := by decide +kernel
theorem dL_law_376 : decode cL_law 376 = .ok (.ifCond .eq 5, 3) := by decide +kernel
theorem dL_law_379 : decode cL_law 379 = .ok (.iconst 0, 1) := by decide +kernel
theorem dL_law_380 : decode cL_law 380 = .ok (.ireturn, 1) := by decide +kernel
theorem dL_law_381 : decode cL_law 381 = .ok (.goto 986, 3) := by decide +kernel
theorem dL_law_384 : decode cL_law 384 = .ok (.aload_n 1, 1) := by decide +kernel
theorem dL_law_385 : decode cL_law 385 = .ok (.aload_n 0, 1) := by decide +kernel
theorem dL_law_386 : decode cL_law 386 = .ok (.iload 4, 2) := by decide +kernel
theorem dL_law_388 : decode cL_law 388 = .ok (.iconst 1, 1) := by decide +kernel
theorem dL_law_389 : decode cL_law 389 = .ok (.iadd, 1) := by decide +kernel
theorem dL_law_390 : decode cL_law 390 = .ok (.iaload, 1) := by decide +kernel
theorem dL_law_391 : decode cL_law 391 = .ok (.aload_n 0, 1) := by decide +kernel
theorem dL_law_392 : decode cL_law 392 = .ok (.iload 4, 2) := by decide +kernel
theorem dL_law_394 : decode cL_law 394 = .ok (.iconst 2, 1) := by decide +kernel
theorem dL_law_395 : decode cL_law 395 = .ok (.iadd, 1) := by decide +kernel
theorem dL_law_396 : decode cL_law 396 = .ok (.iaload, 1) := by decide +kernel
theorem dL_law_397 : decode cL_law 397 = .ok (.aload_n 3, 1) := by decide +kernel
theorem dL_law_398 : decode cL_law 398 = .ok (.invokestatic 95, 3) := by decide +kernel
theorem dL_law_401 : decode cL_law 401 = .ok (.istore 5, 2) := by decide +kernel
theorem dL_law_403 : decode cL_law 403 = .ok (.aload_n 2, 1) := by decide +kernel
theorem dL_law_404 : decode cL_law 404 = .ok (.aload_n 0, 1) := by decide +kernel
theorem dL_law_405 : decode cL_law 405 = .ok (.iload 4, 2) := by decide +kernel
theorem dL_law_407 : decode cL_law 407 = .ok (.iconst 1, 1) := by decide +kernel
theorem dL_law_408 : decode cL_law 408 = .ok (.iadd, 1) := by decide +kernel
theorem dL_law_409 : decode cL_law 409 = .ok (.iaload, 1) := by decide +kernel
theorem dL_law_410 : decode cL_law 410 = .ok (.aload_n 0, 1) := by decide +kernel
theorem dL_law_411 : decode cL_law 411 = .ok (.iload 4, 2) := by decide +kernel
theorem dL_law_413 : decode cL_law 413 = .ok (.iconst 2, 1) := by decide +kernel
theorem dL_law_414 : decode cL_law 414 = .ok (.iadd, 1) := by decide +kernel
theorem dL_law_415 : decode cL_law 415 = .ok (.iaload, 1) := by decide +kernel
theorem dL_law_416 : decode cL_law 416 = .ok (.invokevirtual 97, 3) := by decide +kernel
theorem dL_law_419 : decode cL_law 419 = .ok (.istore 6, 2) := by decide +kernel
theorem dL_law_421 : decode cL_law 421 = .ok (.aload_n 2, 1) := by decide +kernel
theorem dL_law_422 : decode cL_law 422 = .ok (.invokevirtual 82, 3) := by decide +kernel
theorem dL_law_425 : decode cL_law 425 = .ok (.iload 5, 2) := by decide +kernel
theorem dL_law_427 : decode cL_law 427 = .ok (.if_icmp .eq 5, 3) := by decide +kernel
theorem dL_law_430 : decode cL_law 430 = .ok (.iconst 0, 1) := by decide +kernel
theorem dL_law_431 : decode cL_law 431 = .ok (.ireturn, 1) := by decide +kernel
theorem dL_law_432 : decode cL_law 432 = .ok (.iload 5, 2) := by decide +kernel
theorem dL_law_434 : decode cL_law 434 = .ok (.ifCond .ne 15, 3) := by decide +kernel
theorem dL_law_437 : decode cL_law 437 = .ok (.aload_n 3, 1) := by decide +kernel
theorem dL_law_438 : decode cL_law 438 = .ok (.iconst 0, 1) := by decide +kernel
theorem dL_law_439 : decode cL_law 439 = .ok (.laload, 1) := by decide +kernel
theorem dL_law_440 : decode cL_law 440 = .ok (.iload 6, 2) := by decide +kernel
theorem dL_law_442 : decode cL_law 442 = .ok (.i2l, 1) := by decide +kernel
theorem dL_law_443 : decode cL_law 443 = .ok (.lcmp, 1) := by decide +kernel
theorem dL_law_444 : decode cL_law 444 = .ok (.ifCond .eq 5, 3) := by decide +kernel
theorem dL_law_447 : decode cL_law 447 = .ok (.iconst 0, 1) := by decide +kernel
theorem dL_law_448 : decode cL_law 448 = .ok (.ireturn, 1) := by decide +kernel
theorem dL_law_449 : decode cL_law 449 = .ok (.goto 918, 3) := by decide +kernel
theorem dL_law_452 : decode cL_law 452 = .ok (.aload_n 1, 1) := by decide +kernel
theorem dL_law_453 : decode cL_law 453 = .ok (.invokevirtual 98, 3) := by decide +kernel
theorem dL_law_456 : decode cL_law 456 = .ok (.aload_n 2, 1) := by decide +kernel
theorem dL_law_457 : decode cL_law 457 = .ok (.invokevirtual 101, 3) := by decide +kernel
theorem dL_law_460 : decode cL_law 460 = .ok (.if_icmp .eq 907, 3) := by decide +kernel
theorem dL_law_463 : decode cL_law 463 = .ok (.iconst 0, 1) := by decide +kernel
theorem dL_law_464 : decode cL_law 464 = .ok (.ireturn, 1) := by decide +kernel
theorem dL_law_465 : decode cL_law 465 = .ok (.aload_n 1, 1) := by decide +kernel
theorem dL_law_466 : decode cL_law 466 = .ok (.aload_n 0, 1) := by decide +kernel
theorem dL_law_467 : decode cL_law 467 = .ok (.iload 4, 2) := by decide +kernel
theorem dL_law_469 : decode cL_law 469 = .ok (.iconst 1, 1) := by decide +kernel
theorem dL_law_470 : decode cL_law 470 = .ok (.iadd, 1) := by decide +kernel
theorem dL_law_471 : decode cL_law 471 = .ok (.iaload, 1) := by decide +kernel
theorem dL_law_472 : decode cL_law 472 = .ok (.aload_n 3, 1) := by decide +kernel
theorem dL_law_473 : decode cL_law 473 = .ok (.invokestatic 102, 3) := by decide +kernel
theorem dL_law_476 : decode cL_law 476 = .ok (.istore 5, 2) := by decide +kernel
theorem dL_law_478 : decode cL_law 478 = .ok (.aload_n 2, 1) := by decide +kernel
theorem dL_law_479 : decode cL_law 479 = .ok (.aload_n 0, 1) := by decide +kernel
theorem dL_law_480 : decode cL_law 480 = .ok (.iload 4, 2) := by decide +kernel
theorem dL_law_482 : decode cL_law 482 = .ok (.iconst 1, 1) := by decide +kernel
theorem dL_law_483 : decode cL_law 483 = .ok (.iadd, 1) := by decide +kernel
theorem dL_law_484 : decode cL_law 484 = .ok (.iaload, 1) := by decide +kernel
theorem dL_law_485 : decode cL_law 485 = .ok (.invokevirtual 105, 3) := by decide +kernel
theorem dL_law_488 : decode cL_law 488 = .ok (.istore 6, 2) := by decide +kernel
theorem dL_law_490 : decode cL_law 490 = .ok (.aload_n 2, 1) := by decide +kernel
theorem dL_law_491 : decode cL_law 491 = .ok (.invokevirtual 82, 3) := by decide +kernel
theorem dL_law_494 : decode cL_law 494 = .ok (.iload 5, 2) := by decide +kernel
theorem dL_law_496 : decode cL_law 496 = .ok (.if_icmp .eq 5, 3) := by decide +kernel
theorem dL_law_499 : decode cL_law 499 = .ok (.iconst 0, 1) := by decide +kernel
theorem dL_law_500 : decode cL_law 500 = .ok (.ireturn, 1) := by decide +kernel
theorem dL_law_501 : decode cL_law 501 = .ok (.iload 5, 2) := by decide +kernel
theorem dL_law_503 : decode cL_law 503 = .ok (.ifCond .ne 15, 3) := by decide +kernel
theorem dL_law_506 : decode cL_law 506 = .ok (.aload_n 3, 1) := by decide +kernel
theorem dL_law_507 : decode cL_law 507 = .ok (.iconst 0, 1) := by decide +kernel
theorem dL_law_508 : decode cL_law 508 = .ok (.laload, 1) := by decide +kernel
theorem dL_law_509 : decode cL_law 509 = .ok (.iload 6, 2) := by decide +kernel
theorem dL_law_511 : decode cL_law 511 = .ok (.i2l, 1) := by decide +kernel
theorem dL_law_512 : decode cL_law 512 = .ok (.lcmp, 1) := by decide +kernel
theorem dL_law_513 : decode cL_law 513 = .ok (.ifCond .eq 5, 3) := by decide +kernel
theorem dL_law_516 : decode cL_law 516 = .ok (.iconst 0, 1) := by decide +kernel
theorem dL_law_517 : decode cL_law 517 = .ok (.ireturn, 1) := by decide +kernel
theorem dL_law_518 : decode cL_law 518 = .ok (.goto 849, 3) := by decide +kernel
theorem dL_law_521 : decode cL_law 521 = .ok (.aload_n 1, 1) := by decide +kernel
theorem dL_law_522 : decode cL_law 522 = .ok (.aload_n 0, 1) := by decide +kernel
theorem dL_law_523 : decode cL_law 523 = .ok (.iload 4, 2) := by decide +kernel
theorem dL_law_525 : decode cL_law 525 = .ok (.iconst 1, 1) := by decide +kernel
theorem dL_law_526 : decode cL_law 526 = .ok (.iadd, 1) := by decide +kernel
theorem dL_law_527 : decode cL_law 527 = .ok (.iaload, 1) := by decide +kernel
theorem dL_law_528 : decode cL_law 528 = .ok (.aload_n 3, 1) := by decide +kernel
theorem dL_law_529 : decode cL_law 529 = .ok (.invokestatic 106, 3) := by decide +kernel
theorem dL_law_532 : decode cL_law 532 = .ok (.istore 5, 2) := by decide +kernel
theorem dL_law_534 : decode cL_law 534 = .ok (.aload_n 2, 1) := by decide +kernel
theorem dL_law_535 : decode cL_law 535 = .ok (.aload_n 0, 1) := by decide +kernel
theorem dL_law_536 : decode cL_law 536 = .ok (.iload 4, 2) := by decide +kernel
theorem dL_law_538 : decode cL_law 538 = .ok (.iconst 1, 1) := by decide +kernel
theorem dL_law_539 : decode cL_law 539 = .ok (.iadd, 1) := by decide +kernel
theorem dL_law_540 : decode cL_law 540 = .ok (.iaload, 1) := by decide +kernel
theorem dL_law_541 : decode cL_law 541 = .ok (.invokevirtual 108, 3) := by decide +kernel
theorem dL_law_544 : decode cL_law 544 = .ok (.istore 6, 2) := by decide +kernel
theorem dL_law_546 : decode cL_law 546 = .ok (.aload_n 2, 1) := by decide +kernel
theorem dL_law_547 : decode cL_law 547 = .ok (.invokevirtual 82, 3) := by decide +kernel
theorem dL_law_550 : decode cL_law 550 = .ok (.iload 5, 2) := by decide +kernel
theorem dL_law_552 : decode cL_law 552 = .ok (.if_icmp .eq 5, 3) := by decide +kernel
theorem dL_law_555 : decode cL_law 555 = .ok (.iconst 0, 1) := by decide +kernel
theorem dL_law_556 : decode cL_law 556 = .ok (.ireturn, 1) := by decide +kernel
theorem dL_law_557 : decode cL_law 557 = .ok (.iload 5, 2) := by decide +kernel
theorem dL_law_559 : decode cL_law 559 = .ok (.ifCond .ne 15, 3) := by decide +kernel
theorem dL_law_562 : decode cL_law 562 = .ok (.aload_n 3, 1) := by decide +kernel
theorem dL_law_563 : decode cL_law 563 = .ok (.iconst 0, 1) := by decide +kernel
theorem dL_law_564 : decode cL_law 564 = .ok (.laload, 1) := by decide +kernel
theorem dL_law_565 : decode cL_law 565 = .ok (.iload 6, 2) := by decide +kernel
theorem dL_law_567 : decode cL_law 567 = .ok (.i2l, 1) := by decide +kernel
theorem dL_law_568 : decode cL_law 568 = .ok (.lcmp, 1) := by decide +kernel
theorem dL_law_569 : decode cL_law 569 = .ok (.ifCond .eq 5, 3) := by decide +kernel
theorem dL_law_572 : decode cL_law 572 = .ok (.iconst 0, 1) := by decide +kernel
theorem dL_law_573 : decode cL_law 573 = .ok (.ireturn, 1) := by decide +kernel
theorem dL_law_574 : decode cL_law 574 = .ok (.goto 793, 3) := by decide +kernel
theorem dL_law_577 : decode cL_law 577 = .ok (.aload_n 1, 1) := by decide +kernel
theorem dL_law_578 : decode cL_law 578 = .ok (.aload_n 0, 1) := by decide +kernel
theorem dL_law_579 : decode cL_law 579 = .ok (.iload 4, 2) := by decide +kernel
theorem dL_law_581 : decode cL_law 581 = .ok (.iconst 1, 1) := by decide +kernel
theorem dL_law_582 : decode cL_law 582 = .ok (.iadd, 1) := by decide +kernel
theorem dL_law_583 : decode cL_law 583 = .ok (.iaload, 1) := by decide +kernel
theorem dL_law_584 : decode cL_law 584 = .ok (.aload_n 0, 1) := by decide +kernel
theorem dL_law_585 : decode cL_law 585 = .ok (.iload 4, 2) := by decide +kernel
theorem dL_law_587 : decode cL_law 587 = .ok (.iconst 2, 1) := by decide +kernel
theorem dL_law_588 : decode cL_law 588 = .ok (.iadd, 1) := by decide +kernel
theorem dL_law_589 : decode cL_law 589 = .ok (.iaload, 1) := by decide +kernel
theorem dL_law_590 : decode cL_law 590 = .ok (.ifCond .eq 7, 3) := by decide +kernel
theorem dL_law_593 : decode cL_law 593 = .ok (.iconst 1, 1) := by decide +kernel
theorem dL_law_594 : decode cL_law 594 = .ok (.goto 4, 3) := by decide +kernel
theorem dL_law_597 : decode cL_law 597 = .ok (.iconst 0, 1) := by decide +kernel
theorem dL_law_598 : decode cL_law 598 = .ok (.aload_n 3, 1) := by decide +kernel
theorem dL_law_599 : decode cL_law 599 = .ok (.invokestatic 109, 3) := by decide +kernel
theorem dL_law_602 : decode cL_law 602 = .ok (.istore 5, 2) := by decide +kernel
theorem dL_law_604 : decode cL_law 604 = .ok (.aload_n 2, 1) := by decide +kernel
theorem dL_law_605 : decode cL_law 605 = .ok (.aload_n 0, 1) := by decide +kernel
theorem dL_law_606 : decode cL_law 606 = .ok (.iload 4, 2) := by decide +kernel
theorem dL_law_608 : decode cL_law 608 = .ok (.iconst 1, 1) := by decide +kernel
theorem dL_law_609 : decode cL_law 609 = .ok (.iadd, 1) := by decide +kernel
theorem dL_law_610 : decode cL_law 610 = .ok (.iaload, 1) := by decide +kernel
theorem dL_law_611 : decode cL_law 611 = .ok (.aload_n 0, 1) := by decide +kernel
theorem dL_law_612 : decode cL_law 612 = .ok (.iload 4, 2) := by decide +kernel
theorem dL_law_614 : decode cL_law 614 = .ok (.iconst 2, 1) := by decide +kernel
theorem dL_law_615 : decode cL_law 615 = .ok (.iadd, 1) := by decide +kernel
theorem dL_law_616 : decode cL_law 616 = .ok (.iaload, 1) := by decide +kernel
theorem dL_law_617 : decode cL_law 617 = .ok (.ifCond .eq 7, 3) := by decide +kernel
theorem dL_law_620 : decode cL_law 620 = .ok (.iconst 1, 1) := by decide +kernel
theorem dL_law_621 : decode cL_law 621 = .ok (.goto 4, 3) := by decide +kernel
theorem dL_law_624 : decode cL_law 624 = .ok (.iconst 0, 1) := by decide +kernel
theorem dL_law_625 : decode cL_law 625 = .ok (.invokevirtual 112, 3) := by decide +kernel
theorem dL_law_628 : decode cL_law 628 = .ok (.istore 6, 2) := by decide +kernel
theorem dL_law_630 : decode cL_law 630 = .ok (.aload_n 2, 1) := by decide +kernel
theorem dL_law_631 : decode cL_law 631 = .ok (.invokevirtual 82, 3) := by decide +kernel
theorem dL_law_634 : decode cL_law 634 = .ok (.iload 5, 2) := by decide +kernel
theorem dL_law_636 : decode cL_law 636 = .ok (.if_icmp .eq 5, 3) := by decide +kernel
theorem dL_law_639 : decode cL_law 639 = .ok (.iconst 0, 1) := by decide +kernel
theorem dL_law_640 : decode cL_law 640 = .ok (.ireturn, 1) := by decide +kernel
theorem dL_law_641 : decode cL_law 641 = .ok (.iload 5, 2) := by decide +kernel
theorem dL_law_643 : decode cL_law 643 = .ok (.ifCond .ne 22, 3) := by decide +kernel
theorem dL_law_646 : decode cL_law 646 = .ok (.aload_n 3, 1) := by decide +kernel
theorem dL_law_647 : decode cL_law 647 = .ok (.iconst 0, 1) := by decide +kernel
theorem dL_law_648 : decode cL_law 648 = .ok (.laload, 1) := by decide +kernel
theorem dL_law_649 : decode cL_law 649 = .ok (.iload 6, 2) := by decide +kernel
theorem dL_law_651 : decode cL_law 651 = .ok (.ifCond .eq 7, 3) := by decide +kernel
theorem dL_law_654 : decode cL_law 654 = .ok (.lconst 1, 1) := by decide +kernel
theorem dL_law_655 : decode cL_law 655 = .ok (.goto 4, 3) := by decide +kernel
theorem dL_law_658 : decode cL_law 658 = .ok (.lconst 0, 1) := by decide +kernel
theorem dL_law_659 : decode cL_law 659 = .ok (.lcmp, 1) := by decide +kernel
theorem dL_law_660 : decode cL_law 660 = .ok (.ifCond .eq 5, 3) := by decide +kernel
theorem dL_law_663 : decode cL_law 663 = .ok (.iconst 0, 1) := by decide +kernel
theorem dL_law_664 : decode cL_law 664 = .ok (.ireturn, 1) := by decide +kernel
theorem dL_law_665 : decode cL_law 665 = .ok (.goto 702, 3) := by decide +kernel
theorem dL_law_668 : decode cL_law 668 = .ok (.aload_n 1, 1) := by decide +kernel
theorem dL_law_669 : decode cL_law 669 = .ok (.aload_n 0, 1) := by decide +kernel
theorem dL_law_670 : decode cL_law 670 = .ok (.iload 4, 2) := by decide +kernel
theorem dL_law_672 : decode cL_law 672 = .ok (.iconst 1, 1) := by decide +kernel
theorem dL_law_673 : decode cL_law 673 = .ok (.iadd, 1) := by decide +kernel
theorem dL_law_674 : decode cL_law 674 = .ok (.iaload, 1) := by decide +kernel
theorem dL_law_675 : decode cL_law 675 = .ok (.aload_n 0, 1) := by decide +kernel
theorem dL_law_676 : decode cL_law 676 = .ok (.iload 4, 2) := by decide +kernel
theorem dL_law_678 : decode cL_law 678 = .ok (.iconst 2, 1) := by decide +kernel
theorem dL_law_679 : decode cL_law 679 = .ok (.iadd, 1) := by decide +kernel
theorem dL_law_680 : decode cL_law 680 = .ok (.iaload, 1) := by decide +kernel
theorem dL_law_681 : decode cL_law 681 = .ok (.i2l, 1) := by decide +kernel
theorem dL_law_682 : decode cL_law 682 = .ok (.bipush 32, 2) := by decide +kernel
theorem dL_law_684 : decode cL_law 684 = .ok (.lshl, 1) := by decide +kernel
theorem dL_law_685 : decode cL_law 685 = .ok (.aload_n 0, 1) := by decide +kernel
theorem dL_law_686 : decode cL_law 686 = .ok (.iload 4, 2) := by decide +kernel
theorem dL_law_688 : decode cL_law 688 = .ok (.iconst 3, 1) := by decide +kernel
theorem dL_law_689 : decode cL_law 689 = .ok (.iadd, 1) := by decide +kernel
theorem dL_law_690 : decode cL_law 690 = .ok (.iaload, 1) := by decide +kernel
theorem dL_law_691 : decode cL_law 691 = .ok (.i2l, 1) := by decide +kernel
theorem dL_law_692 : decode cL_law 692 = .ok (.ldc2_w 113, 3) := by decide +kernel
theorem dL_law_695 : decode cL_law 695 = .ok (.land, 1) := by decide +kernel
theorem dL_law_696 : decode cL_law 696 = .ok (.lor, 1) := by decide +kernel
theorem dL_law_697 : decode cL_law 697 = .ok (.aload_n 0, 1) := by decide +kernel
theorem dL_law_698 : decode cL_law 698 = .ok (.iload 4, 2) := by decide +kernel
theorem dL_law_700 : decode cL_law 700 = .ok (.iconst 4, 1) := by decide +kernel
theorem dL_law_701 : decode cL_law 701 = .ok (.iadd, 1) := by decide +kernel
theorem dL_law_702 : decode cL_law 702 = .ok (.iaload, 1) := by decide +kernel
theorem dL_law_703 : decode cL_law 703 = .ok (.i2l, 1) := by decide +kernel
theorem dL_law_704 : decode cL_law 704 = .ok (.bipush 32, 2) := by decide +kernel
theorem dL_law_706 : decode cL_law 706 = .ok (.lshl, 1) := by decide +kernel
theorem dL_law_707 : decode cL_law 707 = .ok (.aload_n 0, 1) := by decide +kernel
theorem dL_law_708 : decode cL_law 708 = .ok (.iload 4, 2) := by decide +kernel
theorem dL_law_710 : decode cL_law 710 = .ok (.iconst 5, 1) := by decide +kernel
theorem dL_law_711 : decode cL_law 711 = .ok (.iadd, 1) := by decide +kernel
theorem dL_law_712 : decode cL_law 712 = .ok (.iaload, 1) := by decide +kernel
theorem dL_law_713 : decode cL_law 713 = .ok (.i2l, 1) := by decide +kernel
theorem dL_law_714 : decode cL_law 714 = .ok (.ldc2_w 113, 3) := by decide +kernel
theorem dL_law_717 : decode cL_law 717 = .ok (.land, 1) := by decide +kernel
theorem dL_law_718 : decode cL_law 718 = .ok (.lor, 1) := by decide +kernel
theorem dL_law_719 : decode cL_law 719 = .ok (.aload_n 3, 1) := by decide +kernel
theorem dL_law_720 : decode cL_law 720 = .ok (.invokestatic 115, 3) := by decide +kernel
theorem dL_law_723 : decode cL_law 723 = .ok (.istore 5, 2) := by decide +kernel
theorem dL_law_725 : decode cL_law 725 = .ok (.aload_n 2, 1) := by decide +kernel
theorem dL_law_726 : decode cL_law 726 = .ok (.aload_n 0, 1) := by decide +kernel
theorem dL_law_727 : decode cL_law 727 = .ok (.iload 4, 2) := by decide +kernel
theorem dL_law_729 : decode cL_law 729 = .ok (.iconst 1, 1) := by decide +kernel
theorem dL_law_730 : decode cL_law 730 = .ok (.iadd, 1) := by decide +kernel
theorem dL_law_731 : decode cL_law 731 = .ok (.iaload, 1) := by decide +kernel
theorem dL_law_732 : decode cL_law 732 = .ok (.aload_n 0, 1) := by decide +kernel
theorem dL_law_733 : decode cL_law 733 = .ok (.iload 4, 2) := by decide +kernel
theorem dL_law_735 : decode cL_law 735 = .ok (.iconst 2, 1) := by decide +kernel
theorem dL_law_736 : decode cL_law 736 = .ok (.iadd, 1) := by decide +kernel
theorem dL_law_737 : decode cL_law 737 = .ok (.iaload, 1) := by decide +kernel
theorem dL_law_738 : decode cL_law 738 = .ok (.i2l, 1) := by decide +kernel
theorem dL_law_739 : decode cL_law 739 = .ok (.bipush 32, 2) := by decide +kernel
theorem dL_law_741 : decode cL_law 741 = .ok (.lshl, 1) := by decide +kernel
theorem dL_law_742 : decode cL_law 742 = .ok (.aload_n 0, 1) := by decide +kernel
theorem dL_law_743 : decode cL_law 743 = .ok (.iload 4, 2) := by decide +kernel
theorem dL_law_745 : decode cL_law 745 = .ok (.iconst 3, 1) := by decide +kernel
theorem dL_law_746 : decode cL_law 746 = .ok (.iadd, 1) := by decide +kernel
theorem dL_law_747 : decode cL_law 747 = .ok (.iaload, 1) := by decide +kernel
theorem dL_law_748 : decode cL_law 748 = .ok (.i2l, 1) := by decide +kernel
theorem dL_law_749 : decode cL_law 749 = .ok (.ldc2_w 113, 3) := by decide +kernel
theorem dL_law_752 : decode cL_law 752 = .ok (.land, 1) := by decide +kernel
theorem dL_law_753 : decode cL_law 753 = .ok (.lor, 1) := by decide +kernel
theorem dL_law_754 : decode cL_law 754 = .ok (.aload_n 0, 1) := by decide +kernel
theorem dL_law_755 : decode cL_law 755 = .ok (.iload 4, 2) := by decide +kernel
theorem dL_law_757 : decode cL_law 757 = .ok (.iconst 4, 1) := by decide +kernel
theorem dL_law_758 : decode cL_law 758 = .ok (.iadd, 1) := by decide +kernel
theorem dL_law_759 : decode cL_law 759 = .ok (.iaload, 1) := by decide +kernel
theorem dL_law_760 : decode cL_law 760 = .ok (.i2l, 1) := by decide +kernel
theorem dL_law_761 : decode cL_law 761 = .ok (.bipush 32, 2) := by decide +kernel
theorem dL_law_763 : decode cL_law 763 = .ok (.lshl, 1) := by decide +kernel
theorem dL_law_764 : decode cL_law 764 = .ok (.aload_n 0, 1) := by decide +kernel
theorem dL_law_765 : decode cL_law 765 = .ok (.iload 4, 2) := by decide +kernel
theorem dL_law_767 : decode cL_law 767 = .ok (.iconst 5, 1) := by decide +kernel
theorem dL_law_768 : decode cL_law 768 = .ok (.iadd, 1) := by decide +kernel
theorem dL_law_769 : decode cL_law 769 = .ok (.iaload, 1) := by decide +kernel
theorem dL_law_770 : decode cL_law 770 = .ok (.i2l, 1) := by decide +kernel
theorem dL_law_771 : decode cL_law 771 = .ok (.ldc2_w 113, 3) := by decide +kernel
theorem dL_law_774 : decode cL_law 774 = .ok (.land, 1) := by decide +kernel
theorem dL_law_775 : decode cL_law 775 = .ok (.lor, 1) := by decide +kernel
theorem dL_law_776 : decode cL_law 776 = .ok (.invokevirtual 118, 3) := by decide +kernel
theorem dL_law_779 : decode cL_law 779 = .ok (.istore 6, 2) := by decide +kernel
theorem dL_law_781 : decode cL_law 781 = .ok (.aload_n 2, 1) := by decide +kernel
theorem dL_law_782 : decode cL_law 782 = .ok (.invokevirtual 82, 3) := by decide +kernel
theorem dL_law_785 : decode cL_law 785 = .ok (.iload 5, 2) := by decide +kernel
theorem dL_law_787 : decode cL_law 787 = .ok (.if_icmp .eq 5, 3) := by decide +kernel
theorem dL_law_790 : decode cL_law 790 = .ok (.iconst 0, 1) := by decide +kernel
theorem dL_law_791 : decode cL_law 791 = .ok (.ireturn, 1) := by decide +kernel
theorem dL_law_792 : decode cL_law 792 = .ok (.iload 5, 2) := by decide +kernel
theorem dL_law_794 : decode cL_law 794 = .ok (.ifCond .ne 22, 3) := by decide +kernel
theorem dL_law_797 : decode cL_law 797 = .ok (.aload_n 3, 1) := by decide +kernel
theorem dL_law_798 : decode cL_law 798 = .ok (.iconst 0, 1) := by decide +kernel
theorem dL_law_799 : decode cL_law 799 = .ok (.laload, 1) := by decide +kernel
theorem dL_law_800 : decode cL_law 800 = .ok (.iload 6, 2) := by decide +kernel
theorem dL_law_802 : decode cL_law 802 = .ok (.ifCond .eq 7, 3) := by decide +kernel
theorem dL_law_805 : decode cL_law 805 = .ok (.lconst 1, 1) := by decide +kernel
theorem dL_law_806 : decode cL_law 806 = .ok (.goto 4, 3) := by decide +kernel
theorem dL_law_809 : decode cL_law 809 = .ok (.lconst 0, 1) := by decide +kernel
theorem dL_law_810 : decode cL_law 810 = .ok (.lcmp, 1) := by decide +kernel
theorem dL_law_811 : decode cL_law 811 = .ok (.ifCond .eq 5, 3) := by decide +kernel
theorem dL_law_814 : decode cL_law 814 = .ok (.iconst 0, 1) := by decide +kernel
theorem dL_law_815 : decode cL_law 815 = .ok (.ireturn, 1) := by decide +kernel
theorem dL_law_816 : decode cL_law 816 = .ok (.goto 551, 3) := by decide +kernel
theorem dL_law_819 : decode cL_law 819 = .ok (.aload_n 1, 1) := by decide +kernel
theorem dL_law_820 : decode cL_law 820 = .ok (.aload_n 0, 1) := by decide +kernel
theorem dL_law_821 : decode cL_law 821 = .ok (.iload 4, 2) := by decide +kernel
theorem dL_law_823 : decode cL_law 823 = .ok (.iconst 1, 1) := by decide +kernel
theorem dL_law_824 : decode cL_law 824 = .ok (.iadd, 1) := by decide +kernel
theorem dL_law_825 : decode cL_law 825 = .ok (.iaload, 1) := by decide +kernel
theorem dL_law_826 : decode cL_law 826 = .ok (.i2l, 1) := by decide +kernel
theorem dL_law_827 : decode cL_law 827 = .ok (.bipush 32, 2) := by decide +kernel
theorem dL_law_829 : decode cL_law 829 = .ok (.lshl, 1) := by decide +kernel
theorem dL_law_830 : decode cL_law 830 = .ok (.aload_n 0, 1) := by decide +kernel
theorem dL_law_831 : decode cL_law 831 = .ok (.iload 4, 2) := by decide +kernel
theorem dL_law_833 : decode cL_law 833 = .ok (.iconst 2, 1) := by decide +kernel
theorem dL_law_834 : decode cL_law 834 = .ok (.iadd, 1) := by decide +kernel
theorem dL_law_835 : decode cL_law 835 = .ok (.iaload, 1) := by decide +kernel
theorem dL_law_836 : decode cL_law 836 = .ok (.i2l, 1) := by decide +kernel
theorem dL_law_837 : decode cL_law 837 = .ok (.ldc2_w 113, 3) := by decide +kernel
theorem dL_law_840 : decode cL_law 840 = .ok (.land, 1) := by decide +kernel
theorem dL_law_841 : decode cL_law 841 = .ok (.lor, 1) := by decide +kernel
theorem dL_law_842 : decode cL_law 842 = .ok (.aload_n 0, 1) := by decide +kernel
theorem dL_law_843 : decode cL_law 843 = .ok (.iload 4, 2) := by decide +kernel
theorem dL_law_845 : decode cL_law 845 = .ok (.iconst 3, 1) := by decide +kernel
theorem dL_law_846 : decode cL_law 846 = .ok (.iadd, 1) := by decide +kernel
theorem dL_law_847 : decode cL_law 847 = .ok (.iaload, 1) := by decide +kernel
theorem dL_law_848 : decode cL_law 848 = .ok (.i2l, 1) := by decide +kernel
theorem dL_law_849 : decode cL_law 849 = .ok (.bipush 32, 2) := by decide +kernel
theorem dL_law_851 : decode cL_law 851 = .ok (.lshl, 1) := by decide +kernel
theorem dL_law_852 : decode cL_law 852 = .ok (.aload_n 0, 1) := by decide +kernel
theorem dL_law_853 : decode cL_law 853 = .ok (.iload 4, 2) := by decide +kernel
theorem dL_law_855 : decode cL_law 855 = .ok (.iconst 4, 1) := by decide +kernel
theorem dL_law_856 : decode cL_law 856 = .ok (.iadd, 1) := by decide +kernel
theorem dL_law_857 : decode cL_law 857 = .ok (.iaload, 1) := by decide +kernel
theorem dL_law_858 : decode cL_law 858 = .ok (.i2l, 1) := by decide +kernel
theorem dL_law_859 : decode cL_law 859 = .ok (.ldc2_w 113, 3) := by decide +kernel
theorem dL_law_862 : decode cL_law 862 = .ok (.land, 1) := by decide +kernel
theorem dL_law_863 : decode cL_law 863 = .ok (.lor, 1) := by decide +kernel
theorem dL_law_864 : decode cL_law 864 = .ok (.aload_n 3, 1) := by decide +kernel
theorem dL_law_865 : decode cL_law 865 = .ok (.invokestatic 119, 3) := by decide +kernel
theorem dL_law_868 : decode cL_law 868 = .ok (.istore 5, 2) := by decide +kernel
theorem dL_law_870 : decode cL_law 870 = .ok (.aload_n 2, 1) := by decide +kernel
theorem dL_law_871 : decode cL_law 871 = .ok (.aload_n 0, 1) := by decide +kernel
theorem dL_law_872 : decode cL_law 872 = .ok (.iload 4, 2) := by decide +kernel
theorem dL_law_874 : decode cL_law 874 = .ok (.iconst 1, 1) := by decide +kernel
theorem dL_law_875 : decode cL_law 875 = .ok (.iadd, 1) := by decide +kernel
theorem dL_law_876 : decode cL_law 876 = .ok (.iaload, 1) := by decide +kernel
theorem dL_law_877 : decode cL_law 877 = .ok (.i2l, 1) := by decide +kernel
theorem dL_law_878 : decode cL_law 878 = .ok (.bipush 32, 2) := by decide +kernel
theorem dL_law_880 : decode cL_law 880 = .ok (.lshl, 1) := by decide +kernel
theorem dL_law_881 : decode cL_law 881 = .ok (.aload_n 0, 1) := by decide +kernel
theorem dL_law_882 : decode cL_law 882 = .ok (.iload 4, 2) := by decide +kernel
theorem dL_law_884 : decode cL_law 884 = .ok (.iconst 2, 1) := by decide +kernel
theorem dL_law_885 : decode cL_law 885 = .ok (.iadd, 1) := by decide +kernel
theorem dL_law_886 : decode cL_law 886 = .ok (.iaload, 1) := by decide +kernel
theorem dL_law_887 : decode cL_law 887 = .ok (.i2l, 1) := by decide +kernel
theorem dL_law_888 : decode cL_law 888 = .ok (.ldc2_w 113, 3) := by decide +kernel
theorem dL_law_891 : decode cL_law 891 = .ok (.land, 1) := by decide +kernel
theorem dL_law_892 : decode cL_law 892 = .ok (.lor, 1) := by decide +kernel
theorem dL_law_893 : decode cL_law 893 = .ok (.aload_n 0, 1) := by decide +kernel
theorem dL_law_894 : decode cL_law 894 = .ok (.iload 4, 2) := by decide +kernel
theorem dL_law_896 : decode cL_law 896 = .ok (.iconst 3, 1) := by decide +kernel
theorem dL_law_897 : decode cL_law 897 = .ok (.iadd, 1) := by decide +kernel
theorem dL_law_898 : decode cL_law 898 = .ok (.iaload, 1) := by decide +kernel
theorem dL_law_899 : decode cL_law 899 = .ok (.i2l, 1) := by decide +kernel
theorem dL_law_900 : decode cL_law 900 = .ok (.bipush 32, 2) := by decide +kernel
theorem dL_law_902 : decode cL_law 902 = .ok (.lshl, 1) := by decide +kernel
theorem dL_law_903 : decode cL_law 903 = .ok (.aload_n 0, 1) := by decide +kernel
theorem dL_law_904 : decode cL_law 904 = .ok (.iload 4, 2) := by decide +kernel
theorem dL_law_906 : decode cL_law 906 = .ok (.iconst 4, 1) := by decide +kernel
theorem dL_law_907 : decode cL_law 907 = .ok (.iadd, 1) := by decide +kernel
theorem dL_law_908 : decode cL_law 908 = .ok (.iaload, 1) := by decide +kernel
theorem dL_law_909 : decode cL_law 909 = .ok (.i2l, 1) := by decide +kernel
theorem dL_law_910 : decode cL_law 910 = .ok (.ldc2_w 113, 3) := by decide +kernel
theorem dL_law_913 : decode cL_law 913 = .ok (.land, 1) := by decide +kernel
theorem dL_law_914 : decode cL_law 914 = .ok (.lor, 1) := by decide +kernel
theorem dL_law_915 : decode cL_law 915 = .ok (.invokevirtual 122, 3) := by decide +kernel
theorem dL_law_918 : decode cL_law 918 = .ok (.istore 6, 2) := by decide +kernel
theorem dL_law_920 : decode cL_law 920 = .ok (.aload_n 2, 1) := by decide +kernel
theorem dL_law_921 : decode cL_law 921 = .ok (.invokevirtual 82, 3) := by decide +kernel
theorem dL_law_924 : decode cL_law 924 = .ok (.iload 5, 2) := by decide +kernel
theorem dL_law_926 : decode cL_law 926 = .ok (.if_icmp .eq 5, 3) := by decide +kernel
theorem dL_law_929 : decode cL_law 929 = .ok (.iconst 0, 1) := by decide +kernel
theorem dL_law_930 : decode cL_law 930 = .ok (.ireturn, 1) := by decide +kernel
theorem dL_law_931 : decode cL_law 931 = .ok (.iload 5, 2) := by decide +kernel
theorem dL_law_933 : decode cL_law 933 = .ok (.ifCond .ne 15, 3) := by decide +kernel
theorem dL_law_936 : decode cL_law 936 = .ok (.aload_n 3, 1) := by decide +kernel
theorem dL_law_937 : decode cL_law 937 = .ok (.iconst 0, 1) := by decide +kernel
theorem dL_law_938 : decode cL_law 938 = .ok (.laload, 1) := by decide +kernel
theorem dL_law_939 : decode cL_law 939 = .ok (.iload 6, 2) := by decide +kernel
theorem dL_law_941 : decode cL_law 941 = .ok (.i2l, 1) := by decide +kernel
theorem dL_law_942 : decode cL_law 942 = .ok (.lcmp, 1) := by decide +kernel
theorem dL_law_943 : decode cL_law 943 = .ok (.ifCond .eq 5, 3) := by decide +kernel
theorem dL_law_946 : decode cL_law 946 = .ok (.iconst 0, 1) := by decide +kernel
theorem dL_law_947 : decode cL_law 947 = .ok (.ireturn, 1) := by decide +kernel
theorem dL_law_948 : decode cL_law 948 = .ok (.goto 419, 3) := by decide +kernel
theorem dL_law_951 : decode cL_law 951 = .ok (.aload_n 1, 1) := by decide +kernel
theorem dL_law_952 : decode cL_law 952 = .ok (.aload_n 0, 1) := by decide +kernel
theorem dL_law_953 : decode cL_law 953 = .ok (.iload 4, 2) := by decide +kernel
theorem dL_law_955 : decode cL_law 955 = .ok (.iconst 1, 1) := by decide +kernel
theorem dL_law_956 : decode cL_law 956 = .ok (.iadd, 1) := by decide +kernel
theorem dL_law_957 : decode cL_law 957 = .ok (.iaload, 1) := by decide +kernel
theorem dL_law_958 : decode cL_law 958 = .ok (.aload_n 3, 1) := by decide +kernel
theorem dL_law_959 : decode cL_law 959 = .ok (.invokestatic 123, 3) := by decide +kernel
theorem dL_law_962 : decode cL_law 962 = .ok (.istore 5, 2) := by decide +kernel
theorem dL_law_964 : decode cL_law 964 = .ok (.aload_n 2, 1) := by decide +kernel
theorem dL_law_965 : decode cL_law 965 = .ok (.aload_n 0, 1) := by decide +kernel
theorem dL_law_966 : decode cL_law 966 = .ok (.iload 4, 2) := by decide +kernel
theorem dL_law_968 : decode cL_law 968 = .ok (.iconst 1, 1) := by decide +kernel
theorem dL_law_969 : decode cL_law 969 = .ok (.iadd, 1) := by decide +kernel
theorem dL_law_970 : decode cL_law 970 = .ok (.iaload, 1) := by decide +kernel
theorem dL_law_971 : decode cL_law 971 = .ok (.invokevirtual 125, 3) := by decide +kernel
theorem dL_law_974 : decode cL_law 974 = .ok (.istore 6, 2) := by decide +kernel
theorem dL_law_976 : decode cL_law 976 = .ok (.aload_n 2, 1) := by decide +kernel
theorem dL_law_977 : decode cL_law 977 = .ok (.invokevirtual 82, 3) := by decide +kernel
theorem dL_law_980 : decode cL_law 980 = .ok (.iload 5, 2) := by decide +kernel
theorem dL_law_982 : decode cL_law 982 = .ok (.if_icmp .eq 5, 3) := by decide +kernel
theorem dL_law_985 : decode cL_law 985 = .ok (.iconst 0, 1) := by decide +kernel
theorem dL_law_986 : decode cL_law 986 = .ok (.ireturn, 1) := by decide +kernel
theorem dL_law_987 : decode cL_law 987 = .ok (.iload 5, 2) := by decide +kernel
theorem dL_law_989 : decode cL_law 989 = .ok (.ifCond .ne 15, 3) := by decide +kernel
theorem dL_law_992 : decode cL_law 992 = .ok (.aload_n 3, 1) := by decide +kernel
theorem dL_law_993 : decode cL_law 993 = .ok (.iconst 0, 1) := by decide +kernel
theorem dL_law_994 : decode cL_law 994 = .ok (.laload, 1) := by decide +kernel
theorem dL_law_995 : decode cL_law 995 = .ok (.iload 6, 2) := by decide +kernel
theorem dL_law_997 : decode cL_law 997 = .ok (.i2l, 1) := by decide +kernel
theorem dL_law_998 : decode cL_law 998 = .ok (.lcmp, 1) := by decide +kernel
theorem dL_law_999 : decode cL_law 999 = .ok (.ifCond .eq 5, 3) := by decide +kernel
theorem dL_law_1002 : decode cL_law 1002 = .ok (.iconst 0, 1) := by decide +kernel
theorem dL_law_1003 : decode cL_law 1003 = .ok (.ireturn, 1) := by decide +kernel
theorem dL_law_1004 : decode cL_law 1004 = .ok (.goto 363, 3) := by decide +kernel
theorem dL_law_1007 : decode cL_law 1007 = .ok (.aload_n 1, 1) := by decide +kernel
theorem dL_law_1008 : decode cL_law 1008 = .ok (.aload_n 0, 1) := by decide +kernel
theorem dL_law_1009 : decode cL_law 1009 = .ok (.iload 4, 2) := by decide +kernel
theorem dL_law_1011 : decode cL_law 1011 = .ok (.iconst 1, 1) := by decide +kernel
theorem dL_law_1012 : decode cL_law 1012 = .ok (.iadd, 1) := by decide +kernel
theorem dL_law_1013 : decode cL_law 1013 = .ok (.iaload, 1) := by decide +kernel
theorem dL_law_1014 : decode cL_law 1014 = .ok (.aload_n 0, 1) := by decide +kernel
theorem dL_law_1015 : decode cL_law 1015 = .ok (.iload 4, 2) := by decide +kernel
theorem dL_law_1017 : decode cL_law 1017 = .ok (.iconst 2, 1) := by decide +kernel
theorem dL_law_1018 : decode cL_law 1018 = .ok (.iadd, 1) := by decide +kernel
theorem dL_law_1019 : decode cL_law 1019 = .ok (.iaload, 1) := by decide +kernel
theorem dL_law_1020 : decode cL_law 1020 = .ok (.aload_n 3, 1) := by decide +kernel
theorem dL_law_1021 : decode cL_law 1021 = .ok (.invokestatic 126, 3) := by decide +kernel
theorem dL_law_1024 : decode cL_law 1024 = .ok (.istore 5, 2) := by decide +kernel
theorem dL_law_1026 : decode cL_law 1026 = .ok (.aload_n 2, 1) := by decide +kernel
theorem dL_law_1027 : decode cL_law 1027 = .ok (.aload_n 0, 1) := by decide +kernel
theorem dL_law_1028 : decode cL_law 1028 = .ok (.iload 4, 2) := by decide +kernel
theorem dL_law_1030 : decode cL_law 1030 = .ok (.iconst 1, 1) := by decide +kernel
theorem dL_law_1031 : decode cL_law 1031 = .ok (.iadd, 1) := by decide +kernel
theorem dL_law_1032 : decode cL_law 1032 = .ok (.iaload, 1) := by decide +kernel
theorem dL_law_1033 : decode cL_law 1033 = .ok (.aload_n 0, 1) := by decide +kernel
theorem dL_law_1034 : decode cL_law 1034 = .ok (.iload 4, 2) := by decide +kernel
theorem dL_law_1036 : decode cL_law 1036 = .ok (.iconst 2, 1) := by decide +kernel
theorem dL_law_1037 : decode cL_law 1037 = .ok (.iadd, 1) := by decide +kernel
theorem dL_law_1038 : decode cL_law 1038 = .ok (.iaload, 1) := by decide +kernel
theorem dL_law_1039 : decode cL_law 1039 = .ok (.invokevirtual 128, 3) := by decide +kernel
theorem dL_law_1042 : decode cL_law 1042 = .ok (.istore 6, 2) := by decide +kernel
theorem dL_law_1044 : decode cL_law 1044 = .ok (.aload_n 2, 1) := by decide +kernel
theorem dL_law_1045 : decode cL_law 1045 = .ok (.invokevirtual 82, 3) := by decide +kernel
theorem dL_law_1048 : decode cL_law 1048 = .ok (.iload 5, 2) := by decide +kernel
theorem dL_law_1050 : decode cL_law 1050 = .ok (.if_icmp .eq 5, 3) := by decide +kernel
theorem dL_law_1053 : decode cL_law 1053 = .ok (.iconst 0, 1) := by decide +kernel
theorem dL_law_1054 : decode cL_law 1054 = .ok (.ireturn, 1) := by decide +kernel
theorem dL_law_1055 : decode cL_law 1055 = .ok (.iload 5, 2) := by decide +kernel
theorem dL_law_1057 : decode cL_law 1057 = .ok (.ifCond .ne 15, 3) := by decide +kernel
theorem dL_law_1060 : decode cL_law 1060 = .ok (.aload_n 3, 1) := by decide +kernel
theorem dL_law_1061 : decode cL_law 1061 = .ok (.iconst 0, 1) := by decide +kernel
theorem dL_law_1062 : decode cL_law 1062 = .ok (.laload, 1) := by decide +kernel
theorem dL_law_1063 : decode cL_law 1063 = .ok (.iload 6, 2) := by decide +kernel
theorem dL_law_1065 : decode cL_law 1065 = .ok (.i2l, 1) := by decide +kernel
theorem dL_law_1066 : decode cL_law 1066 = .ok (.lcmp, 1) := by decide +kernel
theorem dL_law_1067 : decode cL_law 1067 = .ok (.ifCond .eq 5, 3) := by decide +kernel
theorem dL_law_1070 : decode cL_law 1070 = .ok (.iconst 0, 1) := by decide +kernel
theorem dL_law_1071 : decode cL_law 1071 = .ok (.ireturn, 1) := by decide +kernel
theorem dL_law_1072 : decode cL_law 1072 = .ok (.goto 295, 3) := by decide +kernel
theorem dL_law_1075 : decode cL_law 1075 = .ok (.aload_n 1, 1) := by decide +kernel
theorem dL_law_1076 : decode cL_law 1076 = .ok (.aload_n 0, 1) := by decide +kernel
theorem dL_law_1077 : decode cL_law 1077 = .ok (.iload 4, 2) := by decide +kernel
theorem dL_law_1079 : decode cL_law 1079 = .ok (.iconst 1, 1) := by decide +kernel
theorem dL_law_1080 : decode cL_law 1080 = .ok (.iadd, 1) := by decide +kernel
theorem dL_law_1081 : decode cL_law 1081 = .ok (.iaload, 1) := by decide +kernel
theorem dL_law_1082 : decode cL_law 1082 = .ok (.aload_n 3, 1) := by decide +kernel
theorem dL_law_1083 : decode cL_law 1083 = .ok (.invokestatic 129, 3) := by decide +kernel
theorem dL_law_1086 : decode cL_law 1086 = .ok (.istore 5, 2) := by decide +kernel
theorem dL_law_1088 : decode cL_law 1088 = .ok (.aload_n 2, 1) := by decide +kernel
theorem dL_law_1089 : decode cL_law 1089 = .ok (.aload_n 0, 1) := by decide +kernel
theorem dL_law_1090 : decode cL_law 1090 = .ok (.iload 4, 2) := by decide +kernel
theorem dL_law_1092 : decode cL_law 1092 = .ok (.iconst 1, 1) := by decide +kernel
theorem dL_law_1093 : decode cL_law 1093 = .ok (.iadd, 1) := by decide +kernel
theorem dL_law_1094 : decode cL_law 1094 = .ok (.iaload, 1) := by decide +kernel
theorem dL_law_1095 : decode cL_law 1095 = .ok (.invokevirtual 131, 3) := by decide +kernel
theorem dL_law_1098 : decode cL_law 1098 = .ok (.istore 6, 2) := by decide +kernel
theorem dL_law_1100 : decode cL_law 1100 = .ok (.aload_n 2, 1) := by decide +kernel
theorem dL_law_1101 : decode cL_law 1101 = .ok (.invokevirtual 82, 3) := by decide +kernel
theorem dL_law_1104 : decode cL_law 1104 = .ok (.iload 5, 2) := by decide +kernel
theorem dL_law_1106 : decode cL_law 1106 = .ok (.if_icmp .eq 5, 3) := by decide +kernel
theorem dL_law_1109 : decode cL_law 1109 = .ok (.iconst 0, 1) := by decide +kernel
theorem dL_law_1110 : decode cL_law 1110 = .ok (.ireturn, 1) := by decide +kernel
theorem dL_law_1111 : decode cL_law 1111 = .ok (.iload 5, 2) := by decide +kernel
theorem dL_law_1113 : decode cL_law 1113 = .ok (.ifCond .ne 15, 3) := by decide +kernel
theorem dL_law_1116 : decode cL_law 1116 = .ok (.aload_n 3, 1) := by decide +kernel
theorem dL_law_1117 : decode cL_law 1117 = .ok (.iconst 0, 1) := by decide +kernel
theorem dL_law_1118 : decode cL_law 1118 = .ok (.laload, 1) := by decide +kernel
theorem dL_law_1119 : decode cL_law 1119 = .ok (.iload 6, 2) := by decide +kernel
theorem dL_law_1121 : decode cL_law 1121 = .ok (.i2l, 1) := by decide +kernel
theorem dL_law_1122 : decode cL_law 1122 = .ok (.lcmp, 1) := by decide +kernel
theorem dL_law_1123 : decode cL_law 1123 = .ok (.ifCond .eq 5, 3) := by decide +kernel
theorem dL_law_1126 : decode cL_law 1126 = .ok (.iconst 0, 1) := by decide +kernel
theorem dL_law_1127 : decode cL_law 1127 = .ok (.ireturn, 1) := by decide +kernel
theorem dL_law_1128 : decode cL_law 1128 = .ok (.goto 239, 3) := by decide +kernel
theorem dL_law_1131 : decode cL_law 1131 = .ok (.aload_n 1, 1) := by decide +kernel
theorem dL_law_1132 : decode cL_law 1132 = .ok (.aload_n 3, 1) := by decide +kernel
theorem dL_law_1133 : decode cL_law 1133 = .ok (.invokestatic 132, 3) := by decide +kernel
theorem dL_law_1136 : decode cL_law 1136 = .ok (.istore 5, 2) := by decide +kernel
theorem dL_law_1138 : decode cL_law 1138 = .ok (.aload_n 2, 1) := by decide +kernel
theorem dL_law_1139 : decode cL_law 1139 = .ok (.invokevirtual 134, 3) := by decide +kernel
theorem dL_law_1142 : decode cL_law 1142 = .ok (.istore 6, 2) := by decide +kernel
theorem dL_law_1144 : decode cL_law 1144 = .ok (.aload_n 2, 1) := by decide +kernel
theorem dL_law_1145 : decode cL_law 1145 = .ok (.invokevirtual 82, 3) := by decide +kernel
theorem dL_law_1148 : decode cL_law 1148 = .ok (.iload 5, 2) := by decide +kernel
theorem dL_law_1150 : decode cL_law 1150 = .ok (.if_icmp .eq 5, 3) := by decide +kernel
theorem dL_law_1153 : decode cL_law 1153 = .ok (.iconst 0, 1) := by decide +kernel
theorem dL_law_1154 : decode cL_law 1154 = .ok (.ireturn, 1) := by decide +kernel
theorem dL_law_1155 : decode cL_law 1155 = .ok (.iload 5, 2) := by decide +kernel
theorem dL_law_1157 : decode cL_law 1157 = .ok (.ifCond .ne 15, 3) := by decide +kernel
theorem dL_law_1160 : decode cL_law 1160 = .ok (.aload_n 3, 1) := by decide +kernel
theorem dL_law_1161 : decode cL_law 1161 = .ok (.iconst 0, 1) := by decide +kernel
theorem dL_law_1162 : decode cL_law 1162 = .ok (.laload, 1) := by decide +kernel
theorem dL_law_1163 : decode cL_law 1163 = .ok (.iload 6, 2) := by decide +kernel
theorem dL_law_1165 : decode cL_law 1165 = .ok (.i2l, 1) := by decide +kernel
theorem dL_law_1166 : decode cL_law 1166 = .ok (.lcmp, 1) := by decide +kernel
theorem dL_law_1167 : decode cL_law 1167 = .ok (.ifCond .eq 5, 3) := by decide +kernel
theorem dL_law_1170 : decode cL_law 1170 = .ok (.iconst 0, 1) := by decide +kernel
theorem dL_law_1171 : decode cL_law 1171 = .ok (.ireturn, 1) := by decide +kernel
theorem dL_law_1172 : decode cL_law 1172 = .ok (.goto 195, 3) := by decide +kernel
theorem dL_law_1175 : decode cL_law 1175 = .ok (.aload_n 1, 1) := by decide +kernel
theorem dL_law_1176 : decode cL_law 1176 = .ok (.aload_n 3, 1) := by decide +kernel
theorem dL_law_1177 : decode cL_law 1177 = .ok (.invokestatic 135, 3) := by decide +kernel
theorem dL_law_1180 : decode cL_law 1180 = .ok (.istore 5, 2) := by decide +kernel
theorem dL_law_1182 : decode cL_law 1182 = .ok (.aload_n 2, 1) := by decide +kernel
theorem dL_law_1183 : decode cL_law 1183 = .ok (.invokevirtual 137, 3) := by decide +kernel
theorem dL_law_1186 : decode cL_law 1186 = .ok (.istore 6, 2) := by decide +kernel
theorem dL_law_1188 : decode cL_law 1188 = .ok (.aload_n 2, 1) := by decide +kernel
theorem dL_law_1189 : decode cL_law 1189 = .ok (.invokevirtual 82, 3) := by decide +kernel
theorem dL_law_1192 : decode cL_law 1192 = .ok (.iload 5, 2) := by decide +kernel
theorem dL_law_1194 : decode cL_law 1194 = .ok (.if_icmp .eq 5, 3) := by decide +kernel
theorem dL_law_1197 : decode cL_law 1197 = .ok (.iconst 0, 1) := by decide +kernel
theorem dL_law_1198 : decode cL_law 1198 = .ok (.ireturn, 1) := by decide +kernel
theorem dL_law_1199 : decode cL_law 1199 = .ok (.iload 5, 2) := by decide +kernel
theorem dL_law_1201 : decode cL_law 1201 = .ok (.ifCond .ne 15, 3) := by decide +kernel
theorem dL_law_1204 : decode cL_law 1204 = .ok (.aload_n 3, 1) := by decide +kernel
theorem dL_law_1205 : decode cL_law 1205 = .ok (.iconst 0, 1) := by decide +kernel
theorem dL_law_1206 : decode cL_law 1206 = .ok (.laload, 1) := by decide +kernel
theorem dL_law_1207 : decode cL_law 1207 = .ok (.iload 6, 2) := by decide +kernel
theorem dL_law_1209 : decode cL_law 1209 = .ok (.i2l, 1) := by decide +kernel
theorem dL_law_1210 : decode cL_law 1210 = .ok (.lcmp, 1) := by decide +kernel
theorem dL_law_1211 : decode cL_law 1211 = .ok (.ifCond .eq 5, 3) := by decide +kernel
theorem dL_law_1214 : decode cL_law 1214 = .ok (.iconst 0, 1) := by decide +kernel
theorem dL_law_1215 : decode cL_law 1215 = .ok (.ireturn, 1) := by decide +kernel
theorem dL_law_1216 : decode cL_law 1216 = .ok (.goto 151, 3) := by decide +kernel
theorem dL_law_1219 : decode cL_law 1219 = .ok (.aload_n 1, 1) := by decide +kernel
theorem dL_law_1220 : decode cL_law 1220 = .ok (.invokevirtual 138, 3) := by decide +kernel
theorem dL_law_1223 : decode cL_law 1223 = .ok (.aload_n 2, 1) := by decide +kernel
theorem dL_law_1224 : decode cL_law 1224 = .ok (.invokevirtual 142, 3) := by decide +kernel
theorem dL_law_1227 : decode cL_law 1227 = .ok (.if_icmp .eq 140, 3) := by decide +kernel
theorem dL_law_1230 : decode cL_law 1230 = .ok (.iconst 0, 1) := by decide +kernel
theorem dL_law_1231 : decode cL_law 1231 = .ok (.ireturn, 1) := by decide +kernel
theorem dL_law_1232 : decode cL_law 1232 = .ok (.aload_n 1, 1) := by decide +kernel
theorem dL_law_1233 : decode cL_law 1233 = .ok (.aload_n 0, 1) := by decide +kernel
theorem dL_law_1234 : decode cL_law 1234 = .ok (.iload 4, 2) := by decide +kernel
theorem dL_law_1236 : decode cL_law 1236 = .ok (.iconst 1, 1) := by decide +kernel
theorem dL_law_1237 : decode cL_law 1237 = .ok (.iadd, 1) := by decide +kernel
theorem dL_law_1238 : decode cL_law 1238 = .ok (.iaload, 1) := by decide +kernel
theorem dL_law_1239 : decode cL_law 1239 = .ok (.aload_n 0, 1) := by decide +kernel
theorem dL_law_1240 : decode cL_law 1240 = .ok (.iload 4, 2) := by decide +kernel
theorem dL_law_1242 : decode cL_law 1242 = .ok (.iconst 2, 1) := by decide +kernel
theorem dL_law_1243 : decode cL_law 1243 = .ok (.iadd, 1) := by decide +kernel
theorem dL_law_1244 : decode cL_law 1244 = .ok (.iaload, 1) := by decide +kernel
theorem dL_law_1245 : decode cL_law 1245 = .ok (.aload_n 3, 1) := by decide +kernel
theorem dL_law_1246 : decode cL_law 1246 = .ok (.invokestatic 143, 3) := by decide +kernel
theorem dL_law_1249 : decode cL_law 1249 = .ok (.istore 5, 2) := by decide +kernel
theorem dL_law_1251 : decode cL_law 1251 = .ok (.aload_n 2, 1) := by decide +kernel
theorem dL_law_1252 : decode cL_law 1252 = .ok (.aload_n 0, 1) := by decide +kernel
theorem dL_law_1253 : decode cL_law 1253 = .ok (.iload 4, 2) := by decide +kernel
theorem dL_law_1255 : decode cL_law 1255 = .ok (.iconst 1, 1) := by decide +kernel
theorem dL_law_1256 : decode cL_law 1256 = .ok (.iadd, 1) := by decide +kernel
theorem dL_law_1257 : decode cL_law 1257 = .ok (.iaload, 1) := by decide +kernel
theorem dL_law_1258 : decode cL_law 1258 = .ok (.aload_n 0, 1) := by decide +kernel
theorem dL_law_1259 : decode cL_law 1259 = .ok (.iload 4, 2) := by decide +kernel
theorem dL_law_1261 : decode cL_law 1261 = .ok (.iconst 2, 1) := by decide +kernel
theorem dL_law_1262 : decode cL_law 1262 = .ok (.iadd, 1) := by decide +kernel
theorem dL_law_1263 : decode cL_law 1263 = .ok (.iaload, 1) := by decide +kernel
theorem dL_law_1264 : decode cL_law 1264 = .ok (.invokevirtual 145, 3) := by decide +kernel
theorem dL_law_1267 : decode cL_law 1267 = .ok (.istore 6, 2) := by decide +kernel
theorem dL_law_1269 : decode cL_law 1269 = .ok (.aload_n 2, 1) := by decide +kernel
theorem dL_law_1270 : decode cL_law 1270 = .ok (.invokevirtual 82, 3) := by decide +kernel
theorem dL_law_1273 : decode cL_law 1273 = .ok (.iload 5, 2) := by decide +kernel
theorem dL_law_1275 : decode cL_law 1275 = .ok (.if_icmp .eq 5, 3) := by decide +kernel
theorem dL_law_1278 : decode cL_law 1278 = .ok (.iconst 0, 1) := by decide +kernel
theorem dL_law_1279 : decode cL_law 1279 = .ok (.ireturn, 1) := by decide +kernel
theorem dL_law_1280 : decode cL_law 1280 = .ok (.iload 5, 2) := by decide +kernel
theorem dL_law_1282 : decode cL_law 1282 = .ok (.ifCond .ne 15, 3) := by decide +kernel
theorem dL_law_1285 : decode cL_law 1285 = .ok (.aload_n 3, 1) := by decide +kernel
theorem dL_law_1286 : decode cL_law 1286 = .ok (.iconst 0, 1) := by decide +kernel
theorem dL_law_1287 : decode cL_law 1287 = .ok (.laload, 1) := by decide +kernel
theorem dL_law_1288 : decode cL_law 1288 = .ok (.iload 6, 2) := by decide +kernel
theorem dL_law_1290 : decode cL_law 1290 = .ok (.i2l, 1) := by decide +kernel
theorem dL_law_1291 : decode cL_law 1291 = .ok (.lcmp, 1) := by decide +kernel
theorem dL_law_1292 : decode cL_law 1292 = .ok (.ifCond .eq 5, 3) := by decide +kernel
theorem dL_law_1295 : decode cL_law 1295 = .ok (.iconst 0, 1) := by decide +kernel
theorem dL_law_1296 : decode cL_law 1296 = .ok (.ireturn, 1) := by decide +kernel
theorem dL_law_1297 : decode cL_law 1297 = .ok (.goto 70, 3) := by decide +kernel
theorem dL_law_1300 : decode cL_law 1300 = .ok (.aload_n 1, 1) := by decide +kernel
theorem dL_law_1301 : decode cL_law 1301 = .ok (.aload_n 0, 1) := by decide +kernel
theorem dL_law_1302 : decode cL_law 1302 = .ok (.iload 4, 2) := by decide +kernel
theorem dL_law_1304 : decode cL_law 1304 = .ok (.iconst 1, 1) := by decide +kernel
theorem dL_law_1305 : decode cL_law 1305 = .ok (.iadd, 1) := by decide +kernel
theorem dL_law_1306 : decode cL_law 1306 = .ok (.iaload, 1) := by decide +kernel
theorem dL_law_1307 : decode cL_law 1307 = .ok (.aload_n 3, 1) := by decide +kernel
theorem dL_law_1308 : decode cL_law 1308 = .ok (.invokestatic 146, 3) := by decide +kernel
theorem dL_law_1311 : decode cL_law 1311 = .ok (.istore 5, 2) := by decide +kernel
theorem dL_law_1313 : decode cL_law 1313 = .ok (.aload_n 2, 1) := by decide +kernel
theorem dL_law_1314 : decode cL_law 1314 = .ok (.aload_n 0, 1) := by decide +kernel
theorem dL_law_1315 : decode cL_law 1315 = .ok (.iload 4, 2) := by decide +kernel
theorem dL_law_1317 : decode cL_law 1317 = .ok (.iconst 1, 1) := by decide +kernel
theorem dL_law_1318 : decode cL_law 1318 = .ok (.iadd, 1) := by decide +kernel
theorem dL_law_1319 : decode cL_law 1319 = .ok (.iaload, 1) := by decide +kernel
theorem dL_law_1320 : decode cL_law 1320 = .ok (.invokevirtual 148, 3) := by decide +kernel
theorem dL_law_1323 : decode cL_law 1323 = .ok (.istore 6, 2) := by decide +kernel
theorem dL_law_1325 : decode cL_law 1325 = .ok (.aload_n 2, 1) := by decide +kernel
theorem dL_law_1326 : decode cL_law 1326 = .ok (.invokevirtual 82, 3) := by decide +kernel
theorem dL_law_1329 : decode cL_law 1329 = .ok (.iload 5, 2) := by decide +kernel
theorem dL_law_1331 : decode cL_law 1331 = .ok (.if_icmp .eq 5, 3) := by decide +kernel
theorem dL_law_1334 : decode cL_law 1334 = .ok (.iconst 0, 1) := by decide +kernel
theorem dL_law_1335 : decode cL_law 1335 = .ok (.ireturn, 1) := by decide +kernel
theorem dL_law_1336 : decode cL_law 1336 = .ok (.iload 5, 2) := by decide +kernel
theorem dL_law_1338 : decode cL_law 1338 = .ok (.ifCond .ne 15, 3) := by decide +kernel
theorem dL_law_1341 : decode cL_law 1341 = .ok (.aload_n 3, 1) := by decide +kernel
theorem dL_law_1342 : decode cL_law 1342 = .ok (.iconst 0, 1) := by decide +kernel
theorem dL_law_1343 : decode cL_law 1343 = .ok (.laload, 1) := by decide +kernel
theorem dL_law_1344 : decode cL_law 1344 = .ok (.iload 6, 2) := by decide +kernel
theorem dL_law_1346 : decode cL_law 1346 = .ok (.i2l, 1) := by decide +kernel
theorem dL_law_1347 : decode cL_law 1347 = .ok (.lcmp, 1) := by decide +kernel
theorem dL_law_1348 : decode cL_law 1348 = .ok (.ifCond .eq 5, 3) := by decide +kernel
theorem dL_law_1351 : decode cL_law 1351 = .ok (.iconst 0, 1) := by decide +kernel
theorem dL_law_1352 : decode cL_law 1352 = .ok (.ireturn, 1) := by decide +kernel
theorem dL_law_1353 : decode cL_law 1353 = .ok (.goto 14, 3) := by decide +kernel
theorem dL_law_1356 : decode cL_law 1356 = .ok (.aload_n 1, 1) := by decide +kernel
theorem dL_law_1357 : decode cL_law 1357 = .ok (.invokevirtual 149, 3) := by decide +kernel
theorem dL_law_1360 : decode cL_law 1360 = .ok (.aload_n 2, 1) := by decide +kernel
theorem dL_law_1361 : decode cL_law 1361 = .ok (.invokevirtual 152, 3) := by decide +kernel
theorem dL_law_1364 : decode cL_law 1364 = .ok (.goto 3, 3) := by decide +kernel
theorem dL_law_1367 : decode cL_law 1367 = .ok (.iinc 4 6, 3) := by decide +kernel
theorem dL_law_1370 : decode cL_law 1370 = .ok (.goto (-1347), 3) := by decide +kernel
theorem dL_law_1373 : decode cL_law 1373 = .ok (.iconst 1, 1) := by decide +kernel
theorem dL_law_1374 : decode cL_law 1374 = .ok (.ireturn, 1) := by decide +kernel
