def RX0 : String := "CountedTerms$History"
def TX0 : u_T := fun k => match k with
  | 0 => ("CountedTerms$History", "shelf", "LCountedTerms$Shelf;", true)
  | 1 => ("CountedTerms$History", "next", "I", false)
  | _ => ("CountedTerms$History", "length", "I", false)
def tyX0 : Nat → FieldType := fun k => match k with
  | 0 => .object "CountedTerms$Shelf"
  | 1 => .int
  | _ => .int
abbrev wsX00 : List Cond := u_ws RX0 TX0 3
theorem nmX0 : ∀ a, a < 3 → ∀ b, b < 3 → a ≠ b → (TX0 a).2.1 ≠ (TX0 b).2.1 := by decide +kernel
theorem tyX0_ok : ∀ k, k < 3 → parseFieldDescriptor (TX0 k).2.2.1 = some (tyX0 k) := by decide +kernel
abbrev cX0_init : ByteArray := prog_2_method_1_code
def yX0_init : MethodName := ⟨RX0, "<init>", "(LCountedTerms$Shelf;)V"⟩
abbrev cX0_keepState : ByteArray := prog_2_method_3_code
def yX0_keepState : MethodName := ⟨RX0, "keepState", "()V"⟩
def RX1 : String := "CountedTerms$Pad"
def TX1 : u_T := fun k => match k with
  | 0 => ("CountedTerms$Pad", "characters", "LCountedTerms$Row;", true)
  | 1 => ("CountedTerms$Pad", "awaited", "LCountedTerms$Row;", true)
  | _ => ("CountedTerms$Pad", "length", "I", false)
def tyX1 : Nat → FieldType := fun k => match k with
  | 0 => .object "CountedTerms$Row"
  | 1 => .object "CountedTerms$Row"
  | _ => .int
abbrev wsX10 : List Cond := u_ws RX1 TX1 3
theorem nmX1 : ∀ a, a < 3 → ∀ b, b < 3 → a ≠ b → (TX1 a).2.1 ≠ (TX1 b).2.1 := by decide +kernel
theorem tyX1_ok : ∀ k, k < 3 → parseFieldDescriptor (TX1 k).2.2.1 = some (tyX1 k) := by decide +kernel
abbrev cX1_init : ByteArray := prog_3_method_1_code
def yX1_init : MethodName := ⟨RX1, "<init>", "()V"⟩
abbrev cX1_charactersIn : ByteArray := prog_3_method_2_code
def yX1_charactersIn : MethodName := ⟨RX1, "charactersIn", "(J)I"⟩
abbrev cX1_length : ByteArray := prog_3_method_3_code
def yX1_length : MethodName := ⟨RX1, "length", "()I"⟩
abbrev cX1_empty : ByteArray := prog_3_method_4_code
def yX1_empty : MethodName := ⟨RX1, "empty", "()V"⟩
abbrev cX1_append : ByteArray := prog_3_method_5_code
def yX1_append : MethodName := ⟨RX1, "append", "(JI)V"⟩
abbrev cX1_firstWrong : ByteArray := prog_3_method_6_code
def yX1_firstWrong : MethodName := ⟨RX1, "firstWrong", "()I"⟩
abbrev cX1_writeTo : ByteArray := prog_3_method_7_code
def yX1_writeTo : MethodName := ⟨RX1, "writeTo", "(LCountedTerms$Shelf;I)V"⟩
abbrev cX1_kindOf : ByteArray := prog_3_method_8_code
def yX1_kindOf : MethodName := ⟨RX1, "kindOf", "(I)I"⟩
def RX2 : String := "CountedTerms$Rewriter"
def TX2 : u_T := fun k => match k with
  | 0 => ("CountedTerms$Rewriter", "shelf", "LCountedTerms$Shelf;", true)
  | 1 => ("CountedTerms$Rewriter", "survey", "LCountedTerms$Survey;", true)
  | 2 => ("CountedTerms$Rewriter", "steps", "I", false)
  | _ => ("CountedTerms$Rewriter", "greatest", "I", false)
def tyX2 : Nat → FieldType := fun k => match k with
  | 0 => .object "CountedTerms$Shelf"
  | 1 => .object "CountedTerms$Survey"
  | 2 => .int
  | _ => .int
abbrev wsX20 : List Cond := u_ws RX2 TX2 4
theorem nmX2 : ∀ a, a < 4 → ∀ b, b < 4 → a ≠ b → (TX2 a).2.1 ≠ (TX2 b).2.1 := by decide +kernel
theorem tyX2_ok : ∀ k, k < 4 → parseFieldDescriptor (TX2 k).2.2.1 = some (tyX2 k) := by decide +kernel
abbrev cX2_init : ByteArray := prog_4_method_1_code
def yX2_init : MethodName := ⟨RX2, "<init>", "(LCountedTerms$Shelf;LCountedTerms$Survey;)V"⟩
abbrev cX2_stepsDone : ByteArray := prog_4_method_2_code
def yX2_stepsDone : MethodName := ⟨RX2, "stepsDone", "()I"⟩
abbrev cX2_doSteps : ByteArray := prog_4_method_4_code
def yX2_doSteps : MethodName := ⟨RX2, "doSteps", "(III)Z"⟩
abbrev cX2_lengthBehind : ByteArray := prog_4_method_5_code
def yX2_lengthBehind : MethodName := ⟨RX2, "lengthBehind", "(I)I"⟩
abbrev cX2_rewrite : ByteArray := prog_4_method_6_code
def yX2_rewrite : MethodName := ⟨RX2, "rewrite", "(I)V"⟩
abbrev cX2_draftArgument : ByteArray := prog_4_method_7_code
def yX2_draftArgument : MethodName := ⟨RX2, "draftArgument", "(II)V"⟩
abbrev cX2_functionsWithin : ByteArray := prog_4_method_8_code
def yX2_functionsWithin : MethodName := ⟨RX2, "functionsWithin", "(II)I"⟩
def RX3 : String := "CountedTerms$Row"
def TX3 : u_T := fun k => match k with
  | _ => ("CountedTerms$Row", "numbers", "[I", true)
def tyX3 : Nat → FieldType := fun k => match k with
  | _ => .array .int
abbrev wsX30 : List Cond := u_ws RX3 TX3 1
theorem nmX3 : ∀ a, a < 1 → ∀ b, b < 1 → a ≠ b → (TX3 a).2.1 ≠ (TX3 b).2.1 := by decide +kernel
theorem tyX3_ok : ∀ k, k < 1 → parseFieldDescriptor (TX3 k).2.2.1 = some (tyX3 k) := by decide +kernel
abbrev cX3_init : ByteArray := prog_5_method_1_code
def yX3_init : MethodName := ⟨RX3, "<init>", "(I)V"⟩
abbrev cX3_get : ByteArray := prog_5_method_2_code
def yX3_get : MethodName := ⟨RX3, "get", "(I)I"⟩
abbrev cX3_set : ByteArray := prog_5_method_3_code
def yX3_set : MethodName := ⟨RX3, "set", "(II)V"⟩
abbrev cX3_move : ByteArray := prog_5_method_4_code
def yX3_move : MethodName := ⟨RX3, "move", "(III)V"⟩
def RX4 : String := "CountedTerms$Shelf"
def TX4 : u_T := fun k => match k with
  | 0 => ("CountedTerms$Shelf", "lengths", "LCountedTerms$Row;", true)
  | _ => ("CountedTerms$Shelf", "parts", "LCountedTerms$Row;", true)
def tyX4 : Nat → FieldType := fun k => match k with
  | 0 => .object "CountedTerms$Row"
  | _ => .object "CountedTerms$Row"
abbrev wsX40 : List Cond := u_ws RX4 TX4 2
theorem nmX4 : ∀ a, a < 2 → ∀ b, b < 2 → a ≠ b → (TX4 a).2.1 ≠ (TX4 b).2.1 := by decide +kernel
theorem tyX4_ok : ∀ k, k < 2 → parseFieldDescriptor (TX4 k).2.2.1 = some (tyX4 k) := by decide +kernel
abbrev cX4_init : ByteArray := prog_6_method_1_code
def yX4_init : MethodName := ⟨RX4, "<init>", "()V"⟩
abbrev cX4_length : ByteArray := prog_6_method_2_code
def yX4_length : MethodName := ⟨RX4, "length", "(I)I"⟩
abbrev cX4_kind : ByteArray := prog_6_method_3_code
def yX4_kind : MethodName := ⟨RX4, "kind", "(II)I"⟩
abbrev cX4_number : ByteArray := prog_6_method_4_code
def yX4_number : MethodName := ⟨RX4, "number", "(II)I"⟩
abbrev cX4_clear : ByteArray := prog_6_method_5_code
def yX4_clear : MethodName := ⟨RX4, "clear", "(I)V"⟩
abbrev cX4_append : ByteArray := prog_6_method_6_code
def yX4_append : MethodName := ⟨RX4, "append", "(III)V"⟩
abbrev cX4_appendParts : ByteArray := prog_6_method_7_code
def yX4_appendParts : MethodName := ⟨RX4, "appendParts", "(IIII)V"⟩
abbrev cX4_duplicate : ByteArray := prog_6_method_8_code
def yX4_duplicate : MethodName := ⟨RX4, "duplicate", "(II)V"⟩
abbrev cX4_duplicateState : ByteArray := prog_6_method_9_code
def yX4_duplicateState : MethodName := ⟨RX4, "duplicateState", "(II)V"⟩
abbrev cX4_partsOfKind : ByteArray := prog_6_method_11_code
def yX4_partsOfKind : MethodName := ⟨RX4, "partsOfKind", "(II)I"⟩
abbrev cX4_greatestVariable : ByteArray := prog_6_method_12_code
def yX4_greatestVariable : MethodName := ⟨RX4, "greatestVariable", "(I)I"⟩
def RX5 : String := "CountedTerms$Survey"
def TX5 : u_T := fun k => match k with
  | 0 => ("CountedTerms$Survey", "shelf", "LCountedTerms$Shelf;", true)
  | 1 => ("CountedTerms$Survey", "behind", "LCountedTerms$Row;", true)
  | 2 => ("CountedTerms$Survey", "around", "LCountedTerms$Row;", true)
  | 3 => ("CountedTerms$Survey", "nearest", "LCountedTerms$Row;", true)
  | 4 => ("CountedTerms$Survey", "term", "I", false)
  | _ => ("CountedTerms$Survey", "length", "I", false)
def tyX5 : Nat → FieldType := fun k => match k with
  | 0 => .object "CountedTerms$Shelf"
  | 1 => .object "CountedTerms$Row"
  | 2 => .object "CountedTerms$Row"
  | 3 => .object "CountedTerms$Row"
  | 4 => .int
  | _ => .int
abbrev wsX50 : List Cond := u_ws RX5 TX5 6
theorem nmX5 : ∀ a, a < 6 → ∀ b, b < 6 → a ≠ b → (TX5 a).2.1 ≠ (TX5 b).2.1 := by decide +kernel
theorem tyX5_ok : ∀ k, k < 6 → parseFieldDescriptor (TX5 k).2.2.1 = some (tyX5 k) := by decide +kernel
abbrev cX5_init : ByteArray := prog_7_method_1_code
def yX5_init : MethodName := ⟨RX5, "<init>", "(LCountedTerms$Shelf;)V"⟩
abbrev cX5_look : ByteArray := prog_7_method_2_code
def yX5_look : MethodName := ⟨RX5, "look", "(I)V"⟩
abbrev cX5_term : ByteArray := prog_7_method_3_code
def yX5_term : MethodName := ⟨RX5, "term", "()I"⟩
abbrev cX5_behind : ByteArray := prog_7_method_4_code
def yX5_behind : MethodName := ⟨RX5, "behind", "(I)I"⟩
abbrev cX5_around : ByteArray := prog_7_method_5_code
def yX5_around : MethodName := ⟨RX5, "around", "(I)I"⟩
abbrev cX5_binder : ByteArray := prog_7_method_6_code
def yX5_binder : MethodName := ⟨RX5, "binder", "(I)I"⟩
abbrev cX5_mostAround : ByteArray := prog_7_method_7_code
def yX5_mostAround : MethodName := ⟨RX5, "mostAround", "()I"⟩
abbrev cX5_reduciblePlaces : ByteArray := prog_7_method_8_code
def yX5_reduciblePlaces : MethodName := ⟨RX5, "reduciblePlaces", "()I"⟩
abbrev cX5_next : ByteArray := prog_7_method_9_code
def yX5_next : MethodName := ⟨RX5, "next", "(I)I"⟩
abbrev cX5_printed : ByteArray := prog_7_method_10_code
def yX5_printed : MethodName := ⟨RX5, "printed", "(I)I"⟩
abbrev cX5_findEnds : ByteArray := prog_7_method_11_code
def yX5_findEnds : MethodName := ⟨RX5, "findEnds", "()V"⟩
abbrev cX5_findSurroundings : ByteArray := prog_7_method_12_code
def yX5_findSurroundings : MethodName := ⟨RX5, "findSurroundings", "()V"⟩
abbrev cX5_surroundAs : ByteArray := prog_7_method_13_code
def yX5_surroundAs : MethodName := ⟨RX5, "surroundAs", "(II)V"⟩
abbrev cX5_isReducible : ByteArray := prog_7_method_14_code
def yX5_isReducible : MethodName := ⟨RX5, "isReducible", "(I)Z"⟩
abbrev cX5_firstInner : ByteArray := prog_7_method_15_code
def yX5_firstInner : MethodName := ⟨RX5, "firstInner", "()I"⟩
abbrev cX5_sign : ByteArray := prog_7_method_16_code
def yX5_sign : MethodName := ⟨RX5, "sign", "(I)I"⟩
abbrev cX5_letter : ByteArray := prog_7_method_17_code
def yX5_letter : MethodName := ⟨RX5, "letter", "(I)I"⟩
def RX6 : String := "CountedTerms"
def TX6 : u_T := fun k => match k with
  | 0 => ("CountedTerms", "shelf", "LCountedTerms$Shelf;", true)
  | 1 => ("CountedTerms", "survey", "LCountedTerms$Survey;", true)
  | 2 => ("CountedTerms", "rewriter", "LCountedTerms$Rewriter;", true)
  | 3 => ("CountedTerms", "history", "LCountedTerms$History;", true)
  | _ => ("CountedTerms", "pad", "LCountedTerms$Pad;", true)
def tyX6 : Nat → FieldType := fun k => match k with
  | 0 => .object "CountedTerms$Shelf"
  | 1 => .object "CountedTerms$Survey"
  | 2 => .object "CountedTerms$Rewriter"
  | 3 => .object "CountedTerms$History"
  | _ => .object "CountedTerms$Pad"
abbrev wsX60 : List Cond := u_ws RX6 TX6 5
theorem nmX6 : ∀ a, a < 5 → ∀ b, b < 5 → a ≠ b → (TX6 a).2.1 ≠ (TX6 b).2.1 := by decide +kernel
theorem tyX6_ok : ∀ k, k < 5 → parseFieldDescriptor (TX6 k).2.2.1 = some (tyX6 k) := by decide +kernel
abbrev cX6_init : ByteArray := prog_1_method_1_code
def yX6_init : MethodName := ⟨RX6, "<init>", "()V"⟩
abbrev cX6_read : ByteArray := prog_1_method_2_code
def yX6_read : MethodName := ⟨RX6, "read", "(I)I"⟩
abbrev cX6_bind : ByteArray := prog_1_method_5_code
def yX6_bind : MethodName := ⟨RX6, "bind", "(III)I"⟩
abbrev cX6_step : ByteArray := prog_1_method_6_code
def yX6_step : MethodName := ⟨RX6, "step", "(II)I"⟩
abbrev cX6_of : ByteArray := prog_1_method_8_code
def yX6_of : MethodName := ⟨RX6, "of", "(II)I"⟩
abbrev cX6_part : ByteArray := prog_1_method_9_code
def yX6_part : MethodName := ⟨RX6, "part", "(III)I"⟩
abbrev cX6_named : ByteArray := prog_1_method_10_code
def yX6_named : MethodName := ⟨RX6, "named", "(II)I"⟩
abbrev cX6_ends : ByteArray := prog_1_method_13_code
def yX6_ends : MethodName := ⟨RX6, "ends", "(III)I"⟩
abbrev cX6_put : ByteArray := prog_1_method_17_code
def yX6_put : MethodName := ⟨RX6, "put", "(J)I"⟩
abbrev cX6_wipe : ByteArray := prog_1_method_18_code
def yX6_wipe : MethodName := ⟨RX6, "wipe", "()I"⟩
abbrev cX6_fault : ByteArray := prog_1_method_19_code
def yX6_fault : MethodName := ⟨RX6, "fault", "()I"⟩
abbrev cX6_isRegister : ByteArray := prog_1_method_23_code
def yX6_isRegister : MethodName := ⟨RX6, "isRegister", "(I)Z"⟩
abbrev cX6_isOrder : ByteArray := prog_1_method_24_code
def yX6_isOrder : MethodName := ⟨RX6, "isOrder", "(I)Z"⟩
abbrev cX6_isFuel : ByteArray := prog_1_method_25_code
def yX6_isFuel : MethodName := ⟨RX6, "isFuel", "(I)Z"⟩
abbrev cX6_draftFunction : ByteArray := prog_1_method_27_code
def yX6_draftFunction : MethodName := ⟨RX6, "draftFunction", "(II)I"⟩
def RX7 : String := "CountedTermsModel"
def TX7 : u_T := fun k => match k with
  | _ => ("", "", "", false)
def tyX7 : Nat → FieldType := fun k => match k with
  | _ => .int
abbrev wsX70 : List Cond := u_ws RX7 TX7 0
theorem nmX7 : ∀ a, a < 0 → ∀ b, b < 0 → a ≠ b → (TX7 a).2.1 ≠ (TX7 b).2.1 := by decide +kernel
theorem tyX7_ok : ∀ k, k < 0 → parseFieldDescriptor (TX7 k).2.2.1 = some (tyX7 k) := by decide +kernel
def RJ9 : String := "java/lang/Math"
def TJ9 : u_T := fun k => match k with
  | _ => ("", "", "", false)
def tyJ9 : Nat → FieldType := fun k => match k with
  | _ => .int
abbrev wsJ90 : List Cond := u_ws RJ9 TJ9 0
theorem nmJ9 : ∀ a, a < 0 → ∀ b, b < 0 → a ≠ b → (TJ9 a).2.1 ≠ (TJ9 b).2.1 := by decide +kernel
theorem tyJ9_ok : ∀ k, k < 0 → parseFieldDescriptor (TJ9 k).2.2.1 = some (tyJ9 k) := by decide +kernel
abbrev cJ9_max_7cf53 : ByteArray := prog_10_method_65_code
def yJ9_max_7cf53 : MethodName := ⟨RJ9, "max", "(II)I"⟩
abbrev cJ9_min_7cf53 : ByteArray := prog_10_method_69_code
def yJ9_min_7cf53 : MethodName := ⟨RJ9, "min", "(II)I"⟩
def RJ10 : String := "java/lang/System"
def TJ10 : u_T := fun k => match k with
  | _ => ("", "", "", false)
def tyJ10 : Nat → FieldType := fun k => match k with
  | _ => .int
abbrev wsJ100 : List Cond := u_ws RJ10 TJ10 0
theorem nmJ10 : ∀ a, a < 0 → ∀ b, b < 0 → a ≠ b → (TJ10 a).2.1 ≠ (TJ10 b).2.1 := by decide +kernel
theorem tyJ10_ok : ∀ k, k < 0 → parseFieldDescriptor (TJ10 k).2.2.1 = some (tyJ10 k) := by decide +kernel
def RL : String := "CountedTermsLaw"
abbrev cL_cell : ByteArray := method_2_code
def yL_cell : MethodName := ⟨RL, "cell", "([II)I"⟩
abbrev cL_low : ByteArray := method_3_code
def yL_low : MethodName := ⟨RL, "low", "(II)I"⟩
abbrev cL_scan : ByteArray := method_4_code
def yL_scan : MethodName := ⟨RL, "scan", "([I[I[I[I)V"⟩
abbrev cL_end : ByteArray := method_5_code
def yL_end : MethodName := ⟨RL, "end", "([II)I"⟩
abbrev cL_deep : ByteArray := method_6_code
def yL_deep : MethodName := ⟨RL, "deep", "([II)I"⟩
abbrev cL_count : ByteArray := method_7_code
def yL_count : MethodName := ⟨RL, "count", "([I[II)I"⟩
abbrev cL_next : ByteArray := method_8_code
def yL_next : MethodName := ⟨RL, "next", "(I[I[I[I)I"⟩
abbrev cL_size : ByteArray := method_9_code
def yL_size : MethodName := ⟨RL, "size", "(I[I[I[I)I"⟩
abbrev cL_rewrite : ByteArray := method_10_code
def yL_rewrite : MethodName := ⟨RL, "rewrite", "(I[I[I[I[I[I[I[I)V"⟩
abbrev cL_same : ByteArray := method_11_code
def yL_same : MethodName := ⟨RL, "same", "(LCountedTerms;I[I[I[I[I[I)Z"⟩
abbrev cL_types : ByteArray := method_12_code
def yL_types : MethodName := ⟨RL, "types", "(LCountedTerms;II[I[I[I[I[I)Z"⟩
abbrev cL_law : ByteArray := code
def yL_law : MethodName := ⟨RL, "law", "([I)Z"⟩
abbrev vwCl : List vw_C := [(RX0, TX0, 3), (RX1, TX1, 3), (RX2, TX2, 4), (RX3, TX3, 1), (RX4, TX4, 2), (RX5, TX5, 6), (RX6, TX6, 5)]
theorem inX0 : ∀ w ∈ wsX00, w ∈ lw_tbl := by decide +kernel
theorem inX1 : ∀ w ∈ wsX10, w ∈ lw_tbl := by decide +kernel
theorem inX2 : ∀ w ∈ wsX20, w ∈ lw_tbl := by decide +kernel
theorem inX3 : ∀ w ∈ wsX30, w ∈ lw_tbl := by decide +kernel
theorem inX4 : ∀ w ∈ wsX40, w ∈ lw_tbl := by decide +kernel
theorem inX5 : ∀ w ∈ wsX50, w ∈ lw_tbl := by decide +kernel
theorem inX6 : ∀ w ∈ wsX60, w ∈ lw_tbl := by decide +kernel
theorem inX7 : ∀ w ∈ wsX70, w ∈ lw_tbl := by decide +kernel
