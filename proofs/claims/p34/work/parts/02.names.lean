def RX0 : String := "TestVersions$History"
def TX0 : u_T := fun k => match k with
  | 0 => ("TestVersions$History", "states", "[LTestVersions$State;", true)
  | 1 => ("TestVersions$History", "oldest", "I", false)
  | _ => ("TestVersions$History", "count", "I", false)
def tyX0 : Nat → FieldType := fun k => match k with
  | 0 => .array (.object "TestVersions$State")
  | 1 => .int
  | _ => .int
abbrev wsX00 : List Cond := u_ws RX0 TX0 3
theorem nmX0 : ∀ a, a < 3 → ∀ b, b < 3 → a ≠ b → (TX0 a).2.1 ≠ (TX0 b).2.1 := by decide +kernel
theorem tyX0_ok : ∀ k, k < 3 → parseFieldDescriptor (TX0 k).2.2.1 = some (tyX0 k) := by decide +kernel
abbrev cX0_init : ByteArray := prog_2_method_1_code
def yX0_init : MethodName := ⟨RX0, "<init>", "()V"⟩
abbrev cX0_keep : ByteArray := prog_2_method_2_code
def yX0_keep : MethodName := ⟨RX0, "keep", "(LTestVersions$State;)V"⟩
abbrev cX0_restore : ByteArray := prog_2_method_3_code
def yX0_restore : MethodName := ⟨RX0, "restore", "(LTestVersions$State;)V"⟩
abbrev cX0_stateAt : ByteArray := prog_2_method_4_code
def yX0_stateAt : MethodName := ⟨RX0, "stateAt", "(I)LTestVersions$State;"⟩
def RX1 : String := "TestVersions$Layout"
def TX1 : u_T := fun k => match k with
  | 0 => ("TestVersions$Layout", "heights", "LTestVersions$Row;", true)
  | 1 => ("TestVersions$Layout", "pageOf", "LTestVersions$Row;", true)
  | 2 => ("TestVersions$Layout", "lineOf", "LTestVersions$Row;", true)
  | 3 => ("TestVersions$Layout", "pageCounts", "LTestVersions$Row;", true)
  | 4 => ("TestVersions$Layout", "pageHeights", "LTestVersions$Row;", true)
  | 5 => ("TestVersions$Layout", "placeCount", "I", false)
  | _ => ("TestVersions$Layout", "pageCount", "I", false)
def tyX1 : Nat → FieldType := fun k => match k with
  | 0 => .object "TestVersions$Row"
  | 1 => .object "TestVersions$Row"
  | 2 => .object "TestVersions$Row"
  | 3 => .object "TestVersions$Row"
  | 4 => .object "TestVersions$Row"
  | 5 => .int
  | _ => .int
abbrev wsX10 : List Cond := u_ws RX1 TX1 7
theorem nmX1 : ∀ a, a < 7 → ∀ b, b < 7 → a ≠ b → (TX1 a).2.1 ≠ (TX1 b).2.1 := by decide +kernel
theorem tyX1_ok : ∀ k, k < 7 → parseFieldDescriptor (TX1 k).2.2.1 = some (tyX1 k) := by decide +kernel
abbrev cX1_init : ByteArray := prog_3_method_1_code
def yX1_init : MethodName := ⟨RX1, "<init>", "()V"⟩
abbrev cX1_lay : ByteArray := prog_3_method_2_code
def yX1_lay : MethodName := ⟨RX1, "lay", "(LTestVersions$Questions;LTestVersions$Paper;I)V"⟩
abbrev cX1_pagesFrom : ByteArray := prog_3_method_3_code
def yX1_pagesFrom : MethodName := ⟨RX1, "pagesFrom", "(II)I"⟩
abbrev cX1_lowestLimit : ByteArray := prog_3_method_4_code
def yX1_lowestLimit : MethodName := ⟨RX1, "lowestLimit", "(I)I"⟩
abbrev cX1_earliestEnd : ByteArray := prog_3_method_5_code
def yX1_earliestEnd : MethodName := ⟨RX1, "earliestEnd", "(III)I"⟩
abbrev cX1_fill : ByteArray := prog_3_method_6_code
def yX1_fill : MethodName := ⟨RX1, "fill", "(III)V"⟩
def RX2 : String := "TestVersions$Lots"
def TX2 : u_T := fun k => match k with
  | _ => ("TestVersions$Lots", "x", "I", false)
def tyX2 : Nat → FieldType := fun k => match k with
  | _ => .int
abbrev wsX20 : List Cond := u_ws RX2 TX2 1
theorem nmX2 : ∀ a, a < 1 → ∀ b, b < 1 → a ≠ b → (TX2 a).2.1 ≠ (TX2 b).2.1 := by decide +kernel
theorem tyX2_ok : ∀ k, k < 1 → parseFieldDescriptor (TX2 k).2.2.1 = some (tyX2 k) := by decide +kernel
abbrev cX2_init : ByteArray := prog_4_method_1_code
def yX2_init : MethodName := ⟨RX2, "<init>", "()V"⟩
abbrev cX2_begin : ByteArray := prog_4_method_2_code
def yX2_begin : MethodName := ⟨RX2, "begin", "(I)V"⟩
abbrev cX2_next : ByteArray := prog_4_method_3_code
def yX2_next : MethodName := ⟨RX2, "next", "(I)I"⟩
abbrev cX2_mix : ByteArray := prog_4_method_4_code
def yX2_mix : MethodName := ⟨RX2, "mix", "(LTestVersions$Row;I)V"⟩
def RX3 : String := "TestVersions$Mixer"
def TX3 : u_T := fun k => match k with
  | 0 => ("TestVersions$Mixer", "lots", "LTestVersions$Lots;", true)
  | 1 => ("TestVersions$Mixer", "units", "LTestVersions$Row;", true)
  | 2 => ("TestVersions$Mixer", "members", "LTestVersions$Row;", true)
  | _ => ("TestVersions$Mixer", "loose", "LTestVersions$Row;", true)
def tyX3 : Nat → FieldType := fun k => match k with
  | 0 => .object "TestVersions$Lots"
  | 1 => .object "TestVersions$Row"
  | 2 => .object "TestVersions$Row"
  | _ => .object "TestVersions$Row"
abbrev wsX30 : List Cond := u_ws RX3 TX3 4
theorem nmX3 : ∀ a, a < 4 → ∀ b, b < 4 → a ≠ b → (TX3 a).2.1 ≠ (TX3 b).2.1 := by decide +kernel
theorem tyX3_ok : ∀ k, k < 4 → parseFieldDescriptor (TX3 k).2.2.1 = some (tyX3 k) := by decide +kernel
abbrev cX3_init : ByteArray := prog_5_method_1_code
def yX3_init : MethodName := ⟨RX3, "<init>", "()V"⟩
abbrev cX3_mix : ByteArray := prog_5_method_2_code
def yX3_mix : MethodName := ⟨RX3, "mix", "(LTestVersions$Questions;ILTestVersions$Paper;)V"⟩
abbrev cX3_listUnits : ByteArray := prog_5_method_3_code
def yX3_listUnits : MethodName := ⟨RX3, "listUnits", "(LTestVersions$Questions;)I"⟩
abbrev cX3_mixUnit : ByteArray := prog_5_method_4_code
def yX3_mixUnit : MethodName := ⟨RX3, "mixUnit", "(LTestVersions$Questions;ILTestVersions$Paper;)V"⟩
abbrev cX3_mixChoices : ByteArray := prog_5_method_5_code
def yX3_mixChoices : MethodName := ⟨RX3, "mixChoices", "(LTestVersions$Questions;ILTestVersions$Paper;)V"⟩
abbrev cX3_listLoose : ByteArray := prog_5_method_6_code
def yX3_listLoose : MethodName := ⟨RX3, "listLoose", "(II)I"⟩
def RX4 : String := "TestVersions$Paper"
def TX4 : u_T := fun k => match k with
  | 0 => ("TestVersions$Paper", "order", "LTestVersions$Row;", true)
  | 1 => ("TestVersions$Paper", "places", "LTestVersions$Row;", true)
  | 2 => ("TestVersions$Paper", "keys", "LTestVersions$Row;", true)
  | 3 => ("TestVersions$Paper", "choices", "LTestVersions$Row;", true)
  | 4 => ("TestVersions$Paper", "layout", "LTestVersions$Layout;", true)
  | 5 => ("TestVersions$Paper", "count", "I", false)
  | _ => ("TestVersions$Paper", "upToDate", "Z", false)
def tyX4 : Nat → FieldType := fun k => match k with
  | 0 => .object "TestVersions$Row"
  | 1 => .object "TestVersions$Row"
  | 2 => .object "TestVersions$Row"
  | 3 => .object "TestVersions$Row"
  | 4 => .object "TestVersions$Layout"
  | 5 => .int
  | _ => .boolean
abbrev wsX40 : List Cond := u_ws RX4 TX4 7
theorem nmX4 : ∀ a, a < 7 → ∀ b, b < 7 → a ≠ b → (TX4 a).2.1 ≠ (TX4 b).2.1 := by decide +kernel
theorem tyX4_ok : ∀ k, k < 7 → parseFieldDescriptor (TX4 k).2.2.1 = some (tyX4 k) := by decide +kernel
abbrev cX4_init : ByteArray := prog_6_method_1_code
def yX4_init : MethodName := ⟨RX4, "<init>", "()V"⟩
abbrev cX4_hasPlace : ByteArray := prog_6_method_2_code
def yX4_hasPlace : MethodName := ⟨RX4, "hasPlace", "(I)Z"⟩
abbrev cX4_append : ByteArray := prog_6_method_3_code
def yX4_append : MethodName := ⟨RX4, "append", "(I)V"⟩
abbrev cX4_choiceAt : ByteArray := prog_6_method_4_code
def yX4_choiceAt : MethodName := ⟨RX4, "choiceAt", "(II)I"⟩
abbrev cX4_putChoice : ByteArray := prog_6_method_5_code
def yX4_putChoice : MethodName := ⟨RX4, "putChoice", "(III)V"⟩
abbrev cX4_number : ByteArray := prog_6_method_6_code
def yX4_number : MethodName := ⟨RX4, "number", "(II)I"⟩
abbrev cX4_neighborsIn : ByteArray := prog_6_method_7_code
def yX4_neighborsIn : MethodName := ⟨RX4, "neighborsIn", "(LTestVersions$Paper;)I"⟩
def RX5 : String := "TestVersions$Questions"
def TX5 : u_T := fun k => match k with
  | 0 => ("TestVersions$Questions", "numbers", "LTestVersions$Row;", true)
  | _ => ("TestVersions$Questions", "count", "I", false)
def tyX5 : Nat → FieldType := fun k => match k with
  | 0 => .object "TestVersions$Row"
  | _ => .int
abbrev wsX50 : List Cond := u_ws RX5 TX5 2
theorem nmX5 : ∀ a, a < 2 → ∀ b, b < 2 → a ≠ b → (TX5 a).2.1 ≠ (TX5 b).2.1 := by decide +kernel
theorem tyX5_ok : ∀ k, k < 2 → parseFieldDescriptor (TX5 k).2.2.1 = some (tyX5 k) := by decide +kernel
abbrev cX5_init : ByteArray := prog_7_method_1_code
def yX5_init : MethodName := ⟨RX5, "<init>", "()V"⟩
abbrev cX5_allows : ByteArray := prog_7_method_2_code
def yX5_allows : MethodName := ⟨RX5, "allows", "(III)Z"⟩
abbrev cX5_has : ByteArray := prog_7_method_3_code
def yX5_has : MethodName := ⟨RX5, "has", "(I)Z"⟩
abbrev cX5_number : ByteArray := prog_7_method_4_code
def yX5_number : MethodName := ⟨RX5, "number", "(II)I"⟩
abbrev cX5_put : ByteArray := prog_7_method_5_code
def yX5_put : MethodName := ⟨RX5, "put", "(III)V"⟩
abbrev cX5_append : ByteArray := prog_7_method_6_code
def yX5_append : MethodName := ⟨RX5, "append", "(IIIII)I"⟩
abbrev cX5_delete : ByteArray := prog_7_method_7_code
def yX5_delete : MethodName := ⟨RX5, "delete", "(I)V"⟩
abbrev cX5_together : ByteArray := prog_7_method_8_code
def yX5_together : MethodName := ⟨RX5, "together", "(II)Z"⟩
abbrev cX5_isFirstOfUnit : ByteArray := prog_7_method_9_code
def yX5_isFirstOfUnit : MethodName := ⟨RX5, "isFirstOfUnit", "(I)Z"⟩
abbrev cX5_copy : ByteArray := prog_7_method_10_code
def yX5_copy : MethodName := ⟨RX5, "copy", "(LTestVersions$Questions;)V"⟩
def RX6 : String := "TestVersions$Row"
def TX6 : u_T := fun k => match k with
  | _ => ("TestVersions$Row", "cells", "[I", true)
def tyX6 : Nat → FieldType := fun k => match k with
  | _ => .array .int
abbrev wsX60 : List Cond := u_ws RX6 TX6 1
theorem nmX6 : ∀ a, a < 1 → ∀ b, b < 1 → a ≠ b → (TX6 a).2.1 ≠ (TX6 b).2.1 := by decide +kernel
theorem tyX6_ok : ∀ k, k < 1 → parseFieldDescriptor (TX6 k).2.2.1 = some (tyX6 k) := by decide +kernel
abbrev cX6_init : ByteArray := prog_8_method_1_code
def yX6_init : MethodName := ⟨RX6, "<init>", "(I)V"⟩
abbrev cX6_get : ByteArray := prog_8_method_2_code
def yX6_get : MethodName := ⟨RX6, "get", "(I)I"⟩
abbrev cX6_set : ByteArray := prog_8_method_3_code
def yX6_set : MethodName := ⟨RX6, "set", "(II)V"⟩
abbrev cX6_exchange : ByteArray := prog_8_method_4_code
def yX6_exchange : MethodName := ⟨RX6, "exchange", "(II)V"⟩
abbrev cX6_copy : ByteArray := prog_8_method_5_code
def yX6_copy : MethodName := ⟨RX6, "copy", "(LTestVersions$Row;)V"⟩
abbrev cX6_countSame : ByteArray := prog_8_method_6_code
def yX6_countSame : MethodName := ⟨RX6, "countSame", "(LTestVersions$Row;I)I"⟩
def RX7 : String := "TestVersions$Sheets"
def TX7 : u_T := fun k => match k with
  | 0 => ("TestVersions$Sheets", "versions", "LTestVersions$Row;", true)
  | 1 => ("TestVersions$Sheets", "rights", "LTestVersions$Row;", true)
  | 2 => ("TestVersions$Sheets", "wrongs", "LTestVersions$Row;", true)
  | 3 => ("TestVersions$Sheets", "marks", "LTestVersions$Row;", true)
  | 4 => ("TestVersions$Sheets", "picks", "LTestVersions$Row;", true)
  | _ => ("TestVersions$Sheets", "count", "I", false)
def tyX7 : Nat → FieldType := fun k => match k with
  | 0 => .object "TestVersions$Row"
  | 1 => .object "TestVersions$Row"
  | 2 => .object "TestVersions$Row"
  | 3 => .object "TestVersions$Row"
  | 4 => .object "TestVersions$Row"
  | _ => .int
abbrev wsX70 : List Cond := u_ws RX7 TX7 6
theorem nmX7 : ∀ a, a < 6 → ∀ b, b < 6 → a ≠ b → (TX7 a).2.1 ≠ (TX7 b).2.1 := by decide +kernel
theorem tyX7_ok : ∀ k, k < 6 → parseFieldDescriptor (TX7 k).2.2.1 = some (tyX7 k) := by decide +kernel
abbrev cX7_init : ByteArray := prog_9_method_1_code
def yX7_init : MethodName := ⟨RX7, "<init>", "()V"⟩
abbrev cX7_has : ByteArray := prog_9_method_2_code
def yX7_has : MethodName := ⟨RX7, "has", "(I)Z"⟩
abbrev cX7_mark : ByteArray := prog_9_method_3_code
def yX7_mark : MethodName := ⟨RX7, "mark", "(II)I"⟩
abbrev cX7_pick : ByteArray := prog_9_method_4_code
def yX7_pick : MethodName := ⟨RX7, "pick", "(II)I"⟩
abbrev cX7_append : ByteArray := prog_9_method_5_code
def yX7_append : MethodName := ⟨RX7, "append", "(ILTestVersions$Paper;LTestVersions$Row;)I"⟩
abbrev cX7_points : ByteArray := prog_9_method_6_code
def yX7_points : MethodName := ⟨RX7, "points", "(I)I"⟩
abbrev cX7_number : ByteArray := prog_9_method_7_code
def yX7_number : MethodName := ⟨RX7, "number", "(II)I"⟩
abbrev cX7_betterThan : ByteArray := prog_9_method_8_code
def yX7_betterThan : MethodName := ⟨RX7, "betterThan", "(I)I"⟩
abbrev cX7_standing : ByteArray := prog_9_method_9_code
def yX7_standing : MethodName := ⟨RX7, "standing", "(I)I"⟩
abbrev cX7_pickers : ByteArray := prog_9_method_10_code
def yX7_pickers : MethodName := ⟨RX7, "pickers", "(II)I"⟩
abbrev cX7_copy : ByteArray := prog_9_method_11_code
def yX7_copy : MethodName := ⟨RX7, "copy", "(LTestVersions$Sheets;)V"⟩
def RX8 : String := "TestVersions$State"
def TX8 : u_T := fun k => match k with
  | 0 => ("TestVersions$State", "questions", "LTestVersions$Questions;", true)
  | 1 => ("TestVersions$State", "seeds", "LTestVersions$Row;", true)
  | 2 => ("TestVersions$State", "sheets", "LTestVersions$Sheets;", true)
  | 3 => ("TestVersions$State", "versionCount", "I", false)
  | _ => ("TestVersions$State", "lines", "I", false)
def tyX8 : Nat → FieldType := fun k => match k with
  | 0 => .object "TestVersions$Questions"
  | 1 => .object "TestVersions$Row"
  | 2 => .object "TestVersions$Sheets"
  | 3 => .int
  | _ => .int
abbrev wsX80 : List Cond := u_ws RX8 TX8 5
theorem nmX8 : ∀ a, a < 5 → ∀ b, b < 5 → a ≠ b → (TX8 a).2.1 ≠ (TX8 b).2.1 := by decide +kernel
theorem tyX8_ok : ∀ k, k < 5 → parseFieldDescriptor (TX8 k).2.2.1 = some (tyX8 k) := by decide +kernel
abbrev cX8_init : ByteArray := prog_10_method_1_code
def yX8_init : MethodName := ⟨RX8, "<init>", "()V"⟩
abbrev cX8_copy : ByteArray := prog_10_method_2_code
def yX8_copy : MethodName := ⟨RX8, "copy", "(LTestVersions$State;)V"⟩
def RX9 : String := "TestVersions"
def TX9 : u_T := fun k => match k with
  | 0 => ("TestVersions", "now", "LTestVersions$State;", true)
  | 1 => ("TestVersions", "history", "LTestVersions$History;", true)
  | 2 => ("TestVersions", "mixer", "LTestVersions$Mixer;", true)
  | 3 => ("TestVersions", "papers", "[LTestVersions$Paper;", true)
  | 4 => ("TestVersions", "candidate", "LTestVersions$Paper;", true)
  | 5 => ("TestVersions", "guesses", "LTestVersions$Lots;", true)
  | 6 => ("TestVersions", "draft", "LTestVersions$Row;", true)
  | 7 => ("TestVersions", "typed", "LTestVersions$Row;", true)
  | _ => ("TestVersions", "typedCount", "I", false)
def tyX9 : Nat → FieldType := fun k => match k with
  | 0 => .object "TestVersions$State"
  | 1 => .object "TestVersions$History"
  | 2 => .object "TestVersions$Mixer"
  | 3 => .array (.object "TestVersions$Paper")
  | 4 => .object "TestVersions$Paper"
  | 5 => .object "TestVersions$Lots"
  | 6 => .object "TestVersions$Row"
  | 7 => .object "TestVersions$Row"
  | _ => .int
abbrev wsX90 : List Cond := u_ws RX9 TX9 9
theorem nmX9 : ∀ a, a < 9 → ∀ b, b < 9 → a ≠ b → (TX9 a).2.1 ≠ (TX9 b).2.1 := by decide +kernel
theorem tyX9_ok : ∀ k, k < 9 → parseFieldDescriptor (TX9 k).2.2.1 = some (tyX9 k) := by decide +kernel
abbrev cX9_init : ByteArray := prog_1_method_1_code
def yX9_init : MethodName := ⟨RX9, "<init>", "()V"⟩
abbrev cX9_add : ByteArray := prog_1_method_2_code
def yX9_add : MethodName := ⟨RX9, "add", "(IIIII)I"⟩
abbrev cX9_remove : ByteArray := prog_1_method_3_code
def yX9_remove : MethodName := ⟨RX9, "remove", "(I)I"⟩
abbrev cX9_change : ByteArray := prog_1_method_4_code
def yX9_change : MethodName := ⟨RX9, "change", "(III)I"⟩
abbrev cX9_question : ByteArray := prog_1_method_5_code
def yX9_question : MethodName := ⟨RX9, "question", "(II)I"⟩
abbrev cX9_questions : ByteArray := prog_1_method_6_code
def yX9_questions : MethodName := ⟨RX9, "questions", "()I"⟩
abbrev cX9_version : ByteArray := prog_1_method_7_code
def yX9_version : MethodName := ⟨RX9, "version", "(I)I"⟩
abbrev cX9_drop : ByteArray := prog_1_method_8_code
def yX9_drop : MethodName := ⟨RX9, "drop", "()J"⟩
abbrev cX9_versions : ByteArray := prog_1_method_9_code
def yX9_versions : MethodName := ⟨RX9, "versions", "()I"⟩
abbrev cX9_at : ByteArray := prog_1_method_10_code
def yX9_at : MethodName := ⟨RX9, "at", "(III)I"⟩
abbrev cX9_where : ByteArray := prog_1_method_11_code
def yX9_where : MethodName := ⟨RX9, "where", "(II)I"⟩
abbrev cX9_choice : ByteArray := prog_1_method_12_code
def yX9_choice : MethodName := ⟨RX9, "choice", "(III)I"⟩
abbrev cX9_alike : ByteArray := prog_1_method_13_code
def yX9_alike : MethodName := ⟨RX9, "alike", "(III)I"⟩
abbrev cX9_unlike : ByteArray := prog_1_method_14_code
def yX9_unlike : MethodName := ⟨RX9, "unlike", "(II)J"⟩
abbrev cX9_setLines : ByteArray := prog_1_method_15_code
def yX9_setLines : MethodName := ⟨RX9, "setLines", "(I)I"⟩
abbrev cX9_pages : ByteArray := prog_1_method_16_code
def yX9_pages : MethodName := ⟨RX9, "pages", "(I)I"⟩
abbrev cX9_page : ByteArray := prog_1_method_17_code
def yX9_page : MethodName := ⟨RX9, "page", "(III)I"⟩
abbrev cX9_type : ByteArray := prog_1_method_18_code
def yX9_type : MethodName := ⟨RX9, "type", "(I)I"⟩
abbrev cX9_clear : ByteArray := prog_1_method_19_code
def yX9_clear : MethodName := ⟨RX9, "clear", "()I"⟩
abbrev cX9_sheet : ByteArray := prog_1_method_20_code
def yX9_sheet : MethodName := ⟨RX9, "sheet", "(I)I"⟩
abbrev cX9_guess : ByteArray := prog_1_method_21_code
def yX9_guess : MethodName := ⟨RX9, "guess", "(III)I"⟩
abbrev cX9_forget : ByteArray := prog_1_method_22_code
def yX9_forget : MethodName := ⟨RX9, "forget", "()I"⟩
abbrev cX9_result : ByteArray := prog_1_method_23_code
def yX9_result : MethodName := ⟨RX9, "result", "(II)I"⟩
abbrev cX9_answer : ByteArray := prog_1_method_24_code
def yX9_answer : MethodName := ⟨RX9, "answer", "(II)I"⟩
abbrev cX9_about : ByteArray := prog_1_method_25_code
def yX9_about : MethodName := ⟨RX9, "about", "(II)I"⟩
abbrev cX9_parting : ByteArray := prog_1_method_26_code
def yX9_parting : MethodName := ⟨RX9, "parting", "(I)F"⟩
abbrev cX9_mean : ByteArray := prog_1_method_27_code
def yX9_mean : MethodName := ⟨RX9, "mean", "()F"⟩
abbrev cX9_sameWrong : ByteArray := prog_1_method_28_code
def yX9_sameWrong : MethodName := ⟨RX9, "sameWrong", "(II)I"⟩
abbrev cX9_suspects : ByteArray := prog_1_method_29_code
def yX9_suspects : MethodName := ⟨RX9, "suspects", "()I"⟩
abbrev cX9_mistaken : ByteArray := prog_1_method_30_code
def yX9_mistaken : MethodName := ⟨RX9, "mistaken", "(II)I"⟩
abbrev cX9_undo : ByteArray := prog_1_method_31_code
def yX9_undo : MethodName := ⟨RX9, "undo", "()I"⟩
abbrev cX9_fingerprint : ByteArray := prog_1_method_32_code
def yX9_fingerprint : MethodName := ⟨RX9, "fingerprint", "()J"⟩
abbrev cX9_beginChange : ByteArray := prog_1_method_33_code
def yX9_beginChange : MethodName := ⟨RX9, "beginChange", "()V"⟩
abbrev cX9_outdatePapers : ByteArray := prog_1_method_34_code
def yX9_outdatePapers : MethodName := ⟨RX9, "outdatePapers", "()V"⟩
abbrev cX9_paperOf : ByteArray := prog_1_method_35_code
def yX9_paperOf : MethodName := ⟨RX9, "paperOf", "(I)LTestVersions$Paper;"⟩
abbrev cX9_choicesAt : ByteArray := prog_1_method_36_code
def yX9_choicesAt : MethodName := ⟨RX9, "choicesAt", "(LTestVersions$Paper;I)I"⟩
abbrev cX9_mostSameKeys : ByteArray := prog_1_method_37_code
def yX9_mostSameKeys : MethodName := ⟨RX9, "mostSameKeys", "(I)I"⟩
abbrev cX9_readTyped : ByteArray := prog_1_method_38_code
def yX9_readTyped : MethodName := ⟨RX9, "readTyped", "(LTestVersions$Paper;)I"⟩
abbrev cX9_markOf : ByteArray := prog_1_method_39_code
def yX9_markOf : MethodName := ⟨RX9, "markOf", "(II)I"⟩
abbrev cX9_handIn : ByteArray := prog_1_method_40_code
def yX9_handIn : MethodName := ⟨RX9, "handIn", "(ILTestVersions$Paper;)I"⟩
abbrev cX9_favoriteWrong : ByteArray := prog_1_method_41_code
def yX9_favoriteWrong : MethodName := ⟨RX9, "favoriteWrong", "(II)I"⟩
abbrev cX9_countSameWrong : ByteArray := prog_1_method_42_code
def yX9_countSameWrong : MethodName := ⟨RX9, "countSameWrong", "(II)I"⟩
abbrev cX9_printQuestions : ByteArray := prog_1_method_43_code
def yX9_printQuestions : MethodName := ⟨RX9, "printQuestions", "(J)J"⟩
abbrev cX9_printVersions : ByteArray := prog_1_method_44_code
def yX9_printVersions : MethodName := ⟨RX9, "printVersions", "(J)J"⟩
abbrev cX9_printSheets : ByteArray := prog_1_method_45_code
def yX9_printSheets : MethodName := ⟨RX9, "printSheets", "(J)J"⟩
def RX10 : String := "TestVersionsModel"
def TX10 : u_T := fun k => match k with
  | _ => ("", "", "", false)
def tyX10 : Nat → FieldType := fun k => match k with
  | _ => .int
abbrev wsX100 : List Cond := u_ws RX10 TX10 0
theorem nmX10 : ∀ a, a < 0 → ∀ b, b < 0 → a ≠ b → (TX10 a).2.1 ≠ (TX10 b).2.1 := by decide +kernel
theorem tyX10_ok : ∀ k, k < 0 → parseFieldDescriptor (TX10 k).2.2.1 = some (tyX10 k) := by decide +kernel
def RJ9 : String := "java/lang/Math"
def TJ9 : u_T := fun k => match k with
  | _ => ("", "", "", false)
def tyJ9 : Nat → FieldType := fun k => match k with
  | _ => .int
abbrev wsJ90 : List Cond := u_ws RJ9 TJ9 0
theorem nmJ9 : ∀ a, a < 0 → ∀ b, b < 0 → a ≠ b → (TJ9 a).2.1 ≠ (TJ9 b).2.1 := by decide +kernel
theorem tyJ9_ok : ∀ k, k < 0 → parseFieldDescriptor (TJ9 k).2.2.1 = some (tyJ9 k) := by decide +kernel
abbrev cJ9_max_7cf53 : ByteArray := prog_13_method_65_code
def yJ9_max_7cf53 : MethodName := ⟨RJ9, "max", "(II)I"⟩
abbrev cJ9_min_7cf53 : ByteArray := prog_13_method_69_code
def yJ9_min_7cf53 : MethodName := ⟨RJ9, "min", "(II)I"⟩
def RJ10 : String := "java/lang/System"
def TJ10 : u_T := fun k => match k with
  | _ => ("", "", "", false)
def tyJ10 : Nat → FieldType := fun k => match k with
  | _ => .int
abbrev wsJ100 : List Cond := u_ws RJ10 TJ10 0
theorem nmJ10 : ∀ a, a < 0 → ∀ b, b < 0 → a ≠ b → (TJ10 a).2.1 ≠ (TJ10 b).2.1 := by decide +kernel
theorem tyJ10_ok : ∀ k, k < 0 → parseFieldDescriptor (TJ10 k).2.2.1 = some (tyJ10 k) := by decide +kernel
def RL : String := "TestVersionsLaw"
abbrev cL_cell : ByteArray := method_2_code
def yL_cell : MethodName := ⟨RL, "cell", "([II)I"⟩
abbrev cL_up : ByteArray := method_3_code
def yL_up : MethodName := ⟨RL, "up", "(II)I"⟩
abbrev cL_fails : ByteArray := method_4_code
def yL_fails : MethodName := ⟨RL, "fails", "(LTestVersions;III)Z"⟩
abbrev cL_version : ByteArray := method_5_code
def yL_version : MethodName := ⟨RL, "version", "(LTestVersions;II)Z"⟩
abbrev cL_pages : ByteArray := method_6_code
def yL_pages : MethodName := ⟨RL, "pages", "(LTestVersions;II)Z"⟩
abbrev cL_sheets : ByteArray := method_7_code
def yL_sheets : MethodName := ⟨RL, "sheets", "(LTestVersions;II)Z"⟩
abbrev cL_law : ByteArray := code
def yL_law : MethodName := ⟨RL, "law", "([I)Z"⟩
abbrev vwCl : List vw_C := [(RX0, TX0, 3), (RX1, TX1, 7), (RX2, TX2, 1), (RX3, TX3, 4), (RX4, TX4, 7), (RX5, TX5, 2), (RX6, TX6, 1), (RX7, TX7, 6), (RX8, TX8, 5), (RX9, TX9, 9)]
